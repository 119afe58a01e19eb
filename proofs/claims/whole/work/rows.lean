section
-- ===== PART A: goes FIRST, ahead of the names: the tables' words, and 'selects' of the private methods out of them =====
/-- a private method of a class that the tables say can be made, by its rows of tables_1 -/
def lw_okq (q : MethodName × Nat) : Prop := (q.1.cls ≠ "java/lang/invoke/MethodHandle" ∧ q.1.cls ≠ "java/lang/invoke/VarHandle") ∧ Cond.instantiable q.1.cls q.2 ∈ tables_1 ∧ Cond.privateMethod q.1 ∈ tables_1 ∧ Cond.instanceMethod q.1 ∈ tables_1
theorem lw_p0 : lw_okq (⟨"HeldTowns$Page", "dueBehind", "(I)I"⟩, 5) := ⟨⟨by decide +kernel, by decide +kernel⟩, List.mem_of_getElem? (i := 23) (by decide +kernel), List.mem_of_getElem? (i := 218) (by decide +kernel), List.mem_of_getElem? (i := 219) (by decide +kernel)⟩
theorem lw_p1 : lw_okq (⟨"HeldTowns$Page", "behindBase", "(I)I"⟩, 5) := ⟨⟨by decide +kernel, by decide +kernel⟩, List.mem_of_getElem? (i := 23) (by decide +kernel), List.mem_of_getElem? (i := 222) (by decide +kernel), List.mem_of_getElem? (i := 223) (by decide +kernel)⟩
theorem lw_p2 : lw_okq (⟨"HeldTowns$Page", "behindBaseSign", "(I)I"⟩, 5) := ⟨⟨by decide +kernel, by decide +kernel⟩, List.mem_of_getElem? (i := 23) (by decide +kernel), List.mem_of_getElem? (i := 229) (by decide +kernel), List.mem_of_getElem? (i := 230) (by decide +kernel)⟩
theorem lw_p3 : lw_okq (⟨"HeldTowns$Page", "behindPlace", "(I)I"⟩, 5) := ⟨⟨by decide +kernel, by decide +kernel⟩, List.mem_of_getElem? (i := 23) (by decide +kernel), List.mem_of_getElem? (i := 320) (by decide +kernel), List.mem_of_getElem? (i := 321) (by decide +kernel)⟩
theorem lw_p4 : lw_okq (⟨"HeldTowns$Page", "digitAt", "(I)I"⟩, 5) := ⟨⟨by decide +kernel, by decide +kernel⟩, List.mem_of_getElem? (i := 23) (by decide +kernel), List.mem_of_getElem? (i := 344) (by decide +kernel), List.mem_of_getElem? (i := 345) (by decide +kernel)⟩
theorem lw_p5 : lw_okq (⟨"HeldTowns$Page", "kindAt", "(I)I"⟩, 5) := ⟨⟨by decide +kernel, by decide +kernel⟩, List.mem_of_getElem? (i := 23) (by decide +kernel), List.mem_of_getElem? (i := 348) (by decide +kernel), List.mem_of_getElem? (i := 349) (by decide +kernel)⟩
theorem lw_p6 : lw_okq (⟨"HeldTowns", "isWeight", "(I)Z"⟩, 10) := ⟨⟨by decide +kernel, by decide +kernel⟩, List.mem_of_getElem? (i := 15) (by decide +kernel), List.mem_of_getElem? (i := 356) (by decide +kernel), List.mem_of_getElem? (i := 357) (by decide +kernel)⟩
theorem lw_p7 : lw_okq (⟨"HeldTowns$Seen", "fillHolds", "(LHeldTowns$Land;II)V"⟩, 6) := ⟨⟨by decide +kernel, by decide +kernel⟩, List.mem_of_getElem? (i := 112) (by decide +kernel), List.mem_of_getElem? (i := 387) (by decide +kernel), List.mem_of_getElem? (i := 388) (by decide +kernel)⟩
theorem lw_p8 : lw_okq (⟨"HeldTowns$Seen", "leftAtWorst", "(II)I"⟩, 6) := ⟨⟨by decide +kernel, by decide +kernel⟩, List.mem_of_getElem? (i := 112) (by decide +kernel), List.mem_of_getElem? (i := 391) (by decide +kernel), List.mem_of_getElem? (i := 392) (by decide +kernel)⟩
theorem lw_p9 : lw_okq (⟨"HeldTowns", "isVillage", "(I)Z"⟩, 10) := ⟨⟨by decide +kernel, by decide +kernel⟩, List.mem_of_getElem? (i := 15) (by decide +kernel), List.mem_of_getElem? (i := 413) (by decide +kernel), List.mem_of_getElem? (i := 414) (by decide +kernel)⟩
theorem lw_p10 : lw_okq (⟨"HeldTowns", "hasTable", "()Z"⟩, 10) := ⟨⟨by decide +kernel, by decide +kernel⟩, List.mem_of_getElem? (i := 15) (by decide +kernel), List.mem_of_getElem? (i := 447) (by decide +kernel), List.mem_of_getElem? (i := 448) (by decide +kernel)⟩
theorem lw_p11 : lw_okq (⟨"HeldTowns$Land", "slide", "(II)V"⟩, 11) := ⟨⟨by decide +kernel, by decide +kernel⟩, List.mem_of_getElem? (i := 48) (by decide +kernel), List.mem_of_getElem? (i := 456) (by decide +kernel), List.mem_of_getElem? (i := 457) (by decide +kernel)⟩
theorem lw_p12 : lw_okq (⟨"HeldTowns$Land", "weather", "(I)V"⟩, 11) := ⟨⟨by decide +kernel, by decide +kernel⟩, List.mem_of_getElem? (i := 48) (by decide +kernel), List.mem_of_getElem? (i := 464) (by decide +kernel), List.mem_of_getElem? (i := 465) (by decide +kernel)⟩
theorem lw_p13 : lw_okq (⟨"HeldTowns$Land", "holdIfPut", "(IIII)I"⟩, 11) := ⟨⟨by decide +kernel, by decide +kernel⟩, List.mem_of_getElem? (i := 48) (by decide +kernel), List.mem_of_getElem? (i := 498) (by decide +kernel), List.mem_of_getElem? (i := 499) (by decide +kernel)⟩
theorem lw_p14 : lw_okq (⟨"HeldTowns$Packing", "weigh", "(LHeldTowns$Land;I)V"⟩, 6) := ⟨⟨by decide +kernel, by decide +kernel⟩, List.mem_of_getElem? (i := 139) (by decide +kernel), List.mem_of_getElem? (i := 514) (by decide +kernel), List.mem_of_getElem? (i := 515) (by decide +kernel)⟩
theorem lw_p15 : lw_okq (⟨"HeldTowns$Packing", "chooseFrom", "(LHeldTowns$Land;IIIII)V"⟩, 6) := ⟨⟨by decide +kernel, by decide +kernel⟩, List.mem_of_getElem? (i := 139) (by decide +kernel), List.mem_of_getElem? (i := 520) (by decide +kernel), List.mem_of_getElem? (i := 521) (by decide +kernel)⟩
def lw_privs_1 : List (MethodName × Nat) := [(⟨"HeldTowns$Page", "dueBehind", "(I)I"⟩, 5), (⟨"HeldTowns$Page", "behindBase", "(I)I"⟩, 5), (⟨"HeldTowns$Page", "behindBaseSign", "(I)I"⟩, 5), (⟨"HeldTowns$Page", "behindPlace", "(I)I"⟩, 5), (⟨"HeldTowns$Page", "digitAt", "(I)I"⟩, 5), (⟨"HeldTowns$Page", "kindAt", "(I)I"⟩, 5), (⟨"HeldTowns", "isWeight", "(I)Z"⟩, 10), (⟨"HeldTowns$Seen", "fillHolds", "(LHeldTowns$Land;II)V"⟩, 6), (⟨"HeldTowns$Seen", "leftAtWorst", "(II)I"⟩, 6), (⟨"HeldTowns", "isVillage", "(I)Z"⟩, 10), (⟨"HeldTowns", "hasTable", "()Z"⟩, 10), (⟨"HeldTowns$Land", "slide", "(II)V"⟩, 11), (⟨"HeldTowns$Land", "weather", "(I)V"⟩, 11), (⟨"HeldTowns$Land", "holdIfPut", "(IIII)I"⟩, 11), (⟨"HeldTowns$Packing", "weigh", "(LHeldTowns$Land;I)V"⟩, 6), (⟨"HeldTowns$Packing", "chooseFrom", "(LHeldTowns$Land;IIIII)V"⟩, 6)]
theorem lw_r1 : ∀ q ∈ lw_privs_1, lw_okq q := List.forall_mem_cons.mpr ⟨lw_p0, List.forall_mem_cons.mpr ⟨lw_p1, List.forall_mem_cons.mpr ⟨lw_p2, List.forall_mem_cons.mpr ⟨lw_p3, List.forall_mem_cons.mpr ⟨lw_p4, List.forall_mem_cons.mpr ⟨lw_p5, List.forall_mem_cons.mpr ⟨lw_p6, List.forall_mem_cons.mpr ⟨lw_p7, List.forall_mem_cons.mpr ⟨lw_p8, List.forall_mem_cons.mpr ⟨lw_p9, List.forall_mem_cons.mpr ⟨lw_p10, List.forall_mem_cons.mpr ⟨lw_p11, List.forall_mem_cons.mpr ⟨lw_p12, List.forall_mem_cons.mpr ⟨lw_p13, List.forall_mem_cons.mpr ⟨lw_p14, List.forall_mem_cons.mpr ⟨lw_p15, fun _ h => absurd h List.not_mem_nil⟩⟩⟩⟩⟩⟩⟩⟩⟩⟩⟩⟩⟩⟩⟩⟩
theorem lw_p16 : lw_okq (⟨"HeldTowns$Packing", "keepIfBetter", "(II)V"⟩, 6) := ⟨⟨by decide +kernel, by decide +kernel⟩, List.mem_of_getElem? (i := 139) (by decide +kernel), List.mem_of_getElem? (i := 524) (by decide +kernel), List.mem_of_getElem? (i := 525) (by decide +kernel)⟩
theorem lw_p17 : lw_okq (⟨"HeldTowns$Land", "leastOfAllIfMended", "(I)I"⟩, 11) := ⟨⟨by decide +kernel, by decide +kernel⟩, List.mem_of_getElem? (i := 48) (by decide +kernel), List.mem_of_getElem? (i := 542) (by decide +kernel), List.mem_of_getElem? (i := 543) (by decide +kernel)⟩
theorem lw_p18 : lw_okq (⟨"HeldTownsModel", "read", "()I"⟩, 50) := ⟨⟨by decide +kernel, by decide +kernel⟩, List.mem_of_getElem? (i := 629) (by decide +kernel), List.mem_of_getElem? (i := 801) (by decide +kernel), List.mem_of_getElem? (i := 802) (by decide +kernel)⟩
theorem lw_p19 : lw_okq (⟨"HeldTownsModel", "isFigure", "(III)Z"⟩, 50) := ⟨⟨by decide +kernel, by decide +kernel⟩, List.mem_of_getElem? (i := 629) (by decide +kernel), List.mem_of_getElem? (i := 805) (by decide +kernel), List.mem_of_getElem? (i := 806) (by decide +kernel)⟩
theorem lw_p20 : lw_okq (⟨"HeldTownsModel", "at", "(I)I"⟩, 50) := ⟨⟨by decide +kernel, by decide +kernel⟩, List.mem_of_getElem? (i := 629) (by decide +kernel), List.mem_of_getElem? (i := 809) (by decide +kernel), List.mem_of_getElem? (i := 810) (by decide +kernel)⟩
theorem lw_p21 : lw_okq (⟨"HeldTownsModel", "readWeights", "(I)I"⟩, 50) := ⟨⟨by decide +kernel, by decide +kernel⟩, List.mem_of_getElem? (i := 629) (by decide +kernel), List.mem_of_getElem? (i := 813) (by decide +kernel), List.mem_of_getElem? (i := 814) (by decide +kernel)⟩
theorem lw_p22 : lw_okq (⟨"HeldTownsModel", "isWeight", "(I)Z"⟩, 50) := ⟨⟨by decide +kernel, by decide +kernel⟩, List.mem_of_getElem? (i := 629) (by decide +kernel), List.mem_of_getElem? (i := 828) (by decide +kernel), List.mem_of_getElem? (i := 829) (by decide +kernel)⟩
theorem lw_p23 : lw_okq (⟨"HeldTownsModel", "weightNow", "(II)I"⟩, 50) := ⟨⟨by decide +kernel, by decide +kernel⟩, List.mem_of_getElem? (i := 629) (by decide +kernel), List.mem_of_getElem? (i := 832) (by decide +kernel), List.mem_of_getElem? (i := 833) (by decide +kernel)⟩
theorem lw_p24 : lw_okq (⟨"HeldTownsModel", "bears", "(I)I"⟩, 50) := ⟨⟨by decide +kernel, by decide +kernel⟩, List.mem_of_getElem? (i := 629) (by decide +kernel), List.mem_of_getElem? (i := 836) (by decide +kernel), List.mem_of_getElem? (i := 837) (by decide +kernel)⟩
theorem lw_p25 : lw_okq (⟨"HeldTownsModel", "canHave", "(I)I"⟩, 50) := ⟨⟨by decide +kernel, by decide +kernel⟩, List.mem_of_getElem? (i := 629) (by decide +kernel), List.mem_of_getElem? (i := 840) (by decide +kernel), List.mem_of_getElem? (i := 841) (by decide +kernel)⟩
theorem lw_p26 : lw_okq (⟨"HeldTownsModel", "liftsWith", "(IIII)Z"⟩, 50) := ⟨⟨by decide +kernel, by decide +kernel⟩, List.mem_of_getElem? (i := 629) (by decide +kernel), List.mem_of_getElem? (i := 844) (by decide +kernel), List.mem_of_getElem? (i := 845) (by decide +kernel)⟩
theorem lw_p27 : lw_okq (⟨"HeldTownsModel", "wouldLift", "(III)Z"⟩, 50) := ⟨⟨by decide +kernel, by decide +kernel⟩, List.mem_of_getElem? (i := 629) (by decide +kernel), List.mem_of_getElem? (i := 848) (by decide +kernel), List.mem_of_getElem? (i := 849) (by decide +kernel)⟩
theorem lw_p28 : lw_okq (⟨"HeldTownsModel", "hold", "(II)I"⟩, 50) := ⟨⟨by decide +kernel, by decide +kernel⟩, List.mem_of_getElem? (i := 629) (by decide +kernel), List.mem_of_getElem? (i := 852) (by decide +kernel), List.mem_of_getElem? (i := 853) (by decide +kernel)⟩
theorem lw_p29 : lw_okq (⟨"HeldTownsModel", "waitFor", "(I)I"⟩, 50) := ⟨⟨by decide +kernel, by decide +kernel⟩, List.mem_of_getElem? (i := 629) (by decide +kernel), List.mem_of_getElem? (i := 859) (by decide +kernel), List.mem_of_getElem? (i := 860) (by decide +kernel)⟩
theorem lw_p30 : lw_okq (⟨"HeldTownsModel", "worstBy", "(IIII)I"⟩, 50) := ⟨⟨by decide +kernel, by decide +kernel⟩, List.mem_of_getElem? (i := 629) (by decide +kernel), List.mem_of_getElem? (i := 864) (by decide +kernel), List.mem_of_getElem? (i := 865) (by decide +kernel)⟩
theorem lw_p31 : lw_okq (⟨"HeldTownsModel", "isVillage", "(I)Z"⟩, 50) := ⟨⟨by decide +kernel, by decide +kernel⟩, List.mem_of_getElem? (i := 629) (by decide +kernel), List.mem_of_getElem? (i := 882) (by decide +kernel), List.mem_of_getElem? (i := 883) (by decide +kernel)⟩
def lw_privs_2 : List (MethodName × Nat) := [(⟨"HeldTowns$Packing", "keepIfBetter", "(II)V"⟩, 6), (⟨"HeldTowns$Land", "leastOfAllIfMended", "(I)I"⟩, 11), (⟨"HeldTownsModel", "read", "()I"⟩, 50), (⟨"HeldTownsModel", "isFigure", "(III)Z"⟩, 50), (⟨"HeldTownsModel", "at", "(I)I"⟩, 50), (⟨"HeldTownsModel", "readWeights", "(I)I"⟩, 50), (⟨"HeldTownsModel", "isWeight", "(I)Z"⟩, 50), (⟨"HeldTownsModel", "weightNow", "(II)I"⟩, 50), (⟨"HeldTownsModel", "bears", "(I)I"⟩, 50), (⟨"HeldTownsModel", "canHave", "(I)I"⟩, 50), (⟨"HeldTownsModel", "liftsWith", "(IIII)Z"⟩, 50), (⟨"HeldTownsModel", "wouldLift", "(III)Z"⟩, 50), (⟨"HeldTownsModel", "hold", "(II)I"⟩, 50), (⟨"HeldTownsModel", "waitFor", "(I)I"⟩, 50), (⟨"HeldTownsModel", "worstBy", "(IIII)I"⟩, 50), (⟨"HeldTownsModel", "isVillage", "(I)Z"⟩, 50)]
theorem lw_r2 : ∀ q ∈ lw_privs_2, lw_okq q := List.forall_mem_cons.mpr ⟨lw_p16, List.forall_mem_cons.mpr ⟨lw_p17, List.forall_mem_cons.mpr ⟨lw_p18, List.forall_mem_cons.mpr ⟨lw_p19, List.forall_mem_cons.mpr ⟨lw_p20, List.forall_mem_cons.mpr ⟨lw_p21, List.forall_mem_cons.mpr ⟨lw_p22, List.forall_mem_cons.mpr ⟨lw_p23, List.forall_mem_cons.mpr ⟨lw_p24, List.forall_mem_cons.mpr ⟨lw_p25, List.forall_mem_cons.mpr ⟨lw_p26, List.forall_mem_cons.mpr ⟨lw_p27, List.forall_mem_cons.mpr ⟨lw_p28, List.forall_mem_cons.mpr ⟨lw_p29, List.forall_mem_cons.mpr ⟨lw_p30, List.forall_mem_cons.mpr ⟨lw_p31, fun _ h => absurd h List.not_mem_nil⟩⟩⟩⟩⟩⟩⟩⟩⟩⟩⟩⟩⟩⟩⟩⟩
theorem lw_p32 : lw_okq (⟨"HeldTownsModel", "villageNow", "(II)I"⟩, 50) := ⟨⟨by decide +kernel, by decide +kernel⟩, List.mem_of_getElem? (i := 629) (by decide +kernel), List.mem_of_getElem? (i := 886) (by decide +kernel), List.mem_of_getElem? (i := 887) (by decide +kernel)⟩
theorem lw_p33 : lw_okq (⟨"HeldTownsModel", "stand", "(II)I"⟩, 50) := ⟨⟨by decide +kernel, by decide +kernel⟩, List.mem_of_getElem? (i := 629) (by decide +kernel), List.mem_of_getElem? (i := 890) (by decide +kernel), List.mem_of_getElem? (i := 891) (by decide +kernel)⟩
theorem lw_p34 : lw_okq (⟨"HeldTownsModel", "leastOf", "(I)I"⟩, 50) := ⟨⟨by decide +kernel, by decide +kernel⟩, List.mem_of_getElem? (i := 629) (by decide +kernel), List.mem_of_getElem? (i := 897) (by decide +kernel), List.mem_of_getElem? (i := 898) (by decide +kernel)⟩
theorem lw_p35 : lw_okq (⟨"HeldTownsModel", "there", "(I)I"⟩, 50) := ⟨⟨by decide +kernel, by decide +kernel⟩, List.mem_of_getElem? (i := 629) (by decide +kernel), List.mem_of_getElem? (i := 901) (by decide +kernel), List.mem_of_getElem? (i := 902) (by decide +kernel)⟩
theorem lw_p36 : lw_okq (⟨"HeldTownsModel", "ouncesIn", "(I)I"⟩, 50) := ⟨⟨by decide +kernel, by decide +kernel⟩, List.mem_of_getElem? (i := 629) (by decide +kernel), List.mem_of_getElem? (i := 905) (by decide +kernel), List.mem_of_getElem? (i := 906) (by decide +kernel)⟩
theorem lw_p37 : lw_okq (⟨"HeldTownsModel", "wind", "(II)I"⟩, 50) := ⟨⟨by decide +kernel, by decide +kernel⟩, List.mem_of_getElem? (i := 629) (by decide +kernel), List.mem_of_getElem? (i := 920) (by decide +kernel), List.mem_of_getElem? (i := 921) (by decide +kernel)⟩
theorem lw_p38 : lw_okq (⟨"HeldTownsModel", "slide", "(II)V"⟩, 50) := ⟨⟨by decide +kernel, by decide +kernel⟩, List.mem_of_getElem? (i := 629) (by decide +kernel), List.mem_of_getElem? (i := 924) (by decide +kernel), List.mem_of_getElem? (i := 925) (by decide +kernel)⟩
theorem lw_p39 : lw_okq (⟨"HeldTownsModel", "goAway", "(I)V"⟩, 50) := ⟨⟨by decide +kernel, by decide +kernel⟩, List.mem_of_getElem? (i := 629) (by decide +kernel), List.mem_of_getElem? (i := 928) (by decide +kernel), List.mem_of_getElem? (i := 929) (by decide +kernel)⟩
theorem lw_p40 : lw_okq (⟨"HeldTownsModel", "wear", "(I)V"⟩, 50) := ⟨⟨by decide +kernel, by decide +kernel⟩, List.mem_of_getElem? (i := 629) (by decide +kernel), List.mem_of_getElem? (i := 932) (by decide +kernel), List.mem_of_getElem? (i := 933) (by decide +kernel)⟩
theorem lw_p41 : lw_okq (⟨"HeldTownsModel", "whereNow", "(III)I"⟩, 50) := ⟨⟨by decide +kernel, by decide +kernel⟩, List.mem_of_getElem? (i := 629) (by decide +kernel), List.mem_of_getElem? (i := 956) (by decide +kernel), List.mem_of_getElem? (i := 957) (by decide +kernel)⟩
theorem lw_p42 : lw_okq (⟨"HeldTownsModel", "packNow", "(II)I"⟩, 50) := ⟨⟨by decide +kernel, by decide +kernel⟩, List.mem_of_getElem? (i := 629) (by decide +kernel), List.mem_of_getElem? (i := 964) (by decide +kernel), List.mem_of_getElem? (i := 965) (by decide +kernel)⟩
theorem lw_p43 : lw_okq (⟨"HeldTownsModel", "canStand", "(III)Z"⟩, 50) := ⟨⟨by decide +kernel, by decide +kernel⟩, List.mem_of_getElem? (i := 629) (by decide +kernel), List.mem_of_getElem? (i := 968) (by decide +kernel), List.mem_of_getElem? (i := 969) (by decide +kernel)⟩
theorem lw_p44 : lw_okq (⟨"HeldTownsModel", "standsNow", "(III)Z"⟩, 50) := ⟨⟨by decide +kernel, by decide +kernel⟩, List.mem_of_getElem? (i := 629) (by decide +kernel), List.mem_of_getElem? (i := 972) (by decide +kernel), List.mem_of_getElem? (i := 973) (by decide +kernel)⟩
theorem lw_p45 : lw_okq (⟨"HeldTownsModel", "nextPlaces", "(I)Z"⟩, 50) := ⟨⟨by decide +kernel, by decide +kernel⟩, List.mem_of_getElem? (i := 629) (by decide +kernel), List.mem_of_getElem? (i := 979) (by decide +kernel), List.mem_of_getElem? (i := 980) (by decide +kernel)⟩
theorem lw_p46 : lw_okq (⟨"HeldTownsModel", "isRow", "()Z"⟩, 50) := ⟨⟨by decide +kernel, by decide +kernel⟩, List.mem_of_getElem? (i := 629) (by decide +kernel), List.mem_of_getElem? (i := 983) (by decide +kernel), List.mem_of_getElem? (i := 984) (by decide +kernel)⟩
theorem lw_p47 : lw_okq (⟨"HeldTownsModel", "nextRow", "()Z"⟩, 50) := ⟨⟨by decide +kernel, by decide +kernel⟩, List.mem_of_getElem? (i := 629) (by decide +kernel), List.mem_of_getElem? (i := 987) (by decide +kernel), List.mem_of_getElem? (i := 988) (by decide +kernel)⟩
def lw_privs_3 : List (MethodName × Nat) := [(⟨"HeldTownsModel", "villageNow", "(II)I"⟩, 50), (⟨"HeldTownsModel", "stand", "(II)I"⟩, 50), (⟨"HeldTownsModel", "leastOf", "(I)I"⟩, 50), (⟨"HeldTownsModel", "there", "(I)I"⟩, 50), (⟨"HeldTownsModel", "ouncesIn", "(I)I"⟩, 50), (⟨"HeldTownsModel", "wind", "(II)I"⟩, 50), (⟨"HeldTownsModel", "slide", "(II)V"⟩, 50), (⟨"HeldTownsModel", "goAway", "(I)V"⟩, 50), (⟨"HeldTownsModel", "wear", "(I)V"⟩, 50), (⟨"HeldTownsModel", "whereNow", "(III)I"⟩, 50), (⟨"HeldTownsModel", "packNow", "(II)I"⟩, 50), (⟨"HeldTownsModel", "canStand", "(III)Z"⟩, 50), (⟨"HeldTownsModel", "standsNow", "(III)Z"⟩, 50), (⟨"HeldTownsModel", "nextPlaces", "(I)Z"⟩, 50), (⟨"HeldTownsModel", "isRow", "()Z"⟩, 50), (⟨"HeldTownsModel", "nextRow", "()Z"⟩, 50)]
theorem lw_r3 : ∀ q ∈ lw_privs_3, lw_okq q := List.forall_mem_cons.mpr ⟨lw_p32, List.forall_mem_cons.mpr ⟨lw_p33, List.forall_mem_cons.mpr ⟨lw_p34, List.forall_mem_cons.mpr ⟨lw_p35, List.forall_mem_cons.mpr ⟨lw_p36, List.forall_mem_cons.mpr ⟨lw_p37, List.forall_mem_cons.mpr ⟨lw_p38, List.forall_mem_cons.mpr ⟨lw_p39, List.forall_mem_cons.mpr ⟨lw_p40, List.forall_mem_cons.mpr ⟨lw_p41, List.forall_mem_cons.mpr ⟨lw_p42, List.forall_mem_cons.mpr ⟨lw_p43, List.forall_mem_cons.mpr ⟨lw_p44, List.forall_mem_cons.mpr ⟨lw_p45, List.forall_mem_cons.mpr ⟨lw_p46, List.forall_mem_cons.mpr ⟨lw_p47, fun _ h => absurd h List.not_mem_nil⟩⟩⟩⟩⟩⟩⟩⟩⟩⟩⟩⟩⟩⟩⟩⟩
theorem lw_p48 : lw_okq (⟨"HeldTownsModel", "mendNow", "()I"⟩, 50) := ⟨⟨by decide +kernel, by decide +kernel⟩, List.mem_of_getElem? (i := 629) (by decide +kernel), List.mem_of_getElem? (i := 995) (by decide +kernel), List.mem_of_getElem? (i := 996) (by decide +kernel)⟩
theorem lw_p49 : lw_okq (⟨"HeldTownsModel", "leastOfAll", "()I"⟩, 50) := ⟨⟨by decide +kernel, by decide +kernel⟩, List.mem_of_getElem? (i := 629) (by decide +kernel), List.mem_of_getElem? (i := 999) (by decide +kernel), List.mem_of_getElem? (i := 1000) (by decide +kernel)⟩
theorem lw_p50 : lw_okq (⟨"HeldTownsModel", "oddsNow", "(II)I"⟩, 50) := ⟨⟨by decide +kernel, by decide +kernel⟩, List.mem_of_getElem? (i := 629) (by decide +kernel), List.mem_of_getElem? (i := 1007) (by decide +kernel), List.mem_of_getElem? (i := 1008) (by decide +kernel)⟩
theorem lw_p51 : lw_okq (⟨"HeldTownsModel", "anyLifts", "(II)Z"⟩, 50) := ⟨⟨by decide +kernel, by decide +kernel⟩, List.mem_of_getElem? (i := 629) (by decide +kernel), List.mem_of_getElem? (i := 1011) (by decide +kernel), List.mem_of_getElem? (i := 1012) (by decide +kernel)⟩
theorem lw_p52 : lw_okq (⟨"HeldTownsModel", "decadesNow", "(III)I"⟩, 50) := ⟨⟨by decide +kernel, by decide +kernel⟩, List.mem_of_getElem? (i := 629) (by decide +kernel), List.mem_of_getElem? (i := 1030) (by decide +kernel), List.mem_of_getElem? (i := 1031) (by decide +kernel)⟩
theorem lw_p53 : lw_okq (⟨"HeldTownsModel", "draw", "(I)I"⟩, 50) := ⟨⟨by decide +kernel, by decide +kernel⟩, List.mem_of_getElem? (i := 629) (by decide +kernel), List.mem_of_getElem? (i := 1034) (by decide +kernel), List.mem_of_getElem? (i := 1035) (by decide +kernel)⟩
theorem lw_p54 : lw_okq (⟨"HeldTownsModel", "onPlain", "()I"⟩, 50) := ⟨⟨by decide +kernel, by decide +kernel⟩, List.mem_of_getElem? (i := 629) (by decide +kernel), List.mem_of_getElem? (i := 1042) (by decide +kernel), List.mem_of_getElem? (i := 1043) (by decide +kernel)⟩
theorem lw_p55 : lw_okq (⟨"HeldTownsModel", "howMany", "(I)I"⟩, 50) := ⟨⟨by decide +kernel, by decide +kernel⟩, List.mem_of_getElem? (i := 629) (by decide +kernel), List.mem_of_getElem? (i := 1058) (by decide +kernel), List.mem_of_getElem? (i := 1059) (by decide +kernel)⟩
theorem lw_p56 : lw_okq (⟨"HeldTownsModel", "mix", "(J)V"⟩, 50) := ⟨⟨by decide +kernel, by decide +kernel⟩, List.mem_of_getElem? (i := 629) (by decide +kernel), List.mem_of_getElem? (i := 1067) (by decide +kernel), List.mem_of_getElem? (i := 1068) (by decide +kernel)⟩
theorem lw_p57 : lw_okq (⟨"HeldTownsModel", "mixVillage", "(I)V"⟩, 50) := ⟨⟨by decide +kernel, by decide +kernel⟩, List.mem_of_getElem? (i := 629) (by decide +kernel), List.mem_of_getElem? (i := 1072) (by decide +kernel), List.mem_of_getElem? (i := 1073) (by decide +kernel)⟩
def lw_privs_4 : List (MethodName × Nat) := [(⟨"HeldTownsModel", "mendNow", "()I"⟩, 50), (⟨"HeldTownsModel", "leastOfAll", "()I"⟩, 50), (⟨"HeldTownsModel", "oddsNow", "(II)I"⟩, 50), (⟨"HeldTownsModel", "anyLifts", "(II)Z"⟩, 50), (⟨"HeldTownsModel", "decadesNow", "(III)I"⟩, 50), (⟨"HeldTownsModel", "draw", "(I)I"⟩, 50), (⟨"HeldTownsModel", "onPlain", "()I"⟩, 50), (⟨"HeldTownsModel", "howMany", "(I)I"⟩, 50), (⟨"HeldTownsModel", "mix", "(J)V"⟩, 50), (⟨"HeldTownsModel", "mixVillage", "(I)V"⟩, 50)]
theorem lw_r4 : ∀ q ∈ lw_privs_4, lw_okq q := List.forall_mem_cons.mpr ⟨lw_p48, List.forall_mem_cons.mpr ⟨lw_p49, List.forall_mem_cons.mpr ⟨lw_p50, List.forall_mem_cons.mpr ⟨lw_p51, List.forall_mem_cons.mpr ⟨lw_p52, List.forall_mem_cons.mpr ⟨lw_p53, List.forall_mem_cons.mpr ⟨lw_p54, List.forall_mem_cons.mpr ⟨lw_p55, List.forall_mem_cons.mpr ⟨lw_p56, List.forall_mem_cons.mpr ⟨lw_p57, fun _ h => absurd h List.not_mem_nil⟩⟩⟩⟩⟩⟩⟩⟩⟩⟩
def lw_privs : List (MethodName × Nat) := lw_privs_1 ++ (lw_privs_2 ++ (lw_privs_3 ++ (lw_privs_4)))
def lw_tbl : List Cond := k2_sels lw_privs ++ tables_1
theorem lw_privs_ok : ∀ q ∈ lw_privs, lw_okq q := by
  show ∀ q ∈ lw_privs_1 ++ (lw_privs_2 ++ (lw_privs_3 ++ (lw_privs_4))), lw_okq q
  exact List.forall_mem_append.mpr ⟨lw_r1, List.forall_mem_append.mpr ⟨lw_r2, List.forall_mem_append.mpr ⟨lw_r3, lw_r4⟩⟩⟩
/-- the words that every method takes along -/
def wsG : List Cond := lw_tbl.filter goodWord
theorem wsG_in {w : Cond} (i : Nat) (h : lw_tbl[i]? = some w) (g : goodWord w = true) : w ∈ wsG := List.mem_filter.mpr ⟨List.mem_of_getElem? h, g⟩
end
section
def RX0 : String := "HeldTowns$Land"
def TX0 : u_T := fun k => match k with
  | 0 => ("HeldTowns$Land", "villages", "I", false)
  | 1 => ("HeldTowns$Land", "weights", "I", false)
  | 2 => ("HeldTowns$Land", "bases", "[I", true)
  | 3 => ("HeldTowns$Land", "kinds", "[I", true)
  | 4 => ("HeldTowns$Land", "ounces", "[I", true)
  | 5 => ("HeldTowns$Land", "homes", "[I", true)
  | 6 => ("HeldTowns$Land", "places", "[I", true)
  | 7 => ("HeldTowns$Land", "snows", "[I", true)
  | 8 => ("HeldTowns$Land", "winds", "I", false)
  | 9 => ("HeldTowns$Land", "lifted", "I", false)
  | _ => ("HeldTowns$Land", "fallen", "I", false)
def tyX0 : Nat → FieldType := fun k => match k with
  | 0 => .int
  | 1 => .int
  | 2 => .array .int
  | 3 => .array .int
  | 4 => .array .int
  | 5 => .array .int
  | 6 => .array .int
  | 7 => .array .int
  | 8 => .int
  | 9 => .int
  | _ => .int
abbrev wsX00 : List Cond := u_ws RX0 TX0 11
theorem nmX0 : ∀ a, a < 11 → ∀ b, b < 11 → a ≠ b → (TX0 a).2.1 ≠ (TX0 b).2.1 := by decide +kernel
theorem tyX0_ok : ∀ k, k < 11 → parseFieldDescriptor (TX0 k).2.2.1 = some (tyX0 k) := by decide +kernel
abbrev cX0_init : ByteArray := prog_2_method_1_code
def yX0_init : MethodName := ⟨RX0, "<init>", "()V"⟩
abbrev cX0_clear : ByteArray := prog_2_method_2_code
def yX0_clear : MethodName := ⟨RX0, "clear", "(II)V"⟩
abbrev cX0_copyFrom : ByteArray := prog_2_method_3_code
def yX0_copyFrom : MethodName := ⟨RX0, "copyFrom", "(LHeldTowns$Land;)V"⟩
abbrev cX0_holdBut : ByteArray := prog_2_method_4_code
def yX0_holdBut : MethodName := ⟨RX0, "holdBut", "(III)I"⟩
abbrev cX0_holdIfOunces : ByteArray := prog_2_method_5_code
def yX0_holdIfOunces : MethodName := ⟨RX0, "holdIfOunces", "(III)I"⟩
abbrev cX0_holdIfPut : ByteArray := prog_2_method_6_code
def yX0_holdIfPut : MethodName := ⟨RX0, "holdIfPut", "(IIII)I"⟩
abbrev cX0_leastOf : ByteArray := prog_2_method_7_code
def yX0_leastOf : MethodName := ⟨RX0, "leastOf", "(I)I"⟩
abbrev cX0_leastOfAll : ByteArray := prog_2_method_8_code
def yX0_leastOfAll : MethodName := ⟨RX0, "leastOfAll", "()I"⟩
abbrev cX0_leastIfPut : ByteArray := prog_2_method_9_code
def yX0_leastIfPut : MethodName := ⟨RX0, "leastIfPut", "(III)I"⟩
abbrev cX0_bestPlace : ByteArray := prog_2_method_10_code
def yX0_bestPlace : MethodName := ⟨RX0, "bestPlace", "(II)I"⟩
abbrev cX0_leastOfAllIfMended : ByteArray := prog_2_method_11_code
def yX0_leastOfAllIfMended : MethodName := ⟨RX0, "leastOfAllIfMended", "(I)I"⟩
abbrev cX0_bestToMend : ByteArray := prog_2_method_12_code
def yX0_bestToMend : MethodName := ⟨RX0, "bestToMend", "()I"⟩
abbrev cX0_hourlyWindsStood : ByteArray := prog_2_method_13_code
def yX0_hourlyWindsStood : MethodName := ⟨RX0, "hourlyWindsStood", "()I"⟩
abbrev cX0_weightsIn : ByteArray := prog_2_method_14_code
def yX0_weightsIn : MethodName := ⟨RX0, "weightsIn", "(I)I"⟩
abbrev cX0_weightsOnPlain : ByteArray := prog_2_method_15_code
def yX0_weightsOnPlain : MethodName := ⟨RX0, "weightsOnPlain", "()I"⟩
abbrev cX0_ouncesIn : ByteArray := prog_2_method_16_code
def yX0_ouncesIn : MethodName := ⟨RX0, "ouncesIn", "(I)I"⟩
abbrev cX0_ouncesOfAll : ByteArray := prog_2_method_17_code
def yX0_ouncesOfAll : MethodName := ⟨RX0, "ouncesOfAll", "()I"⟩
abbrev cX0_moveTo : ByteArray := prog_2_method_18_code
def yX0_moveTo : MethodName := ⟨RX0, "moveTo", "(III)V"⟩
abbrev cX0_takeWind : ByteArray := prog_2_method_19_code
def yX0_takeWind : MethodName := ⟨RX0, "takeWind", "(II)I"⟩
abbrev cX0_slide : ByteArray := prog_2_method_20_code
def yX0_slide : MethodName := ⟨RX0, "slide", "(II)V"⟩
abbrev cX0_weather : ByteArray := prog_2_method_21_code
def yX0_weather : MethodName := ⟨RX0, "weather", "(I)V"⟩
def RX1 : String := "HeldTowns$Packing"
def TX1 : u_T := fun k => match k with
  | 0 => ("HeldTowns$Packing", "best", "[I", true)
  | 1 => ("HeldTowns$Packing", "mostStanding", "I", false)
  | 2 => ("HeldTowns$Packing", "fewestOunces", "I", false)
  | 3 => ("HeldTowns$Packing", "chosen", "[I", true)
  | 4 => ("HeldTowns$Packing", "ouncesOfSet", "[I", true)
  | _ => ("HeldTowns$Packing", "holdOfSet", "[I", true)
def tyX1 : Nat → FieldType := fun k => match k with
  | 0 => .array .int
  | 1 => .int
  | 2 => .int
  | 3 => .array .int
  | 4 => .array .int
  | _ => .array .int
abbrev wsX10 : List Cond := u_ws RX1 TX1 6
theorem nmX1 : ∀ a, a < 6 → ∀ b, b < 6 → a ≠ b → (TX1 a).2.1 ≠ (TX1 b).2.1 := by decide +kernel
theorem tyX1_ok : ∀ k, k < 6 → parseFieldDescriptor (TX1 k).2.2.1 = some (tyX1 k) := by decide +kernel
abbrev cX1_init : ByteArray := prog_3_method_1_code
def yX1_init : MethodName := ⟨RX1, "<init>", "()V"⟩
abbrev cX1_search : ByteArray := prog_3_method_2_code
def yX1_search : MethodName := ⟨RX1, "search", "(LHeldTowns$Land;I)V"⟩
abbrev cX1_weigh : ByteArray := prog_3_method_3_code
def yX1_weigh : MethodName := ⟨RX1, "weigh", "(LHeldTowns$Land;I)V"⟩
abbrev cX1_chooseFrom : ByteArray := prog_3_method_4_code
def yX1_chooseFrom : MethodName := ⟨RX1, "chooseFrom", "(LHeldTowns$Land;IIIII)V"⟩
abbrev cX1_keepIfBetter : ByteArray := prog_3_method_5_code
def yX1_keepIfBetter : MethodName := ⟨RX1, "keepIfBetter", "(II)V"⟩
def RX2 : String := "HeldTowns$Page"
def TX2 : u_T := fun k => match k with
  | 0 => ("HeldTowns$Page", "letters", "[I", true)
  | 1 => ("HeldTowns$Page", "length", "I", false)
  | 2 => ("HeldTowns$Page", "villages", "I", false)
  | 3 => ("HeldTowns$Page", "weights", "I", false)
  | _ => ("HeldTowns$Page", "due", "I", false)
def tyX2 : Nat → FieldType := fun k => match k with
  | 0 => .array .int
  | 1 => .int
  | 2 => .int
  | 3 => .int
  | _ => .int
abbrev wsX20 : List Cond := u_ws RX2 TX2 5
theorem nmX2 : ∀ a, a < 5 → ∀ b, b < 5 → a ≠ b → (TX2 a).2.1 ≠ (TX2 b).2.1 := by decide +kernel
theorem tyX2_ok : ∀ k, k < 5 → parseFieldDescriptor (TX2 k).2.2.1 = some (tyX2 k) := by decide +kernel
abbrev cX2_init : ByteArray := prog_4_method_1_code
def yX2_init : MethodName := ⟨RX2, "<init>", "()V"⟩
abbrev cX2_append : ByteArray := prog_4_method_2_code
def yX2_append : MethodName := ⟨RX2, "append", "(I)V"⟩
abbrev cX2_scan : ByteArray := prog_4_method_3_code
def yX2_scan : MethodName := ⟨RX2, "scan", "()I"⟩
abbrev cX2_isTable : ByteArray := prog_4_method_4_code
def yX2_isTable : MethodName := ⟨RX2, "isTable", "()Z"⟩
abbrev cX2_dueBehind : ByteArray := prog_4_method_5_code
def yX2_dueBehind : MethodName := ⟨RX2, "dueBehind", "(I)I"⟩
abbrev cX2_behindBase : ByteArray := prog_4_method_6_code
def yX2_behindBase : MethodName := ⟨RX2, "behindBase", "(I)I"⟩
abbrev cX2_behindBaseSign : ByteArray := prog_4_method_7_code
def yX2_behindBaseSign : MethodName := ⟨RX2, "behindBaseSign", "(I)I"⟩
abbrev cX2_behindPlace : ByteArray := prog_4_method_8_code
def yX2_behindPlace : MethodName := ⟨RX2, "behindPlace", "(I)I"⟩
abbrev cX2_isDigit : ByteArray := prog_4_method_9_code
def yX2_isDigit : MethodName := ⟨RX2, "isDigit", "(III)Z"⟩
abbrev cX2_readInto : ByteArray := prog_4_method_10_code
def yX2_readInto : MethodName := ⟨RX2, "readInto", "(LHeldTowns$Land;)V"⟩
abbrev cX2_kindAt : ByteArray := prog_4_method_11_code
def yX2_kindAt : MethodName := ⟨RX2, "kindAt", "(I)I"⟩
abbrev cX2_digitAt : ByteArray := prog_4_method_12_code
def yX2_digitAt : MethodName := ⟨RX2, "digitAt", "(I)I"⟩
def RX3 : String := "HeldTowns$Seen"
def TX3 : u_T := fun k => match k with
  | 0 => ("HeldTowns$Seen", "length", "I", false)
  | 1 => ("HeldTowns$Seen", "weights", "[I", true)
  | 2 => ("HeldTowns$Seen", "sides", "[I", true)
  | 3 => ("HeldTowns$Seen", "forces", "[I", true)
  | 4 => ("HeldTowns$Seen", "lifting", "[Z", true)
  | _ => ("HeldTowns$Seen", "holds", "[I", true)
def tyX3 : Nat → FieldType := fun k => match k with
  | 0 => .int
  | 1 => .array .int
  | 2 => .array .int
  | 3 => .array .int
  | 4 => .array .boolean
  | _ => .array .int
abbrev wsX30 : List Cond := u_ws RX3 TX3 6
theorem nmX3 : ∀ a, a < 6 → ∀ b, b < 6 → a ≠ b → (TX3 a).2.1 ≠ (TX3 b).2.1 := by decide +kernel
theorem tyX3_ok : ∀ k, k < 6 → parseFieldDescriptor (TX3 k).2.2.1 = some (tyX3 k) := by decide +kernel
abbrev cX3_init : ByteArray := prog_5_method_1_code
def yX3_init : MethodName := ⟨RX3, "<init>", "()V"⟩
abbrev cX3_append : ByteArray := prog_5_method_2_code
def yX3_append : MethodName := ⟨RX3, "append", "(IIIZ)V"⟩
abbrev cX3_copyFrom : ByteArray := prog_5_method_3_code
def yX3_copyFrom : MethodName := ⟨RX3, "copyFrom", "(LHeldTowns$Seen;)V"⟩
abbrev cX3_possibleOunces : ByteArray := prog_5_method_4_code
def yX3_possibleOunces : MethodName := ⟨RX3, "possibleOunces", "(LHeldTowns$Land;I)I"⟩
abbrev cX3_windToWaitFor : ByteArray := prog_5_method_5_code
def yX3_windToWaitFor : MethodName := ⟨RX3, "windToWaitFor", "(LHeldTowns$Land;I)I"⟩
abbrev cX3_fillHolds : ByteArray := prog_5_method_6_code
def yX3_fillHolds : MethodName := ⟨RX3, "fillHolds", "(LHeldTowns$Land;II)V"⟩
abbrev cX3_leftAtWorst : ByteArray := prog_5_method_7_code
def yX3_leftAtWorst : MethodName := ⟨RX3, "leftAtWorst", "(II)I"⟩
def RX4 : String := "HeldTowns"
def TX4 : u_T := fun k => match k with
  | 0 => ("HeldTowns", "page", "LHeldTowns$Page;", true)
  | 1 => ("HeldTowns", "land", "LHeldTowns$Land;", true)
  | 2 => ("HeldTowns", "seen", "LHeldTowns$Seen;", true)
  | 3 => ("HeldTowns", "imageLand", "LHeldTowns$Land;", true)
  | 4 => ("HeldTowns", "imageSeen", "LHeldTowns$Seen;", true)
  | 5 => ("HeldTowns", "trial", "LHeldTowns$Land;", true)
  | 6 => ("HeldTowns", "packing", "LHeldTowns$Packing;", true)
  | 7 => ("HeldTowns", "imageKept", "Z", false)
  | 8 => ("HeldTowns", "tablesRead", "I", false)
  | _ => ("HeldTowns", "packsDone", "I", false)
def tyX4 : Nat → FieldType := fun k => match k with
  | 0 => .object "HeldTowns$Page"
  | 1 => .object "HeldTowns$Land"
  | 2 => .object "HeldTowns$Seen"
  | 3 => .object "HeldTowns$Land"
  | 4 => .object "HeldTowns$Seen"
  | 5 => .object "HeldTowns$Land"
  | 6 => .object "HeldTowns$Packing"
  | 7 => .boolean
  | 8 => .int
  | _ => .int
abbrev wsX40 : List Cond := u_ws RX4 TX4 10
theorem nmX4 : ∀ a, a < 10 → ∀ b, b < 10 → a ≠ b → (TX4 a).2.1 ≠ (TX4 b).2.1 := by decide +kernel
theorem tyX4_ok : ∀ k, k < 10 → parseFieldDescriptor (TX4 k).2.2.1 = some (tyX4 k) := by decide +kernel
abbrev cX4_init : ByteArray := prog_1_method_1_code
def yX4_init : MethodName := ⟨RX4, "<init>", "()V"⟩
abbrev cX4_letter : ByteArray := prog_1_method_2_code
def yX4_letter : MethodName := ⟨RX4, "letter", "(I)I"⟩
abbrev cX4_blank : ByteArray := prog_1_method_3_code
def yX4_blank : MethodName := ⟨RX4, "blank", "()I"⟩
abbrev cX4_fault : ByteArray := prog_1_method_4_code
def yX4_fault : MethodName := ⟨RX4, "fault", "()I"⟩
abbrev cX4_table : ByteArray := prog_1_method_5_code
def yX4_table : MethodName := ⟨RX4, "table", "()I"⟩
abbrev cX4_weight : ByteArray := prog_1_method_6_code
def yX4_weight : MethodName := ⟨RX4, "weight", "(II)I"⟩
abbrev cX4_as : ByteArray := prog_1_method_7_code
def yX4_as : MethodName := ⟨RX4, "as", "(II)I"⟩
abbrev cX4_village : ByteArray := prog_1_method_8_code
def yX4_village : MethodName := ⟨RX4, "village", "(II)I"⟩
abbrev cX4_lifts : ByteArray := prog_1_method_9_code
def yX4_lifts : MethodName := ⟨RX4, "lifts", "(III)I"⟩
abbrev cX4_blow : ByteArray := prog_1_method_10_code
def yX4_blow : MethodName := ⟨RX4, "blow", "(II)I"⟩
abbrev cX4_put : ByteArray := prog_1_method_11_code
def yX4_put : MethodName := ⟨RX4, "put", "(III)I"⟩
abbrev cX4_lift : ByteArray := prog_1_method_12_code
def yX4_lift : MethodName := ⟨RX4, "lift", "(I)I"⟩
abbrev cX4_cut : ByteArray := prog_1_method_13_code
def yX4_cut : MethodName := ⟨RX4, "cut", "(II)I"⟩
abbrev cX4_build : ByteArray := prog_1_method_14_code
def yX4_build : MethodName := ⟨RX4, "build", "(II)I"⟩
abbrev cX4_where : ByteArray := prog_1_method_15_code
def yX4_where : MethodName := ⟨RX4, "where", "(III)I"⟩
abbrev cX4_pack : ByteArray := prog_1_method_16_code
def yX4_pack : MethodName := ⟨RX4, "pack", "(II)I"⟩
abbrev cX4_mend : ByteArray := prog_1_method_17_code
def yX4_mend : MethodName := ⟨RX4, "mend", "()I"⟩
abbrev cX4_odds : ByteArray := prog_1_method_18_code
def yX4_odds : MethodName := ⟨RX4, "odds", "(II)I"⟩
abbrev cX4_see : ByteArray := prog_1_method_19_code
def yX4_see : MethodName := ⟨RX4, "see", "(IIIZ)I"⟩
abbrev cX4_forget : ByteArray := prog_1_method_20_code
def yX4_forget : MethodName := ⟨RX4, "forget", "()I"⟩
abbrev cX4_decades : ByteArray := prog_1_method_21_code
def yX4_decades : MethodName := ⟨RX4, "decades", "(III)I"⟩
abbrev cX4_image : ByteArray := prog_1_method_22_code
def yX4_image : MethodName := ⟨RX4, "image", "()I"⟩
abbrev cX4_restore : ByteArray := prog_1_method_23_code
def yX4_restore : MethodName := ⟨RX4, "restore", "()I"⟩
abbrev cX4_count : ByteArray := prog_1_method_24_code
def yX4_count : MethodName := ⟨RX4, "count", "(I)I"⟩
abbrev cX4_digest : ByteArray := prog_1_method_25_code
def yX4_digest : MethodName := ⟨RX4, "digest", "()J"⟩
abbrev cX4_mixed : ByteArray := prog_1_method_26_code
def yX4_mixed : MethodName := ⟨RX4, "mixed", "(JJ)J"⟩
abbrev cX4_hasTable : ByteArray := prog_1_method_27_code
def yX4_hasTable : MethodName := ⟨RX4, "hasTable", "()Z"⟩
abbrev cX4_isWeight : ByteArray := prog_1_method_28_code
def yX4_isWeight : MethodName := ⟨RX4, "isWeight", "(I)Z"⟩
abbrev cX4_isVillage : ByteArray := prog_1_method_29_code
def yX4_isVillage : MethodName := ⟨RX4, "isVillage", "(I)Z"⟩
abbrev cX4_isWind : ByteArray := prog_1_method_30_code
def yX4_isWind : MethodName := ⟨RX4, "isWind", "(II)Z"⟩
abbrev cX4_isPackAnswer : ByteArray := prog_1_method_31_code
def yX4_isPackAnswer : MethodName := ⟨RX4, "isPackAnswer", "(I)Z"⟩
abbrev cX4_isOfKind : ByteArray := prog_1_method_32_code
def yX4_isOfKind : MethodName := ⟨RX4, "isOfKind", "(II)Z"⟩
abbrev cX4_bearing : ByteArray := prog_1_method_33_code
def yX4_bearing : MethodName := ⟨RX4, "bearing", "(III)I"⟩
abbrev cX4_leverage : ByteArray := prog_1_method_34_code
def yX4_leverage : MethodName := ⟨RX4, "leverage", "(II)I"⟩
abbrev cX4_liftsAt : ByteArray := prog_1_method_35_code
def yX4_liftsAt : MethodName := ⟨RX4, "liftsAt", "(II)Z"⟩
abbrev cX4_standBy : ByteArray := prog_1_method_36_code
def yX4_standBy : MethodName := ⟨RX4, "standBy", "(I)I"⟩
abbrev cX4_inLowestTerms : ByteArray := prog_1_method_37_code
def yX4_inLowestTerms : MethodName := ⟨RX4, "inLowestTerms", "(II)I"⟩
abbrev cX4_nextSeed : ByteArray := prog_1_method_38_code
def yX4_nextSeed : MethodName := ⟨RX4, "nextSeed", "(I)I"⟩
abbrev cX4_drawnOf : ByteArray := prog_1_method_39_code
def yX4_drawnOf : MethodName := ⟨RX4, "drawnOf", "(II)I"⟩
def RX5 : String := "HeldTownsModel"
def TX5 : u_T := fun k => match k with
  | 0 => ("HeldTownsModel", "tables", "I", false)
  | 1 => ("HeldTownsModel", "villages", "I", false)
  | 2 => ("HeldTownsModel", "weights", "I", false)
  | 3 => ("HeldTownsModel", "baseOf", "[I", true)
  | 4 => ("HeldTownsModel", "kindOf", "[I", true)
  | 5 => ("HeldTownsModel", "ouncesOf", "[I", true)
  | 6 => ("HeldTownsModel", "villageOf", "[I", true)
  | 7 => ("HeldTownsModel", "placeOf", "[I", true)
  | 8 => ("HeldTownsModel", "snowOf", "[I", true)
  | 9 => ("HeldTownsModel", "winds", "I", false)
  | 10 => ("HeldTownsModel", "lifted", "I", false)
  | 11 => ("HeldTownsModel", "fell", "I", false)
  | 12 => ("HeldTownsModel", "asks", "I", false)
  | 13 => ("HeldTownsModel", "seen", "I", false)
  | 14 => ("HeldTownsModel", "seenWeight", "[I", true)
  | 15 => ("HeldTownsModel", "seenSide", "[I", true)
  | 16 => ("HeldTownsModel", "seenForce", "[I", true)
  | 17 => ("HeldTownsModel", "seenLifts", "[I", true)
  | 18 => ("HeldTownsModel", "pageLength", "I", false)
  | 19 => ("HeldTownsModel", "page", "[B", true)
  | 20 => ("HeldTownsModel", "isWhole", "Z", false)
  | 21 => ("HeldTownsModel", "newVillages", "I", false)
  | 22 => ("HeldTownsModel", "newWeights", "I", false)
  | 23 => ("HeldTownsModel", "standsBy", "[Z", true)
  | 24 => ("HeldTownsModel", "atPlace", "[I", true)
  | 25 => ("HeldTownsModel", "row", "[I", true)
  | 26 => ("HeldTownsModel", "bestRow", "[I", true)
  | 27 => ("HeldTownsModel", "rowMany", "I", false)
  | 28 => ("HeldTownsModel", "rowOunces", "I", false)
  | 29 => ("HeldTownsModel", "seedNow", "J", false)
  | 30 => ("HeldTownsModel", "savedOunces", "[I", true)
  | 31 => ("HeldTownsModel", "savedVillage", "[I", true)
  | 32 => ("HeldTownsModel", "savedPlace", "[I", true)
  | 33 => ("HeldTownsModel", "savedSnow", "[I", true)
  | 34 => ("HeldTownsModel", "isKept", "Z", false)
  | 35 => ("HeldTownsModel", "keptTable", "I", false)
  | 36 => ("HeldTownsModel", "keptWinds", "I", false)
  | 37 => ("HeldTownsModel", "keptLifted", "I", false)
  | 38 => ("HeldTownsModel", "keptFell", "I", false)
  | 39 => ("HeldTownsModel", "keptSeen", "I", false)
  | 40 => ("HeldTownsModel", "keptBase", "[I", true)
  | 41 => ("HeldTownsModel", "keptOunces", "[I", true)
  | 42 => ("HeldTownsModel", "keptVillage", "[I", true)
  | 43 => ("HeldTownsModel", "keptPlace", "[I", true)
  | 44 => ("HeldTownsModel", "keptSnow", "[I", true)
  | 45 => ("HeldTownsModel", "keptWeight", "[I", true)
  | 46 => ("HeldTownsModel", "keptSide", "[I", true)
  | 47 => ("HeldTownsModel", "keptForce", "[I", true)
  | 48 => ("HeldTownsModel", "keptLifts", "[I", true)
  | _ => ("HeldTownsModel", "h", "J", false)
def tyX5 : Nat → FieldType := fun k => match k with
  | 0 => .int
  | 1 => .int
  | 2 => .int
  | 3 => .array .int
  | 4 => .array .int
  | 5 => .array .int
  | 6 => .array .int
  | 7 => .array .int
  | 8 => .array .int
  | 9 => .int
  | 10 => .int
  | 11 => .int
  | 12 => .int
  | 13 => .int
  | 14 => .array .int
  | 15 => .array .int
  | 16 => .array .int
  | 17 => .array .int
  | 18 => .int
  | 19 => .array .byte
  | 20 => .boolean
  | 21 => .int
  | 22 => .int
  | 23 => .array .boolean
  | 24 => .array .int
  | 25 => .array .int
  | 26 => .array .int
  | 27 => .int
  | 28 => .int
  | 29 => .long
  | 30 => .array .int
  | 31 => .array .int
  | 32 => .array .int
  | 33 => .array .int
  | 34 => .boolean
  | 35 => .int
  | 36 => .int
  | 37 => .int
  | 38 => .int
  | 39 => .int
  | 40 => .array .int
  | 41 => .array .int
  | 42 => .array .int
  | 43 => .array .int
  | 44 => .array .int
  | 45 => .array .int
  | 46 => .array .int
  | 47 => .array .int
  | 48 => .array .int
  | _ => .long
abbrev wsX50 : List Cond := u_ws RX5 TX5 50
theorem nmX5 : ∀ a, a < 50 → ∀ b, b < 50 → a ≠ b → (TX5 a).2.1 ≠ (TX5 b).2.1 := by decide +kernel
theorem tyX5_ok : ∀ k, k < 50 → parseFieldDescriptor (TX5 k).2.2.1 = some (tyX5 k) := by decide +kernel
abbrev cX5_init : ByteArray := prog_7_method_1_code
def yX5_init : MethodName := ⟨RX5, "<init>", "()V"⟩
abbrev cX5_within : ByteArray := prog_7_method_3_code
def yX5_within : MethodName := ⟨RX5, "within", "(III)Z"⟩
abbrev cX5_isIn : ByteArray := prog_7_method_4_code
def yX5_isIn : MethodName := ⟨RX5, "isIn", "(II)Z"⟩
abbrev cX5_size : ByteArray := prog_7_method_5_code
def yX5_size : MethodName := ⟨RX5, "size", "(I)I"⟩
abbrev cX5_divisor : ByteArray := prog_7_method_6_code
def yX5_divisor : MethodName := ⟨RX5, "divisor", "(II)I"⟩
abbrev cX5_letter : ByteArray := prog_7_method_7_code
def yX5_letter : MethodName := ⟨RX5, "letter", "(I)I"⟩
abbrev cX5_blank : ByteArray := prog_7_method_8_code
def yX5_blank : MethodName := ⟨RX5, "blank", "()I"⟩
abbrev cX5_kindBy : ByteArray := prog_7_method_9_code
def yX5_kindBy : MethodName := ⟨RX5, "kindBy", "(I)I"⟩
abbrev cX5_at : ByteArray := prog_7_method_10_code
def yX5_at : MethodName := ⟨RX5, "at", "(I)I"⟩
abbrev cX5_isFigure : ByteArray := prog_7_method_11_code
def yX5_isFigure : MethodName := ⟨RX5, "isFigure", "(III)Z"⟩
abbrev cX5_readWeights : ByteArray := prog_7_method_12_code
def yX5_readWeights : MethodName := ⟨RX5, "readWeights", "(I)I"⟩
abbrev cX5_read : ByteArray := prog_7_method_13_code
def yX5_read : MethodName := ⟨RX5, "read", "()I"⟩
abbrev cX5_fault : ByteArray := prog_7_method_14_code
def yX5_fault : MethodName := ⟨RX5, "fault", "()I"⟩
abbrev cX5_table : ByteArray := prog_7_method_15_code
def yX5_table : MethodName := ⟨RX5, "table", "()I"⟩
abbrev cX5_isVillage : ByteArray := prog_7_method_16_code
def yX5_isVillage : MethodName := ⟨RX5, "isVillage", "(I)Z"⟩
abbrev cX5_isWeight : ByteArray := prog_7_method_17_code
def yX5_isWeight : MethodName := ⟨RX5, "isWeight", "(I)Z"⟩
abbrev cX5_isWind : ByteArray := prog_7_method_18_code
def yX5_isWind : MethodName := ⟨RX5, "isWind", "(II)Z"⟩
abbrev cX5_bears : ByteArray := prog_7_method_19_code
def yX5_bears : MethodName := ⟨RX5, "bears", "(I)I"⟩
abbrev cX5_arm : ByteArray := prog_7_method_20_code
def yX5_arm : MethodName := ⟨RX5, "arm", "(II)I"⟩
abbrev cX5_hold : ByteArray := prog_7_method_21_code
def yX5_hold : MethodName := ⟨RX5, "hold", "(II)I"⟩
abbrev cX5_standBy : ByteArray := prog_7_method_22_code
def yX5_standBy : MethodName := ⟨RX5, "standBy", "(I)I"⟩
abbrev cX5_stand : ByteArray := prog_7_method_23_code
def yX5_stand : MethodName := ⟨RX5, "stand", "(II)I"⟩
abbrev cX5_leastOf : ByteArray := prog_7_method_24_code
def yX5_leastOf : MethodName := ⟨RX5, "leastOf", "(I)I"⟩
abbrev cX5_leastOfAll : ByteArray := prog_7_method_25_code
def yX5_leastOfAll : MethodName := ⟨RX5, "leastOfAll", "()I"⟩
abbrev cX5_wouldLift : ByteArray := prog_7_method_26_code
def yX5_wouldLift : MethodName := ⟨RX5, "wouldLift", "(III)Z"⟩
abbrev cX5_there : ByteArray := prog_7_method_27_code
def yX5_there : MethodName := ⟨RX5, "there", "(I)I"⟩
abbrev cX5_ouncesIn : ByteArray := prog_7_method_28_code
def yX5_ouncesIn : MethodName := ⟨RX5, "ouncesIn", "(I)I"⟩
abbrev cX5_weightNow : ByteArray := prog_7_method_29_code
def yX5_weightNow : MethodName := ⟨RX5, "weightNow", "(II)I"⟩
abbrev cX5_weight : ByteArray := prog_7_method_30_code
def yX5_weight : MethodName := ⟨RX5, "weight", "(II)I"⟩
abbrev cX5_as : ByteArray := prog_7_method_31_code
def yX5_as : MethodName := ⟨RX5, "as", "(II)I"⟩
abbrev cX5_villageNow : ByteArray := prog_7_method_32_code
def yX5_villageNow : MethodName := ⟨RX5, "villageNow", "(II)I"⟩
abbrev cX5_village : ByteArray := prog_7_method_33_code
def yX5_village : MethodName := ⟨RX5, "village", "(II)I"⟩
abbrev cX5_lifts : ByteArray := prog_7_method_34_code
def yX5_lifts : MethodName := ⟨RX5, "lifts", "(III)I"⟩
abbrev cX5_goAway : ByteArray := prog_7_method_35_code
def yX5_goAway : MethodName := ⟨RX5, "goAway", "(I)V"⟩
abbrev cX5_slide : ByteArray := prog_7_method_36_code
def yX5_slide : MethodName := ⟨RX5, "slide", "(II)V"⟩
abbrev cX5_wear : ByteArray := prog_7_method_37_code
def yX5_wear : MethodName := ⟨RX5, "wear", "(I)V"⟩
abbrev cX5_wind : ByteArray := prog_7_method_38_code
def yX5_wind : MethodName := ⟨RX5, "wind", "(II)I"⟩
abbrev cX5_blow : ByteArray := prog_7_method_39_code
def yX5_blow : MethodName := ⟨RX5, "blow", "(II)I"⟩
abbrev cX5_put : ByteArray := prog_7_method_40_code
def yX5_put : MethodName := ⟨RX5, "put", "(III)I"⟩
abbrev cX5_lift : ByteArray := prog_7_method_41_code
def yX5_lift : MethodName := ⟨RX5, "lift", "(I)I"⟩
abbrev cX5_cut : ByteArray := prog_7_method_42_code
def yX5_cut : MethodName := ⟨RX5, "cut", "(II)I"⟩
abbrev cX5_build : ByteArray := prog_7_method_43_code
def yX5_build : MethodName := ⟨RX5, "build", "(II)I"⟩
abbrev cX5_whereNow : ByteArray := prog_7_method_44_code
def yX5_whereNow : MethodName := ⟨RX5, "whereNow", "(III)I"⟩
abbrev cX5_where : ByteArray := prog_7_method_45_code
def yX5_where : MethodName := ⟨RX5, "where", "(III)I"⟩
abbrev cX5_bareBears : ByteArray := prog_7_method_46_code
def yX5_bareBears : MethodName := ⟨RX5, "bareBears", "(II)I"⟩
abbrev cX5_standsNow : ByteArray := prog_7_method_47_code
def yX5_standsNow : MethodName := ⟨RX5, "standsNow", "(III)Z"⟩
abbrev cX5_nextPlaces : ByteArray := prog_7_method_48_code
def yX5_nextPlaces : MethodName := ⟨RX5, "nextPlaces", "(I)Z"⟩
abbrev cX5_canStand : ByteArray := prog_7_method_49_code
def yX5_canStand : MethodName := ⟨RX5, "canStand", "(III)Z"⟩
abbrev cX5_isRow : ByteArray := prog_7_method_50_code
def yX5_isRow : MethodName := ⟨RX5, "isRow", "()Z"⟩
abbrev cX5_nextRow : ByteArray := prog_7_method_51_code
def yX5_nextRow : MethodName := ⟨RX5, "nextRow", "()Z"⟩
abbrev cX5_packNow : ByteArray := prog_7_method_52_code
def yX5_packNow : MethodName := ⟨RX5, "packNow", "(II)I"⟩
abbrev cX5_pack : ByteArray := prog_7_method_53_code
def yX5_pack : MethodName := ⟨RX5, "pack", "(II)I"⟩
abbrev cX5_mendNow : ByteArray := prog_7_method_54_code
def yX5_mendNow : MethodName := ⟨RX5, "mendNow", "()I"⟩
abbrev cX5_mend : ByteArray := prog_7_method_55_code
def yX5_mend : MethodName := ⟨RX5, "mend", "()I"⟩
abbrev cX5_anyLifts : ByteArray := prog_7_method_56_code
def yX5_anyLifts : MethodName := ⟨RX5, "anyLifts", "(II)Z"⟩
abbrev cX5_oddsNow : ByteArray := prog_7_method_57_code
def yX5_oddsNow : MethodName := ⟨RX5, "oddsNow", "(II)I"⟩
abbrev cX5_odds : ByteArray := prog_7_method_58_code
def yX5_odds : MethodName := ⟨RX5, "odds", "(II)I"⟩
abbrev cX5_see : ByteArray := prog_7_method_59_code
def yX5_see : MethodName := ⟨RX5, "see", "(IIIZ)I"⟩
abbrev cX5_forget : ByteArray := prog_7_method_60_code
def yX5_forget : MethodName := ⟨RX5, "forget", "()I"⟩
abbrev cX5_liftsWith : ByteArray := prog_7_method_61_code
def yX5_liftsWith : MethodName := ⟨RX5, "liftsWith", "(IIII)Z"⟩
abbrev cX5_canHave : ByteArray := prog_7_method_62_code
def yX5_canHave : MethodName := ⟨RX5, "canHave", "(I)I"⟩
abbrev cX5_worstBy : ByteArray := prog_7_method_63_code
def yX5_worstBy : MethodName := ⟨RX5, "worstBy", "(IIII)I"⟩
abbrev cX5_waitFor : ByteArray := prog_7_method_64_code
def yX5_waitFor : MethodName := ⟨RX5, "waitFor", "(I)I"⟩
abbrev cX5_draw : ByteArray := prog_7_method_65_code
def yX5_draw : MethodName := ⟨RX5, "draw", "(I)I"⟩
abbrev cX5_onPlain : ByteArray := prog_7_method_66_code
def yX5_onPlain : MethodName := ⟨RX5, "onPlain", "()I"⟩
abbrev cX5_decadesNow : ByteArray := prog_7_method_67_code
def yX5_decadesNow : MethodName := ⟨RX5, "decadesNow", "(III)I"⟩
abbrev cX5_decades : ByteArray := prog_7_method_68_code
def yX5_decades : MethodName := ⟨RX5, "decades", "(III)I"⟩
abbrev cX5_image : ByteArray := prog_7_method_69_code
def yX5_image : MethodName := ⟨RX5, "image", "()I"⟩
abbrev cX5_restore : ByteArray := prog_7_method_70_code
def yX5_restore : MethodName := ⟨RX5, "restore", "()I"⟩
abbrev cX5_howMany : ByteArray := prog_7_method_71_code
def yX5_howMany : MethodName := ⟨RX5, "howMany", "(I)I"⟩
abbrev cX5_count : ByteArray := prog_7_method_72_code
def yX5_count : MethodName := ⟨RX5, "count", "(I)I"⟩
abbrev cX5_mix : ByteArray := prog_7_method_73_code
def yX5_mix : MethodName := ⟨RX5, "mix", "(J)V"⟩
abbrev cX5_mixVillage : ByteArray := prog_7_method_74_code
def yX5_mixVillage : MethodName := ⟨RX5, "mixVillage", "(I)V"⟩
abbrev cX5_digest : ByteArray := prog_7_method_75_code
def yX5_digest : MethodName := ⟨RX5, "digest", "()J"⟩
def RJ11 : String := "java/lang/Character"
def TJ11 : u_T := fun k => match k with
  | _ => ("", "", "", false)
def tyJ11 : Nat → FieldType := fun k => match k with
  | _ => .int
abbrev cJ11_isValidCodePoint_9a6ad : ByteArray := prog_8_method_11_code
def yJ11_isValidCodePoint_9a6ad : MethodName := ⟨RJ11, "isValidCodePoint", "(I)Z"⟩
abbrev cJ11_highSurrogate_5068e : ByteArray := prog_8_method_28_code
def yJ11_highSurrogate_5068e : MethodName := ⟨RJ11, "highSurrogate", "(I)C"⟩
abbrev cJ11_lowSurrogate_5068e : ByteArray := prog_8_method_29_code
def yJ11_lowSurrogate_5068e : MethodName := ⟨RJ11, "lowSurrogate", "(I)C"⟩
def RJ6 : String := "java/lang/Integer"
def TJ6 : u_T := fun k => match k with
  | _ => ("", "", "", false)
def tyJ6 : Nat → FieldType := fun k => match k with
  | _ => .int
abbrev cJ6_bitCount_0f7a4 : ByteArray := prog_9_method_49_code
def yJ6_bitCount_0f7a4 : MethodName := ⟨RJ6, "bitCount", "(I)I"⟩
def RJ9 : String := "java/lang/Math"
def TJ9 : u_T := fun k => match k with
  | _ => ("", "", "", false)
def tyJ9 : Nat → FieldType := fun k => match k with
  | _ => .int
abbrev cJ9_max_7cf53 : ByteArray := prog_10_method_65_code
def yJ9_max_7cf53 : MethodName := ⟨RJ9, "max", "(II)I"⟩
abbrev cJ9_min_7cf53 : ByteArray := prog_10_method_69_code
def yJ9_min_7cf53 : MethodName := ⟨RJ9, "min", "(II)I"⟩
def RJ0 : String := "java/lang/String"
def TJ0 : u_T := fun k => match k with
  | _ => ("", "", "", false)
def tyJ0 : Nat → FieldType := fun k => match k with
  | _ => .int
abbrev cJ0_length_8abf5 : ByteArray := prog_11_method_54_code
def yJ0_length_8abf5 : MethodName := ⟨RJ0, "length", "()I"⟩
abbrev cJ0_indexOf_0f7a4 : ByteArray := prog_11_method_79_code
def yJ0_indexOf_0f7a4 : MethodName := ⟨RJ0, "indexOf", "(I)I"⟩
abbrev cJ0_indexOf_7cf53 : ByteArray := prog_11_method_80_code
def yJ0_indexOf_7cf53 : MethodName := ⟨RJ0, "indexOf", "(II)I"⟩
abbrev cJ0_coder_7d493 : ByteArray := prog_11_method_152_code
def yJ0_coder_7d493 : MethodName := ⟨RJ0, "coder", "()B"⟩
abbrev cJ0_isLatin1_aae02 : ByteArray := prog_11_method_154_code
def yJ0_isLatin1_aae02 : MethodName := ⟨RJ0, "isLatin1", "()Z"⟩
abbrev cJ0_checkBoundsBeginEnd_23922 : ByteArray := prog_11_method_158_code
def yJ0_checkBoundsBeginEnd_23922 : MethodName := ⟨RJ0, "checkBoundsBeginEnd", "(III)V"⟩
def RJ1 : String := "java/lang/StringLatin1"
def TJ1 : u_T := fun k => match k with
  | _ => ("", "", "", false)
def tyJ1 : Nat → FieldType := fun k => match k with
  | _ => .int
abbrev cJ1_canEncode_9a6ad : ByteArray := prog_12_method_4_code
def yJ1_canEncode_9a6ad : MethodName := ⟨RJ1, "canEncode", "(I)Z"⟩
abbrev cJ1_indexOf_4cfef : ByteArray := prog_12_method_22_code
def yJ1_indexOf_4cfef : MethodName := ⟨RJ1, "indexOf", "([BIII)I"⟩
abbrev cJ1_indexOfChar_4cfef : ByteArray := prog_12_method_23_code
def yJ1_indexOfChar_4cfef : MethodName := ⟨RJ1, "indexOfChar", "([BIII)I"⟩
def RJ2 : String := "java/lang/StringUTF16"
def TJ2 : u_T := fun k => match k with
  | _ => ("", "", "", false)
def tyJ2 : Nat → FieldType := fun k => match k with
  | _ => .int
abbrev cJ2_getChar_3b067 : ByteArray := prog_13_method_5_code
def yJ2_getChar_3b067 : MethodName := ⟨RJ2, "getChar", "([BI)C"⟩
abbrev cJ2_length_9d52b : ByteArray := prog_13_method_6_code
def yJ2_length_9d52b : MethodName := ⟨RJ2, "length", "([B)I"⟩
abbrev cJ2_indexOf_4cfef : ByteArray := prog_13_method_40_code
def yJ2_indexOf_4cfef : MethodName := ⟨RJ2, "indexOf", "([BIII)I"⟩
abbrev cJ2_indexOfChar_4cfef : ByteArray := prog_13_method_47_code
def yJ2_indexOfChar_4cfef : MethodName := ⟨RJ2, "indexOfChar", "([BIII)I"⟩
abbrev cJ2_indexOfCharUnsafe_4cfef : ByteArray := prog_13_method_48_code
def yJ2_indexOfCharUnsafe_4cfef : MethodName := ⟨RJ2, "indexOfCharUnsafe", "([BIII)I"⟩
abbrev cJ2_indexOfSupplementary_4cfef : ByteArray := prog_13_method_49_code
def yJ2_indexOfSupplementary_4cfef : MethodName := ⟨RJ2, "indexOfSupplementary", "([BIII)I"⟩
abbrev cJ2_checkBoundsBeginEnd_d044e : ByteArray := prog_13_method_93_code
def yJ2_checkBoundsBeginEnd_d044e : MethodName := ⟨RJ2, "checkBoundsBeginEnd", "(II[B)V"⟩
def RJ3 : String := "jdk/internal/util/Preconditions"
def TJ3 : u_T := fun k => match k with
  | _ => ("", "", "", false)
def tyJ3 : Nat → FieldType := fun k => match k with
  | _ => .int
abbrev cJ3_checkFromToIndex_8c36e : ByteArray := prog_14_method_12_code
def yJ3_checkFromToIndex_8c36e : MethodName := ⟨RJ3, "checkFromToIndex", "(IIILjava/util/function/BiFunction;)I"⟩
def RL : String := "HeldTownsLaw"
abbrev cL_law : ByteArray := code
def yL_law : MethodName := ⟨RL, "law", "([I)Z"⟩
abbrev vwCl : List vw_C := [(RX0, TX0, 11), (RX1, TX1, 6), (RX2, TX2, 5), (RX3, TX3, 6), (RX4, TX4, 10), (RX5, TX5, 50)]
end
section
theorem dX0_init_0 : decode cX0_init 0 = .ok (.aload_n 0, 1) := by decide +kernel
theorem dX0_init_1 : decode cX0_init 1 = .ok (.invokespecial 3, 3) := by decide +kernel
theorem dX0_init_4 : decode cX0_init 4 = .ok (.aload_n 0, 1) := by decide +kernel
theorem dX0_init_5 : decode cX0_init 5 = .ok (.iconst 0, 1) := by decide +kernel
theorem dX0_init_6 : decode cX0_init 6 = .ok (.putfield 9, 3) := by decide +kernel
theorem dX0_init_9 : decode cX0_init 9 = .ok (.aload_n 0, 1) := by decide +kernel
theorem dX0_init_10 : decode cX0_init 10 = .ok (.iconst 0, 1) := by decide +kernel
theorem dX0_init_11 : decode cX0_init 11 = .ok (.putfield 15, 3) := by decide +kernel
theorem dX0_init_14 : decode cX0_init 14 = .ok (.aload_n 0, 1) := by decide +kernel
theorem dX0_init_15 : decode cX0_init 15 = .ok (.iconst 4, 1) := by decide +kernel
theorem dX0_init_16 : decode cX0_init 16 = .ok (.newarray .int, 2) := by decide +kernel
theorem dX0_init_18 : decode cX0_init 18 = .ok (.putfield 18, 3) := by decide +kernel
theorem dX0_init_21 : decode cX0_init 21 = .ok (.aload_n 0, 1) := by decide +kernel
theorem dX0_init_22 : decode cX0_init 22 = .ok (.iconst 5, 1) := by decide +kernel
theorem dX0_init_23 : decode cX0_init 23 = .ok (.newarray .int, 2) := by decide +kernel
theorem dX0_init_25 : decode cX0_init 25 = .ok (.putfield 22, 3) := by decide +kernel
theorem dX0_init_28 : decode cX0_init 28 = .ok (.aload_n 0, 1) := by decide +kernel
theorem dX0_init_29 : decode cX0_init 29 = .ok (.iconst 5, 1) := by decide +kernel
theorem dX0_init_30 : decode cX0_init 30 = .ok (.newarray .int, 2) := by decide +kernel
theorem dX0_init_32 : decode cX0_init 32 = .ok (.putfield 25, 3) := by decide +kernel
theorem dX0_init_35 : decode cX0_init 35 = .ok (.aload_n 0, 1) := by decide +kernel
theorem dX0_init_36 : decode cX0_init 36 = .ok (.iconst 5, 1) := by decide +kernel
theorem dX0_init_37 : decode cX0_init 37 = .ok (.newarray .int, 2) := by decide +kernel
theorem dX0_init_39 : decode cX0_init 39 = .ok (.putfield 28, 3) := by decide +kernel
theorem dX0_init_42 : decode cX0_init 42 = .ok (.aload_n 0, 1) := by decide +kernel
theorem dX0_init_43 : decode cX0_init 43 = .ok (.iconst 5, 1) := by decide +kernel
theorem dX0_init_44 : decode cX0_init 44 = .ok (.newarray .int, 2) := by decide +kernel
theorem dX0_init_46 : decode cX0_init 46 = .ok (.putfield 31, 3) := by decide +kernel
theorem dX0_init_49 : decode cX0_init 49 = .ok (.aload_n 0, 1) := by decide +kernel
theorem dX0_init_50 : decode cX0_init 50 = .ok (.iconst 5, 1) := by decide +kernel
theorem dX0_init_51 : decode cX0_init 51 = .ok (.newarray .int, 2) := by decide +kernel
theorem dX0_init_53 : decode cX0_init 53 = .ok (.putfield 34, 3) := by decide +kernel
theorem dX0_init_56 : decode cX0_init 56 = .ok (.aload_n 0, 1) := by decide +kernel
theorem dX0_init_57 : decode cX0_init 57 = .ok (.iconst 0, 1) := by decide +kernel
theorem dX0_init_58 : decode cX0_init 58 = .ok (.putfield 37, 3) := by decide +kernel
theorem dX0_init_61 : decode cX0_init 61 = .ok (.aload_n 0, 1) := by decide +kernel
theorem dX0_init_62 : decode cX0_init 62 = .ok (.iconst 0, 1) := by decide +kernel
theorem dX0_init_63 : decode cX0_init 63 = .ok (.putfield 40, 3) := by decide +kernel
theorem dX0_init_66 : decode cX0_init 66 = .ok (.aload_n 0, 1) := by decide +kernel
theorem dX0_init_67 : decode cX0_init 67 = .ok (.iconst 0, 1) := by decide +kernel
theorem dX0_init_68 : decode cX0_init 68 = .ok (.putfield 43, 3) := by decide +kernel
theorem dX0_init_71 : decode cX0_init 71 = .ok (.return_, 1) := by decide +kernel
theorem dX0_clear_0 : decode cX0_clear 0 = .ok (.aload_n 0, 1) := by decide +kernel
theorem dX0_clear_1 : decode cX0_clear 1 = .ok (.iconst 0, 1) := by decide +kernel
theorem dX0_clear_2 : decode cX0_clear 2 = .ok (.iconst 4, 1) := by decide +kernel
theorem dX0_clear_3 : decode cX0_clear 3 = .ok (.iload_n 1, 1) := by decide +kernel
theorem dX0_clear_4 : decode cX0_clear 4 = .ok (.invokestatic 46, 3) := by decide +kernel
theorem dX0_clear_7 : decode cX0_clear 7 = .ok (.invokestatic 52, 3) := by decide +kernel
theorem dX0_clear_10 : decode cX0_clear 10 = .ok (.putfield 9, 3) := by decide +kernel
theorem dX0_clear_13 : decode cX0_clear 13 = .ok (.aload_n 0, 1) := by decide +kernel
theorem dX0_clear_14 : decode cX0_clear 14 = .ok (.iconst 0, 1) := by decide +kernel
theorem dX0_clear_15 : decode cX0_clear 15 = .ok (.iconst 5, 1) := by decide +kernel
theorem dX0_clear_16 : decode cX0_clear 16 = .ok (.iload_n 2, 1) := by decide +kernel
theorem dX0_clear_17 : decode cX0_clear 17 = .ok (.invokestatic 46, 3) := by decide +kernel
theorem dX0_clear_20 : decode cX0_clear 20 = .ok (.invokestatic 52, 3) := by decide +kernel
theorem dX0_clear_23 : decode cX0_clear 23 = .ok (.putfield 15, 3) := by decide +kernel
theorem dX0_clear_26 : decode cX0_clear 26 = .ok (.iconst 0, 1) := by decide +kernel
theorem dX0_clear_27 : decode cX0_clear 27 = .ok (.istore_n 3, 1) := by decide +kernel
theorem dX0_clear_28 : decode cX0_clear 28 = .ok (.iload_n 3, 1) := by decide +kernel
theorem dX0_clear_29 : decode cX0_clear 29 = .ok (.iconst 5, 1) := by decide +kernel
theorem dX0_clear_30 : decode cX0_clear 30 = .ok (.if_icmp .ge 16, 3) := by decide +kernel
theorem dX0_clear_33 : decode cX0_clear 33 = .ok (.aload_n 0, 1) := by decide +kernel
theorem dX0_clear_34 : decode cX0_clear 34 = .ok (.getfield 34, 3) := by decide +kernel
theorem dX0_clear_37 : decode cX0_clear 37 = .ok (.iload_n 3, 1) := by decide +kernel
theorem dX0_clear_38 : decode cX0_clear 38 = .ok (.iconst 0, 1) := by decide +kernel
theorem dX0_clear_39 : decode cX0_clear 39 = .ok (.iastore, 1) := by decide +kernel
theorem dX0_clear_40 : decode cX0_clear 40 = .ok (.iinc 3 1, 3) := by decide +kernel
theorem dX0_clear_43 : decode cX0_clear 43 = .ok (.goto (-15), 3) := by decide +kernel
theorem dX0_clear_46 : decode cX0_clear 46 = .ok (.aload_n 0, 1) := by decide +kernel
theorem dX0_clear_47 : decode cX0_clear 47 = .ok (.iconst 0, 1) := by decide +kernel
theorem dX0_clear_48 : decode cX0_clear 48 = .ok (.putfield 37, 3) := by decide +kernel
theorem dX0_clear_51 : decode cX0_clear 51 = .ok (.aload_n 0, 1) := by decide +kernel
theorem dX0_clear_52 : decode cX0_clear 52 = .ok (.iconst 0, 1) := by decide +kernel
theorem dX0_clear_53 : decode cX0_clear 53 = .ok (.putfield 40, 3) := by decide +kernel
theorem dX0_clear_56 : decode cX0_clear 56 = .ok (.aload_n 0, 1) := by decide +kernel
theorem dX0_clear_57 : decode cX0_clear 57 = .ok (.iconst 0, 1) := by decide +kernel
theorem dX0_clear_58 : decode cX0_clear 58 = .ok (.putfield 43, 3) := by decide +kernel
theorem dX0_clear_61 : decode cX0_clear 61 = .ok (.return_, 1) := by decide +kernel
theorem dX0_copyFrom_0 : decode cX0_copyFrom 0 = .ok (.aload_n 0, 1) := by decide +kernel
theorem dX0_copyFrom_1 : decode cX0_copyFrom 1 = .ok (.aload_n 1, 1) := by decide +kernel
theorem dX0_copyFrom_2 : decode cX0_copyFrom 2 = .ok (.getfield 9, 3) := by decide +kernel
theorem dX0_copyFrom_5 : decode cX0_copyFrom 5 = .ok (.putfield 9, 3) := by decide +kernel
theorem dX0_copyFrom_8 : decode cX0_copyFrom 8 = .ok (.aload_n 0, 1) := by decide +kernel
theorem dX0_copyFrom_9 : decode cX0_copyFrom 9 = .ok (.aload_n 1, 1) := by decide +kernel
theorem dX0_copyFrom_10 : decode cX0_copyFrom 10 = .ok (.getfield 15, 3) := by decide +kernel
theorem dX0_copyFrom_13 : decode cX0_copyFrom 13 = .ok (.putfield 15, 3) := by decide +kernel
theorem dX0_copyFrom_16 : decode cX0_copyFrom 16 = .ok (.iconst 0, 1) := by decide +kernel
theorem dX0_copyFrom_17 : decode cX0_copyFrom 17 = .ok (.istore_n 2, 1) := by decide +kernel
theorem dX0_copyFrom_18 : decode cX0_copyFrom 18 = .ok (.iload_n 2, 1) := by decide +kernel
theorem dX0_copyFrom_19 : decode cX0_copyFrom 19 = .ok (.iconst 4, 1) := by decide +kernel
theorem dX0_copyFrom_20 : decode cX0_copyFrom 20 = .ok (.if_icmp .ge 21, 3) := by decide +kernel
theorem dX0_copyFrom_23 : decode cX0_copyFrom 23 = .ok (.aload_n 0, 1) := by decide +kernel
theorem dX0_copyFrom_24 : decode cX0_copyFrom 24 = .ok (.getfield 18, 3) := by decide +kernel
theorem dX0_copyFrom_27 : decode cX0_copyFrom 27 = .ok (.iload_n 2, 1) := by decide +kernel
theorem dX0_copyFrom_28 : decode cX0_copyFrom 28 = .ok (.aload_n 1, 1) := by decide +kernel
theorem dX0_copyFrom_29 : decode cX0_copyFrom 29 = .ok (.getfield 18, 3) := by decide +kernel
theorem dX0_copyFrom_32 : decode cX0_copyFrom 32 = .ok (.iload_n 2, 1) := by decide +kernel
theorem dX0_copyFrom_33 : decode cX0_copyFrom 33 = .ok (.iaload, 1) := by decide +kernel
theorem dX0_copyFrom_34 : decode cX0_copyFrom 34 = .ok (.iastore, 1) := by decide +kernel
theorem dX0_copyFrom_35 : decode cX0_copyFrom 35 = .ok (.iinc 2 1, 3) := by decide +kernel
theorem dX0_copyFrom_38 : decode cX0_copyFrom 38 = .ok (.goto (-20), 3) := by decide +kernel
theorem dX0_copyFrom_41 : decode cX0_copyFrom 41 = .ok (.iconst 0, 1) := by decide +kernel
theorem dX0_copyFrom_42 : decode cX0_copyFrom 42 = .ok (.istore_n 2, 1) := by decide +kernel
theorem dX0_copyFrom_43 : decode cX0_copyFrom 43 = .ok (.iload_n 2, 1) := by decide +kernel
theorem dX0_copyFrom_44 : decode cX0_copyFrom 44 = .ok (.iconst 5, 1) := by decide +kernel
theorem dX0_copyFrom_45 : decode cX0_copyFrom 45 = .ok (.if_icmp .ge 69, 3) := by decide +kernel
theorem dX0_copyFrom_48 : decode cX0_copyFrom 48 = .ok (.aload_n 0, 1) := by decide +kernel
theorem dX0_copyFrom_49 : decode cX0_copyFrom 49 = .ok (.getfield 22, 3) := by decide +kernel
theorem dX0_copyFrom_52 : decode cX0_copyFrom 52 = .ok (.iload_n 2, 1) := by decide +kernel
theorem dX0_copyFrom_53 : decode cX0_copyFrom 53 = .ok (.aload_n 1, 1) := by decide +kernel
theorem dX0_copyFrom_54 : decode cX0_copyFrom 54 = .ok (.getfield 22, 3) := by decide +kernel
theorem dX0_copyFrom_57 : decode cX0_copyFrom 57 = .ok (.iload_n 2, 1) := by decide +kernel
theorem dX0_copyFrom_58 : decode cX0_copyFrom 58 = .ok (.iaload, 1) := by decide +kernel
theorem dX0_copyFrom_59 : decode cX0_copyFrom 59 = .ok (.iastore, 1) := by decide +kernel
theorem dX0_copyFrom_60 : decode cX0_copyFrom 60 = .ok (.aload_n 0, 1) := by decide +kernel
theorem dX0_copyFrom_61 : decode cX0_copyFrom 61 = .ok (.getfield 25, 3) := by decide +kernel
theorem dX0_copyFrom_64 : decode cX0_copyFrom 64 = .ok (.iload_n 2, 1) := by decide +kernel
theorem dX0_copyFrom_65 : decode cX0_copyFrom 65 = .ok (.aload_n 1, 1) := by decide +kernel
theorem dX0_copyFrom_66 : decode cX0_copyFrom 66 = .ok (.getfield 25, 3) := by decide +kernel
theorem dX0_copyFrom_69 : decode cX0_copyFrom 69 = .ok (.iload_n 2, 1) := by decide +kernel
theorem dX0_copyFrom_70 : decode cX0_copyFrom 70 = .ok (.iaload, 1) := by decide +kernel
theorem dX0_copyFrom_71 : decode cX0_copyFrom 71 = .ok (.iastore, 1) := by decide +kernel
theorem dX0_copyFrom_72 : decode cX0_copyFrom 72 = .ok (.aload_n 0, 1) := by decide +kernel
theorem dX0_copyFrom_73 : decode cX0_copyFrom 73 = .ok (.getfield 28, 3) := by decide +kernel
theorem dX0_copyFrom_76 : decode cX0_copyFrom 76 = .ok (.iload_n 2, 1) := by decide +kernel
theorem dX0_copyFrom_77 : decode cX0_copyFrom 77 = .ok (.aload_n 1, 1) := by decide +kernel
theorem dX0_copyFrom_78 : decode cX0_copyFrom 78 = .ok (.getfield 28, 3) := by decide +kernel
theorem dX0_copyFrom_81 : decode cX0_copyFrom 81 = .ok (.iload_n 2, 1) := by decide +kernel
theorem dX0_copyFrom_82 : decode cX0_copyFrom 82 = .ok (.iaload, 1) := by decide +kernel
theorem dX0_copyFrom_83 : decode cX0_copyFrom 83 = .ok (.iastore, 1) := by decide +kernel
theorem dX0_copyFrom_84 : decode cX0_copyFrom 84 = .ok (.aload_n 0, 1) := by decide +kernel
theorem dX0_copyFrom_85 : decode cX0_copyFrom 85 = .ok (.getfield 31, 3) := by decide +kernel
theorem dX0_copyFrom_88 : decode cX0_copyFrom 88 = .ok (.iload_n 2, 1) := by decide +kernel
theorem dX0_copyFrom_89 : decode cX0_copyFrom 89 = .ok (.aload_n 1, 1) := by decide +kernel
theorem dX0_copyFrom_90 : decode cX0_copyFrom 90 = .ok (.getfield 31, 3) := by decide +kernel
theorem dX0_copyFrom_93 : decode cX0_copyFrom 93 = .ok (.iload_n 2, 1) := by decide +kernel
theorem dX0_copyFrom_94 : decode cX0_copyFrom 94 = .ok (.iaload, 1) := by decide +kernel
theorem dX0_copyFrom_95 : decode cX0_copyFrom 95 = .ok (.iastore, 1) := by decide +kernel
theorem dX0_copyFrom_96 : decode cX0_copyFrom 96 = .ok (.aload_n 0, 1) := by decide +kernel
theorem dX0_copyFrom_97 : decode cX0_copyFrom 97 = .ok (.getfield 34, 3) := by decide +kernel
theorem dX0_copyFrom_100 : decode cX0_copyFrom 100 = .ok (.iload_n 2, 1) := by decide +kernel
theorem dX0_copyFrom_101 : decode cX0_copyFrom 101 = .ok (.aload_n 1, 1) := by decide +kernel
theorem dX0_copyFrom_102 : decode cX0_copyFrom 102 = .ok (.getfield 34, 3) := by decide +kernel
theorem dX0_copyFrom_105 : decode cX0_copyFrom 105 = .ok (.iload_n 2, 1) := by decide +kernel
theorem dX0_copyFrom_106 : decode cX0_copyFrom 106 = .ok (.iaload, 1) := by decide +kernel
theorem dX0_copyFrom_107 : decode cX0_copyFrom 107 = .ok (.iastore, 1) := by decide +kernel
theorem dX0_copyFrom_108 : decode cX0_copyFrom 108 = .ok (.iinc 2 1, 3) := by decide +kernel
theorem dX0_copyFrom_111 : decode cX0_copyFrom 111 = .ok (.goto (-68), 3) := by decide +kernel
theorem dX0_copyFrom_114 : decode cX0_copyFrom 114 = .ok (.aload_n 0, 1) := by decide +kernel
theorem dX0_copyFrom_115 : decode cX0_copyFrom 115 = .ok (.aload_n 1, 1) := by decide +kernel
theorem dX0_copyFrom_116 : decode cX0_copyFrom 116 = .ok (.getfield 37, 3) := by decide +kernel
theorem dX0_copyFrom_119 : decode cX0_copyFrom 119 = .ok (.putfield 37, 3) := by decide +kernel
theorem dX0_copyFrom_122 : decode cX0_copyFrom 122 = .ok (.aload_n 0, 1) := by decide +kernel
theorem dX0_copyFrom_123 : decode cX0_copyFrom 123 = .ok (.aload_n 1, 1) := by decide +kernel
theorem dX0_copyFrom_124 : decode cX0_copyFrom 124 = .ok (.getfield 40, 3) := by decide +kernel
theorem dX0_copyFrom_127 : decode cX0_copyFrom 127 = .ok (.putfield 40, 3) := by decide +kernel
theorem dX0_copyFrom_130 : decode cX0_copyFrom 130 = .ok (.aload_n 0, 1) := by decide +kernel
theorem dX0_copyFrom_131 : decode cX0_copyFrom 131 = .ok (.aload_n 1, 1) := by decide +kernel
theorem dX0_copyFrom_132 : decode cX0_copyFrom 132 = .ok (.getfield 43, 3) := by decide +kernel
theorem dX0_copyFrom_135 : decode cX0_copyFrom 135 = .ok (.putfield 43, 3) := by decide +kernel
theorem dX0_copyFrom_138 : decode cX0_copyFrom 138 = .ok (.return_, 1) := by decide +kernel
theorem dX0_holdBut_0 : decode cX0_holdBut 0 = .ok (.iconst 3, 1) := by decide +kernel
theorem dX0_holdBut_1 : decode cX0_holdBut 1 = .ok (.aload_n 0, 1) := by decide +kernel
theorem dX0_holdBut_2 : decode cX0_holdBut 2 = .ok (.getfield 18, 3) := by decide +kernel
theorem dX0_holdBut_5 : decode cX0_holdBut 5 = .ok (.iload_n 2, 1) := by decide +kernel
theorem dX0_holdBut_6 : decode cX0_holdBut 6 = .ok (.iaload, 1) := by decide +kernel
theorem dX0_holdBut_7 : decode cX0_holdBut 7 = .ok (.imul, 1) := by decide +kernel
theorem dX0_holdBut_8 : decode cX0_holdBut 8 = .ok (.istore 4, 2) := by decide +kernel
theorem dX0_holdBut_10 : decode cX0_holdBut 10 = .ok (.iconst 0, 1) := by decide +kernel
theorem dX0_holdBut_11 : decode cX0_holdBut 11 = .ok (.istore 5, 2) := by decide +kernel
theorem dX0_holdBut_13 : decode cX0_holdBut 13 = .ok (.iload 5, 2) := by decide +kernel
theorem dX0_holdBut_15 : decode cX0_holdBut 15 = .ok (.aload_n 0, 1) := by decide +kernel
theorem dX0_holdBut_16 : decode cX0_holdBut 16 = .ok (.getfield 15, 3) := by decide +kernel
theorem dX0_holdBut_19 : decode cX0_holdBut 19 = .ok (.if_icmp .ge 67, 3) := by decide +kernel
theorem dX0_holdBut_22 : decode cX0_holdBut 22 = .ok (.aload_n 0, 1) := by decide +kernel
theorem dX0_holdBut_23 : decode cX0_holdBut 23 = .ok (.getfield 28, 3) := by decide +kernel
theorem dX0_holdBut_26 : decode cX0_holdBut 26 = .ok (.iload 5, 2) := by decide +kernel
theorem dX0_holdBut_28 : decode cX0_holdBut 28 = .ok (.iaload, 1) := by decide +kernel
theorem dX0_holdBut_29 : decode cX0_holdBut 29 = .ok (.iload_n 2, 1) := by decide +kernel
theorem dX0_holdBut_30 : decode cX0_holdBut 30 = .ok (.if_icmp .ne 50, 3) := by decide +kernel
theorem dX0_holdBut_33 : decode cX0_holdBut 33 = .ok (.iload 5, 2) := by decide +kernel
theorem dX0_holdBut_35 : decode cX0_holdBut 35 = .ok (.iload_n 1, 1) := by decide +kernel
theorem dX0_holdBut_36 : decode cX0_holdBut 36 = .ok (.if_icmp .eq 44, 3) := by decide +kernel
theorem dX0_holdBut_39 : decode cX0_holdBut 39 = .ok (.iload 4, 2) := by decide +kernel
theorem dX0_holdBut_41 : decode cX0_holdBut 41 = .ok (.aload_n 0, 1) := by decide +kernel
theorem dX0_holdBut_42 : decode cX0_holdBut 42 = .ok (.getfield 22, 3) := by decide +kernel
theorem dX0_holdBut_45 : decode cX0_holdBut 45 = .ok (.iload 5, 2) := by decide +kernel
theorem dX0_holdBut_47 : decode cX0_holdBut 47 = .ok (.iaload, 1) := by decide +kernel
theorem dX0_holdBut_48 : decode cX0_holdBut 48 = .ok (.aload_n 0, 1) := by decide +kernel
theorem dX0_holdBut_49 : decode cX0_holdBut 49 = .ok (.getfield 25, 3) := by decide +kernel
theorem dX0_holdBut_52 : decode cX0_holdBut 52 = .ok (.iload 5, 2) := by decide +kernel
theorem dX0_holdBut_54 : decode cX0_holdBut 54 = .ok (.iaload, 1) := by decide +kernel
theorem dX0_holdBut_55 : decode cX0_holdBut 55 = .ok (.aload_n 0, 1) := by decide +kernel
theorem dX0_holdBut_56 : decode cX0_holdBut 56 = .ok (.getfield 34, 3) := by decide +kernel
theorem dX0_holdBut_59 : decode cX0_holdBut 59 = .ok (.iload 5, 2) := by decide +kernel
theorem dX0_holdBut_61 : decode cX0_holdBut 61 = .ok (.iaload, 1) := by decide +kernel
theorem dX0_holdBut_62 : decode cX0_holdBut 62 = .ok (.invokestatic 55, 3) := by decide +kernel
theorem dX0_holdBut_65 : decode cX0_holdBut 65 = .ok (.aload_n 0, 1) := by decide +kernel
theorem dX0_holdBut_66 : decode cX0_holdBut 66 = .ok (.getfield 31, 3) := by decide +kernel
theorem dX0_holdBut_69 : decode cX0_holdBut 69 = .ok (.iload 5, 2) := by decide +kernel
theorem dX0_holdBut_71 : decode cX0_holdBut 71 = .ok (.iaload, 1) := by decide +kernel
theorem dX0_holdBut_72 : decode cX0_holdBut 72 = .ok (.iload_n 3, 1) := by decide +kernel
theorem dX0_holdBut_73 : decode cX0_holdBut 73 = .ok (.invokestatic 59, 3) := by decide +kernel
theorem dX0_holdBut_76 : decode cX0_holdBut 76 = .ok (.imul, 1) := by decide +kernel
theorem dX0_holdBut_77 : decode cX0_holdBut 77 = .ok (.iadd, 1) := by decide +kernel
theorem dX0_holdBut_78 : decode cX0_holdBut 78 = .ok (.istore 4, 2) := by decide +kernel
theorem dX0_holdBut_80 : decode cX0_holdBut 80 = .ok (.iinc 5 1, 3) := by decide +kernel
theorem dX0_holdBut_83 : decode cX0_holdBut 83 = .ok (.goto (-70), 3) := by decide +kernel
theorem dX0_holdBut_86 : decode cX0_holdBut 86 = .ok (.iload 4, 2) := by decide +kernel
theorem dX0_holdBut_88 : decode cX0_holdBut 88 = .ok (.ireturn, 1) := by decide +kernel
theorem dX0_holdIfOunces_0 : decode cX0_holdIfOunces 0 = .ok (.aload_n 0, 1) := by decide +kernel
theorem dX0_holdIfOunces_1 : decode cX0_holdIfOunces 1 = .ok (.getfield 28, 3) := by decide +kernel
theorem dX0_holdIfOunces_4 : decode cX0_holdIfOunces 4 = .ok (.iload_n 1, 1) := by decide +kernel
theorem dX0_holdIfOunces_5 : decode cX0_holdIfOunces 5 = .ok (.iaload, 1) := by decide +kernel
theorem dX0_holdIfOunces_6 : decode cX0_holdIfOunces 6 = .ok (.istore 4, 2) := by decide +kernel
theorem dX0_holdIfOunces_8 : decode cX0_holdIfOunces 8 = .ok (.iload 4, 2) := by decide +kernel
theorem dX0_holdIfOunces_10 : decode cX0_holdIfOunces 10 = .ok (.iconst (-1), 1) := by decide +kernel
theorem dX0_holdIfOunces_11 : decode cX0_holdIfOunces 11 = .ok (.if_icmp .ne 5, 3) := by decide +kernel
theorem dX0_holdIfOunces_14 : decode cX0_holdIfOunces 14 = .ok (.iconst 0, 1) := by decide +kernel
theorem dX0_holdIfOunces_15 : decode cX0_holdIfOunces 15 = .ok (.ireturn, 1) := by decide +kernel
theorem dX0_holdIfOunces_16 : decode cX0_holdIfOunces 16 = .ok (.aload_n 0, 1) := by decide +kernel
theorem dX0_holdIfOunces_17 : decode cX0_holdIfOunces 17 = .ok (.getfield 22, 3) := by decide +kernel
theorem dX0_holdIfOunces_20 : decode cX0_holdIfOunces 20 = .ok (.iload_n 1, 1) := by decide +kernel
theorem dX0_holdIfOunces_21 : decode cX0_holdIfOunces 21 = .ok (.iaload, 1) := by decide +kernel
theorem dX0_holdIfOunces_22 : decode cX0_holdIfOunces 22 = .ok (.iload_n 2, 1) := by decide +kernel
theorem dX0_holdIfOunces_23 : decode cX0_holdIfOunces 23 = .ok (.aload_n 0, 1) := by decide +kernel
theorem dX0_holdIfOunces_24 : decode cX0_holdIfOunces 24 = .ok (.getfield 34, 3) := by decide +kernel
theorem dX0_holdIfOunces_27 : decode cX0_holdIfOunces 27 = .ok (.iload_n 1, 1) := by decide +kernel
theorem dX0_holdIfOunces_28 : decode cX0_holdIfOunces 28 = .ok (.iaload, 1) := by decide +kernel
theorem dX0_holdIfOunces_29 : decode cX0_holdIfOunces 29 = .ok (.invokestatic 55, 3) := by decide +kernel
theorem dX0_holdIfOunces_32 : decode cX0_holdIfOunces 32 = .ok (.istore 5, 2) := by decide +kernel
theorem dX0_holdIfOunces_34 : decode cX0_holdIfOunces 34 = .ok (.aload_n 0, 1) := by decide +kernel
theorem dX0_holdIfOunces_35 : decode cX0_holdIfOunces 35 = .ok (.iload_n 1, 1) := by decide +kernel
theorem dX0_holdIfOunces_36 : decode cX0_holdIfOunces 36 = .ok (.iload 4, 2) := by decide +kernel
theorem dX0_holdIfOunces_38 : decode cX0_holdIfOunces 38 = .ok (.iload_n 3, 1) := by decide +kernel
theorem dX0_holdIfOunces_39 : decode cX0_holdIfOunces 39 = .ok (.invokevirtual 62, 3) := by decide +kernel
theorem dX0_holdIfOunces_42 : decode cX0_holdIfOunces 42 = .ok (.iload 5, 2) := by decide +kernel
theorem dX0_holdIfOunces_44 : decode cX0_holdIfOunces 44 = .ok (.aload_n 0, 1) := by decide +kernel
theorem dX0_holdIfOunces_45 : decode cX0_holdIfOunces 45 = .ok (.getfield 31, 3) := by decide +kernel
theorem dX0_holdIfOunces_48 : decode cX0_holdIfOunces 48 = .ok (.iload_n 1, 1) := by decide +kernel
theorem dX0_holdIfOunces_49 : decode cX0_holdIfOunces 49 = .ok (.iaload, 1) := by decide +kernel
theorem dX0_holdIfOunces_50 : decode cX0_holdIfOunces 50 = .ok (.iload_n 3, 1) := by decide +kernel
theorem dX0_holdIfOunces_51 : decode cX0_holdIfOunces 51 = .ok (.invokestatic 59, 3) := by decide +kernel
theorem dX0_holdIfOunces_54 : decode cX0_holdIfOunces 54 = .ok (.imul, 1) := by decide +kernel
theorem dX0_holdIfOunces_55 : decode cX0_holdIfOunces 55 = .ok (.iadd, 1) := by decide +kernel
theorem dX0_holdIfOunces_56 : decode cX0_holdIfOunces 56 = .ok (.ireturn, 1) := by decide +kernel
theorem dX0_holdIfPut_0 : decode cX0_holdIfPut 0 = .ok (.aload_n 0, 1) := by decide +kernel
theorem dX0_holdIfPut_1 : decode cX0_holdIfPut 1 = .ok (.getfield 22, 3) := by decide +kernel
theorem dX0_holdIfPut_4 : decode cX0_holdIfPut 4 = .ok (.iload_n 1, 1) := by decide +kernel
theorem dX0_holdIfPut_5 : decode cX0_holdIfPut 5 = .ok (.iaload, 1) := by decide +kernel
theorem dX0_holdIfPut_6 : decode cX0_holdIfPut 6 = .ok (.aload_n 0, 1) := by decide +kernel
theorem dX0_holdIfPut_7 : decode cX0_holdIfPut 7 = .ok (.getfield 25, 3) := by decide +kernel
theorem dX0_holdIfPut_10 : decode cX0_holdIfPut 10 = .ok (.iload_n 1, 1) := by decide +kernel
theorem dX0_holdIfPut_11 : decode cX0_holdIfPut 11 = .ok (.iaload, 1) := by decide +kernel
theorem dX0_holdIfPut_12 : decode cX0_holdIfPut 12 = .ok (.iconst 0, 1) := by decide +kernel
theorem dX0_holdIfPut_13 : decode cX0_holdIfPut 13 = .ok (.invokestatic 55, 3) := by decide +kernel
theorem dX0_holdIfPut_16 : decode cX0_holdIfPut 16 = .ok (.istore 5, 2) := by decide +kernel
theorem dX0_holdIfPut_18 : decode cX0_holdIfPut 18 = .ok (.aload_n 0, 1) := by decide +kernel
theorem dX0_holdIfPut_19 : decode cX0_holdIfPut 19 = .ok (.iload_n 1, 1) := by decide +kernel
theorem dX0_holdIfPut_20 : decode cX0_holdIfPut 20 = .ok (.iload_n 2, 1) := by decide +kernel
theorem dX0_holdIfPut_21 : decode cX0_holdIfPut 21 = .ok (.iload 4, 2) := by decide +kernel
theorem dX0_holdIfPut_23 : decode cX0_holdIfPut 23 = .ok (.invokevirtual 62, 3) := by decide +kernel
theorem dX0_holdIfPut_26 : decode cX0_holdIfPut 26 = .ok (.iload 5, 2) := by decide +kernel
theorem dX0_holdIfPut_28 : decode cX0_holdIfPut 28 = .ok (.iload_n 3, 1) := by decide +kernel
theorem dX0_holdIfPut_29 : decode cX0_holdIfPut 29 = .ok (.iload 4, 2) := by decide +kernel
theorem dX0_holdIfPut_31 : decode cX0_holdIfPut 31 = .ok (.invokestatic 59, 3) := by decide +kernel
theorem dX0_holdIfPut_34 : decode cX0_holdIfPut 34 = .ok (.imul, 1) := by decide +kernel
theorem dX0_holdIfPut_35 : decode cX0_holdIfPut 35 = .ok (.iadd, 1) := by decide +kernel
theorem dX0_holdIfPut_36 : decode cX0_holdIfPut 36 = .ok (.ireturn, 1) := by decide +kernel
theorem dX0_leastOf_0 : decode cX0_leastOf 0 = .ok (.aload_n 0, 1) := by decide +kernel
theorem dX0_leastOf_1 : decode cX0_leastOf 1 = .ok (.iconst (-1), 1) := by decide +kernel
theorem dX0_leastOf_2 : decode cX0_leastOf 2 = .ok (.iload_n 1, 1) := by decide +kernel
theorem dX0_leastOf_3 : decode cX0_leastOf 3 = .ok (.iconst 0, 1) := by decide +kernel
theorem dX0_leastOf_4 : decode cX0_leastOf 4 = .ok (.invokevirtual 62, 3) := by decide +kernel
theorem dX0_leastOf_7 : decode cX0_leastOf 7 = .ok (.aload_n 0, 1) := by decide +kernel
theorem dX0_leastOf_8 : decode cX0_leastOf 8 = .ok (.iconst (-1), 1) := by decide +kernel
theorem dX0_leastOf_9 : decode cX0_leastOf 9 = .ok (.iload_n 1, 1) := by decide +kernel
theorem dX0_leastOf_10 : decode cX0_leastOf 10 = .ok (.iconst 1, 1) := by decide +kernel
theorem dX0_leastOf_11 : decode cX0_leastOf 11 = .ok (.invokevirtual 62, 3) := by decide +kernel
theorem dX0_leastOf_14 : decode cX0_leastOf 14 = .ok (.invokestatic 46, 3) := by decide +kernel
theorem dX0_leastOf_17 : decode cX0_leastOf 17 = .ok (.invokestatic 65, 3) := by decide +kernel
theorem dX0_leastOf_20 : decode cX0_leastOf 20 = .ok (.ireturn, 1) := by decide +kernel
theorem dX0_leastOfAll_0 : decode cX0_leastOfAll 0 = .ok (.bipush 99, 2) := by decide +kernel
theorem dX0_leastOfAll_2 : decode cX0_leastOfAll 2 = .ok (.istore_n 1, 1) := by decide +kernel
theorem dX0_leastOfAll_3 : decode cX0_leastOfAll 3 = .ok (.iconst 0, 1) := by decide +kernel
theorem dX0_leastOfAll_4 : decode cX0_leastOfAll 4 = .ok (.istore_n 2, 1) := by decide +kernel
theorem dX0_leastOfAll_5 : decode cX0_leastOfAll 5 = .ok (.iload_n 2, 1) := by decide +kernel
theorem dX0_leastOfAll_6 : decode cX0_leastOfAll 6 = .ok (.aload_n 0, 1) := by decide +kernel
theorem dX0_leastOfAll_7 : decode cX0_leastOfAll 7 = .ok (.getfield 9, 3) := by decide +kernel
theorem dX0_leastOfAll_10 : decode cX0_leastOfAll 10 = .ok (.if_icmp .ge 19, 3) := by decide +kernel
theorem dX0_leastOfAll_13 : decode cX0_leastOfAll 13 = .ok (.iload_n 1, 1) := by decide +kernel
theorem dX0_leastOfAll_14 : decode cX0_leastOfAll 14 = .ok (.aload_n 0, 1) := by decide +kernel
theorem dX0_leastOfAll_15 : decode cX0_leastOfAll 15 = .ok (.iload_n 2, 1) := by decide +kernel
theorem dX0_leastOfAll_16 : decode cX0_leastOfAll 16 = .ok (.invokevirtual 69, 3) := by decide +kernel
theorem dX0_leastOfAll_19 : decode cX0_leastOfAll 19 = .ok (.invokestatic 46, 3) := by decide +kernel
theorem dX0_leastOfAll_22 : decode cX0_leastOfAll 22 = .ok (.istore_n 1, 1) := by decide +kernel
theorem dX0_leastOfAll_23 : decode cX0_leastOfAll 23 = .ok (.iinc 2 1, 3) := by decide +kernel
theorem dX0_leastOfAll_26 : decode cX0_leastOfAll 26 = .ok (.goto (-21), 3) := by decide +kernel
theorem dX0_leastOfAll_29 : decode cX0_leastOfAll 29 = .ok (.iload_n 1, 1) := by decide +kernel
theorem dX0_leastOfAll_30 : decode cX0_leastOfAll 30 = .ok (.ireturn, 1) := by decide +kernel
theorem dX0_leastIfPut_0 : decode cX0_leastIfPut 0 = .ok (.aload_n 0, 1) := by decide +kernel
theorem dX0_leastIfPut_1 : decode cX0_leastIfPut 1 = .ok (.iload_n 1, 1) := by decide +kernel
theorem dX0_leastIfPut_2 : decode cX0_leastIfPut 2 = .ok (.iload_n 2, 1) := by decide +kernel
theorem dX0_leastIfPut_3 : decode cX0_leastIfPut 3 = .ok (.iload_n 3, 1) := by decide +kernel
theorem dX0_leastIfPut_4 : decode cX0_leastIfPut 4 = .ok (.iconst 0, 1) := by decide +kernel
theorem dX0_leastIfPut_5 : decode cX0_leastIfPut 5 = .ok (.invokevirtual 72, 3) := by decide +kernel
theorem dX0_leastIfPut_8 : decode cX0_leastIfPut 8 = .ok (.aload_n 0, 1) := by decide +kernel
theorem dX0_leastIfPut_9 : decode cX0_leastIfPut 9 = .ok (.iload_n 1, 1) := by decide +kernel
theorem dX0_leastIfPut_10 : decode cX0_leastIfPut 10 = .ok (.iload_n 2, 1) := by decide +kernel
theorem dX0_leastIfPut_11 : decode cX0_leastIfPut 11 = .ok (.iload_n 3, 1) := by decide +kernel
theorem dX0_leastIfPut_12 : decode cX0_leastIfPut 12 = .ok (.iconst 1, 1) := by decide +kernel
theorem dX0_leastIfPut_13 : decode cX0_leastIfPut 13 = .ok (.invokevirtual 72, 3) := by decide +kernel
theorem dX0_leastIfPut_16 : decode cX0_leastIfPut 16 = .ok (.invokestatic 46, 3) := by decide +kernel
theorem dX0_leastIfPut_19 : decode cX0_leastIfPut 19 = .ok (.invokestatic 65, 3) := by decide +kernel
theorem dX0_leastIfPut_22 : decode cX0_leastIfPut 22 = .ok (.ireturn, 1) := by decide +kernel
theorem dX0_bestPlace_0 : decode cX0_bestPlace 0 = .ok (.iconst 0, 1) := by decide +kernel
theorem dX0_bestPlace_1 : decode cX0_bestPlace 1 = .ok (.istore_n 3, 1) := by decide +kernel
theorem dX0_bestPlace_2 : decode cX0_bestPlace 2 = .ok (.iconst (-1), 1) := by decide +kernel
theorem dX0_bestPlace_3 : decode cX0_bestPlace 3 = .ok (.istore 4, 2) := by decide +kernel
theorem dX0_bestPlace_5 : decode cX0_bestPlace 5 = .ok (.iconst 0, 1) := by decide +kernel
theorem dX0_bestPlace_6 : decode cX0_bestPlace 6 = .ok (.istore 5, 2) := by decide +kernel
theorem dX0_bestPlace_8 : decode cX0_bestPlace 8 = .ok (.iload 5, 2) := by decide +kernel
theorem dX0_bestPlace_10 : decode cX0_bestPlace 10 = .ok (.iconst 4, 1) := by decide +kernel
theorem dX0_bestPlace_11 : decode cX0_bestPlace 11 = .ok (.if_icmp .gt 33, 3) := by decide +kernel
theorem dX0_bestPlace_14 : decode cX0_bestPlace 14 = .ok (.aload_n 0, 1) := by decide +kernel
theorem dX0_bestPlace_15 : decode cX0_bestPlace 15 = .ok (.iload_n 1, 1) := by decide +kernel
theorem dX0_bestPlace_16 : decode cX0_bestPlace 16 = .ok (.iload_n 2, 1) := by decide +kernel
theorem dX0_bestPlace_17 : decode cX0_bestPlace 17 = .ok (.iload 5, 2) := by decide +kernel
theorem dX0_bestPlace_19 : decode cX0_bestPlace 19 = .ok (.invokevirtual 76, 3) := by decide +kernel
theorem dX0_bestPlace_22 : decode cX0_bestPlace 22 = .ok (.istore 6, 2) := by decide +kernel
theorem dX0_bestPlace_24 : decode cX0_bestPlace 24 = .ok (.iload 6, 2) := by decide +kernel
theorem dX0_bestPlace_26 : decode cX0_bestPlace 26 = .ok (.iload 4, 2) := by decide +kernel
theorem dX0_bestPlace_28 : decode cX0_bestPlace 28 = .ok (.if_icmp .le 10, 3) := by decide +kernel
theorem dX0_bestPlace_31 : decode cX0_bestPlace 31 = .ok (.iload 6, 2) := by decide +kernel
theorem dX0_bestPlace_33 : decode cX0_bestPlace 33 = .ok (.istore 4, 2) := by decide +kernel
theorem dX0_bestPlace_35 : decode cX0_bestPlace 35 = .ok (.iload 5, 2) := by decide +kernel
theorem dX0_bestPlace_37 : decode cX0_bestPlace 37 = .ok (.istore_n 3, 1) := by decide +kernel
theorem dX0_bestPlace_38 : decode cX0_bestPlace 38 = .ok (.iinc 5 1, 3) := by decide +kernel
theorem dX0_bestPlace_41 : decode cX0_bestPlace 41 = .ok (.goto (-33), 3) := by decide +kernel
theorem dX0_bestPlace_44 : decode cX0_bestPlace 44 = .ok (.iload_n 3, 1) := by decide +kernel
theorem dX0_bestPlace_45 : decode cX0_bestPlace 45 = .ok (.ireturn, 1) := by decide +kernel
theorem dX0_leastOfAllIfMended_0 : decode cX0_leastOfAllIfMended 0 = .ok (.aload_n 0, 1) := by decide +kernel
theorem dX0_leastOfAllIfMended_1 : decode cX0_leastOfAllIfMended 1 = .ok (.getfield 25, 3) := by decide +kernel
theorem dX0_leastOfAllIfMended_4 : decode cX0_leastOfAllIfMended 4 = .ok (.iload_n 1, 1) := by decide +kernel
theorem dX0_leastOfAllIfMended_5 : decode cX0_leastOfAllIfMended 5 = .ok (.iaload, 1) := by decide +kernel
theorem dX0_leastOfAllIfMended_6 : decode cX0_leastOfAllIfMended 6 = .ok (.iconst 1, 1) := by decide +kernel
theorem dX0_leastOfAllIfMended_7 : decode cX0_leastOfAllIfMended 7 = .ok (.iadd, 1) := by decide +kernel
theorem dX0_leastOfAllIfMended_8 : decode cX0_leastOfAllIfMended 8 = .ok (.istore_n 2, 1) := by decide +kernel
theorem dX0_leastOfAllIfMended_9 : decode cX0_leastOfAllIfMended 9 = .ok (.aload_n 0, 1) := by decide +kernel
theorem dX0_leastOfAllIfMended_10 : decode cX0_leastOfAllIfMended 10 = .ok (.iload_n 1, 1) := by decide +kernel
theorem dX0_leastOfAllIfMended_11 : decode cX0_leastOfAllIfMended 11 = .ok (.iload_n 2, 1) := by decide +kernel
theorem dX0_leastOfAllIfMended_12 : decode cX0_leastOfAllIfMended 12 = .ok (.iconst 0, 1) := by decide +kernel
theorem dX0_leastOfAllIfMended_13 : decode cX0_leastOfAllIfMended 13 = .ok (.invokevirtual 79, 3) := by decide +kernel
theorem dX0_leastOfAllIfMended_16 : decode cX0_leastOfAllIfMended 16 = .ok (.aload_n 0, 1) := by decide +kernel
theorem dX0_leastOfAllIfMended_17 : decode cX0_leastOfAllIfMended 17 = .ok (.iload_n 1, 1) := by decide +kernel
theorem dX0_leastOfAllIfMended_18 : decode cX0_leastOfAllIfMended 18 = .ok (.iload_n 2, 1) := by decide +kernel
theorem dX0_leastOfAllIfMended_19 : decode cX0_leastOfAllIfMended 19 = .ok (.iconst 1, 1) := by decide +kernel
theorem dX0_leastOfAllIfMended_20 : decode cX0_leastOfAllIfMended 20 = .ok (.invokevirtual 79, 3) := by decide +kernel
theorem dX0_leastOfAllIfMended_23 : decode cX0_leastOfAllIfMended 23 = .ok (.invokestatic 46, 3) := by decide +kernel
theorem dX0_leastOfAllIfMended_26 : decode cX0_leastOfAllIfMended 26 = .ok (.invokestatic 65, 3) := by decide +kernel
theorem dX0_leastOfAllIfMended_29 : decode cX0_leastOfAllIfMended 29 = .ok (.istore_n 3, 1) := by decide +kernel
theorem dX0_leastOfAllIfMended_30 : decode cX0_leastOfAllIfMended 30 = .ok (.iconst 0, 1) := by decide +kernel
theorem dX0_leastOfAllIfMended_31 : decode cX0_leastOfAllIfMended 31 = .ok (.istore 4, 2) := by decide +kernel
theorem dX0_leastOfAllIfMended_33 : decode cX0_leastOfAllIfMended 33 = .ok (.iload 4, 2) := by decide +kernel
theorem dX0_leastOfAllIfMended_35 : decode cX0_leastOfAllIfMended 35 = .ok (.aload_n 0, 1) := by decide +kernel
theorem dX0_leastOfAllIfMended_36 : decode cX0_leastOfAllIfMended 36 = .ok (.getfield 9, 3) := by decide +kernel
theorem dX0_leastOfAllIfMended_39 : decode cX0_leastOfAllIfMended 39 = .ok (.if_icmp .ge 31, 3) := by decide +kernel
theorem dX0_leastOfAllIfMended_42 : decode cX0_leastOfAllIfMended 42 = .ok (.iload 4, 2) := by decide +kernel
theorem dX0_leastOfAllIfMended_44 : decode cX0_leastOfAllIfMended 44 = .ok (.aload_n 0, 1) := by decide +kernel
theorem dX0_leastOfAllIfMended_45 : decode cX0_leastOfAllIfMended 45 = .ok (.getfield 28, 3) := by decide +kernel
theorem dX0_leastOfAllIfMended_48 : decode cX0_leastOfAllIfMended 48 = .ok (.iload_n 1, 1) := by decide +kernel
theorem dX0_leastOfAllIfMended_49 : decode cX0_leastOfAllIfMended 49 = .ok (.iaload, 1) := by decide +kernel
theorem dX0_leastOfAllIfMended_50 : decode cX0_leastOfAllIfMended 50 = .ok (.if_icmp .eq 14, 3) := by decide +kernel
theorem dX0_leastOfAllIfMended_53 : decode cX0_leastOfAllIfMended 53 = .ok (.iload_n 3, 1) := by decide +kernel
theorem dX0_leastOfAllIfMended_54 : decode cX0_leastOfAllIfMended 54 = .ok (.aload_n 0, 1) := by decide +kernel
theorem dX0_leastOfAllIfMended_55 : decode cX0_leastOfAllIfMended 55 = .ok (.iload 4, 2) := by decide +kernel
theorem dX0_leastOfAllIfMended_57 : decode cX0_leastOfAllIfMended 57 = .ok (.invokevirtual 69, 3) := by decide +kernel
theorem dX0_leastOfAllIfMended_60 : decode cX0_leastOfAllIfMended 60 = .ok (.invokestatic 46, 3) := by decide +kernel
theorem dX0_leastOfAllIfMended_63 : decode cX0_leastOfAllIfMended 63 = .ok (.istore_n 3, 1) := by decide +kernel
theorem dX0_leastOfAllIfMended_64 : decode cX0_leastOfAllIfMended 64 = .ok (.iinc 4 1, 3) := by decide +kernel
theorem dX0_leastOfAllIfMended_67 : decode cX0_leastOfAllIfMended 67 = .ok (.goto (-34), 3) := by decide +kernel
theorem dX0_leastOfAllIfMended_70 : decode cX0_leastOfAllIfMended 70 = .ok (.iload_n 3, 1) := by decide +kernel
theorem dX0_leastOfAllIfMended_71 : decode cX0_leastOfAllIfMended 71 = .ok (.ireturn, 1) := by decide +kernel
theorem dX0_bestToMend_0 : decode cX0_bestToMend 0 = .ok (.iconst (-1), 1) := by decide +kernel
theorem dX0_bestToMend_1 : decode cX0_bestToMend 1 = .ok (.istore_n 1, 1) := by decide +kernel
theorem dX0_bestToMend_2 : decode cX0_bestToMend 2 = .ok (.aload_n 0, 1) := by decide +kernel
theorem dX0_bestToMend_3 : decode cX0_bestToMend 3 = .ok (.invokevirtual 82, 3) := by decide +kernel
theorem dX0_bestToMend_6 : decode cX0_bestToMend 6 = .ok (.istore_n 2, 1) := by decide +kernel
theorem dX0_bestToMend_7 : decode cX0_bestToMend 7 = .ok (.iconst 0, 1) := by decide +kernel
theorem dX0_bestToMend_8 : decode cX0_bestToMend 8 = .ok (.istore_n 3, 1) := by decide +kernel
theorem dX0_bestToMend_9 : decode cX0_bestToMend 9 = .ok (.iload_n 3, 1) := by decide +kernel
theorem dX0_bestToMend_10 : decode cX0_bestToMend 10 = .ok (.aload_n 0, 1) := by decide +kernel
theorem dX0_bestToMend_11 : decode cX0_bestToMend 11 = .ok (.getfield 15, 3) := by decide +kernel
theorem dX0_bestToMend_14 : decode cX0_bestToMend 14 = .ok (.if_icmp .ge 48, 3) := by decide +kernel
theorem dX0_bestToMend_17 : decode cX0_bestToMend 17 = .ok (.aload_n 0, 1) := by decide +kernel
theorem dX0_bestToMend_18 : decode cX0_bestToMend 18 = .ok (.getfield 28, 3) := by decide +kernel
theorem dX0_bestToMend_21 : decode cX0_bestToMend 21 = .ok (.iload_n 3, 1) := by decide +kernel
theorem dX0_bestToMend_22 : decode cX0_bestToMend 22 = .ok (.iaload, 1) := by decide +kernel
theorem dX0_bestToMend_23 : decode cX0_bestToMend 23 = .ok (.iconst (-1), 1) := by decide +kernel
theorem dX0_bestToMend_24 : decode cX0_bestToMend 24 = .ok (.if_icmp .eq 32, 3) := by decide +kernel
theorem dX0_bestToMend_27 : decode cX0_bestToMend 27 = .ok (.aload_n 0, 1) := by decide +kernel
theorem dX0_bestToMend_28 : decode cX0_bestToMend 28 = .ok (.getfield 25, 3) := by decide +kernel
theorem dX0_bestToMend_31 : decode cX0_bestToMend 31 = .ok (.iload_n 3, 1) := by decide +kernel
theorem dX0_bestToMend_32 : decode cX0_bestToMend 32 = .ok (.iaload, 1) := by decide +kernel
theorem dX0_bestToMend_33 : decode cX0_bestToMend 33 = .ok (.bipush 9, 2) := by decide +kernel
theorem dX0_bestToMend_35 : decode cX0_bestToMend 35 = .ok (.if_icmp .ge 21, 3) := by decide +kernel
theorem dX0_bestToMend_38 : decode cX0_bestToMend 38 = .ok (.aload_n 0, 1) := by decide +kernel
theorem dX0_bestToMend_39 : decode cX0_bestToMend 39 = .ok (.iload_n 3, 1) := by decide +kernel
theorem dX0_bestToMend_40 : decode cX0_bestToMend 40 = .ok (.invokevirtual 86, 3) := by decide +kernel
theorem dX0_bestToMend_43 : decode cX0_bestToMend 43 = .ok (.istore 4, 2) := by decide +kernel
theorem dX0_bestToMend_45 : decode cX0_bestToMend 45 = .ok (.iload 4, 2) := by decide +kernel
theorem dX0_bestToMend_47 : decode cX0_bestToMend 47 = .ok (.iload_n 2, 1) := by decide +kernel
theorem dX0_bestToMend_48 : decode cX0_bestToMend 48 = .ok (.if_icmp .le 8, 3) := by decide +kernel
theorem dX0_bestToMend_51 : decode cX0_bestToMend 51 = .ok (.iload 4, 2) := by decide +kernel
theorem dX0_bestToMend_53 : decode cX0_bestToMend 53 = .ok (.istore_n 2, 1) := by decide +kernel
theorem dX0_bestToMend_54 : decode cX0_bestToMend 54 = .ok (.iload_n 3, 1) := by decide +kernel
theorem dX0_bestToMend_55 : decode cX0_bestToMend 55 = .ok (.istore_n 1, 1) := by decide +kernel
theorem dX0_bestToMend_56 : decode cX0_bestToMend 56 = .ok (.iinc 3 1, 3) := by decide +kernel
theorem dX0_bestToMend_59 : decode cX0_bestToMend 59 = .ok (.goto (-50), 3) := by decide +kernel
theorem dX0_bestToMend_62 : decode cX0_bestToMend 62 = .ok (.iload_n 1, 1) := by decide +kernel
theorem dX0_bestToMend_63 : decode cX0_bestToMend 63 = .ok (.ireturn, 1) := by decide +kernel
theorem dX0_hourlyWindsStood_0 : decode cX0_hourlyWindsStood 0 = .ok (.iconst 0, 1) := by decide +kernel
theorem dX0_hourlyWindsStood_1 : decode cX0_hourlyWindsStood 1 = .ok (.istore_n 1, 1) := by decide +kernel
theorem dX0_hourlyWindsStood_2 : decode cX0_hourlyWindsStood 2 = .ok (.iconst 0, 1) := by decide +kernel
theorem dX0_hourlyWindsStood_3 : decode cX0_hourlyWindsStood 3 = .ok (.istore_n 2, 1) := by decide +kernel
theorem dX0_hourlyWindsStood_4 : decode cX0_hourlyWindsStood 4 = .ok (.iload_n 2, 1) := by decide +kernel
theorem dX0_hourlyWindsStood_5 : decode cX0_hourlyWindsStood 5 = .ok (.iconst 2, 1) := by decide +kernel
theorem dX0_hourlyWindsStood_6 : decode cX0_hourlyWindsStood 6 = .ok (.if_icmp .ge 52, 3) := by decide +kernel
theorem dX0_hourlyWindsStood_9 : decode cX0_hourlyWindsStood 9 = .ok (.bipush 9, 2) := by decide +kernel
theorem dX0_hourlyWindsStood_11 : decode cX0_hourlyWindsStood 11 = .ok (.istore_n 3, 1) := by decide +kernel
theorem dX0_hourlyWindsStood_12 : decode cX0_hourlyWindsStood 12 = .ok (.iconst 0, 1) := by decide +kernel
theorem dX0_hourlyWindsStood_13 : decode cX0_hourlyWindsStood 13 = .ok (.istore 4, 2) := by decide +kernel
theorem dX0_hourlyWindsStood_15 : decode cX0_hourlyWindsStood 15 = .ok (.iload 4, 2) := by decide +kernel
theorem dX0_hourlyWindsStood_17 : decode cX0_hourlyWindsStood 17 = .ok (.aload_n 0, 1) := by decide +kernel
theorem dX0_hourlyWindsStood_18 : decode cX0_hourlyWindsStood 18 = .ok (.getfield 9, 3) := by decide +kernel
theorem dX0_hourlyWindsStood_21 : decode cX0_hourlyWindsStood 21 = .ok (.if_icmp .ge 25, 3) := by decide +kernel
theorem dX0_hourlyWindsStood_24 : decode cX0_hourlyWindsStood 24 = .ok (.iload_n 3, 1) := by decide +kernel
theorem dX0_hourlyWindsStood_25 : decode cX0_hourlyWindsStood 25 = .ok (.aload_n 0, 1) := by decide +kernel
theorem dX0_hourlyWindsStood_26 : decode cX0_hourlyWindsStood 26 = .ok (.iconst (-1), 1) := by decide +kernel
theorem dX0_hourlyWindsStood_27 : decode cX0_hourlyWindsStood 27 = .ok (.iload 4, 2) := by decide +kernel
theorem dX0_hourlyWindsStood_29 : decode cX0_hourlyWindsStood 29 = .ok (.iload_n 2, 1) := by decide +kernel
theorem dX0_hourlyWindsStood_30 : decode cX0_hourlyWindsStood 30 = .ok (.invokevirtual 62, 3) := by decide +kernel
theorem dX0_hourlyWindsStood_33 : decode cX0_hourlyWindsStood 33 = .ok (.invokestatic 65, 3) := by decide +kernel
theorem dX0_hourlyWindsStood_36 : decode cX0_hourlyWindsStood 36 = .ok (.invokestatic 46, 3) := by decide +kernel
theorem dX0_hourlyWindsStood_39 : decode cX0_hourlyWindsStood 39 = .ok (.istore_n 3, 1) := by decide +kernel
theorem dX0_hourlyWindsStood_40 : decode cX0_hourlyWindsStood 40 = .ok (.iinc 4 1, 3) := by decide +kernel
theorem dX0_hourlyWindsStood_43 : decode cX0_hourlyWindsStood 43 = .ok (.goto (-28), 3) := by decide +kernel
theorem dX0_hourlyWindsStood_46 : decode cX0_hourlyWindsStood 46 = .ok (.iload_n 1, 1) := by decide +kernel
theorem dX0_hourlyWindsStood_47 : decode cX0_hourlyWindsStood 47 = .ok (.iload_n 3, 1) := by decide +kernel
theorem dX0_hourlyWindsStood_48 : decode cX0_hourlyWindsStood 48 = .ok (.iconst 1, 1) := by decide +kernel
theorem dX0_hourlyWindsStood_49 : decode cX0_hourlyWindsStood 49 = .ok (.iadd, 1) := by decide +kernel
theorem dX0_hourlyWindsStood_50 : decode cX0_hourlyWindsStood 50 = .ok (.iadd, 1) := by decide +kernel
theorem dX0_hourlyWindsStood_51 : decode cX0_hourlyWindsStood 51 = .ok (.istore_n 1, 1) := by decide +kernel
theorem dX0_hourlyWindsStood_52 : decode cX0_hourlyWindsStood 52 = .ok (.iinc 2 1, 3) := by decide +kernel
theorem dX0_hourlyWindsStood_55 : decode cX0_hourlyWindsStood 55 = .ok (.goto (-51), 3) := by decide +kernel
theorem dX0_hourlyWindsStood_58 : decode cX0_hourlyWindsStood 58 = .ok (.iload_n 1, 1) := by decide +kernel
theorem dX0_hourlyWindsStood_59 : decode cX0_hourlyWindsStood 59 = .ok (.ireturn, 1) := by decide +kernel
theorem dX0_weightsIn_0 : decode cX0_weightsIn 0 = .ok (.iconst 0, 1) := by decide +kernel
theorem dX0_weightsIn_1 : decode cX0_weightsIn 1 = .ok (.istore_n 2, 1) := by decide +kernel
theorem dX0_weightsIn_2 : decode cX0_weightsIn 2 = .ok (.iconst 0, 1) := by decide +kernel
theorem dX0_weightsIn_3 : decode cX0_weightsIn 3 = .ok (.istore_n 3, 1) := by decide +kernel
theorem dX0_weightsIn_4 : decode cX0_weightsIn 4 = .ok (.iload_n 3, 1) := by decide +kernel
theorem dX0_weightsIn_5 : decode cX0_weightsIn 5 = .ok (.aload_n 0, 1) := by decide +kernel
theorem dX0_weightsIn_6 : decode cX0_weightsIn 6 = .ok (.getfield 15, 3) := by decide +kernel
theorem dX0_weightsIn_9 : decode cX0_weightsIn 9 = .ok (.if_icmp .ge 25, 3) := by decide +kernel
theorem dX0_weightsIn_12 : decode cX0_weightsIn 12 = .ok (.aload_n 0, 1) := by decide +kernel
theorem dX0_weightsIn_13 : decode cX0_weightsIn 13 = .ok (.getfield 28, 3) := by decide +kernel
theorem dX0_weightsIn_16 : decode cX0_weightsIn 16 = .ok (.iload_n 3, 1) := by decide +kernel
theorem dX0_weightsIn_17 : decode cX0_weightsIn 17 = .ok (.iaload, 1) := by decide +kernel
theorem dX0_weightsIn_18 : decode cX0_weightsIn 18 = .ok (.iload_n 1, 1) := by decide +kernel
theorem dX0_weightsIn_19 : decode cX0_weightsIn 19 = .ok (.if_icmp .ne 9, 3) := by decide +kernel
theorem dX0_weightsIn_22 : decode cX0_weightsIn 22 = .ok (.iload_n 2, 1) := by decide +kernel
theorem dX0_weightsIn_23 : decode cX0_weightsIn 23 = .ok (.iconst 1, 1) := by decide +kernel
theorem dX0_weightsIn_24 : decode cX0_weightsIn 24 = .ok (.iload_n 3, 1) := by decide +kernel
theorem dX0_weightsIn_25 : decode cX0_weightsIn 25 = .ok (.ishl, 1) := by decide +kernel
theorem dX0_weightsIn_26 : decode cX0_weightsIn 26 = .ok (.ior, 1) := by decide +kernel
theorem dX0_weightsIn_27 : decode cX0_weightsIn 27 = .ok (.istore_n 2, 1) := by decide +kernel
theorem dX0_weightsIn_28 : decode cX0_weightsIn 28 = .ok (.iinc 3 1, 3) := by decide +kernel
theorem dX0_weightsIn_31 : decode cX0_weightsIn 31 = .ok (.goto (-27), 3) := by decide +kernel
theorem dX0_weightsIn_34 : decode cX0_weightsIn 34 = .ok (.iload_n 2, 1) := by decide +kernel
theorem dX0_weightsIn_35 : decode cX0_weightsIn 35 = .ok (.ireturn, 1) := by decide +kernel
theorem dX0_weightsOnPlain_0 : decode cX0_weightsOnPlain 0 = .ok (.aload_n 0, 1) := by decide +kernel
theorem dX0_weightsOnPlain_1 : decode cX0_weightsOnPlain 1 = .ok (.iconst (-1), 1) := by decide +kernel
theorem dX0_weightsOnPlain_2 : decode cX0_weightsOnPlain 2 = .ok (.invokevirtual 89, 3) := by decide +kernel
theorem dX0_weightsOnPlain_5 : decode cX0_weightsOnPlain 5 = .ok (.invokestatic 92, 3) := by decide +kernel
theorem dX0_weightsOnPlain_8 : decode cX0_weightsOnPlain 8 = .ok (.ireturn, 1) := by decide +kernel
theorem dX0_ouncesIn_0 : decode cX0_ouncesIn 0 = .ok (.iconst 0, 1) := by decide +kernel
theorem dX0_ouncesIn_1 : decode cX0_ouncesIn 1 = .ok (.istore_n 2, 1) := by decide +kernel
theorem dX0_ouncesIn_2 : decode cX0_ouncesIn 2 = .ok (.iconst 0, 1) := by decide +kernel
theorem dX0_ouncesIn_3 : decode cX0_ouncesIn 3 = .ok (.istore_n 3, 1) := by decide +kernel
theorem dX0_ouncesIn_4 : decode cX0_ouncesIn 4 = .ok (.iload_n 3, 1) := by decide +kernel
theorem dX0_ouncesIn_5 : decode cX0_ouncesIn 5 = .ok (.aload_n 0, 1) := by decide +kernel
theorem dX0_ouncesIn_6 : decode cX0_ouncesIn 6 = .ok (.getfield 15, 3) := by decide +kernel
theorem dX0_ouncesIn_9 : decode cX0_ouncesIn 9 = .ok (.if_icmp .ge 28, 3) := by decide +kernel
theorem dX0_ouncesIn_12 : decode cX0_ouncesIn 12 = .ok (.aload_n 0, 1) := by decide +kernel
theorem dX0_ouncesIn_13 : decode cX0_ouncesIn 13 = .ok (.getfield 28, 3) := by decide +kernel
theorem dX0_ouncesIn_16 : decode cX0_ouncesIn 16 = .ok (.iload_n 3, 1) := by decide +kernel
theorem dX0_ouncesIn_17 : decode cX0_ouncesIn 17 = .ok (.iaload, 1) := by decide +kernel
theorem dX0_ouncesIn_18 : decode cX0_ouncesIn 18 = .ok (.iload_n 1, 1) := by decide +kernel
theorem dX0_ouncesIn_19 : decode cX0_ouncesIn 19 = .ok (.if_icmp .ne 12, 3) := by decide +kernel
theorem dX0_ouncesIn_22 : decode cX0_ouncesIn 22 = .ok (.iload_n 2, 1) := by decide +kernel
theorem dX0_ouncesIn_23 : decode cX0_ouncesIn 23 = .ok (.aload_n 0, 1) := by decide +kernel
theorem dX0_ouncesIn_24 : decode cX0_ouncesIn 24 = .ok (.getfield 25, 3) := by decide +kernel
theorem dX0_ouncesIn_27 : decode cX0_ouncesIn 27 = .ok (.iload_n 3, 1) := by decide +kernel
theorem dX0_ouncesIn_28 : decode cX0_ouncesIn 28 = .ok (.iaload, 1) := by decide +kernel
theorem dX0_ouncesIn_29 : decode cX0_ouncesIn 29 = .ok (.iadd, 1) := by decide +kernel
theorem dX0_ouncesIn_30 : decode cX0_ouncesIn 30 = .ok (.istore_n 2, 1) := by decide +kernel
theorem dX0_ouncesIn_31 : decode cX0_ouncesIn 31 = .ok (.iinc 3 1, 3) := by decide +kernel
theorem dX0_ouncesIn_34 : decode cX0_ouncesIn 34 = .ok (.goto (-30), 3) := by decide +kernel
theorem dX0_ouncesIn_37 : decode cX0_ouncesIn 37 = .ok (.iload_n 2, 1) := by decide +kernel
theorem dX0_ouncesIn_38 : decode cX0_ouncesIn 38 = .ok (.ireturn, 1) := by decide +kernel
theorem dX0_ouncesOfAll_0 : decode cX0_ouncesOfAll 0 = .ok (.iconst 0, 1) := by decide +kernel
theorem dX0_ouncesOfAll_1 : decode cX0_ouncesOfAll 1 = .ok (.istore_n 1, 1) := by decide +kernel
theorem dX0_ouncesOfAll_2 : decode cX0_ouncesOfAll 2 = .ok (.iconst 0, 1) := by decide +kernel
theorem dX0_ouncesOfAll_3 : decode cX0_ouncesOfAll 3 = .ok (.istore_n 2, 1) := by decide +kernel
theorem dX0_ouncesOfAll_4 : decode cX0_ouncesOfAll 4 = .ok (.iload_n 2, 1) := by decide +kernel
theorem dX0_ouncesOfAll_5 : decode cX0_ouncesOfAll 5 = .ok (.aload_n 0, 1) := by decide +kernel
theorem dX0_ouncesOfAll_6 : decode cX0_ouncesOfAll 6 = .ok (.getfield 15, 3) := by decide +kernel
theorem dX0_ouncesOfAll_9 : decode cX0_ouncesOfAll 9 = .ok (.if_icmp .ge 18, 3) := by decide +kernel
theorem dX0_ouncesOfAll_12 : decode cX0_ouncesOfAll 12 = .ok (.iload_n 1, 1) := by decide +kernel
theorem dX0_ouncesOfAll_13 : decode cX0_ouncesOfAll 13 = .ok (.aload_n 0, 1) := by decide +kernel
theorem dX0_ouncesOfAll_14 : decode cX0_ouncesOfAll 14 = .ok (.getfield 25, 3) := by decide +kernel
theorem dX0_ouncesOfAll_17 : decode cX0_ouncesOfAll 17 = .ok (.iload_n 2, 1) := by decide +kernel
theorem dX0_ouncesOfAll_18 : decode cX0_ouncesOfAll 18 = .ok (.iaload, 1) := by decide +kernel
theorem dX0_ouncesOfAll_19 : decode cX0_ouncesOfAll 19 = .ok (.iadd, 1) := by decide +kernel
theorem dX0_ouncesOfAll_20 : decode cX0_ouncesOfAll 20 = .ok (.istore_n 1, 1) := by decide +kernel
theorem dX0_ouncesOfAll_21 : decode cX0_ouncesOfAll 21 = .ok (.iinc 2 1, 3) := by decide +kernel
theorem dX0_ouncesOfAll_24 : decode cX0_ouncesOfAll 24 = .ok (.goto (-20), 3) := by decide +kernel
theorem dX0_ouncesOfAll_27 : decode cX0_ouncesOfAll 27 = .ok (.iload_n 1, 1) := by decide +kernel
theorem dX0_ouncesOfAll_28 : decode cX0_ouncesOfAll 28 = .ok (.ireturn, 1) := by decide +kernel
theorem dX0_moveTo_0 : decode cX0_moveTo 0 = .ok (.aload_n 0, 1) := by decide +kernel
theorem dX0_moveTo_1 : decode cX0_moveTo 1 = .ok (.getfield 28, 3) := by decide +kernel
theorem dX0_moveTo_4 : decode cX0_moveTo 4 = .ok (.iload_n 1, 1) := by decide +kernel
theorem dX0_moveTo_5 : decode cX0_moveTo 5 = .ok (.iload_n 2, 1) := by decide +kernel
theorem dX0_moveTo_6 : decode cX0_moveTo 6 = .ok (.iastore, 1) := by decide +kernel
theorem dX0_moveTo_7 : decode cX0_moveTo 7 = .ok (.aload_n 0, 1) := by decide +kernel
theorem dX0_moveTo_8 : decode cX0_moveTo 8 = .ok (.getfield 31, 3) := by decide +kernel
theorem dX0_moveTo_11 : decode cX0_moveTo 11 = .ok (.iload_n 1, 1) := by decide +kernel
theorem dX0_moveTo_12 : decode cX0_moveTo 12 = .ok (.iload_n 3, 1) := by decide +kernel
theorem dX0_moveTo_13 : decode cX0_moveTo 13 = .ok (.iastore, 1) := by decide +kernel
theorem dX0_moveTo_14 : decode cX0_moveTo 14 = .ok (.aload_n 0, 1) := by decide +kernel
theorem dX0_moveTo_15 : decode cX0_moveTo 15 = .ok (.getfield 34, 3) := by decide +kernel
theorem dX0_moveTo_18 : decode cX0_moveTo 18 = .ok (.iload_n 1, 1) := by decide +kernel
theorem dX0_moveTo_19 : decode cX0_moveTo 19 = .ok (.iconst 0, 1) := by decide +kernel
theorem dX0_moveTo_20 : decode cX0_moveTo 20 = .ok (.iastore, 1) := by decide +kernel
theorem dX0_moveTo_21 : decode cX0_moveTo 21 = .ok (.return_, 1) := by decide +kernel
theorem dX0_takeWind_0 : decode cX0_takeWind 0 = .ok (.iconst 0, 1) := by decide +kernel
theorem dX0_takeWind_1 : decode cX0_takeWind 1 = .ok (.istore_n 3, 1) := by decide +kernel
theorem dX0_takeWind_2 : decode cX0_takeWind 2 = .ok (.iconst 0, 1) := by decide +kernel
theorem dX0_takeWind_3 : decode cX0_takeWind 3 = .ok (.istore 4, 2) := by decide +kernel
theorem dX0_takeWind_5 : decode cX0_takeWind 5 = .ok (.iload 4, 2) := by decide +kernel
theorem dX0_takeWind_7 : decode cX0_takeWind 7 = .ok (.aload_n 0, 1) := by decide +kernel
theorem dX0_takeWind_8 : decode cX0_takeWind 8 = .ok (.getfield 9, 3) := by decide +kernel
theorem dX0_takeWind_11 : decode cX0_takeWind 11 = .ok (.if_icmp .ge 31, 3) := by decide +kernel
theorem dX0_takeWind_14 : decode cX0_takeWind 14 = .ok (.aload_n 0, 1) := by decide +kernel
theorem dX0_takeWind_15 : decode cX0_takeWind 15 = .ok (.iconst (-1), 1) := by decide +kernel
theorem dX0_takeWind_16 : decode cX0_takeWind 16 = .ok (.iload 4, 2) := by decide +kernel
theorem dX0_takeWind_18 : decode cX0_takeWind 18 = .ok (.iload_n 1, 1) := by decide +kernel
theorem dX0_takeWind_19 : decode cX0_takeWind 19 = .ok (.invokevirtual 62, 3) := by decide +kernel
theorem dX0_takeWind_22 : decode cX0_takeWind 22 = .ok (.iload_n 2, 1) := by decide +kernel
theorem dX0_takeWind_23 : decode cX0_takeWind 23 = .ok (.invokestatic 97, 3) := by decide +kernel
theorem dX0_takeWind_26 : decode cX0_takeWind 26 = .ok (.ifCond .eq 10, 3) := by decide +kernel
theorem dX0_takeWind_29 : decode cX0_takeWind 29 = .ok (.iload_n 3, 1) := by decide +kernel
theorem dX0_takeWind_30 : decode cX0_takeWind 30 = .ok (.iconst 1, 1) := by decide +kernel
theorem dX0_takeWind_31 : decode cX0_takeWind 31 = .ok (.iload 4, 2) := by decide +kernel
theorem dX0_takeWind_33 : decode cX0_takeWind 33 = .ok (.ishl, 1) := by decide +kernel
theorem dX0_takeWind_34 : decode cX0_takeWind 34 = .ok (.ior, 1) := by decide +kernel
theorem dX0_takeWind_35 : decode cX0_takeWind 35 = .ok (.istore_n 3, 1) := by decide +kernel
theorem dX0_takeWind_36 : decode cX0_takeWind 36 = .ok (.iinc 4 1, 3) := by decide +kernel
theorem dX0_takeWind_39 : decode cX0_takeWind 39 = .ok (.goto (-34), 3) := by decide +kernel
theorem dX0_takeWind_42 : decode cX0_takeWind 42 = .ok (.iload_n 1, 1) := by decide +kernel
theorem dX0_takeWind_43 : decode cX0_takeWind 43 = .ok (.ifCond .ne 7, 3) := by decide +kernel
theorem dX0_takeWind_46 : decode cX0_takeWind 46 = .ok (.iconst 1, 1) := by decide +kernel
theorem dX0_takeWind_47 : decode cX0_takeWind 47 = .ok (.goto 4, 3) := by decide +kernel
theorem dX0_takeWind_50 : decode cX0_takeWind 50 = .ok (.iconst (-1), 1) := by decide +kernel
theorem dX0_takeWind_51 : decode cX0_takeWind 51 = .ok (.istore 4, 2) := by decide +kernel
theorem dX0_takeWind_53 : decode cX0_takeWind 53 = .ok (.iconst 0, 1) := by decide +kernel
theorem dX0_takeWind_54 : decode cX0_takeWind 54 = .ok (.istore 5, 2) := by decide +kernel
theorem dX0_takeWind_56 : decode cX0_takeWind 56 = .ok (.iload 5, 2) := by decide +kernel
theorem dX0_takeWind_58 : decode cX0_takeWind 58 = .ok (.aload_n 0, 1) := by decide +kernel
theorem dX0_takeWind_59 : decode cX0_takeWind 59 = .ok (.getfield 15, 3) := by decide +kernel
theorem dX0_takeWind_62 : decode cX0_takeWind 62 = .ok (.if_icmp .ge 49, 3) := by decide +kernel
theorem dX0_takeWind_65 : decode cX0_takeWind 65 = .ok (.aload_n 0, 1) := by decide +kernel
theorem dX0_takeWind_66 : decode cX0_takeWind 66 = .ok (.getfield 28, 3) := by decide +kernel
theorem dX0_takeWind_69 : decode cX0_takeWind 69 = .ok (.iload 5, 2) := by decide +kernel
theorem dX0_takeWind_71 : decode cX0_takeWind 71 = .ok (.iaload, 1) := by decide +kernel
theorem dX0_takeWind_72 : decode cX0_takeWind 72 = .ok (.iconst (-1), 1) := by decide +kernel
theorem dX0_takeWind_73 : decode cX0_takeWind 73 = .ok (.if_icmp .eq 26, 3) := by decide +kernel
theorem dX0_takeWind_76 : decode cX0_takeWind 76 = .ok (.iload_n 3, 1) := by decide +kernel
theorem dX0_takeWind_77 : decode cX0_takeWind 77 = .ok (.aload_n 0, 1) := by decide +kernel
theorem dX0_takeWind_78 : decode cX0_takeWind 78 = .ok (.getfield 28, 3) := by decide +kernel
theorem dX0_takeWind_81 : decode cX0_takeWind 81 = .ok (.iload 5, 2) := by decide +kernel
theorem dX0_takeWind_83 : decode cX0_takeWind 83 = .ok (.iaload, 1) := by decide +kernel
theorem dX0_takeWind_84 : decode cX0_takeWind 84 = .ok (.ishr, 1) := by decide +kernel
theorem dX0_takeWind_85 : decode cX0_takeWind 85 = .ok (.iconst 1, 1) := by decide +kernel
theorem dX0_takeWind_86 : decode cX0_takeWind 86 = .ok (.iand, 1) := by decide +kernel
theorem dX0_takeWind_87 : decode cX0_takeWind 87 = .ok (.iconst 1, 1) := by decide +kernel
theorem dX0_takeWind_88 : decode cX0_takeWind 88 = .ok (.if_icmp .ne 11, 3) := by decide +kernel
theorem dX0_takeWind_91 : decode cX0_takeWind 91 = .ok (.aload_n 0, 1) := by decide +kernel
theorem dX0_takeWind_92 : decode cX0_takeWind 92 = .ok (.iload 5, 2) := by decide +kernel
theorem dX0_takeWind_94 : decode cX0_takeWind 94 = .ok (.iload 4, 2) := by decide +kernel
theorem dX0_takeWind_96 : decode cX0_takeWind 96 = .ok (.invokevirtual 101, 3) := by decide +kernel
theorem dX0_takeWind_99 : decode cX0_takeWind 99 = .ok (.aload_n 0, 1) := by decide +kernel
theorem dX0_takeWind_100 : decode cX0_takeWind 100 = .ok (.iload 5, 2) := by decide +kernel
theorem dX0_takeWind_102 : decode cX0_takeWind 102 = .ok (.invokevirtual 105, 3) := by decide +kernel
theorem dX0_takeWind_105 : decode cX0_takeWind 105 = .ok (.iinc 5 1, 3) := by decide +kernel
theorem dX0_takeWind_108 : decode cX0_takeWind 108 = .ok (.goto (-52), 3) := by decide +kernel
theorem dX0_takeWind_111 : decode cX0_takeWind 111 = .ok (.iload_n 3, 1) := by decide +kernel
theorem dX0_takeWind_112 : decode cX0_takeWind 112 = .ok (.invokestatic 92, 3) := by decide +kernel
theorem dX0_takeWind_115 : decode cX0_takeWind 115 = .ok (.istore 5, 2) := by decide +kernel
theorem dX0_takeWind_117 : decode cX0_takeWind 117 = .ok (.aload_n 0, 1) := by decide +kernel
theorem dX0_takeWind_118 : decode cX0_takeWind 118 = .ok (.dup, 1) := by decide +kernel
theorem dX0_takeWind_119 : decode cX0_takeWind 119 = .ok (.getfield 37, 3) := by decide +kernel
theorem dX0_takeWind_122 : decode cX0_takeWind 122 = .ok (.iconst 1, 1) := by decide +kernel
theorem dX0_takeWind_123 : decode cX0_takeWind 123 = .ok (.iadd, 1) := by decide +kernel
theorem dX0_takeWind_124 : decode cX0_takeWind 124 = .ok (.putfield 37, 3) := by decide +kernel
theorem dX0_takeWind_127 : decode cX0_takeWind 127 = .ok (.aload_n 0, 1) := by decide +kernel
theorem dX0_takeWind_128 : decode cX0_takeWind 128 = .ok (.dup, 1) := by decide +kernel
theorem dX0_takeWind_129 : decode cX0_takeWind 129 = .ok (.getfield 40, 3) := by decide +kernel
theorem dX0_takeWind_132 : decode cX0_takeWind 132 = .ok (.iload 5, 2) := by decide +kernel
theorem dX0_takeWind_134 : decode cX0_takeWind 134 = .ok (.iadd, 1) := by decide +kernel
theorem dX0_takeWind_135 : decode cX0_takeWind 135 = .ok (.putfield 40, 3) := by decide +kernel
theorem dX0_takeWind_138 : decode cX0_takeWind 138 = .ok (.iload 5, 2) := by decide +kernel
theorem dX0_takeWind_140 : decode cX0_takeWind 140 = .ok (.ireturn, 1) := by decide +kernel
theorem dX0_slide_0 : decode cX0_slide 0 = .ok (.aload_n 0, 1) := by decide +kernel
theorem dX0_slide_1 : decode cX0_slide 1 = .ok (.getfield 31, 3) := by decide +kernel
theorem dX0_slide_4 : decode cX0_slide 4 = .ok (.iload_n 1, 1) := by decide +kernel
theorem dX0_slide_5 : decode cX0_slide 5 = .ok (.iaload, 1) := by decide +kernel
theorem dX0_slide_6 : decode cX0_slide 6 = .ok (.iload_n 2, 1) := by decide +kernel
theorem dX0_slide_7 : decode cX0_slide 7 = .ok (.iadd, 1) := by decide +kernel
theorem dX0_slide_8 : decode cX0_slide 8 = .ok (.istore_n 3, 1) := by decide +kernel
theorem dX0_slide_9 : decode cX0_slide 9 = .ok (.iload_n 3, 1) := by decide +kernel
theorem dX0_slide_10 : decode cX0_slide 10 = .ok (.ifCond .lt 8, 3) := by decide +kernel
theorem dX0_slide_13 : decode cX0_slide 13 = .ok (.iload_n 3, 1) := by decide +kernel
theorem dX0_slide_14 : decode cX0_slide 14 = .ok (.iconst 4, 1) := by decide +kernel
theorem dX0_slide_15 : decode cX0_slide 15 = .ok (.if_icmp .le 23, 3) := by decide +kernel
theorem dX0_slide_18 : decode cX0_slide 18 = .ok (.aload_n 0, 1) := by decide +kernel
theorem dX0_slide_19 : decode cX0_slide 19 = .ok (.iload_n 1, 1) := by decide +kernel
theorem dX0_slide_20 : decode cX0_slide 20 = .ok (.iconst (-1), 1) := by decide +kernel
theorem dX0_slide_21 : decode cX0_slide 21 = .ok (.iconst (-1), 1) := by decide +kernel
theorem dX0_slide_22 : decode cX0_slide 22 = .ok (.invokevirtual 109, 3) := by decide +kernel
theorem dX0_slide_25 : decode cX0_slide 25 = .ok (.aload_n 0, 1) := by decide +kernel
theorem dX0_slide_26 : decode cX0_slide 26 = .ok (.dup, 1) := by decide +kernel
theorem dX0_slide_27 : decode cX0_slide 27 = .ok (.getfield 43, 3) := by decide +kernel
theorem dX0_slide_30 : decode cX0_slide 30 = .ok (.iconst 1, 1) := by decide +kernel
theorem dX0_slide_31 : decode cX0_slide 31 = .ok (.iadd, 1) := by decide +kernel
theorem dX0_slide_32 : decode cX0_slide 32 = .ok (.putfield 43, 3) := by decide +kernel
theorem dX0_slide_35 : decode cX0_slide 35 = .ok (.goto 10, 3) := by decide +kernel
theorem dX0_slide_38 : decode cX0_slide 38 = .ok (.aload_n 0, 1) := by decide +kernel
theorem dX0_slide_39 : decode cX0_slide 39 = .ok (.getfield 31, 3) := by decide +kernel
theorem dX0_slide_42 : decode cX0_slide 42 = .ok (.iload_n 1, 1) := by decide +kernel
theorem dX0_slide_43 : decode cX0_slide 43 = .ok (.iload_n 3, 1) := by decide +kernel
theorem dX0_slide_44 : decode cX0_slide 44 = .ok (.iastore, 1) := by decide +kernel
theorem dX0_slide_45 : decode cX0_slide 45 = .ok (.return_, 1) := by decide +kernel
theorem dX0_weather_0 : decode cX0_weather 0 = .ok (.aload_n 0, 1) := by decide +kernel
theorem dX0_weather_1 : decode cX0_weather 1 = .ok (.getfield 28, 3) := by decide +kernel
theorem dX0_weather_4 : decode cX0_weather 4 = .ok (.iload_n 1, 1) := by decide +kernel
theorem dX0_weather_5 : decode cX0_weather 5 = .ok (.iaload, 1) := by decide +kernel
theorem dX0_weather_6 : decode cX0_weather 6 = .ok (.iconst (-1), 1) := by decide +kernel
theorem dX0_weather_7 : decode cX0_weather 7 = .ok (.if_icmp .ne 4, 3) := by decide +kernel
theorem dX0_weather_10 : decode cX0_weather 10 = .ok (.return_, 1) := by decide +kernel
theorem dX0_weather_11 : decode cX0_weather 11 = .ok (.aload_n 0, 1) := by decide +kernel
theorem dX0_weather_12 : decode cX0_weather 12 = .ok (.getfield 22, 3) := by decide +kernel
theorem dX0_weather_15 : decode cX0_weather 15 = .ok (.iload_n 1, 1) := by decide +kernel
theorem dX0_weather_16 : decode cX0_weather 16 = .ok (.iaload, 1) := by decide +kernel
theorem dX0_weather_17 : decode cX0_weather 17 = .ok (.iconst 2, 1) := by decide +kernel
theorem dX0_weather_18 : decode cX0_weather 18 = .ok (.if_icmp .ne 23, 3) := by decide +kernel
theorem dX0_weather_21 : decode cX0_weather 21 = .ok (.aload_n 0, 1) := by decide +kernel
theorem dX0_weather_22 : decode cX0_weather 22 = .ok (.getfield 25, 3) := by decide +kernel
theorem dX0_weather_25 : decode cX0_weather 25 = .ok (.iload_n 1, 1) := by decide +kernel
theorem dX0_weather_26 : decode cX0_weather 26 = .ok (.iaload, 1) := by decide +kernel
theorem dX0_weather_27 : decode cX0_weather 27 = .ok (.iconst 1, 1) := by decide +kernel
theorem dX0_weather_28 : decode cX0_weather 28 = .ok (.if_icmp .le 13, 3) := by decide +kernel
theorem dX0_weather_31 : decode cX0_weather 31 = .ok (.aload_n 0, 1) := by decide +kernel
theorem dX0_weather_32 : decode cX0_weather 32 = .ok (.getfield 25, 3) := by decide +kernel
theorem dX0_weather_35 : decode cX0_weather 35 = .ok (.iload_n 1, 1) := by decide +kernel
theorem dX0_weather_36 : decode cX0_weather 36 = .ok (.dup2, 1) := by decide +kernel
theorem dX0_weather_37 : decode cX0_weather 37 = .ok (.iaload, 1) := by decide +kernel
theorem dX0_weather_38 : decode cX0_weather 38 = .ok (.iconst 1, 1) := by decide +kernel
theorem dX0_weather_39 : decode cX0_weather 39 = .ok (.isub, 1) := by decide +kernel
theorem dX0_weather_40 : decode cX0_weather 40 = .ok (.iastore, 1) := by decide +kernel
theorem dX0_weather_41 : decode cX0_weather 41 = .ok (.aload_n 0, 1) := by decide +kernel
theorem dX0_weather_42 : decode cX0_weather 42 = .ok (.getfield 22, 3) := by decide +kernel
theorem dX0_weather_45 : decode cX0_weather 45 = .ok (.iload_n 1, 1) := by decide +kernel
theorem dX0_weather_46 : decode cX0_weather 46 = .ok (.iaload, 1) := by decide +kernel
theorem dX0_weather_47 : decode cX0_weather 47 = .ok (.iconst 3, 1) := by decide +kernel
theorem dX0_weather_48 : decode cX0_weather 48 = .ok (.if_icmp .ne 23, 3) := by decide +kernel
theorem dX0_weather_51 : decode cX0_weather 51 = .ok (.aload_n 0, 1) := by decide +kernel
theorem dX0_weather_52 : decode cX0_weather 52 = .ok (.getfield 34, 3) := by decide +kernel
theorem dX0_weather_55 : decode cX0_weather 55 = .ok (.iload_n 1, 1) := by decide +kernel
theorem dX0_weather_56 : decode cX0_weather 56 = .ok (.iaload, 1) := by decide +kernel
theorem dX0_weather_57 : decode cX0_weather 57 = .ok (.iconst 3, 1) := by decide +kernel
theorem dX0_weather_58 : decode cX0_weather 58 = .ok (.if_icmp .ge 13, 3) := by decide +kernel
theorem dX0_weather_61 : decode cX0_weather 61 = .ok (.aload_n 0, 1) := by decide +kernel
theorem dX0_weather_62 : decode cX0_weather 62 = .ok (.getfield 34, 3) := by decide +kernel
theorem dX0_weather_65 : decode cX0_weather 65 = .ok (.iload_n 1, 1) := by decide +kernel
theorem dX0_weather_66 : decode cX0_weather 66 = .ok (.dup2, 1) := by decide +kernel
theorem dX0_weather_67 : decode cX0_weather 67 = .ok (.iaload, 1) := by decide +kernel
theorem dX0_weather_68 : decode cX0_weather 68 = .ok (.iconst 1, 1) := by decide +kernel
theorem dX0_weather_69 : decode cX0_weather 69 = .ok (.iadd, 1) := by decide +kernel
theorem dX0_weather_70 : decode cX0_weather 70 = .ok (.iastore, 1) := by decide +kernel
theorem dX0_weather_71 : decode cX0_weather 71 = .ok (.return_, 1) := by decide +kernel
theorem dX1_init_0 : decode cX1_init 0 = .ok (.aload_n 0, 1) := by decide +kernel
theorem dX1_init_1 : decode cX1_init 1 = .ok (.invokespecial 3, 3) := by decide +kernel
theorem dX1_init_4 : decode cX1_init 4 = .ok (.aload_n 0, 1) := by decide +kernel
theorem dX1_init_5 : decode cX1_init 5 = .ok (.iconst 4, 1) := by decide +kernel
theorem dX1_init_6 : decode cX1_init 6 = .ok (.newarray .int, 2) := by decide +kernel
theorem dX1_init_8 : decode cX1_init 8 = .ok (.putfield 9, 3) := by decide +kernel
theorem dX1_init_11 : decode cX1_init 11 = .ok (.aload_n 0, 1) := by decide +kernel
theorem dX1_init_12 : decode cX1_init 12 = .ok (.iconst (-1), 1) := by decide +kernel
theorem dX1_init_13 : decode cX1_init 13 = .ok (.putfield 15, 3) := by decide +kernel
theorem dX1_init_16 : decode cX1_init 16 = .ok (.aload_n 0, 1) := by decide +kernel
theorem dX1_init_17 : decode cX1_init 17 = .ok (.iconst 0, 1) := by decide +kernel
theorem dX1_init_18 : decode cX1_init 18 = .ok (.putfield 19, 3) := by decide +kernel
theorem dX1_init_21 : decode cX1_init 21 = .ok (.aload_n 0, 1) := by decide +kernel
theorem dX1_init_22 : decode cX1_init 22 = .ok (.iconst 4, 1) := by decide +kernel
theorem dX1_init_23 : decode cX1_init 23 = .ok (.newarray .int, 2) := by decide +kernel
theorem dX1_init_25 : decode cX1_init 25 = .ok (.putfield 22, 3) := by decide +kernel
theorem dX1_init_28 : decode cX1_init 28 = .ok (.aload_n 0, 1) := by decide +kernel
theorem dX1_init_29 : decode cX1_init 29 = .ok (.bipush 32, 2) := by decide +kernel
theorem dX1_init_31 : decode cX1_init 31 = .ok (.newarray .int, 2) := by decide +kernel
theorem dX1_init_33 : decode cX1_init 33 = .ok (.putfield 25, 3) := by decide +kernel
theorem dX1_init_36 : decode cX1_init 36 = .ok (.aload_n 0, 1) := by decide +kernel
theorem dX1_init_37 : decode cX1_init 37 = .ok (.bipush 32, 2) := by decide +kernel
theorem dX1_init_39 : decode cX1_init 39 = .ok (.newarray .int, 2) := by decide +kernel
theorem dX1_init_41 : decode cX1_init 41 = .ok (.putfield 28, 3) := by decide +kernel
theorem dX1_init_44 : decode cX1_init 44 = .ok (.return_, 1) := by decide +kernel
theorem dX1_search_0 : decode cX1_search 0 = .ok (.iconst 0, 1) := by decide +kernel
theorem dX1_search_1 : decode cX1_search 1 = .ok (.istore_n 3, 1) := by decide +kernel
theorem dX1_search_2 : decode cX1_search 2 = .ok (.iload_n 3, 1) := by decide +kernel
theorem dX1_search_3 : decode cX1_search 3 = .ok (.bipush 32, 2) := by decide +kernel
theorem dX1_search_5 : decode cX1_search 5 = .ok (.if_icmp .ge 15, 3) := by decide +kernel
theorem dX1_search_8 : decode cX1_search 8 = .ok (.aload_n 0, 1) := by decide +kernel
theorem dX1_search_9 : decode cX1_search 9 = .ok (.aload_n 1, 1) := by decide +kernel
theorem dX1_search_10 : decode cX1_search 10 = .ok (.iload_n 3, 1) := by decide +kernel
theorem dX1_search_11 : decode cX1_search 11 = .ok (.invokevirtual 31, 3) := by decide +kernel
theorem dX1_search_14 : decode cX1_search 14 = .ok (.iinc 3 1, 3) := by decide +kernel
theorem dX1_search_17 : decode cX1_search 17 = .ok (.goto (-15), 3) := by decide +kernel
theorem dX1_search_20 : decode cX1_search 20 = .ok (.iconst 0, 1) := by decide +kernel
theorem dX1_search_21 : decode cX1_search 21 = .ok (.istore_n 3, 1) := by decide +kernel
theorem dX1_search_22 : decode cX1_search 22 = .ok (.iload_n 3, 1) := by decide +kernel
theorem dX1_search_23 : decode cX1_search 23 = .ok (.iconst 4, 1) := by decide +kernel
theorem dX1_search_24 : decode cX1_search 24 = .ok (.if_icmp .ge 23, 3) := by decide +kernel
theorem dX1_search_27 : decode cX1_search 27 = .ok (.aload_n 0, 1) := by decide +kernel
theorem dX1_search_28 : decode cX1_search 28 = .ok (.getfield 22, 3) := by decide +kernel
theorem dX1_search_31 : decode cX1_search 31 = .ok (.iload_n 3, 1) := by decide +kernel
theorem dX1_search_32 : decode cX1_search 32 = .ok (.iconst 0, 1) := by decide +kernel
theorem dX1_search_33 : decode cX1_search 33 = .ok (.iastore, 1) := by decide +kernel
theorem dX1_search_34 : decode cX1_search 34 = .ok (.aload_n 0, 1) := by decide +kernel
theorem dX1_search_35 : decode cX1_search 35 = .ok (.getfield 9, 3) := by decide +kernel
theorem dX1_search_38 : decode cX1_search 38 = .ok (.iload_n 3, 1) := by decide +kernel
theorem dX1_search_39 : decode cX1_search 39 = .ok (.iconst 0, 1) := by decide +kernel
theorem dX1_search_40 : decode cX1_search 40 = .ok (.iastore, 1) := by decide +kernel
theorem dX1_search_41 : decode cX1_search 41 = .ok (.iinc 3 1, 3) := by decide +kernel
theorem dX1_search_44 : decode cX1_search 44 = .ok (.goto (-22), 3) := by decide +kernel
theorem dX1_search_47 : decode cX1_search 47 = .ok (.aload_n 0, 1) := by decide +kernel
theorem dX1_search_48 : decode cX1_search 48 = .ok (.iconst (-1), 1) := by decide +kernel
theorem dX1_search_49 : decode cX1_search 49 = .ok (.putfield 15, 3) := by decide +kernel
theorem dX1_search_52 : decode cX1_search 52 = .ok (.aload_n 0, 1) := by decide +kernel
theorem dX1_search_53 : decode cX1_search 53 = .ok (.iconst 0, 1) := by decide +kernel
theorem dX1_search_54 : decode cX1_search 54 = .ok (.putfield 19, 3) := by decide +kernel
theorem dX1_search_57 : decode cX1_search 57 = .ok (.aload_n 0, 1) := by decide +kernel
theorem dX1_search_58 : decode cX1_search 58 = .ok (.aload_n 1, 1) := by decide +kernel
theorem dX1_search_59 : decode cX1_search 59 = .ok (.iload_n 2, 1) := by decide +kernel
theorem dX1_search_60 : decode cX1_search 60 = .ok (.iconst 0, 1) := by decide +kernel
theorem dX1_search_61 : decode cX1_search 61 = .ok (.iconst 1, 1) := by decide +kernel
theorem dX1_search_62 : decode cX1_search 62 = .ok (.aload_n 1, 1) := by decide +kernel
theorem dX1_search_63 : decode cX1_search 63 = .ok (.getfield 35, 3) := by decide +kernel
theorem dX1_search_66 : decode cX1_search 66 = .ok (.ishl, 1) := by decide +kernel
theorem dX1_search_67 : decode cX1_search 67 = .ok (.iconst 1, 1) := by decide +kernel
theorem dX1_search_68 : decode cX1_search 68 = .ok (.isub, 1) := by decide +kernel
theorem dX1_search_69 : decode cX1_search 69 = .ok (.iconst 0, 1) := by decide +kernel
theorem dX1_search_70 : decode cX1_search 70 = .ok (.iconst 0, 1) := by decide +kernel
theorem dX1_search_71 : decode cX1_search 71 = .ok (.invokevirtual 40, 3) := by decide +kernel
theorem dX1_search_74 : decode cX1_search 74 = .ok (.return_, 1) := by decide +kernel
theorem dX1_weigh_0 : decode cX1_weigh 0 = .ok (.iconst 0, 1) := by decide +kernel
theorem dX1_weigh_1 : decode cX1_weigh 1 = .ok (.istore_n 3, 1) := by decide +kernel
theorem dX1_weigh_2 : decode cX1_weigh 2 = .ok (.iconst 0, 1) := by decide +kernel
theorem dX1_weigh_3 : decode cX1_weigh 3 = .ok (.istore 4, 2) := by decide +kernel
theorem dX1_weigh_5 : decode cX1_weigh 5 = .ok (.iconst 0, 1) := by decide +kernel
theorem dX1_weigh_6 : decode cX1_weigh 6 = .ok (.istore 5, 2) := by decide +kernel
theorem dX1_weigh_8 : decode cX1_weigh 8 = .ok (.iload 5, 2) := by decide +kernel
theorem dX1_weigh_10 : decode cX1_weigh 10 = .ok (.aload_n 1, 1) := by decide +kernel
theorem dX1_weigh_11 : decode cX1_weigh 11 = .ok (.getfield 35, 3) := by decide +kernel
theorem dX1_weigh_14 : decode cX1_weigh 14 = .ok (.if_icmp .ge 52, 3) := by decide +kernel
theorem dX1_weigh_17 : decode cX1_weigh 17 = .ok (.iload_n 2, 1) := by decide +kernel
theorem dX1_weigh_18 : decode cX1_weigh 18 = .ok (.iload 5, 2) := by decide +kernel
theorem dX1_weigh_20 : decode cX1_weigh 20 = .ok (.ishr, 1) := by decide +kernel
theorem dX1_weigh_21 : decode cX1_weigh 21 = .ok (.iconst 1, 1) := by decide +kernel
theorem dX1_weigh_22 : decode cX1_weigh 22 = .ok (.iand, 1) := by decide +kernel
theorem dX1_weigh_23 : decode cX1_weigh 23 = .ok (.iconst 1, 1) := by decide +kernel
theorem dX1_weigh_24 : decode cX1_weigh 24 = .ok (.if_icmp .ne 36, 3) := by decide +kernel
theorem dX1_weigh_27 : decode cX1_weigh 27 = .ok (.iload_n 3, 1) := by decide +kernel
theorem dX1_weigh_28 : decode cX1_weigh 28 = .ok (.aload_n 1, 1) := by decide +kernel
theorem dX1_weigh_29 : decode cX1_weigh 29 = .ok (.getfield 44, 3) := by decide +kernel
theorem dX1_weigh_32 : decode cX1_weigh 32 = .ok (.iload 5, 2) := by decide +kernel
theorem dX1_weigh_34 : decode cX1_weigh 34 = .ok (.iaload, 1) := by decide +kernel
theorem dX1_weigh_35 : decode cX1_weigh 35 = .ok (.iadd, 1) := by decide +kernel
theorem dX1_weigh_36 : decode cX1_weigh 36 = .ok (.istore_n 3, 1) := by decide +kernel
theorem dX1_weigh_37 : decode cX1_weigh 37 = .ok (.iload 4, 2) := by decide +kernel
theorem dX1_weigh_39 : decode cX1_weigh 39 = .ok (.aload_n 1, 1) := by decide +kernel
theorem dX1_weigh_40 : decode cX1_weigh 40 = .ok (.getfield 47, 3) := by decide +kernel
theorem dX1_weigh_43 : decode cX1_weigh 43 = .ok (.iload 5, 2) := by decide +kernel
theorem dX1_weigh_45 : decode cX1_weigh 45 = .ok (.iaload, 1) := by decide +kernel
theorem dX1_weigh_46 : decode cX1_weigh 46 = .ok (.aload_n 1, 1) := by decide +kernel
theorem dX1_weigh_47 : decode cX1_weigh 47 = .ok (.getfield 44, 3) := by decide +kernel
theorem dX1_weigh_50 : decode cX1_weigh 50 = .ok (.iload 5, 2) := by decide +kernel
theorem dX1_weigh_52 : decode cX1_weigh 52 = .ok (.iaload, 1) := by decide +kernel
theorem dX1_weigh_53 : decode cX1_weigh 53 = .ok (.iconst 0, 1) := by decide +kernel
theorem dX1_weigh_54 : decode cX1_weigh 54 = .ok (.invokestatic 50, 3) := by decide +kernel
theorem dX1_weigh_57 : decode cX1_weigh 57 = .ok (.iadd, 1) := by decide +kernel
theorem dX1_weigh_58 : decode cX1_weigh 58 = .ok (.istore 4, 2) := by decide +kernel
theorem dX1_weigh_60 : decode cX1_weigh 60 = .ok (.iinc 5 1, 3) := by decide +kernel
theorem dX1_weigh_63 : decode cX1_weigh 63 = .ok (.goto (-55), 3) := by decide +kernel
theorem dX1_weigh_66 : decode cX1_weigh 66 = .ok (.aload_n 0, 1) := by decide +kernel
theorem dX1_weigh_67 : decode cX1_weigh 67 = .ok (.getfield 25, 3) := by decide +kernel
theorem dX1_weigh_70 : decode cX1_weigh 70 = .ok (.iload_n 2, 1) := by decide +kernel
theorem dX1_weigh_71 : decode cX1_weigh 71 = .ok (.iload_n 3, 1) := by decide +kernel
theorem dX1_weigh_72 : decode cX1_weigh 72 = .ok (.iastore, 1) := by decide +kernel
theorem dX1_weigh_73 : decode cX1_weigh 73 = .ok (.aload_n 0, 1) := by decide +kernel
theorem dX1_weigh_74 : decode cX1_weigh 74 = .ok (.getfield 28, 3) := by decide +kernel
theorem dX1_weigh_77 : decode cX1_weigh 77 = .ok (.iload_n 2, 1) := by decide +kernel
theorem dX1_weigh_78 : decode cX1_weigh 78 = .ok (.iload 4, 2) := by decide +kernel
theorem dX1_weigh_80 : decode cX1_weigh 80 = .ok (.iconst 2, 1) := by decide +kernel
theorem dX1_weigh_81 : decode cX1_weigh 81 = .ok (.iconst 0, 1) := by decide +kernel
theorem dX1_weigh_82 : decode cX1_weigh 82 = .ok (.invokestatic 54, 3) := by decide +kernel
theorem dX1_weigh_85 : decode cX1_weigh 85 = .ok (.imul, 1) := by decide +kernel
theorem dX1_weigh_86 : decode cX1_weigh 86 = .ok (.iastore, 1) := by decide +kernel
theorem dX1_weigh_87 : decode cX1_weigh 87 = .ok (.return_, 1) := by decide +kernel
theorem dX1_chooseFrom_0 : decode cX1_chooseFrom 0 = .ok (.iload_n 3, 1) := by decide +kernel
theorem dX1_chooseFrom_1 : decode cX1_chooseFrom 1 = .ok (.aload_n 1, 1) := by decide +kernel
theorem dX1_chooseFrom_2 : decode cX1_chooseFrom 2 = .ok (.getfield 58, 3) := by decide +kernel
theorem dX1_chooseFrom_5 : decode cX1_chooseFrom 5 = .ok (.if_icmp .ge 8, 3) := by decide +kernel
theorem dX1_chooseFrom_8 : decode cX1_chooseFrom 8 = .ok (.iload_n 3, 1) := by decide +kernel
theorem dX1_chooseFrom_9 : decode cX1_chooseFrom 9 = .ok (.iconst 4, 1) := by decide +kernel
theorem dX1_chooseFrom_10 : decode cX1_chooseFrom 10 = .ok (.if_icmp .lt 12, 3) := by decide +kernel
theorem dX1_chooseFrom_13 : decode cX1_chooseFrom 13 = .ok (.aload_n 0, 1) := by decide +kernel
theorem dX1_chooseFrom_14 : decode cX1_chooseFrom 14 = .ok (.iload 5, 2) := by decide +kernel
theorem dX1_chooseFrom_16 : decode cX1_chooseFrom 16 = .ok (.iload 6, 2) := by decide +kernel
theorem dX1_chooseFrom_18 : decode cX1_chooseFrom 18 = .ok (.invokevirtual 61, 3) := by decide +kernel
theorem dX1_chooseFrom_21 : decode cX1_chooseFrom 21 = .ok (.return_, 1) := by decide +kernel
theorem dX1_chooseFrom_22 : decode cX1_chooseFrom 22 = .ok (.iconst 3, 1) := by decide +kernel
theorem dX1_chooseFrom_23 : decode cX1_chooseFrom 23 = .ok (.aload_n 1, 1) := by decide +kernel
theorem dX1_chooseFrom_24 : decode cX1_chooseFrom 24 = .ok (.getfield 65, 3) := by decide +kernel
theorem dX1_chooseFrom_27 : decode cX1_chooseFrom 27 = .ok (.iload_n 3, 1) := by decide +kernel
theorem dX1_chooseFrom_28 : decode cX1_chooseFrom 28 = .ok (.iaload, 1) := by decide +kernel
theorem dX1_chooseFrom_29 : decode cX1_chooseFrom 29 = .ok (.imul, 1) := by decide +kernel
theorem dX1_chooseFrom_30 : decode cX1_chooseFrom 30 = .ok (.istore 7, 2) := by decide +kernel
theorem dX1_chooseFrom_32 : decode cX1_chooseFrom 32 = .ok (.iconst 0, 1) := by decide +kernel
theorem dX1_chooseFrom_33 : decode cX1_chooseFrom 33 = .ok (.istore 8, 2) := by decide +kernel
theorem dX1_chooseFrom_35 : decode cX1_chooseFrom 35 = .ok (.iload 8, 2) := by decide +kernel
theorem dX1_chooseFrom_37 : decode cX1_chooseFrom 37 = .ok (.iload 4, 2) := by decide +kernel
theorem dX1_chooseFrom_39 : decode cX1_chooseFrom 39 = .ok (.if_icmp .gt 107, 3) := by decide +kernel
theorem dX1_chooseFrom_42 : decode cX1_chooseFrom 42 = .ok (.iload 8, 2) := by decide +kernel
theorem dX1_chooseFrom_44 : decode cX1_chooseFrom 44 = .ok (.bipush 32, 2) := by decide +kernel
theorem dX1_chooseFrom_46 : decode cX1_chooseFrom 46 = .ok (.if_icmp .ge 100, 3) := by decide +kernel
theorem dX1_chooseFrom_49 : decode cX1_chooseFrom 49 = .ok (.iload 7, 2) := by decide +kernel
theorem dX1_chooseFrom_51 : decode cX1_chooseFrom 51 = .ok (.aload_n 0, 1) := by decide +kernel
theorem dX1_chooseFrom_52 : decode cX1_chooseFrom 52 = .ok (.getfield 28, 3) := by decide +kernel
theorem dX1_chooseFrom_55 : decode cX1_chooseFrom 55 = .ok (.iload 8, 2) := by decide +kernel
theorem dX1_chooseFrom_57 : decode cX1_chooseFrom 57 = .ok (.iaload, 1) := by decide +kernel
theorem dX1_chooseFrom_58 : decode cX1_chooseFrom 58 = .ok (.iadd, 1) := by decide +kernel
theorem dX1_chooseFrom_59 : decode cX1_chooseFrom 59 = .ok (.iload_n 2, 1) := by decide +kernel
theorem dX1_chooseFrom_60 : decode cX1_chooseFrom 60 = .ok (.invokestatic 68, 3) := by decide +kernel
theorem dX1_chooseFrom_63 : decode cX1_chooseFrom 63 = .ok (.ifCond .ne 7, 3) := by decide +kernel
theorem dX1_chooseFrom_66 : decode cX1_chooseFrom 66 = .ok (.iconst 1, 1) := by decide +kernel
theorem dX1_chooseFrom_67 : decode cX1_chooseFrom 67 = .ok (.goto 4, 3) := by decide +kernel
theorem dX1_chooseFrom_70 : decode cX1_chooseFrom 70 = .ok (.iconst 0, 1) := by decide +kernel
theorem dX1_chooseFrom_71 : decode cX1_chooseFrom 71 = .ok (.istore 9, 2) := by decide +kernel
theorem dX1_chooseFrom_73 : decode cX1_chooseFrom 73 = .ok (.iload 8, 2) := by decide +kernel
theorem dX1_chooseFrom_75 : decode cX1_chooseFrom 75 = .ok (.iload 4, 2) := by decide +kernel
theorem dX1_chooseFrom_77 : decode cX1_chooseFrom 77 = .ok (.iconst (-1), 1) := by decide +kernel
theorem dX1_chooseFrom_78 : decode cX1_chooseFrom 78 = .ok (.ixor, 1) := by decide +kernel
theorem dX1_chooseFrom_79 : decode cX1_chooseFrom 79 = .ok (.iand, 1) := by decide +kernel
theorem dX1_chooseFrom_80 : decode cX1_chooseFrom 80 = .ok (.ifCond .ne 60, 3) := by decide +kernel
theorem dX1_chooseFrom_83 : decode cX1_chooseFrom 83 = .ok (.iload 9, 2) := by decide +kernel
theorem dX1_chooseFrom_85 : decode cX1_chooseFrom 85 = .ok (.ifCond .ne 8, 3) := by decide +kernel
theorem dX1_chooseFrom_88 : decode cX1_chooseFrom 88 = .ok (.iload 8, 2) := by decide +kernel
theorem dX1_chooseFrom_90 : decode cX1_chooseFrom 90 = .ok (.ifCond .ne 50, 3) := by decide +kernel
theorem dX1_chooseFrom_93 : decode cX1_chooseFrom 93 = .ok (.aload_n 0, 1) := by decide +kernel
theorem dX1_chooseFrom_94 : decode cX1_chooseFrom 94 = .ok (.getfield 22, 3) := by decide +kernel
theorem dX1_chooseFrom_97 : decode cX1_chooseFrom 97 = .ok (.iload_n 3, 1) := by decide +kernel
theorem dX1_chooseFrom_98 : decode cX1_chooseFrom 98 = .ok (.iload 8, 2) := by decide +kernel
theorem dX1_chooseFrom_100 : decode cX1_chooseFrom 100 = .ok (.iastore, 1) := by decide +kernel
theorem dX1_chooseFrom_101 : decode cX1_chooseFrom 101 = .ok (.aload_n 0, 1) := by decide +kernel
theorem dX1_chooseFrom_102 : decode cX1_chooseFrom 102 = .ok (.aload_n 1, 1) := by decide +kernel
theorem dX1_chooseFrom_103 : decode cX1_chooseFrom 103 = .ok (.iload_n 2, 1) := by decide +kernel
theorem dX1_chooseFrom_104 : decode cX1_chooseFrom 104 = .ok (.iload_n 3, 1) := by decide +kernel
theorem dX1_chooseFrom_105 : decode cX1_chooseFrom 105 = .ok (.iconst 1, 1) := by decide +kernel
theorem dX1_chooseFrom_106 : decode cX1_chooseFrom 106 = .ok (.iadd, 1) := by decide +kernel
theorem dX1_chooseFrom_107 : decode cX1_chooseFrom 107 = .ok (.iload 4, 2) := by decide +kernel
theorem dX1_chooseFrom_109 : decode cX1_chooseFrom 109 = .ok (.iload 8, 2) := by decide +kernel
theorem dX1_chooseFrom_111 : decode cX1_chooseFrom 111 = .ok (.iconst (-1), 1) := by decide +kernel
theorem dX1_chooseFrom_112 : decode cX1_chooseFrom 112 = .ok (.ixor, 1) := by decide +kernel
theorem dX1_chooseFrom_113 : decode cX1_chooseFrom 113 = .ok (.iand, 1) := by decide +kernel
theorem dX1_chooseFrom_114 : decode cX1_chooseFrom 114 = .ok (.iload 5, 2) := by decide +kernel
theorem dX1_chooseFrom_116 : decode cX1_chooseFrom 116 = .ok (.iload 9, 2) := by decide +kernel
theorem dX1_chooseFrom_118 : decode cX1_chooseFrom 118 = .ok (.ifCond .eq 7, 3) := by decide +kernel
theorem dX1_chooseFrom_121 : decode cX1_chooseFrom 121 = .ok (.iconst 1, 1) := by decide +kernel
theorem dX1_chooseFrom_122 : decode cX1_chooseFrom 122 = .ok (.goto 4, 3) := by decide +kernel
theorem dX1_chooseFrom_125 : decode cX1_chooseFrom 125 = .ok (.iconst 0, 1) := by decide +kernel
theorem dX1_chooseFrom_126 : decode cX1_chooseFrom 126 = .ok (.iadd, 1) := by decide +kernel
theorem dX1_chooseFrom_127 : decode cX1_chooseFrom 127 = .ok (.iload 6, 2) := by decide +kernel
theorem dX1_chooseFrom_129 : decode cX1_chooseFrom 129 = .ok (.aload_n 0, 1) := by decide +kernel
theorem dX1_chooseFrom_130 : decode cX1_chooseFrom 130 = .ok (.getfield 25, 3) := by decide +kernel
theorem dX1_chooseFrom_133 : decode cX1_chooseFrom 133 = .ok (.iload 8, 2) := by decide +kernel
theorem dX1_chooseFrom_135 : decode cX1_chooseFrom 135 = .ok (.iaload, 1) := by decide +kernel
theorem dX1_chooseFrom_136 : decode cX1_chooseFrom 136 = .ok (.iadd, 1) := by decide +kernel
theorem dX1_chooseFrom_137 : decode cX1_chooseFrom 137 = .ok (.invokevirtual 40, 3) := by decide +kernel
theorem dX1_chooseFrom_140 : decode cX1_chooseFrom 140 = .ok (.iinc 8 1, 3) := by decide +kernel
theorem dX1_chooseFrom_143 : decode cX1_chooseFrom 143 = .ok (.goto (-108), 3) := by decide +kernel
theorem dX1_chooseFrom_146 : decode cX1_chooseFrom 146 = .ok (.return_, 1) := by decide +kernel
theorem dX1_keepIfBetter_0 : decode cX1_keepIfBetter 0 = .ok (.iload_n 1, 1) := by decide +kernel
theorem dX1_keepIfBetter_1 : decode cX1_keepIfBetter 1 = .ok (.aload_n 0, 1) := by decide +kernel
theorem dX1_keepIfBetter_2 : decode cX1_keepIfBetter 2 = .ok (.getfield 15, 3) := by decide +kernel
theorem dX1_keepIfBetter_5 : decode cX1_keepIfBetter 5 = .ok (.if_icmp .gt 19, 3) := by decide +kernel
theorem dX1_keepIfBetter_8 : decode cX1_keepIfBetter 8 = .ok (.iload_n 1, 1) := by decide +kernel
theorem dX1_keepIfBetter_9 : decode cX1_keepIfBetter 9 = .ok (.aload_n 0, 1) := by decide +kernel
theorem dX1_keepIfBetter_10 : decode cX1_keepIfBetter 10 = .ok (.getfield 15, 3) := by decide +kernel
theorem dX1_keepIfBetter_13 : decode cX1_keepIfBetter 13 = .ok (.if_icmp .ne 46, 3) := by decide +kernel
theorem dX1_keepIfBetter_16 : decode cX1_keepIfBetter 16 = .ok (.iload_n 2, 1) := by decide +kernel
theorem dX1_keepIfBetter_17 : decode cX1_keepIfBetter 17 = .ok (.aload_n 0, 1) := by decide +kernel
theorem dX1_keepIfBetter_18 : decode cX1_keepIfBetter 18 = .ok (.getfield 19, 3) := by decide +kernel
theorem dX1_keepIfBetter_21 : decode cX1_keepIfBetter 21 = .ok (.if_icmp .ge 38, 3) := by decide +kernel
theorem dX1_keepIfBetter_24 : decode cX1_keepIfBetter 24 = .ok (.aload_n 0, 1) := by decide +kernel
theorem dX1_keepIfBetter_25 : decode cX1_keepIfBetter 25 = .ok (.iload_n 1, 1) := by decide +kernel
theorem dX1_keepIfBetter_26 : decode cX1_keepIfBetter 26 = .ok (.putfield 15, 3) := by decide +kernel
theorem dX1_keepIfBetter_29 : decode cX1_keepIfBetter 29 = .ok (.aload_n 0, 1) := by decide +kernel
theorem dX1_keepIfBetter_30 : decode cX1_keepIfBetter 30 = .ok (.iload_n 2, 1) := by decide +kernel
theorem dX1_keepIfBetter_31 : decode cX1_keepIfBetter 31 = .ok (.putfield 19, 3) := by decide +kernel
theorem dX1_keepIfBetter_34 : decode cX1_keepIfBetter 34 = .ok (.iconst 0, 1) := by decide +kernel
theorem dX1_keepIfBetter_35 : decode cX1_keepIfBetter 35 = .ok (.istore_n 3, 1) := by decide +kernel
theorem dX1_keepIfBetter_36 : decode cX1_keepIfBetter 36 = .ok (.iload_n 3, 1) := by decide +kernel
theorem dX1_keepIfBetter_37 : decode cX1_keepIfBetter 37 = .ok (.iconst 4, 1) := by decide +kernel
theorem dX1_keepIfBetter_38 : decode cX1_keepIfBetter 38 = .ok (.if_icmp .ge 21, 3) := by decide +kernel
theorem dX1_keepIfBetter_41 : decode cX1_keepIfBetter 41 = .ok (.aload_n 0, 1) := by decide +kernel
theorem dX1_keepIfBetter_42 : decode cX1_keepIfBetter 42 = .ok (.getfield 9, 3) := by decide +kernel
theorem dX1_keepIfBetter_45 : decode cX1_keepIfBetter 45 = .ok (.iload_n 3, 1) := by decide +kernel
theorem dX1_keepIfBetter_46 : decode cX1_keepIfBetter 46 = .ok (.aload_n 0, 1) := by decide +kernel
theorem dX1_keepIfBetter_47 : decode cX1_keepIfBetter 47 = .ok (.getfield 22, 3) := by decide +kernel
theorem dX1_keepIfBetter_50 : decode cX1_keepIfBetter 50 = .ok (.iload_n 3, 1) := by decide +kernel
theorem dX1_keepIfBetter_51 : decode cX1_keepIfBetter 51 = .ok (.iaload, 1) := by decide +kernel
theorem dX1_keepIfBetter_52 : decode cX1_keepIfBetter 52 = .ok (.iastore, 1) := by decide +kernel
theorem dX1_keepIfBetter_53 : decode cX1_keepIfBetter 53 = .ok (.iinc 3 1, 3) := by decide +kernel
theorem dX1_keepIfBetter_56 : decode cX1_keepIfBetter 56 = .ok (.goto (-20), 3) := by decide +kernel
theorem dX1_keepIfBetter_59 : decode cX1_keepIfBetter 59 = .ok (.return_, 1) := by decide +kernel
theorem dX2_init_0 : decode cX2_init 0 = .ok (.aload_n 0, 1) := by decide +kernel
theorem dX2_init_1 : decode cX2_init 1 = .ok (.invokespecial 3, 3) := by decide +kernel
theorem dX2_init_4 : decode cX2_init 4 = .ok (.aload_n 0, 1) := by decide +kernel
theorem dX2_init_5 : decode cX2_init 5 = .ok (.bipush 36, 2) := by decide +kernel
theorem dX2_init_7 : decode cX2_init 7 = .ok (.newarray .int, 2) := by decide +kernel
theorem dX2_init_9 : decode cX2_init 9 = .ok (.putfield 9, 3) := by decide +kernel
theorem dX2_init_12 : decode cX2_init 12 = .ok (.aload_n 0, 1) := by decide +kernel
theorem dX2_init_13 : decode cX2_init 13 = .ok (.iconst 0, 1) := by decide +kernel
theorem dX2_init_14 : decode cX2_init 14 = .ok (.putfield 15, 3) := by decide +kernel
theorem dX2_init_17 : decode cX2_init 17 = .ok (.aload_n 0, 1) := by decide +kernel
theorem dX2_init_18 : decode cX2_init 18 = .ok (.iconst 0, 1) := by decide +kernel
theorem dX2_init_19 : decode cX2_init 19 = .ok (.putfield 19, 3) := by decide +kernel
theorem dX2_init_22 : decode cX2_init 22 = .ok (.aload_n 0, 1) := by decide +kernel
theorem dX2_init_23 : decode cX2_init 23 = .ok (.iconst 0, 1) := by decide +kernel
theorem dX2_init_24 : decode cX2_init 24 = .ok (.putfield 22, 3) := by decide +kernel
theorem dX2_init_27 : decode cX2_init 27 = .ok (.aload_n 0, 1) := by decide +kernel
theorem dX2_init_28 : decode cX2_init 28 = .ok (.iconst 0, 1) := by decide +kernel
theorem dX2_init_29 : decode cX2_init 29 = .ok (.putfield 25, 3) := by decide +kernel
theorem dX2_init_32 : decode cX2_init 32 = .ok (.return_, 1) := by decide +kernel
theorem dX2_append_0 : decode cX2_append 0 = .ok (.aload_n 0, 1) := by decide +kernel
theorem dX2_append_1 : decode cX2_append 1 = .ok (.getfield 15, 3) := by decide +kernel
theorem dX2_append_4 : decode cX2_append 4 = .ok (.bipush 36, 2) := by decide +kernel
theorem dX2_append_6 : decode cX2_append 6 = .ok (.if_icmp .ge 23, 3) := by decide +kernel
theorem dX2_append_9 : decode cX2_append 9 = .ok (.aload_n 0, 1) := by decide +kernel
theorem dX2_append_10 : decode cX2_append 10 = .ok (.getfield 9, 3) := by decide +kernel
theorem dX2_append_13 : decode cX2_append 13 = .ok (.aload_n 0, 1) := by decide +kernel
theorem dX2_append_14 : decode cX2_append 14 = .ok (.getfield 15, 3) := by decide +kernel
theorem dX2_append_17 : decode cX2_append 17 = .ok (.iload_n 1, 1) := by decide +kernel
theorem dX2_append_18 : decode cX2_append 18 = .ok (.iastore, 1) := by decide +kernel
theorem dX2_append_19 : decode cX2_append 19 = .ok (.aload_n 0, 1) := by decide +kernel
theorem dX2_append_20 : decode cX2_append 20 = .ok (.dup, 1) := by decide +kernel
theorem dX2_append_21 : decode cX2_append 21 = .ok (.getfield 15, 3) := by decide +kernel
theorem dX2_append_24 : decode cX2_append 24 = .ok (.iconst 1, 1) := by decide +kernel
theorem dX2_append_25 : decode cX2_append 25 = .ok (.iadd, 1) := by decide +kernel
theorem dX2_append_26 : decode cX2_append 26 = .ok (.putfield 15, 3) := by decide +kernel
theorem dX2_append_29 : decode cX2_append 29 = .ok (.return_, 1) := by decide +kernel
theorem dX2_scan_0 : decode cX2_scan 0 = .ok (.aload_n 0, 1) := by decide +kernel
theorem dX2_scan_1 : decode cX2_scan 1 = .ok (.iconst 0, 1) := by decide +kernel
theorem dX2_scan_2 : decode cX2_scan 2 = .ok (.putfield 19, 3) := by decide +kernel
theorem dX2_scan_5 : decode cX2_scan 5 = .ok (.aload_n 0, 1) := by decide +kernel
theorem dX2_scan_6 : decode cX2_scan 6 = .ok (.iconst 0, 1) := by decide +kernel
theorem dX2_scan_7 : decode cX2_scan 7 = .ok (.putfield 22, 3) := by decide +kernel
theorem dX2_scan_10 : decode cX2_scan 10 = .ok (.aload_n 0, 1) := by decide +kernel
theorem dX2_scan_11 : decode cX2_scan 11 = .ok (.iconst 0, 1) := by decide +kernel
theorem dX2_scan_12 : decode cX2_scan 12 = .ok (.putfield 25, 3) := by decide +kernel
theorem dX2_scan_15 : decode cX2_scan 15 = .ok (.iconst 0, 1) := by decide +kernel
theorem dX2_scan_16 : decode cX2_scan 16 = .ok (.istore_n 1, 1) := by decide +kernel
theorem dX2_scan_17 : decode cX2_scan 17 = .ok (.iload_n 1, 1) := by decide +kernel
theorem dX2_scan_18 : decode cX2_scan 18 = .ok (.aload_n 0, 1) := by decide +kernel
theorem dX2_scan_19 : decode cX2_scan 19 = .ok (.getfield 15, 3) := by decide +kernel
theorem dX2_scan_22 : decode cX2_scan 22 = .ok (.if_icmp .ge 34, 3) := by decide +kernel
theorem dX2_scan_25 : decode cX2_scan 25 = .ok (.aload_n 0, 1) := by decide +kernel
theorem dX2_scan_26 : decode cX2_scan 26 = .ok (.aload_n 0, 1) := by decide +kernel
theorem dX2_scan_27 : decode cX2_scan 27 = .ok (.aload_n 0, 1) := by decide +kernel
theorem dX2_scan_28 : decode cX2_scan 28 = .ok (.getfield 9, 3) := by decide +kernel
theorem dX2_scan_31 : decode cX2_scan 31 = .ok (.iload_n 1, 1) := by decide +kernel
theorem dX2_scan_32 : decode cX2_scan 32 = .ok (.iaload, 1) := by decide +kernel
theorem dX2_scan_33 : decode cX2_scan 33 = .ok (.invokevirtual 28, 3) := by decide +kernel
theorem dX2_scan_36 : decode cX2_scan 36 = .ok (.putfield 25, 3) := by decide +kernel
theorem dX2_scan_39 : decode cX2_scan 39 = .ok (.aload_n 0, 1) := by decide +kernel
theorem dX2_scan_40 : decode cX2_scan 40 = .ok (.getfield 25, 3) := by decide +kernel
theorem dX2_scan_43 : decode cX2_scan 43 = .ok (.bipush 7, 2) := by decide +kernel
theorem dX2_scan_45 : decode cX2_scan 45 = .ok (.if_icmp .ne 5, 3) := by decide +kernel
theorem dX2_scan_48 : decode cX2_scan 48 = .ok (.iload_n 1, 1) := by decide +kernel
theorem dX2_scan_49 : decode cX2_scan 49 = .ok (.ireturn, 1) := by decide +kernel
theorem dX2_scan_50 : decode cX2_scan 50 = .ok (.iinc 1 1, 3) := by decide +kernel
theorem dX2_scan_53 : decode cX2_scan 53 = .ok (.goto (-36), 3) := by decide +kernel
theorem dX2_scan_56 : decode cX2_scan 56 = .ok (.aload_n 0, 1) := by decide +kernel
theorem dX2_scan_57 : decode cX2_scan 57 = .ok (.getfield 15, 3) := by decide +kernel
theorem dX2_scan_60 : decode cX2_scan 60 = .ok (.ireturn, 1) := by decide +kernel
theorem dX2_isTable_0 : decode cX2_isTable 0 = .ok (.aload_n 0, 1) := by decide +kernel
theorem dX2_isTable_1 : decode cX2_isTable 1 = .ok (.invokevirtual 32, 3) := by decide +kernel
theorem dX2_isTable_4 : decode cX2_isTable 4 = .ok (.aload_n 0, 1) := by decide +kernel
theorem dX2_isTable_5 : decode cX2_isTable 5 = .ok (.getfield 15, 3) := by decide +kernel
theorem dX2_isTable_8 : decode cX2_isTable 8 = .ok (.if_icmp .ne 16, 3) := by decide +kernel
theorem dX2_isTable_11 : decode cX2_isTable 11 = .ok (.aload_n 0, 1) := by decide +kernel
theorem dX2_isTable_12 : decode cX2_isTable 12 = .ok (.getfield 25, 3) := by decide +kernel
theorem dX2_isTable_15 : decode cX2_isTable 15 = .ok (.bipush 6, 2) := by decide +kernel
theorem dX2_isTable_17 : decode cX2_isTable 17 = .ok (.if_icmp .ne 7, 3) := by decide +kernel
theorem dX2_isTable_20 : decode cX2_isTable 20 = .ok (.iconst 1, 1) := by decide +kernel
theorem dX2_isTable_21 : decode cX2_isTable 21 = .ok (.goto 4, 3) := by decide +kernel
theorem dX2_isTable_24 : decode cX2_isTable 24 = .ok (.iconst 0, 1) := by decide +kernel
theorem dX2_isTable_25 : decode cX2_isTable 25 = .ok (.ireturn, 1) := by decide +kernel
theorem dX2_dueBehind_0 : decode cX2_dueBehind 0 = .ok (.aload_n 0, 1) := by decide +kernel
theorem dX2_dueBehind_1 : decode cX2_dueBehind 1 = .ok (.getfield 25, 3) := by decide +kernel
theorem dX2_dueBehind_4 : decode cX2_dueBehind 4 = .ok (.tableswitch 138 0 6 #[44, 50, 56, 73, 90, 111, 117], 44) := by decide +kernel
theorem dX2_dueBehind_48 : decode cX2_dueBehind 48 = .ok (.aload_n 0, 1) := by decide +kernel
theorem dX2_dueBehind_49 : decode cX2_dueBehind 49 = .ok (.iload_n 1, 1) := by decide +kernel
theorem dX2_dueBehind_50 : decode cX2_dueBehind 50 = .ok (.invokevirtual 36, 3) := by decide +kernel
theorem dX2_dueBehind_53 : decode cX2_dueBehind 53 = .ok (.ireturn, 1) := by decide +kernel
theorem dX2_dueBehind_54 : decode cX2_dueBehind 54 = .ok (.aload_n 0, 1) := by decide +kernel
theorem dX2_dueBehind_55 : decode cX2_dueBehind 55 = .ok (.iload_n 1, 1) := by decide +kernel
theorem dX2_dueBehind_56 : decode cX2_dueBehind 56 = .ok (.invokevirtual 39, 3) := by decide +kernel
theorem dX2_dueBehind_59 : decode cX2_dueBehind 59 = .ok (.ireturn, 1) := by decide +kernel
theorem dX2_dueBehind_60 : decode cX2_dueBehind 60 = .ok (.ldc 42, 2) := by decide +kernel
theorem dX2_dueBehind_62 : decode cX2_dueBehind 62 = .ok (.iload_n 1, 1) := by decide +kernel
theorem dX2_dueBehind_63 : decode cX2_dueBehind 63 = .ok (.i2c, 1) := by decide +kernel
theorem dX2_dueBehind_64 : decode cX2_dueBehind 64 = .ok (.invokevirtual 44, 3) := by decide +kernel
theorem dX2_dueBehind_67 : decode cX2_dueBehind 67 = .ok (.ifCond .lt 7, 3) := by decide +kernel
theorem dX2_dueBehind_70 : decode cX2_dueBehind 70 = .ok (.iconst 3, 1) := by decide +kernel
theorem dX2_dueBehind_71 : decode cX2_dueBehind 71 = .ok (.goto 5, 3) := by decide +kernel
theorem dX2_dueBehind_74 : decode cX2_dueBehind 74 = .ok (.bipush 7, 2) := by decide +kernel
theorem dX2_dueBehind_76 : decode cX2_dueBehind 76 = .ok (.ireturn, 1) := by decide +kernel
theorem dX2_dueBehind_77 : decode cX2_dueBehind 77 = .ok (.iload_n 1, 1) := by decide +kernel
theorem dX2_dueBehind_78 : decode cX2_dueBehind 78 = .ok (.iconst 1, 1) := by decide +kernel
theorem dX2_dueBehind_79 : decode cX2_dueBehind 79 = .ok (.bipush 9, 2) := by decide +kernel
theorem dX2_dueBehind_81 : decode cX2_dueBehind 81 = .ok (.invokestatic 49, 3) := by decide +kernel
theorem dX2_dueBehind_84 : decode cX2_dueBehind 84 = .ok (.ifCond .eq 7, 3) := by decide +kernel
theorem dX2_dueBehind_87 : decode cX2_dueBehind 87 = .ok (.iconst 4, 1) := by decide +kernel
theorem dX2_dueBehind_88 : decode cX2_dueBehind 88 = .ok (.goto 5, 3) := by decide +kernel
theorem dX2_dueBehind_91 : decode cX2_dueBehind 91 = .ok (.bipush 7, 2) := by decide +kernel
theorem dX2_dueBehind_93 : decode cX2_dueBehind 93 = .ok (.ireturn, 1) := by decide +kernel
theorem dX2_dueBehind_94 : decode cX2_dueBehind 94 = .ok (.iload_n 1, 1) := by decide +kernel
theorem dX2_dueBehind_95 : decode cX2_dueBehind 95 = .ok (.iconst 0, 1) := by decide +kernel
theorem dX2_dueBehind_96 : decode cX2_dueBehind 96 = .ok (.aload_n 0, 1) := by decide +kernel
theorem dX2_dueBehind_97 : decode cX2_dueBehind 97 = .ok (.getfield 19, 3) := by decide +kernel
theorem dX2_dueBehind_100 : decode cX2_dueBehind 100 = .ok (.iconst 1, 1) := by decide +kernel
theorem dX2_dueBehind_101 : decode cX2_dueBehind 101 = .ok (.isub, 1) := by decide +kernel
theorem dX2_dueBehind_102 : decode cX2_dueBehind 102 = .ok (.invokestatic 49, 3) := by decide +kernel
theorem dX2_dueBehind_105 : decode cX2_dueBehind 105 = .ok (.ifCond .eq 7, 3) := by decide +kernel
theorem dX2_dueBehind_108 : decode cX2_dueBehind 108 = .ok (.iconst 5, 1) := by decide +kernel
theorem dX2_dueBehind_109 : decode cX2_dueBehind 109 = .ok (.goto 5, 3) := by decide +kernel
theorem dX2_dueBehind_112 : decode cX2_dueBehind 112 = .ok (.bipush 7, 2) := by decide +kernel
theorem dX2_dueBehind_114 : decode cX2_dueBehind 114 = .ok (.ireturn, 1) := by decide +kernel
theorem dX2_dueBehind_115 : decode cX2_dueBehind 115 = .ok (.aload_n 0, 1) := by decide +kernel
theorem dX2_dueBehind_116 : decode cX2_dueBehind 116 = .ok (.iload_n 1, 1) := by decide +kernel
theorem dX2_dueBehind_117 : decode cX2_dueBehind 117 = .ok (.invokevirtual 53, 3) := by decide +kernel
theorem dX2_dueBehind_120 : decode cX2_dueBehind 120 = .ok (.ireturn, 1) := by decide +kernel
theorem dX2_dueBehind_121 : decode cX2_dueBehind 121 = .ok (.iload_n 1, 1) := by decide +kernel
theorem dX2_dueBehind_122 : decode cX2_dueBehind 122 = .ok (.bipush 44, 2) := by decide +kernel
theorem dX2_dueBehind_124 : decode cX2_dueBehind 124 = .ok (.if_icmp .ne 15, 3) := by decide +kernel
theorem dX2_dueBehind_127 : decode cX2_dueBehind 127 = .ok (.aload_n 0, 1) := by decide +kernel
theorem dX2_dueBehind_128 : decode cX2_dueBehind 128 = .ok (.getfield 22, 3) := by decide +kernel
theorem dX2_dueBehind_131 : decode cX2_dueBehind 131 = .ok (.iconst 5, 1) := by decide +kernel
theorem dX2_dueBehind_132 : decode cX2_dueBehind 132 = .ok (.if_icmp .ge 7, 3) := by decide +kernel
theorem dX2_dueBehind_135 : decode cX2_dueBehind 135 = .ok (.iconst 2, 1) := by decide +kernel
theorem dX2_dueBehind_136 : decode cX2_dueBehind 136 = .ok (.goto 5, 3) := by decide +kernel
theorem dX2_dueBehind_139 : decode cX2_dueBehind 139 = .ok (.bipush 7, 2) := by decide +kernel
theorem dX2_dueBehind_141 : decode cX2_dueBehind 141 = .ok (.ireturn, 1) := by decide +kernel
theorem dX2_dueBehind_142 : decode cX2_dueBehind 142 = .ok (.bipush 7, 2) := by decide +kernel
theorem dX2_dueBehind_144 : decode cX2_dueBehind 144 = .ok (.ireturn, 1) := by decide +kernel
theorem dX2_behindBase_0 : decode cX2_behindBase 0 = .ok (.iload_n 1, 1) := by decide +kernel
theorem dX2_behindBase_1 : decode cX2_behindBase 1 = .ok (.iconst 0, 1) := by decide +kernel
theorem dX2_behindBase_2 : decode cX2_behindBase 2 = .ok (.bipush 9, 2) := by decide +kernel
theorem dX2_behindBase_4 : decode cX2_behindBase 4 = .ok (.invokestatic 49, 3) := by decide +kernel
theorem dX2_behindBase_7 : decode cX2_behindBase 7 = .ok (.ifCond .ne 6, 3) := by decide +kernel
theorem dX2_behindBase_10 : decode cX2_behindBase 10 = .ok (.bipush 7, 2) := by decide +kernel
theorem dX2_behindBase_12 : decode cX2_behindBase 12 = .ok (.ireturn, 1) := by decide +kernel
theorem dX2_behindBase_13 : decode cX2_behindBase 13 = .ok (.aload_n 0, 1) := by decide +kernel
theorem dX2_behindBase_14 : decode cX2_behindBase 14 = .ok (.dup, 1) := by decide +kernel
theorem dX2_behindBase_15 : decode cX2_behindBase 15 = .ok (.getfield 19, 3) := by decide +kernel
theorem dX2_behindBase_18 : decode cX2_behindBase 18 = .ok (.iconst 1, 1) := by decide +kernel
theorem dX2_behindBase_19 : decode cX2_behindBase 19 = .ok (.iadd, 1) := by decide +kernel
theorem dX2_behindBase_20 : decode cX2_behindBase 20 = .ok (.putfield 19, 3) := by decide +kernel
end
section
theorem dX2_behindBase_23 : decode cX2_behindBase 23 = .ok (.iconst 1, 1) := by decide +kernel
theorem dX2_behindBase_24 : decode cX2_behindBase 24 = .ok (.ireturn, 1) := by decide +kernel
theorem dX2_behindBaseSign_0 : decode cX2_behindBaseSign 0 = .ok (.iload_n 1, 1) := by decide +kernel
theorem dX2_behindBaseSign_1 : decode cX2_behindBaseSign 1 = .ok (.bipush 44, 2) := by decide +kernel
theorem dX2_behindBaseSign_3 : decode cX2_behindBaseSign 3 = .ok (.if_icmp .ne 13, 3) := by decide +kernel
theorem dX2_behindBaseSign_6 : decode cX2_behindBaseSign 6 = .ok (.aload_n 0, 1) := by decide +kernel
theorem dX2_behindBaseSign_7 : decode cX2_behindBaseSign 7 = .ok (.getfield 19, 3) := by decide +kernel
theorem dX2_behindBaseSign_10 : decode cX2_behindBaseSign 10 = .ok (.iconst 4, 1) := by decide +kernel
theorem dX2_behindBaseSign_11 : decode cX2_behindBaseSign 11 = .ok (.if_icmp .ge 5, 3) := by decide +kernel
theorem dX2_behindBaseSign_14 : decode cX2_behindBaseSign 14 = .ok (.iconst 0, 1) := by decide +kernel
theorem dX2_behindBaseSign_15 : decode cX2_behindBaseSign 15 = .ok (.ireturn, 1) := by decide +kernel
theorem dX2_behindBaseSign_16 : decode cX2_behindBaseSign 16 = .ok (.iload_n 1, 1) := by decide +kernel
theorem dX2_behindBaseSign_17 : decode cX2_behindBaseSign 17 = .ok (.bipush 59, 2) := by decide +kernel
theorem dX2_behindBaseSign_19 : decode cX2_behindBaseSign 19 = .ok (.if_icmp .ne 15, 3) := by decide +kernel
theorem dX2_behindBaseSign_22 : decode cX2_behindBaseSign 22 = .ok (.aload_n 0, 1) := by decide +kernel
theorem dX2_behindBaseSign_23 : decode cX2_behindBaseSign 23 = .ok (.getfield 19, 3) := by decide +kernel
theorem dX2_behindBaseSign_26 : decode cX2_behindBaseSign 26 = .ok (.iconst 2, 1) := by decide +kernel
theorem dX2_behindBaseSign_27 : decode cX2_behindBaseSign 27 = .ok (.if_icmp .lt 7, 3) := by decide +kernel
theorem dX2_behindBaseSign_30 : decode cX2_behindBaseSign 30 = .ok (.iconst 2, 1) := by decide +kernel
theorem dX2_behindBaseSign_31 : decode cX2_behindBaseSign 31 = .ok (.goto 5, 3) := by decide +kernel
theorem dX2_behindBaseSign_34 : decode cX2_behindBaseSign 34 = .ok (.bipush 7, 2) := by decide +kernel
theorem dX2_behindBaseSign_36 : decode cX2_behindBaseSign 36 = .ok (.ireturn, 1) := by decide +kernel
theorem dX2_behindPlace_0 : decode cX2_behindPlace 0 = .ok (.iload_n 1, 1) := by decide +kernel
theorem dX2_behindPlace_1 : decode cX2_behindPlace 1 = .ok (.iconst 0, 1) := by decide +kernel
theorem dX2_behindPlace_2 : decode cX2_behindPlace 2 = .ok (.iconst 4, 1) := by decide +kernel
theorem dX2_behindPlace_3 : decode cX2_behindPlace 3 = .ok (.invokestatic 49, 3) := by decide +kernel
theorem dX2_behindPlace_6 : decode cX2_behindPlace 6 = .ok (.ifCond .ne 6, 3) := by decide +kernel
theorem dX2_behindPlace_9 : decode cX2_behindPlace 9 = .ok (.bipush 7, 2) := by decide +kernel
theorem dX2_behindPlace_11 : decode cX2_behindPlace 11 = .ok (.ireturn, 1) := by decide +kernel
theorem dX2_behindPlace_12 : decode cX2_behindPlace 12 = .ok (.aload_n 0, 1) := by decide +kernel
theorem dX2_behindPlace_13 : decode cX2_behindPlace 13 = .ok (.dup, 1) := by decide +kernel
theorem dX2_behindPlace_14 : decode cX2_behindPlace 14 = .ok (.getfield 22, 3) := by decide +kernel
theorem dX2_behindPlace_17 : decode cX2_behindPlace 17 = .ok (.iconst 1, 1) := by decide +kernel
theorem dX2_behindPlace_18 : decode cX2_behindPlace 18 = .ok (.iadd, 1) := by decide +kernel
theorem dX2_behindPlace_19 : decode cX2_behindPlace 19 = .ok (.putfield 22, 3) := by decide +kernel
theorem dX2_behindPlace_22 : decode cX2_behindPlace 22 = .ok (.bipush 6, 2) := by decide +kernel
theorem dX2_behindPlace_24 : decode cX2_behindPlace 24 = .ok (.ireturn, 1) := by decide +kernel
theorem dX2_isDigit_0 : decode cX2_isDigit 0 = .ok (.iload_n 0, 1) := by decide +kernel
theorem dX2_isDigit_1 : decode cX2_isDigit 1 = .ok (.bipush 48, 2) := by decide +kernel
theorem dX2_isDigit_3 : decode cX2_isDigit 3 = .ok (.iload_n 1, 1) := by decide +kernel
theorem dX2_isDigit_4 : decode cX2_isDigit 4 = .ok (.iadd, 1) := by decide +kernel
theorem dX2_isDigit_5 : decode cX2_isDigit 5 = .ok (.if_icmp .lt 15, 3) := by decide +kernel
theorem dX2_isDigit_8 : decode cX2_isDigit 8 = .ok (.iload_n 0, 1) := by decide +kernel
theorem dX2_isDigit_9 : decode cX2_isDigit 9 = .ok (.bipush 48, 2) := by decide +kernel
theorem dX2_isDigit_11 : decode cX2_isDigit 11 = .ok (.iload_n 2, 1) := by decide +kernel
theorem dX2_isDigit_12 : decode cX2_isDigit 12 = .ok (.iadd, 1) := by decide +kernel
theorem dX2_isDigit_13 : decode cX2_isDigit 13 = .ok (.if_icmp .gt 7, 3) := by decide +kernel
theorem dX2_isDigit_16 : decode cX2_isDigit 16 = .ok (.iconst 1, 1) := by decide +kernel
theorem dX2_isDigit_17 : decode cX2_isDigit 17 = .ok (.goto 4, 3) := by decide +kernel
theorem dX2_isDigit_20 : decode cX2_isDigit 20 = .ok (.iconst 0, 1) := by decide +kernel
theorem dX2_isDigit_21 : decode cX2_isDigit 21 = .ok (.ireturn, 1) := by decide +kernel
theorem dX2_readInto_0 : decode cX2_readInto 0 = .ok (.aload_n 1, 1) := by decide +kernel
theorem dX2_readInto_1 : decode cX2_readInto 1 = .ok (.aload_n 0, 1) := by decide +kernel
theorem dX2_readInto_2 : decode cX2_readInto 2 = .ok (.getfield 19, 3) := by decide +kernel
theorem dX2_readInto_5 : decode cX2_readInto 5 = .ok (.aload_n 0, 1) := by decide +kernel
theorem dX2_readInto_6 : decode cX2_readInto 6 = .ok (.getfield 22, 3) := by decide +kernel
theorem dX2_readInto_9 : decode cX2_readInto 9 = .ok (.invokevirtual 56, 3) := by decide +kernel
theorem dX2_readInto_12 : decode cX2_readInto 12 = .ok (.iconst 0, 1) := by decide +kernel
theorem dX2_readInto_13 : decode cX2_readInto 13 = .ok (.istore_n 2, 1) := by decide +kernel
theorem dX2_readInto_14 : decode cX2_readInto 14 = .ok (.iload_n 2, 1) := by decide +kernel
theorem dX2_readInto_15 : decode cX2_readInto 15 = .ok (.aload_n 1, 1) := by decide +kernel
theorem dX2_readInto_16 : decode cX2_readInto 16 = .ok (.getfield 62, 3) := by decide +kernel
theorem dX2_readInto_19 : decode cX2_readInto 19 = .ok (.if_icmp .ge 22, 3) := by decide +kernel
theorem dX2_readInto_22 : decode cX2_readInto 22 = .ok (.aload_n 1, 1) := by decide +kernel
theorem dX2_readInto_23 : decode cX2_readInto 23 = .ok (.getfield 63, 3) := by decide +kernel
theorem dX2_readInto_26 : decode cX2_readInto 26 = .ok (.iload_n 2, 1) := by decide +kernel
theorem dX2_readInto_27 : decode cX2_readInto 27 = .ok (.aload_n 0, 1) := by decide +kernel
theorem dX2_readInto_28 : decode cX2_readInto 28 = .ok (.iconst 2, 1) := by decide +kernel
theorem dX2_readInto_29 : decode cX2_readInto 29 = .ok (.iload_n 2, 1) := by decide +kernel
theorem dX2_readInto_30 : decode cX2_readInto 30 = .ok (.imul, 1) := by decide +kernel
theorem dX2_readInto_31 : decode cX2_readInto 31 = .ok (.invokevirtual 66, 3) := by decide +kernel
theorem dX2_readInto_34 : decode cX2_readInto 34 = .ok (.iastore, 1) := by decide +kernel
theorem dX2_readInto_35 : decode cX2_readInto 35 = .ok (.iinc 2 1, 3) := by decide +kernel
theorem dX2_readInto_38 : decode cX2_readInto 38 = .ok (.goto (-24), 3) := by decide +kernel
theorem dX2_readInto_41 : decode cX2_readInto 41 = .ok (.iconst 0, 1) := by decide +kernel
theorem dX2_readInto_42 : decode cX2_readInto 42 = .ok (.istore_n 2, 1) := by decide +kernel
theorem dX2_readInto_43 : decode cX2_readInto 43 = .ok (.iload_n 2, 1) := by decide +kernel
theorem dX2_readInto_44 : decode cX2_readInto 44 = .ok (.aload_n 1, 1) := by decide +kernel
theorem dX2_readInto_45 : decode cX2_readInto 45 = .ok (.getfield 69, 3) := by decide +kernel
theorem dX2_readInto_48 : decode cX2_readInto 48 = .ok (.if_icmp .ge 70, 3) := by decide +kernel
theorem dX2_readInto_51 : decode cX2_readInto 51 = .ok (.iconst 2, 1) := by decide +kernel
theorem dX2_readInto_52 : decode cX2_readInto 52 = .ok (.aload_n 0, 1) := by decide +kernel
theorem dX2_readInto_53 : decode cX2_readInto 53 = .ok (.getfield 19, 3) := by decide +kernel
theorem dX2_readInto_56 : decode cX2_readInto 56 = .ok (.imul, 1) := by decide +kernel
theorem dX2_readInto_57 : decode cX2_readInto 57 = .ok (.iconst 5, 1) := by decide +kernel
theorem dX2_readInto_58 : decode cX2_readInto 58 = .ok (.iload_n 2, 1) := by decide +kernel
theorem dX2_readInto_59 : decode cX2_readInto 59 = .ok (.imul, 1) := by decide +kernel
theorem dX2_readInto_60 : decode cX2_readInto 60 = .ok (.iadd, 1) := by decide +kernel
theorem dX2_readInto_61 : decode cX2_readInto 61 = .ok (.istore_n 3, 1) := by decide +kernel
theorem dX2_readInto_62 : decode cX2_readInto 62 = .ok (.aload_n 1, 1) := by decide +kernel
theorem dX2_readInto_63 : decode cX2_readInto 63 = .ok (.getfield 70, 3) := by decide +kernel
theorem dX2_readInto_66 : decode cX2_readInto 66 = .ok (.iload_n 2, 1) := by decide +kernel
theorem dX2_readInto_67 : decode cX2_readInto 67 = .ok (.aload_n 0, 1) := by decide +kernel
theorem dX2_readInto_68 : decode cX2_readInto 68 = .ok (.iload_n 3, 1) := by decide +kernel
theorem dX2_readInto_69 : decode cX2_readInto 69 = .ok (.invokevirtual 73, 3) := by decide +kernel
theorem dX2_readInto_72 : decode cX2_readInto 72 = .ok (.iastore, 1) := by decide +kernel
theorem dX2_readInto_73 : decode cX2_readInto 73 = .ok (.aload_n 1, 1) := by decide +kernel
theorem dX2_readInto_74 : decode cX2_readInto 74 = .ok (.getfield 76, 3) := by decide +kernel
theorem dX2_readInto_77 : decode cX2_readInto 77 = .ok (.iload_n 2, 1) := by decide +kernel
theorem dX2_readInto_78 : decode cX2_readInto 78 = .ok (.aload_n 0, 1) := by decide +kernel
theorem dX2_readInto_79 : decode cX2_readInto 79 = .ok (.iload_n 3, 1) := by decide +kernel
theorem dX2_readInto_80 : decode cX2_readInto 80 = .ok (.iconst 1, 1) := by decide +kernel
theorem dX2_readInto_81 : decode cX2_readInto 81 = .ok (.iadd, 1) := by decide +kernel
theorem dX2_readInto_82 : decode cX2_readInto 82 = .ok (.invokevirtual 66, 3) := by decide +kernel
theorem dX2_readInto_85 : decode cX2_readInto 85 = .ok (.iastore, 1) := by decide +kernel
theorem dX2_readInto_86 : decode cX2_readInto 86 = .ok (.aload_n 1, 1) := by decide +kernel
theorem dX2_readInto_87 : decode cX2_readInto 87 = .ok (.getfield 79, 3) := by decide +kernel
theorem dX2_readInto_90 : decode cX2_readInto 90 = .ok (.iload_n 2, 1) := by decide +kernel
theorem dX2_readInto_91 : decode cX2_readInto 91 = .ok (.aload_n 0, 1) := by decide +kernel
theorem dX2_readInto_92 : decode cX2_readInto 92 = .ok (.iload_n 3, 1) := by decide +kernel
theorem dX2_readInto_93 : decode cX2_readInto 93 = .ok (.iconst 2, 1) := by decide +kernel
theorem dX2_readInto_94 : decode cX2_readInto 94 = .ok (.iadd, 1) := by decide +kernel
theorem dX2_readInto_95 : decode cX2_readInto 95 = .ok (.invokevirtual 66, 3) := by decide +kernel
theorem dX2_readInto_98 : decode cX2_readInto 98 = .ok (.iastore, 1) := by decide +kernel
theorem dX2_readInto_99 : decode cX2_readInto 99 = .ok (.aload_n 1, 1) := by decide +kernel
theorem dX2_readInto_100 : decode cX2_readInto 100 = .ok (.getfield 82, 3) := by decide +kernel
theorem dX2_readInto_103 : decode cX2_readInto 103 = .ok (.iload_n 2, 1) := by decide +kernel
theorem dX2_readInto_104 : decode cX2_readInto 104 = .ok (.aload_n 0, 1) := by decide +kernel
theorem dX2_readInto_105 : decode cX2_readInto 105 = .ok (.iload_n 3, 1) := by decide +kernel
theorem dX2_readInto_106 : decode cX2_readInto 106 = .ok (.iconst 3, 1) := by decide +kernel
theorem dX2_readInto_107 : decode cX2_readInto 107 = .ok (.iadd, 1) := by decide +kernel
theorem dX2_readInto_108 : decode cX2_readInto 108 = .ok (.invokevirtual 66, 3) := by decide +kernel
theorem dX2_readInto_111 : decode cX2_readInto 111 = .ok (.iastore, 1) := by decide +kernel
theorem dX2_readInto_112 : decode cX2_readInto 112 = .ok (.iinc 2 1, 3) := by decide +kernel
theorem dX2_readInto_115 : decode cX2_readInto 115 = .ok (.goto (-72), 3) := by decide +kernel
theorem dX2_readInto_118 : decode cX2_readInto 118 = .ok (.return_, 1) := by decide +kernel
theorem dX2_kindAt_0 : decode cX2_kindAt 0 = .ok (.iload_n 1, 1) := by decide +kernel
theorem dX2_kindAt_1 : decode cX2_kindAt 1 = .ok (.ifCond .lt 26, 3) := by decide +kernel
theorem dX2_kindAt_4 : decode cX2_kindAt 4 = .ok (.iload_n 1, 1) := by decide +kernel
theorem dX2_kindAt_5 : decode cX2_kindAt 5 = .ok (.aload_n 0, 1) := by decide +kernel
theorem dX2_kindAt_6 : decode cX2_kindAt 6 = .ok (.getfield 15, 3) := by decide +kernel
theorem dX2_kindAt_9 : decode cX2_kindAt 9 = .ok (.if_icmp .ge 18, 3) := by decide +kernel
theorem dX2_kindAt_12 : decode cX2_kindAt 12 = .ok (.ldc 42, 2) := by decide +kernel
theorem dX2_kindAt_14 : decode cX2_kindAt 14 = .ok (.aload_n 0, 1) := by decide +kernel
theorem dX2_kindAt_15 : decode cX2_kindAt 15 = .ok (.getfield 9, 3) := by decide +kernel
theorem dX2_kindAt_18 : decode cX2_kindAt 18 = .ok (.iload_n 1, 1) := by decide +kernel
theorem dX2_kindAt_19 : decode cX2_kindAt 19 = .ok (.iaload, 1) := by decide +kernel
theorem dX2_kindAt_20 : decode cX2_kindAt 20 = .ok (.i2c, 1) := by decide +kernel
theorem dX2_kindAt_21 : decode cX2_kindAt 21 = .ok (.invokevirtual 44, 3) := by decide +kernel
theorem dX2_kindAt_24 : decode cX2_kindAt 24 = .ok (.goto 4, 3) := by decide +kernel
theorem dX2_kindAt_27 : decode cX2_kindAt 27 = .ok (.iconst 0, 1) := by decide +kernel
theorem dX2_kindAt_28 : decode cX2_kindAt 28 = .ok (.ireturn, 1) := by decide +kernel
theorem dX2_digitAt_0 : decode cX2_digitAt 0 = .ok (.iload_n 1, 1) := by decide +kernel
theorem dX2_digitAt_1 : decode cX2_digitAt 1 = .ok (.ifCond .lt 23, 3) := by decide +kernel
theorem dX2_digitAt_4 : decode cX2_digitAt 4 = .ok (.iload_n 1, 1) := by decide +kernel
theorem dX2_digitAt_5 : decode cX2_digitAt 5 = .ok (.aload_n 0, 1) := by decide +kernel
theorem dX2_digitAt_6 : decode cX2_digitAt 6 = .ok (.getfield 15, 3) := by decide +kernel
theorem dX2_digitAt_9 : decode cX2_digitAt 9 = .ok (.if_icmp .ge 15, 3) := by decide +kernel
theorem dX2_digitAt_12 : decode cX2_digitAt 12 = .ok (.aload_n 0, 1) := by decide +kernel
theorem dX2_digitAt_13 : decode cX2_digitAt 13 = .ok (.getfield 9, 3) := by decide +kernel
theorem dX2_digitAt_16 : decode cX2_digitAt 16 = .ok (.iload_n 1, 1) := by decide +kernel
theorem dX2_digitAt_17 : decode cX2_digitAt 17 = .ok (.iaload, 1) := by decide +kernel
theorem dX2_digitAt_18 : decode cX2_digitAt 18 = .ok (.bipush 48, 2) := by decide +kernel
theorem dX2_digitAt_20 : decode cX2_digitAt 20 = .ok (.isub, 1) := by decide +kernel
theorem dX2_digitAt_21 : decode cX2_digitAt 21 = .ok (.goto 4, 3) := by decide +kernel
theorem dX2_digitAt_24 : decode cX2_digitAt 24 = .ok (.iconst 0, 1) := by decide +kernel
theorem dX2_digitAt_25 : decode cX2_digitAt 25 = .ok (.ireturn, 1) := by decide +kernel
theorem dX3_init_0 : decode cX3_init 0 = .ok (.aload_n 0, 1) := by decide +kernel
theorem dX3_init_1 : decode cX3_init 1 = .ok (.invokespecial 3, 3) := by decide +kernel
theorem dX3_init_4 : decode cX3_init 4 = .ok (.aload_n 0, 1) := by decide +kernel
theorem dX3_init_5 : decode cX3_init 5 = .ok (.iconst 0, 1) := by decide +kernel
theorem dX3_init_6 : decode cX3_init 6 = .ok (.putfield 9, 3) := by decide +kernel
theorem dX3_init_9 : decode cX3_init 9 = .ok (.aload_n 0, 1) := by decide +kernel
theorem dX3_init_10 : decode cX3_init 10 = .ok (.bipush 8, 2) := by decide +kernel
theorem dX3_init_12 : decode cX3_init 12 = .ok (.newarray .int, 2) := by decide +kernel
theorem dX3_init_14 : decode cX3_init 14 = .ok (.putfield 15, 3) := by decide +kernel
theorem dX3_init_17 : decode cX3_init 17 = .ok (.aload_n 0, 1) := by decide +kernel
theorem dX3_init_18 : decode cX3_init 18 = .ok (.bipush 8, 2) := by decide +kernel
theorem dX3_init_20 : decode cX3_init 20 = .ok (.newarray .int, 2) := by decide +kernel
theorem dX3_init_22 : decode cX3_init 22 = .ok (.putfield 19, 3) := by decide +kernel
theorem dX3_init_25 : decode cX3_init 25 = .ok (.aload_n 0, 1) := by decide +kernel
theorem dX3_init_26 : decode cX3_init 26 = .ok (.bipush 8, 2) := by decide +kernel
theorem dX3_init_28 : decode cX3_init 28 = .ok (.newarray .int, 2) := by decide +kernel
theorem dX3_init_30 : decode cX3_init 30 = .ok (.putfield 22, 3) := by decide +kernel
theorem dX3_init_33 : decode cX3_init 33 = .ok (.aload_n 0, 1) := by decide +kernel
theorem dX3_init_34 : decode cX3_init 34 = .ok (.bipush 8, 2) := by decide +kernel
theorem dX3_init_36 : decode cX3_init 36 = .ok (.newarray .boolean, 2) := by decide +kernel
theorem dX3_init_38 : decode cX3_init 38 = .ok (.putfield 25, 3) := by decide +kernel
theorem dX3_init_41 : decode cX3_init 41 = .ok (.aload_n 0, 1) := by decide +kernel
theorem dX3_init_42 : decode cX3_init 42 = .ok (.bipush 10, 2) := by decide +kernel
theorem dX3_init_44 : decode cX3_init 44 = .ok (.newarray .int, 2) := by decide +kernel
theorem dX3_init_46 : decode cX3_init 46 = .ok (.putfield 29, 3) := by decide +kernel
theorem dX3_init_49 : decode cX3_init 49 = .ok (.return_, 1) := by decide +kernel
theorem dX3_append_0 : decode cX3_append 0 = .ok (.aload_n 0, 1) := by decide +kernel
theorem dX3_append_1 : decode cX3_append 1 = .ok (.getfield 9, 3) := by decide +kernel
theorem dX3_append_4 : decode cX3_append 4 = .ok (.bipush 8, 2) := by decide +kernel
theorem dX3_append_6 : decode cX3_append 6 = .ok (.if_icmp .ge 54, 3) := by decide +kernel
theorem dX3_append_9 : decode cX3_append 9 = .ok (.aload_n 0, 1) := by decide +kernel
theorem dX3_append_10 : decode cX3_append 10 = .ok (.getfield 15, 3) := by decide +kernel
theorem dX3_append_13 : decode cX3_append 13 = .ok (.aload_n 0, 1) := by decide +kernel
theorem dX3_append_14 : decode cX3_append 14 = .ok (.getfield 9, 3) := by decide +kernel
theorem dX3_append_17 : decode cX3_append 17 = .ok (.iload_n 1, 1) := by decide +kernel
theorem dX3_append_18 : decode cX3_append 18 = .ok (.iastore, 1) := by decide +kernel
theorem dX3_append_19 : decode cX3_append 19 = .ok (.aload_n 0, 1) := by decide +kernel
theorem dX3_append_20 : decode cX3_append 20 = .ok (.getfield 19, 3) := by decide +kernel
theorem dX3_append_23 : decode cX3_append 23 = .ok (.aload_n 0, 1) := by decide +kernel
theorem dX3_append_24 : decode cX3_append 24 = .ok (.getfield 9, 3) := by decide +kernel
theorem dX3_append_27 : decode cX3_append 27 = .ok (.iload_n 2, 1) := by decide +kernel
theorem dX3_append_28 : decode cX3_append 28 = .ok (.iastore, 1) := by decide +kernel
theorem dX3_append_29 : decode cX3_append 29 = .ok (.aload_n 0, 1) := by decide +kernel
theorem dX3_append_30 : decode cX3_append 30 = .ok (.getfield 22, 3) := by decide +kernel
theorem dX3_append_33 : decode cX3_append 33 = .ok (.aload_n 0, 1) := by decide +kernel
theorem dX3_append_34 : decode cX3_append 34 = .ok (.getfield 9, 3) := by decide +kernel
theorem dX3_append_37 : decode cX3_append 37 = .ok (.iload_n 3, 1) := by decide +kernel
theorem dX3_append_38 : decode cX3_append 38 = .ok (.iastore, 1) := by decide +kernel
theorem dX3_append_39 : decode cX3_append 39 = .ok (.aload_n 0, 1) := by decide +kernel
theorem dX3_append_40 : decode cX3_append 40 = .ok (.getfield 25, 3) := by decide +kernel
theorem dX3_append_43 : decode cX3_append 43 = .ok (.aload_n 0, 1) := by decide +kernel
theorem dX3_append_44 : decode cX3_append 44 = .ok (.getfield 9, 3) := by decide +kernel
theorem dX3_append_47 : decode cX3_append 47 = .ok (.iload 4, 2) := by decide +kernel
theorem dX3_append_49 : decode cX3_append 49 = .ok (.bastore, 1) := by decide +kernel
theorem dX3_append_50 : decode cX3_append 50 = .ok (.aload_n 0, 1) := by decide +kernel
theorem dX3_append_51 : decode cX3_append 51 = .ok (.dup, 1) := by decide +kernel
theorem dX3_append_52 : decode cX3_append 52 = .ok (.getfield 9, 3) := by decide +kernel
theorem dX3_append_55 : decode cX3_append 55 = .ok (.iconst 1, 1) := by decide +kernel
theorem dX3_append_56 : decode cX3_append 56 = .ok (.iadd, 1) := by decide +kernel
theorem dX3_append_57 : decode cX3_append 57 = .ok (.putfield 9, 3) := by decide +kernel
theorem dX3_append_60 : decode cX3_append 60 = .ok (.return_, 1) := by decide +kernel
theorem dX3_copyFrom_0 : decode cX3_copyFrom 0 = .ok (.aload_n 0, 1) := by decide +kernel
theorem dX3_copyFrom_1 : decode cX3_copyFrom 1 = .ok (.aload_n 1, 1) := by decide +kernel
theorem dX3_copyFrom_2 : decode cX3_copyFrom 2 = .ok (.getfield 9, 3) := by decide +kernel
theorem dX3_copyFrom_5 : decode cX3_copyFrom 5 = .ok (.putfield 9, 3) := by decide +kernel
theorem dX3_copyFrom_8 : decode cX3_copyFrom 8 = .ok (.iconst 0, 1) := by decide +kernel
theorem dX3_copyFrom_9 : decode cX3_copyFrom 9 = .ok (.istore_n 2, 1) := by decide +kernel
theorem dX3_copyFrom_10 : decode cX3_copyFrom 10 = .ok (.iload_n 2, 1) := by decide +kernel
theorem dX3_copyFrom_11 : decode cX3_copyFrom 11 = .ok (.bipush 8, 2) := by decide +kernel
theorem dX3_copyFrom_13 : decode cX3_copyFrom 13 = .ok (.if_icmp .ge 57, 3) := by decide +kernel
theorem dX3_copyFrom_16 : decode cX3_copyFrom 16 = .ok (.aload_n 0, 1) := by decide +kernel
theorem dX3_copyFrom_17 : decode cX3_copyFrom 17 = .ok (.getfield 15, 3) := by decide +kernel
theorem dX3_copyFrom_20 : decode cX3_copyFrom 20 = .ok (.iload_n 2, 1) := by decide +kernel
theorem dX3_copyFrom_21 : decode cX3_copyFrom 21 = .ok (.aload_n 1, 1) := by decide +kernel
theorem dX3_copyFrom_22 : decode cX3_copyFrom 22 = .ok (.getfield 15, 3) := by decide +kernel
theorem dX3_copyFrom_25 : decode cX3_copyFrom 25 = .ok (.iload_n 2, 1) := by decide +kernel
theorem dX3_copyFrom_26 : decode cX3_copyFrom 26 = .ok (.iaload, 1) := by decide +kernel
theorem dX3_copyFrom_27 : decode cX3_copyFrom 27 = .ok (.iastore, 1) := by decide +kernel
theorem dX3_copyFrom_28 : decode cX3_copyFrom 28 = .ok (.aload_n 0, 1) := by decide +kernel
theorem dX3_copyFrom_29 : decode cX3_copyFrom 29 = .ok (.getfield 19, 3) := by decide +kernel
theorem dX3_copyFrom_32 : decode cX3_copyFrom 32 = .ok (.iload_n 2, 1) := by decide +kernel
theorem dX3_copyFrom_33 : decode cX3_copyFrom 33 = .ok (.aload_n 1, 1) := by decide +kernel
theorem dX3_copyFrom_34 : decode cX3_copyFrom 34 = .ok (.getfield 19, 3) := by decide +kernel
theorem dX3_copyFrom_37 : decode cX3_copyFrom 37 = .ok (.iload_n 2, 1) := by decide +kernel
theorem dX3_copyFrom_38 : decode cX3_copyFrom 38 = .ok (.iaload, 1) := by decide +kernel
theorem dX3_copyFrom_39 : decode cX3_copyFrom 39 = .ok (.iastore, 1) := by decide +kernel
theorem dX3_copyFrom_40 : decode cX3_copyFrom 40 = .ok (.aload_n 0, 1) := by decide +kernel
theorem dX3_copyFrom_41 : decode cX3_copyFrom 41 = .ok (.getfield 22, 3) := by decide +kernel
theorem dX3_copyFrom_44 : decode cX3_copyFrom 44 = .ok (.iload_n 2, 1) := by decide +kernel
theorem dX3_copyFrom_45 : decode cX3_copyFrom 45 = .ok (.aload_n 1, 1) := by decide +kernel
theorem dX3_copyFrom_46 : decode cX3_copyFrom 46 = .ok (.getfield 22, 3) := by decide +kernel
theorem dX3_copyFrom_49 : decode cX3_copyFrom 49 = .ok (.iload_n 2, 1) := by decide +kernel
theorem dX3_copyFrom_50 : decode cX3_copyFrom 50 = .ok (.iaload, 1) := by decide +kernel
theorem dX3_copyFrom_51 : decode cX3_copyFrom 51 = .ok (.iastore, 1) := by decide +kernel
theorem dX3_copyFrom_52 : decode cX3_copyFrom 52 = .ok (.aload_n 0, 1) := by decide +kernel
theorem dX3_copyFrom_53 : decode cX3_copyFrom 53 = .ok (.getfield 25, 3) := by decide +kernel
theorem dX3_copyFrom_56 : decode cX3_copyFrom 56 = .ok (.iload_n 2, 1) := by decide +kernel
theorem dX3_copyFrom_57 : decode cX3_copyFrom 57 = .ok (.aload_n 1, 1) := by decide +kernel
theorem dX3_copyFrom_58 : decode cX3_copyFrom 58 = .ok (.getfield 25, 3) := by decide +kernel
theorem dX3_copyFrom_61 : decode cX3_copyFrom 61 = .ok (.iload_n 2, 1) := by decide +kernel
theorem dX3_copyFrom_62 : decode cX3_copyFrom 62 = .ok (.baload, 1) := by decide +kernel
theorem dX3_copyFrom_63 : decode cX3_copyFrom 63 = .ok (.bastore, 1) := by decide +kernel
theorem dX3_copyFrom_64 : decode cX3_copyFrom 64 = .ok (.iinc 2 1, 3) := by decide +kernel
theorem dX3_copyFrom_67 : decode cX3_copyFrom 67 = .ok (.goto (-57), 3) := by decide +kernel
theorem dX3_copyFrom_70 : decode cX3_copyFrom 70 = .ok (.return_, 1) := by decide +kernel
theorem dX3_possibleOunces_0 : decode cX3_possibleOunces 0 = .ok (.sipush 511, 3) := by decide +kernel
theorem dX3_possibleOunces_3 : decode cX3_possibleOunces 3 = .ok (.istore_n 3, 1) := by decide +kernel
theorem dX3_possibleOunces_4 : decode cX3_possibleOunces 4 = .ok (.aload_n 1, 1) := by decide +kernel
theorem dX3_possibleOunces_5 : decode cX3_possibleOunces 5 = .ok (.getfield 32, 3) := by decide +kernel
theorem dX3_possibleOunces_8 : decode cX3_possibleOunces 8 = .ok (.iload_n 2, 1) := by decide +kernel
theorem dX3_possibleOunces_9 : decode cX3_possibleOunces 9 = .ok (.iaload, 1) := by decide +kernel
theorem dX3_possibleOunces_10 : decode cX3_possibleOunces 10 = .ok (.iconst (-1), 1) := by decide +kernel
theorem dX3_possibleOunces_11 : decode cX3_possibleOunces 11 = .ok (.if_icmp .ne 5, 3) := by decide +kernel
theorem dX3_possibleOunces_14 : decode cX3_possibleOunces 14 = .ok (.iload_n 3, 1) := by decide +kernel
theorem dX3_possibleOunces_15 : decode cX3_possibleOunces 15 = .ok (.ireturn, 1) := by decide +kernel
theorem dX3_possibleOunces_16 : decode cX3_possibleOunces 16 = .ok (.iconst 0, 1) := by decide +kernel
theorem dX3_possibleOunces_17 : decode cX3_possibleOunces 17 = .ok (.istore 4, 2) := by decide +kernel
theorem dX3_possibleOunces_19 : decode cX3_possibleOunces 19 = .ok (.iload 4, 2) := by decide +kernel
theorem dX3_possibleOunces_21 : decode cX3_possibleOunces 21 = .ok (.aload_n 0, 1) := by decide +kernel
theorem dX3_possibleOunces_22 : decode cX3_possibleOunces 22 = .ok (.getfield 9, 3) := by decide +kernel
theorem dX3_possibleOunces_25 : decode cX3_possibleOunces 25 = .ok (.if_icmp .ge 81, 3) := by decide +kernel
theorem dX3_possibleOunces_28 : decode cX3_possibleOunces 28 = .ok (.iconst 1, 1) := by decide +kernel
theorem dX3_possibleOunces_29 : decode cX3_possibleOunces 29 = .ok (.istore 5, 2) := by decide +kernel
theorem dX3_possibleOunces_31 : decode cX3_possibleOunces 31 = .ok (.iload 5, 2) := by decide +kernel
theorem dX3_possibleOunces_33 : decode cX3_possibleOunces 33 = .ok (.bipush 9, 2) := by decide +kernel
theorem dX3_possibleOunces_35 : decode cX3_possibleOunces 35 = .ok (.if_icmp .gt 65, 3) := by decide +kernel
theorem dX3_possibleOunces_38 : decode cX3_possibleOunces 38 = .ok (.aload_n 0, 1) := by decide +kernel
theorem dX3_possibleOunces_39 : decode cX3_possibleOunces 39 = .ok (.getfield 15, 3) := by decide +kernel
theorem dX3_possibleOunces_42 : decode cX3_possibleOunces 42 = .ok (.iload 4, 2) := by decide +kernel
theorem dX3_possibleOunces_44 : decode cX3_possibleOunces 44 = .ok (.iaload, 1) := by decide +kernel
theorem dX3_possibleOunces_45 : decode cX3_possibleOunces 45 = .ok (.iload_n 2, 1) := by decide +kernel
theorem dX3_possibleOunces_46 : decode cX3_possibleOunces 46 = .ok (.if_icmp .ne 54, 3) := by decide +kernel
theorem dX3_possibleOunces_49 : decode cX3_possibleOunces 49 = .ok (.aload_n 1, 1) := by decide +kernel
theorem dX3_possibleOunces_50 : decode cX3_possibleOunces 50 = .ok (.iload_n 2, 1) := by decide +kernel
theorem dX3_possibleOunces_51 : decode cX3_possibleOunces 51 = .ok (.iload 5, 2) := by decide +kernel
theorem dX3_possibleOunces_53 : decode cX3_possibleOunces 53 = .ok (.aload_n 0, 1) := by decide +kernel
theorem dX3_possibleOunces_54 : decode cX3_possibleOunces 54 = .ok (.getfield 19, 3) := by decide +kernel
theorem dX3_possibleOunces_57 : decode cX3_possibleOunces 57 = .ok (.iload 4, 2) := by decide +kernel
theorem dX3_possibleOunces_59 : decode cX3_possibleOunces 59 = .ok (.iaload, 1) := by decide +kernel
theorem dX3_possibleOunces_60 : decode cX3_possibleOunces 60 = .ok (.invokevirtual 37, 3) := by decide +kernel
theorem dX3_possibleOunces_63 : decode cX3_possibleOunces 63 = .ok (.aload_n 0, 1) := by decide +kernel
theorem dX3_possibleOunces_64 : decode cX3_possibleOunces 64 = .ok (.getfield 22, 3) := by decide +kernel
theorem dX3_possibleOunces_67 : decode cX3_possibleOunces 67 = .ok (.iload 4, 2) := by decide +kernel
theorem dX3_possibleOunces_69 : decode cX3_possibleOunces 69 = .ok (.iaload, 1) := by decide +kernel
theorem dX3_possibleOunces_70 : decode cX3_possibleOunces 70 = .ok (.invokestatic 41, 3) := by decide +kernel
theorem dX3_possibleOunces_73 : decode cX3_possibleOunces 73 = .ok (.aload_n 0, 1) := by decide +kernel
theorem dX3_possibleOunces_74 : decode cX3_possibleOunces 74 = .ok (.getfield 25, 3) := by decide +kernel
theorem dX3_possibleOunces_77 : decode cX3_possibleOunces 77 = .ok (.iload 4, 2) := by decide +kernel
theorem dX3_possibleOunces_79 : decode cX3_possibleOunces 79 = .ok (.baload, 1) := by decide +kernel
theorem dX3_possibleOunces_80 : decode cX3_possibleOunces 80 = .ok (.if_icmp .eq 14, 3) := by decide +kernel
theorem dX3_possibleOunces_83 : decode cX3_possibleOunces 83 = .ok (.iload_n 3, 1) := by decide +kernel
theorem dX3_possibleOunces_84 : decode cX3_possibleOunces 84 = .ok (.iconst 1, 1) := by decide +kernel
theorem dX3_possibleOunces_85 : decode cX3_possibleOunces 85 = .ok (.iload 5, 2) := by decide +kernel
theorem dX3_possibleOunces_87 : decode cX3_possibleOunces 87 = .ok (.iconst 1, 1) := by decide +kernel
theorem dX3_possibleOunces_88 : decode cX3_possibleOunces 88 = .ok (.isub, 1) := by decide +kernel
theorem dX3_possibleOunces_89 : decode cX3_possibleOunces 89 = .ok (.ishl, 1) := by decide +kernel
theorem dX3_possibleOunces_90 : decode cX3_possibleOunces 90 = .ok (.iconst (-1), 1) := by decide +kernel
theorem dX3_possibleOunces_91 : decode cX3_possibleOunces 91 = .ok (.ixor, 1) := by decide +kernel
theorem dX3_possibleOunces_92 : decode cX3_possibleOunces 92 = .ok (.iand, 1) := by decide +kernel
theorem dX3_possibleOunces_93 : decode cX3_possibleOunces 93 = .ok (.istore_n 3, 1) := by decide +kernel
theorem dX3_possibleOunces_94 : decode cX3_possibleOunces 94 = .ok (.iinc 5 1, 3) := by decide +kernel
theorem dX3_possibleOunces_97 : decode cX3_possibleOunces 97 = .ok (.goto (-66), 3) := by decide +kernel
theorem dX3_possibleOunces_100 : decode cX3_possibleOunces 100 = .ok (.iinc 4 1, 3) := by decide +kernel
theorem dX3_possibleOunces_103 : decode cX3_possibleOunces 103 = .ok (.goto (-84), 3) := by decide +kernel
theorem dX3_possibleOunces_106 : decode cX3_possibleOunces 106 = .ok (.iload_n 3, 1) := by decide +kernel
theorem dX3_possibleOunces_107 : decode cX3_possibleOunces 107 = .ok (.ireturn, 1) := by decide +kernel
theorem dX3_windToWaitFor_0 : decode cX3_windToWaitFor 0 = .ok (.aload_n 0, 1) := by decide +kernel
theorem dX3_windToWaitFor_1 : decode cX3_windToWaitFor 1 = .ok (.aload_n 1, 1) := by decide +kernel
theorem dX3_windToWaitFor_2 : decode cX3_windToWaitFor 2 = .ok (.iload_n 2, 1) := by decide +kernel
theorem dX3_windToWaitFor_3 : decode cX3_windToWaitFor 3 = .ok (.invokevirtual 45, 3) := by decide +kernel
theorem dX3_windToWaitFor_6 : decode cX3_windToWaitFor 6 = .ok (.istore_n 3, 1) := by decide +kernel
theorem dX3_windToWaitFor_7 : decode cX3_windToWaitFor 7 = .ok (.iload_n 3, 1) := by decide +kernel
theorem dX3_windToWaitFor_8 : decode cX3_windToWaitFor 8 = .ok (.ifCond .eq 13, 3) := by decide +kernel
theorem dX3_windToWaitFor_11 : decode cX3_windToWaitFor 11 = .ok (.aload_n 1, 1) := by decide +kernel
theorem dX3_windToWaitFor_12 : decode cX3_windToWaitFor 12 = .ok (.getfield 32, 3) := by decide +kernel
theorem dX3_windToWaitFor_15 : decode cX3_windToWaitFor 15 = .ok (.iload_n 2, 1) := by decide +kernel
theorem dX3_windToWaitFor_16 : decode cX3_windToWaitFor 16 = .ok (.iaload, 1) := by decide +kernel
theorem dX3_windToWaitFor_17 : decode cX3_windToWaitFor 17 = .ok (.iconst (-1), 1) := by decide +kernel
theorem dX3_windToWaitFor_18 : decode cX3_windToWaitFor 18 = .ok (.if_icmp .ne 5, 3) := by decide +kernel
theorem dX3_windToWaitFor_21 : decode cX3_windToWaitFor 21 = .ok (.iconst (-1), 1) := by decide +kernel
theorem dX3_windToWaitFor_22 : decode cX3_windToWaitFor 22 = .ok (.ireturn, 1) := by decide +kernel
theorem dX3_windToWaitFor_23 : decode cX3_windToWaitFor 23 = .ok (.iconst (-1), 1) := by decide +kernel
theorem dX3_windToWaitFor_24 : decode cX3_windToWaitFor 24 = .ok (.istore 4, 2) := by decide +kernel
theorem dX3_windToWaitFor_26 : decode cX3_windToWaitFor 26 = .ok (.bipush 10, 2) := by decide +kernel
theorem dX3_windToWaitFor_28 : decode cX3_windToWaitFor 28 = .ok (.istore 5, 2) := by decide +kernel
theorem dX3_windToWaitFor_30 : decode cX3_windToWaitFor 30 = .ok (.iconst 0, 1) := by decide +kernel
theorem dX3_windToWaitFor_31 : decode cX3_windToWaitFor 31 = .ok (.istore 6, 2) := by decide +kernel
theorem dX3_windToWaitFor_33 : decode cX3_windToWaitFor 33 = .ok (.iload 6, 2) := by decide +kernel
theorem dX3_windToWaitFor_35 : decode cX3_windToWaitFor 35 = .ok (.iconst 2, 1) := by decide +kernel
theorem dX3_windToWaitFor_36 : decode cX3_windToWaitFor 36 = .ok (.if_icmp .ge 63, 3) := by decide +kernel
theorem dX3_windToWaitFor_39 : decode cX3_windToWaitFor 39 = .ok (.aload_n 0, 1) := by decide +kernel
theorem dX3_windToWaitFor_40 : decode cX3_windToWaitFor 40 = .ok (.aload_n 1, 1) := by decide +kernel
theorem dX3_windToWaitFor_41 : decode cX3_windToWaitFor 41 = .ok (.iload_n 2, 1) := by decide +kernel
theorem dX3_windToWaitFor_42 : decode cX3_windToWaitFor 42 = .ok (.iload 6, 2) := by decide +kernel
theorem dX3_windToWaitFor_44 : decode cX3_windToWaitFor 44 = .ok (.invokevirtual 49, 3) := by decide +kernel
theorem dX3_windToWaitFor_47 : decode cX3_windToWaitFor 47 = .ok (.iconst 0, 1) := by decide +kernel
theorem dX3_windToWaitFor_48 : decode cX3_windToWaitFor 48 = .ok (.istore 7, 2) := by decide +kernel
theorem dX3_windToWaitFor_50 : decode cX3_windToWaitFor 50 = .ok (.iload 7, 2) := by decide +kernel
theorem dX3_windToWaitFor_52 : decode cX3_windToWaitFor 52 = .ok (.bipush 99, 2) := by decide +kernel
theorem dX3_windToWaitFor_54 : decode cX3_windToWaitFor 54 = .ok (.if_icmp .gt 39, 3) := by decide +kernel
theorem dX3_windToWaitFor_57 : decode cX3_windToWaitFor 57 = .ok (.aload_n 0, 1) := by decide +kernel
theorem dX3_windToWaitFor_58 : decode cX3_windToWaitFor 58 = .ok (.iload_n 3, 1) := by decide +kernel
theorem dX3_windToWaitFor_59 : decode cX3_windToWaitFor 59 = .ok (.iload 7, 2) := by decide +kernel
theorem dX3_windToWaitFor_61 : decode cX3_windToWaitFor 61 = .ok (.invokevirtual 53, 3) := by decide +kernel
theorem dX3_windToWaitFor_64 : decode cX3_windToWaitFor 64 = .ok (.istore 8, 2) := by decide +kernel
theorem dX3_windToWaitFor_66 : decode cX3_windToWaitFor 66 = .ok (.iload 8, 2) := by decide +kernel
theorem dX3_windToWaitFor_68 : decode cX3_windToWaitFor 68 = .ok (.iload 5, 2) := by decide +kernel
theorem dX3_windToWaitFor_70 : decode cX3_windToWaitFor 70 = .ok (.if_icmp .ge 17, 3) := by decide +kernel
theorem dX3_windToWaitFor_73 : decode cX3_windToWaitFor 73 = .ok (.iload 8, 2) := by decide +kernel
theorem dX3_windToWaitFor_75 : decode cX3_windToWaitFor 75 = .ok (.istore 5, 2) := by decide +kernel
theorem dX3_windToWaitFor_77 : decode cX3_windToWaitFor 77 = .ok (.bipush 100, 2) := by decide +kernel
theorem dX3_windToWaitFor_79 : decode cX3_windToWaitFor 79 = .ok (.iload 6, 2) := by decide +kernel
theorem dX3_windToWaitFor_81 : decode cX3_windToWaitFor 81 = .ok (.imul, 1) := by decide +kernel
theorem dX3_windToWaitFor_82 : decode cX3_windToWaitFor 82 = .ok (.iload 7, 2) := by decide +kernel
theorem dX3_windToWaitFor_84 : decode cX3_windToWaitFor 84 = .ok (.iadd, 1) := by decide +kernel
theorem dX3_windToWaitFor_85 : decode cX3_windToWaitFor 85 = .ok (.istore 4, 2) := by decide +kernel
theorem dX3_windToWaitFor_87 : decode cX3_windToWaitFor 87 = .ok (.iinc 7 1, 3) := by decide +kernel
theorem dX3_windToWaitFor_90 : decode cX3_windToWaitFor 90 = .ok (.goto (-40), 3) := by decide +kernel
theorem dX3_windToWaitFor_93 : decode cX3_windToWaitFor 93 = .ok (.iinc 6 1, 3) := by decide +kernel
theorem dX3_windToWaitFor_96 : decode cX3_windToWaitFor 96 = .ok (.goto (-63), 3) := by decide +kernel
theorem dX3_windToWaitFor_99 : decode cX3_windToWaitFor 99 = .ok (.iload 4, 2) := by decide +kernel
theorem dX3_windToWaitFor_101 : decode cX3_windToWaitFor 101 = .ok (.ireturn, 1) := by decide +kernel
theorem dX3_fillHolds_0 : decode cX3_fillHolds 0 = .ok (.iconst 1, 1) := by decide +kernel
theorem dX3_fillHolds_1 : decode cX3_fillHolds 1 = .ok (.istore 4, 2) := by decide +kernel
theorem dX3_fillHolds_3 : decode cX3_fillHolds 3 = .ok (.iload 4, 2) := by decide +kernel
theorem dX3_fillHolds_5 : decode cX3_fillHolds 5 = .ok (.bipush 9, 2) := by decide +kernel
theorem dX3_fillHolds_7 : decode cX3_fillHolds 7 = .ok (.if_icmp .gt 24, 3) := by decide +kernel
theorem dX3_fillHolds_10 : decode cX3_fillHolds 10 = .ok (.aload_n 0, 1) := by decide +kernel
theorem dX3_fillHolds_11 : decode cX3_fillHolds 11 = .ok (.getfield 29, 3) := by decide +kernel
theorem dX3_fillHolds_14 : decode cX3_fillHolds 14 = .ok (.iload 4, 2) := by decide +kernel
theorem dX3_fillHolds_16 : decode cX3_fillHolds 16 = .ok (.aload_n 1, 1) := by decide +kernel
theorem dX3_fillHolds_17 : decode cX3_fillHolds 17 = .ok (.iload_n 2, 1) := by decide +kernel
theorem dX3_fillHolds_18 : decode cX3_fillHolds 18 = .ok (.iload 4, 2) := by decide +kernel
theorem dX3_fillHolds_20 : decode cX3_fillHolds 20 = .ok (.iload_n 3, 1) := by decide +kernel
theorem dX3_fillHolds_21 : decode cX3_fillHolds 21 = .ok (.invokevirtual 37, 3) := by decide +kernel
theorem dX3_fillHolds_24 : decode cX3_fillHolds 24 = .ok (.iastore, 1) := by decide +kernel
theorem dX3_fillHolds_25 : decode cX3_fillHolds 25 = .ok (.iinc 4 1, 3) := by decide +kernel
theorem dX3_fillHolds_28 : decode cX3_fillHolds 28 = .ok (.goto (-25), 3) := by decide +kernel
theorem dX3_fillHolds_31 : decode cX3_fillHolds 31 = .ok (.return_, 1) := by decide +kernel
theorem dX3_leftAtWorst_0 : decode cX3_leftAtWorst 0 = .ok (.iconst 0, 1) := by decide +kernel
theorem dX3_leftAtWorst_1 : decode cX3_leftAtWorst 1 = .ok (.istore_n 3, 1) := by decide +kernel
theorem dX3_leftAtWorst_2 : decode cX3_leftAtWorst 2 = .ok (.iconst 1, 1) := by decide +kernel
theorem dX3_leftAtWorst_3 : decode cX3_leftAtWorst 3 = .ok (.istore 4, 2) := by decide +kernel
theorem dX3_leftAtWorst_5 : decode cX3_leftAtWorst 5 = .ok (.iload 4, 2) := by decide +kernel
theorem dX3_leftAtWorst_7 : decode cX3_leftAtWorst 7 = .ok (.bipush 9, 2) := by decide +kernel
theorem dX3_leftAtWorst_9 : decode cX3_leftAtWorst 9 = .ok (.if_icmp .gt 38, 3) := by decide +kernel
theorem dX3_leftAtWorst_12 : decode cX3_leftAtWorst 12 = .ok (.iload_n 1, 1) := by decide +kernel
theorem dX3_leftAtWorst_13 : decode cX3_leftAtWorst 13 = .ok (.iload 4, 2) := by decide +kernel
theorem dX3_leftAtWorst_15 : decode cX3_leftAtWorst 15 = .ok (.iconst 1, 1) := by decide +kernel
theorem dX3_leftAtWorst_16 : decode cX3_leftAtWorst 16 = .ok (.isub, 1) := by decide +kernel
theorem dX3_leftAtWorst_17 : decode cX3_leftAtWorst 17 = .ok (.ishr, 1) := by decide +kernel
theorem dX3_leftAtWorst_18 : decode cX3_leftAtWorst 18 = .ok (.iconst 1, 1) := by decide +kernel
theorem dX3_leftAtWorst_19 : decode cX3_leftAtWorst 19 = .ok (.iand, 1) := by decide +kernel
theorem dX3_leftAtWorst_20 : decode cX3_leftAtWorst 20 = .ok (.iconst 1, 1) := by decide +kernel
theorem dX3_leftAtWorst_21 : decode cX3_leftAtWorst 21 = .ok (.if_icmp .ne 20, 3) := by decide +kernel
theorem dX3_leftAtWorst_24 : decode cX3_leftAtWorst 24 = .ok (.aload_n 0, 1) := by decide +kernel
theorem dX3_leftAtWorst_25 : decode cX3_leftAtWorst 25 = .ok (.getfield 29, 3) := by decide +kernel
theorem dX3_leftAtWorst_28 : decode cX3_leftAtWorst 28 = .ok (.iload 4, 2) := by decide +kernel
theorem dX3_leftAtWorst_30 : decode cX3_leftAtWorst 30 = .ok (.iaload, 1) := by decide +kernel
theorem dX3_leftAtWorst_31 : decode cX3_leftAtWorst 31 = .ok (.iload_n 2, 1) := by decide +kernel
theorem dX3_leftAtWorst_32 : decode cX3_leftAtWorst 32 = .ok (.invokestatic 41, 3) := by decide +kernel
theorem dX3_leftAtWorst_35 : decode cX3_leftAtWorst 35 = .ok (.ifCond .eq 6, 3) := by decide +kernel
theorem dX3_leftAtWorst_38 : decode cX3_leftAtWorst 38 = .ok (.iinc 3 1, 3) := by decide +kernel
theorem dX3_leftAtWorst_41 : decode cX3_leftAtWorst 41 = .ok (.iinc 4 1, 3) := by decide +kernel
theorem dX3_leftAtWorst_44 : decode cX3_leftAtWorst 44 = .ok (.goto (-39), 3) := by decide +kernel
theorem dX3_leftAtWorst_47 : decode cX3_leftAtWorst 47 = .ok (.iload_n 3, 1) := by decide +kernel
theorem dX3_leftAtWorst_48 : decode cX3_leftAtWorst 48 = .ok (.iload_n 1, 1) := by decide +kernel
theorem dX3_leftAtWorst_49 : decode cX3_leftAtWorst 49 = .ok (.invokestatic 57, 3) := by decide +kernel
theorem dX3_leftAtWorst_52 : decode cX3_leftAtWorst 52 = .ok (.iload_n 3, 1) := by decide +kernel
theorem dX3_leftAtWorst_53 : decode cX3_leftAtWorst 53 = .ok (.isub, 1) := by decide +kernel
theorem dX3_leftAtWorst_54 : decode cX3_leftAtWorst 54 = .ok (.invokestatic 63, 3) := by decide +kernel
theorem dX3_leftAtWorst_57 : decode cX3_leftAtWorst 57 = .ok (.ireturn, 1) := by decide +kernel
theorem dX4_init_0 : decode cX4_init 0 = .ok (.aload_n 0, 1) := by decide +kernel
theorem dX4_init_1 : decode cX4_init 1 = .ok (.invokespecial 3, 3) := by decide +kernel
theorem dX4_init_4 : decode cX4_init 4 = .ok (.aload_n 0, 1) := by decide +kernel
theorem dX4_init_5 : decode cX4_init 5 = .ok (.new 9, 3) := by decide +kernel
theorem dX4_init_8 : decode cX4_init 8 = .ok (.dup, 1) := by decide +kernel
theorem dX4_init_9 : decode cX4_init 9 = .ok (.invokespecial 11, 3) := by decide +kernel
theorem dX4_init_12 : decode cX4_init 12 = .ok (.putfield 12, 3) := by decide +kernel
theorem dX4_init_15 : decode cX4_init 15 = .ok (.aload_n 0, 1) := by decide +kernel
theorem dX4_init_16 : decode cX4_init 16 = .ok (.new 16, 3) := by decide +kernel
theorem dX4_init_19 : decode cX4_init 19 = .ok (.dup, 1) := by decide +kernel
theorem dX4_init_20 : decode cX4_init 20 = .ok (.invokespecial 18, 3) := by decide +kernel
theorem dX4_init_23 : decode cX4_init 23 = .ok (.putfield 19, 3) := by decide +kernel
theorem dX4_init_26 : decode cX4_init 26 = .ok (.aload_n 0, 1) := by decide +kernel
theorem dX4_init_27 : decode cX4_init 27 = .ok (.new 23, 3) := by decide +kernel
theorem dX4_init_30 : decode cX4_init 30 = .ok (.dup, 1) := by decide +kernel
theorem dX4_init_31 : decode cX4_init 31 = .ok (.invokespecial 25, 3) := by decide +kernel
theorem dX4_init_34 : decode cX4_init 34 = .ok (.putfield 26, 3) := by decide +kernel
theorem dX4_init_37 : decode cX4_init 37 = .ok (.aload_n 0, 1) := by decide +kernel
theorem dX4_init_38 : decode cX4_init 38 = .ok (.new 16, 3) := by decide +kernel
theorem dX4_init_41 : decode cX4_init 41 = .ok (.dup, 1) := by decide +kernel
theorem dX4_init_42 : decode cX4_init 42 = .ok (.invokespecial 18, 3) := by decide +kernel
theorem dX4_init_45 : decode cX4_init 45 = .ok (.putfield 30, 3) := by decide +kernel
theorem dX4_init_48 : decode cX4_init 48 = .ok (.aload_n 0, 1) := by decide +kernel
theorem dX4_init_49 : decode cX4_init 49 = .ok (.new 23, 3) := by decide +kernel
theorem dX4_init_52 : decode cX4_init 52 = .ok (.dup, 1) := by decide +kernel
theorem dX4_init_53 : decode cX4_init 53 = .ok (.invokespecial 25, 3) := by decide +kernel
theorem dX4_init_56 : decode cX4_init 56 = .ok (.putfield 33, 3) := by decide +kernel
theorem dX4_init_59 : decode cX4_init 59 = .ok (.aload_n 0, 1) := by decide +kernel
theorem dX4_init_60 : decode cX4_init 60 = .ok (.new 16, 3) := by decide +kernel
theorem dX4_init_63 : decode cX4_init 63 = .ok (.dup, 1) := by decide +kernel
theorem dX4_init_64 : decode cX4_init 64 = .ok (.invokespecial 18, 3) := by decide +kernel
theorem dX4_init_67 : decode cX4_init 67 = .ok (.putfield 36, 3) := by decide +kernel
theorem dX4_init_70 : decode cX4_init 70 = .ok (.aload_n 0, 1) := by decide +kernel
theorem dX4_init_71 : decode cX4_init 71 = .ok (.new 39, 3) := by decide +kernel
theorem dX4_init_74 : decode cX4_init 74 = .ok (.dup, 1) := by decide +kernel
theorem dX4_init_75 : decode cX4_init 75 = .ok (.invokespecial 41, 3) := by decide +kernel
theorem dX4_init_78 : decode cX4_init 78 = .ok (.putfield 42, 3) := by decide +kernel
theorem dX4_init_81 : decode cX4_init 81 = .ok (.aload_n 0, 1) := by decide +kernel
theorem dX4_init_82 : decode cX4_init 82 = .ok (.iconst 0, 1) := by decide +kernel
theorem dX4_init_83 : decode cX4_init 83 = .ok (.putfield 46, 3) := by decide +kernel
theorem dX4_init_86 : decode cX4_init 86 = .ok (.aload_n 0, 1) := by decide +kernel
theorem dX4_init_87 : decode cX4_init 87 = .ok (.iconst 0, 1) := by decide +kernel
theorem dX4_init_88 : decode cX4_init 88 = .ok (.putfield 50, 3) := by decide +kernel
theorem dX4_init_91 : decode cX4_init 91 = .ok (.aload_n 0, 1) := by decide +kernel
theorem dX4_init_92 : decode cX4_init 92 = .ok (.iconst 0, 1) := by decide +kernel
theorem dX4_init_93 : decode cX4_init 93 = .ok (.putfield 54, 3) := by decide +kernel
theorem dX4_init_96 : decode cX4_init 96 = .ok (.return_, 1) := by decide +kernel
theorem dX4_letter_0 : decode cX4_letter 0 = .ok (.iload_n 1, 1) := by decide +kernel
theorem dX4_letter_1 : decode cX4_letter 1 = .ok (.bipush 32, 2) := by decide +kernel
theorem dX4_letter_3 : decode cX4_letter 3 = .ok (.if_icmp .lt 9, 3) := by decide +kernel
theorem dX4_letter_6 : decode cX4_letter 6 = .ok (.iload_n 1, 1) := by decide +kernel
theorem dX4_letter_7 : decode cX4_letter 7 = .ok (.bipush 126, 2) := by decide +kernel
theorem dX4_letter_9 : decode cX4_letter 9 = .ok (.if_icmp .le 6, 3) := by decide +kernel
theorem dX4_letter_12 : decode cX4_letter 12 = .ok (.bipush (-102), 2) := by decide +kernel
theorem dX4_letter_14 : decode cX4_letter 14 = .ok (.ireturn, 1) := by decide +kernel
theorem dX4_letter_15 : decode cX4_letter 15 = .ok (.aload_n 0, 1) := by decide +kernel
theorem dX4_letter_16 : decode cX4_letter 16 = .ok (.getfield 12, 3) := by decide +kernel
theorem dX4_letter_19 : decode cX4_letter 19 = .ok (.getfield 57, 3) := by decide +kernel
theorem dX4_letter_22 : decode cX4_letter 22 = .ok (.bipush 36, 2) := by decide +kernel
theorem dX4_letter_24 : decode cX4_letter 24 = .ok (.if_icmp .lt 6, 3) := by decide +kernel
theorem dX4_letter_27 : decode cX4_letter 27 = .ok (.bipush (-104), 2) := by decide +kernel
theorem dX4_letter_29 : decode cX4_letter 29 = .ok (.ireturn, 1) := by decide +kernel
theorem dX4_letter_30 : decode cX4_letter 30 = .ok (.aload_n 0, 1) := by decide +kernel
theorem dX4_letter_31 : decode cX4_letter 31 = .ok (.getfield 12, 3) := by decide +kernel
theorem dX4_letter_34 : decode cX4_letter 34 = .ok (.iload_n 1, 1) := by decide +kernel
theorem dX4_letter_35 : decode cX4_letter 35 = .ok (.invokevirtual 60, 3) := by decide +kernel
theorem dX4_letter_38 : decode cX4_letter 38 = .ok (.aload_n 0, 1) := by decide +kernel
theorem dX4_letter_39 : decode cX4_letter 39 = .ok (.getfield 12, 3) := by decide +kernel
theorem dX4_letter_42 : decode cX4_letter 42 = .ok (.getfield 57, 3) := by decide +kernel
theorem dX4_letter_45 : decode cX4_letter 45 = .ok (.ireturn, 1) := by decide +kernel
theorem dX4_blank_0 : decode cX4_blank 0 = .ok (.aload_n 0, 1) := by decide +kernel
theorem dX4_blank_1 : decode cX4_blank 1 = .ok (.getfield 12, 3) := by decide +kernel
theorem dX4_blank_4 : decode cX4_blank 4 = .ok (.getfield 57, 3) := by decide +kernel
theorem dX4_blank_7 : decode cX4_blank 7 = .ok (.istore_n 1, 1) := by decide +kernel
theorem dX4_blank_8 : decode cX4_blank 8 = .ok (.aload_n 0, 1) := by decide +kernel
theorem dX4_blank_9 : decode cX4_blank 9 = .ok (.getfield 12, 3) := by decide +kernel
theorem dX4_blank_12 : decode cX4_blank 12 = .ok (.iconst 0, 1) := by decide +kernel
theorem dX4_blank_13 : decode cX4_blank 13 = .ok (.putfield 57, 3) := by decide +kernel
theorem dX4_blank_16 : decode cX4_blank 16 = .ok (.iload_n 1, 1) := by decide +kernel
theorem dX4_blank_17 : decode cX4_blank 17 = .ok (.ireturn, 1) := by decide +kernel
theorem dX4_fault_0 : decode cX4_fault 0 = .ok (.aload_n 0, 1) := by decide +kernel
theorem dX4_fault_1 : decode cX4_fault 1 = .ok (.getfield 12, 3) := by decide +kernel
theorem dX4_fault_4 : decode cX4_fault 4 = .ok (.invokevirtual 64, 3) := by decide +kernel
theorem dX4_fault_7 : decode cX4_fault 7 = .ok (.ireturn, 1) := by decide +kernel
theorem dX4_table_0 : decode cX4_table 0 = .ok (.aload_n 0, 1) := by decide +kernel
theorem dX4_table_1 : decode cX4_table 1 = .ok (.getfield 12, 3) := by decide +kernel
theorem dX4_table_4 : decode cX4_table 4 = .ok (.invokevirtual 68, 3) := by decide +kernel
theorem dX4_table_7 : decode cX4_table 7 = .ok (.ifCond .ne 6, 3) := by decide +kernel
theorem dX4_table_10 : decode cX4_table 10 = .ok (.bipush (-103), 2) := by decide +kernel
theorem dX4_table_12 : decode cX4_table 12 = .ok (.ireturn, 1) := by decide +kernel
theorem dX4_table_13 : decode cX4_table 13 = .ok (.aload_n 0, 1) := by decide +kernel
theorem dX4_table_14 : decode cX4_table 14 = .ok (.getfield 12, 3) := by decide +kernel
theorem dX4_table_17 : decode cX4_table 17 = .ok (.aload_n 0, 1) := by decide +kernel
theorem dX4_table_18 : decode cX4_table 18 = .ok (.getfield 19, 3) := by decide +kernel
theorem dX4_table_21 : decode cX4_table 21 = .ok (.invokevirtual 72, 3) := by decide +kernel
theorem dX4_table_24 : decode cX4_table 24 = .ok (.aload_n 0, 1) := by decide +kernel
theorem dX4_table_25 : decode cX4_table 25 = .ok (.getfield 12, 3) := by decide +kernel
theorem dX4_table_28 : decode cX4_table 28 = .ok (.iconst 0, 1) := by decide +kernel
theorem dX4_table_29 : decode cX4_table 29 = .ok (.putfield 57, 3) := by decide +kernel
theorem dX4_table_32 : decode cX4_table 32 = .ok (.aload_n 0, 1) := by decide +kernel
theorem dX4_table_33 : decode cX4_table 33 = .ok (.getfield 26, 3) := by decide +kernel
theorem dX4_table_36 : decode cX4_table 36 = .ok (.iconst 0, 1) := by decide +kernel
theorem dX4_table_37 : decode cX4_table 37 = .ok (.putfield 76, 3) := by decide +kernel
theorem dX4_table_40 : decode cX4_table 40 = .ok (.aload_n 0, 1) := by decide +kernel
theorem dX4_table_41 : decode cX4_table 41 = .ok (.iconst 0, 1) := by decide +kernel
theorem dX4_table_42 : decode cX4_table 42 = .ok (.putfield 46, 3) := by decide +kernel
theorem dX4_table_45 : decode cX4_table 45 = .ok (.aload_n 0, 1) := by decide +kernel
theorem dX4_table_46 : decode cX4_table 46 = .ok (.dup, 1) := by decide +kernel
theorem dX4_table_47 : decode cX4_table 47 = .ok (.getfield 50, 3) := by decide +kernel
theorem dX4_table_50 : decode cX4_table 50 = .ok (.iconst 1, 1) := by decide +kernel
theorem dX4_table_51 : decode cX4_table 51 = .ok (.iadd, 1) := by decide +kernel
theorem dX4_table_52 : decode cX4_table 52 = .ok (.putfield 50, 3) := by decide +kernel
theorem dX4_table_55 : decode cX4_table 55 = .ok (.aload_n 0, 1) := by decide +kernel
theorem dX4_table_56 : decode cX4_table 56 = .ok (.getfield 19, 3) := by decide +kernel
theorem dX4_table_59 : decode cX4_table 59 = .ok (.getfield 77, 3) := by decide +kernel
theorem dX4_table_62 : decode cX4_table 62 = .ok (.ireturn, 1) := by decide +kernel
theorem dX4_weight_0 : decode cX4_weight 0 = .ok (.aload_n 0, 1) := by decide +kernel
theorem dX4_weight_1 : decode cX4_weight 1 = .ok (.iload_n 1, 1) := by decide +kernel
theorem dX4_weight_2 : decode cX4_weight 2 = .ok (.invokevirtual 80, 3) := by decide +kernel
theorem dX4_weight_5 : decode cX4_weight 5 = .ok (.ifCond .ne 6, 3) := by decide +kernel
theorem dX4_weight_8 : decode cX4_weight 8 = .ok (.bipush (-101), 2) := by decide +kernel
theorem dX4_weight_10 : decode cX4_weight 10 = .ok (.ireturn, 1) := by decide +kernel
theorem dX4_weight_11 : decode cX4_weight 11 = .ok (.iload_n 2, 1) := by decide +kernel
theorem dX4_weight_12 : decode cX4_weight 12 = .ok (.tableswitch 155 0 7 #[48, 58, 68, 78, 88, 119, 129, 142], 48) := by decide +kernel
theorem dX4_weight_60 : decode cX4_weight 60 = .ok (.aload_n 0, 1) := by decide +kernel
theorem dX4_weight_61 : decode cX4_weight 61 = .ok (.getfield 19, 3) := by decide +kernel
theorem dX4_weight_64 : decode cX4_weight 64 = .ok (.getfield 84, 3) := by decide +kernel
theorem dX4_weight_67 : decode cX4_weight 67 = .ok (.iload_n 1, 1) := by decide +kernel
theorem dX4_weight_68 : decode cX4_weight 68 = .ok (.iaload, 1) := by decide +kernel
theorem dX4_weight_69 : decode cX4_weight 69 = .ok (.ireturn, 1) := by decide +kernel
theorem dX4_weight_70 : decode cX4_weight 70 = .ok (.aload_n 0, 1) := by decide +kernel
theorem dX4_weight_71 : decode cX4_weight 71 = .ok (.getfield 19, 3) := by decide +kernel
theorem dX4_weight_74 : decode cX4_weight 74 = .ok (.getfield 88, 3) := by decide +kernel
theorem dX4_weight_77 : decode cX4_weight 77 = .ok (.iload_n 1, 1) := by decide +kernel
theorem dX4_weight_78 : decode cX4_weight 78 = .ok (.iaload, 1) := by decide +kernel
theorem dX4_weight_79 : decode cX4_weight 79 = .ok (.ireturn, 1) := by decide +kernel
theorem dX4_weight_80 : decode cX4_weight 80 = .ok (.aload_n 0, 1) := by decide +kernel
theorem dX4_weight_81 : decode cX4_weight 81 = .ok (.getfield 19, 3) := by decide +kernel
theorem dX4_weight_84 : decode cX4_weight 84 = .ok (.getfield 91, 3) := by decide +kernel
theorem dX4_weight_87 : decode cX4_weight 87 = .ok (.iload_n 1, 1) := by decide +kernel
theorem dX4_weight_88 : decode cX4_weight 88 = .ok (.iaload, 1) := by decide +kernel
theorem dX4_weight_89 : decode cX4_weight 89 = .ok (.ireturn, 1) := by decide +kernel
theorem dX4_weight_90 : decode cX4_weight 90 = .ok (.aload_n 0, 1) := by decide +kernel
theorem dX4_weight_91 : decode cX4_weight 91 = .ok (.getfield 19, 3) := by decide +kernel
theorem dX4_weight_94 : decode cX4_weight 94 = .ok (.getfield 94, 3) := by decide +kernel
theorem dX4_weight_97 : decode cX4_weight 97 = .ok (.iload_n 1, 1) := by decide +kernel
theorem dX4_weight_98 : decode cX4_weight 98 = .ok (.iaload, 1) := by decide +kernel
theorem dX4_weight_99 : decode cX4_weight 99 = .ok (.ireturn, 1) := by decide +kernel
theorem dX4_weight_100 : decode cX4_weight 100 = .ok (.aload_n 0, 1) := by decide +kernel
theorem dX4_weight_101 : decode cX4_weight 101 = .ok (.getfield 19, 3) := by decide +kernel
theorem dX4_weight_104 : decode cX4_weight 104 = .ok (.getfield 84, 3) := by decide +kernel
theorem dX4_weight_107 : decode cX4_weight 107 = .ok (.iload_n 1, 1) := by decide +kernel
theorem dX4_weight_108 : decode cX4_weight 108 = .ok (.iaload, 1) := by decide +kernel
theorem dX4_weight_109 : decode cX4_weight 109 = .ok (.aload_n 0, 1) := by decide +kernel
theorem dX4_weight_110 : decode cX4_weight 110 = .ok (.getfield 19, 3) := by decide +kernel
theorem dX4_weight_113 : decode cX4_weight 113 = .ok (.getfield 88, 3) := by decide +kernel
theorem dX4_weight_116 : decode cX4_weight 116 = .ok (.iload_n 1, 1) := by decide +kernel
theorem dX4_weight_117 : decode cX4_weight 117 = .ok (.iaload, 1) := by decide +kernel
theorem dX4_weight_118 : decode cX4_weight 118 = .ok (.aload_n 0, 1) := by decide +kernel
theorem dX4_weight_119 : decode cX4_weight 119 = .ok (.getfield 19, 3) := by decide +kernel
theorem dX4_weight_122 : decode cX4_weight 122 = .ok (.getfield 97, 3) := by decide +kernel
theorem dX4_weight_125 : decode cX4_weight 125 = .ok (.iload_n 1, 1) := by decide +kernel
theorem dX4_weight_126 : decode cX4_weight 126 = .ok (.iaload, 1) := by decide +kernel
theorem dX4_weight_127 : decode cX4_weight 127 = .ok (.invokestatic 100, 3) := by decide +kernel
theorem dX4_weight_130 : decode cX4_weight 130 = .ok (.ireturn, 1) := by decide +kernel
theorem dX4_weight_131 : decode cX4_weight 131 = .ok (.aload_n 0, 1) := by decide +kernel
theorem dX4_weight_132 : decode cX4_weight 132 = .ok (.getfield 19, 3) := by decide +kernel
theorem dX4_weight_135 : decode cX4_weight 135 = .ok (.getfield 97, 3) := by decide +kernel
theorem dX4_weight_138 : decode cX4_weight 138 = .ok (.iload_n 1, 1) := by decide +kernel
theorem dX4_weight_139 : decode cX4_weight 139 = .ok (.iaload, 1) := by decide +kernel
theorem dX4_weight_140 : decode cX4_weight 140 = .ok (.ireturn, 1) := by decide +kernel
theorem dX4_weight_141 : decode cX4_weight 141 = .ok (.aload_n 0, 1) := by decide +kernel
theorem dX4_weight_142 : decode cX4_weight 142 = .ok (.getfield 26, 3) := by decide +kernel
theorem dX4_weight_145 : decode cX4_weight 145 = .ok (.aload_n 0, 1) := by decide +kernel
theorem dX4_weight_146 : decode cX4_weight 146 = .ok (.getfield 19, 3) := by decide +kernel
theorem dX4_weight_149 : decode cX4_weight 149 = .ok (.iload_n 1, 1) := by decide +kernel
theorem dX4_weight_150 : decode cX4_weight 150 = .ok (.invokevirtual 104, 3) := by decide +kernel
theorem dX4_weight_153 : decode cX4_weight 153 = .ok (.ireturn, 1) := by decide +kernel
theorem dX4_weight_154 : decode cX4_weight 154 = .ok (.aload_n 0, 1) := by decide +kernel
theorem dX4_weight_155 : decode cX4_weight 155 = .ok (.getfield 26, 3) := by decide +kernel
theorem dX4_weight_158 : decode cX4_weight 158 = .ok (.aload_n 0, 1) := by decide +kernel
theorem dX4_weight_159 : decode cX4_weight 159 = .ok (.getfield 19, 3) := by decide +kernel
theorem dX4_weight_162 : decode cX4_weight 162 = .ok (.iload_n 1, 1) := by decide +kernel
theorem dX4_weight_163 : decode cX4_weight 163 = .ok (.invokevirtual 108, 3) := by decide +kernel
theorem dX4_weight_166 : decode cX4_weight 166 = .ok (.ireturn, 1) := by decide +kernel
theorem dX4_weight_167 : decode cX4_weight 167 = .ok (.bipush (-102), 2) := by decide +kernel
theorem dX4_weight_169 : decode cX4_weight 169 = .ok (.ireturn, 1) := by decide +kernel
theorem dX4_as_0 : decode cX4_as 0 = .ok (.aload_n 0, 1) := by decide +kernel
theorem dX4_as_1 : decode cX4_as 1 = .ok (.iload_n 1, 1) := by decide +kernel
theorem dX4_as_2 : decode cX4_as 2 = .ok (.invokevirtual 80, 3) := by decide +kernel
theorem dX4_as_5 : decode cX4_as 5 = .ok (.ifCond .ne 6, 3) := by decide +kernel
theorem dX4_as_8 : decode cX4_as 8 = .ok (.bipush (-101), 2) := by decide +kernel
theorem dX4_as_10 : decode cX4_as 10 = .ok (.ireturn, 1) := by decide +kernel
theorem dX4_as_11 : decode cX4_as 11 = .ok (.iload_n 2, 1) := by decide +kernel
theorem dX4_as_12 : decode cX4_as 12 = .ok (.ifCond .lt 8, 3) := by decide +kernel
theorem dX4_as_15 : decode cX4_as 15 = .ok (.iload_n 2, 1) := by decide +kernel
theorem dX4_as_16 : decode cX4_as 16 = .ok (.iconst 5, 1) := by decide +kernel
theorem dX4_as_17 : decode cX4_as 17 = .ok (.if_icmp .lt 6, 3) := by decide +kernel
theorem dX4_as_20 : decode cX4_as 20 = .ok (.bipush (-102), 2) := by decide +kernel
theorem dX4_as_22 : decode cX4_as 22 = .ok (.ireturn, 1) := by decide +kernel
theorem dX4_as_23 : decode cX4_as 23 = .ok (.aload_n 0, 1) := by decide +kernel
theorem dX4_as_24 : decode cX4_as 24 = .ok (.getfield 19, 3) := by decide +kernel
theorem dX4_as_27 : decode cX4_as 27 = .ok (.getfield 84, 3) := by decide +kernel
theorem dX4_as_30 : decode cX4_as 30 = .ok (.iload_n 1, 1) := by decide +kernel
theorem dX4_as_31 : decode cX4_as 31 = .ok (.iaload, 1) := by decide +kernel
theorem dX4_as_32 : decode cX4_as 32 = .ok (.iload_n 2, 1) := by decide +kernel
theorem dX4_as_33 : decode cX4_as 33 = .ok (.invokestatic 111, 3) := by decide +kernel
theorem dX4_as_36 : decode cX4_as 36 = .ok (.ifCond .eq 7, 3) := by decide +kernel
theorem dX4_as_39 : decode cX4_as 39 = .ok (.iload_n 1, 1) := by decide +kernel
theorem dX4_as_40 : decode cX4_as 40 = .ok (.goto 4, 3) := by decide +kernel
theorem dX4_as_43 : decode cX4_as 43 = .ok (.iconst (-1), 1) := by decide +kernel
theorem dX4_as_44 : decode cX4_as 44 = .ok (.ireturn, 1) := by decide +kernel
theorem dX4_village_0 : decode cX4_village 0 = .ok (.aload_n 0, 1) := by decide +kernel
theorem dX4_village_1 : decode cX4_village 1 = .ok (.iload_n 1, 1) := by decide +kernel
theorem dX4_village_2 : decode cX4_village 2 = .ok (.invokevirtual 115, 3) := by decide +kernel
theorem dX4_village_5 : decode cX4_village 5 = .ok (.ifCond .ne 6, 3) := by decide +kernel
theorem dX4_village_8 : decode cX4_village 8 = .ok (.bipush (-101), 2) := by decide +kernel
theorem dX4_village_10 : decode cX4_village 10 = .ok (.ireturn, 1) := by decide +kernel
theorem dX4_village_11 : decode cX4_village 11 = .ok (.iload_n 2, 1) := by decide +kernel
theorem dX4_village_12 : decode cX4_village 12 = .ok (.tableswitch 135 0 7 #[48, 58, 69, 80, 94, 108, 117, 126], 48) := by decide +kernel
theorem dX4_village_60 : decode cX4_village 60 = .ok (.aload_n 0, 1) := by decide +kernel
theorem dX4_village_61 : decode cX4_village 61 = .ok (.getfield 19, 3) := by decide +kernel
theorem dX4_village_64 : decode cX4_village 64 = .ok (.getfield 118, 3) := by decide +kernel
theorem dX4_village_67 : decode cX4_village 67 = .ok (.iload_n 1, 1) := by decide +kernel
theorem dX4_village_68 : decode cX4_village 68 = .ok (.iaload, 1) := by decide +kernel
theorem dX4_village_69 : decode cX4_village 69 = .ok (.ireturn, 1) := by decide +kernel
theorem dX4_village_70 : decode cX4_village 70 = .ok (.aload_n 0, 1) := by decide +kernel
theorem dX4_village_71 : decode cX4_village 71 = .ok (.getfield 19, 3) := by decide +kernel
theorem dX4_village_74 : decode cX4_village 74 = .ok (.iconst (-1), 1) := by decide +kernel
theorem dX4_village_75 : decode cX4_village 75 = .ok (.iload_n 1, 1) := by decide +kernel
theorem dX4_village_76 : decode cX4_village 76 = .ok (.iconst 0, 1) := by decide +kernel
theorem dX4_village_77 : decode cX4_village 77 = .ok (.invokevirtual 121, 3) := by decide +kernel
theorem dX4_village_80 : decode cX4_village 80 = .ok (.ireturn, 1) := by decide +kernel
theorem dX4_village_81 : decode cX4_village 81 = .ok (.aload_n 0, 1) := by decide +kernel
theorem dX4_village_82 : decode cX4_village 82 = .ok (.getfield 19, 3) := by decide +kernel
theorem dX4_village_85 : decode cX4_village 85 = .ok (.iconst (-1), 1) := by decide +kernel
theorem dX4_village_86 : decode cX4_village 86 = .ok (.iload_n 1, 1) := by decide +kernel
theorem dX4_village_87 : decode cX4_village 87 = .ok (.iconst 1, 1) := by decide +kernel
theorem dX4_village_88 : decode cX4_village 88 = .ok (.invokevirtual 121, 3) := by decide +kernel
theorem dX4_village_91 : decode cX4_village 91 = .ok (.ireturn, 1) := by decide +kernel
theorem dX4_village_92 : decode cX4_village 92 = .ok (.aload_n 0, 1) := by decide +kernel
theorem dX4_village_93 : decode cX4_village 93 = .ok (.getfield 19, 3) := by decide +kernel
theorem dX4_village_96 : decode cX4_village 96 = .ok (.iconst (-1), 1) := by decide +kernel
theorem dX4_village_97 : decode cX4_village 97 = .ok (.iload_n 1, 1) := by decide +kernel
theorem dX4_village_98 : decode cX4_village 98 = .ok (.iconst 0, 1) := by decide +kernel
theorem dX4_village_99 : decode cX4_village 99 = .ok (.invokevirtual 121, 3) := by decide +kernel
theorem dX4_village_102 : decode cX4_village 102 = .ok (.invokestatic 124, 3) := by decide +kernel
theorem dX4_village_105 : decode cX4_village 105 = .ok (.ireturn, 1) := by decide +kernel
theorem dX4_village_106 : decode cX4_village 106 = .ok (.aload_n 0, 1) := by decide +kernel
theorem dX4_village_107 : decode cX4_village 107 = .ok (.getfield 19, 3) := by decide +kernel
theorem dX4_village_110 : decode cX4_village 110 = .ok (.iconst (-1), 1) := by decide +kernel
theorem dX4_village_111 : decode cX4_village 111 = .ok (.iload_n 1, 1) := by decide +kernel
theorem dX4_village_112 : decode cX4_village 112 = .ok (.iconst 1, 1) := by decide +kernel
theorem dX4_village_113 : decode cX4_village 113 = .ok (.invokevirtual 121, 3) := by decide +kernel
theorem dX4_village_116 : decode cX4_village 116 = .ok (.invokestatic 124, 3) := by decide +kernel
theorem dX4_village_119 : decode cX4_village 119 = .ok (.ireturn, 1) := by decide +kernel
theorem dX4_village_120 : decode cX4_village 120 = .ok (.aload_n 0, 1) := by decide +kernel
theorem dX4_village_121 : decode cX4_village 121 = .ok (.getfield 19, 3) := by decide +kernel
theorem dX4_village_124 : decode cX4_village 124 = .ok (.iload_n 1, 1) := by decide +kernel
theorem dX4_village_125 : decode cX4_village 125 = .ok (.invokevirtual 128, 3) := by decide +kernel
theorem dX4_village_128 : decode cX4_village 128 = .ok (.ireturn, 1) := by decide +kernel
theorem dX4_village_129 : decode cX4_village 129 = .ok (.aload_n 0, 1) := by decide +kernel
theorem dX4_village_130 : decode cX4_village 130 = .ok (.getfield 19, 3) := by decide +kernel
theorem dX4_village_133 : decode cX4_village 133 = .ok (.iload_n 1, 1) := by decide +kernel
theorem dX4_village_134 : decode cX4_village 134 = .ok (.invokevirtual 131, 3) := by decide +kernel
theorem dX4_village_137 : decode cX4_village 137 = .ok (.ireturn, 1) := by decide +kernel
theorem dX4_village_138 : decode cX4_village 138 = .ok (.aload_n 0, 1) := by decide +kernel
theorem dX4_village_139 : decode cX4_village 139 = .ok (.getfield 19, 3) := by decide +kernel
theorem dX4_village_142 : decode cX4_village 142 = .ok (.iload_n 1, 1) := by decide +kernel
theorem dX4_village_143 : decode cX4_village 143 = .ok (.invokevirtual 134, 3) := by decide +kernel
theorem dX4_village_146 : decode cX4_village 146 = .ok (.ireturn, 1) := by decide +kernel
theorem dX4_village_147 : decode cX4_village 147 = .ok (.bipush (-102), 2) := by decide +kernel
theorem dX4_village_149 : decode cX4_village 149 = .ok (.ireturn, 1) := by decide +kernel
theorem dX4_lifts_0 : decode cX4_lifts 0 = .ok (.aload_n 0, 1) := by decide +kernel
theorem dX4_lifts_1 : decode cX4_lifts 1 = .ok (.iload_n 1, 1) := by decide +kernel
theorem dX4_lifts_2 : decode cX4_lifts 2 = .ok (.invokevirtual 115, 3) := by decide +kernel
theorem dX4_lifts_5 : decode cX4_lifts 5 = .ok (.ifCond .ne 6, 3) := by decide +kernel
theorem dX4_lifts_8 : decode cX4_lifts 8 = .ok (.bipush (-101), 2) := by decide +kernel
theorem dX4_lifts_10 : decode cX4_lifts 10 = .ok (.ireturn, 1) := by decide +kernel
theorem dX4_lifts_11 : decode cX4_lifts 11 = .ok (.iload_n 2, 1) := by decide +kernel
theorem dX4_lifts_12 : decode cX4_lifts 12 = .ok (.iload_n 3, 1) := by decide +kernel
theorem dX4_lifts_13 : decode cX4_lifts 13 = .ok (.invokestatic 137, 3) := by decide +kernel
theorem dX4_lifts_16 : decode cX4_lifts 16 = .ok (.ifCond .ne 6, 3) := by decide +kernel
theorem dX4_lifts_19 : decode cX4_lifts 19 = .ok (.bipush (-102), 2) := by decide +kernel
theorem dX4_lifts_21 : decode cX4_lifts 21 = .ok (.ireturn, 1) := by decide +kernel
theorem dX4_lifts_22 : decode cX4_lifts 22 = .ok (.aload_n 0, 1) := by decide +kernel
theorem dX4_lifts_23 : decode cX4_lifts 23 = .ok (.getfield 19, 3) := by decide +kernel
theorem dX4_lifts_26 : decode cX4_lifts 26 = .ok (.iconst (-1), 1) := by decide +kernel
theorem dX4_lifts_27 : decode cX4_lifts 27 = .ok (.iload_n 1, 1) := by decide +kernel
theorem dX4_lifts_28 : decode cX4_lifts 28 = .ok (.iload_n 2, 1) := by decide +kernel
theorem dX4_lifts_29 : decode cX4_lifts 29 = .ok (.invokevirtual 121, 3) := by decide +kernel
theorem dX4_lifts_32 : decode cX4_lifts 32 = .ok (.iload_n 3, 1) := by decide +kernel
theorem dX4_lifts_33 : decode cX4_lifts 33 = .ok (.invokestatic 140, 3) := by decide +kernel
theorem dX4_lifts_36 : decode cX4_lifts 36 = .ok (.ifCond .eq 7, 3) := by decide +kernel
theorem dX4_lifts_39 : decode cX4_lifts 39 = .ok (.iconst 1, 1) := by decide +kernel
theorem dX4_lifts_40 : decode cX4_lifts 40 = .ok (.goto 4, 3) := by decide +kernel
theorem dX4_lifts_43 : decode cX4_lifts 43 = .ok (.iconst 0, 1) := by decide +kernel
theorem dX4_lifts_44 : decode cX4_lifts 44 = .ok (.ireturn, 1) := by decide +kernel
theorem dX4_blow_0 : decode cX4_blow 0 = .ok (.iload_n 1, 1) := by decide +kernel
theorem dX4_blow_1 : decode cX4_blow 1 = .ok (.iload_n 2, 1) := by decide +kernel
theorem dX4_blow_2 : decode cX4_blow 2 = .ok (.invokestatic 137, 3) := by decide +kernel
theorem dX4_blow_5 : decode cX4_blow 5 = .ok (.ifCond .ne 6, 3) := by decide +kernel
theorem dX4_blow_8 : decode cX4_blow 8 = .ok (.bipush (-102), 2) := by decide +kernel
theorem dX4_blow_10 : decode cX4_blow 10 = .ok (.ireturn, 1) := by decide +kernel
theorem dX4_blow_11 : decode cX4_blow 11 = .ok (.aload_n 0, 1) := by decide +kernel
theorem dX4_blow_12 : decode cX4_blow 12 = .ok (.invokevirtual 143, 3) := by decide +kernel
theorem dX4_blow_15 : decode cX4_blow 15 = .ok (.ifCond .ne 6, 3) := by decide +kernel
theorem dX4_blow_18 : decode cX4_blow 18 = .ok (.bipush (-103), 2) := by decide +kernel
theorem dX4_blow_20 : decode cX4_blow 20 = .ok (.ireturn, 1) := by decide +kernel
theorem dX4_blow_21 : decode cX4_blow 21 = .ok (.aload_n 0, 1) := by decide +kernel
theorem dX4_blow_22 : decode cX4_blow 22 = .ok (.getfield 19, 3) := by decide +kernel
theorem dX4_blow_25 : decode cX4_blow 25 = .ok (.getfield 146, 3) := by decide +kernel
theorem dX4_blow_28 : decode cX4_blow 28 = .ok (.sipush 999, 3) := by decide +kernel
theorem dX4_blow_31 : decode cX4_blow 31 = .ok (.if_icmp .lt 6, 3) := by decide +kernel
theorem dX4_blow_34 : decode cX4_blow 34 = .ok (.bipush (-104), 2) := by decide +kernel
theorem dX4_blow_36 : decode cX4_blow 36 = .ok (.ireturn, 1) := by decide +kernel
theorem dX4_blow_37 : decode cX4_blow 37 = .ok (.aload_n 0, 1) := by decide +kernel
theorem dX4_blow_38 : decode cX4_blow 38 = .ok (.getfield 19, 3) := by decide +kernel
theorem dX4_blow_41 : decode cX4_blow 41 = .ok (.iload_n 1, 1) := by decide +kernel
theorem dX4_blow_42 : decode cX4_blow 42 = .ok (.iload_n 2, 1) := by decide +kernel
theorem dX4_blow_43 : decode cX4_blow 43 = .ok (.invokevirtual 149, 3) := by decide +kernel
theorem dX4_blow_46 : decode cX4_blow 46 = .ok (.ireturn, 1) := by decide +kernel
theorem dX4_put_0 : decode cX4_put 0 = .ok (.aload_n 0, 1) := by decide +kernel
theorem dX4_put_1 : decode cX4_put 1 = .ok (.iload_n 1, 1) := by decide +kernel
theorem dX4_put_2 : decode cX4_put 2 = .ok (.invokevirtual 80, 3) := by decide +kernel
theorem dX4_put_5 : decode cX4_put 5 = .ok (.ifCond .eq 11, 3) := by decide +kernel
theorem dX4_put_8 : decode cX4_put 8 = .ok (.aload_n 0, 1) := by decide +kernel
theorem dX4_put_9 : decode cX4_put 9 = .ok (.iload_n 2, 1) := by decide +kernel
theorem dX4_put_10 : decode cX4_put 10 = .ok (.invokevirtual 115, 3) := by decide +kernel
theorem dX4_put_13 : decode cX4_put 13 = .ok (.ifCond .ne 6, 3) := by decide +kernel
theorem dX4_put_16 : decode cX4_put 16 = .ok (.bipush (-101), 2) := by decide +kernel
theorem dX4_put_18 : decode cX4_put 18 = .ok (.ireturn, 1) := by decide +kernel
theorem dX4_put_19 : decode cX4_put 19 = .ok (.iload_n 3, 1) := by decide +kernel
theorem dX4_put_20 : decode cX4_put 20 = .ok (.ifCond .lt 8, 3) := by decide +kernel
theorem dX4_put_23 : decode cX4_put 23 = .ok (.iload_n 3, 1) := by decide +kernel
theorem dX4_put_24 : decode cX4_put 24 = .ok (.iconst 4, 1) := by decide +kernel
theorem dX4_put_25 : decode cX4_put 25 = .ok (.if_icmp .le 6, 3) := by decide +kernel
theorem dX4_put_28 : decode cX4_put 28 = .ok (.bipush (-102), 2) := by decide +kernel
theorem dX4_put_30 : decode cX4_put 30 = .ok (.ireturn, 1) := by decide +kernel
theorem dX4_put_31 : decode cX4_put 31 = .ok (.aload_n 0, 1) := by decide +kernel
theorem dX4_put_32 : decode cX4_put 32 = .ok (.getfield 19, 3) := by decide +kernel
theorem dX4_put_35 : decode cX4_put 35 = .ok (.getfield 91, 3) := by decide +kernel
theorem dX4_put_38 : decode cX4_put 38 = .ok (.iload_n 1, 1) := by decide +kernel
theorem dX4_put_39 : decode cX4_put 39 = .ok (.iaload, 1) := by decide +kernel
theorem dX4_put_40 : decode cX4_put 40 = .ok (.istore 4, 2) := by decide +kernel
theorem dX4_put_42 : decode cX4_put 42 = .ok (.aload_n 0, 1) := by decide +kernel
theorem dX4_put_43 : decode cX4_put 43 = .ok (.getfield 19, 3) := by decide +kernel
theorem dX4_put_46 : decode cX4_put 46 = .ok (.iload_n 1, 1) := by decide +kernel
theorem dX4_put_47 : decode cX4_put 47 = .ok (.iload_n 2, 1) := by decide +kernel
theorem dX4_put_48 : decode cX4_put 48 = .ok (.iload_n 3, 1) := by decide +kernel
theorem dX4_put_49 : decode cX4_put 49 = .ok (.invokevirtual 153, 3) := by decide +kernel
theorem dX4_put_52 : decode cX4_put 52 = .ok (.iload 4, 2) := by decide +kernel
theorem dX4_put_54 : decode cX4_put 54 = .ok (.ireturn, 1) := by decide +kernel
theorem dX4_lift_0 : decode cX4_lift 0 = .ok (.aload_n 0, 1) := by decide +kernel
theorem dX4_lift_1 : decode cX4_lift 1 = .ok (.iload_n 1, 1) := by decide +kernel
theorem dX4_lift_2 : decode cX4_lift 2 = .ok (.invokevirtual 80, 3) := by decide +kernel
theorem dX4_lift_5 : decode cX4_lift 5 = .ok (.ifCond .ne 6, 3) := by decide +kernel
theorem dX4_lift_8 : decode cX4_lift 8 = .ok (.bipush (-101), 2) := by decide +kernel
theorem dX4_lift_10 : decode cX4_lift 10 = .ok (.ireturn, 1) := by decide +kernel
theorem dX4_lift_11 : decode cX4_lift 11 = .ok (.aload_n 0, 1) := by decide +kernel
theorem dX4_lift_12 : decode cX4_lift 12 = .ok (.getfield 19, 3) := by decide +kernel
theorem dX4_lift_15 : decode cX4_lift 15 = .ok (.getfield 91, 3) := by decide +kernel
theorem dX4_lift_18 : decode cX4_lift 18 = .ok (.iload_n 1, 1) := by decide +kernel
theorem dX4_lift_19 : decode cX4_lift 19 = .ok (.iaload, 1) := by decide +kernel
theorem dX4_lift_20 : decode cX4_lift 20 = .ok (.istore_n 2, 1) := by decide +kernel
theorem dX4_lift_21 : decode cX4_lift 21 = .ok (.iload_n 2, 1) := by decide +kernel
theorem dX4_lift_22 : decode cX4_lift 22 = .ok (.iconst (-1), 1) := by decide +kernel
theorem dX4_lift_23 : decode cX4_lift 23 = .ok (.if_icmp .ne 6, 3) := by decide +kernel
theorem dX4_lift_26 : decode cX4_lift 26 = .ok (.bipush (-103), 2) := by decide +kernel
theorem dX4_lift_28 : decode cX4_lift 28 = .ok (.ireturn, 1) := by decide +kernel
theorem dX4_lift_29 : decode cX4_lift 29 = .ok (.aload_n 0, 1) := by decide +kernel
theorem dX4_lift_30 : decode cX4_lift 30 = .ok (.getfield 19, 3) := by decide +kernel
theorem dX4_lift_33 : decode cX4_lift 33 = .ok (.iload_n 1, 1) := by decide +kernel
theorem dX4_lift_34 : decode cX4_lift 34 = .ok (.iconst (-1), 1) := by decide +kernel
theorem dX4_lift_35 : decode cX4_lift 35 = .ok (.iconst (-1), 1) := by decide +kernel
theorem dX4_lift_36 : decode cX4_lift 36 = .ok (.invokevirtual 153, 3) := by decide +kernel
theorem dX4_lift_39 : decode cX4_lift 39 = .ok (.iload_n 2, 1) := by decide +kernel
theorem dX4_lift_40 : decode cX4_lift 40 = .ok (.ireturn, 1) := by decide +kernel
theorem dX4_cut_0 : decode cX4_cut 0 = .ok (.aload_n 0, 1) := by decide +kernel
theorem dX4_cut_1 : decode cX4_cut 1 = .ok (.iload_n 1, 1) := by decide +kernel
theorem dX4_cut_2 : decode cX4_cut 2 = .ok (.invokevirtual 80, 3) := by decide +kernel
theorem dX4_cut_5 : decode cX4_cut 5 = .ok (.ifCond .ne 6, 3) := by decide +kernel
theorem dX4_cut_8 : decode cX4_cut 8 = .ok (.bipush (-101), 2) := by decide +kernel
theorem dX4_cut_10 : decode cX4_cut 10 = .ok (.ireturn, 1) := by decide +kernel
theorem dX4_cut_11 : decode cX4_cut 11 = .ok (.iload_n 2, 1) := by decide +kernel
theorem dX4_cut_12 : decode cX4_cut 12 = .ok (.iconst 1, 1) := by decide +kernel
theorem dX4_cut_13 : decode cX4_cut 13 = .ok (.if_icmp .lt 9, 3) := by decide +kernel
theorem dX4_cut_16 : decode cX4_cut 16 = .ok (.iload_n 2, 1) := by decide +kernel
theorem dX4_cut_17 : decode cX4_cut 17 = .ok (.bipush 9, 2) := by decide +kernel
theorem dX4_cut_19 : decode cX4_cut 19 = .ok (.if_icmp .le 6, 3) := by decide +kernel
theorem dX4_cut_22 : decode cX4_cut 22 = .ok (.bipush (-102), 2) := by decide +kernel
theorem dX4_cut_24 : decode cX4_cut 24 = .ok (.ireturn, 1) := by decide +kernel
theorem dX4_cut_25 : decode cX4_cut 25 = .ok (.aload_n 0, 1) := by decide +kernel
theorem dX4_cut_26 : decode cX4_cut 26 = .ok (.getfield 19, 3) := by decide +kernel
theorem dX4_cut_29 : decode cX4_cut 29 = .ok (.getfield 88, 3) := by decide +kernel
theorem dX4_cut_32 : decode cX4_cut 32 = .ok (.iload_n 1, 1) := by decide +kernel
theorem dX4_cut_33 : decode cX4_cut 33 = .ok (.iaload, 1) := by decide +kernel
theorem dX4_cut_34 : decode cX4_cut 34 = .ok (.istore_n 3, 1) := by decide +kernel
theorem dX4_cut_35 : decode cX4_cut 35 = .ok (.aload_n 0, 1) := by decide +kernel
theorem dX4_cut_36 : decode cX4_cut 36 = .ok (.getfield 19, 3) := by decide +kernel
theorem dX4_cut_39 : decode cX4_cut 39 = .ok (.getfield 88, 3) := by decide +kernel
theorem dX4_cut_42 : decode cX4_cut 42 = .ok (.iload_n 1, 1) := by decide +kernel
theorem dX4_cut_43 : decode cX4_cut 43 = .ok (.iload_n 2, 1) := by decide +kernel
theorem dX4_cut_44 : decode cX4_cut 44 = .ok (.iastore, 1) := by decide +kernel
theorem dX4_cut_45 : decode cX4_cut 45 = .ok (.iload_n 3, 1) := by decide +kernel
theorem dX4_cut_46 : decode cX4_cut 46 = .ok (.ireturn, 1) := by decide +kernel
theorem dX4_build_0 : decode cX4_build 0 = .ok (.aload_n 0, 1) := by decide +kernel
theorem dX4_build_1 : decode cX4_build 1 = .ok (.iload_n 1, 1) := by decide +kernel
theorem dX4_build_2 : decode cX4_build 2 = .ok (.invokevirtual 115, 3) := by decide +kernel
theorem dX4_build_5 : decode cX4_build 5 = .ok (.ifCond .ne 6, 3) := by decide +kernel
theorem dX4_build_8 : decode cX4_build 8 = .ok (.bipush (-101), 2) := by decide +kernel
theorem dX4_build_10 : decode cX4_build 10 = .ok (.ireturn, 1) := by decide +kernel
theorem dX4_build_11 : decode cX4_build 11 = .ok (.iload_n 2, 1) := by decide +kernel
theorem dX4_build_12 : decode cX4_build 12 = .ok (.ifCond .lt 9, 3) := by decide +kernel
theorem dX4_build_15 : decode cX4_build 15 = .ok (.iload_n 2, 1) := by decide +kernel
theorem dX4_build_16 : decode cX4_build 16 = .ok (.bipush 9, 2) := by decide +kernel
theorem dX4_build_18 : decode cX4_build 18 = .ok (.if_icmp .le 6, 3) := by decide +kernel
theorem dX4_build_21 : decode cX4_build 21 = .ok (.bipush (-102), 2) := by decide +kernel
theorem dX4_build_23 : decode cX4_build 23 = .ok (.ireturn, 1) := by decide +kernel
theorem dX4_build_24 : decode cX4_build 24 = .ok (.aload_n 0, 1) := by decide +kernel
theorem dX4_build_25 : decode cX4_build 25 = .ok (.getfield 19, 3) := by decide +kernel
theorem dX4_build_28 : decode cX4_build 28 = .ok (.getfield 118, 3) := by decide +kernel
theorem dX4_build_31 : decode cX4_build 31 = .ok (.iload_n 1, 1) := by decide +kernel
theorem dX4_build_32 : decode cX4_build 32 = .ok (.iaload, 1) := by decide +kernel
theorem dX4_build_33 : decode cX4_build 33 = .ok (.istore_n 3, 1) := by decide +kernel
theorem dX4_build_34 : decode cX4_build 34 = .ok (.aload_n 0, 1) := by decide +kernel
theorem dX4_build_35 : decode cX4_build 35 = .ok (.getfield 19, 3) := by decide +kernel
theorem dX4_build_38 : decode cX4_build 38 = .ok (.getfield 118, 3) := by decide +kernel
theorem dX4_build_41 : decode cX4_build 41 = .ok (.iload_n 1, 1) := by decide +kernel
theorem dX4_build_42 : decode cX4_build 42 = .ok (.iload_n 2, 1) := by decide +kernel
theorem dX4_build_43 : decode cX4_build 43 = .ok (.iastore, 1) := by decide +kernel
theorem dX4_build_44 : decode cX4_build 44 = .ok (.iload_n 3, 1) := by decide +kernel
theorem dX4_build_45 : decode cX4_build 45 = .ok (.ireturn, 1) := by decide +kernel
theorem dX4_where_0 : decode cX4_where 0 = .ok (.aload_n 0, 1) := by decide +kernel
theorem dX4_where_1 : decode cX4_where 1 = .ok (.iload_n 1, 1) := by decide +kernel
theorem dX4_where_2 : decode cX4_where 2 = .ok (.invokevirtual 80, 3) := by decide +kernel
theorem dX4_where_5 : decode cX4_where 5 = .ok (.ifCond .eq 11, 3) := by decide +kernel
theorem dX4_where_8 : decode cX4_where 8 = .ok (.aload_n 0, 1) := by decide +kernel
theorem dX4_where_9 : decode cX4_where 9 = .ok (.iload_n 2, 1) := by decide +kernel
theorem dX4_where_10 : decode cX4_where 10 = .ok (.invokevirtual 115, 3) := by decide +kernel
theorem dX4_where_13 : decode cX4_where 13 = .ok (.ifCond .ne 6, 3) := by decide +kernel
theorem dX4_where_16 : decode cX4_where 16 = .ok (.bipush (-101), 2) := by decide +kernel
theorem dX4_where_18 : decode cX4_where 18 = .ok (.ireturn, 1) := by decide +kernel
theorem dX4_where_19 : decode cX4_where 19 = .ok (.iload_n 3, 1) := by decide +kernel
theorem dX4_where_20 : decode cX4_where 20 = .ok (.ifCond .lt 8, 3) := by decide +kernel
theorem dX4_where_23 : decode cX4_where 23 = .ok (.iload_n 3, 1) := by decide +kernel
theorem dX4_where_24 : decode cX4_where 24 = .ok (.iconst 1, 1) := by decide +kernel
theorem dX4_where_25 : decode cX4_where 25 = .ok (.if_icmp .le 6, 3) := by decide +kernel
theorem dX4_where_28 : decode cX4_where 28 = .ok (.bipush (-102), 2) := by decide +kernel
theorem dX4_where_30 : decode cX4_where 30 = .ok (.ireturn, 1) := by decide +kernel
theorem dX4_where_31 : decode cX4_where 31 = .ok (.aload_n 0, 1) := by decide +kernel
theorem dX4_where_32 : decode cX4_where 32 = .ok (.getfield 19, 3) := by decide +kernel
theorem dX4_where_35 : decode cX4_where 35 = .ok (.iload_n 1, 1) := by decide +kernel
theorem dX4_where_36 : decode cX4_where 36 = .ok (.iload_n 2, 1) := by decide +kernel
theorem dX4_where_37 : decode cX4_where 37 = .ok (.invokevirtual 157, 3) := by decide +kernel
theorem dX4_where_40 : decode cX4_where 40 = .ok (.istore 4, 2) := by decide +kernel
theorem dX4_where_42 : decode cX4_where 42 = .ok (.iload_n 3, 1) := by decide +kernel
theorem dX4_where_43 : decode cX4_where 43 = .ok (.ifCond .ne 8, 3) := by decide +kernel
theorem dX4_where_46 : decode cX4_where 46 = .ok (.iload 4, 2) := by decide +kernel
theorem dX4_where_48 : decode cX4_where 48 = .ok (.goto 14, 3) := by decide +kernel
theorem dX4_where_51 : decode cX4_where 51 = .ok (.aload_n 0, 1) := by decide +kernel
theorem dX4_where_52 : decode cX4_where 52 = .ok (.getfield 19, 3) := by decide +kernel
theorem dX4_where_55 : decode cX4_where 55 = .ok (.iload_n 1, 1) := by decide +kernel
theorem dX4_where_56 : decode cX4_where 56 = .ok (.iload_n 2, 1) := by decide +kernel
theorem dX4_where_57 : decode cX4_where 57 = .ok (.iload 4, 2) := by decide +kernel
theorem dX4_where_59 : decode cX4_where 59 = .ok (.invokevirtual 160, 3) := by decide +kernel
theorem dX4_where_62 : decode cX4_where 62 = .ok (.ireturn, 1) := by decide +kernel
theorem dX4_pack_0 : decode cX4_pack 0 = .ok (.iload_n 1, 1) := by decide +kernel
theorem dX4_pack_1 : decode cX4_pack 1 = .ok (.iconst 1, 1) := by decide +kernel
theorem dX4_pack_2 : decode cX4_pack 2 = .ok (.if_icmp .lt 16, 3) := by decide +kernel
theorem dX4_pack_5 : decode cX4_pack 5 = .ok (.iload_n 1, 1) := by decide +kernel
theorem dX4_pack_6 : decode cX4_pack 6 = .ok (.bipush 20, 2) := by decide +kernel
theorem dX4_pack_8 : decode cX4_pack 8 = .ok (.if_icmp .gt 10, 3) := by decide +kernel
theorem dX4_pack_11 : decode cX4_pack 11 = .ok (.iload_n 2, 1) := by decide +kernel
theorem dX4_pack_12 : decode cX4_pack 12 = .ok (.invokestatic 163, 3) := by decide +kernel
theorem dX4_pack_15 : decode cX4_pack 15 = .ok (.ifCond .ne 6, 3) := by decide +kernel
theorem dX4_pack_18 : decode cX4_pack 18 = .ok (.bipush (-102), 2) := by decide +kernel
theorem dX4_pack_20 : decode cX4_pack 20 = .ok (.ireturn, 1) := by decide +kernel
theorem dX4_pack_21 : decode cX4_pack 21 = .ok (.aload_n 0, 1) := by decide +kernel
theorem dX4_pack_22 : decode cX4_pack 22 = .ok (.invokevirtual 143, 3) := by decide +kernel
theorem dX4_pack_25 : decode cX4_pack 25 = .ok (.ifCond .eq 12, 3) := by decide +kernel
theorem dX4_pack_28 : decode cX4_pack 28 = .ok (.aload_n 0, 1) := by decide +kernel
theorem dX4_pack_29 : decode cX4_pack 29 = .ok (.getfield 54, 3) := by decide +kernel
theorem dX4_pack_32 : decode cX4_pack 32 = .ok (.bipush 20, 2) := by decide +kernel
theorem dX4_pack_34 : decode cX4_pack 34 = .ok (.if_icmp .lt 6, 3) := by decide +kernel
theorem dX4_pack_37 : decode cX4_pack 37 = .ok (.bipush (-103), 2) := by decide +kernel
theorem dX4_pack_39 : decode cX4_pack 39 = .ok (.ireturn, 1) := by decide +kernel
theorem dX4_pack_40 : decode cX4_pack 40 = .ok (.aload_n 0, 1) := by decide +kernel
theorem dX4_pack_41 : decode cX4_pack 41 = .ok (.dup, 1) := by decide +kernel
theorem dX4_pack_42 : decode cX4_pack 42 = .ok (.getfield 54, 3) := by decide +kernel
theorem dX4_pack_45 : decode cX4_pack 45 = .ok (.iconst 1, 1) := by decide +kernel
theorem dX4_pack_46 : decode cX4_pack 46 = .ok (.iadd, 1) := by decide +kernel
theorem dX4_pack_47 : decode cX4_pack 47 = .ok (.putfield 54, 3) := by decide +kernel
theorem dX4_pack_50 : decode cX4_pack 50 = .ok (.aload_n 0, 1) := by decide +kernel
theorem dX4_pack_51 : decode cX4_pack 51 = .ok (.getfield 42, 3) := by decide +kernel
theorem dX4_pack_54 : decode cX4_pack 54 = .ok (.aload_n 0, 1) := by decide +kernel
theorem dX4_pack_55 : decode cX4_pack 55 = .ok (.getfield 19, 3) := by decide +kernel
theorem dX4_pack_58 : decode cX4_pack 58 = .ok (.iload_n 1, 1) := by decide +kernel
theorem dX4_pack_59 : decode cX4_pack 59 = .ok (.invokevirtual 166, 3) := by decide +kernel
theorem dX4_pack_62 : decode cX4_pack 62 = .ok (.iload_n 2, 1) := by decide +kernel
theorem dX4_pack_63 : decode cX4_pack 63 = .ok (.lookupswitch 41 #[(0, 25), (1, 33)], 25) := by decide +kernel
theorem dX4_pack_88 : decode cX4_pack 88 = .ok (.aload_n 0, 1) := by decide +kernel
theorem dX4_pack_89 : decode cX4_pack 89 = .ok (.getfield 42, 3) := by decide +kernel
theorem dX4_pack_92 : decode cX4_pack 92 = .ok (.getfield 170, 3) := by decide +kernel
theorem dX4_pack_95 : decode cX4_pack 95 = .ok (.ireturn, 1) := by decide +kernel
theorem dX4_pack_96 : decode cX4_pack 96 = .ok (.aload_n 0, 1) := by decide +kernel
theorem dX4_pack_97 : decode cX4_pack 97 = .ok (.getfield 42, 3) := by decide +kernel
theorem dX4_pack_100 : decode cX4_pack 100 = .ok (.getfield 173, 3) := by decide +kernel
theorem dX4_pack_103 : decode cX4_pack 103 = .ok (.ireturn, 1) := by decide +kernel
theorem dX4_pack_104 : decode cX4_pack 104 = .ok (.aload_n 0, 1) := by decide +kernel
theorem dX4_pack_105 : decode cX4_pack 105 = .ok (.getfield 42, 3) := by decide +kernel
theorem dX4_pack_108 : decode cX4_pack 108 = .ok (.getfield 176, 3) := by decide +kernel
theorem dX4_pack_111 : decode cX4_pack 111 = .ok (.iload_n 2, 1) := by decide +kernel
theorem dX4_pack_112 : decode cX4_pack 112 = .ok (.bipush 10, 2) := by decide +kernel
theorem dX4_pack_114 : decode cX4_pack 114 = .ok (.isub, 1) := by decide +kernel
theorem dX4_pack_115 : decode cX4_pack 115 = .ok (.iaload, 1) := by decide +kernel
theorem dX4_pack_116 : decode cX4_pack 116 = .ok (.ireturn, 1) := by decide +kernel
theorem dX4_mend_0 : decode cX4_mend 0 = .ok (.aload_n 0, 1) := by decide +kernel
theorem dX4_mend_1 : decode cX4_mend 1 = .ok (.invokevirtual 143, 3) := by decide +kernel
theorem dX4_mend_4 : decode cX4_mend 4 = .ok (.ifCond .eq 13, 3) := by decide +kernel
theorem dX4_mend_7 : decode cX4_mend 7 = .ok (.aload_n 0, 1) := by decide +kernel
theorem dX4_mend_8 : decode cX4_mend 8 = .ok (.getfield 19, 3) := by decide +kernel
theorem dX4_mend_11 : decode cX4_mend 11 = .ok (.invokevirtual 179, 3) := by decide +kernel
theorem dX4_mend_14 : decode cX4_mend 14 = .ok (.goto 5, 3) := by decide +kernel
theorem dX4_mend_17 : decode cX4_mend 17 = .ok (.bipush (-103), 2) := by decide +kernel
theorem dX4_mend_19 : decode cX4_mend 19 = .ok (.ireturn, 1) := by decide +kernel
theorem dX4_odds_0 : decode cX4_odds 0 = .ok (.iload_n 1, 1) := by decide +kernel
theorem dX4_odds_1 : decode cX4_odds 1 = .ok (.iconst 1, 1) := by decide +kernel
theorem dX4_odds_2 : decode cX4_odds 2 = .ok (.if_icmp .lt 17, 3) := by decide +kernel
theorem dX4_odds_5 : decode cX4_odds 5 = .ok (.iload_n 1, 1) := by decide +kernel
theorem dX4_odds_6 : decode cX4_odds 6 = .ok (.iconst 4, 1) := by decide +kernel
theorem dX4_odds_7 : decode cX4_odds 7 = .ok (.if_icmp .gt 12, 3) := by decide +kernel
theorem dX4_odds_10 : decode cX4_odds 10 = .ok (.iload_n 2, 1) := by decide +kernel
theorem dX4_odds_11 : decode cX4_odds 11 = .ok (.ifCond .lt 8, 3) := by decide +kernel
theorem dX4_odds_14 : decode cX4_odds 14 = .ok (.iload_n 2, 1) := by decide +kernel
theorem dX4_odds_15 : decode cX4_odds 15 = .ok (.iconst 1, 1) := by decide +kernel
theorem dX4_odds_16 : decode cX4_odds 16 = .ok (.if_icmp .le 6, 3) := by decide +kernel
theorem dX4_odds_19 : decode cX4_odds 19 = .ok (.bipush (-102), 2) := by decide +kernel
theorem dX4_odds_21 : decode cX4_odds 21 = .ok (.ireturn, 1) := by decide +kernel
theorem dX4_odds_22 : decode cX4_odds 22 = .ok (.aload_n 0, 1) := by decide +kernel
theorem dX4_odds_23 : decode cX4_odds 23 = .ok (.invokevirtual 143, 3) := by decide +kernel
theorem dX4_odds_26 : decode cX4_odds 26 = .ok (.ifCond .ne 6, 3) := by decide +kernel
theorem dX4_odds_29 : decode cX4_odds 29 = .ok (.bipush (-103), 2) := by decide +kernel
theorem dX4_odds_31 : decode cX4_odds 31 = .ok (.ireturn, 1) := by decide +kernel
theorem dX4_odds_32 : decode cX4_odds 32 = .ok (.aload_n 0, 1) := by decide +kernel
theorem dX4_odds_33 : decode cX4_odds 33 = .ok (.getfield 19, 3) := by decide +kernel
theorem dX4_odds_36 : decode cX4_odds 36 = .ok (.invokevirtual 182, 3) := by decide +kernel
theorem dX4_odds_39 : decode cX4_odds 39 = .ok (.istore_n 3, 1) := by decide +kernel
theorem dX4_odds_40 : decode cX4_odds 40 = .ok (.iload_n 2, 1) := by decide +kernel
theorem dX4_odds_41 : decode cX4_odds 41 = .ok (.ifCond .ne 12, 3) := by decide +kernel
theorem dX4_odds_44 : decode cX4_odds 44 = .ok (.iload_n 3, 1) := by decide +kernel
theorem dX4_odds_45 : decode cX4_odds 45 = .ok (.bipush 20, 2) := by decide +kernel
theorem dX4_odds_47 : decode cX4_odds 47 = .ok (.invokestatic 185, 3) := by decide +kernel
theorem dX4_odds_50 : decode cX4_odds 50 = .ok (.goto 9, 3) := by decide +kernel
theorem dX4_odds_53 : decode cX4_odds 53 = .ok (.bipush 20, 2) := by decide +kernel
theorem dX4_odds_55 : decode cX4_odds 55 = .ok (.iload_n 3, 1) := by decide +kernel
theorem dX4_odds_56 : decode cX4_odds 56 = .ok (.invokestatic 185, 3) := by decide +kernel
theorem dX4_odds_59 : decode cX4_odds 59 = .ok (.istore 4, 2) := by decide +kernel
theorem dX4_odds_61 : decode cX4_odds 61 = .ok (.iconst 1, 1) := by decide +kernel
theorem dX4_odds_62 : decode cX4_odds 62 = .ok (.istore 5, 2) := by decide +kernel
theorem dX4_odds_64 : decode cX4_odds 64 = .ok (.iconst 0, 1) := by decide +kernel
theorem dX4_odds_65 : decode cX4_odds 65 = .ok (.istore 6, 2) := by decide +kernel
theorem dX4_odds_67 : decode cX4_odds 67 = .ok (.iload 6, 2) := by decide +kernel
theorem dX4_odds_69 : decode cX4_odds 69 = .ok (.iload_n 1, 1) := by decide +kernel
theorem dX4_odds_70 : decode cX4_odds 70 = .ok (.if_icmp .ge 16, 3) := by decide +kernel
theorem dX4_odds_73 : decode cX4_odds 73 = .ok (.iload 5, 2) := by decide +kernel
theorem dX4_odds_75 : decode cX4_odds 75 = .ok (.iload 4, 2) := by decide +kernel
theorem dX4_odds_77 : decode cX4_odds 77 = .ok (.imul, 1) := by decide +kernel
theorem dX4_odds_78 : decode cX4_odds 78 = .ok (.istore 5, 2) := by decide +kernel
theorem dX4_odds_80 : decode cX4_odds 80 = .ok (.iinc 6 1, 3) := by decide +kernel
theorem dX4_odds_83 : decode cX4_odds 83 = .ok (.goto (-16), 3) := by decide +kernel
theorem dX4_odds_86 : decode cX4_odds 86 = .ok (.iload 5, 2) := by decide +kernel
theorem dX4_odds_88 : decode cX4_odds 88 = .ok (.ireturn, 1) := by decide +kernel
theorem dX4_see_0 : decode cX4_see 0 = .ok (.aload_n 0, 1) := by decide +kernel
theorem dX4_see_1 : decode cX4_see 1 = .ok (.iload_n 1, 1) := by decide +kernel
theorem dX4_see_2 : decode cX4_see 2 = .ok (.invokevirtual 80, 3) := by decide +kernel
theorem dX4_see_5 : decode cX4_see 5 = .ok (.ifCond .ne 6, 3) := by decide +kernel
theorem dX4_see_8 : decode cX4_see 8 = .ok (.bipush (-101), 2) := by decide +kernel
theorem dX4_see_10 : decode cX4_see 10 = .ok (.ireturn, 1) := by decide +kernel
theorem dX4_see_11 : decode cX4_see 11 = .ok (.iload_n 2, 1) := by decide +kernel
theorem dX4_see_12 : decode cX4_see 12 = .ok (.iload_n 3, 1) := by decide +kernel
theorem dX4_see_13 : decode cX4_see 13 = .ok (.invokestatic 137, 3) := by decide +kernel
theorem dX4_see_16 : decode cX4_see 16 = .ok (.ifCond .ne 6, 3) := by decide +kernel
theorem dX4_see_19 : decode cX4_see 19 = .ok (.bipush (-102), 2) := by decide +kernel
theorem dX4_see_21 : decode cX4_see 21 = .ok (.ireturn, 1) := by decide +kernel
theorem dX4_see_22 : decode cX4_see 22 = .ok (.aload_n 0, 1) := by decide +kernel
theorem dX4_see_23 : decode cX4_see 23 = .ok (.getfield 26, 3) := by decide +kernel
theorem dX4_see_26 : decode cX4_see 26 = .ok (.getfield 76, 3) := by decide +kernel
theorem dX4_see_29 : decode cX4_see 29 = .ok (.bipush 8, 2) := by decide +kernel
theorem dX4_see_31 : decode cX4_see 31 = .ok (.if_icmp .lt 6, 3) := by decide +kernel
theorem dX4_see_34 : decode cX4_see 34 = .ok (.bipush (-104), 2) := by decide +kernel
theorem dX4_see_36 : decode cX4_see 36 = .ok (.ireturn, 1) := by decide +kernel
theorem dX4_see_37 : decode cX4_see 37 = .ok (.aload_n 0, 1) := by decide +kernel
theorem dX4_see_38 : decode cX4_see 38 = .ok (.getfield 26, 3) := by decide +kernel
theorem dX4_see_41 : decode cX4_see 41 = .ok (.iload_n 1, 1) := by decide +kernel
theorem dX4_see_42 : decode cX4_see 42 = .ok (.iload_n 2, 1) := by decide +kernel
theorem dX4_see_43 : decode cX4_see 43 = .ok (.iload_n 3, 1) := by decide +kernel
theorem dX4_see_44 : decode cX4_see 44 = .ok (.iload 4, 2) := by decide +kernel
theorem dX4_see_46 : decode cX4_see 46 = .ok (.invokevirtual 188, 3) := by decide +kernel
theorem dX4_see_49 : decode cX4_see 49 = .ok (.aload_n 0, 1) := by decide +kernel
theorem dX4_see_50 : decode cX4_see 50 = .ok (.getfield 26, 3) := by decide +kernel
theorem dX4_see_53 : decode cX4_see 53 = .ok (.getfield 76, 3) := by decide +kernel
theorem dX4_see_56 : decode cX4_see 56 = .ok (.ireturn, 1) := by decide +kernel
theorem dX4_forget_0 : decode cX4_forget 0 = .ok (.aload_n 0, 1) := by decide +kernel
theorem dX4_forget_1 : decode cX4_forget 1 = .ok (.getfield 26, 3) := by decide +kernel
theorem dX4_forget_4 : decode cX4_forget 4 = .ok (.getfield 76, 3) := by decide +kernel
theorem dX4_forget_7 : decode cX4_forget 7 = .ok (.istore_n 1, 1) := by decide +kernel
theorem dX4_forget_8 : decode cX4_forget 8 = .ok (.aload_n 0, 1) := by decide +kernel
theorem dX4_forget_9 : decode cX4_forget 9 = .ok (.getfield 26, 3) := by decide +kernel
theorem dX4_forget_12 : decode cX4_forget 12 = .ok (.iconst 0, 1) := by decide +kernel
theorem dX4_forget_13 : decode cX4_forget 13 = .ok (.putfield 76, 3) := by decide +kernel
theorem dX4_forget_16 : decode cX4_forget 16 = .ok (.iload_n 1, 1) := by decide +kernel
theorem dX4_forget_17 : decode cX4_forget 17 = .ok (.ireturn, 1) := by decide +kernel
theorem dX4_decades_0 : decode cX4_decades 0 = .ok (.iload_n 1, 1) := by decide +kernel
theorem dX4_decades_1 : decode cX4_decades 1 = .ok (.iconst 1, 1) := by decide +kernel
theorem dX4_decades_2 : decode cX4_decades 2 = .ok (.if_icmp .lt 22, 3) := by decide +kernel
theorem dX4_decades_5 : decode cX4_decades 5 = .ok (.iload_n 1, 1) := by decide +kernel
theorem dX4_decades_6 : decode cX4_decades 6 = .ok (.bipush 60, 2) := by decide +kernel
theorem dX4_decades_8 : decode cX4_decades 8 = .ok (.if_icmp .gt 16, 3) := by decide +kernel
theorem dX4_decades_11 : decode cX4_decades 11 = .ok (.iload_n 2, 1) := by decide +kernel
theorem dX4_decades_12 : decode cX4_decades 12 = .ok (.ifCond .lt 12, 3) := by decide +kernel
theorem dX4_decades_15 : decode cX4_decades 15 = .ok (.iload_n 3, 1) := by decide +kernel
theorem dX4_decades_16 : decode cX4_decades 16 = .ok (.ifCond .lt 8, 3) := by decide +kernel
theorem dX4_decades_19 : decode cX4_decades 19 = .ok (.iload_n 3, 1) := by decide +kernel
theorem dX4_decades_20 : decode cX4_decades 20 = .ok (.iconst 2, 1) := by decide +kernel
theorem dX4_decades_21 : decode cX4_decades 21 = .ok (.if_icmp .le 6, 3) := by decide +kernel
theorem dX4_decades_24 : decode cX4_decades 24 = .ok (.bipush (-102), 2) := by decide +kernel
theorem dX4_decades_26 : decode cX4_decades 26 = .ok (.ireturn, 1) := by decide +kernel
theorem dX4_decades_27 : decode cX4_decades 27 = .ok (.aload_n 0, 1) := by decide +kernel
theorem dX4_decades_28 : decode cX4_decades 28 = .ok (.invokevirtual 143, 3) := by decide +kernel
theorem dX4_decades_31 : decode cX4_decades 31 = .ok (.ifCond .ne 6, 3) := by decide +kernel
theorem dX4_decades_34 : decode cX4_decades 34 = .ok (.bipush (-103), 2) := by decide +kernel
theorem dX4_decades_36 : decode cX4_decades 36 = .ok (.ireturn, 1) := by decide +kernel
theorem dX4_decades_37 : decode cX4_decades 37 = .ok (.aload_n 0, 1) := by decide +kernel
theorem dX4_decades_38 : decode cX4_decades 38 = .ok (.getfield 36, 3) := by decide +kernel
theorem dX4_decades_41 : decode cX4_decades 41 = .ok (.aload_n 0, 1) := by decide +kernel
theorem dX4_decades_42 : decode cX4_decades 42 = .ok (.getfield 19, 3) := by decide +kernel
theorem dX4_decades_45 : decode cX4_decades 45 = .ok (.invokevirtual 191, 3) := by decide +kernel
theorem dX4_decades_48 : decode cX4_decades 48 = .ok (.iconst 0, 1) := by decide +kernel
theorem dX4_decades_49 : decode cX4_decades 49 = .ok (.istore 4, 2) := by decide +kernel
theorem dX4_decades_51 : decode cX4_decades 51 = .ok (.iload_n 2, 1) := by decide +kernel
theorem dX4_decades_52 : decode cX4_decades 52 = .ok (.istore 5, 2) := by decide +kernel
theorem dX4_decades_54 : decode cX4_decades 54 = .ok (.iconst 0, 1) := by decide +kernel
theorem dX4_decades_55 : decode cX4_decades 55 = .ok (.istore 6, 2) := by decide +kernel
theorem dX4_decades_57 : decode cX4_decades 57 = .ok (.iload 6, 2) := by decide +kernel
theorem dX4_decades_59 : decode cX4_decades 59 = .ok (.iload_n 1, 1) := by decide +kernel
theorem dX4_decades_60 : decode cX4_decades 60 = .ok (.if_icmp .ge 52, 3) := by decide +kernel
theorem dX4_decades_63 : decode cX4_decades 63 = .ok (.iload 5, 2) := by decide +kernel
theorem dX4_decades_65 : decode cX4_decades 65 = .ok (.invokestatic 194, 3) := by decide +kernel
theorem dX4_decades_68 : decode cX4_decades 68 = .ok (.istore 5, 2) := by decide +kernel
theorem dX4_decades_70 : decode cX4_decades 70 = .ok (.iload 5, 2) := by decide +kernel
theorem dX4_decades_72 : decode cX4_decades 72 = .ok (.iconst 2, 1) := by decide +kernel
theorem dX4_decades_73 : decode cX4_decades 73 = .ok (.invokestatic 197, 3) := by decide +kernel
theorem dX4_decades_76 : decode cX4_decades 76 = .ok (.istore 7, 2) := by decide +kernel
theorem dX4_decades_78 : decode cX4_decades 78 = .ok (.iload 5, 2) := by decide +kernel
theorem dX4_decades_80 : decode cX4_decades 80 = .ok (.invokestatic 194, 3) := by decide +kernel
theorem dX4_decades_83 : decode cX4_decades 83 = .ok (.istore 5, 2) := by decide +kernel
theorem dX4_decades_85 : decode cX4_decades 85 = .ok (.iload 4, 2) := by decide +kernel
theorem dX4_decades_87 : decode cX4_decades 87 = .ok (.aload_n 0, 1) := by decide +kernel
theorem dX4_decades_88 : decode cX4_decades 88 = .ok (.getfield 36, 3) := by decide +kernel
theorem dX4_decades_91 : decode cX4_decades 91 = .ok (.iload 7, 2) := by decide +kernel
theorem dX4_decades_93 : decode cX4_decades 93 = .ok (.iload 5, 2) := by decide +kernel
theorem dX4_decades_95 : decode cX4_decades 95 = .ok (.bipush 10, 2) := by decide +kernel
theorem dX4_decades_97 : decode cX4_decades 97 = .ok (.invokestatic 197, 3) := by decide +kernel
theorem dX4_decades_100 : decode cX4_decades 100 = .ok (.invokevirtual 149, 3) := by decide +kernel
theorem dX4_decades_103 : decode cX4_decades 103 = .ok (.iadd, 1) := by decide +kernel
theorem dX4_decades_104 : decode cX4_decades 104 = .ok (.istore 4, 2) := by decide +kernel
theorem dX4_decades_106 : decode cX4_decades 106 = .ok (.iinc 6 1, 3) := by decide +kernel
theorem dX4_decades_109 : decode cX4_decades 109 = .ok (.goto (-52), 3) := by decide +kernel
theorem dX4_decades_112 : decode cX4_decades 112 = .ok (.iload_n 3, 1) := by decide +kernel
theorem dX4_decades_113 : decode cX4_decades 113 = .ok (.lookupswitch 38 #[(0, 27), (1, 30)], 27) := by decide +kernel
end
section
theorem dX4_decades_140 : decode cX4_decades 140 = .ok (.iload 4, 2) := by decide +kernel
theorem dX4_decades_142 : decode cX4_decades 142 = .ok (.ireturn, 1) := by decide +kernel
theorem dX4_decades_143 : decode cX4_decades 143 = .ok (.aload_n 0, 1) := by decide +kernel
theorem dX4_decades_144 : decode cX4_decades 144 = .ok (.getfield 36, 3) := by decide +kernel
theorem dX4_decades_147 : decode cX4_decades 147 = .ok (.invokevirtual 200, 3) := by decide +kernel
theorem dX4_decades_150 : decode cX4_decades 150 = .ok (.ireturn, 1) := by decide +kernel
theorem dX4_decades_151 : decode cX4_decades 151 = .ok (.iload 5, 2) := by decide +kernel
theorem dX4_decades_153 : decode cX4_decades 153 = .ok (.ireturn, 1) := by decide +kernel
theorem dX4_image_0 : decode cX4_image 0 = .ok (.aload_n 0, 1) := by decide +kernel
theorem dX4_image_1 : decode cX4_image 1 = .ok (.invokevirtual 143, 3) := by decide +kernel
theorem dX4_image_4 : decode cX4_image 4 = .ok (.ifCond .ne 6, 3) := by decide +kernel
theorem dX4_image_7 : decode cX4_image 7 = .ok (.bipush (-103), 2) := by decide +kernel
theorem dX4_image_9 : decode cX4_image 9 = .ok (.ireturn, 1) := by decide +kernel
theorem dX4_image_10 : decode cX4_image 10 = .ok (.aload_n 0, 1) := by decide +kernel
theorem dX4_image_11 : decode cX4_image 11 = .ok (.getfield 30, 3) := by decide +kernel
theorem dX4_image_14 : decode cX4_image 14 = .ok (.aload_n 0, 1) := by decide +kernel
theorem dX4_image_15 : decode cX4_image 15 = .ok (.getfield 19, 3) := by decide +kernel
theorem dX4_image_18 : decode cX4_image 18 = .ok (.invokevirtual 191, 3) := by decide +kernel
theorem dX4_image_21 : decode cX4_image 21 = .ok (.aload_n 0, 1) := by decide +kernel
theorem dX4_image_22 : decode cX4_image 22 = .ok (.getfield 33, 3) := by decide +kernel
theorem dX4_image_25 : decode cX4_image 25 = .ok (.aload_n 0, 1) := by decide +kernel
theorem dX4_image_26 : decode cX4_image 26 = .ok (.getfield 26, 3) := by decide +kernel
theorem dX4_image_29 : decode cX4_image 29 = .ok (.invokevirtual 203, 3) := by decide +kernel
theorem dX4_image_32 : decode cX4_image 32 = .ok (.aload_n 0, 1) := by decide +kernel
theorem dX4_image_33 : decode cX4_image 33 = .ok (.iconst 1, 1) := by decide +kernel
theorem dX4_image_34 : decode cX4_image 34 = .ok (.putfield 46, 3) := by decide +kernel
theorem dX4_image_37 : decode cX4_image 37 = .ok (.aload_n 0, 1) := by decide +kernel
theorem dX4_image_38 : decode cX4_image 38 = .ok (.getfield 19, 3) := by decide +kernel
theorem dX4_image_41 : decode cX4_image 41 = .ok (.getfield 146, 3) := by decide +kernel
theorem dX4_image_44 : decode cX4_image 44 = .ok (.ireturn, 1) := by decide +kernel
theorem dX4_restore_0 : decode cX4_restore 0 = .ok (.aload_n 0, 1) := by decide +kernel
theorem dX4_restore_1 : decode cX4_restore 1 = .ok (.getfield 46, 3) := by decide +kernel
theorem dX4_restore_4 : decode cX4_restore 4 = .ok (.ifCond .ne 6, 3) := by decide +kernel
theorem dX4_restore_7 : decode cX4_restore 7 = .ok (.bipush (-103), 2) := by decide +kernel
theorem dX4_restore_9 : decode cX4_restore 9 = .ok (.ireturn, 1) := by decide +kernel
theorem dX4_restore_10 : decode cX4_restore 10 = .ok (.aload_n 0, 1) := by decide +kernel
theorem dX4_restore_11 : decode cX4_restore 11 = .ok (.getfield 19, 3) := by decide +kernel
theorem dX4_restore_14 : decode cX4_restore 14 = .ok (.aload_n 0, 1) := by decide +kernel
theorem dX4_restore_15 : decode cX4_restore 15 = .ok (.getfield 30, 3) := by decide +kernel
theorem dX4_restore_18 : decode cX4_restore 18 = .ok (.invokevirtual 191, 3) := by decide +kernel
theorem dX4_restore_21 : decode cX4_restore 21 = .ok (.aload_n 0, 1) := by decide +kernel
theorem dX4_restore_22 : decode cX4_restore 22 = .ok (.getfield 26, 3) := by decide +kernel
theorem dX4_restore_25 : decode cX4_restore 25 = .ok (.aload_n 0, 1) := by decide +kernel
theorem dX4_restore_26 : decode cX4_restore 26 = .ok (.getfield 33, 3) := by decide +kernel
theorem dX4_restore_29 : decode cX4_restore 29 = .ok (.invokevirtual 203, 3) := by decide +kernel
theorem dX4_restore_32 : decode cX4_restore 32 = .ok (.aload_n 0, 1) := by decide +kernel
theorem dX4_restore_33 : decode cX4_restore 33 = .ok (.getfield 19, 3) := by decide +kernel
theorem dX4_restore_36 : decode cX4_restore 36 = .ok (.getfield 146, 3) := by decide +kernel
theorem dX4_restore_39 : decode cX4_restore 39 = .ok (.ireturn, 1) := by decide +kernel
theorem dX4_count_0 : decode cX4_count 0 = .ok (.iload_n 1, 1) := by decide +kernel
theorem dX4_count_1 : decode cX4_count 1 = .ok (.tableswitch 164 0 11 #[63, 71, 79, 87, 95, 114, 122, 130, 138, 146, 154, 159], 63) := by decide +kernel
theorem dX4_count_64 : decode cX4_count 64 = .ok (.aload_n 0, 1) := by decide +kernel
theorem dX4_count_65 : decode cX4_count 65 = .ok (.getfield 19, 3) := by decide +kernel
theorem dX4_count_68 : decode cX4_count 68 = .ok (.getfield 77, 3) := by decide +kernel
theorem dX4_count_71 : decode cX4_count 71 = .ok (.ireturn, 1) := by decide +kernel
theorem dX4_count_72 : decode cX4_count 72 = .ok (.aload_n 0, 1) := by decide +kernel
theorem dX4_count_73 : decode cX4_count 73 = .ok (.getfield 19, 3) := by decide +kernel
theorem dX4_count_76 : decode cX4_count 76 = .ok (.getfield 206, 3) := by decide +kernel
theorem dX4_count_79 : decode cX4_count 79 = .ok (.ireturn, 1) := by decide +kernel
theorem dX4_count_80 : decode cX4_count 80 = .ok (.aload_n 0, 1) := by decide +kernel
theorem dX4_count_81 : decode cX4_count 81 = .ok (.getfield 19, 3) := by decide +kernel
theorem dX4_count_84 : decode cX4_count 84 = .ok (.invokevirtual 200, 3) := by decide +kernel
theorem dX4_count_87 : decode cX4_count 87 = .ok (.ireturn, 1) := by decide +kernel
theorem dX4_count_88 : decode cX4_count 88 = .ok (.aload_n 0, 1) := by decide +kernel
theorem dX4_count_89 : decode cX4_count 89 = .ok (.getfield 19, 3) := by decide +kernel
theorem dX4_count_92 : decode cX4_count 92 = .ok (.invokevirtual 209, 3) := by decide +kernel
theorem dX4_count_95 : decode cX4_count 95 = .ok (.ireturn, 1) := by decide +kernel
theorem dX4_count_96 : decode cX4_count 96 = .ok (.aload_n 0, 1) := by decide +kernel
theorem dX4_count_97 : decode cX4_count 97 = .ok (.invokevirtual 143, 3) := by decide +kernel
theorem dX4_count_100 : decode cX4_count 100 = .ok (.ifCond .eq 13, 3) := by decide +kernel
theorem dX4_count_103 : decode cX4_count 103 = .ok (.aload_n 0, 1) := by decide +kernel
theorem dX4_count_104 : decode cX4_count 104 = .ok (.getfield 19, 3) := by decide +kernel
theorem dX4_count_107 : decode cX4_count 107 = .ok (.invokevirtual 212, 3) := by decide +kernel
theorem dX4_count_110 : decode cX4_count 110 = .ok (.goto 4, 3) := by decide +kernel
theorem dX4_count_113 : decode cX4_count 113 = .ok (.iconst 0, 1) := by decide +kernel
theorem dX4_count_114 : decode cX4_count 114 = .ok (.ireturn, 1) := by decide +kernel
theorem dX4_count_115 : decode cX4_count 115 = .ok (.aload_n 0, 1) := by decide +kernel
theorem dX4_count_116 : decode cX4_count 116 = .ok (.getfield 19, 3) := by decide +kernel
theorem dX4_count_119 : decode cX4_count 119 = .ok (.getfield 146, 3) := by decide +kernel
theorem dX4_count_122 : decode cX4_count 122 = .ok (.ireturn, 1) := by decide +kernel
theorem dX4_count_123 : decode cX4_count 123 = .ok (.aload_n 0, 1) := by decide +kernel
theorem dX4_count_124 : decode cX4_count 124 = .ok (.getfield 19, 3) := by decide +kernel
theorem dX4_count_127 : decode cX4_count 127 = .ok (.getfield 215, 3) := by decide +kernel
theorem dX4_count_130 : decode cX4_count 130 = .ok (.ireturn, 1) := by decide +kernel
theorem dX4_count_131 : decode cX4_count 131 = .ok (.aload_n 0, 1) := by decide +kernel
theorem dX4_count_132 : decode cX4_count 132 = .ok (.getfield 19, 3) := by decide +kernel
theorem dX4_count_135 : decode cX4_count 135 = .ok (.getfield 218, 3) := by decide +kernel
theorem dX4_count_138 : decode cX4_count 138 = .ok (.ireturn, 1) := by decide +kernel
theorem dX4_count_139 : decode cX4_count 139 = .ok (.aload_n 0, 1) := by decide +kernel
theorem dX4_count_140 : decode cX4_count 140 = .ok (.getfield 26, 3) := by decide +kernel
theorem dX4_count_143 : decode cX4_count 143 = .ok (.getfield 76, 3) := by decide +kernel
theorem dX4_count_146 : decode cX4_count 146 = .ok (.ireturn, 1) := by decide +kernel
theorem dX4_count_147 : decode cX4_count 147 = .ok (.aload_n 0, 1) := by decide +kernel
theorem dX4_count_148 : decode cX4_count 148 = .ok (.getfield 12, 3) := by decide +kernel
theorem dX4_count_151 : decode cX4_count 151 = .ok (.getfield 57, 3) := by decide +kernel
theorem dX4_count_154 : decode cX4_count 154 = .ok (.ireturn, 1) := by decide +kernel
theorem dX4_count_155 : decode cX4_count 155 = .ok (.aload_n 0, 1) := by decide +kernel
theorem dX4_count_156 : decode cX4_count 156 = .ok (.getfield 50, 3) := by decide +kernel
theorem dX4_count_159 : decode cX4_count 159 = .ok (.ireturn, 1) := by decide +kernel
theorem dX4_count_160 : decode cX4_count 160 = .ok (.aload_n 0, 1) := by decide +kernel
theorem dX4_count_161 : decode cX4_count 161 = .ok (.getfield 54, 3) := by decide +kernel
theorem dX4_count_164 : decode cX4_count 164 = .ok (.ireturn, 1) := by decide +kernel
theorem dX4_count_165 : decode cX4_count 165 = .ok (.bipush (-102), 2) := by decide +kernel
theorem dX4_count_167 : decode cX4_count 167 = .ok (.ireturn, 1) := by decide +kernel
theorem dX4_digest_0 : decode cX4_digest 0 = .ok (.ldc2_w 221, 3) := by decide +kernel
theorem dX4_digest_3 : decode cX4_digest 3 = .ok (.lstore_n 1, 1) := by decide +kernel
theorem dX4_digest_4 : decode cX4_digest 4 = .ok (.iconst 0, 1) := by decide +kernel
theorem dX4_digest_5 : decode cX4_digest 5 = .ok (.istore_n 3, 1) := by decide +kernel
theorem dX4_digest_6 : decode cX4_digest 6 = .ok (.iload_n 3, 1) := by decide +kernel
theorem dX4_digest_7 : decode cX4_digest 7 = .ok (.aload_n 0, 1) := by decide +kernel
theorem dX4_digest_8 : decode cX4_digest 8 = .ok (.getfield 19, 3) := by decide +kernel
theorem dX4_digest_11 : decode cX4_digest 11 = .ok (.getfield 206, 3) := by decide +kernel
theorem dX4_digest_14 : decode cX4_digest 14 = .ok (.if_icmp .ge 38, 3) := by decide +kernel
theorem dX4_digest_17 : decode cX4_digest 17 = .ok (.iconst 0, 1) := by decide +kernel
theorem dX4_digest_18 : decode cX4_digest 18 = .ok (.istore 4, 2) := by decide +kernel
theorem dX4_digest_20 : decode cX4_digest 20 = .ok (.iload 4, 2) := by decide +kernel
theorem dX4_digest_22 : decode cX4_digest 22 = .ok (.bipush 7, 2) := by decide +kernel
theorem dX4_digest_24 : decode cX4_digest 24 = .ok (.if_icmp .gt 22, 3) := by decide +kernel
theorem dX4_digest_27 : decode cX4_digest 27 = .ok (.lload_n 1, 1) := by decide +kernel
theorem dX4_digest_28 : decode cX4_digest 28 = .ok (.aload_n 0, 1) := by decide +kernel
theorem dX4_digest_29 : decode cX4_digest 29 = .ok (.iload_n 3, 1) := by decide +kernel
theorem dX4_digest_30 : decode cX4_digest 30 = .ok (.iload 4, 2) := by decide +kernel
theorem dX4_digest_32 : decode cX4_digest 32 = .ok (.invokevirtual 223, 3) := by decide +kernel
theorem dX4_digest_35 : decode cX4_digest 35 = .ok (.i2l, 1) := by decide +kernel
theorem dX4_digest_36 : decode cX4_digest 36 = .ok (.invokestatic 226, 3) := by decide +kernel
theorem dX4_digest_39 : decode cX4_digest 39 = .ok (.lstore_n 1, 1) := by decide +kernel
theorem dX4_digest_40 : decode cX4_digest 40 = .ok (.iinc 4 1, 3) := by decide +kernel
theorem dX4_digest_43 : decode cX4_digest 43 = .ok (.goto (-23), 3) := by decide +kernel
theorem dX4_digest_46 : decode cX4_digest 46 = .ok (.iinc 3 1, 3) := by decide +kernel
theorem dX4_digest_49 : decode cX4_digest 49 = .ok (.goto (-43), 3) := by decide +kernel
theorem dX4_digest_52 : decode cX4_digest 52 = .ok (.iconst 0, 1) := by decide +kernel
theorem dX4_digest_53 : decode cX4_digest 53 = .ok (.istore_n 3, 1) := by decide +kernel
theorem dX4_digest_54 : decode cX4_digest 54 = .ok (.iload_n 3, 1) := by decide +kernel
theorem dX4_digest_55 : decode cX4_digest 55 = .ok (.aload_n 0, 1) := by decide +kernel
theorem dX4_digest_56 : decode cX4_digest 56 = .ok (.getfield 19, 3) := by decide +kernel
theorem dX4_digest_59 : decode cX4_digest 59 = .ok (.getfield 77, 3) := by decide +kernel
theorem dX4_digest_62 : decode cX4_digest 62 = .ok (.if_icmp .ge 87, 3) := by decide +kernel
theorem dX4_digest_65 : decode cX4_digest 65 = .ok (.iconst 0, 1) := by decide +kernel
theorem dX4_digest_66 : decode cX4_digest 66 = .ok (.istore 4, 2) := by decide +kernel
theorem dX4_digest_68 : decode cX4_digest 68 = .ok (.iload 4, 2) := by decide +kernel
theorem dX4_digest_70 : decode cX4_digest 70 = .ok (.bipush 7, 2) := by decide +kernel
theorem dX4_digest_72 : decode cX4_digest 72 = .ok (.if_icmp .gt 22, 3) := by decide +kernel
theorem dX4_digest_75 : decode cX4_digest 75 = .ok (.lload_n 1, 1) := by decide +kernel
theorem dX4_digest_76 : decode cX4_digest 76 = .ok (.aload_n 0, 1) := by decide +kernel
theorem dX4_digest_77 : decode cX4_digest 77 = .ok (.iload_n 3, 1) := by decide +kernel
theorem dX4_digest_78 : decode cX4_digest 78 = .ok (.iload 4, 2) := by decide +kernel
theorem dX4_digest_80 : decode cX4_digest 80 = .ok (.invokevirtual 230, 3) := by decide +kernel
theorem dX4_digest_83 : decode cX4_digest 83 = .ok (.i2l, 1) := by decide +kernel
theorem dX4_digest_84 : decode cX4_digest 84 = .ok (.invokestatic 226, 3) := by decide +kernel
theorem dX4_digest_87 : decode cX4_digest 87 = .ok (.lstore_n 1, 1) := by decide +kernel
theorem dX4_digest_88 : decode cX4_digest 88 = .ok (.iinc 4 1, 3) := by decide +kernel
theorem dX4_digest_91 : decode cX4_digest 91 = .ok (.goto (-23), 3) := by decide +kernel
theorem dX4_digest_94 : decode cX4_digest 94 = .ok (.iconst 0, 1) := by decide +kernel
theorem dX4_digest_95 : decode cX4_digest 95 = .ok (.istore 4, 2) := by decide +kernel
theorem dX4_digest_97 : decode cX4_digest 97 = .ok (.iload 4, 2) := by decide +kernel
theorem dX4_digest_99 : decode cX4_digest 99 = .ok (.aload_n 0, 1) := by decide +kernel
theorem dX4_digest_100 : decode cX4_digest 100 = .ok (.getfield 19, 3) := by decide +kernel
theorem dX4_digest_103 : decode cX4_digest 103 = .ok (.getfield 206, 3) := by decide +kernel
theorem dX4_digest_106 : decode cX4_digest 106 = .ok (.if_icmp .ge 37, 3) := by decide +kernel
theorem dX4_digest_109 : decode cX4_digest 109 = .ok (.lload_n 1, 1) := by decide +kernel
theorem dX4_digest_110 : decode cX4_digest 110 = .ok (.aload_n 0, 1) := by decide +kernel
theorem dX4_digest_111 : decode cX4_digest 111 = .ok (.iload 4, 2) := by decide +kernel
theorem dX4_digest_113 : decode cX4_digest 113 = .ok (.iload_n 3, 1) := by decide +kernel
theorem dX4_digest_114 : decode cX4_digest 114 = .ok (.iconst 0, 1) := by decide +kernel
theorem dX4_digest_115 : decode cX4_digest 115 = .ok (.invokevirtual 233, 3) := by decide +kernel
theorem dX4_digest_118 : decode cX4_digest 118 = .ok (.i2l, 1) := by decide +kernel
theorem dX4_digest_119 : decode cX4_digest 119 = .ok (.invokestatic 226, 3) := by decide +kernel
theorem dX4_digest_122 : decode cX4_digest 122 = .ok (.lstore_n 1, 1) := by decide +kernel
theorem dX4_digest_123 : decode cX4_digest 123 = .ok (.lload_n 1, 1) := by decide +kernel
theorem dX4_digest_124 : decode cX4_digest 124 = .ok (.aload_n 0, 1) := by decide +kernel
theorem dX4_digest_125 : decode cX4_digest 125 = .ok (.iload 4, 2) := by decide +kernel
theorem dX4_digest_127 : decode cX4_digest 127 = .ok (.iload_n 3, 1) := by decide +kernel
theorem dX4_digest_128 : decode cX4_digest 128 = .ok (.iconst 1, 1) := by decide +kernel
theorem dX4_digest_129 : decode cX4_digest 129 = .ok (.invokevirtual 233, 3) := by decide +kernel
theorem dX4_digest_132 : decode cX4_digest 132 = .ok (.i2l, 1) := by decide +kernel
theorem dX4_digest_133 : decode cX4_digest 133 = .ok (.invokestatic 226, 3) := by decide +kernel
theorem dX4_digest_136 : decode cX4_digest 136 = .ok (.lstore_n 1, 1) := by decide +kernel
theorem dX4_digest_137 : decode cX4_digest 137 = .ok (.iinc 4 1, 3) := by decide +kernel
theorem dX4_digest_140 : decode cX4_digest 140 = .ok (.goto (-43), 3) := by decide +kernel
theorem dX4_digest_143 : decode cX4_digest 143 = .ok (.iinc 3 1, 3) := by decide +kernel
theorem dX4_digest_146 : decode cX4_digest 146 = .ok (.goto (-92), 3) := by decide +kernel
theorem dX4_digest_149 : decode cX4_digest 149 = .ok (.aload_n 0, 1) := by decide +kernel
theorem dX4_digest_150 : decode cX4_digest 150 = .ok (.invokevirtual 143, 3) := by decide +kernel
theorem dX4_digest_153 : decode cX4_digest 153 = .ok (.ifCond .eq 37, 3) := by decide +kernel
theorem dX4_digest_156 : decode cX4_digest 156 = .ok (.lload_n 1, 1) := by decide +kernel
theorem dX4_digest_157 : decode cX4_digest 157 = .ok (.aload_n 0, 1) := by decide +kernel
theorem dX4_digest_158 : decode cX4_digest 158 = .ok (.invokevirtual 236, 3) := by decide +kernel
theorem dX4_digest_161 : decode cX4_digest 161 = .ok (.i2l, 1) := by decide +kernel
theorem dX4_digest_162 : decode cX4_digest 162 = .ok (.invokestatic 226, 3) := by decide +kernel
theorem dX4_digest_165 : decode cX4_digest 165 = .ok (.lstore_n 1, 1) := by decide +kernel
theorem dX4_digest_166 : decode cX4_digest 166 = .ok (.lload_n 1, 1) := by decide +kernel
theorem dX4_digest_167 : decode cX4_digest 167 = .ok (.aload_n 0, 1) := by decide +kernel
theorem dX4_digest_168 : decode cX4_digest 168 = .ok (.iconst 3, 1) := by decide +kernel
theorem dX4_digest_169 : decode cX4_digest 169 = .ok (.iconst 0, 1) := by decide +kernel
theorem dX4_digest_170 : decode cX4_digest 170 = .ok (.invokevirtual 239, 3) := by decide +kernel
theorem dX4_digest_173 : decode cX4_digest 173 = .ok (.i2l, 1) := by decide +kernel
theorem dX4_digest_174 : decode cX4_digest 174 = .ok (.invokestatic 226, 3) := by decide +kernel
theorem dX4_digest_177 : decode cX4_digest 177 = .ok (.lstore_n 1, 1) := by decide +kernel
theorem dX4_digest_178 : decode cX4_digest 178 = .ok (.lload_n 1, 1) := by decide +kernel
theorem dX4_digest_179 : decode cX4_digest 179 = .ok (.aload_n 0, 1) := by decide +kernel
theorem dX4_digest_180 : decode cX4_digest 180 = .ok (.iconst 3, 1) := by decide +kernel
theorem dX4_digest_181 : decode cX4_digest 181 = .ok (.iconst 1, 1) := by decide +kernel
theorem dX4_digest_182 : decode cX4_digest 182 = .ok (.invokevirtual 239, 3) := by decide +kernel
theorem dX4_digest_185 : decode cX4_digest 185 = .ok (.i2l, 1) := by decide +kernel
theorem dX4_digest_186 : decode cX4_digest 186 = .ok (.invokestatic 226, 3) := by decide +kernel
theorem dX4_digest_189 : decode cX4_digest 189 = .ok (.lstore_n 1, 1) := by decide +kernel
theorem dX4_digest_190 : decode cX4_digest 190 = .ok (.iconst 0, 1) := by decide +kernel
theorem dX4_digest_191 : decode cX4_digest 191 = .ok (.istore_n 3, 1) := by decide +kernel
theorem dX4_digest_192 : decode cX4_digest 192 = .ok (.iload_n 3, 1) := by decide +kernel
theorem dX4_digest_193 : decode cX4_digest 193 = .ok (.aload_n 0, 1) := by decide +kernel
theorem dX4_digest_194 : decode cX4_digest 194 = .ok (.getfield 12, 3) := by decide +kernel
theorem dX4_digest_197 : decode cX4_digest 197 = .ok (.getfield 57, 3) := by decide +kernel
theorem dX4_digest_200 : decode cX4_digest 200 = .ok (.if_icmp .ge 24, 3) := by decide +kernel
theorem dX4_digest_203 : decode cX4_digest 203 = .ok (.lload_n 1, 1) := by decide +kernel
theorem dX4_digest_204 : decode cX4_digest 204 = .ok (.aload_n 0, 1) := by decide +kernel
theorem dX4_digest_205 : decode cX4_digest 205 = .ok (.getfield 12, 3) := by decide +kernel
theorem dX4_digest_208 : decode cX4_digest 208 = .ok (.getfield 242, 3) := by decide +kernel
theorem dX4_digest_211 : decode cX4_digest 211 = .ok (.iload_n 3, 1) := by decide +kernel
theorem dX4_digest_212 : decode cX4_digest 212 = .ok (.iaload, 1) := by decide +kernel
theorem dX4_digest_213 : decode cX4_digest 213 = .ok (.i2l, 1) := by decide +kernel
theorem dX4_digest_214 : decode cX4_digest 214 = .ok (.invokestatic 226, 3) := by decide +kernel
theorem dX4_digest_217 : decode cX4_digest 217 = .ok (.lstore_n 1, 1) := by decide +kernel
theorem dX4_digest_218 : decode cX4_digest 218 = .ok (.iinc 3 1, 3) := by decide +kernel
theorem dX4_digest_221 : decode cX4_digest 221 = .ok (.goto (-29), 3) := by decide +kernel
theorem dX4_digest_224 : decode cX4_digest 224 = .ok (.iconst 0, 1) := by decide +kernel
theorem dX4_digest_225 : decode cX4_digest 225 = .ok (.istore_n 3, 1) := by decide +kernel
theorem dX4_digest_226 : decode cX4_digest 226 = .ok (.iload_n 3, 1) := by decide +kernel
theorem dX4_digest_227 : decode cX4_digest 227 = .ok (.bipush 11, 2) := by decide +kernel
theorem dX4_digest_229 : decode cX4_digest 229 = .ok (.if_icmp .gt 20, 3) := by decide +kernel
theorem dX4_digest_232 : decode cX4_digest 232 = .ok (.lload_n 1, 1) := by decide +kernel
theorem dX4_digest_233 : decode cX4_digest 233 = .ok (.aload_n 0, 1) := by decide +kernel
theorem dX4_digest_234 : decode cX4_digest 234 = .ok (.iload_n 3, 1) := by decide +kernel
theorem dX4_digest_235 : decode cX4_digest 235 = .ok (.invokevirtual 245, 3) := by decide +kernel
theorem dX4_digest_238 : decode cX4_digest 238 = .ok (.i2l, 1) := by decide +kernel
theorem dX4_digest_239 : decode cX4_digest 239 = .ok (.invokestatic 226, 3) := by decide +kernel
theorem dX4_digest_242 : decode cX4_digest 242 = .ok (.lstore_n 1, 1) := by decide +kernel
theorem dX4_digest_243 : decode cX4_digest 243 = .ok (.iinc 3 1, 3) := by decide +kernel
theorem dX4_digest_246 : decode cX4_digest 246 = .ok (.goto (-20), 3) := by decide +kernel
theorem dX4_digest_249 : decode cX4_digest 249 = .ok (.lload_n 1, 1) := by decide +kernel
theorem dX4_digest_250 : decode cX4_digest 250 = .ok (.lreturn, 1) := by decide +kernel
theorem dX4_mixed_0 : decode cX4_mixed 0 = .ok (.ldc2_w 248, 3) := by decide +kernel
theorem dX4_mixed_3 : decode cX4_mixed 3 = .ok (.lload_n 0, 1) := by decide +kernel
theorem dX4_mixed_4 : decode cX4_mixed 4 = .ok (.lmul, 1) := by decide +kernel
theorem dX4_mixed_5 : decode cX4_mixed 5 = .ok (.lload_n 2, 1) := by decide +kernel
theorem dX4_mixed_6 : decode cX4_mixed 6 = .ok (.ladd, 1) := by decide +kernel
theorem dX4_mixed_7 : decode cX4_mixed 7 = .ok (.lreturn, 1) := by decide +kernel
theorem dX4_hasTable_0 : decode cX4_hasTable 0 = .ok (.aload_n 0, 1) := by decide +kernel
theorem dX4_hasTable_1 : decode cX4_hasTable 1 = .ok (.getfield 19, 3) := by decide +kernel
theorem dX4_hasTable_4 : decode cX4_hasTable 4 = .ok (.getfield 77, 3) := by decide +kernel
theorem dX4_hasTable_7 : decode cX4_hasTable 7 = .ok (.ifCond .le 7, 3) := by decide +kernel
theorem dX4_hasTable_10 : decode cX4_hasTable 10 = .ok (.iconst 1, 1) := by decide +kernel
theorem dX4_hasTable_11 : decode cX4_hasTable 11 = .ok (.goto 4, 3) := by decide +kernel
theorem dX4_hasTable_14 : decode cX4_hasTable 14 = .ok (.iconst 0, 1) := by decide +kernel
theorem dX4_hasTable_15 : decode cX4_hasTable 15 = .ok (.ireturn, 1) := by decide +kernel
theorem dX4_isWeight_0 : decode cX4_isWeight 0 = .ok (.iload_n 1, 1) := by decide +kernel
theorem dX4_isWeight_1 : decode cX4_isWeight 1 = .ok (.ifCond .lt 18, 3) := by decide +kernel
theorem dX4_isWeight_4 : decode cX4_isWeight 4 = .ok (.iload_n 1, 1) := by decide +kernel
theorem dX4_isWeight_5 : decode cX4_isWeight 5 = .ok (.aload_n 0, 1) := by decide +kernel
theorem dX4_isWeight_6 : decode cX4_isWeight 6 = .ok (.getfield 19, 3) := by decide +kernel
theorem dX4_isWeight_9 : decode cX4_isWeight 9 = .ok (.getfield 206, 3) := by decide +kernel
theorem dX4_isWeight_12 : decode cX4_isWeight 12 = .ok (.if_icmp .ge 7, 3) := by decide +kernel
theorem dX4_isWeight_15 : decode cX4_isWeight 15 = .ok (.iconst 1, 1) := by decide +kernel
theorem dX4_isWeight_16 : decode cX4_isWeight 16 = .ok (.goto 4, 3) := by decide +kernel
theorem dX4_isWeight_19 : decode cX4_isWeight 19 = .ok (.iconst 0, 1) := by decide +kernel
theorem dX4_isWeight_20 : decode cX4_isWeight 20 = .ok (.ireturn, 1) := by decide +kernel
theorem dX4_isVillage_0 : decode cX4_isVillage 0 = .ok (.iload_n 1, 1) := by decide +kernel
theorem dX4_isVillage_1 : decode cX4_isVillage 1 = .ok (.ifCond .lt 18, 3) := by decide +kernel
theorem dX4_isVillage_4 : decode cX4_isVillage 4 = .ok (.iload_n 1, 1) := by decide +kernel
theorem dX4_isVillage_5 : decode cX4_isVillage 5 = .ok (.aload_n 0, 1) := by decide +kernel
theorem dX4_isVillage_6 : decode cX4_isVillage 6 = .ok (.getfield 19, 3) := by decide +kernel
theorem dX4_isVillage_9 : decode cX4_isVillage 9 = .ok (.getfield 77, 3) := by decide +kernel
theorem dX4_isVillage_12 : decode cX4_isVillage 12 = .ok (.if_icmp .ge 7, 3) := by decide +kernel
theorem dX4_isVillage_15 : decode cX4_isVillage 15 = .ok (.iconst 1, 1) := by decide +kernel
theorem dX4_isVillage_16 : decode cX4_isVillage 16 = .ok (.goto 4, 3) := by decide +kernel
theorem dX4_isVillage_19 : decode cX4_isVillage 19 = .ok (.iconst 0, 1) := by decide +kernel
theorem dX4_isVillage_20 : decode cX4_isVillage 20 = .ok (.ireturn, 1) := by decide +kernel
theorem dX4_isWind_0 : decode cX4_isWind 0 = .ok (.iload_n 0, 1) := by decide +kernel
theorem dX4_isWind_1 : decode cX4_isWind 1 = .ok (.ifCond .lt 22, 3) := by decide +kernel
theorem dX4_isWind_4 : decode cX4_isWind 4 = .ok (.iload_n 0, 1) := by decide +kernel
theorem dX4_isWind_5 : decode cX4_isWind 5 = .ok (.iconst 2, 1) := by decide +kernel
theorem dX4_isWind_6 : decode cX4_isWind 6 = .ok (.if_icmp .ge 17, 3) := by decide +kernel
theorem dX4_isWind_9 : decode cX4_isWind 9 = .ok (.iload_n 1, 1) := by decide +kernel
theorem dX4_isWind_10 : decode cX4_isWind 10 = .ok (.ifCond .lt 13, 3) := by decide +kernel
theorem dX4_isWind_13 : decode cX4_isWind 13 = .ok (.iload_n 1, 1) := by decide +kernel
theorem dX4_isWind_14 : decode cX4_isWind 14 = .ok (.bipush 99, 2) := by decide +kernel
theorem dX4_isWind_16 : decode cX4_isWind 16 = .ok (.if_icmp .gt 7, 3) := by decide +kernel
theorem dX4_isWind_19 : decode cX4_isWind 19 = .ok (.iconst 1, 1) := by decide +kernel
theorem dX4_isWind_20 : decode cX4_isWind 20 = .ok (.goto 4, 3) := by decide +kernel
theorem dX4_isWind_23 : decode cX4_isWind 23 = .ok (.iconst 0, 1) := by decide +kernel
theorem dX4_isWind_24 : decode cX4_isWind 24 = .ok (.ireturn, 1) := by decide +kernel
theorem dX4_isPackAnswer_0 : decode cX4_isPackAnswer 0 = .ok (.iload_n 0, 1) := by decide +kernel
theorem dX4_isPackAnswer_1 : decode cX4_isPackAnswer 1 = .ok (.ifCond .eq 20, 3) := by decide +kernel
theorem dX4_isPackAnswer_4 : decode cX4_isPackAnswer 4 = .ok (.iload_n 0, 1) := by decide +kernel
theorem dX4_isPackAnswer_5 : decode cX4_isPackAnswer 5 = .ok (.iconst 1, 1) := by decide +kernel
theorem dX4_isPackAnswer_6 : decode cX4_isPackAnswer 6 = .ok (.if_icmp .eq 15, 3) := by decide +kernel
theorem dX4_isPackAnswer_9 : decode cX4_isPackAnswer 9 = .ok (.iload_n 0, 1) := by decide +kernel
theorem dX4_isPackAnswer_10 : decode cX4_isPackAnswer 10 = .ok (.bipush 10, 2) := by decide +kernel
theorem dX4_isPackAnswer_12 : decode cX4_isPackAnswer 12 = .ok (.if_icmp .lt 13, 3) := by decide +kernel
theorem dX4_isPackAnswer_15 : decode cX4_isPackAnswer 15 = .ok (.iload_n 0, 1) := by decide +kernel
theorem dX4_isPackAnswer_16 : decode cX4_isPackAnswer 16 = .ok (.bipush 14, 2) := by decide +kernel
theorem dX4_isPackAnswer_18 : decode cX4_isPackAnswer 18 = .ok (.if_icmp .ge 7, 3) := by decide +kernel
theorem dX4_isPackAnswer_21 : decode cX4_isPackAnswer 21 = .ok (.iconst 1, 1) := by decide +kernel
theorem dX4_isPackAnswer_22 : decode cX4_isPackAnswer 22 = .ok (.goto 4, 3) := by decide +kernel
theorem dX4_isPackAnswer_25 : decode cX4_isPackAnswer 25 = .ok (.iconst 0, 1) := by decide +kernel
theorem dX4_isPackAnswer_26 : decode cX4_isPackAnswer 26 = .ok (.ireturn, 1) := by decide +kernel
theorem dX4_isOfKind_0 : decode cX4_isOfKind 0 = .ok (.iload_n 1, 1) := by decide +kernel
theorem dX4_isOfKind_1 : decode cX4_isOfKind 1 = .ok (.ifCond .eq 18, 3) := by decide +kernel
theorem dX4_isOfKind_4 : decode cX4_isOfKind 4 = .ok (.iload_n 1, 1) := by decide +kernel
theorem dX4_isOfKind_5 : decode cX4_isOfKind 5 = .ok (.iload_n 0, 1) := by decide +kernel
theorem dX4_isOfKind_6 : decode cX4_isOfKind 6 = .ok (.if_icmp .eq 13, 3) := by decide +kernel
theorem dX4_isOfKind_9 : decode cX4_isOfKind 9 = .ok (.iload_n 1, 1) := by decide +kernel
theorem dX4_isOfKind_10 : decode cX4_isOfKind 10 = .ok (.iconst 1, 1) := by decide +kernel
theorem dX4_isOfKind_11 : decode cX4_isOfKind 11 = .ok (.if_icmp .ne 12, 3) := by decide +kernel
theorem dX4_isOfKind_14 : decode cX4_isOfKind 14 = .ok (.iload_n 0, 1) := by decide +kernel
theorem dX4_isOfKind_15 : decode cX4_isOfKind 15 = .ok (.iconst 4, 1) := by decide +kernel
theorem dX4_isOfKind_16 : decode cX4_isOfKind 16 = .ok (.if_icmp .ne 7, 3) := by decide +kernel
theorem dX4_isOfKind_19 : decode cX4_isOfKind 19 = .ok (.iconst 1, 1) := by decide +kernel
theorem dX4_isOfKind_20 : decode cX4_isOfKind 20 = .ok (.goto 4, 3) := by decide +kernel
theorem dX4_isOfKind_23 : decode cX4_isOfKind 23 = .ok (.iconst 0, 1) := by decide +kernel
theorem dX4_isOfKind_24 : decode cX4_isOfKind 24 = .ok (.ireturn, 1) := by decide +kernel
theorem dX4_bearing_0 : decode cX4_bearing 0 = .ok (.iload_n 0, 1) := by decide +kernel
theorem dX4_bearing_1 : decode cX4_bearing 1 = .ok (.tableswitch 42 1 4 #[31, 42, 35, 39], 31) := by decide +kernel
theorem dX4_bearing_32 : decode cX4_bearing 32 = .ok (.iconst 2, 1) := by decide +kernel
theorem dX4_bearing_33 : decode cX4_bearing 33 = .ok (.iload_n 1, 1) := by decide +kernel
theorem dX4_bearing_34 : decode cX4_bearing 34 = .ok (.imul, 1) := by decide +kernel
theorem dX4_bearing_35 : decode cX4_bearing 35 = .ok (.ireturn, 1) := by decide +kernel
theorem dX4_bearing_36 : decode cX4_bearing 36 = .ok (.iload_n 1, 1) := by decide +kernel
theorem dX4_bearing_37 : decode cX4_bearing 37 = .ok (.iload_n 2, 1) := by decide +kernel
theorem dX4_bearing_38 : decode cX4_bearing 38 = .ok (.iadd, 1) := by decide +kernel
theorem dX4_bearing_39 : decode cX4_bearing 39 = .ok (.ireturn, 1) := by decide +kernel
theorem dX4_bearing_40 : decode cX4_bearing 40 = .ok (.bipush 100, 2) := by decide +kernel
theorem dX4_bearing_42 : decode cX4_bearing 42 = .ok (.ireturn, 1) := by decide +kernel
theorem dX4_bearing_43 : decode cX4_bearing 43 = .ok (.iload_n 1, 1) := by decide +kernel
theorem dX4_bearing_44 : decode cX4_bearing 44 = .ok (.ireturn, 1) := by decide +kernel
theorem dX4_leverage_0 : decode cX4_leverage 0 = .ok (.iload_n 1, 1) := by decide +kernel
theorem dX4_leverage_1 : decode cX4_leverage 1 = .ok (.ifCond .ne 9, 3) := by decide +kernel
theorem dX4_leverage_4 : decode cX4_leverage 4 = .ok (.iconst 5, 1) := by decide +kernel
theorem dX4_leverage_5 : decode cX4_leverage 5 = .ok (.iload_n 0, 1) := by decide +kernel
theorem dX4_leverage_6 : decode cX4_leverage 6 = .ok (.isub, 1) := by decide +kernel
theorem dX4_leverage_7 : decode cX4_leverage 7 = .ok (.goto 6, 3) := by decide +kernel
theorem dX4_leverage_10 : decode cX4_leverage 10 = .ok (.iload_n 0, 1) := by decide +kernel
theorem dX4_leverage_11 : decode cX4_leverage 11 = .ok (.iconst 1, 1) := by decide +kernel
theorem dX4_leverage_12 : decode cX4_leverage 12 = .ok (.iadd, 1) := by decide +kernel
theorem dX4_leverage_13 : decode cX4_leverage 13 = .ok (.ireturn, 1) := by decide +kernel
theorem dX4_liftsAt_0 : decode cX4_liftsAt 0 = .ok (.iload_n 0, 1) := by decide +kernel
theorem dX4_liftsAt_1 : decode cX4_liftsAt 1 = .ok (.iconst 5, 1) := by decide +kernel
theorem dX4_liftsAt_2 : decode cX4_liftsAt 2 = .ok (.iload_n 1, 1) := by decide +kernel
theorem dX4_liftsAt_3 : decode cX4_liftsAt 3 = .ok (.imul, 1) := by decide +kernel
theorem dX4_liftsAt_4 : decode cX4_liftsAt 4 = .ok (.if_icmp .ge 7, 3) := by decide +kernel
theorem dX4_liftsAt_7 : decode cX4_liftsAt 7 = .ok (.iconst 1, 1) := by decide +kernel
theorem dX4_liftsAt_8 : decode cX4_liftsAt 8 = .ok (.goto 4, 3) := by decide +kernel
theorem dX4_liftsAt_11 : decode cX4_liftsAt 11 = .ok (.iconst 0, 1) := by decide +kernel
theorem dX4_liftsAt_12 : decode cX4_liftsAt 12 = .ok (.ireturn, 1) := by decide +kernel
theorem dX4_standBy_0 : decode cX4_standBy 0 = .ok (.bipush 99, 2) := by decide +kernel
theorem dX4_standBy_2 : decode cX4_standBy 2 = .ok (.iload_n 0, 1) := by decide +kernel
theorem dX4_standBy_3 : decode cX4_standBy 3 = .ok (.iconst 5, 1) := by decide +kernel
theorem dX4_standBy_4 : decode cX4_standBy 4 = .ok (.idiv, 1) := by decide +kernel
theorem dX4_standBy_5 : decode cX4_standBy 5 = .ok (.invokestatic 250, 3) := by decide +kernel
theorem dX4_standBy_8 : decode cX4_standBy 8 = .ok (.ireturn, 1) := by decide +kernel
theorem dX4_inLowestTerms_0 : decode cX4_inLowestTerms 0 = .ok (.bipush 20, 2) := by decide +kernel
theorem dX4_inLowestTerms_2 : decode cX4_inLowestTerms 2 = .ok (.istore_n 2, 1) := by decide +kernel
theorem dX4_inLowestTerms_3 : decode cX4_inLowestTerms 3 = .ok (.iload_n 2, 1) := by decide +kernel
theorem dX4_inLowestTerms_4 : decode cX4_inLowestTerms 4 = .ok (.iconst 1, 1) := by decide +kernel
theorem dX4_inLowestTerms_5 : decode cX4_inLowestTerms 5 = .ok (.if_icmp .le 25, 3) := by decide +kernel
theorem dX4_inLowestTerms_8 : decode cX4_inLowestTerms 8 = .ok (.iload_n 0, 1) := by decide +kernel
theorem dX4_inLowestTerms_9 : decode cX4_inLowestTerms 9 = .ok (.iload_n 2, 1) := by decide +kernel
theorem dX4_inLowestTerms_10 : decode cX4_inLowestTerms 10 = .ok (.irem, 1) := by decide +kernel
theorem dX4_inLowestTerms_11 : decode cX4_inLowestTerms 11 = .ok (.ifCond .ne 13, 3) := by decide +kernel
theorem dX4_inLowestTerms_14 : decode cX4_inLowestTerms 14 = .ok (.iload_n 1, 1) := by decide +kernel
theorem dX4_inLowestTerms_15 : decode cX4_inLowestTerms 15 = .ok (.iload_n 2, 1) := by decide +kernel
theorem dX4_inLowestTerms_16 : decode cX4_inLowestTerms 16 = .ok (.irem, 1) := by decide +kernel
theorem dX4_inLowestTerms_17 : decode cX4_inLowestTerms 17 = .ok (.ifCond .ne 7, 3) := by decide +kernel
theorem dX4_inLowestTerms_20 : decode cX4_inLowestTerms 20 = .ok (.iload_n 0, 1) := by decide +kernel
theorem dX4_inLowestTerms_21 : decode cX4_inLowestTerms 21 = .ok (.iload_n 2, 1) := by decide +kernel
theorem dX4_inLowestTerms_22 : decode cX4_inLowestTerms 22 = .ok (.idiv, 1) := by decide +kernel
theorem dX4_inLowestTerms_23 : decode cX4_inLowestTerms 23 = .ok (.ireturn, 1) := by decide +kernel
theorem dX4_inLowestTerms_24 : decode cX4_inLowestTerms 24 = .ok (.iinc 2 (-1), 3) := by decide +kernel
theorem dX4_inLowestTerms_27 : decode cX4_inLowestTerms 27 = .ok (.goto (-24), 3) := by decide +kernel
theorem dX4_inLowestTerms_30 : decode cX4_inLowestTerms 30 = .ok (.iload_n 0, 1) := by decide +kernel
theorem dX4_inLowestTerms_31 : decode cX4_inLowestTerms 31 = .ok (.ireturn, 1) := by decide +kernel
theorem dX4_nextSeed_0 : decode cX4_nextSeed 0 = .ok (.ldc2_w 255, 3) := by decide +kernel
theorem dX4_nextSeed_3 : decode cX4_nextSeed 3 = .ok (.iload_n 0, 1) := by decide +kernel
theorem dX4_nextSeed_4 : decode cX4_nextSeed 4 = .ok (.i2l, 1) := by decide +kernel
theorem dX4_nextSeed_5 : decode cX4_nextSeed 5 = .ok (.lmul, 1) := by decide +kernel
theorem dX4_nextSeed_6 : decode cX4_nextSeed 6 = .ok (.ldc2_w 257, 3) := by decide +kernel
theorem dX4_nextSeed_9 : decode cX4_nextSeed 9 = .ok (.ladd, 1) := by decide +kernel
theorem dX4_nextSeed_10 : decode cX4_nextSeed 10 = .ok (.ldc2_w 259, 3) := by decide +kernel
theorem dX4_nextSeed_13 : decode cX4_nextSeed 13 = .ok (.lrem, 1) := by decide +kernel
theorem dX4_nextSeed_14 : decode cX4_nextSeed 14 = .ok (.l2i, 1) := by decide +kernel
theorem dX4_nextSeed_15 : decode cX4_nextSeed 15 = .ok (.ireturn, 1) := by decide +kernel
theorem dX4_drawnOf_0 : decode cX4_drawnOf 0 = .ok (.iload_n 1, 1) := by decide +kernel
theorem dX4_drawnOf_1 : decode cX4_drawnOf 1 = .ok (.iconst 1, 1) := by decide +kernel
theorem dX4_drawnOf_2 : decode cX4_drawnOf 2 = .ok (.if_icmp .ge 7, 3) := by decide +kernel
theorem dX4_drawnOf_5 : decode cX4_drawnOf 5 = .ok (.iconst 0, 1) := by decide +kernel
theorem dX4_drawnOf_6 : decode cX4_drawnOf 6 = .ok (.goto 10, 3) := by decide +kernel
theorem dX4_drawnOf_9 : decode cX4_drawnOf 9 = .ok (.iload_n 0, 1) := by decide +kernel
theorem dX4_drawnOf_10 : decode cX4_drawnOf 10 = .ok (.ldc_w 261, 3) := by decide +kernel
theorem dX4_drawnOf_13 : decode cX4_drawnOf 13 = .ok (.idiv, 1) := by decide +kernel
theorem dX4_drawnOf_14 : decode cX4_drawnOf 14 = .ok (.iload_n 1, 1) := by decide +kernel
theorem dX4_drawnOf_15 : decode cX4_drawnOf 15 = .ok (.irem, 1) := by decide +kernel
theorem dX4_drawnOf_16 : decode cX4_drawnOf 16 = .ok (.ireturn, 1) := by decide +kernel
theorem dX5_init_0 : decode cX5_init 0 = .ok (.aload_n 0, 1) := by decide +kernel
theorem dX5_init_1 : decode cX5_init 1 = .ok (.invokespecial 1, 3) := by decide +kernel
theorem dX5_init_4 : decode cX5_init 4 = .ok (.aload_n 0, 1) := by decide +kernel
theorem dX5_init_5 : decode cX5_init 5 = .ok (.iconst 4, 1) := by decide +kernel
theorem dX5_init_6 : decode cX5_init 6 = .ok (.newarray .int, 2) := by decide +kernel
theorem dX5_init_8 : decode cX5_init 8 = .ok (.putfield 7, 3) := by decide +kernel
theorem dX5_init_11 : decode cX5_init 11 = .ok (.aload_n 0, 1) := by decide +kernel
theorem dX5_init_12 : decode cX5_init 12 = .ok (.iconst 5, 1) := by decide +kernel
theorem dX5_init_13 : decode cX5_init 13 = .ok (.newarray .int, 2) := by decide +kernel
theorem dX5_init_15 : decode cX5_init 15 = .ok (.putfield 13, 3) := by decide +kernel
theorem dX5_init_18 : decode cX5_init 18 = .ok (.aload_n 0, 1) := by decide +kernel
theorem dX5_init_19 : decode cX5_init 19 = .ok (.iconst 5, 1) := by decide +kernel
theorem dX5_init_20 : decode cX5_init 20 = .ok (.newarray .int, 2) := by decide +kernel
theorem dX5_init_22 : decode cX5_init 22 = .ok (.putfield 16, 3) := by decide +kernel
theorem dX5_init_25 : decode cX5_init 25 = .ok (.aload_n 0, 1) := by decide +kernel
theorem dX5_init_26 : decode cX5_init 26 = .ok (.iconst 5, 1) := by decide +kernel
theorem dX5_init_27 : decode cX5_init 27 = .ok (.newarray .int, 2) := by decide +kernel
theorem dX5_init_29 : decode cX5_init 29 = .ok (.putfield 19, 3) := by decide +kernel
theorem dX5_init_32 : decode cX5_init 32 = .ok (.aload_n 0, 1) := by decide +kernel
theorem dX5_init_33 : decode cX5_init 33 = .ok (.iconst 5, 1) := by decide +kernel
theorem dX5_init_34 : decode cX5_init 34 = .ok (.newarray .int, 2) := by decide +kernel
theorem dX5_init_36 : decode cX5_init 36 = .ok (.putfield 22, 3) := by decide +kernel
theorem dX5_init_39 : decode cX5_init 39 = .ok (.aload_n 0, 1) := by decide +kernel
theorem dX5_init_40 : decode cX5_init 40 = .ok (.iconst 5, 1) := by decide +kernel
theorem dX5_init_41 : decode cX5_init 41 = .ok (.newarray .int, 2) := by decide +kernel
theorem dX5_init_43 : decode cX5_init 43 = .ok (.putfield 25, 3) := by decide +kernel
theorem dX5_init_46 : decode cX5_init 46 = .ok (.aload_n 0, 1) := by decide +kernel
theorem dX5_init_47 : decode cX5_init 47 = .ok (.bipush 8, 2) := by decide +kernel
theorem dX5_init_49 : decode cX5_init 49 = .ok (.newarray .int, 2) := by decide +kernel
theorem dX5_init_51 : decode cX5_init 51 = .ok (.putfield 28, 3) := by decide +kernel
theorem dX5_init_54 : decode cX5_init 54 = .ok (.aload_n 0, 1) := by decide +kernel
theorem dX5_init_55 : decode cX5_init 55 = .ok (.bipush 8, 2) := by decide +kernel
theorem dX5_init_57 : decode cX5_init 57 = .ok (.newarray .int, 2) := by decide +kernel
theorem dX5_init_59 : decode cX5_init 59 = .ok (.putfield 31, 3) := by decide +kernel
theorem dX5_init_62 : decode cX5_init 62 = .ok (.aload_n 0, 1) := by decide +kernel
theorem dX5_init_63 : decode cX5_init 63 = .ok (.bipush 8, 2) := by decide +kernel
theorem dX5_init_65 : decode cX5_init 65 = .ok (.newarray .int, 2) := by decide +kernel
theorem dX5_init_67 : decode cX5_init 67 = .ok (.putfield 34, 3) := by decide +kernel
theorem dX5_init_70 : decode cX5_init 70 = .ok (.aload_n 0, 1) := by decide +kernel
theorem dX5_init_71 : decode cX5_init 71 = .ok (.bipush 8, 2) := by decide +kernel
theorem dX5_init_73 : decode cX5_init 73 = .ok (.newarray .int, 2) := by decide +kernel
theorem dX5_init_75 : decode cX5_init 75 = .ok (.putfield 37, 3) := by decide +kernel
theorem dX5_init_78 : decode cX5_init 78 = .ok (.aload_n 0, 1) := by decide +kernel
theorem dX5_init_79 : decode cX5_init 79 = .ok (.bipush 36, 2) := by decide +kernel
theorem dX5_init_81 : decode cX5_init 81 = .ok (.newarray .byte, 2) := by decide +kernel
theorem dX5_init_83 : decode cX5_init 83 = .ok (.putfield 40, 3) := by decide +kernel
theorem dX5_init_86 : decode cX5_init 86 = .ok (.aload_n 0, 1) := by decide +kernel
theorem dX5_init_87 : decode cX5_init 87 = .ok (.sipush 128, 3) := by decide +kernel
theorem dX5_init_90 : decode cX5_init 90 = .ok (.newarray .boolean, 2) := by decide +kernel
theorem dX5_init_92 : decode cX5_init 92 = .ok (.putfield 44, 3) := by decide +kernel
theorem dX5_init_95 : decode cX5_init 95 = .ok (.aload_n 0, 1) := by decide +kernel
theorem dX5_init_96 : decode cX5_init 96 = .ok (.iconst 5, 1) := by decide +kernel
theorem dX5_init_97 : decode cX5_init 97 = .ok (.newarray .int, 2) := by decide +kernel
theorem dX5_init_99 : decode cX5_init 99 = .ok (.putfield 48, 3) := by decide +kernel
theorem dX5_init_102 : decode cX5_init 102 = .ok (.aload_n 0, 1) := by decide +kernel
theorem dX5_init_103 : decode cX5_init 103 = .ok (.iconst 4, 1) := by decide +kernel
theorem dX5_init_104 : decode cX5_init 104 = .ok (.newarray .int, 2) := by decide +kernel
theorem dX5_init_106 : decode cX5_init 106 = .ok (.putfield 51, 3) := by decide +kernel
theorem dX5_init_109 : decode cX5_init 109 = .ok (.aload_n 0, 1) := by decide +kernel
theorem dX5_init_110 : decode cX5_init 110 = .ok (.iconst 4, 1) := by decide +kernel
theorem dX5_init_111 : decode cX5_init 111 = .ok (.newarray .int, 2) := by decide +kernel
theorem dX5_init_113 : decode cX5_init 113 = .ok (.putfield 54, 3) := by decide +kernel
theorem dX5_init_116 : decode cX5_init 116 = .ok (.aload_n 0, 1) := by decide +kernel
theorem dX5_init_117 : decode cX5_init 117 = .ok (.iconst 5, 1) := by decide +kernel
theorem dX5_init_118 : decode cX5_init 118 = .ok (.newarray .int, 2) := by decide +kernel
theorem dX5_init_120 : decode cX5_init 120 = .ok (.putfield 57, 3) := by decide +kernel
theorem dX5_init_123 : decode cX5_init 123 = .ok (.aload_n 0, 1) := by decide +kernel
theorem dX5_init_124 : decode cX5_init 124 = .ok (.iconst 5, 1) := by decide +kernel
theorem dX5_init_125 : decode cX5_init 125 = .ok (.newarray .int, 2) := by decide +kernel
theorem dX5_init_127 : decode cX5_init 127 = .ok (.putfield 60, 3) := by decide +kernel
theorem dX5_init_130 : decode cX5_init 130 = .ok (.aload_n 0, 1) := by decide +kernel
theorem dX5_init_131 : decode cX5_init 131 = .ok (.iconst 5, 1) := by decide +kernel
theorem dX5_init_132 : decode cX5_init 132 = .ok (.newarray .int, 2) := by decide +kernel
theorem dX5_init_134 : decode cX5_init 134 = .ok (.putfield 63, 3) := by decide +kernel
theorem dX5_init_137 : decode cX5_init 137 = .ok (.aload_n 0, 1) := by decide +kernel
theorem dX5_init_138 : decode cX5_init 138 = .ok (.iconst 5, 1) := by decide +kernel
theorem dX5_init_139 : decode cX5_init 139 = .ok (.newarray .int, 2) := by decide +kernel
theorem dX5_init_141 : decode cX5_init 141 = .ok (.putfield 66, 3) := by decide +kernel
theorem dX5_init_144 : decode cX5_init 144 = .ok (.aload_n 0, 1) := by decide +kernel
theorem dX5_init_145 : decode cX5_init 145 = .ok (.iconst 4, 1) := by decide +kernel
theorem dX5_init_146 : decode cX5_init 146 = .ok (.newarray .int, 2) := by decide +kernel
theorem dX5_init_148 : decode cX5_init 148 = .ok (.putfield 69, 3) := by decide +kernel
theorem dX5_init_151 : decode cX5_init 151 = .ok (.aload_n 0, 1) := by decide +kernel
theorem dX5_init_152 : decode cX5_init 152 = .ok (.iconst 5, 1) := by decide +kernel
theorem dX5_init_153 : decode cX5_init 153 = .ok (.newarray .int, 2) := by decide +kernel
theorem dX5_init_155 : decode cX5_init 155 = .ok (.putfield 72, 3) := by decide +kernel
theorem dX5_init_158 : decode cX5_init 158 = .ok (.aload_n 0, 1) := by decide +kernel
theorem dX5_init_159 : decode cX5_init 159 = .ok (.iconst 5, 1) := by decide +kernel
theorem dX5_init_160 : decode cX5_init 160 = .ok (.newarray .int, 2) := by decide +kernel
theorem dX5_init_162 : decode cX5_init 162 = .ok (.putfield 75, 3) := by decide +kernel
theorem dX5_init_165 : decode cX5_init 165 = .ok (.aload_n 0, 1) := by decide +kernel
theorem dX5_init_166 : decode cX5_init 166 = .ok (.iconst 5, 1) := by decide +kernel
theorem dX5_init_167 : decode cX5_init 167 = .ok (.newarray .int, 2) := by decide +kernel
theorem dX5_init_169 : decode cX5_init 169 = .ok (.putfield 78, 3) := by decide +kernel
theorem dX5_init_172 : decode cX5_init 172 = .ok (.aload_n 0, 1) := by decide +kernel
theorem dX5_init_173 : decode cX5_init 173 = .ok (.iconst 5, 1) := by decide +kernel
theorem dX5_init_174 : decode cX5_init 174 = .ok (.newarray .int, 2) := by decide +kernel
theorem dX5_init_176 : decode cX5_init 176 = .ok (.putfield 81, 3) := by decide +kernel
theorem dX5_init_179 : decode cX5_init 179 = .ok (.aload_n 0, 1) := by decide +kernel
theorem dX5_init_180 : decode cX5_init 180 = .ok (.bipush 8, 2) := by decide +kernel
theorem dX5_init_182 : decode cX5_init 182 = .ok (.newarray .int, 2) := by decide +kernel
theorem dX5_init_184 : decode cX5_init 184 = .ok (.putfield 84, 3) := by decide +kernel
theorem dX5_init_187 : decode cX5_init 187 = .ok (.aload_n 0, 1) := by decide +kernel
theorem dX5_init_188 : decode cX5_init 188 = .ok (.bipush 8, 2) := by decide +kernel
theorem dX5_init_190 : decode cX5_init 190 = .ok (.newarray .int, 2) := by decide +kernel
theorem dX5_init_192 : decode cX5_init 192 = .ok (.putfield 87, 3) := by decide +kernel
theorem dX5_init_195 : decode cX5_init 195 = .ok (.aload_n 0, 1) := by decide +kernel
theorem dX5_init_196 : decode cX5_init 196 = .ok (.bipush 8, 2) := by decide +kernel
theorem dX5_init_198 : decode cX5_init 198 = .ok (.newarray .int, 2) := by decide +kernel
theorem dX5_init_200 : decode cX5_init 200 = .ok (.putfield 90, 3) := by decide +kernel
theorem dX5_init_203 : decode cX5_init 203 = .ok (.aload_n 0, 1) := by decide +kernel
theorem dX5_init_204 : decode cX5_init 204 = .ok (.bipush 8, 2) := by decide +kernel
theorem dX5_init_206 : decode cX5_init 206 = .ok (.newarray .int, 2) := by decide +kernel
theorem dX5_init_208 : decode cX5_init 208 = .ok (.putfield 93, 3) := by decide +kernel
theorem dX5_init_211 : decode cX5_init 211 = .ok (.return_, 1) := by decide +kernel
theorem dX5_within_0 : decode cX5_within 0 = .ok (.iload_n 0, 1) := by decide +kernel
theorem dX5_within_1 : decode cX5_within 1 = .ok (.iload_n 1, 1) := by decide +kernel
theorem dX5_within_2 : decode cX5_within 2 = .ok (.if_icmp .lt 12, 3) := by decide +kernel
theorem dX5_within_5 : decode cX5_within 5 = .ok (.iload_n 0, 1) := by decide +kernel
theorem dX5_within_6 : decode cX5_within 6 = .ok (.iload_n 2, 1) := by decide +kernel
theorem dX5_within_7 : decode cX5_within 7 = .ok (.if_icmp .gt 7, 3) := by decide +kernel
theorem dX5_within_10 : decode cX5_within 10 = .ok (.iconst 1, 1) := by decide +kernel
theorem dX5_within_11 : decode cX5_within 11 = .ok (.goto 4, 3) := by decide +kernel
theorem dX5_within_14 : decode cX5_within 14 = .ok (.iconst 0, 1) := by decide +kernel
theorem dX5_within_15 : decode cX5_within 15 = .ok (.ireturn, 1) := by decide +kernel
theorem dX5_isIn_0 : decode cX5_isIn 0 = .ok (.iload_n 0, 1) := by decide +kernel
theorem dX5_isIn_1 : decode cX5_isIn 1 = .ok (.iload_n 1, 1) := by decide +kernel
theorem dX5_isIn_2 : decode cX5_isIn 2 = .ok (.ishr, 1) := by decide +kernel
theorem dX5_isIn_3 : decode cX5_isIn 3 = .ok (.iconst 1, 1) := by decide +kernel
theorem dX5_isIn_4 : decode cX5_isIn 4 = .ok (.iand, 1) := by decide +kernel
theorem dX5_isIn_5 : decode cX5_isIn 5 = .ok (.iconst 1, 1) := by decide +kernel
theorem dX5_isIn_6 : decode cX5_isIn 6 = .ok (.if_icmp .ne 7, 3) := by decide +kernel
theorem dX5_isIn_9 : decode cX5_isIn 9 = .ok (.iconst 1, 1) := by decide +kernel
theorem dX5_isIn_10 : decode cX5_isIn 10 = .ok (.goto 4, 3) := by decide +kernel
theorem dX5_isIn_13 : decode cX5_isIn 13 = .ok (.iconst 0, 1) := by decide +kernel
theorem dX5_isIn_14 : decode cX5_isIn 14 = .ok (.ireturn, 1) := by decide +kernel
theorem dX5_size_0 : decode cX5_size 0 = .ok (.iconst 0, 1) := by decide +kernel
theorem dX5_size_1 : decode cX5_size 1 = .ok (.istore_n 1, 1) := by decide +kernel
theorem dX5_size_2 : decode cX5_size 2 = .ok (.iconst 0, 1) := by decide +kernel
theorem dX5_size_3 : decode cX5_size 3 = .ok (.istore_n 2, 1) := by decide +kernel
theorem dX5_size_4 : decode cX5_size 4 = .ok (.iload_n 2, 1) := by decide +kernel
theorem dX5_size_5 : decode cX5_size 5 = .ok (.bipush 10, 2) := by decide +kernel
theorem dX5_size_7 : decode cX5_size 7 = .ok (.if_icmp .ge 17, 3) := by decide +kernel
theorem dX5_size_10 : decode cX5_size 10 = .ok (.iload_n 1, 1) := by decide +kernel
theorem dX5_size_11 : decode cX5_size 11 = .ok (.iload_n 0, 1) := by decide +kernel
theorem dX5_size_12 : decode cX5_size 12 = .ok (.iload_n 2, 1) := by decide +kernel
theorem dX5_size_13 : decode cX5_size 13 = .ok (.ishr, 1) := by decide +kernel
theorem dX5_size_14 : decode cX5_size 14 = .ok (.iconst 1, 1) := by decide +kernel
theorem dX5_size_15 : decode cX5_size 15 = .ok (.iand, 1) := by decide +kernel
theorem dX5_size_16 : decode cX5_size 16 = .ok (.iadd, 1) := by decide +kernel
theorem dX5_size_17 : decode cX5_size 17 = .ok (.istore_n 1, 1) := by decide +kernel
theorem dX5_size_18 : decode cX5_size 18 = .ok (.iinc 2 1, 3) := by decide +kernel
theorem dX5_size_21 : decode cX5_size 21 = .ok (.goto (-17), 3) := by decide +kernel
theorem dX5_size_24 : decode cX5_size 24 = .ok (.iload_n 1, 1) := by decide +kernel
theorem dX5_size_25 : decode cX5_size 25 = .ok (.ireturn, 1) := by decide +kernel
theorem dX5_divisor_0 : decode cX5_divisor 0 = .ok (.iload_n 0, 1) := by decide +kernel
theorem dX5_divisor_1 : decode cX5_divisor 1 = .ok (.istore_n 2, 1) := by decide +kernel
theorem dX5_divisor_2 : decode cX5_divisor 2 = .ok (.iload_n 1, 1) := by decide +kernel
theorem dX5_divisor_3 : decode cX5_divisor 3 = .ok (.istore_n 3, 1) := by decide +kernel
theorem dX5_divisor_4 : decode cX5_divisor 4 = .ok (.iload_n 3, 1) := by decide +kernel
theorem dX5_divisor_5 : decode cX5_divisor 5 = .ok (.ifCond .eq 16, 3) := by decide +kernel
theorem dX5_divisor_8 : decode cX5_divisor 8 = .ok (.iload_n 2, 1) := by decide +kernel
theorem dX5_divisor_9 : decode cX5_divisor 9 = .ok (.iload_n 3, 1) := by decide +kernel
theorem dX5_divisor_10 : decode cX5_divisor 10 = .ok (.irem, 1) := by decide +kernel
theorem dX5_divisor_11 : decode cX5_divisor 11 = .ok (.istore 4, 2) := by decide +kernel
theorem dX5_divisor_13 : decode cX5_divisor 13 = .ok (.iload_n 3, 1) := by decide +kernel
theorem dX5_divisor_14 : decode cX5_divisor 14 = .ok (.istore_n 2, 1) := by decide +kernel
theorem dX5_divisor_15 : decode cX5_divisor 15 = .ok (.iload 4, 2) := by decide +kernel
theorem dX5_divisor_17 : decode cX5_divisor 17 = .ok (.istore_n 3, 1) := by decide +kernel
theorem dX5_divisor_18 : decode cX5_divisor 18 = .ok (.goto (-14), 3) := by decide +kernel
theorem dX5_divisor_21 : decode cX5_divisor 21 = .ok (.iload_n 2, 1) := by decide +kernel
theorem dX5_divisor_22 : decode cX5_divisor 22 = .ok (.ireturn, 1) := by decide +kernel
theorem dX5_letter_0 : decode cX5_letter 0 = .ok (.iload_n 1, 1) := by decide +kernel
theorem dX5_letter_1 : decode cX5_letter 1 = .ok (.bipush 32, 2) := by decide +kernel
theorem dX5_letter_3 : decode cX5_letter 3 = .ok (.bipush 126, 2) := by decide +kernel
theorem dX5_letter_5 : decode cX5_letter 5 = .ok (.invokestatic 96, 3) := by decide +kernel
theorem dX5_letter_8 : decode cX5_letter 8 = .ok (.ifCond .ne 6, 3) := by decide +kernel
theorem dX5_letter_11 : decode cX5_letter 11 = .ok (.bipush (-102), 2) := by decide +kernel
theorem dX5_letter_13 : decode cX5_letter 13 = .ok (.ireturn, 1) := by decide +kernel
theorem dX5_letter_14 : decode cX5_letter 14 = .ok (.aload_n 0, 1) := by decide +kernel
theorem dX5_letter_15 : decode cX5_letter 15 = .ok (.getfield 100, 3) := by decide +kernel
theorem dX5_letter_18 : decode cX5_letter 18 = .ok (.bipush 36, 2) := by decide +kernel
theorem dX5_letter_20 : decode cX5_letter 20 = .ok (.if_icmp .ne 6, 3) := by decide +kernel
theorem dX5_letter_23 : decode cX5_letter 23 = .ok (.bipush (-104), 2) := by decide +kernel
theorem dX5_letter_25 : decode cX5_letter 25 = .ok (.ireturn, 1) := by decide +kernel
theorem dX5_letter_26 : decode cX5_letter 26 = .ok (.aload_n 0, 1) := by decide +kernel
theorem dX5_letter_27 : decode cX5_letter 27 = .ok (.getfield 40, 3) := by decide +kernel
theorem dX5_letter_30 : decode cX5_letter 30 = .ok (.aload_n 0, 1) := by decide +kernel
theorem dX5_letter_31 : decode cX5_letter 31 = .ok (.getfield 100, 3) := by decide +kernel
theorem dX5_letter_34 : decode cX5_letter 34 = .ok (.iload_n 1, 1) := by decide +kernel
theorem dX5_letter_35 : decode cX5_letter 35 = .ok (.i2b, 1) := by decide +kernel
theorem dX5_letter_36 : decode cX5_letter 36 = .ok (.bastore, 1) := by decide +kernel
theorem dX5_letter_37 : decode cX5_letter 37 = .ok (.aload_n 0, 1) := by decide +kernel
theorem dX5_letter_38 : decode cX5_letter 38 = .ok (.dup, 1) := by decide +kernel
theorem dX5_letter_39 : decode cX5_letter 39 = .ok (.getfield 100, 3) := by decide +kernel
theorem dX5_letter_42 : decode cX5_letter 42 = .ok (.iconst 1, 1) := by decide +kernel
theorem dX5_letter_43 : decode cX5_letter 43 = .ok (.iadd, 1) := by decide +kernel
theorem dX5_letter_44 : decode cX5_letter 44 = .ok (.putfield 100, 3) := by decide +kernel
theorem dX5_letter_47 : decode cX5_letter 47 = .ok (.aload_n 0, 1) := by decide +kernel
theorem dX5_letter_48 : decode cX5_letter 48 = .ok (.getfield 100, 3) := by decide +kernel
theorem dX5_letter_51 : decode cX5_letter 51 = .ok (.ireturn, 1) := by decide +kernel
theorem dX5_blank_0 : decode cX5_blank 0 = .ok (.aload_n 0, 1) := by decide +kernel
theorem dX5_blank_1 : decode cX5_blank 1 = .ok (.getfield 100, 3) := by decide +kernel
theorem dX5_blank_4 : decode cX5_blank 4 = .ok (.istore_n 1, 1) := by decide +kernel
theorem dX5_blank_5 : decode cX5_blank 5 = .ok (.aload_n 0, 1) := by decide +kernel
theorem dX5_blank_6 : decode cX5_blank 6 = .ok (.iconst 0, 1) := by decide +kernel
theorem dX5_blank_7 : decode cX5_blank 7 = .ok (.putfield 100, 3) := by decide +kernel
theorem dX5_blank_10 : decode cX5_blank 10 = .ok (.iload_n 1, 1) := by decide +kernel
theorem dX5_blank_11 : decode cX5_blank 11 = .ok (.ireturn, 1) := by decide +kernel
theorem dX5_kindBy_0 : decode cX5_kindBy 0 = .ok (.iload_n 0, 1) := by decide +kernel
theorem dX5_kindBy_1 : decode cX5_kindBy 1 = .ok (.lookupswitch 61 #[(98, 53), (99, 55), (112, 59), (115, 57), (119, 51)], 51) := by decide +kernel
theorem dX5_kindBy_52 : decode cX5_kindBy 52 = .ok (.iconst 0, 1) := by decide +kernel
theorem dX5_kindBy_53 : decode cX5_kindBy 53 = .ok (.ireturn, 1) := by decide +kernel
theorem dX5_kindBy_54 : decode cX5_kindBy 54 = .ok (.iconst 1, 1) := by decide +kernel
theorem dX5_kindBy_55 : decode cX5_kindBy 55 = .ok (.ireturn, 1) := by decide +kernel
theorem dX5_kindBy_56 : decode cX5_kindBy 56 = .ok (.iconst 2, 1) := by decide +kernel
theorem dX5_kindBy_57 : decode cX5_kindBy 57 = .ok (.ireturn, 1) := by decide +kernel
theorem dX5_kindBy_58 : decode cX5_kindBy 58 = .ok (.iconst 3, 1) := by decide +kernel
theorem dX5_kindBy_59 : decode cX5_kindBy 59 = .ok (.ireturn, 1) := by decide +kernel
theorem dX5_kindBy_60 : decode cX5_kindBy 60 = .ok (.iconst 4, 1) := by decide +kernel
theorem dX5_kindBy_61 : decode cX5_kindBy 61 = .ok (.ireturn, 1) := by decide +kernel
theorem dX5_kindBy_62 : decode cX5_kindBy 62 = .ok (.iconst (-1), 1) := by decide +kernel
theorem dX5_kindBy_63 : decode cX5_kindBy 63 = .ok (.ireturn, 1) := by decide +kernel
theorem dX5_at_0 : decode cX5_at 0 = .ok (.iload_n 1, 1) := by decide +kernel
theorem dX5_at_1 : decode cX5_at 1 = .ok (.aload_n 0, 1) := by decide +kernel
theorem dX5_at_2 : decode cX5_at 2 = .ok (.getfield 100, 3) := by decide +kernel
theorem dX5_at_5 : decode cX5_at 5 = .ok (.if_icmp .ge 12, 3) := by decide +kernel
theorem dX5_at_8 : decode cX5_at 8 = .ok (.aload_n 0, 1) := by decide +kernel
theorem dX5_at_9 : decode cX5_at 9 = .ok (.getfield 40, 3) := by decide +kernel
theorem dX5_at_12 : decode cX5_at 12 = .ok (.iload_n 1, 1) := by decide +kernel
theorem dX5_at_13 : decode cX5_at 13 = .ok (.baload, 1) := by decide +kernel
theorem dX5_at_14 : decode cX5_at 14 = .ok (.goto 4, 3) := by decide +kernel
theorem dX5_at_17 : decode cX5_at 17 = .ok (.iconst 0, 1) := by decide +kernel
theorem dX5_at_18 : decode cX5_at 18 = .ok (.ireturn, 1) := by decide +kernel
theorem dX5_isFigure_0 : decode cX5_isFigure 0 = .ok (.aload_n 0, 1) := by decide +kernel
theorem dX5_isFigure_1 : decode cX5_isFigure 1 = .ok (.iload_n 1, 1) := by decide +kernel
theorem dX5_isFigure_2 : decode cX5_isFigure 2 = .ok (.invokevirtual 104, 3) := by decide +kernel
theorem dX5_isFigure_5 : decode cX5_isFigure 5 = .ok (.bipush 48, 2) := by decide +kernel
theorem dX5_isFigure_7 : decode cX5_isFigure 7 = .ok (.isub, 1) := by decide +kernel
theorem dX5_isFigure_8 : decode cX5_isFigure 8 = .ok (.iload_n 2, 1) := by decide +kernel
theorem dX5_isFigure_9 : decode cX5_isFigure 9 = .ok (.iload_n 3, 1) := by decide +kernel
theorem dX5_isFigure_10 : decode cX5_isFigure 10 = .ok (.invokestatic 96, 3) := by decide +kernel
theorem dX5_isFigure_13 : decode cX5_isFigure 13 = .ok (.ireturn, 1) := by decide +kernel
theorem dX5_readWeights_0 : decode cX5_readWeights 0 = .ok (.iload_n 1, 1) := by decide +kernel
theorem dX5_readWeights_1 : decode cX5_readWeights 1 = .ok (.istore_n 2, 1) := by decide +kernel
theorem dX5_readWeights_2 : decode cX5_readWeights 2 = .ok (.aload_n 0, 1) := by decide +kernel
theorem dX5_readWeights_3 : decode cX5_readWeights 3 = .ok (.getfield 108, 3) := by decide +kernel
theorem dX5_readWeights_6 : decode cX5_readWeights 6 = .ok (.iconst 5, 1) := by decide +kernel
theorem dX5_readWeights_7 : decode cX5_readWeights 7 = .ok (.if_icmp .ge 127, 3) := by decide +kernel
theorem dX5_readWeights_10 : decode cX5_readWeights 10 = .ok (.aload_n 0, 1) := by decide +kernel
theorem dX5_readWeights_11 : decode cX5_readWeights 11 = .ok (.iload_n 2, 1) := by decide +kernel
theorem dX5_readWeights_12 : decode cX5_readWeights 12 = .ok (.invokevirtual 104, 3) := by decide +kernel
theorem dX5_readWeights_15 : decode cX5_readWeights 15 = .ok (.invokestatic 111, 3) := by decide +kernel
theorem dX5_readWeights_18 : decode cX5_readWeights 18 = .ok (.iconst (-1), 1) := by decide +kernel
theorem dX5_readWeights_19 : decode cX5_readWeights 19 = .ok (.if_icmp .ne 5, 3) := by decide +kernel
theorem dX5_readWeights_22 : decode cX5_readWeights 22 = .ok (.iload_n 2, 1) := by decide +kernel
theorem dX5_readWeights_23 : decode cX5_readWeights 23 = .ok (.ireturn, 1) := by decide +kernel
theorem dX5_readWeights_24 : decode cX5_readWeights 24 = .ok (.aload_n 0, 1) := by decide +kernel
theorem dX5_readWeights_25 : decode cX5_readWeights 25 = .ok (.iload_n 2, 1) := by decide +kernel
theorem dX5_readWeights_26 : decode cX5_readWeights 26 = .ok (.iconst 1, 1) := by decide +kernel
theorem dX5_readWeights_27 : decode cX5_readWeights 27 = .ok (.iadd, 1) := by decide +kernel
theorem dX5_readWeights_28 : decode cX5_readWeights 28 = .ok (.iconst 1, 1) := by decide +kernel
theorem dX5_readWeights_29 : decode cX5_readWeights 29 = .ok (.bipush 9, 2) := by decide +kernel
theorem dX5_readWeights_31 : decode cX5_readWeights 31 = .ok (.invokevirtual 114, 3) := by decide +kernel
theorem dX5_readWeights_34 : decode cX5_readWeights 34 = .ok (.ifCond .ne 7, 3) := by decide +kernel
theorem dX5_readWeights_37 : decode cX5_readWeights 37 = .ok (.iload_n 2, 1) := by decide +kernel
theorem dX5_readWeights_38 : decode cX5_readWeights 38 = .ok (.iconst 1, 1) := by decide +kernel
theorem dX5_readWeights_39 : decode cX5_readWeights 39 = .ok (.iadd, 1) := by decide +kernel
theorem dX5_readWeights_40 : decode cX5_readWeights 40 = .ok (.ireturn, 1) := by decide +kernel
theorem dX5_readWeights_41 : decode cX5_readWeights 41 = .ok (.aload_n 0, 1) := by decide +kernel
theorem dX5_readWeights_42 : decode cX5_readWeights 42 = .ok (.iload_n 2, 1) := by decide +kernel
theorem dX5_readWeights_43 : decode cX5_readWeights 43 = .ok (.iconst 2, 1) := by decide +kernel
theorem dX5_readWeights_44 : decode cX5_readWeights 44 = .ok (.iadd, 1) := by decide +kernel
theorem dX5_readWeights_45 : decode cX5_readWeights 45 = .ok (.iconst 0, 1) := by decide +kernel
theorem dX5_readWeights_46 : decode cX5_readWeights 46 = .ok (.aload_n 0, 1) := by decide +kernel
theorem dX5_readWeights_47 : decode cX5_readWeights 47 = .ok (.getfield 117, 3) := by decide +kernel
theorem dX5_readWeights_50 : decode cX5_readWeights 50 = .ok (.iconst 1, 1) := by decide +kernel
theorem dX5_readWeights_51 : decode cX5_readWeights 51 = .ok (.isub, 1) := by decide +kernel
theorem dX5_readWeights_52 : decode cX5_readWeights 52 = .ok (.invokevirtual 114, 3) := by decide +kernel
theorem dX5_readWeights_55 : decode cX5_readWeights 55 = .ok (.ifCond .ne 7, 3) := by decide +kernel
theorem dX5_readWeights_58 : decode cX5_readWeights 58 = .ok (.iload_n 2, 1) := by decide +kernel
theorem dX5_readWeights_59 : decode cX5_readWeights 59 = .ok (.iconst 2, 1) := by decide +kernel
theorem dX5_readWeights_60 : decode cX5_readWeights 60 = .ok (.iadd, 1) := by decide +kernel
theorem dX5_readWeights_61 : decode cX5_readWeights 61 = .ok (.ireturn, 1) := by decide +kernel
theorem dX5_readWeights_62 : decode cX5_readWeights 62 = .ok (.aload_n 0, 1) := by decide +kernel
theorem dX5_readWeights_63 : decode cX5_readWeights 63 = .ok (.iload_n 2, 1) := by decide +kernel
theorem dX5_readWeights_64 : decode cX5_readWeights 64 = .ok (.iconst 3, 1) := by decide +kernel
theorem dX5_readWeights_65 : decode cX5_readWeights 65 = .ok (.iadd, 1) := by decide +kernel
theorem dX5_readWeights_66 : decode cX5_readWeights 66 = .ok (.iconst 0, 1) := by decide +kernel
theorem dX5_readWeights_67 : decode cX5_readWeights 67 = .ok (.iconst 4, 1) := by decide +kernel
theorem dX5_readWeights_68 : decode cX5_readWeights 68 = .ok (.invokevirtual 114, 3) := by decide +kernel
theorem dX5_readWeights_71 : decode cX5_readWeights 71 = .ok (.ifCond .ne 7, 3) := by decide +kernel
theorem dX5_readWeights_74 : decode cX5_readWeights 74 = .ok (.iload_n 2, 1) := by decide +kernel
theorem dX5_readWeights_75 : decode cX5_readWeights 75 = .ok (.iconst 3, 1) := by decide +kernel
theorem dX5_readWeights_76 : decode cX5_readWeights 76 = .ok (.iadd, 1) := by decide +kernel
theorem dX5_readWeights_77 : decode cX5_readWeights 77 = .ok (.ireturn, 1) := by decide +kernel
theorem dX5_readWeights_78 : decode cX5_readWeights 78 = .ok (.aload_n 0, 1) := by decide +kernel
theorem dX5_readWeights_79 : decode cX5_readWeights 79 = .ok (.dup, 1) := by decide +kernel
theorem dX5_readWeights_80 : decode cX5_readWeights 80 = .ok (.getfield 108, 3) := by decide +kernel
theorem dX5_readWeights_83 : decode cX5_readWeights 83 = .ok (.iconst 1, 1) := by decide +kernel
theorem dX5_readWeights_84 : decode cX5_readWeights 84 = .ok (.iadd, 1) := by decide +kernel
theorem dX5_readWeights_85 : decode cX5_readWeights 85 = .ok (.putfield 108, 3) := by decide +kernel
theorem dX5_readWeights_88 : decode cX5_readWeights 88 = .ok (.iinc 2 4, 3) := by decide +kernel
theorem dX5_readWeights_91 : decode cX5_readWeights 91 = .ok (.aload_n 0, 1) := by decide +kernel
theorem dX5_readWeights_92 : decode cX5_readWeights 92 = .ok (.iload_n 2, 1) := by decide +kernel
theorem dX5_readWeights_93 : decode cX5_readWeights 93 = .ok (.aload_n 0, 1) := by decide +kernel
theorem dX5_readWeights_94 : decode cX5_readWeights 94 = .ok (.getfield 100, 3) := by decide +kernel
theorem dX5_readWeights_97 : decode cX5_readWeights 97 = .ok (.if_icmp .ne 7, 3) := by decide +kernel
theorem dX5_readWeights_100 : decode cX5_readWeights 100 = .ok (.iconst 1, 1) := by decide +kernel
theorem dX5_readWeights_101 : decode cX5_readWeights 101 = .ok (.goto 4, 3) := by decide +kernel
theorem dX5_readWeights_104 : decode cX5_readWeights 104 = .ok (.iconst 0, 1) := by decide +kernel
theorem dX5_readWeights_105 : decode cX5_readWeights 105 = .ok (.putfield 120, 3) := by decide +kernel
theorem dX5_readWeights_108 : decode cX5_readWeights 108 = .ok (.aload_n 0, 1) := by decide +kernel
theorem dX5_readWeights_109 : decode cX5_readWeights 109 = .ok (.getfield 108, 3) := by decide +kernel
theorem dX5_readWeights_112 : decode cX5_readWeights 112 = .ok (.iconst 5, 1) := by decide +kernel
theorem dX5_readWeights_113 : decode cX5_readWeights 113 = .ok (.if_icmp .eq 13, 3) := by decide +kernel
theorem dX5_readWeights_116 : decode cX5_readWeights 116 = .ok (.aload_n 0, 1) := by decide +kernel
theorem dX5_readWeights_117 : decode cX5_readWeights 117 = .ok (.iload_n 2, 1) := by decide +kernel
theorem dX5_readWeights_118 : decode cX5_readWeights 118 = .ok (.invokevirtual 104, 3) := by decide +kernel
theorem dX5_readWeights_121 : decode cX5_readWeights 121 = .ok (.bipush 44, 2) := by decide +kernel
theorem dX5_readWeights_123 : decode cX5_readWeights 123 = .ok (.if_icmp .eq 5, 3) := by decide +kernel
theorem dX5_readWeights_126 : decode cX5_readWeights 126 = .ok (.iload_n 2, 1) := by decide +kernel
theorem dX5_readWeights_127 : decode cX5_readWeights 127 = .ok (.ireturn, 1) := by decide +kernel
theorem dX5_readWeights_128 : decode cX5_readWeights 128 = .ok (.iinc 2 1, 3) := by decide +kernel
theorem dX5_readWeights_131 : decode cX5_readWeights 131 = .ok (.goto (-129), 3) := by decide +kernel
theorem dX5_readWeights_134 : decode cX5_readWeights 134 = .ok (.iload_n 2, 1) := by decide +kernel
theorem dX5_readWeights_135 : decode cX5_readWeights 135 = .ok (.ireturn, 1) := by decide +kernel
theorem dX5_read_0 : decode cX5_read 0 = .ok (.aload_n 0, 1) := by decide +kernel
theorem dX5_read_1 : decode cX5_read 1 = .ok (.iconst 0, 1) := by decide +kernel
theorem dX5_read_2 : decode cX5_read 2 = .ok (.putfield 120, 3) := by decide +kernel
theorem dX5_read_5 : decode cX5_read 5 = .ok (.aload_n 0, 1) := by decide +kernel
theorem dX5_read_6 : decode cX5_read 6 = .ok (.iconst 0, 1) := by decide +kernel
theorem dX5_read_7 : decode cX5_read 7 = .ok (.putfield 117, 3) := by decide +kernel
theorem dX5_read_10 : decode cX5_read 10 = .ok (.aload_n 0, 1) := by decide +kernel
theorem dX5_read_11 : decode cX5_read 11 = .ok (.iconst 0, 1) := by decide +kernel
theorem dX5_read_12 : decode cX5_read 12 = .ok (.putfield 108, 3) := by decide +kernel
theorem dX5_read_15 : decode cX5_read 15 = .ok (.iconst 0, 1) := by decide +kernel
theorem dX5_read_16 : decode cX5_read 16 = .ok (.istore_n 1, 1) := by decide +kernel
theorem dX5_read_17 : decode cX5_read 17 = .ok (.aload_n 0, 1) := by decide +kernel
theorem dX5_read_18 : decode cX5_read 18 = .ok (.getfield 117, 3) := by decide +kernel
theorem dX5_read_21 : decode cX5_read 21 = .ok (.iconst 4, 1) := by decide +kernel
theorem dX5_read_22 : decode cX5_read 22 = .ok (.if_icmp .ge 81, 3) := by decide +kernel
theorem dX5_read_25 : decode cX5_read 25 = .ok (.aload_n 0, 1) := by decide +kernel
theorem dX5_read_26 : decode cX5_read 26 = .ok (.iload_n 1, 1) := by decide +kernel
theorem dX5_read_27 : decode cX5_read 27 = .ok (.iconst 0, 1) := by decide +kernel
theorem dX5_read_28 : decode cX5_read 28 = .ok (.bipush 9, 2) := by decide +kernel
theorem dX5_read_30 : decode cX5_read 30 = .ok (.invokevirtual 114, 3) := by decide +kernel
theorem dX5_read_33 : decode cX5_read 33 = .ok (.ifCond .ne 5, 3) := by decide +kernel
theorem dX5_read_36 : decode cX5_read 36 = .ok (.iload_n 1, 1) := by decide +kernel
theorem dX5_read_37 : decode cX5_read 37 = .ok (.ireturn, 1) := by decide +kernel
theorem dX5_read_38 : decode cX5_read 38 = .ok (.aload_n 0, 1) := by decide +kernel
theorem dX5_read_39 : decode cX5_read 39 = .ok (.dup, 1) := by decide +kernel
theorem dX5_read_40 : decode cX5_read 40 = .ok (.getfield 117, 3) := by decide +kernel
theorem dX5_read_43 : decode cX5_read 43 = .ok (.iconst 1, 1) := by decide +kernel
theorem dX5_read_44 : decode cX5_read 44 = .ok (.iadd, 1) := by decide +kernel
theorem dX5_read_45 : decode cX5_read 45 = .ok (.putfield 117, 3) := by decide +kernel
theorem dX5_read_48 : decode cX5_read 48 = .ok (.iinc 1 1, 3) := by decide +kernel
theorem dX5_read_51 : decode cX5_read 51 = .ok (.aload_n 0, 1) := by decide +kernel
theorem dX5_read_52 : decode cX5_read 52 = .ok (.iload_n 1, 1) := by decide +kernel
theorem dX5_read_53 : decode cX5_read 53 = .ok (.invokevirtual 104, 3) := by decide +kernel
theorem dX5_read_56 : decode cX5_read 56 = .ok (.bipush 59, 2) := by decide +kernel
theorem dX5_read_58 : decode cX5_read 58 = .ok (.if_icmp .ne 19, 3) := by decide +kernel
theorem dX5_read_61 : decode cX5_read 61 = .ok (.aload_n 0, 1) := by decide +kernel
theorem dX5_read_62 : decode cX5_read 62 = .ok (.getfield 117, 3) := by decide +kernel
theorem dX5_read_65 : decode cX5_read 65 = .ok (.iconst 1, 1) := by decide +kernel
theorem dX5_read_66 : decode cX5_read 66 = .ok (.if_icmp .le 11, 3) := by decide +kernel
theorem dX5_read_69 : decode cX5_read 69 = .ok (.aload_n 0, 1) := by decide +kernel
theorem dX5_read_70 : decode cX5_read 70 = .ok (.iload_n 1, 1) := by decide +kernel
theorem dX5_read_71 : decode cX5_read 71 = .ok (.iconst 1, 1) := by decide +kernel
theorem dX5_read_72 : decode cX5_read 72 = .ok (.iadd, 1) := by decide +kernel
theorem dX5_read_73 : decode cX5_read 73 = .ok (.invokevirtual 124, 3) := by decide +kernel
theorem dX5_read_76 : decode cX5_read 76 = .ok (.ireturn, 1) := by decide +kernel
theorem dX5_read_77 : decode cX5_read 77 = .ok (.aload_n 0, 1) := by decide +kernel
theorem dX5_read_78 : decode cX5_read 78 = .ok (.getfield 117, 3) := by decide +kernel
theorem dX5_read_81 : decode cX5_read 81 = .ok (.iconst 4, 1) := by decide +kernel
theorem dX5_read_82 : decode cX5_read 82 = .ok (.if_icmp .eq 13, 3) := by decide +kernel
theorem dX5_read_85 : decode cX5_read 85 = .ok (.aload_n 0, 1) := by decide +kernel
theorem dX5_read_86 : decode cX5_read 86 = .ok (.iload_n 1, 1) := by decide +kernel
theorem dX5_read_87 : decode cX5_read 87 = .ok (.invokevirtual 104, 3) := by decide +kernel
theorem dX5_read_90 : decode cX5_read 90 = .ok (.bipush 44, 2) := by decide +kernel
theorem dX5_read_92 : decode cX5_read 92 = .ok (.if_icmp .eq 5, 3) := by decide +kernel
theorem dX5_read_95 : decode cX5_read 95 = .ok (.iload_n 1, 1) := by decide +kernel
theorem dX5_read_96 : decode cX5_read 96 = .ok (.ireturn, 1) := by decide +kernel
theorem dX5_read_97 : decode cX5_read 97 = .ok (.iinc 1 1, 3) := by decide +kernel
theorem dX5_read_100 : decode cX5_read 100 = .ok (.goto (-83), 3) := by decide +kernel
theorem dX5_read_103 : decode cX5_read 103 = .ok (.iload_n 1, 1) := by decide +kernel
theorem dX5_read_104 : decode cX5_read 104 = .ok (.ireturn, 1) := by decide +kernel
theorem dX5_fault_0 : decode cX5_fault 0 = .ok (.aload_n 0, 1) := by decide +kernel
theorem dX5_fault_1 : decode cX5_fault 1 = .ok (.invokevirtual 127, 3) := by decide +kernel
theorem dX5_fault_4 : decode cX5_fault 4 = .ok (.ireturn, 1) := by decide +kernel
theorem dX5_table_0 : decode cX5_table 0 = .ok (.aload_n 0, 1) := by decide +kernel
theorem dX5_table_1 : decode cX5_table 1 = .ok (.invokevirtual 127, 3) := by decide +kernel
theorem dX5_table_4 : decode cX5_table 4 = .ok (.pop, 1) := by decide +kernel
theorem dX5_table_5 : decode cX5_table 5 = .ok (.aload_n 0, 1) := by decide +kernel
theorem dX5_table_6 : decode cX5_table 6 = .ok (.getfield 120, 3) := by decide +kernel
theorem dX5_table_9 : decode cX5_table 9 = .ok (.ifCond .ne 6, 3) := by decide +kernel
theorem dX5_table_12 : decode cX5_table 12 = .ok (.bipush (-103), 2) := by decide +kernel
theorem dX5_table_14 : decode cX5_table 14 = .ok (.ireturn, 1) := by decide +kernel
theorem dX5_table_15 : decode cX5_table 15 = .ok (.aload_n 0, 1) := by decide +kernel
theorem dX5_table_16 : decode cX5_table 16 = .ok (.aload_n 0, 1) := by decide +kernel
theorem dX5_table_17 : decode cX5_table 17 = .ok (.getfield 117, 3) := by decide +kernel
theorem dX5_table_20 : decode cX5_table 20 = .ok (.putfield 131, 3) := by decide +kernel
theorem dX5_table_23 : decode cX5_table 23 = .ok (.aload_n 0, 1) := by decide +kernel
theorem dX5_table_24 : decode cX5_table 24 = .ok (.aload_n 0, 1) := by decide +kernel
theorem dX5_table_25 : decode cX5_table 25 = .ok (.getfield 108, 3) := by decide +kernel
theorem dX5_table_28 : decode cX5_table 28 = .ok (.putfield 134, 3) := by decide +kernel
theorem dX5_table_31 : decode cX5_table 31 = .ok (.iconst 0, 1) := by decide +kernel
theorem dX5_table_32 : decode cX5_table 32 = .ok (.istore_n 1, 1) := by decide +kernel
theorem dX5_table_33 : decode cX5_table 33 = .ok (.iload_n 1, 1) := by decide +kernel
theorem dX5_table_34 : decode cX5_table 34 = .ok (.aload_n 0, 1) := by decide +kernel
theorem dX5_table_35 : decode cX5_table 35 = .ok (.getfield 131, 3) := by decide +kernel
theorem dX5_table_38 : decode cX5_table 38 = .ok (.if_icmp .ge 26, 3) := by decide +kernel
theorem dX5_table_41 : decode cX5_table 41 = .ok (.aload_n 0, 1) := by decide +kernel
theorem dX5_table_42 : decode cX5_table 42 = .ok (.getfield 7, 3) := by decide +kernel
theorem dX5_table_45 : decode cX5_table 45 = .ok (.iload_n 1, 1) := by decide +kernel
theorem dX5_table_46 : decode cX5_table 46 = .ok (.aload_n 0, 1) := by decide +kernel
theorem dX5_table_47 : decode cX5_table 47 = .ok (.getfield 40, 3) := by decide +kernel
theorem dX5_table_50 : decode cX5_table 50 = .ok (.iconst 2, 1) := by decide +kernel
theorem dX5_table_51 : decode cX5_table 51 = .ok (.iload_n 1, 1) := by decide +kernel
theorem dX5_table_52 : decode cX5_table 52 = .ok (.imul, 1) := by decide +kernel
theorem dX5_table_53 : decode cX5_table 53 = .ok (.baload, 1) := by decide +kernel
theorem dX5_table_54 : decode cX5_table 54 = .ok (.bipush 48, 2) := by decide +kernel
theorem dX5_table_56 : decode cX5_table 56 = .ok (.isub, 1) := by decide +kernel
theorem dX5_table_57 : decode cX5_table 57 = .ok (.iastore, 1) := by decide +kernel
theorem dX5_table_58 : decode cX5_table 58 = .ok (.iinc 1 1, 3) := by decide +kernel
theorem dX5_table_61 : decode cX5_table 61 = .ok (.goto (-28), 3) := by decide +kernel
theorem dX5_table_64 : decode cX5_table 64 = .ok (.iconst 2, 1) := by decide +kernel
theorem dX5_table_65 : decode cX5_table 65 = .ok (.aload_n 0, 1) := by decide +kernel
theorem dX5_table_66 : decode cX5_table 66 = .ok (.getfield 131, 3) := by decide +kernel
theorem dX5_table_69 : decode cX5_table 69 = .ok (.imul, 1) := by decide +kernel
theorem dX5_table_70 : decode cX5_table 70 = .ok (.istore_n 1, 1) := by decide +kernel
theorem dX5_table_71 : decode cX5_table 71 = .ok (.iconst 0, 1) := by decide +kernel
theorem dX5_table_72 : decode cX5_table 72 = .ok (.istore_n 2, 1) := by decide +kernel
theorem dX5_table_73 : decode cX5_table 73 = .ok (.iload_n 2, 1) := by decide +kernel
theorem dX5_table_74 : decode cX5_table 74 = .ok (.aload_n 0, 1) := by decide +kernel
theorem dX5_table_75 : decode cX5_table 75 = .ok (.getfield 134, 3) := by decide +kernel
theorem dX5_table_78 : decode cX5_table 78 = .ok (.if_icmp .ge 98, 3) := by decide +kernel
theorem dX5_table_81 : decode cX5_table 81 = .ok (.aload_n 0, 1) := by decide +kernel
theorem dX5_table_82 : decode cX5_table 82 = .ok (.getfield 13, 3) := by decide +kernel
theorem dX5_table_85 : decode cX5_table 85 = .ok (.iload_n 2, 1) := by decide +kernel
theorem dX5_table_86 : decode cX5_table 86 = .ok (.aload_n 0, 1) := by decide +kernel
theorem dX5_table_87 : decode cX5_table 87 = .ok (.getfield 40, 3) := by decide +kernel
theorem dX5_table_90 : decode cX5_table 90 = .ok (.iload_n 1, 1) := by decide +kernel
theorem dX5_table_91 : decode cX5_table 91 = .ok (.iconst 5, 1) := by decide +kernel
theorem dX5_table_92 : decode cX5_table 92 = .ok (.iload_n 2, 1) := by decide +kernel
theorem dX5_table_93 : decode cX5_table 93 = .ok (.imul, 1) := by decide +kernel
theorem dX5_table_94 : decode cX5_table 94 = .ok (.iadd, 1) := by decide +kernel
theorem dX5_table_95 : decode cX5_table 95 = .ok (.baload, 1) := by decide +kernel
theorem dX5_table_96 : decode cX5_table 96 = .ok (.invokestatic 111, 3) := by decide +kernel
theorem dX5_table_99 : decode cX5_table 99 = .ok (.iastore, 1) := by decide +kernel
theorem dX5_table_100 : decode cX5_table 100 = .ok (.aload_n 0, 1) := by decide +kernel
theorem dX5_table_101 : decode cX5_table 101 = .ok (.getfield 16, 3) := by decide +kernel
theorem dX5_table_104 : decode cX5_table 104 = .ok (.iload_n 2, 1) := by decide +kernel
theorem dX5_table_105 : decode cX5_table 105 = .ok (.aload_n 0, 1) := by decide +kernel
theorem dX5_table_106 : decode cX5_table 106 = .ok (.getfield 40, 3) := by decide +kernel
theorem dX5_table_109 : decode cX5_table 109 = .ok (.iload_n 1, 1) := by decide +kernel
theorem dX5_table_110 : decode cX5_table 110 = .ok (.iconst 5, 1) := by decide +kernel
theorem dX5_table_111 : decode cX5_table 111 = .ok (.iload_n 2, 1) := by decide +kernel
theorem dX5_table_112 : decode cX5_table 112 = .ok (.imul, 1) := by decide +kernel
theorem dX5_table_113 : decode cX5_table 113 = .ok (.iadd, 1) := by decide +kernel
theorem dX5_table_114 : decode cX5_table 114 = .ok (.iconst 1, 1) := by decide +kernel
theorem dX5_table_115 : decode cX5_table 115 = .ok (.iadd, 1) := by decide +kernel
theorem dX5_table_116 : decode cX5_table 116 = .ok (.baload, 1) := by decide +kernel
theorem dX5_table_117 : decode cX5_table 117 = .ok (.bipush 48, 2) := by decide +kernel
theorem dX5_table_119 : decode cX5_table 119 = .ok (.isub, 1) := by decide +kernel
theorem dX5_table_120 : decode cX5_table 120 = .ok (.iastore, 1) := by decide +kernel
theorem dX5_table_121 : decode cX5_table 121 = .ok (.aload_n 0, 1) := by decide +kernel
theorem dX5_table_122 : decode cX5_table 122 = .ok (.getfield 19, 3) := by decide +kernel
theorem dX5_table_125 : decode cX5_table 125 = .ok (.iload_n 2, 1) := by decide +kernel
theorem dX5_table_126 : decode cX5_table 126 = .ok (.aload_n 0, 1) := by decide +kernel
theorem dX5_table_127 : decode cX5_table 127 = .ok (.getfield 40, 3) := by decide +kernel
theorem dX5_table_130 : decode cX5_table 130 = .ok (.iload_n 1, 1) := by decide +kernel
theorem dX5_table_131 : decode cX5_table 131 = .ok (.iconst 5, 1) := by decide +kernel
theorem dX5_table_132 : decode cX5_table 132 = .ok (.iload_n 2, 1) := by decide +kernel
theorem dX5_table_133 : decode cX5_table 133 = .ok (.imul, 1) := by decide +kernel
theorem dX5_table_134 : decode cX5_table 134 = .ok (.iadd, 1) := by decide +kernel
theorem dX5_table_135 : decode cX5_table 135 = .ok (.iconst 2, 1) := by decide +kernel
theorem dX5_table_136 : decode cX5_table 136 = .ok (.iadd, 1) := by decide +kernel
theorem dX5_table_137 : decode cX5_table 137 = .ok (.baload, 1) := by decide +kernel
theorem dX5_table_138 : decode cX5_table 138 = .ok (.bipush 48, 2) := by decide +kernel
theorem dX5_table_140 : decode cX5_table 140 = .ok (.isub, 1) := by decide +kernel
theorem dX5_table_141 : decode cX5_table 141 = .ok (.iastore, 1) := by decide +kernel
theorem dX5_table_142 : decode cX5_table 142 = .ok (.aload_n 0, 1) := by decide +kernel
theorem dX5_table_143 : decode cX5_table 143 = .ok (.getfield 22, 3) := by decide +kernel
theorem dX5_table_146 : decode cX5_table 146 = .ok (.iload_n 2, 1) := by decide +kernel
theorem dX5_table_147 : decode cX5_table 147 = .ok (.aload_n 0, 1) := by decide +kernel
theorem dX5_table_148 : decode cX5_table 148 = .ok (.getfield 40, 3) := by decide +kernel
theorem dX5_table_151 : decode cX5_table 151 = .ok (.iload_n 1, 1) := by decide +kernel
theorem dX5_table_152 : decode cX5_table 152 = .ok (.iconst 5, 1) := by decide +kernel
theorem dX5_table_153 : decode cX5_table 153 = .ok (.iload_n 2, 1) := by decide +kernel
theorem dX5_table_154 : decode cX5_table 154 = .ok (.imul, 1) := by decide +kernel
theorem dX5_table_155 : decode cX5_table 155 = .ok (.iadd, 1) := by decide +kernel
theorem dX5_table_156 : decode cX5_table 156 = .ok (.iconst 3, 1) := by decide +kernel
theorem dX5_table_157 : decode cX5_table 157 = .ok (.iadd, 1) := by decide +kernel
theorem dX5_table_158 : decode cX5_table 158 = .ok (.baload, 1) := by decide +kernel
theorem dX5_table_159 : decode cX5_table 159 = .ok (.bipush 48, 2) := by decide +kernel
theorem dX5_table_161 : decode cX5_table 161 = .ok (.isub, 1) := by decide +kernel
theorem dX5_table_162 : decode cX5_table 162 = .ok (.iastore, 1) := by decide +kernel
theorem dX5_table_163 : decode cX5_table 163 = .ok (.aload_n 0, 1) := by decide +kernel
theorem dX5_table_164 : decode cX5_table 164 = .ok (.getfield 25, 3) := by decide +kernel
theorem dX5_table_167 : decode cX5_table 167 = .ok (.iload_n 2, 1) := by decide +kernel
theorem dX5_table_168 : decode cX5_table 168 = .ok (.iconst 0, 1) := by decide +kernel
theorem dX5_table_169 : decode cX5_table 169 = .ok (.iastore, 1) := by decide +kernel
theorem dX5_table_170 : decode cX5_table 170 = .ok (.iinc 2 1, 3) := by decide +kernel
theorem dX5_table_173 : decode cX5_table 173 = .ok (.goto (-100), 3) := by decide +kernel
theorem dX5_table_176 : decode cX5_table 176 = .ok (.aload_n 0, 1) := by decide +kernel
theorem dX5_table_177 : decode cX5_table 177 = .ok (.iconst 0, 1) := by decide +kernel
theorem dX5_table_178 : decode cX5_table 178 = .ok (.putfield 137, 3) := by decide +kernel
theorem dX5_table_181 : decode cX5_table 181 = .ok (.aload_n 0, 1) := by decide +kernel
theorem dX5_table_182 : decode cX5_table 182 = .ok (.iconst 0, 1) := by decide +kernel
theorem dX5_table_183 : decode cX5_table 183 = .ok (.putfield 140, 3) := by decide +kernel
theorem dX5_table_186 : decode cX5_table 186 = .ok (.aload_n 0, 1) := by decide +kernel
theorem dX5_table_187 : decode cX5_table 187 = .ok (.iconst 0, 1) := by decide +kernel
theorem dX5_table_188 : decode cX5_table 188 = .ok (.putfield 143, 3) := by decide +kernel
theorem dX5_table_191 : decode cX5_table 191 = .ok (.aload_n 0, 1) := by decide +kernel
theorem dX5_table_192 : decode cX5_table 192 = .ok (.dup, 1) := by decide +kernel
theorem dX5_table_193 : decode cX5_table 193 = .ok (.getfield 146, 3) := by decide +kernel
theorem dX5_table_196 : decode cX5_table 196 = .ok (.iconst 1, 1) := by decide +kernel
theorem dX5_table_197 : decode cX5_table 197 = .ok (.iadd, 1) := by decide +kernel
theorem dX5_table_198 : decode cX5_table 198 = .ok (.putfield 146, 3) := by decide +kernel
theorem dX5_table_201 : decode cX5_table 201 = .ok (.aload_n 0, 1) := by decide +kernel
theorem dX5_table_202 : decode cX5_table 202 = .ok (.iconst 0, 1) := by decide +kernel
theorem dX5_table_203 : decode cX5_table 203 = .ok (.putfield 149, 3) := by decide +kernel
theorem dX5_table_206 : decode cX5_table 206 = .ok (.aload_n 0, 1) := by decide +kernel
theorem dX5_table_207 : decode cX5_table 207 = .ok (.iconst 0, 1) := by decide +kernel
theorem dX5_table_208 : decode cX5_table 208 = .ok (.putfield 100, 3) := by decide +kernel
theorem dX5_table_211 : decode cX5_table 211 = .ok (.aload_n 0, 1) := by decide +kernel
theorem dX5_table_212 : decode cX5_table 212 = .ok (.getfield 131, 3) := by decide +kernel
theorem dX5_table_215 : decode cX5_table 215 = .ok (.ireturn, 1) := by decide +kernel
theorem dX5_isVillage_0 : decode cX5_isVillage 0 = .ok (.iload_n 1, 1) := by decide +kernel
theorem dX5_isVillage_1 : decode cX5_isVillage 1 = .ok (.iconst 0, 1) := by decide +kernel
theorem dX5_isVillage_2 : decode cX5_isVillage 2 = .ok (.aload_n 0, 1) := by decide +kernel
theorem dX5_isVillage_3 : decode cX5_isVillage 3 = .ok (.getfield 131, 3) := by decide +kernel
theorem dX5_isVillage_6 : decode cX5_isVillage 6 = .ok (.iconst 1, 1) := by decide +kernel
theorem dX5_isVillage_7 : decode cX5_isVillage 7 = .ok (.isub, 1) := by decide +kernel
theorem dX5_isVillage_8 : decode cX5_isVillage 8 = .ok (.invokestatic 96, 3) := by decide +kernel
theorem dX5_isVillage_11 : decode cX5_isVillage 11 = .ok (.ireturn, 1) := by decide +kernel
theorem dX5_isWeight_0 : decode cX5_isWeight 0 = .ok (.iload_n 1, 1) := by decide +kernel
theorem dX5_isWeight_1 : decode cX5_isWeight 1 = .ok (.iconst 0, 1) := by decide +kernel
theorem dX5_isWeight_2 : decode cX5_isWeight 2 = .ok (.aload_n 0, 1) := by decide +kernel
theorem dX5_isWeight_3 : decode cX5_isWeight 3 = .ok (.getfield 134, 3) := by decide +kernel
theorem dX5_isWeight_6 : decode cX5_isWeight 6 = .ok (.iconst 1, 1) := by decide +kernel
theorem dX5_isWeight_7 : decode cX5_isWeight 7 = .ok (.isub, 1) := by decide +kernel
theorem dX5_isWeight_8 : decode cX5_isWeight 8 = .ok (.invokestatic 96, 3) := by decide +kernel
theorem dX5_isWeight_11 : decode cX5_isWeight 11 = .ok (.ireturn, 1) := by decide +kernel
theorem dX5_isWind_0 : decode cX5_isWind 0 = .ok (.iload_n 0, 1) := by decide +kernel
theorem dX5_isWind_1 : decode cX5_isWind 1 = .ok (.iconst 0, 1) := by decide +kernel
theorem dX5_isWind_2 : decode cX5_isWind 2 = .ok (.iconst 1, 1) := by decide +kernel
theorem dX5_isWind_3 : decode cX5_isWind 3 = .ok (.invokestatic 96, 3) := by decide +kernel
theorem dX5_isWind_6 : decode cX5_isWind 6 = .ok (.ifCond .eq 17, 3) := by decide +kernel
theorem dX5_isWind_9 : decode cX5_isWind 9 = .ok (.iload_n 1, 1) := by decide +kernel
theorem dX5_isWind_10 : decode cX5_isWind 10 = .ok (.iconst 0, 1) := by decide +kernel
theorem dX5_isWind_11 : decode cX5_isWind 11 = .ok (.bipush 99, 2) := by decide +kernel
theorem dX5_isWind_13 : decode cX5_isWind 13 = .ok (.invokestatic 96, 3) := by decide +kernel
theorem dX5_isWind_16 : decode cX5_isWind 16 = .ok (.ifCond .eq 7, 3) := by decide +kernel
theorem dX5_isWind_19 : decode cX5_isWind 19 = .ok (.iconst 1, 1) := by decide +kernel
theorem dX5_isWind_20 : decode cX5_isWind 20 = .ok (.goto 4, 3) := by decide +kernel
theorem dX5_isWind_23 : decode cX5_isWind 23 = .ok (.iconst 0, 1) := by decide +kernel
theorem dX5_isWind_24 : decode cX5_isWind 24 = .ok (.ireturn, 1) := by decide +kernel
theorem dX5_bears_0 : decode cX5_bears 0 = .ok (.aload_n 0, 1) := by decide +kernel
theorem dX5_bears_1 : decode cX5_bears 1 = .ok (.getfield 13, 3) := by decide +kernel
theorem dX5_bears_4 : decode cX5_bears 4 = .ok (.iload_n 1, 1) := by decide +kernel
theorem dX5_bears_5 : decode cX5_bears 5 = .ok (.iaload, 1) := by decide +kernel
theorem dX5_bears_6 : decode cX5_bears 6 = .ok (.tableswitch 56 1 4 #[30, 56, 39, 53], 30) := by decide +kernel
theorem dX5_bears_36 : decode cX5_bears 36 = .ok (.iconst 2, 1) := by decide +kernel
theorem dX5_bears_37 : decode cX5_bears 37 = .ok (.aload_n 0, 1) := by decide +kernel
theorem dX5_bears_38 : decode cX5_bears 38 = .ok (.getfield 16, 3) := by decide +kernel
theorem dX5_bears_41 : decode cX5_bears 41 = .ok (.iload_n 1, 1) := by decide +kernel
theorem dX5_bears_42 : decode cX5_bears 42 = .ok (.iaload, 1) := by decide +kernel
theorem dX5_bears_43 : decode cX5_bears 43 = .ok (.imul, 1) := by decide +kernel
theorem dX5_bears_44 : decode cX5_bears 44 = .ok (.ireturn, 1) := by decide +kernel
theorem dX5_bears_45 : decode cX5_bears 45 = .ok (.aload_n 0, 1) := by decide +kernel
theorem dX5_bears_46 : decode cX5_bears 46 = .ok (.getfield 16, 3) := by decide +kernel
theorem dX5_bears_49 : decode cX5_bears 49 = .ok (.iload_n 1, 1) := by decide +kernel
theorem dX5_bears_50 : decode cX5_bears 50 = .ok (.iaload, 1) := by decide +kernel
theorem dX5_bears_51 : decode cX5_bears 51 = .ok (.aload_n 0, 1) := by decide +kernel
theorem dX5_bears_52 : decode cX5_bears 52 = .ok (.getfield 25, 3) := by decide +kernel
theorem dX5_bears_55 : decode cX5_bears 55 = .ok (.iload_n 1, 1) := by decide +kernel
theorem dX5_bears_56 : decode cX5_bears 56 = .ok (.iaload, 1) := by decide +kernel
theorem dX5_bears_57 : decode cX5_bears 57 = .ok (.iadd, 1) := by decide +kernel
theorem dX5_bears_58 : decode cX5_bears 58 = .ok (.ireturn, 1) := by decide +kernel
theorem dX5_bears_59 : decode cX5_bears 59 = .ok (.bipush 100, 2) := by decide +kernel
theorem dX5_bears_61 : decode cX5_bears 61 = .ok (.ireturn, 1) := by decide +kernel
theorem dX5_bears_62 : decode cX5_bears 62 = .ok (.aload_n 0, 1) := by decide +kernel
theorem dX5_bears_63 : decode cX5_bears 63 = .ok (.getfield 16, 3) := by decide +kernel
theorem dX5_bears_66 : decode cX5_bears 66 = .ok (.iload_n 1, 1) := by decide +kernel
theorem dX5_bears_67 : decode cX5_bears 67 = .ok (.iaload, 1) := by decide +kernel
theorem dX5_bears_68 : decode cX5_bears 68 = .ok (.ireturn, 1) := by decide +kernel
theorem dX5_arm_0 : decode cX5_arm 0 = .ok (.iload_n 0, 1) := by decide +kernel
theorem dX5_arm_1 : decode cX5_arm 1 = .ok (.ifCond .ne 9, 3) := by decide +kernel
theorem dX5_arm_4 : decode cX5_arm 4 = .ok (.iconst 5, 1) := by decide +kernel
theorem dX5_arm_5 : decode cX5_arm 5 = .ok (.iload_n 1, 1) := by decide +kernel
theorem dX5_arm_6 : decode cX5_arm 6 = .ok (.isub, 1) := by decide +kernel
theorem dX5_arm_7 : decode cX5_arm 7 = .ok (.goto 6, 3) := by decide +kernel
theorem dX5_arm_10 : decode cX5_arm 10 = .ok (.iload_n 1, 1) := by decide +kernel
theorem dX5_arm_11 : decode cX5_arm 11 = .ok (.iconst 1, 1) := by decide +kernel
theorem dX5_arm_12 : decode cX5_arm 12 = .ok (.iadd, 1) := by decide +kernel
theorem dX5_arm_13 : decode cX5_arm 13 = .ok (.ireturn, 1) := by decide +kernel
theorem dX5_hold_0 : decode cX5_hold 0 = .ok (.iconst 3, 1) := by decide +kernel
theorem dX5_hold_1 : decode cX5_hold 1 = .ok (.aload_n 0, 1) := by decide +kernel
theorem dX5_hold_2 : decode cX5_hold 2 = .ok (.getfield 7, 3) := by decide +kernel
theorem dX5_hold_5 : decode cX5_hold 5 = .ok (.iload_n 1, 1) := by decide +kernel
theorem dX5_hold_6 : decode cX5_hold 6 = .ok (.iaload, 1) := by decide +kernel
theorem dX5_hold_7 : decode cX5_hold 7 = .ok (.imul, 1) := by decide +kernel
theorem dX5_hold_8 : decode cX5_hold 8 = .ok (.istore_n 3, 1) := by decide +kernel
theorem dX5_hold_9 : decode cX5_hold 9 = .ok (.iconst 0, 1) := by decide +kernel
theorem dX5_hold_10 : decode cX5_hold 10 = .ok (.istore 4, 2) := by decide +kernel
theorem dX5_hold_12 : decode cX5_hold 12 = .ok (.iload 4, 2) := by decide +kernel
theorem dX5_hold_14 : decode cX5_hold 14 = .ok (.aload_n 0, 1) := by decide +kernel
theorem dX5_hold_15 : decode cX5_hold 15 = .ok (.getfield 134, 3) := by decide +kernel
theorem dX5_hold_18 : decode cX5_hold 18 = .ok (.if_icmp .ge 45, 3) := by decide +kernel
theorem dX5_hold_21 : decode cX5_hold 21 = .ok (.iload_n 3, 1) := by decide +kernel
theorem dX5_hold_22 : decode cX5_hold 22 = .ok (.aload_n 0, 1) := by decide +kernel
theorem dX5_hold_23 : decode cX5_hold 23 = .ok (.getfield 19, 3) := by decide +kernel
theorem dX5_hold_26 : decode cX5_hold 26 = .ok (.iload 4, 2) := by decide +kernel
theorem dX5_hold_28 : decode cX5_hold 28 = .ok (.iaload, 1) := by decide +kernel
theorem dX5_hold_29 : decode cX5_hold 29 = .ok (.iload_n 1, 1) := by decide +kernel
theorem dX5_hold_30 : decode cX5_hold 30 = .ok (.if_icmp .ne 24, 3) := by decide +kernel
theorem dX5_hold_33 : decode cX5_hold 33 = .ok (.aload_n 0, 1) := by decide +kernel
theorem dX5_hold_34 : decode cX5_hold 34 = .ok (.iload 4, 2) := by decide +kernel
theorem dX5_hold_36 : decode cX5_hold 36 = .ok (.invokevirtual 152, 3) := by decide +kernel
theorem dX5_hold_39 : decode cX5_hold 39 = .ok (.iload_n 2, 1) := by decide +kernel
theorem dX5_hold_40 : decode cX5_hold 40 = .ok (.aload_n 0, 1) := by decide +kernel
theorem dX5_hold_41 : decode cX5_hold 41 = .ok (.getfield 22, 3) := by decide +kernel
theorem dX5_hold_44 : decode cX5_hold 44 = .ok (.iload 4, 2) := by decide +kernel
theorem dX5_hold_46 : decode cX5_hold 46 = .ok (.iaload, 1) := by decide +kernel
theorem dX5_hold_47 : decode cX5_hold 47 = .ok (.invokestatic 155, 3) := by decide +kernel
theorem dX5_hold_50 : decode cX5_hold 50 = .ok (.imul, 1) := by decide +kernel
theorem dX5_hold_51 : decode cX5_hold 51 = .ok (.goto 4, 3) := by decide +kernel
theorem dX5_hold_54 : decode cX5_hold 54 = .ok (.iconst 0, 1) := by decide +kernel
theorem dX5_hold_55 : decode cX5_hold 55 = .ok (.iadd, 1) := by decide +kernel
theorem dX5_hold_56 : decode cX5_hold 56 = .ok (.istore_n 3, 1) := by decide +kernel
theorem dX5_hold_57 : decode cX5_hold 57 = .ok (.iinc 4 1, 3) := by decide +kernel
theorem dX5_hold_60 : decode cX5_hold 60 = .ok (.goto (-48), 3) := by decide +kernel
theorem dX5_hold_63 : decode cX5_hold 63 = .ok (.iload_n 3, 1) := by decide +kernel
theorem dX5_hold_64 : decode cX5_hold 64 = .ok (.ireturn, 1) := by decide +kernel
theorem dX5_standBy_0 : decode cX5_standBy 0 = .ok (.iload_n 0, 1) := by decide +kernel
theorem dX5_standBy_1 : decode cX5_standBy 1 = .ok (.iconst 5, 1) := by decide +kernel
theorem dX5_standBy_2 : decode cX5_standBy 2 = .ok (.idiv, 1) := by decide +kernel
theorem dX5_standBy_3 : decode cX5_standBy 3 = .ok (.bipush 99, 2) := by decide +kernel
theorem dX5_standBy_5 : decode cX5_standBy 5 = .ok (.if_icmp .le 8, 3) := by decide +kernel
theorem dX5_standBy_8 : decode cX5_standBy 8 = .ok (.bipush 99, 2) := by decide +kernel
theorem dX5_standBy_10 : decode cX5_standBy 10 = .ok (.goto 6, 3) := by decide +kernel
theorem dX5_standBy_13 : decode cX5_standBy 13 = .ok (.iload_n 0, 1) := by decide +kernel
theorem dX5_standBy_14 : decode cX5_standBy 14 = .ok (.iconst 5, 1) := by decide +kernel
theorem dX5_standBy_15 : decode cX5_standBy 15 = .ok (.idiv, 1) := by decide +kernel
theorem dX5_standBy_16 : decode cX5_standBy 16 = .ok (.ireturn, 1) := by decide +kernel
theorem dX5_stand_0 : decode cX5_stand 0 = .ok (.aload_n 0, 1) := by decide +kernel
theorem dX5_stand_1 : decode cX5_stand 1 = .ok (.iload_n 1, 1) := by decide +kernel
theorem dX5_stand_2 : decode cX5_stand 2 = .ok (.iload_n 2, 1) := by decide +kernel
theorem dX5_stand_3 : decode cX5_stand 3 = .ok (.invokevirtual 159, 3) := by decide +kernel
theorem dX5_stand_6 : decode cX5_stand 6 = .ok (.invokestatic 162, 3) := by decide +kernel
theorem dX5_stand_9 : decode cX5_stand 9 = .ok (.ireturn, 1) := by decide +kernel
theorem dX5_leastOf_0 : decode cX5_leastOf 0 = .ok (.aload_n 0, 1) := by decide +kernel
theorem dX5_leastOf_1 : decode cX5_leastOf 1 = .ok (.iload_n 1, 1) := by decide +kernel
theorem dX5_leastOf_2 : decode cX5_leastOf 2 = .ok (.iconst 0, 1) := by decide +kernel
theorem dX5_leastOf_3 : decode cX5_leastOf 3 = .ok (.invokevirtual 165, 3) := by decide +kernel
theorem dX5_leastOf_6 : decode cX5_leastOf 6 = .ok (.istore_n 2, 1) := by decide +kernel
theorem dX5_leastOf_7 : decode cX5_leastOf 7 = .ok (.aload_n 0, 1) := by decide +kernel
theorem dX5_leastOf_8 : decode cX5_leastOf 8 = .ok (.iload_n 1, 1) := by decide +kernel
theorem dX5_leastOf_9 : decode cX5_leastOf 9 = .ok (.iconst 1, 1) := by decide +kernel
theorem dX5_leastOf_10 : decode cX5_leastOf 10 = .ok (.invokevirtual 165, 3) := by decide +kernel
theorem dX5_leastOf_13 : decode cX5_leastOf 13 = .ok (.istore_n 3, 1) := by decide +kernel
theorem dX5_leastOf_14 : decode cX5_leastOf 14 = .ok (.iload_n 2, 1) := by decide +kernel
theorem dX5_leastOf_15 : decode cX5_leastOf 15 = .ok (.iload_n 3, 1) := by decide +kernel
theorem dX5_leastOf_16 : decode cX5_leastOf 16 = .ok (.if_icmp .ge 7, 3) := by decide +kernel
theorem dX5_leastOf_19 : decode cX5_leastOf 19 = .ok (.iload_n 2, 1) := by decide +kernel
theorem dX5_leastOf_20 : decode cX5_leastOf 20 = .ok (.goto 4, 3) := by decide +kernel
theorem dX5_leastOf_23 : decode cX5_leastOf 23 = .ok (.iload_n 3, 1) := by decide +kernel
theorem dX5_leastOf_24 : decode cX5_leastOf 24 = .ok (.ireturn, 1) := by decide +kernel
theorem dX5_leastOfAll_0 : decode cX5_leastOfAll 0 = .ok (.ldc 168, 2) := by decide +kernel
theorem dX5_leastOfAll_2 : decode cX5_leastOfAll 2 = .ok (.istore_n 1, 1) := by decide +kernel
theorem dX5_leastOfAll_3 : decode cX5_leastOfAll 3 = .ok (.iconst 0, 1) := by decide +kernel
theorem dX5_leastOfAll_4 : decode cX5_leastOfAll 4 = .ok (.istore_n 2, 1) := by decide +kernel
theorem dX5_leastOfAll_5 : decode cX5_leastOfAll 5 = .ok (.iload_n 2, 1) := by decide +kernel
theorem dX5_leastOfAll_6 : decode cX5_leastOfAll 6 = .ok (.aload_n 0, 1) := by decide +kernel
theorem dX5_leastOfAll_7 : decode cX5_leastOfAll 7 = .ok (.getfield 131, 3) := by decide +kernel
theorem dX5_leastOfAll_10 : decode cX5_leastOfAll 10 = .ok (.if_icmp .ge 28, 3) := by decide +kernel
theorem dX5_leastOfAll_13 : decode cX5_leastOfAll 13 = .ok (.aload_n 0, 1) := by decide +kernel
theorem dX5_leastOfAll_14 : decode cX5_leastOfAll 14 = .ok (.iload_n 2, 1) := by decide +kernel
theorem dX5_leastOfAll_15 : decode cX5_leastOfAll 15 = .ok (.invokevirtual 169, 3) := by decide +kernel
theorem dX5_leastOfAll_18 : decode cX5_leastOfAll 18 = .ok (.iload_n 1, 1) := by decide +kernel
theorem dX5_leastOfAll_19 : decode cX5_leastOfAll 19 = .ok (.if_icmp .ge 11, 3) := by decide +kernel
theorem dX5_leastOfAll_22 : decode cX5_leastOfAll 22 = .ok (.aload_n 0, 1) := by decide +kernel
theorem dX5_leastOfAll_23 : decode cX5_leastOfAll 23 = .ok (.iload_n 2, 1) := by decide +kernel
theorem dX5_leastOfAll_24 : decode cX5_leastOfAll 24 = .ok (.invokevirtual 169, 3) := by decide +kernel
theorem dX5_leastOfAll_27 : decode cX5_leastOfAll 27 = .ok (.goto 4, 3) := by decide +kernel
theorem dX5_leastOfAll_30 : decode cX5_leastOfAll 30 = .ok (.iload_n 1, 1) := by decide +kernel
theorem dX5_leastOfAll_31 : decode cX5_leastOfAll 31 = .ok (.istore_n 1, 1) := by decide +kernel
theorem dX5_leastOfAll_32 : decode cX5_leastOfAll 32 = .ok (.iinc 2 1, 3) := by decide +kernel
theorem dX5_leastOfAll_35 : decode cX5_leastOfAll 35 = .ok (.goto (-30), 3) := by decide +kernel
theorem dX5_leastOfAll_38 : decode cX5_leastOfAll 38 = .ok (.aload_n 0, 1) := by decide +kernel
theorem dX5_leastOfAll_39 : decode cX5_leastOfAll 39 = .ok (.getfield 131, 3) := by decide +kernel
theorem dX5_leastOfAll_42 : decode cX5_leastOfAll 42 = .ok (.ifCond .ne 7, 3) := by decide +kernel
theorem dX5_leastOfAll_45 : decode cX5_leastOfAll 45 = .ok (.iconst 0, 1) := by decide +kernel
theorem dX5_leastOfAll_46 : decode cX5_leastOfAll 46 = .ok (.goto 4, 3) := by decide +kernel
theorem dX5_leastOfAll_49 : decode cX5_leastOfAll 49 = .ok (.iload_n 1, 1) := by decide +kernel
theorem dX5_leastOfAll_50 : decode cX5_leastOfAll 50 = .ok (.ireturn, 1) := by decide +kernel
theorem dX5_wouldLift_0 : decode cX5_wouldLift 0 = .ok (.aload_n 0, 1) := by decide +kernel
end
section
theorem dX5_wouldLift_1 : decode cX5_wouldLift 1 = .ok (.iload_n 1, 1) := by decide +kernel
theorem dX5_wouldLift_2 : decode cX5_wouldLift 2 = .ok (.iload_n 2, 1) := by decide +kernel
theorem dX5_wouldLift_3 : decode cX5_wouldLift 3 = .ok (.invokevirtual 159, 3) := by decide +kernel
theorem dX5_wouldLift_6 : decode cX5_wouldLift 6 = .ok (.iconst 5, 1) := by decide +kernel
theorem dX5_wouldLift_7 : decode cX5_wouldLift 7 = .ok (.iload_n 3, 1) := by decide +kernel
theorem dX5_wouldLift_8 : decode cX5_wouldLift 8 = .ok (.imul, 1) := by decide +kernel
theorem dX5_wouldLift_9 : decode cX5_wouldLift 9 = .ok (.if_icmp .ge 7, 3) := by decide +kernel
theorem dX5_wouldLift_12 : decode cX5_wouldLift 12 = .ok (.iconst 1, 1) := by decide +kernel
theorem dX5_wouldLift_13 : decode cX5_wouldLift 13 = .ok (.goto 4, 3) := by decide +kernel
theorem dX5_wouldLift_16 : decode cX5_wouldLift 16 = .ok (.iconst 0, 1) := by decide +kernel
theorem dX5_wouldLift_17 : decode cX5_wouldLift 17 = .ok (.ireturn, 1) := by decide +kernel
theorem dX5_there_0 : decode cX5_there 0 = .ok (.iconst 0, 1) := by decide +kernel
theorem dX5_there_1 : decode cX5_there 1 = .ok (.istore_n 2, 1) := by decide +kernel
theorem dX5_there_2 : decode cX5_there 2 = .ok (.iconst 0, 1) := by decide +kernel
theorem dX5_there_3 : decode cX5_there 3 = .ok (.istore_n 3, 1) := by decide +kernel
theorem dX5_there_4 : decode cX5_there 4 = .ok (.iload_n 3, 1) := by decide +kernel
theorem dX5_there_5 : decode cX5_there 5 = .ok (.aload_n 0, 1) := by decide +kernel
theorem dX5_there_6 : decode cX5_there 6 = .ok (.getfield 134, 3) := by decide +kernel
theorem dX5_there_9 : decode cX5_there 9 = .ok (.if_icmp .ge 29, 3) := by decide +kernel
theorem dX5_there_12 : decode cX5_there 12 = .ok (.iload_n 2, 1) := by decide +kernel
theorem dX5_there_13 : decode cX5_there 13 = .ok (.aload_n 0, 1) := by decide +kernel
theorem dX5_there_14 : decode cX5_there 14 = .ok (.getfield 19, 3) := by decide +kernel
theorem dX5_there_17 : decode cX5_there 17 = .ok (.iload_n 3, 1) := by decide +kernel
theorem dX5_there_18 : decode cX5_there 18 = .ok (.iaload, 1) := by decide +kernel
theorem dX5_there_19 : decode cX5_there 19 = .ok (.iload_n 1, 1) := by decide +kernel
theorem dX5_there_20 : decode cX5_there 20 = .ok (.if_icmp .ne 9, 3) := by decide +kernel
theorem dX5_there_23 : decode cX5_there 23 = .ok (.iconst 1, 1) := by decide +kernel
theorem dX5_there_24 : decode cX5_there 24 = .ok (.iload_n 3, 1) := by decide +kernel
theorem dX5_there_25 : decode cX5_there 25 = .ok (.ishl, 1) := by decide +kernel
theorem dX5_there_26 : decode cX5_there 26 = .ok (.goto 4, 3) := by decide +kernel
theorem dX5_there_29 : decode cX5_there 29 = .ok (.iconst 0, 1) := by decide +kernel
theorem dX5_there_30 : decode cX5_there 30 = .ok (.ior, 1) := by decide +kernel
theorem dX5_there_31 : decode cX5_there 31 = .ok (.istore_n 2, 1) := by decide +kernel
theorem dX5_there_32 : decode cX5_there 32 = .ok (.iinc 3 1, 3) := by decide +kernel
theorem dX5_there_35 : decode cX5_there 35 = .ok (.goto (-31), 3) := by decide +kernel
theorem dX5_there_38 : decode cX5_there 38 = .ok (.iload_n 2, 1) := by decide +kernel
theorem dX5_there_39 : decode cX5_there 39 = .ok (.ireturn, 1) := by decide +kernel
theorem dX5_ouncesIn_0 : decode cX5_ouncesIn 0 = .ok (.iconst 0, 1) := by decide +kernel
theorem dX5_ouncesIn_1 : decode cX5_ouncesIn 1 = .ok (.istore_n 2, 1) := by decide +kernel
theorem dX5_ouncesIn_2 : decode cX5_ouncesIn 2 = .ok (.iconst 0, 1) := by decide +kernel
theorem dX5_ouncesIn_3 : decode cX5_ouncesIn 3 = .ok (.istore_n 3, 1) := by decide +kernel
theorem dX5_ouncesIn_4 : decode cX5_ouncesIn 4 = .ok (.iload_n 3, 1) := by decide +kernel
theorem dX5_ouncesIn_5 : decode cX5_ouncesIn 5 = .ok (.aload_n 0, 1) := by decide +kernel
theorem dX5_ouncesIn_6 : decode cX5_ouncesIn 6 = .ok (.getfield 134, 3) := by decide +kernel
theorem dX5_ouncesIn_9 : decode cX5_ouncesIn 9 = .ok (.if_icmp .ge 30, 3) := by decide +kernel
theorem dX5_ouncesIn_12 : decode cX5_ouncesIn 12 = .ok (.iload_n 2, 1) := by decide +kernel
theorem dX5_ouncesIn_13 : decode cX5_ouncesIn 13 = .ok (.iload_n 1, 1) := by decide +kernel
theorem dX5_ouncesIn_14 : decode cX5_ouncesIn 14 = .ok (.iload_n 3, 1) := by decide +kernel
theorem dX5_ouncesIn_15 : decode cX5_ouncesIn 15 = .ok (.invokestatic 172, 3) := by decide +kernel
theorem dX5_ouncesIn_18 : decode cX5_ouncesIn 18 = .ok (.ifCond .eq 12, 3) := by decide +kernel
theorem dX5_ouncesIn_21 : decode cX5_ouncesIn 21 = .ok (.aload_n 0, 1) := by decide +kernel
theorem dX5_ouncesIn_22 : decode cX5_ouncesIn 22 = .ok (.getfield 16, 3) := by decide +kernel
theorem dX5_ouncesIn_25 : decode cX5_ouncesIn 25 = .ok (.iload_n 3, 1) := by decide +kernel
theorem dX5_ouncesIn_26 : decode cX5_ouncesIn 26 = .ok (.iaload, 1) := by decide +kernel
theorem dX5_ouncesIn_27 : decode cX5_ouncesIn 27 = .ok (.goto 4, 3) := by decide +kernel
theorem dX5_ouncesIn_30 : decode cX5_ouncesIn 30 = .ok (.iconst 0, 1) := by decide +kernel
theorem dX5_ouncesIn_31 : decode cX5_ouncesIn 31 = .ok (.iadd, 1) := by decide +kernel
theorem dX5_ouncesIn_32 : decode cX5_ouncesIn 32 = .ok (.istore_n 2, 1) := by decide +kernel
theorem dX5_ouncesIn_33 : decode cX5_ouncesIn 33 = .ok (.iinc 3 1, 3) := by decide +kernel
theorem dX5_ouncesIn_36 : decode cX5_ouncesIn 36 = .ok (.goto (-32), 3) := by decide +kernel
theorem dX5_ouncesIn_39 : decode cX5_ouncesIn 39 = .ok (.iload_n 2, 1) := by decide +kernel
theorem dX5_ouncesIn_40 : decode cX5_ouncesIn 40 = .ok (.ireturn, 1) := by decide +kernel
theorem dX5_weightNow_0 : decode cX5_weightNow 0 = .ok (.iload_n 2, 1) := by decide +kernel
theorem dX5_weightNow_1 : decode cX5_weightNow 1 = .ok (.tableswitch 104 0 6 #[43, 50, 57, 64, 71, 77, 98], 43) := by decide +kernel
theorem dX5_weightNow_44 : decode cX5_weightNow 44 = .ok (.aload_n 0, 1) := by decide +kernel
theorem dX5_weightNow_45 : decode cX5_weightNow 45 = .ok (.getfield 13, 3) := by decide +kernel
theorem dX5_weightNow_48 : decode cX5_weightNow 48 = .ok (.iload_n 1, 1) := by decide +kernel
theorem dX5_weightNow_49 : decode cX5_weightNow 49 = .ok (.iaload, 1) := by decide +kernel
theorem dX5_weightNow_50 : decode cX5_weightNow 50 = .ok (.ireturn, 1) := by decide +kernel
theorem dX5_weightNow_51 : decode cX5_weightNow 51 = .ok (.aload_n 0, 1) := by decide +kernel
theorem dX5_weightNow_52 : decode cX5_weightNow 52 = .ok (.getfield 16, 3) := by decide +kernel
theorem dX5_weightNow_55 : decode cX5_weightNow 55 = .ok (.iload_n 1, 1) := by decide +kernel
theorem dX5_weightNow_56 : decode cX5_weightNow 56 = .ok (.iaload, 1) := by decide +kernel
theorem dX5_weightNow_57 : decode cX5_weightNow 57 = .ok (.ireturn, 1) := by decide +kernel
theorem dX5_weightNow_58 : decode cX5_weightNow 58 = .ok (.aload_n 0, 1) := by decide +kernel
theorem dX5_weightNow_59 : decode cX5_weightNow 59 = .ok (.getfield 19, 3) := by decide +kernel
theorem dX5_weightNow_62 : decode cX5_weightNow 62 = .ok (.iload_n 1, 1) := by decide +kernel
theorem dX5_weightNow_63 : decode cX5_weightNow 63 = .ok (.iaload, 1) := by decide +kernel
theorem dX5_weightNow_64 : decode cX5_weightNow 64 = .ok (.ireturn, 1) := by decide +kernel
theorem dX5_weightNow_65 : decode cX5_weightNow 65 = .ok (.aload_n 0, 1) := by decide +kernel
theorem dX5_weightNow_66 : decode cX5_weightNow 66 = .ok (.getfield 22, 3) := by decide +kernel
theorem dX5_weightNow_69 : decode cX5_weightNow 69 = .ok (.iload_n 1, 1) := by decide +kernel
theorem dX5_weightNow_70 : decode cX5_weightNow 70 = .ok (.iaload, 1) := by decide +kernel
theorem dX5_weightNow_71 : decode cX5_weightNow 71 = .ok (.ireturn, 1) := by decide +kernel
theorem dX5_weightNow_72 : decode cX5_weightNow 72 = .ok (.aload_n 0, 1) := by decide +kernel
theorem dX5_weightNow_73 : decode cX5_weightNow 73 = .ok (.iload_n 1, 1) := by decide +kernel
theorem dX5_weightNow_74 : decode cX5_weightNow 74 = .ok (.invokevirtual 152, 3) := by decide +kernel
theorem dX5_weightNow_77 : decode cX5_weightNow 77 = .ok (.ireturn, 1) := by decide +kernel
theorem dX5_weightNow_78 : decode cX5_weightNow 78 = .ok (.aload_n 0, 1) := by decide +kernel
theorem dX5_weightNow_79 : decode cX5_weightNow 79 = .ok (.getfield 13, 3) := by decide +kernel
theorem dX5_weightNow_82 : decode cX5_weightNow 82 = .ok (.iload_n 1, 1) := by decide +kernel
theorem dX5_weightNow_83 : decode cX5_weightNow 83 = .ok (.iaload, 1) := by decide +kernel
theorem dX5_weightNow_84 : decode cX5_weightNow 84 = .ok (.iconst 3, 1) := by decide +kernel
theorem dX5_weightNow_85 : decode cX5_weightNow 85 = .ok (.if_icmp .ne 12, 3) := by decide +kernel
theorem dX5_weightNow_88 : decode cX5_weightNow 88 = .ok (.aload_n 0, 1) := by decide +kernel
theorem dX5_weightNow_89 : decode cX5_weightNow 89 = .ok (.getfield 25, 3) := by decide +kernel
theorem dX5_weightNow_92 : decode cX5_weightNow 92 = .ok (.iload_n 1, 1) := by decide +kernel
theorem dX5_weightNow_93 : decode cX5_weightNow 93 = .ok (.iaload, 1) := by decide +kernel
theorem dX5_weightNow_94 : decode cX5_weightNow 94 = .ok (.goto 4, 3) := by decide +kernel
theorem dX5_weightNow_97 : decode cX5_weightNow 97 = .ok (.iconst 0, 1) := by decide +kernel
theorem dX5_weightNow_98 : decode cX5_weightNow 98 = .ok (.ireturn, 1) := by decide +kernel
theorem dX5_weightNow_99 : decode cX5_weightNow 99 = .ok (.aload_n 0, 1) := by decide +kernel
theorem dX5_weightNow_100 : decode cX5_weightNow 100 = .ok (.iload_n 1, 1) := by decide +kernel
theorem dX5_weightNow_101 : decode cX5_weightNow 101 = .ok (.invokevirtual 176, 3) := by decide +kernel
theorem dX5_weightNow_104 : decode cX5_weightNow 104 = .ok (.ireturn, 1) := by decide +kernel
theorem dX5_weightNow_105 : decode cX5_weightNow 105 = .ok (.aload_n 0, 1) := by decide +kernel
theorem dX5_weightNow_106 : decode cX5_weightNow 106 = .ok (.iload_n 1, 1) := by decide +kernel
theorem dX5_weightNow_107 : decode cX5_weightNow 107 = .ok (.invokevirtual 179, 3) := by decide +kernel
theorem dX5_weightNow_110 : decode cX5_weightNow 110 = .ok (.ireturn, 1) := by decide +kernel
theorem dX5_weight_0 : decode cX5_weight 0 = .ok (.aload_n 0, 1) := by decide +kernel
theorem dX5_weight_1 : decode cX5_weight 1 = .ok (.iload_n 1, 1) := by decide +kernel
theorem dX5_weight_2 : decode cX5_weight 2 = .ok (.invokevirtual 182, 3) := by decide +kernel
theorem dX5_weight_5 : decode cX5_weight 5 = .ok (.ifCond .ne 8, 3) := by decide +kernel
theorem dX5_weight_8 : decode cX5_weight 8 = .ok (.bipush (-101), 2) := by decide +kernel
theorem dX5_weight_10 : decode cX5_weight 10 = .ok (.goto 24, 3) := by decide +kernel
theorem dX5_weight_13 : decode cX5_weight 13 = .ok (.iload_n 2, 1) := by decide +kernel
theorem dX5_weight_14 : decode cX5_weight 14 = .ok (.iconst 0, 1) := by decide +kernel
theorem dX5_weight_15 : decode cX5_weight 15 = .ok (.bipush 7, 2) := by decide +kernel
theorem dX5_weight_17 : decode cX5_weight 17 = .ok (.invokestatic 96, 3) := by decide +kernel
theorem dX5_weight_20 : decode cX5_weight 20 = .ok (.ifCond .eq 12, 3) := by decide +kernel
theorem dX5_weight_23 : decode cX5_weight 23 = .ok (.aload_n 0, 1) := by decide +kernel
theorem dX5_weight_24 : decode cX5_weight 24 = .ok (.iload_n 1, 1) := by decide +kernel
theorem dX5_weight_25 : decode cX5_weight 25 = .ok (.iload_n 2, 1) := by decide +kernel
theorem dX5_weight_26 : decode cX5_weight 26 = .ok (.invokevirtual 186, 3) := by decide +kernel
theorem dX5_weight_29 : decode cX5_weight 29 = .ok (.goto 5, 3) := by decide +kernel
theorem dX5_weight_32 : decode cX5_weight 32 = .ok (.bipush (-102), 2) := by decide +kernel
theorem dX5_weight_34 : decode cX5_weight 34 = .ok (.ireturn, 1) := by decide +kernel
theorem dX5_as_0 : decode cX5_as 0 = .ok (.aload_n 0, 1) := by decide +kernel
theorem dX5_as_1 : decode cX5_as 1 = .ok (.iload_n 1, 1) := by decide +kernel
theorem dX5_as_2 : decode cX5_as 2 = .ok (.invokevirtual 182, 3) := by decide +kernel
theorem dX5_as_5 : decode cX5_as 5 = .ok (.ifCond .ne 6, 3) := by decide +kernel
theorem dX5_as_8 : decode cX5_as 8 = .ok (.bipush (-101), 2) := by decide +kernel
theorem dX5_as_10 : decode cX5_as 10 = .ok (.ireturn, 1) := by decide +kernel
theorem dX5_as_11 : decode cX5_as 11 = .ok (.iload_n 2, 1) := by decide +kernel
theorem dX5_as_12 : decode cX5_as 12 = .ok (.iconst 0, 1) := by decide +kernel
theorem dX5_as_13 : decode cX5_as 13 = .ok (.iconst 4, 1) := by decide +kernel
theorem dX5_as_14 : decode cX5_as 14 = .ok (.invokestatic 96, 3) := by decide +kernel
theorem dX5_as_17 : decode cX5_as 17 = .ok (.ifCond .ne 6, 3) := by decide +kernel
theorem dX5_as_20 : decode cX5_as 20 = .ok (.bipush (-102), 2) := by decide +kernel
theorem dX5_as_22 : decode cX5_as 22 = .ok (.ireturn, 1) := by decide +kernel
theorem dX5_as_23 : decode cX5_as 23 = .ok (.aload_n 0, 1) := by decide +kernel
theorem dX5_as_24 : decode cX5_as 24 = .ok (.getfield 13, 3) := by decide +kernel
theorem dX5_as_27 : decode cX5_as 27 = .ok (.iload_n 1, 1) := by decide +kernel
theorem dX5_as_28 : decode cX5_as 28 = .ok (.iaload, 1) := by decide +kernel
theorem dX5_as_29 : decode cX5_as 29 = .ok (.istore_n 3, 1) := by decide +kernel
theorem dX5_as_30 : decode cX5_as 30 = .ok (.iload_n 2, 1) := by decide +kernel
theorem dX5_as_31 : decode cX5_as 31 = .ok (.ifCond .eq 18, 3) := by decide +kernel
theorem dX5_as_34 : decode cX5_as 34 = .ok (.iload_n 3, 1) := by decide +kernel
theorem dX5_as_35 : decode cX5_as 35 = .ok (.iload_n 2, 1) := by decide +kernel
theorem dX5_as_36 : decode cX5_as 36 = .ok (.if_icmp .eq 13, 3) := by decide +kernel
theorem dX5_as_39 : decode cX5_as 39 = .ok (.iload_n 2, 1) := by decide +kernel
theorem dX5_as_40 : decode cX5_as 40 = .ok (.iconst 1, 1) := by decide +kernel
theorem dX5_as_41 : decode cX5_as 41 = .ok (.if_icmp .ne 12, 3) := by decide +kernel
theorem dX5_as_44 : decode cX5_as 44 = .ok (.iload_n 3, 1) := by decide +kernel
theorem dX5_as_45 : decode cX5_as 45 = .ok (.iconst 4, 1) := by decide +kernel
theorem dX5_as_46 : decode cX5_as 46 = .ok (.if_icmp .ne 7, 3) := by decide +kernel
theorem dX5_as_49 : decode cX5_as 49 = .ok (.iload_n 1, 1) := by decide +kernel
theorem dX5_as_50 : decode cX5_as 50 = .ok (.goto 4, 3) := by decide +kernel
theorem dX5_as_53 : decode cX5_as 53 = .ok (.iconst (-1), 1) := by decide +kernel
theorem dX5_as_54 : decode cX5_as 54 = .ok (.ireturn, 1) := by decide +kernel
theorem dX5_villageNow_0 : decode cX5_villageNow 0 = .ok (.iload_n 2, 1) := by decide +kernel
theorem dX5_villageNow_1 : decode cX5_villageNow 1 = .ok (.tableswitch 90 0 6 #[43, 50, 57, 64, 71, 78, 84], 43) := by decide +kernel
theorem dX5_villageNow_44 : decode cX5_villageNow 44 = .ok (.aload_n 0, 1) := by decide +kernel
theorem dX5_villageNow_45 : decode cX5_villageNow 45 = .ok (.getfield 7, 3) := by decide +kernel
theorem dX5_villageNow_48 : decode cX5_villageNow 48 = .ok (.iload_n 1, 1) := by decide +kernel
theorem dX5_villageNow_49 : decode cX5_villageNow 49 = .ok (.iaload, 1) := by decide +kernel
theorem dX5_villageNow_50 : decode cX5_villageNow 50 = .ok (.ireturn, 1) := by decide +kernel
theorem dX5_villageNow_51 : decode cX5_villageNow 51 = .ok (.aload_n 0, 1) := by decide +kernel
theorem dX5_villageNow_52 : decode cX5_villageNow 52 = .ok (.iload_n 1, 1) := by decide +kernel
theorem dX5_villageNow_53 : decode cX5_villageNow 53 = .ok (.iconst 0, 1) := by decide +kernel
theorem dX5_villageNow_54 : decode cX5_villageNow 54 = .ok (.invokevirtual 159, 3) := by decide +kernel
theorem dX5_villageNow_57 : decode cX5_villageNow 57 = .ok (.ireturn, 1) := by decide +kernel
theorem dX5_villageNow_58 : decode cX5_villageNow 58 = .ok (.aload_n 0, 1) := by decide +kernel
theorem dX5_villageNow_59 : decode cX5_villageNow 59 = .ok (.iload_n 1, 1) := by decide +kernel
theorem dX5_villageNow_60 : decode cX5_villageNow 60 = .ok (.iconst 1, 1) := by decide +kernel
theorem dX5_villageNow_61 : decode cX5_villageNow 61 = .ok (.invokevirtual 159, 3) := by decide +kernel
theorem dX5_villageNow_64 : decode cX5_villageNow 64 = .ok (.ireturn, 1) := by decide +kernel
theorem dX5_villageNow_65 : decode cX5_villageNow 65 = .ok (.aload_n 0, 1) := by decide +kernel
theorem dX5_villageNow_66 : decode cX5_villageNow 66 = .ok (.iload_n 1, 1) := by decide +kernel
theorem dX5_villageNow_67 : decode cX5_villageNow 67 = .ok (.iconst 0, 1) := by decide +kernel
theorem dX5_villageNow_68 : decode cX5_villageNow 68 = .ok (.invokevirtual 165, 3) := by decide +kernel
theorem dX5_villageNow_71 : decode cX5_villageNow 71 = .ok (.ireturn, 1) := by decide +kernel
theorem dX5_villageNow_72 : decode cX5_villageNow 72 = .ok (.aload_n 0, 1) := by decide +kernel
theorem dX5_villageNow_73 : decode cX5_villageNow 73 = .ok (.iload_n 1, 1) := by decide +kernel
theorem dX5_villageNow_74 : decode cX5_villageNow 74 = .ok (.iconst 1, 1) := by decide +kernel
theorem dX5_villageNow_75 : decode cX5_villageNow 75 = .ok (.invokevirtual 165, 3) := by decide +kernel
theorem dX5_villageNow_78 : decode cX5_villageNow 78 = .ok (.ireturn, 1) := by decide +kernel
theorem dX5_villageNow_79 : decode cX5_villageNow 79 = .ok (.aload_n 0, 1) := by decide +kernel
theorem dX5_villageNow_80 : decode cX5_villageNow 80 = .ok (.iload_n 1, 1) := by decide +kernel
theorem dX5_villageNow_81 : decode cX5_villageNow 81 = .ok (.invokevirtual 169, 3) := by decide +kernel
theorem dX5_villageNow_84 : decode cX5_villageNow 84 = .ok (.ireturn, 1) := by decide +kernel
theorem dX5_villageNow_85 : decode cX5_villageNow 85 = .ok (.aload_n 0, 1) := by decide +kernel
theorem dX5_villageNow_86 : decode cX5_villageNow 86 = .ok (.iload_n 1, 1) := by decide +kernel
theorem dX5_villageNow_87 : decode cX5_villageNow 87 = .ok (.invokevirtual 189, 3) := by decide +kernel
theorem dX5_villageNow_90 : decode cX5_villageNow 90 = .ok (.ireturn, 1) := by decide +kernel
theorem dX5_villageNow_91 : decode cX5_villageNow 91 = .ok (.aload_n 0, 1) := by decide +kernel
theorem dX5_villageNow_92 : decode cX5_villageNow 92 = .ok (.aload_n 0, 1) := by decide +kernel
theorem dX5_villageNow_93 : decode cX5_villageNow 93 = .ok (.iload_n 1, 1) := by decide +kernel
theorem dX5_villageNow_94 : decode cX5_villageNow 94 = .ok (.invokevirtual 189, 3) := by decide +kernel
theorem dX5_villageNow_97 : decode cX5_villageNow 97 = .ok (.invokevirtual 192, 3) := by decide +kernel
theorem dX5_villageNow_100 : decode cX5_villageNow 100 = .ok (.ireturn, 1) := by decide +kernel
theorem dX5_village_0 : decode cX5_village 0 = .ok (.aload_n 0, 1) := by decide +kernel
theorem dX5_village_1 : decode cX5_village 1 = .ok (.iload_n 1, 1) := by decide +kernel
theorem dX5_village_2 : decode cX5_village 2 = .ok (.invokevirtual 195, 3) := by decide +kernel
theorem dX5_village_5 : decode cX5_village 5 = .ok (.ifCond .ne 8, 3) := by decide +kernel
theorem dX5_village_8 : decode cX5_village 8 = .ok (.bipush (-101), 2) := by decide +kernel
theorem dX5_village_10 : decode cX5_village 10 = .ok (.goto 24, 3) := by decide +kernel
theorem dX5_village_13 : decode cX5_village 13 = .ok (.iload_n 2, 1) := by decide +kernel
theorem dX5_village_14 : decode cX5_village 14 = .ok (.iconst 0, 1) := by decide +kernel
theorem dX5_village_15 : decode cX5_village 15 = .ok (.bipush 7, 2) := by decide +kernel
theorem dX5_village_17 : decode cX5_village 17 = .ok (.invokestatic 96, 3) := by decide +kernel
theorem dX5_village_20 : decode cX5_village 20 = .ok (.ifCond .eq 12, 3) := by decide +kernel
theorem dX5_village_23 : decode cX5_village 23 = .ok (.aload_n 0, 1) := by decide +kernel
theorem dX5_village_24 : decode cX5_village 24 = .ok (.iload_n 1, 1) := by decide +kernel
theorem dX5_village_25 : decode cX5_village 25 = .ok (.iload_n 2, 1) := by decide +kernel
theorem dX5_village_26 : decode cX5_village 26 = .ok (.invokevirtual 198, 3) := by decide +kernel
theorem dX5_village_29 : decode cX5_village 29 = .ok (.goto 5, 3) := by decide +kernel
theorem dX5_village_32 : decode cX5_village 32 = .ok (.bipush (-102), 2) := by decide +kernel
theorem dX5_village_34 : decode cX5_village 34 = .ok (.ireturn, 1) := by decide +kernel
theorem dX5_lifts_0 : decode cX5_lifts 0 = .ok (.aload_n 0, 1) := by decide +kernel
theorem dX5_lifts_1 : decode cX5_lifts 1 = .ok (.iload_n 1, 1) := by decide +kernel
theorem dX5_lifts_2 : decode cX5_lifts 2 = .ok (.invokevirtual 195, 3) := by decide +kernel
theorem dX5_lifts_5 : decode cX5_lifts 5 = .ok (.ifCond .ne 6, 3) := by decide +kernel
theorem dX5_lifts_8 : decode cX5_lifts 8 = .ok (.bipush (-101), 2) := by decide +kernel
theorem dX5_lifts_10 : decode cX5_lifts 10 = .ok (.ireturn, 1) := by decide +kernel
theorem dX5_lifts_11 : decode cX5_lifts 11 = .ok (.iload_n 2, 1) := by decide +kernel
theorem dX5_lifts_12 : decode cX5_lifts 12 = .ok (.iload_n 3, 1) := by decide +kernel
theorem dX5_lifts_13 : decode cX5_lifts 13 = .ok (.invokestatic 201, 3) := by decide +kernel
theorem dX5_lifts_16 : decode cX5_lifts 16 = .ok (.ifCond .ne 6, 3) := by decide +kernel
theorem dX5_lifts_19 : decode cX5_lifts 19 = .ok (.bipush (-102), 2) := by decide +kernel
theorem dX5_lifts_21 : decode cX5_lifts 21 = .ok (.ireturn, 1) := by decide +kernel
theorem dX5_lifts_22 : decode cX5_lifts 22 = .ok (.aload_n 0, 1) := by decide +kernel
theorem dX5_lifts_23 : decode cX5_lifts 23 = .ok (.iload_n 1, 1) := by decide +kernel
theorem dX5_lifts_24 : decode cX5_lifts 24 = .ok (.iload_n 2, 1) := by decide +kernel
theorem dX5_lifts_25 : decode cX5_lifts 25 = .ok (.iload_n 3, 1) := by decide +kernel
theorem dX5_lifts_26 : decode cX5_lifts 26 = .ok (.invokevirtual 204, 3) := by decide +kernel
theorem dX5_lifts_29 : decode cX5_lifts 29 = .ok (.ifCond .eq 7, 3) := by decide +kernel
theorem dX5_lifts_32 : decode cX5_lifts 32 = .ok (.iconst 1, 1) := by decide +kernel
theorem dX5_lifts_33 : decode cX5_lifts 33 = .ok (.goto 4, 3) := by decide +kernel
theorem dX5_lifts_36 : decode cX5_lifts 36 = .ok (.iconst 0, 1) := by decide +kernel
theorem dX5_lifts_37 : decode cX5_lifts 37 = .ok (.ireturn, 1) := by decide +kernel
theorem dX5_goAway_0 : decode cX5_goAway 0 = .ok (.aload_n 0, 1) := by decide +kernel
theorem dX5_goAway_1 : decode cX5_goAway 1 = .ok (.getfield 19, 3) := by decide +kernel
theorem dX5_goAway_4 : decode cX5_goAway 4 = .ok (.iload_n 1, 1) := by decide +kernel
theorem dX5_goAway_5 : decode cX5_goAway 5 = .ok (.iconst (-1), 1) := by decide +kernel
theorem dX5_goAway_6 : decode cX5_goAway 6 = .ok (.iastore, 1) := by decide +kernel
theorem dX5_goAway_7 : decode cX5_goAway 7 = .ok (.aload_n 0, 1) := by decide +kernel
theorem dX5_goAway_8 : decode cX5_goAway 8 = .ok (.getfield 22, 3) := by decide +kernel
theorem dX5_goAway_11 : decode cX5_goAway 11 = .ok (.iload_n 1, 1) := by decide +kernel
theorem dX5_goAway_12 : decode cX5_goAway 12 = .ok (.iconst (-1), 1) := by decide +kernel
theorem dX5_goAway_13 : decode cX5_goAway 13 = .ok (.iastore, 1) := by decide +kernel
theorem dX5_goAway_14 : decode cX5_goAway 14 = .ok (.aload_n 0, 1) := by decide +kernel
theorem dX5_goAway_15 : decode cX5_goAway 15 = .ok (.getfield 25, 3) := by decide +kernel
theorem dX5_goAway_18 : decode cX5_goAway 18 = .ok (.iload_n 1, 1) := by decide +kernel
theorem dX5_goAway_19 : decode cX5_goAway 19 = .ok (.iconst 0, 1) := by decide +kernel
theorem dX5_goAway_20 : decode cX5_goAway 20 = .ok (.iastore, 1) := by decide +kernel
theorem dX5_goAway_21 : decode cX5_goAway 21 = .ok (.return_, 1) := by decide +kernel
theorem dX5_slide_0 : decode cX5_slide 0 = .ok (.aload_n 0, 1) := by decide +kernel
theorem dX5_slide_1 : decode cX5_slide 1 = .ok (.getfield 22, 3) := by decide +kernel
theorem dX5_slide_4 : decode cX5_slide 4 = .ok (.iload_n 1, 1) := by decide +kernel
theorem dX5_slide_5 : decode cX5_slide 5 = .ok (.dup2, 1) := by decide +kernel
theorem dX5_slide_6 : decode cX5_slide 6 = .ok (.iaload, 1) := by decide +kernel
theorem dX5_slide_7 : decode cX5_slide 7 = .ok (.iload_n 2, 1) := by decide +kernel
theorem dX5_slide_8 : decode cX5_slide 8 = .ok (.ifCond .ne 7, 3) := by decide +kernel
theorem dX5_slide_11 : decode cX5_slide 11 = .ok (.iconst 1, 1) := by decide +kernel
theorem dX5_slide_12 : decode cX5_slide 12 = .ok (.goto 4, 3) := by decide +kernel
theorem dX5_slide_15 : decode cX5_slide 15 = .ok (.iconst (-1), 1) := by decide +kernel
theorem dX5_slide_16 : decode cX5_slide 16 = .ok (.iadd, 1) := by decide +kernel
theorem dX5_slide_17 : decode cX5_slide 17 = .ok (.iastore, 1) := by decide +kernel
theorem dX5_slide_18 : decode cX5_slide 18 = .ok (.aload_n 0, 1) := by decide +kernel
theorem dX5_slide_19 : decode cX5_slide 19 = .ok (.getfield 22, 3) := by decide +kernel
theorem dX5_slide_22 : decode cX5_slide 22 = .ok (.iload_n 1, 1) := by decide +kernel
theorem dX5_slide_23 : decode cX5_slide 23 = .ok (.iaload, 1) := by decide +kernel
theorem dX5_slide_24 : decode cX5_slide 24 = .ok (.iconst 0, 1) := by decide +kernel
theorem dX5_slide_25 : decode cX5_slide 25 = .ok (.iconst 4, 1) := by decide +kernel
theorem dX5_slide_26 : decode cX5_slide 26 = .ok (.invokestatic 96, 3) := by decide +kernel
theorem dX5_slide_29 : decode cX5_slide 29 = .ok (.ifCond .ne 18, 3) := by decide +kernel
theorem dX5_slide_32 : decode cX5_slide 32 = .ok (.aload_n 0, 1) := by decide +kernel
theorem dX5_slide_33 : decode cX5_slide 33 = .ok (.iload_n 1, 1) := by decide +kernel
theorem dX5_slide_34 : decode cX5_slide 34 = .ok (.invokevirtual 207, 3) := by decide +kernel
theorem dX5_slide_37 : decode cX5_slide 37 = .ok (.aload_n 0, 1) := by decide +kernel
theorem dX5_slide_38 : decode cX5_slide 38 = .ok (.dup, 1) := by decide +kernel
theorem dX5_slide_39 : decode cX5_slide 39 = .ok (.getfield 143, 3) := by decide +kernel
theorem dX5_slide_42 : decode cX5_slide 42 = .ok (.iconst 1, 1) := by decide +kernel
theorem dX5_slide_43 : decode cX5_slide 43 = .ok (.iadd, 1) := by decide +kernel
theorem dX5_slide_44 : decode cX5_slide 44 = .ok (.putfield 143, 3) := by decide +kernel
theorem dX5_slide_47 : decode cX5_slide 47 = .ok (.return_, 1) := by decide +kernel
theorem dX5_wear_0 : decode cX5_wear 0 = .ok (.aload_n 0, 1) := by decide +kernel
theorem dX5_wear_1 : decode cX5_wear 1 = .ok (.getfield 19, 3) := by decide +kernel
theorem dX5_wear_4 : decode cX5_wear 4 = .ok (.iload_n 1, 1) := by decide +kernel
theorem dX5_wear_5 : decode cX5_wear 5 = .ok (.iaload, 1) := by decide +kernel
theorem dX5_wear_6 : decode cX5_wear 6 = .ok (.iconst (-1), 1) := by decide +kernel
theorem dX5_wear_7 : decode cX5_wear 7 = .ok (.if_icmp .eq 71, 3) := by decide +kernel
theorem dX5_wear_10 : decode cX5_wear 10 = .ok (.aload_n 0, 1) := by decide +kernel
theorem dX5_wear_11 : decode cX5_wear 11 = .ok (.getfield 16, 3) := by decide +kernel
theorem dX5_wear_14 : decode cX5_wear 14 = .ok (.iload_n 1, 1) := by decide +kernel
theorem dX5_wear_15 : decode cX5_wear 15 = .ok (.dup2, 1) := by decide +kernel
theorem dX5_wear_16 : decode cX5_wear 16 = .ok (.iaload, 1) := by decide +kernel
theorem dX5_wear_17 : decode cX5_wear 17 = .ok (.aload_n 0, 1) := by decide +kernel
theorem dX5_wear_18 : decode cX5_wear 18 = .ok (.getfield 13, 3) := by decide +kernel
theorem dX5_wear_21 : decode cX5_wear 21 = .ok (.iload_n 1, 1) := by decide +kernel
theorem dX5_wear_22 : decode cX5_wear 22 = .ok (.iaload, 1) := by decide +kernel
theorem dX5_wear_23 : decode cX5_wear 23 = .ok (.iconst 2, 1) := by decide +kernel
theorem dX5_wear_24 : decode cX5_wear 24 = .ok (.if_icmp .ne 17, 3) := by decide +kernel
theorem dX5_wear_27 : decode cX5_wear 27 = .ok (.aload_n 0, 1) := by decide +kernel
theorem dX5_wear_28 : decode cX5_wear 28 = .ok (.getfield 16, 3) := by decide +kernel
theorem dX5_wear_31 : decode cX5_wear 31 = .ok (.iload_n 1, 1) := by decide +kernel
theorem dX5_wear_32 : decode cX5_wear 32 = .ok (.iaload, 1) := by decide +kernel
theorem dX5_wear_33 : decode cX5_wear 33 = .ok (.iconst 1, 1) := by decide +kernel
theorem dX5_wear_34 : decode cX5_wear 34 = .ok (.if_icmp .le 7, 3) := by decide +kernel
theorem dX5_wear_37 : decode cX5_wear 37 = .ok (.iconst 1, 1) := by decide +kernel
theorem dX5_wear_38 : decode cX5_wear 38 = .ok (.goto 4, 3) := by decide +kernel
theorem dX5_wear_41 : decode cX5_wear 41 = .ok (.iconst 0, 1) := by decide +kernel
theorem dX5_wear_42 : decode cX5_wear 42 = .ok (.isub, 1) := by decide +kernel
theorem dX5_wear_43 : decode cX5_wear 43 = .ok (.iastore, 1) := by decide +kernel
theorem dX5_wear_44 : decode cX5_wear 44 = .ok (.aload_n 0, 1) := by decide +kernel
theorem dX5_wear_45 : decode cX5_wear 45 = .ok (.getfield 25, 3) := by decide +kernel
theorem dX5_wear_48 : decode cX5_wear 48 = .ok (.iload_n 1, 1) := by decide +kernel
theorem dX5_wear_49 : decode cX5_wear 49 = .ok (.dup2, 1) := by decide +kernel
theorem dX5_wear_50 : decode cX5_wear 50 = .ok (.iaload, 1) := by decide +kernel
theorem dX5_wear_51 : decode cX5_wear 51 = .ok (.aload_n 0, 1) := by decide +kernel
theorem dX5_wear_52 : decode cX5_wear 52 = .ok (.getfield 13, 3) := by decide +kernel
theorem dX5_wear_55 : decode cX5_wear 55 = .ok (.iload_n 1, 1) := by decide +kernel
theorem dX5_wear_56 : decode cX5_wear 56 = .ok (.iaload, 1) := by decide +kernel
theorem dX5_wear_57 : decode cX5_wear 57 = .ok (.iconst 3, 1) := by decide +kernel
theorem dX5_wear_58 : decode cX5_wear 58 = .ok (.if_icmp .ne 17, 3) := by decide +kernel
theorem dX5_wear_61 : decode cX5_wear 61 = .ok (.aload_n 0, 1) := by decide +kernel
theorem dX5_wear_62 : decode cX5_wear 62 = .ok (.getfield 25, 3) := by decide +kernel
theorem dX5_wear_65 : decode cX5_wear 65 = .ok (.iload_n 1, 1) := by decide +kernel
theorem dX5_wear_66 : decode cX5_wear 66 = .ok (.iaload, 1) := by decide +kernel
theorem dX5_wear_67 : decode cX5_wear 67 = .ok (.iconst 3, 1) := by decide +kernel
theorem dX5_wear_68 : decode cX5_wear 68 = .ok (.if_icmp .ge 7, 3) := by decide +kernel
theorem dX5_wear_71 : decode cX5_wear 71 = .ok (.iconst 1, 1) := by decide +kernel
theorem dX5_wear_72 : decode cX5_wear 72 = .ok (.goto 4, 3) := by decide +kernel
theorem dX5_wear_75 : decode cX5_wear 75 = .ok (.iconst 0, 1) := by decide +kernel
theorem dX5_wear_76 : decode cX5_wear 76 = .ok (.iadd, 1) := by decide +kernel
theorem dX5_wear_77 : decode cX5_wear 77 = .ok (.iastore, 1) := by decide +kernel
theorem dX5_wear_78 : decode cX5_wear 78 = .ok (.return_, 1) := by decide +kernel
theorem dX5_wind_0 : decode cX5_wind 0 = .ok (.iconst 0, 1) := by decide +kernel
theorem dX5_wind_1 : decode cX5_wind 1 = .ok (.istore_n 3, 1) := by decide +kernel
theorem dX5_wind_2 : decode cX5_wind 2 = .ok (.iconst 0, 1) := by decide +kernel
theorem dX5_wind_3 : decode cX5_wind 3 = .ok (.istore 4, 2) := by decide +kernel
theorem dX5_wind_5 : decode cX5_wind 5 = .ok (.iload 4, 2) := by decide +kernel
theorem dX5_wind_7 : decode cX5_wind 7 = .ok (.aload_n 0, 1) := by decide +kernel
theorem dX5_wind_8 : decode cX5_wind 8 = .ok (.getfield 131, 3) := by decide +kernel
theorem dX5_wind_11 : decode cX5_wind 11 = .ok (.if_icmp .ge 31, 3) := by decide +kernel
theorem dX5_wind_14 : decode cX5_wind 14 = .ok (.iload_n 3, 1) := by decide +kernel
theorem dX5_wind_15 : decode cX5_wind 15 = .ok (.aload_n 0, 1) := by decide +kernel
theorem dX5_wind_16 : decode cX5_wind 16 = .ok (.iload 4, 2) := by decide +kernel
theorem dX5_wind_18 : decode cX5_wind 18 = .ok (.iload_n 1, 1) := by decide +kernel
theorem dX5_wind_19 : decode cX5_wind 19 = .ok (.iload_n 2, 1) := by decide +kernel
theorem dX5_wind_20 : decode cX5_wind 20 = .ok (.invokevirtual 204, 3) := by decide +kernel
theorem dX5_wind_23 : decode cX5_wind 23 = .ok (.ifCond .eq 10, 3) := by decide +kernel
theorem dX5_wind_26 : decode cX5_wind 26 = .ok (.iconst 1, 1) := by decide +kernel
theorem dX5_wind_27 : decode cX5_wind 27 = .ok (.iload 4, 2) := by decide +kernel
theorem dX5_wind_29 : decode cX5_wind 29 = .ok (.ishl, 1) := by decide +kernel
theorem dX5_wind_30 : decode cX5_wind 30 = .ok (.goto 4, 3) := by decide +kernel
theorem dX5_wind_33 : decode cX5_wind 33 = .ok (.iconst 0, 1) := by decide +kernel
theorem dX5_wind_34 : decode cX5_wind 34 = .ok (.ior, 1) := by decide +kernel
theorem dX5_wind_35 : decode cX5_wind 35 = .ok (.istore_n 3, 1) := by decide +kernel
theorem dX5_wind_36 : decode cX5_wind 36 = .ok (.iinc 4 1, 3) := by decide +kernel
theorem dX5_wind_39 : decode cX5_wind 39 = .ok (.goto (-34), 3) := by decide +kernel
theorem dX5_wind_42 : decode cX5_wind 42 = .ok (.iconst 0, 1) := by decide +kernel
theorem dX5_wind_43 : decode cX5_wind 43 = .ok (.istore 4, 2) := by decide +kernel
theorem dX5_wind_45 : decode cX5_wind 45 = .ok (.iload 4, 2) := by decide +kernel
theorem dX5_wind_47 : decode cX5_wind 47 = .ok (.aload_n 0, 1) := by decide +kernel
theorem dX5_wind_48 : decode cX5_wind 48 = .ok (.getfield 134, 3) := by decide +kernel
theorem dX5_wind_51 : decode cX5_wind 51 = .ok (.if_icmp .ge 41, 3) := by decide +kernel
theorem dX5_wind_54 : decode cX5_wind 54 = .ok (.aload_n 0, 1) := by decide +kernel
theorem dX5_wind_55 : decode cX5_wind 55 = .ok (.getfield 19, 3) := by decide +kernel
theorem dX5_wind_58 : decode cX5_wind 58 = .ok (.iload 4, 2) := by decide +kernel
theorem dX5_wind_60 : decode cX5_wind 60 = .ok (.iaload, 1) := by decide +kernel
theorem dX5_wind_61 : decode cX5_wind 61 = .ok (.iconst (-1), 1) := by decide +kernel
theorem dX5_wind_62 : decode cX5_wind 62 = .ok (.if_icmp .eq 24, 3) := by decide +kernel
theorem dX5_wind_65 : decode cX5_wind 65 = .ok (.iload_n 3, 1) := by decide +kernel
theorem dX5_wind_66 : decode cX5_wind 66 = .ok (.aload_n 0, 1) := by decide +kernel
theorem dX5_wind_67 : decode cX5_wind 67 = .ok (.getfield 19, 3) := by decide +kernel
theorem dX5_wind_70 : decode cX5_wind 70 = .ok (.iload 4, 2) := by decide +kernel
theorem dX5_wind_72 : decode cX5_wind 72 = .ok (.iaload, 1) := by decide +kernel
theorem dX5_wind_73 : decode cX5_wind 73 = .ok (.invokestatic 172, 3) := by decide +kernel
theorem dX5_wind_76 : decode cX5_wind 76 = .ok (.ifCond .eq 10, 3) := by decide +kernel
theorem dX5_wind_79 : decode cX5_wind 79 = .ok (.aload_n 0, 1) := by decide +kernel
theorem dX5_wind_80 : decode cX5_wind 80 = .ok (.iload 4, 2) := by decide +kernel
theorem dX5_wind_82 : decode cX5_wind 82 = .ok (.iload_n 1, 1) := by decide +kernel
theorem dX5_wind_83 : decode cX5_wind 83 = .ok (.invokevirtual 211, 3) := by decide +kernel
theorem dX5_wind_86 : decode cX5_wind 86 = .ok (.iinc 4 1, 3) := by decide +kernel
theorem dX5_wind_89 : decode cX5_wind 89 = .ok (.goto (-44), 3) := by decide +kernel
theorem dX5_wind_92 : decode cX5_wind 92 = .ok (.iconst 0, 1) := by decide +kernel
theorem dX5_wind_93 : decode cX5_wind 93 = .ok (.istore 4, 2) := by decide +kernel
theorem dX5_wind_95 : decode cX5_wind 95 = .ok (.iload 4, 2) := by decide +kernel
theorem dX5_wind_97 : decode cX5_wind 97 = .ok (.aload_n 0, 1) := by decide +kernel
theorem dX5_wind_98 : decode cX5_wind 98 = .ok (.getfield 134, 3) := by decide +kernel
theorem dX5_wind_101 : decode cX5_wind 101 = .ok (.if_icmp .ge 15, 3) := by decide +kernel
theorem dX5_wind_104 : decode cX5_wind 104 = .ok (.aload_n 0, 1) := by decide +kernel
theorem dX5_wind_105 : decode cX5_wind 105 = .ok (.iload 4, 2) := by decide +kernel
theorem dX5_wind_107 : decode cX5_wind 107 = .ok (.invokevirtual 215, 3) := by decide +kernel
theorem dX5_wind_110 : decode cX5_wind 110 = .ok (.iinc 4 1, 3) := by decide +kernel
theorem dX5_wind_113 : decode cX5_wind 113 = .ok (.goto (-18), 3) := by decide +kernel
theorem dX5_wind_116 : decode cX5_wind 116 = .ok (.aload_n 0, 1) := by decide +kernel
theorem dX5_wind_117 : decode cX5_wind 117 = .ok (.dup, 1) := by decide +kernel
theorem dX5_wind_118 : decode cX5_wind 118 = .ok (.getfield 140, 3) := by decide +kernel
theorem dX5_wind_121 : decode cX5_wind 121 = .ok (.iload_n 3, 1) := by decide +kernel
theorem dX5_wind_122 : decode cX5_wind 122 = .ok (.invokestatic 218, 3) := by decide +kernel
theorem dX5_wind_125 : decode cX5_wind 125 = .ok (.iadd, 1) := by decide +kernel
theorem dX5_wind_126 : decode cX5_wind 126 = .ok (.putfield 140, 3) := by decide +kernel
theorem dX5_wind_129 : decode cX5_wind 129 = .ok (.iload_n 3, 1) := by decide +kernel
theorem dX5_wind_130 : decode cX5_wind 130 = .ok (.invokestatic 218, 3) := by decide +kernel
theorem dX5_wind_133 : decode cX5_wind 133 = .ok (.ireturn, 1) := by decide +kernel
theorem dX5_blow_0 : decode cX5_blow 0 = .ok (.iload_n 1, 1) := by decide +kernel
theorem dX5_blow_1 : decode cX5_blow 1 = .ok (.iload_n 2, 1) := by decide +kernel
theorem dX5_blow_2 : decode cX5_blow 2 = .ok (.invokestatic 201, 3) := by decide +kernel
theorem dX5_blow_5 : decode cX5_blow 5 = .ok (.ifCond .ne 6, 3) := by decide +kernel
theorem dX5_blow_8 : decode cX5_blow 8 = .ok (.bipush (-102), 2) := by decide +kernel
theorem dX5_blow_10 : decode cX5_blow 10 = .ok (.ireturn, 1) := by decide +kernel
theorem dX5_blow_11 : decode cX5_blow 11 = .ok (.aload_n 0, 1) := by decide +kernel
theorem dX5_blow_12 : decode cX5_blow 12 = .ok (.getfield 131, 3) := by decide +kernel
theorem dX5_blow_15 : decode cX5_blow 15 = .ok (.ifCond .ne 6, 3) := by decide +kernel
theorem dX5_blow_18 : decode cX5_blow 18 = .ok (.bipush (-103), 2) := by decide +kernel
theorem dX5_blow_20 : decode cX5_blow 20 = .ok (.ireturn, 1) := by decide +kernel
theorem dX5_blow_21 : decode cX5_blow 21 = .ok (.aload_n 0, 1) := by decide +kernel
theorem dX5_blow_22 : decode cX5_blow 22 = .ok (.getfield 137, 3) := by decide +kernel
theorem dX5_blow_25 : decode cX5_blow 25 = .ok (.sipush 999, 3) := by decide +kernel
theorem dX5_blow_28 : decode cX5_blow 28 = .ok (.if_icmp .ne 6, 3) := by decide +kernel
theorem dX5_blow_31 : decode cX5_blow 31 = .ok (.bipush (-104), 2) := by decide +kernel
theorem dX5_blow_33 : decode cX5_blow 33 = .ok (.ireturn, 1) := by decide +kernel
theorem dX5_blow_34 : decode cX5_blow 34 = .ok (.aload_n 0, 1) := by decide +kernel
theorem dX5_blow_35 : decode cX5_blow 35 = .ok (.dup, 1) := by decide +kernel
theorem dX5_blow_36 : decode cX5_blow 36 = .ok (.getfield 137, 3) := by decide +kernel
theorem dX5_blow_39 : decode cX5_blow 39 = .ok (.iconst 1, 1) := by decide +kernel
theorem dX5_blow_40 : decode cX5_blow 40 = .ok (.iadd, 1) := by decide +kernel
theorem dX5_blow_41 : decode cX5_blow 41 = .ok (.putfield 137, 3) := by decide +kernel
theorem dX5_blow_44 : decode cX5_blow 44 = .ok (.aload_n 0, 1) := by decide +kernel
theorem dX5_blow_45 : decode cX5_blow 45 = .ok (.iload_n 1, 1) := by decide +kernel
theorem dX5_blow_46 : decode cX5_blow 46 = .ok (.iload_n 2, 1) := by decide +kernel
theorem dX5_blow_47 : decode cX5_blow 47 = .ok (.invokevirtual 221, 3) := by decide +kernel
theorem dX5_blow_50 : decode cX5_blow 50 = .ok (.ireturn, 1) := by decide +kernel
theorem dX5_put_0 : decode cX5_put 0 = .ok (.aload_n 0, 1) := by decide +kernel
theorem dX5_put_1 : decode cX5_put 1 = .ok (.iload_n 1, 1) := by decide +kernel
theorem dX5_put_2 : decode cX5_put 2 = .ok (.invokevirtual 182, 3) := by decide +kernel
theorem dX5_put_5 : decode cX5_put 5 = .ok (.ifCond .eq 11, 3) := by decide +kernel
theorem dX5_put_8 : decode cX5_put 8 = .ok (.aload_n 0, 1) := by decide +kernel
theorem dX5_put_9 : decode cX5_put 9 = .ok (.iload_n 2, 1) := by decide +kernel
theorem dX5_put_10 : decode cX5_put 10 = .ok (.invokevirtual 195, 3) := by decide +kernel
theorem dX5_put_13 : decode cX5_put 13 = .ok (.ifCond .ne 6, 3) := by decide +kernel
theorem dX5_put_16 : decode cX5_put 16 = .ok (.bipush (-101), 2) := by decide +kernel
theorem dX5_put_18 : decode cX5_put 18 = .ok (.ireturn, 1) := by decide +kernel
theorem dX5_put_19 : decode cX5_put 19 = .ok (.iload_n 3, 1) := by decide +kernel
theorem dX5_put_20 : decode cX5_put 20 = .ok (.iconst 0, 1) := by decide +kernel
theorem dX5_put_21 : decode cX5_put 21 = .ok (.iconst 4, 1) := by decide +kernel
theorem dX5_put_22 : decode cX5_put 22 = .ok (.invokestatic 96, 3) := by decide +kernel
theorem dX5_put_25 : decode cX5_put 25 = .ok (.ifCond .ne 6, 3) := by decide +kernel
theorem dX5_put_28 : decode cX5_put 28 = .ok (.bipush (-102), 2) := by decide +kernel
theorem dX5_put_30 : decode cX5_put 30 = .ok (.ireturn, 1) := by decide +kernel
theorem dX5_put_31 : decode cX5_put 31 = .ok (.aload_n 0, 1) := by decide +kernel
theorem dX5_put_32 : decode cX5_put 32 = .ok (.getfield 19, 3) := by decide +kernel
theorem dX5_put_35 : decode cX5_put 35 = .ok (.iload_n 1, 1) := by decide +kernel
theorem dX5_put_36 : decode cX5_put 36 = .ok (.iaload, 1) := by decide +kernel
theorem dX5_put_37 : decode cX5_put 37 = .ok (.istore 4, 2) := by decide +kernel
theorem dX5_put_39 : decode cX5_put 39 = .ok (.aload_n 0, 1) := by decide +kernel
theorem dX5_put_40 : decode cX5_put 40 = .ok (.getfield 19, 3) := by decide +kernel
theorem dX5_put_43 : decode cX5_put 43 = .ok (.iload_n 1, 1) := by decide +kernel
theorem dX5_put_44 : decode cX5_put 44 = .ok (.iload_n 2, 1) := by decide +kernel
theorem dX5_put_45 : decode cX5_put 45 = .ok (.iastore, 1) := by decide +kernel
theorem dX5_put_46 : decode cX5_put 46 = .ok (.aload_n 0, 1) := by decide +kernel
theorem dX5_put_47 : decode cX5_put 47 = .ok (.getfield 22, 3) := by decide +kernel
theorem dX5_put_50 : decode cX5_put 50 = .ok (.iload_n 1, 1) := by decide +kernel
theorem dX5_put_51 : decode cX5_put 51 = .ok (.iload_n 3, 1) := by decide +kernel
theorem dX5_put_52 : decode cX5_put 52 = .ok (.iastore, 1) := by decide +kernel
theorem dX5_put_53 : decode cX5_put 53 = .ok (.aload_n 0, 1) := by decide +kernel
theorem dX5_put_54 : decode cX5_put 54 = .ok (.getfield 25, 3) := by decide +kernel
theorem dX5_put_57 : decode cX5_put 57 = .ok (.iload_n 1, 1) := by decide +kernel
theorem dX5_put_58 : decode cX5_put 58 = .ok (.iconst 0, 1) := by decide +kernel
theorem dX5_put_59 : decode cX5_put 59 = .ok (.iastore, 1) := by decide +kernel
theorem dX5_put_60 : decode cX5_put 60 = .ok (.iload 4, 2) := by decide +kernel
theorem dX5_put_62 : decode cX5_put 62 = .ok (.ireturn, 1) := by decide +kernel
theorem dX5_lift_0 : decode cX5_lift 0 = .ok (.aload_n 0, 1) := by decide +kernel
theorem dX5_lift_1 : decode cX5_lift 1 = .ok (.iload_n 1, 1) := by decide +kernel
theorem dX5_lift_2 : decode cX5_lift 2 = .ok (.invokevirtual 182, 3) := by decide +kernel
theorem dX5_lift_5 : decode cX5_lift 5 = .ok (.ifCond .ne 6, 3) := by decide +kernel
theorem dX5_lift_8 : decode cX5_lift 8 = .ok (.bipush (-101), 2) := by decide +kernel
theorem dX5_lift_10 : decode cX5_lift 10 = .ok (.ireturn, 1) := by decide +kernel
theorem dX5_lift_11 : decode cX5_lift 11 = .ok (.aload_n 0, 1) := by decide +kernel
theorem dX5_lift_12 : decode cX5_lift 12 = .ok (.getfield 19, 3) := by decide +kernel
theorem dX5_lift_15 : decode cX5_lift 15 = .ok (.iload_n 1, 1) := by decide +kernel
theorem dX5_lift_16 : decode cX5_lift 16 = .ok (.iaload, 1) := by decide +kernel
theorem dX5_lift_17 : decode cX5_lift 17 = .ok (.istore_n 2, 1) := by decide +kernel
theorem dX5_lift_18 : decode cX5_lift 18 = .ok (.iload_n 2, 1) := by decide +kernel
theorem dX5_lift_19 : decode cX5_lift 19 = .ok (.iconst (-1), 1) := by decide +kernel
theorem dX5_lift_20 : decode cX5_lift 20 = .ok (.if_icmp .ne 6, 3) := by decide +kernel
theorem dX5_lift_23 : decode cX5_lift 23 = .ok (.bipush (-103), 2) := by decide +kernel
theorem dX5_lift_25 : decode cX5_lift 25 = .ok (.ireturn, 1) := by decide +kernel
theorem dX5_lift_26 : decode cX5_lift 26 = .ok (.aload_n 0, 1) := by decide +kernel
theorem dX5_lift_27 : decode cX5_lift 27 = .ok (.iload_n 1, 1) := by decide +kernel
theorem dX5_lift_28 : decode cX5_lift 28 = .ok (.invokevirtual 207, 3) := by decide +kernel
theorem dX5_lift_31 : decode cX5_lift 31 = .ok (.iload_n 2, 1) := by decide +kernel
theorem dX5_lift_32 : decode cX5_lift 32 = .ok (.ireturn, 1) := by decide +kernel
theorem dX5_cut_0 : decode cX5_cut 0 = .ok (.aload_n 0, 1) := by decide +kernel
theorem dX5_cut_1 : decode cX5_cut 1 = .ok (.iload_n 1, 1) := by decide +kernel
theorem dX5_cut_2 : decode cX5_cut 2 = .ok (.invokevirtual 182, 3) := by decide +kernel
theorem dX5_cut_5 : decode cX5_cut 5 = .ok (.ifCond .ne 6, 3) := by decide +kernel
theorem dX5_cut_8 : decode cX5_cut 8 = .ok (.bipush (-101), 2) := by decide +kernel
theorem dX5_cut_10 : decode cX5_cut 10 = .ok (.ireturn, 1) := by decide +kernel
theorem dX5_cut_11 : decode cX5_cut 11 = .ok (.iload_n 2, 1) := by decide +kernel
theorem dX5_cut_12 : decode cX5_cut 12 = .ok (.iconst 1, 1) := by decide +kernel
theorem dX5_cut_13 : decode cX5_cut 13 = .ok (.bipush 9, 2) := by decide +kernel
theorem dX5_cut_15 : decode cX5_cut 15 = .ok (.invokestatic 96, 3) := by decide +kernel
theorem dX5_cut_18 : decode cX5_cut 18 = .ok (.ifCond .ne 6, 3) := by decide +kernel
theorem dX5_cut_21 : decode cX5_cut 21 = .ok (.bipush (-102), 2) := by decide +kernel
theorem dX5_cut_23 : decode cX5_cut 23 = .ok (.ireturn, 1) := by decide +kernel
theorem dX5_cut_24 : decode cX5_cut 24 = .ok (.aload_n 0, 1) := by decide +kernel
theorem dX5_cut_25 : decode cX5_cut 25 = .ok (.getfield 16, 3) := by decide +kernel
theorem dX5_cut_28 : decode cX5_cut 28 = .ok (.iload_n 1, 1) := by decide +kernel
theorem dX5_cut_29 : decode cX5_cut 29 = .ok (.iaload, 1) := by decide +kernel
theorem dX5_cut_30 : decode cX5_cut 30 = .ok (.istore_n 3, 1) := by decide +kernel
theorem dX5_cut_31 : decode cX5_cut 31 = .ok (.aload_n 0, 1) := by decide +kernel
theorem dX5_cut_32 : decode cX5_cut 32 = .ok (.getfield 16, 3) := by decide +kernel
theorem dX5_cut_35 : decode cX5_cut 35 = .ok (.iload_n 1, 1) := by decide +kernel
theorem dX5_cut_36 : decode cX5_cut 36 = .ok (.iload_n 2, 1) := by decide +kernel
theorem dX5_cut_37 : decode cX5_cut 37 = .ok (.iastore, 1) := by decide +kernel
theorem dX5_cut_38 : decode cX5_cut 38 = .ok (.iload_n 3, 1) := by decide +kernel
theorem dX5_cut_39 : decode cX5_cut 39 = .ok (.ireturn, 1) := by decide +kernel
theorem dX5_build_0 : decode cX5_build 0 = .ok (.aload_n 0, 1) := by decide +kernel
theorem dX5_build_1 : decode cX5_build 1 = .ok (.iload_n 1, 1) := by decide +kernel
theorem dX5_build_2 : decode cX5_build 2 = .ok (.invokevirtual 195, 3) := by decide +kernel
theorem dX5_build_5 : decode cX5_build 5 = .ok (.ifCond .ne 6, 3) := by decide +kernel
theorem dX5_build_8 : decode cX5_build 8 = .ok (.bipush (-101), 2) := by decide +kernel
theorem dX5_build_10 : decode cX5_build 10 = .ok (.ireturn, 1) := by decide +kernel
theorem dX5_build_11 : decode cX5_build 11 = .ok (.iload_n 2, 1) := by decide +kernel
theorem dX5_build_12 : decode cX5_build 12 = .ok (.iconst 0, 1) := by decide +kernel
theorem dX5_build_13 : decode cX5_build 13 = .ok (.bipush 9, 2) := by decide +kernel
theorem dX5_build_15 : decode cX5_build 15 = .ok (.invokestatic 96, 3) := by decide +kernel
theorem dX5_build_18 : decode cX5_build 18 = .ok (.ifCond .ne 6, 3) := by decide +kernel
theorem dX5_build_21 : decode cX5_build 21 = .ok (.bipush (-102), 2) := by decide +kernel
theorem dX5_build_23 : decode cX5_build 23 = .ok (.ireturn, 1) := by decide +kernel
theorem dX5_build_24 : decode cX5_build 24 = .ok (.aload_n 0, 1) := by decide +kernel
theorem dX5_build_25 : decode cX5_build 25 = .ok (.getfield 7, 3) := by decide +kernel
theorem dX5_build_28 : decode cX5_build 28 = .ok (.iload_n 1, 1) := by decide +kernel
theorem dX5_build_29 : decode cX5_build 29 = .ok (.iaload, 1) := by decide +kernel
theorem dX5_build_30 : decode cX5_build 30 = .ok (.istore_n 3, 1) := by decide +kernel
theorem dX5_build_31 : decode cX5_build 31 = .ok (.aload_n 0, 1) := by decide +kernel
theorem dX5_build_32 : decode cX5_build 32 = .ok (.getfield 7, 3) := by decide +kernel
theorem dX5_build_35 : decode cX5_build 35 = .ok (.iload_n 1, 1) := by decide +kernel
theorem dX5_build_36 : decode cX5_build 36 = .ok (.iload_n 2, 1) := by decide +kernel
theorem dX5_build_37 : decode cX5_build 37 = .ok (.iastore, 1) := by decide +kernel
theorem dX5_build_38 : decode cX5_build 38 = .ok (.iload_n 3, 1) := by decide +kernel
theorem dX5_build_39 : decode cX5_build 39 = .ok (.ireturn, 1) := by decide +kernel
theorem dX5_whereNow_0 : decode cX5_whereNow 0 = .ok (.aload_n 0, 1) := by decide +kernel
theorem dX5_whereNow_1 : decode cX5_whereNow 1 = .ok (.getfield 19, 3) := by decide +kernel
theorem dX5_whereNow_4 : decode cX5_whereNow 4 = .ok (.iload_n 1, 1) := by decide +kernel
theorem dX5_whereNow_5 : decode cX5_whereNow 5 = .ok (.iaload, 1) := by decide +kernel
theorem dX5_whereNow_6 : decode cX5_whereNow 6 = .ok (.istore 4, 2) := by decide +kernel
theorem dX5_whereNow_8 : decode cX5_whereNow 8 = .ok (.aload_n 0, 1) := by decide +kernel
theorem dX5_whereNow_9 : decode cX5_whereNow 9 = .ok (.getfield 22, 3) := by decide +kernel
theorem dX5_whereNow_12 : decode cX5_whereNow 12 = .ok (.iload_n 1, 1) := by decide +kernel
theorem dX5_whereNow_13 : decode cX5_whereNow 13 = .ok (.iaload, 1) := by decide +kernel
theorem dX5_whereNow_14 : decode cX5_whereNow 14 = .ok (.istore 5, 2) := by decide +kernel
theorem dX5_whereNow_16 : decode cX5_whereNow 16 = .ok (.aload_n 0, 1) := by decide +kernel
theorem dX5_whereNow_17 : decode cX5_whereNow 17 = .ok (.getfield 25, 3) := by decide +kernel
theorem dX5_whereNow_20 : decode cX5_whereNow 20 = .ok (.iload_n 1, 1) := by decide +kernel
theorem dX5_whereNow_21 : decode cX5_whereNow 21 = .ok (.iaload, 1) := by decide +kernel
theorem dX5_whereNow_22 : decode cX5_whereNow 22 = .ok (.istore 6, 2) := by decide +kernel
theorem dX5_whereNow_24 : decode cX5_whereNow 24 = .ok (.aload_n 0, 1) := by decide +kernel
theorem dX5_whereNow_25 : decode cX5_whereNow 25 = .ok (.getfield 19, 3) := by decide +kernel
theorem dX5_whereNow_28 : decode cX5_whereNow 28 = .ok (.iload_n 1, 1) := by decide +kernel
theorem dX5_whereNow_29 : decode cX5_whereNow 29 = .ok (.iload_n 2, 1) := by decide +kernel
theorem dX5_whereNow_30 : decode cX5_whereNow 30 = .ok (.iastore, 1) := by decide +kernel
theorem dX5_whereNow_31 : decode cX5_whereNow 31 = .ok (.aload_n 0, 1) := by decide +kernel
theorem dX5_whereNow_32 : decode cX5_whereNow 32 = .ok (.getfield 25, 3) := by decide +kernel
theorem dX5_whereNow_35 : decode cX5_whereNow 35 = .ok (.iload_n 1, 1) := by decide +kernel
theorem dX5_whereNow_36 : decode cX5_whereNow 36 = .ok (.iconst 0, 1) := by decide +kernel
theorem dX5_whereNow_37 : decode cX5_whereNow 37 = .ok (.iastore, 1) := by decide +kernel
theorem dX5_whereNow_38 : decode cX5_whereNow 38 = .ok (.iconst 0, 1) := by decide +kernel
theorem dX5_whereNow_39 : decode cX5_whereNow 39 = .ok (.istore 7, 2) := by decide +kernel
theorem dX5_whereNow_41 : decode cX5_whereNow 41 = .ok (.iconst (-1), 1) := by decide +kernel
theorem dX5_whereNow_42 : decode cX5_whereNow 42 = .ok (.istore 8, 2) := by decide +kernel
theorem dX5_whereNow_44 : decode cX5_whereNow 44 = .ok (.iconst 0, 1) := by decide +kernel
theorem dX5_whereNow_45 : decode cX5_whereNow 45 = .ok (.istore 9, 2) := by decide +kernel
theorem dX5_whereNow_47 : decode cX5_whereNow 47 = .ok (.iload 9, 2) := by decide +kernel
theorem dX5_whereNow_49 : decode cX5_whereNow 49 = .ok (.iconst 5, 1) := by decide +kernel
theorem dX5_whereNow_50 : decode cX5_whereNow 50 = .ok (.if_icmp .ge 58, 3) := by decide +kernel
theorem dX5_whereNow_53 : decode cX5_whereNow 53 = .ok (.aload_n 0, 1) := by decide +kernel
theorem dX5_whereNow_54 : decode cX5_whereNow 54 = .ok (.getfield 22, 3) := by decide +kernel
theorem dX5_whereNow_57 : decode cX5_whereNow 57 = .ok (.iload_n 1, 1) := by decide +kernel
theorem dX5_whereNow_58 : decode cX5_whereNow 58 = .ok (.iload 9, 2) := by decide +kernel
theorem dX5_whereNow_60 : decode cX5_whereNow 60 = .ok (.iastore, 1) := by decide +kernel
theorem dX5_whereNow_61 : decode cX5_whereNow 61 = .ok (.aload_n 0, 1) := by decide +kernel
theorem dX5_whereNow_62 : decode cX5_whereNow 62 = .ok (.iload_n 2, 1) := by decide +kernel
theorem dX5_whereNow_63 : decode cX5_whereNow 63 = .ok (.invokevirtual 169, 3) := by decide +kernel
theorem dX5_whereNow_66 : decode cX5_whereNow 66 = .ok (.iload 8, 2) := by decide +kernel
theorem dX5_whereNow_68 : decode cX5_whereNow 68 = .ok (.if_icmp .le 8, 3) := by decide +kernel
theorem dX5_whereNow_71 : decode cX5_whereNow 71 = .ok (.iload 9, 2) := by decide +kernel
theorem dX5_whereNow_73 : decode cX5_whereNow 73 = .ok (.goto 5, 3) := by decide +kernel
theorem dX5_whereNow_76 : decode cX5_whereNow 76 = .ok (.iload 7, 2) := by decide +kernel
theorem dX5_whereNow_78 : decode cX5_whereNow 78 = .ok (.istore 7, 2) := by decide +kernel
theorem dX5_whereNow_80 : decode cX5_whereNow 80 = .ok (.aload_n 0, 1) := by decide +kernel
theorem dX5_whereNow_81 : decode cX5_whereNow 81 = .ok (.iload_n 2, 1) := by decide +kernel
theorem dX5_whereNow_82 : decode cX5_whereNow 82 = .ok (.invokevirtual 169, 3) := by decide +kernel
theorem dX5_whereNow_85 : decode cX5_whereNow 85 = .ok (.iload 8, 2) := by decide +kernel
theorem dX5_whereNow_87 : decode cX5_whereNow 87 = .ok (.if_icmp .le 11, 3) := by decide +kernel
theorem dX5_whereNow_90 : decode cX5_whereNow 90 = .ok (.aload_n 0, 1) := by decide +kernel
theorem dX5_whereNow_91 : decode cX5_whereNow 91 = .ok (.iload_n 2, 1) := by decide +kernel
theorem dX5_whereNow_92 : decode cX5_whereNow 92 = .ok (.invokevirtual 169, 3) := by decide +kernel
theorem dX5_whereNow_95 : decode cX5_whereNow 95 = .ok (.goto 5, 3) := by decide +kernel
theorem dX5_whereNow_98 : decode cX5_whereNow 98 = .ok (.iload 8, 2) := by decide +kernel
theorem dX5_whereNow_100 : decode cX5_whereNow 100 = .ok (.istore 8, 2) := by decide +kernel
theorem dX5_whereNow_102 : decode cX5_whereNow 102 = .ok (.iinc 9 1, 3) := by decide +kernel
theorem dX5_whereNow_105 : decode cX5_whereNow 105 = .ok (.goto (-58), 3) := by decide +kernel
theorem dX5_whereNow_108 : decode cX5_whereNow 108 = .ok (.aload_n 0, 1) := by decide +kernel
theorem dX5_whereNow_109 : decode cX5_whereNow 109 = .ok (.getfield 19, 3) := by decide +kernel
theorem dX5_whereNow_112 : decode cX5_whereNow 112 = .ok (.iload_n 1, 1) := by decide +kernel
theorem dX5_whereNow_113 : decode cX5_whereNow 113 = .ok (.iload 4, 2) := by decide +kernel
theorem dX5_whereNow_115 : decode cX5_whereNow 115 = .ok (.iastore, 1) := by decide +kernel
theorem dX5_whereNow_116 : decode cX5_whereNow 116 = .ok (.aload_n 0, 1) := by decide +kernel
theorem dX5_whereNow_117 : decode cX5_whereNow 117 = .ok (.getfield 22, 3) := by decide +kernel
theorem dX5_whereNow_120 : decode cX5_whereNow 120 = .ok (.iload_n 1, 1) := by decide +kernel
theorem dX5_whereNow_121 : decode cX5_whereNow 121 = .ok (.iload 5, 2) := by decide +kernel
theorem dX5_whereNow_123 : decode cX5_whereNow 123 = .ok (.iastore, 1) := by decide +kernel
theorem dX5_whereNow_124 : decode cX5_whereNow 124 = .ok (.aload_n 0, 1) := by decide +kernel
theorem dX5_whereNow_125 : decode cX5_whereNow 125 = .ok (.getfield 25, 3) := by decide +kernel
theorem dX5_whereNow_128 : decode cX5_whereNow 128 = .ok (.iload_n 1, 1) := by decide +kernel
theorem dX5_whereNow_129 : decode cX5_whereNow 129 = .ok (.iload 6, 2) := by decide +kernel
theorem dX5_whereNow_131 : decode cX5_whereNow 131 = .ok (.iastore, 1) := by decide +kernel
theorem dX5_whereNow_132 : decode cX5_whereNow 132 = .ok (.iload_n 3, 1) := by decide +kernel
theorem dX5_whereNow_133 : decode cX5_whereNow 133 = .ok (.ifCond .ne 8, 3) := by decide +kernel
theorem dX5_whereNow_136 : decode cX5_whereNow 136 = .ok (.iload 7, 2) := by decide +kernel
theorem dX5_whereNow_138 : decode cX5_whereNow 138 = .ok (.goto 5, 3) := by decide +kernel
theorem dX5_whereNow_141 : decode cX5_whereNow 141 = .ok (.iload 8, 2) := by decide +kernel
theorem dX5_whereNow_143 : decode cX5_whereNow 143 = .ok (.ireturn, 1) := by decide +kernel
theorem dX5_where_0 : decode cX5_where 0 = .ok (.aload_n 0, 1) := by decide +kernel
theorem dX5_where_1 : decode cX5_where 1 = .ok (.iload_n 1, 1) := by decide +kernel
theorem dX5_where_2 : decode cX5_where 2 = .ok (.invokevirtual 182, 3) := by decide +kernel
theorem dX5_where_5 : decode cX5_where 5 = .ok (.ifCond .eq 11, 3) := by decide +kernel
theorem dX5_where_8 : decode cX5_where 8 = .ok (.aload_n 0, 1) := by decide +kernel
theorem dX5_where_9 : decode cX5_where 9 = .ok (.iload_n 2, 1) := by decide +kernel
theorem dX5_where_10 : decode cX5_where 10 = .ok (.invokevirtual 195, 3) := by decide +kernel
theorem dX5_where_13 : decode cX5_where 13 = .ok (.ifCond .ne 6, 3) := by decide +kernel
theorem dX5_where_16 : decode cX5_where 16 = .ok (.bipush (-101), 2) := by decide +kernel
theorem dX5_where_18 : decode cX5_where 18 = .ok (.ireturn, 1) := by decide +kernel
theorem dX5_where_19 : decode cX5_where 19 = .ok (.iload_n 3, 1) := by decide +kernel
theorem dX5_where_20 : decode cX5_where 20 = .ok (.iconst 0, 1) := by decide +kernel
theorem dX5_where_21 : decode cX5_where 21 = .ok (.iconst 1, 1) := by decide +kernel
theorem dX5_where_22 : decode cX5_where 22 = .ok (.invokestatic 96, 3) := by decide +kernel
theorem dX5_where_25 : decode cX5_where 25 = .ok (.ifCond .eq 13, 3) := by decide +kernel
theorem dX5_where_28 : decode cX5_where 28 = .ok (.aload_n 0, 1) := by decide +kernel
theorem dX5_where_29 : decode cX5_where 29 = .ok (.iload_n 1, 1) := by decide +kernel
theorem dX5_where_30 : decode cX5_where 30 = .ok (.iload_n 2, 1) := by decide +kernel
theorem dX5_where_31 : decode cX5_where 31 = .ok (.iload_n 3, 1) := by decide +kernel
theorem dX5_where_32 : decode cX5_where 32 = .ok (.invokevirtual 224, 3) := by decide +kernel
theorem dX5_where_35 : decode cX5_where 35 = .ok (.goto 5, 3) := by decide +kernel
theorem dX5_where_38 : decode cX5_where 38 = .ok (.bipush (-102), 2) := by decide +kernel
theorem dX5_where_40 : decode cX5_where 40 = .ok (.ireturn, 1) := by decide +kernel
theorem dX5_bareBears_0 : decode cX5_bareBears 0 = .ok (.iload_n 0, 1) := by decide +kernel
theorem dX5_bareBears_1 : decode cX5_bareBears 1 = .ok (.iconst 1, 1) := by decide +kernel
theorem dX5_bareBears_2 : decode cX5_bareBears 2 = .ok (.if_icmp .ne 9, 3) := by decide +kernel
theorem dX5_bareBears_5 : decode cX5_bareBears 5 = .ok (.iconst 2, 1) := by decide +kernel
theorem dX5_bareBears_6 : decode cX5_bareBears 6 = .ok (.iload_n 1, 1) := by decide +kernel
theorem dX5_bareBears_7 : decode cX5_bareBears 7 = .ok (.imul, 1) := by decide +kernel
theorem dX5_bareBears_8 : decode cX5_bareBears 8 = .ok (.goto 14, 3) := by decide +kernel
theorem dX5_bareBears_11 : decode cX5_bareBears 11 = .ok (.iload_n 0, 1) := by decide +kernel
theorem dX5_bareBears_12 : decode cX5_bareBears 12 = .ok (.iconst 4, 1) := by decide +kernel
theorem dX5_bareBears_13 : decode cX5_bareBears 13 = .ok (.if_icmp .ne 8, 3) := by decide +kernel
theorem dX5_bareBears_16 : decode cX5_bareBears 16 = .ok (.bipush 100, 2) := by decide +kernel
theorem dX5_bareBears_18 : decode cX5_bareBears 18 = .ok (.goto 4, 3) := by decide +kernel
theorem dX5_bareBears_21 : decode cX5_bareBears 21 = .ok (.iload_n 1, 1) := by decide +kernel
theorem dX5_bareBears_22 : decode cX5_bareBears 22 = .ok (.ireturn, 1) := by decide +kernel
theorem dX5_standsNow_0 : decode cX5_standsNow 0 = .ok (.iconst 3, 1) := by decide +kernel
theorem dX5_standsNow_1 : decode cX5_standsNow 1 = .ok (.aload_n 0, 1) := by decide +kernel
theorem dX5_standsNow_2 : decode cX5_standsNow 2 = .ok (.getfield 7, 3) := by decide +kernel
theorem dX5_standsNow_5 : decode cX5_standsNow 5 = .ok (.iload_n 1, 1) := by decide +kernel
theorem dX5_standsNow_6 : decode cX5_standsNow 6 = .ok (.iaload, 1) := by decide +kernel
theorem dX5_standsNow_7 : decode cX5_standsNow 7 = .ok (.imul, 1) := by decide +kernel
theorem dX5_standsNow_8 : decode cX5_standsNow 8 = .ok (.istore 4, 2) := by decide +kernel
theorem dX5_standsNow_10 : decode cX5_standsNow 10 = .ok (.iconst 3, 1) := by decide +kernel
theorem dX5_standsNow_11 : decode cX5_standsNow 11 = .ok (.aload_n 0, 1) := by decide +kernel
theorem dX5_standsNow_12 : decode cX5_standsNow 12 = .ok (.getfield 7, 3) := by decide +kernel
theorem dX5_standsNow_15 : decode cX5_standsNow 15 = .ok (.iload_n 1, 1) := by decide +kernel
theorem dX5_standsNow_16 : decode cX5_standsNow 16 = .ok (.iaload, 1) := by decide +kernel
theorem dX5_standsNow_17 : decode cX5_standsNow 17 = .ok (.imul, 1) := by decide +kernel
theorem dX5_standsNow_18 : decode cX5_standsNow 18 = .ok (.istore 5, 2) := by decide +kernel
theorem dX5_standsNow_20 : decode cX5_standsNow 20 = .ok (.iconst 0, 1) := by decide +kernel
theorem dX5_standsNow_21 : decode cX5_standsNow 21 = .ok (.istore 6, 2) := by decide +kernel
theorem dX5_standsNow_23 : decode cX5_standsNow 23 = .ok (.iload 6, 2) := by decide +kernel
theorem dX5_standsNow_25 : decode cX5_standsNow 25 = .ok (.aload_n 0, 1) := by decide +kernel
theorem dX5_standsNow_26 : decode cX5_standsNow 26 = .ok (.getfield 134, 3) := by decide +kernel
theorem dX5_standsNow_29 : decode cX5_standsNow 29 = .ok (.if_icmp .ge 79, 3) := by decide +kernel
theorem dX5_standsNow_32 : decode cX5_standsNow 32 = .ok (.iload_n 2, 1) := by decide +kernel
theorem dX5_standsNow_33 : decode cX5_standsNow 33 = .ok (.iload 6, 2) := by decide +kernel
theorem dX5_standsNow_35 : decode cX5_standsNow 35 = .ok (.invokestatic 172, 3) := by decide +kernel
theorem dX5_standsNow_38 : decode cX5_standsNow 38 = .ok (.ifCond .eq 23, 3) := by decide +kernel
theorem dX5_standsNow_41 : decode cX5_standsNow 41 = .ok (.aload_n 0, 1) := by decide +kernel
theorem dX5_standsNow_42 : decode cX5_standsNow 42 = .ok (.getfield 13, 3) := by decide +kernel
theorem dX5_standsNow_45 : decode cX5_standsNow 45 = .ok (.iload 6, 2) := by decide +kernel
theorem dX5_standsNow_47 : decode cX5_standsNow 47 = .ok (.iaload, 1) := by decide +kernel
theorem dX5_standsNow_48 : decode cX5_standsNow 48 = .ok (.aload_n 0, 1) := by decide +kernel
theorem dX5_standsNow_49 : decode cX5_standsNow 49 = .ok (.getfield 16, 3) := by decide +kernel
theorem dX5_standsNow_52 : decode cX5_standsNow 52 = .ok (.iload 6, 2) := by decide +kernel
theorem dX5_standsNow_54 : decode cX5_standsNow 54 = .ok (.iaload, 1) := by decide +kernel
theorem dX5_standsNow_55 : decode cX5_standsNow 55 = .ok (.invokestatic 228, 3) := by decide +kernel
theorem dX5_standsNow_58 : decode cX5_standsNow 58 = .ok (.goto 4, 3) := by decide +kernel
theorem dX5_standsNow_61 : decode cX5_standsNow 61 = .ok (.iconst 0, 1) := by decide +kernel
theorem dX5_standsNow_62 : decode cX5_standsNow 62 = .ok (.istore 7, 2) := by decide +kernel
theorem dX5_standsNow_64 : decode cX5_standsNow 64 = .ok (.iload 4, 2) := by decide +kernel
theorem dX5_standsNow_66 : decode cX5_standsNow 66 = .ok (.iload 7, 2) := by decide +kernel
theorem dX5_standsNow_68 : decode cX5_standsNow 68 = .ok (.iconst 0, 1) := by decide +kernel
theorem dX5_standsNow_69 : decode cX5_standsNow 69 = .ok (.aload_n 0, 1) := by decide +kernel
theorem dX5_standsNow_70 : decode cX5_standsNow 70 = .ok (.getfield 48, 3) := by decide +kernel
theorem dX5_standsNow_73 : decode cX5_standsNow 73 = .ok (.iload 6, 2) := by decide +kernel
theorem dX5_standsNow_75 : decode cX5_standsNow 75 = .ok (.iaload, 1) := by decide +kernel
theorem dX5_standsNow_76 : decode cX5_standsNow 76 = .ok (.invokestatic 155, 3) := by decide +kernel
theorem dX5_standsNow_79 : decode cX5_standsNow 79 = .ok (.imul, 1) := by decide +kernel
theorem dX5_standsNow_80 : decode cX5_standsNow 80 = .ok (.iadd, 1) := by decide +kernel
theorem dX5_standsNow_81 : decode cX5_standsNow 81 = .ok (.istore 4, 2) := by decide +kernel
theorem dX5_standsNow_83 : decode cX5_standsNow 83 = .ok (.iload 5, 2) := by decide +kernel
theorem dX5_standsNow_85 : decode cX5_standsNow 85 = .ok (.iload 7, 2) := by decide +kernel
theorem dX5_standsNow_87 : decode cX5_standsNow 87 = .ok (.iconst 1, 1) := by decide +kernel
theorem dX5_standsNow_88 : decode cX5_standsNow 88 = .ok (.aload_n 0, 1) := by decide +kernel
theorem dX5_standsNow_89 : decode cX5_standsNow 89 = .ok (.getfield 48, 3) := by decide +kernel
theorem dX5_standsNow_92 : decode cX5_standsNow 92 = .ok (.iload 6, 2) := by decide +kernel
theorem dX5_standsNow_94 : decode cX5_standsNow 94 = .ok (.iaload, 1) := by decide +kernel
theorem dX5_standsNow_95 : decode cX5_standsNow 95 = .ok (.invokestatic 155, 3) := by decide +kernel
theorem dX5_standsNow_98 : decode cX5_standsNow 98 = .ok (.imul, 1) := by decide +kernel
theorem dX5_standsNow_99 : decode cX5_standsNow 99 = .ok (.iadd, 1) := by decide +kernel
theorem dX5_standsNow_100 : decode cX5_standsNow 100 = .ok (.istore 5, 2) := by decide +kernel
theorem dX5_standsNow_102 : decode cX5_standsNow 102 = .ok (.iinc 6 1, 3) := by decide +kernel
theorem dX5_standsNow_105 : decode cX5_standsNow 105 = .ok (.goto (-82), 3) := by decide +kernel
theorem dX5_standsNow_108 : decode cX5_standsNow 108 = .ok (.iload 4, 2) := by decide +kernel
theorem dX5_standsNow_110 : decode cX5_standsNow 110 = .ok (.invokestatic 162, 3) := by decide +kernel
theorem dX5_standsNow_113 : decode cX5_standsNow 113 = .ok (.iload_n 3, 1) := by decide +kernel
theorem dX5_standsNow_114 : decode cX5_standsNow 114 = .ok (.if_icmp .lt 16, 3) := by decide +kernel
theorem dX5_standsNow_117 : decode cX5_standsNow 117 = .ok (.iload 5, 2) := by decide +kernel
theorem dX5_standsNow_119 : decode cX5_standsNow 119 = .ok (.invokestatic 162, 3) := by decide +kernel
theorem dX5_standsNow_122 : decode cX5_standsNow 122 = .ok (.iload_n 3, 1) := by decide +kernel
theorem dX5_standsNow_123 : decode cX5_standsNow 123 = .ok (.if_icmp .lt 7, 3) := by decide +kernel
theorem dX5_standsNow_126 : decode cX5_standsNow 126 = .ok (.iconst 1, 1) := by decide +kernel
theorem dX5_standsNow_127 : decode cX5_standsNow 127 = .ok (.goto 4, 3) := by decide +kernel
theorem dX5_standsNow_130 : decode cX5_standsNow 130 = .ok (.iconst 0, 1) := by decide +kernel
theorem dX5_standsNow_131 : decode cX5_standsNow 131 = .ok (.ireturn, 1) := by decide +kernel
theorem dX5_nextPlaces_0 : decode cX5_nextPlaces 0 = .ok (.iconst 0, 1) := by decide +kernel
theorem dX5_nextPlaces_1 : decode cX5_nextPlaces 1 = .ok (.istore_n 2, 1) := by decide +kernel
theorem dX5_nextPlaces_2 : decode cX5_nextPlaces 2 = .ok (.iload_n 2, 1) := by decide +kernel
theorem dX5_nextPlaces_3 : decode cX5_nextPlaces 3 = .ok (.aload_n 0, 1) := by decide +kernel
theorem dX5_nextPlaces_4 : decode cX5_nextPlaces 4 = .ok (.getfield 134, 3) := by decide +kernel
theorem dX5_nextPlaces_7 : decode cX5_nextPlaces 7 = .ok (.if_icmp .ge 34, 3) := by decide +kernel
theorem dX5_nextPlaces_10 : decode cX5_nextPlaces 10 = .ok (.iload_n 1, 1) := by decide +kernel
theorem dX5_nextPlaces_11 : decode cX5_nextPlaces 11 = .ok (.iload_n 2, 1) := by decide +kernel
theorem dX5_nextPlaces_12 : decode cX5_nextPlaces 12 = .ok (.invokestatic 172, 3) := by decide +kernel
theorem dX5_nextPlaces_15 : decode cX5_nextPlaces 15 = .ok (.ifCond .eq 13, 3) := by decide +kernel
theorem dX5_nextPlaces_18 : decode cX5_nextPlaces 18 = .ok (.aload_n 0, 1) := by decide +kernel
theorem dX5_nextPlaces_19 : decode cX5_nextPlaces 19 = .ok (.getfield 48, 3) := by decide +kernel
theorem dX5_nextPlaces_22 : decode cX5_nextPlaces 22 = .ok (.iload_n 2, 1) := by decide +kernel
theorem dX5_nextPlaces_23 : decode cX5_nextPlaces 23 = .ok (.iaload, 1) := by decide +kernel
theorem dX5_nextPlaces_24 : decode cX5_nextPlaces 24 = .ok (.iconst 4, 1) := by decide +kernel
theorem dX5_nextPlaces_25 : decode cX5_nextPlaces 25 = .ok (.if_icmp .ne 16, 3) := by decide +kernel
theorem dX5_nextPlaces_28 : decode cX5_nextPlaces 28 = .ok (.aload_n 0, 1) := by decide +kernel
theorem dX5_nextPlaces_29 : decode cX5_nextPlaces 29 = .ok (.getfield 48, 3) := by decide +kernel
theorem dX5_nextPlaces_32 : decode cX5_nextPlaces 32 = .ok (.iload_n 2, 1) := by decide +kernel
theorem dX5_nextPlaces_33 : decode cX5_nextPlaces 33 = .ok (.iconst 0, 1) := by decide +kernel
theorem dX5_nextPlaces_34 : decode cX5_nextPlaces 34 = .ok (.iastore, 1) := by decide +kernel
theorem dX5_nextPlaces_35 : decode cX5_nextPlaces 35 = .ok (.iinc 2 1, 3) := by decide +kernel
theorem dX5_nextPlaces_38 : decode cX5_nextPlaces 38 = .ok (.goto (-36), 3) := by decide +kernel
theorem dX5_nextPlaces_41 : decode cX5_nextPlaces 41 = .ok (.iload_n 2, 1) := by decide +kernel
theorem dX5_nextPlaces_42 : decode cX5_nextPlaces 42 = .ok (.aload_n 0, 1) := by decide +kernel
theorem dX5_nextPlaces_43 : decode cX5_nextPlaces 43 = .ok (.getfield 134, 3) := by decide +kernel
theorem dX5_nextPlaces_46 : decode cX5_nextPlaces 46 = .ok (.if_icmp .ne 5, 3) := by decide +kernel
theorem dX5_nextPlaces_49 : decode cX5_nextPlaces 49 = .ok (.iconst 0, 1) := by decide +kernel
theorem dX5_nextPlaces_50 : decode cX5_nextPlaces 50 = .ok (.ireturn, 1) := by decide +kernel
theorem dX5_nextPlaces_51 : decode cX5_nextPlaces 51 = .ok (.aload_n 0, 1) := by decide +kernel
theorem dX5_nextPlaces_52 : decode cX5_nextPlaces 52 = .ok (.getfield 48, 3) := by decide +kernel
theorem dX5_nextPlaces_55 : decode cX5_nextPlaces 55 = .ok (.iload_n 2, 1) := by decide +kernel
theorem dX5_nextPlaces_56 : decode cX5_nextPlaces 56 = .ok (.dup2, 1) := by decide +kernel
theorem dX5_nextPlaces_57 : decode cX5_nextPlaces 57 = .ok (.iaload, 1) := by decide +kernel
theorem dX5_nextPlaces_58 : decode cX5_nextPlaces 58 = .ok (.iconst 1, 1) := by decide +kernel
theorem dX5_nextPlaces_59 : decode cX5_nextPlaces 59 = .ok (.iadd, 1) := by decide +kernel
theorem dX5_nextPlaces_60 : decode cX5_nextPlaces 60 = .ok (.iastore, 1) := by decide +kernel
theorem dX5_nextPlaces_61 : decode cX5_nextPlaces 61 = .ok (.iconst 1, 1) := by decide +kernel
theorem dX5_nextPlaces_62 : decode cX5_nextPlaces 62 = .ok (.ireturn, 1) := by decide +kernel
theorem dX5_canStand_0 : decode cX5_canStand 0 = .ok (.iconst 0, 1) := by decide +kernel
theorem dX5_canStand_1 : decode cX5_canStand 1 = .ok (.istore 4, 2) := by decide +kernel
theorem dX5_canStand_3 : decode cX5_canStand 3 = .ok (.iload 4, 2) := by decide +kernel
theorem dX5_canStand_5 : decode cX5_canStand 5 = .ok (.iconst 5, 1) := by decide +kernel
theorem dX5_canStand_6 : decode cX5_canStand 6 = .ok (.if_icmp .ge 17, 3) := by decide +kernel
theorem dX5_canStand_9 : decode cX5_canStand 9 = .ok (.aload_n 0, 1) := by decide +kernel
theorem dX5_canStand_10 : decode cX5_canStand 10 = .ok (.getfield 48, 3) := by decide +kernel
theorem dX5_canStand_13 : decode cX5_canStand 13 = .ok (.iload 4, 2) := by decide +kernel
theorem dX5_canStand_15 : decode cX5_canStand 15 = .ok (.iconst 0, 1) := by decide +kernel
theorem dX5_canStand_16 : decode cX5_canStand 16 = .ok (.iastore, 1) := by decide +kernel
theorem dX5_canStand_17 : decode cX5_canStand 17 = .ok (.iinc 4 1, 3) := by decide +kernel
theorem dX5_canStand_20 : decode cX5_canStand 20 = .ok (.goto (-17), 3) := by decide +kernel
theorem dX5_canStand_23 : decode cX5_canStand 23 = .ok (.iconst 1, 1) := by decide +kernel
theorem dX5_canStand_24 : decode cX5_canStand 24 = .ok (.istore 4, 2) := by decide +kernel
theorem dX5_canStand_26 : decode cX5_canStand 26 = .ok (.iload 4, 2) := by decide +kernel
theorem dX5_canStand_28 : decode cX5_canStand 28 = .ok (.ifCond .eq 25, 3) := by decide +kernel
theorem dX5_canStand_31 : decode cX5_canStand 31 = .ok (.aload_n 0, 1) := by decide +kernel
theorem dX5_canStand_32 : decode cX5_canStand 32 = .ok (.iload_n 1, 1) := by decide +kernel
theorem dX5_canStand_33 : decode cX5_canStand 33 = .ok (.iload_n 2, 1) := by decide +kernel
theorem dX5_canStand_34 : decode cX5_canStand 34 = .ok (.iload_n 3, 1) := by decide +kernel
theorem dX5_canStand_35 : decode cX5_canStand 35 = .ok (.invokevirtual 231, 3) := by decide +kernel
theorem dX5_canStand_38 : decode cX5_canStand 38 = .ok (.ifCond .eq 5, 3) := by decide +kernel
theorem dX5_canStand_41 : decode cX5_canStand 41 = .ok (.iconst 1, 1) := by decide +kernel
theorem dX5_canStand_42 : decode cX5_canStand 42 = .ok (.ireturn, 1) := by decide +kernel
theorem dX5_canStand_43 : decode cX5_canStand 43 = .ok (.aload_n 0, 1) := by decide +kernel
theorem dX5_canStand_44 : decode cX5_canStand 44 = .ok (.iload_n 2, 1) := by decide +kernel
theorem dX5_canStand_45 : decode cX5_canStand 45 = .ok (.invokevirtual 234, 3) := by decide +kernel
theorem dX5_canStand_48 : decode cX5_canStand 48 = .ok (.istore 4, 2) := by decide +kernel
theorem dX5_canStand_50 : decode cX5_canStand 50 = .ok (.goto (-24), 3) := by decide +kernel
theorem dX5_canStand_53 : decode cX5_canStand 53 = .ok (.iconst 0, 1) := by decide +kernel
theorem dX5_canStand_54 : decode cX5_canStand 54 = .ok (.ireturn, 1) := by decide +kernel
theorem dX5_isRow_0 : decode cX5_isRow 0 = .ok (.iconst 0, 1) := by decide +kernel
theorem dX5_isRow_1 : decode cX5_isRow 1 = .ok (.istore_n 1, 1) := by decide +kernel
theorem dX5_isRow_2 : decode cX5_isRow 2 = .ok (.aload_n 0, 1) := by decide +kernel
theorem dX5_isRow_3 : decode cX5_isRow 3 = .ok (.iconst 0, 1) := by decide +kernel
theorem dX5_isRow_4 : decode cX5_isRow 4 = .ok (.putfield 237, 3) := by decide +kernel
theorem dX5_isRow_7 : decode cX5_isRow 7 = .ok (.iconst 0, 1) := by decide +kernel
theorem dX5_isRow_8 : decode cX5_isRow 8 = .ok (.istore_n 2, 1) := by decide +kernel
theorem dX5_isRow_9 : decode cX5_isRow 9 = .ok (.iload_n 2, 1) := by decide +kernel
theorem dX5_isRow_10 : decode cX5_isRow 10 = .ok (.aload_n 0, 1) := by decide +kernel
theorem dX5_isRow_11 : decode cX5_isRow 11 = .ok (.getfield 131, 3) := by decide +kernel
theorem dX5_isRow_14 : decode cX5_isRow 14 = .ok (.if_icmp .ge 64, 3) := by decide +kernel
theorem dX5_isRow_17 : decode cX5_isRow 17 = .ok (.iload_n 1, 1) := by decide +kernel
theorem dX5_isRow_18 : decode cX5_isRow 18 = .ok (.aload_n 0, 1) := by decide +kernel
theorem dX5_isRow_19 : decode cX5_isRow 19 = .ok (.getfield 51, 3) := by decide +kernel
theorem dX5_isRow_22 : decode cX5_isRow 22 = .ok (.iload_n 2, 1) := by decide +kernel
theorem dX5_isRow_23 : decode cX5_isRow 23 = .ok (.iaload, 1) := by decide +kernel
theorem dX5_isRow_24 : decode cX5_isRow 24 = .ok (.iand, 1) := by decide +kernel
theorem dX5_isRow_25 : decode cX5_isRow 25 = .ok (.ifCond .eq 5, 3) := by decide +kernel
theorem dX5_isRow_28 : decode cX5_isRow 28 = .ok (.iconst 0, 1) := by decide +kernel
theorem dX5_isRow_29 : decode cX5_isRow 29 = .ok (.ireturn, 1) := by decide +kernel
theorem dX5_isRow_30 : decode cX5_isRow 30 = .ok (.iload_n 1, 1) := by decide +kernel
theorem dX5_isRow_31 : decode cX5_isRow 31 = .ok (.aload_n 0, 1) := by decide +kernel
theorem dX5_isRow_32 : decode cX5_isRow 32 = .ok (.getfield 51, 3) := by decide +kernel
theorem dX5_isRow_35 : decode cX5_isRow 35 = .ok (.iload_n 2, 1) := by decide +kernel
theorem dX5_isRow_36 : decode cX5_isRow 36 = .ok (.iaload, 1) := by decide +kernel
theorem dX5_isRow_37 : decode cX5_isRow 37 = .ok (.ior, 1) := by decide +kernel
theorem dX5_isRow_38 : decode cX5_isRow 38 = .ok (.istore_n 1, 1) := by decide +kernel
theorem dX5_isRow_39 : decode cX5_isRow 39 = .ok (.aload_n 0, 1) := by decide +kernel
theorem dX5_isRow_40 : decode cX5_isRow 40 = .ok (.dup, 1) := by decide +kernel
theorem dX5_isRow_41 : decode cX5_isRow 41 = .ok (.getfield 237, 3) := by decide +kernel
theorem dX5_isRow_44 : decode cX5_isRow 44 = .ok (.aload_n 0, 1) := by decide +kernel
theorem dX5_isRow_45 : decode cX5_isRow 45 = .ok (.getfield 44, 3) := by decide +kernel
theorem dX5_isRow_48 : decode cX5_isRow 48 = .ok (.bipush 32, 2) := by decide +kernel
theorem dX5_isRow_50 : decode cX5_isRow 50 = .ok (.iload_n 2, 1) := by decide +kernel
theorem dX5_isRow_51 : decode cX5_isRow 51 = .ok (.imul, 1) := by decide +kernel
theorem dX5_isRow_52 : decode cX5_isRow 52 = .ok (.aload_n 0, 1) := by decide +kernel
theorem dX5_isRow_53 : decode cX5_isRow 53 = .ok (.getfield 51, 3) := by decide +kernel
theorem dX5_isRow_56 : decode cX5_isRow 56 = .ok (.iload_n 2, 1) := by decide +kernel
theorem dX5_isRow_57 : decode cX5_isRow 57 = .ok (.iaload, 1) := by decide +kernel
theorem dX5_isRow_58 : decode cX5_isRow 58 = .ok (.iadd, 1) := by decide +kernel
theorem dX5_isRow_59 : decode cX5_isRow 59 = .ok (.baload, 1) := by decide +kernel
theorem dX5_isRow_60 : decode cX5_isRow 60 = .ok (.ifCond .eq 7, 3) := by decide +kernel
theorem dX5_isRow_63 : decode cX5_isRow 63 = .ok (.iconst 1, 1) := by decide +kernel
theorem dX5_isRow_64 : decode cX5_isRow 64 = .ok (.goto 4, 3) := by decide +kernel
theorem dX5_isRow_67 : decode cX5_isRow 67 = .ok (.iconst 0, 1) := by decide +kernel
theorem dX5_isRow_68 : decode cX5_isRow 68 = .ok (.iadd, 1) := by decide +kernel
theorem dX5_isRow_69 : decode cX5_isRow 69 = .ok (.putfield 237, 3) := by decide +kernel
theorem dX5_isRow_72 : decode cX5_isRow 72 = .ok (.iinc 2 1, 3) := by decide +kernel
theorem dX5_isRow_75 : decode cX5_isRow 75 = .ok (.goto (-66), 3) := by decide +kernel
theorem dX5_isRow_78 : decode cX5_isRow 78 = .ok (.aload_n 0, 1) := by decide +kernel
theorem dX5_isRow_79 : decode cX5_isRow 79 = .ok (.aload_n 0, 1) := by decide +kernel
theorem dX5_isRow_80 : decode cX5_isRow 80 = .ok (.iload_n 1, 1) := by decide +kernel
theorem dX5_isRow_81 : decode cX5_isRow 81 = .ok (.invokevirtual 192, 3) := by decide +kernel
theorem dX5_isRow_84 : decode cX5_isRow 84 = .ok (.putfield 240, 3) := by decide +kernel
theorem dX5_isRow_87 : decode cX5_isRow 87 = .ok (.iconst 1, 1) := by decide +kernel
theorem dX5_isRow_88 : decode cX5_isRow 88 = .ok (.ireturn, 1) := by decide +kernel
theorem dX5_nextRow_0 : decode cX5_nextRow 0 = .ok (.aload_n 0, 1) := by decide +kernel
theorem dX5_nextRow_1 : decode cX5_nextRow 1 = .ok (.getfield 131, 3) := by decide +kernel
theorem dX5_nextRow_4 : decode cX5_nextRow 4 = .ok (.iconst 1, 1) := by decide +kernel
theorem dX5_nextRow_5 : decode cX5_nextRow 5 = .ok (.isub, 1) := by decide +kernel
theorem dX5_nextRow_6 : decode cX5_nextRow 6 = .ok (.istore_n 1, 1) := by decide +kernel
theorem dX5_nextRow_7 : decode cX5_nextRow 7 = .ok (.iload_n 1, 1) := by decide +kernel
theorem dX5_nextRow_8 : decode cX5_nextRow 8 = .ok (.ifCond .lt 33, 3) := by decide +kernel
theorem dX5_nextRow_11 : decode cX5_nextRow 11 = .ok (.aload_n 0, 1) := by decide +kernel
theorem dX5_nextRow_12 : decode cX5_nextRow 12 = .ok (.getfield 51, 3) := by decide +kernel
theorem dX5_nextRow_15 : decode cX5_nextRow 15 = .ok (.iload_n 1, 1) := by decide +kernel
theorem dX5_nextRow_16 : decode cX5_nextRow 16 = .ok (.iaload, 1) := by decide +kernel
theorem dX5_nextRow_17 : decode cX5_nextRow 17 = .ok (.iconst 1, 1) := by decide +kernel
theorem dX5_nextRow_18 : decode cX5_nextRow 18 = .ok (.aload_n 0, 1) := by decide +kernel
theorem dX5_nextRow_19 : decode cX5_nextRow 19 = .ok (.getfield 134, 3) := by decide +kernel
theorem dX5_nextRow_22 : decode cX5_nextRow 22 = .ok (.ishl, 1) := by decide +kernel
theorem dX5_nextRow_23 : decode cX5_nextRow 23 = .ok (.iconst 1, 1) := by decide +kernel
theorem dX5_nextRow_24 : decode cX5_nextRow 24 = .ok (.isub, 1) := by decide +kernel
theorem dX5_nextRow_25 : decode cX5_nextRow 25 = .ok (.if_icmp .ne 16, 3) := by decide +kernel
theorem dX5_nextRow_28 : decode cX5_nextRow 28 = .ok (.aload_n 0, 1) := by decide +kernel
theorem dX5_nextRow_29 : decode cX5_nextRow 29 = .ok (.getfield 51, 3) := by decide +kernel
theorem dX5_nextRow_32 : decode cX5_nextRow 32 = .ok (.iload_n 1, 1) := by decide +kernel
theorem dX5_nextRow_33 : decode cX5_nextRow 33 = .ok (.iconst 0, 1) := by decide +kernel
theorem dX5_nextRow_34 : decode cX5_nextRow 34 = .ok (.iastore, 1) := by decide +kernel
theorem dX5_nextRow_35 : decode cX5_nextRow 35 = .ok (.iinc 1 (-1), 3) := by decide +kernel
theorem dX5_nextRow_38 : decode cX5_nextRow 38 = .ok (.goto (-31), 3) := by decide +kernel
theorem dX5_nextRow_41 : decode cX5_nextRow 41 = .ok (.iload_n 1, 1) := by decide +kernel
theorem dX5_nextRow_42 : decode cX5_nextRow 42 = .ok (.ifCond .ge 5, 3) := by decide +kernel
theorem dX5_nextRow_45 : decode cX5_nextRow 45 = .ok (.iconst 0, 1) := by decide +kernel
theorem dX5_nextRow_46 : decode cX5_nextRow 46 = .ok (.ireturn, 1) := by decide +kernel
theorem dX5_nextRow_47 : decode cX5_nextRow 47 = .ok (.iconst 0, 1) := by decide +kernel
theorem dX5_nextRow_48 : decode cX5_nextRow 48 = .ok (.istore_n 2, 1) := by decide +kernel
theorem dX5_nextRow_49 : decode cX5_nextRow 49 = .ok (.iconst 0, 1) := by decide +kernel
theorem dX5_nextRow_50 : decode cX5_nextRow 50 = .ok (.istore_n 3, 1) := by decide +kernel
theorem dX5_nextRow_51 : decode cX5_nextRow 51 = .ok (.iload_n 3, 1) := by decide +kernel
theorem dX5_nextRow_52 : decode cX5_nextRow 52 = .ok (.iload_n 1, 1) := by decide +kernel
theorem dX5_nextRow_53 : decode cX5_nextRow 53 = .ok (.if_icmp .ge 18, 3) := by decide +kernel
theorem dX5_nextRow_56 : decode cX5_nextRow 56 = .ok (.iload_n 2, 1) := by decide +kernel
theorem dX5_nextRow_57 : decode cX5_nextRow 57 = .ok (.aload_n 0, 1) := by decide +kernel
theorem dX5_nextRow_58 : decode cX5_nextRow 58 = .ok (.getfield 51, 3) := by decide +kernel
theorem dX5_nextRow_61 : decode cX5_nextRow 61 = .ok (.iload_n 3, 1) := by decide +kernel
theorem dX5_nextRow_62 : decode cX5_nextRow 62 = .ok (.iaload, 1) := by decide +kernel
theorem dX5_nextRow_63 : decode cX5_nextRow 63 = .ok (.ior, 1) := by decide +kernel
theorem dX5_nextRow_64 : decode cX5_nextRow 64 = .ok (.istore_n 2, 1) := by decide +kernel
theorem dX5_nextRow_65 : decode cX5_nextRow 65 = .ok (.iinc 3 1, 3) := by decide +kernel
theorem dX5_nextRow_68 : decode cX5_nextRow 68 = .ok (.goto (-17), 3) := by decide +kernel
theorem dX5_nextRow_71 : decode cX5_nextRow 71 = .ok (.aload_n 0, 1) := by decide +kernel
theorem dX5_nextRow_72 : decode cX5_nextRow 72 = .ok (.getfield 51, 3) := by decide +kernel
theorem dX5_nextRow_75 : decode cX5_nextRow 75 = .ok (.iload_n 1, 1) := by decide +kernel
theorem dX5_nextRow_76 : decode cX5_nextRow 76 = .ok (.dup2, 1) := by decide +kernel
theorem dX5_nextRow_77 : decode cX5_nextRow 77 = .ok (.iaload, 1) := by decide +kernel
theorem dX5_nextRow_78 : decode cX5_nextRow 78 = .ok (.iconst 1, 1) := by decide +kernel
theorem dX5_nextRow_79 : decode cX5_nextRow 79 = .ok (.iadd, 1) := by decide +kernel
theorem dX5_nextRow_80 : decode cX5_nextRow 80 = .ok (.iastore, 1) := by decide +kernel
theorem dX5_nextRow_81 : decode cX5_nextRow 81 = .ok (.aload_n 0, 1) := by decide +kernel
theorem dX5_nextRow_82 : decode cX5_nextRow 82 = .ok (.getfield 51, 3) := by decide +kernel
theorem dX5_nextRow_85 : decode cX5_nextRow 85 = .ok (.iload_n 1, 1) := by decide +kernel
theorem dX5_nextRow_86 : decode cX5_nextRow 86 = .ok (.iaload, 1) := by decide +kernel
theorem dX5_nextRow_87 : decode cX5_nextRow 87 = .ok (.iload_n 2, 1) := by decide +kernel
theorem dX5_nextRow_88 : decode cX5_nextRow 88 = .ok (.iand, 1) := by decide +kernel
theorem dX5_nextRow_89 : decode cX5_nextRow 89 = .ok (.ifCond .eq 33, 3) := by decide +kernel
theorem dX5_nextRow_92 : decode cX5_nextRow 92 = .ok (.aload_n 0, 1) := by decide +kernel
theorem dX5_nextRow_93 : decode cX5_nextRow 93 = .ok (.getfield 51, 3) := by decide +kernel
theorem dX5_nextRow_96 : decode cX5_nextRow 96 = .ok (.iload_n 1, 1) := by decide +kernel
theorem dX5_nextRow_97 : decode cX5_nextRow 97 = .ok (.iaload, 1) := by decide +kernel
theorem dX5_nextRow_98 : decode cX5_nextRow 98 = .ok (.iconst 1, 1) := by decide +kernel
theorem dX5_nextRow_99 : decode cX5_nextRow 99 = .ok (.aload_n 0, 1) := by decide +kernel
theorem dX5_nextRow_100 : decode cX5_nextRow 100 = .ok (.getfield 134, 3) := by decide +kernel
theorem dX5_nextRow_103 : decode cX5_nextRow 103 = .ok (.ishl, 1) := by decide +kernel
theorem dX5_nextRow_104 : decode cX5_nextRow 104 = .ok (.iconst 1, 1) := by decide +kernel
theorem dX5_nextRow_105 : decode cX5_nextRow 105 = .ok (.isub, 1) := by decide +kernel
theorem dX5_nextRow_106 : decode cX5_nextRow 106 = .ok (.if_icmp .ge 16, 3) := by decide +kernel
theorem dX5_nextRow_109 : decode cX5_nextRow 109 = .ok (.aload_n 0, 1) := by decide +kernel
theorem dX5_nextRow_110 : decode cX5_nextRow 110 = .ok (.getfield 51, 3) := by decide +kernel
theorem dX5_nextRow_113 : decode cX5_nextRow 113 = .ok (.iload_n 1, 1) := by decide +kernel
theorem dX5_nextRow_114 : decode cX5_nextRow 114 = .ok (.dup2, 1) := by decide +kernel
theorem dX5_nextRow_115 : decode cX5_nextRow 115 = .ok (.iaload, 1) := by decide +kernel
theorem dX5_nextRow_116 : decode cX5_nextRow 116 = .ok (.iconst 1, 1) := by decide +kernel
theorem dX5_nextRow_117 : decode cX5_nextRow 117 = .ok (.iadd, 1) := by decide +kernel
theorem dX5_nextRow_118 : decode cX5_nextRow 118 = .ok (.iastore, 1) := by decide +kernel
theorem dX5_nextRow_119 : decode cX5_nextRow 119 = .ok (.goto (-38), 3) := by decide +kernel
theorem dX5_nextRow_122 : decode cX5_nextRow 122 = .ok (.iconst 1, 1) := by decide +kernel
theorem dX5_nextRow_123 : decode cX5_nextRow 123 = .ok (.ireturn, 1) := by decide +kernel
theorem dX5_packNow_0 : decode cX5_packNow 0 = .ok (.iconst 0, 1) := by decide +kernel
theorem dX5_packNow_1 : decode cX5_packNow 1 = .ok (.istore_n 3, 1) := by decide +kernel
theorem dX5_packNow_2 : decode cX5_packNow 2 = .ok (.iload_n 3, 1) := by decide +kernel
theorem dX5_packNow_3 : decode cX5_packNow 3 = .ok (.aload_n 0, 1) := by decide +kernel
theorem dX5_packNow_4 : decode cX5_packNow 4 = .ok (.getfield 131, 3) := by decide +kernel
theorem dX5_packNow_7 : decode cX5_packNow 7 = .ok (.if_icmp .ge 49, 3) := by decide +kernel
theorem dX5_packNow_10 : decode cX5_packNow 10 = .ok (.iconst 0, 1) := by decide +kernel
theorem dX5_packNow_11 : decode cX5_packNow 11 = .ok (.istore 4, 2) := by decide +kernel
theorem dX5_packNow_13 : decode cX5_packNow 13 = .ok (.iload 4, 2) := by decide +kernel
theorem dX5_packNow_15 : decode cX5_packNow 15 = .ok (.iconst 1, 1) := by decide +kernel
theorem dX5_packNow_16 : decode cX5_packNow 16 = .ok (.aload_n 0, 1) := by decide +kernel
theorem dX5_packNow_17 : decode cX5_packNow 17 = .ok (.getfield 134, 3) := by decide +kernel
theorem dX5_packNow_20 : decode cX5_packNow 20 = .ok (.ishl, 1) := by decide +kernel
theorem dX5_packNow_21 : decode cX5_packNow 21 = .ok (.if_icmp .ge 29, 3) := by decide +kernel
theorem dX5_packNow_24 : decode cX5_packNow 24 = .ok (.aload_n 0, 1) := by decide +kernel
theorem dX5_packNow_25 : decode cX5_packNow 25 = .ok (.getfield 44, 3) := by decide +kernel
theorem dX5_packNow_28 : decode cX5_packNow 28 = .ok (.bipush 32, 2) := by decide +kernel
theorem dX5_packNow_30 : decode cX5_packNow 30 = .ok (.iload_n 3, 1) := by decide +kernel
theorem dX5_packNow_31 : decode cX5_packNow 31 = .ok (.imul, 1) := by decide +kernel
theorem dX5_packNow_32 : decode cX5_packNow 32 = .ok (.iload 4, 2) := by decide +kernel
theorem dX5_packNow_34 : decode cX5_packNow 34 = .ok (.iadd, 1) := by decide +kernel
theorem dX5_packNow_35 : decode cX5_packNow 35 = .ok (.aload_n 0, 1) := by decide +kernel
theorem dX5_packNow_36 : decode cX5_packNow 36 = .ok (.iload_n 3, 1) := by decide +kernel
theorem dX5_packNow_37 : decode cX5_packNow 37 = .ok (.iload 4, 2) := by decide +kernel
theorem dX5_packNow_39 : decode cX5_packNow 39 = .ok (.iload_n 1, 1) := by decide +kernel
theorem dX5_packNow_40 : decode cX5_packNow 40 = .ok (.invokevirtual 243, 3) := by decide +kernel
theorem dX5_packNow_43 : decode cX5_packNow 43 = .ok (.bastore, 1) := by decide +kernel
theorem dX5_packNow_44 : decode cX5_packNow 44 = .ok (.iinc 4 1, 3) := by decide +kernel
theorem dX5_packNow_47 : decode cX5_packNow 47 = .ok (.goto (-34), 3) := by decide +kernel
theorem dX5_packNow_50 : decode cX5_packNow 50 = .ok (.iinc 3 1, 3) := by decide +kernel
theorem dX5_packNow_53 : decode cX5_packNow 53 = .ok (.goto (-51), 3) := by decide +kernel
theorem dX5_packNow_56 : decode cX5_packNow 56 = .ok (.iconst 0, 1) := by decide +kernel
theorem dX5_packNow_57 : decode cX5_packNow 57 = .ok (.istore_n 3, 1) := by decide +kernel
theorem dX5_packNow_58 : decode cX5_packNow 58 = .ok (.iload_n 3, 1) := by decide +kernel
theorem dX5_packNow_59 : decode cX5_packNow 59 = .ok (.iconst 4, 1) := by decide +kernel
theorem dX5_packNow_60 : decode cX5_packNow 60 = .ok (.if_icmp .ge 23, 3) := by decide +kernel
theorem dX5_packNow_63 : decode cX5_packNow 63 = .ok (.aload_n 0, 1) := by decide +kernel
theorem dX5_packNow_64 : decode cX5_packNow 64 = .ok (.getfield 51, 3) := by decide +kernel
theorem dX5_packNow_67 : decode cX5_packNow 67 = .ok (.iload_n 3, 1) := by decide +kernel
theorem dX5_packNow_68 : decode cX5_packNow 68 = .ok (.iconst 0, 1) := by decide +kernel
theorem dX5_packNow_69 : decode cX5_packNow 69 = .ok (.iastore, 1) := by decide +kernel
theorem dX5_packNow_70 : decode cX5_packNow 70 = .ok (.aload_n 0, 1) := by decide +kernel
theorem dX5_packNow_71 : decode cX5_packNow 71 = .ok (.getfield 54, 3) := by decide +kernel
theorem dX5_packNow_74 : decode cX5_packNow 74 = .ok (.iload_n 3, 1) := by decide +kernel
theorem dX5_packNow_75 : decode cX5_packNow 75 = .ok (.iconst 0, 1) := by decide +kernel
theorem dX5_packNow_76 : decode cX5_packNow 76 = .ok (.iastore, 1) := by decide +kernel
theorem dX5_packNow_77 : decode cX5_packNow 77 = .ok (.iinc 3 1, 3) := by decide +kernel
theorem dX5_packNow_80 : decode cX5_packNow 80 = .ok (.goto (-22), 3) := by decide +kernel
theorem dX5_packNow_83 : decode cX5_packNow 83 = .ok (.iconst (-1), 1) := by decide +kernel
theorem dX5_packNow_84 : decode cX5_packNow 84 = .ok (.istore_n 3, 1) := by decide +kernel
theorem dX5_packNow_85 : decode cX5_packNow 85 = .ok (.ldc 168, 2) := by decide +kernel
theorem dX5_packNow_87 : decode cX5_packNow 87 = .ok (.istore 4, 2) := by decide +kernel
theorem dX5_packNow_89 : decode cX5_packNow 89 = .ok (.iconst 1, 1) := by decide +kernel
theorem dX5_packNow_90 : decode cX5_packNow 90 = .ok (.istore 5, 2) := by decide +kernel
theorem dX5_packNow_92 : decode cX5_packNow 92 = .ok (.iload 5, 2) := by decide +kernel
theorem dX5_packNow_94 : decode cX5_packNow 94 = .ok (.ifCond .eq 87, 3) := by decide +kernel
theorem dX5_packNow_97 : decode cX5_packNow 97 = .ok (.aload_n 0, 1) := by decide +kernel
theorem dX5_packNow_98 : decode cX5_packNow 98 = .ok (.invokevirtual 246, 3) := by decide +kernel
theorem dX5_packNow_101 : decode cX5_packNow 101 = .ok (.ifCond .eq 71, 3) := by decide +kernel
theorem dX5_packNow_104 : decode cX5_packNow 104 = .ok (.aload_n 0, 1) := by decide +kernel
theorem dX5_packNow_105 : decode cX5_packNow 105 = .ok (.getfield 237, 3) := by decide +kernel
theorem dX5_packNow_108 : decode cX5_packNow 108 = .ok (.iload_n 3, 1) := by decide +kernel
theorem dX5_packNow_109 : decode cX5_packNow 109 = .ok (.if_icmp .gt 20, 3) := by decide +kernel
theorem dX5_packNow_112 : decode cX5_packNow 112 = .ok (.aload_n 0, 1) := by decide +kernel
theorem dX5_packNow_113 : decode cX5_packNow 113 = .ok (.getfield 237, 3) := by decide +kernel
theorem dX5_packNow_116 : decode cX5_packNow 116 = .ok (.iload_n 3, 1) := by decide +kernel
theorem dX5_packNow_117 : decode cX5_packNow 117 = .ok (.if_icmp .ne 55, 3) := by decide +kernel
theorem dX5_packNow_120 : decode cX5_packNow 120 = .ok (.aload_n 0, 1) := by decide +kernel
theorem dX5_packNow_121 : decode cX5_packNow 121 = .ok (.getfield 240, 3) := by decide +kernel
theorem dX5_packNow_124 : decode cX5_packNow 124 = .ok (.iload 4, 2) := by decide +kernel
theorem dX5_packNow_126 : decode cX5_packNow 126 = .ok (.if_icmp .ge 46, 3) := by decide +kernel
theorem dX5_packNow_129 : decode cX5_packNow 129 = .ok (.aload_n 0, 1) := by decide +kernel
theorem dX5_packNow_130 : decode cX5_packNow 130 = .ok (.getfield 237, 3) := by decide +kernel
theorem dX5_packNow_133 : decode cX5_packNow 133 = .ok (.istore_n 3, 1) := by decide +kernel
theorem dX5_packNow_134 : decode cX5_packNow 134 = .ok (.aload_n 0, 1) := by decide +kernel
theorem dX5_packNow_135 : decode cX5_packNow 135 = .ok (.getfield 240, 3) := by decide +kernel
theorem dX5_packNow_138 : decode cX5_packNow 138 = .ok (.istore 4, 2) := by decide +kernel
theorem dX5_packNow_140 : decode cX5_packNow 140 = .ok (.iconst 0, 1) := by decide +kernel
theorem dX5_packNow_141 : decode cX5_packNow 141 = .ok (.istore 6, 2) := by decide +kernel
theorem dX5_packNow_143 : decode cX5_packNow 143 = .ok (.iload 6, 2) := by decide +kernel
theorem dX5_packNow_145 : decode cX5_packNow 145 = .ok (.aload_n 0, 1) := by decide +kernel
theorem dX5_packNow_146 : decode cX5_packNow 146 = .ok (.getfield 131, 3) := by decide +kernel
theorem dX5_packNow_149 : decode cX5_packNow 149 = .ok (.if_icmp .ge 23, 3) := by decide +kernel
theorem dX5_packNow_152 : decode cX5_packNow 152 = .ok (.aload_n 0, 1) := by decide +kernel
theorem dX5_packNow_153 : decode cX5_packNow 153 = .ok (.getfield 54, 3) := by decide +kernel
theorem dX5_packNow_156 : decode cX5_packNow 156 = .ok (.iload 6, 2) := by decide +kernel
theorem dX5_packNow_158 : decode cX5_packNow 158 = .ok (.aload_n 0, 1) := by decide +kernel
theorem dX5_packNow_159 : decode cX5_packNow 159 = .ok (.getfield 51, 3) := by decide +kernel
theorem dX5_packNow_162 : decode cX5_packNow 162 = .ok (.iload 6, 2) := by decide +kernel
theorem dX5_packNow_164 : decode cX5_packNow 164 = .ok (.iaload, 1) := by decide +kernel
theorem dX5_packNow_165 : decode cX5_packNow 165 = .ok (.iastore, 1) := by decide +kernel
theorem dX5_packNow_166 : decode cX5_packNow 166 = .ok (.iinc 6 1, 3) := by decide +kernel
theorem dX5_packNow_169 : decode cX5_packNow 169 = .ok (.goto (-26), 3) := by decide +kernel
theorem dX5_packNow_172 : decode cX5_packNow 172 = .ok (.aload_n 0, 1) := by decide +kernel
theorem dX5_packNow_173 : decode cX5_packNow 173 = .ok (.invokevirtual 250, 3) := by decide +kernel
theorem dX5_packNow_176 : decode cX5_packNow 176 = .ok (.istore 5, 2) := by decide +kernel
theorem dX5_packNow_178 : decode cX5_packNow 178 = .ok (.goto (-86), 3) := by decide +kernel
theorem dX5_packNow_181 : decode cX5_packNow 181 = .ok (.iload_n 2, 1) := by decide +kernel
theorem dX5_packNow_182 : decode cX5_packNow 182 = .ok (.ifCond .ne 7, 3) := by decide +kernel
theorem dX5_packNow_185 : decode cX5_packNow 185 = .ok (.iload_n 3, 1) := by decide +kernel
theorem dX5_packNow_186 : decode cX5_packNow 186 = .ok (.goto 22, 3) := by decide +kernel
theorem dX5_packNow_189 : decode cX5_packNow 189 = .ok (.iload_n 2, 1) := by decide +kernel
theorem dX5_packNow_190 : decode cX5_packNow 190 = .ok (.iconst 1, 1) := by decide +kernel
theorem dX5_packNow_191 : decode cX5_packNow 191 = .ok (.if_icmp .ne 8, 3) := by decide +kernel
theorem dX5_packNow_194 : decode cX5_packNow 194 = .ok (.iload 4, 2) := by decide +kernel
theorem dX5_packNow_196 : decode cX5_packNow 196 = .ok (.goto 12, 3) := by decide +kernel
theorem dX5_packNow_199 : decode cX5_packNow 199 = .ok (.aload_n 0, 1) := by decide +kernel
theorem dX5_packNow_200 : decode cX5_packNow 200 = .ok (.getfield 54, 3) := by decide +kernel
theorem dX5_packNow_203 : decode cX5_packNow 203 = .ok (.iload_n 2, 1) := by decide +kernel
theorem dX5_packNow_204 : decode cX5_packNow 204 = .ok (.bipush 10, 2) := by decide +kernel
theorem dX5_packNow_206 : decode cX5_packNow 206 = .ok (.isub, 1) := by decide +kernel
theorem dX5_packNow_207 : decode cX5_packNow 207 = .ok (.iaload, 1) := by decide +kernel
theorem dX5_packNow_208 : decode cX5_packNow 208 = .ok (.ireturn, 1) := by decide +kernel
theorem dX5_pack_0 : decode cX5_pack 0 = .ok (.iload_n 1, 1) := by decide +kernel
theorem dX5_pack_1 : decode cX5_pack 1 = .ok (.iconst 1, 1) := by decide +kernel
theorem dX5_pack_2 : decode cX5_pack 2 = .ok (.bipush 20, 2) := by decide +kernel
theorem dX5_pack_4 : decode cX5_pack 4 = .ok (.invokestatic 96, 3) := by decide +kernel
theorem dX5_pack_7 : decode cX5_pack 7 = .ok (.ifCond .eq 23, 3) := by decide +kernel
theorem dX5_pack_10 : decode cX5_pack 10 = .ok (.iload_n 2, 1) := by decide +kernel
theorem dX5_pack_11 : decode cX5_pack 11 = .ok (.iconst 0, 1) := by decide +kernel
theorem dX5_pack_12 : decode cX5_pack 12 = .ok (.iconst 1, 1) := by decide +kernel
theorem dX5_pack_13 : decode cX5_pack 13 = .ok (.invokestatic 96, 3) := by decide +kernel
theorem dX5_pack_16 : decode cX5_pack 16 = .ok (.ifCond .ne 17, 3) := by decide +kernel
theorem dX5_pack_19 : decode cX5_pack 19 = .ok (.iload_n 2, 1) := by decide +kernel
theorem dX5_pack_20 : decode cX5_pack 20 = .ok (.bipush 10, 2) := by decide +kernel
theorem dX5_pack_22 : decode cX5_pack 22 = .ok (.bipush 13, 2) := by decide +kernel
theorem dX5_pack_24 : decode cX5_pack 24 = .ok (.invokestatic 96, 3) := by decide +kernel
theorem dX5_pack_27 : decode cX5_pack 27 = .ok (.ifCond .ne 6, 3) := by decide +kernel
theorem dX5_pack_30 : decode cX5_pack 30 = .ok (.bipush (-102), 2) := by decide +kernel
theorem dX5_pack_32 : decode cX5_pack 32 = .ok (.ireturn, 1) := by decide +kernel
theorem dX5_pack_33 : decode cX5_pack 33 = .ok (.aload_n 0, 1) := by decide +kernel
theorem dX5_pack_34 : decode cX5_pack 34 = .ok (.getfield 131, 3) := by decide +kernel
theorem dX5_pack_37 : decode cX5_pack 37 = .ok (.ifCond .eq 12, 3) := by decide +kernel
theorem dX5_pack_40 : decode cX5_pack 40 = .ok (.aload_n 0, 1) := by decide +kernel
theorem dX5_pack_41 : decode cX5_pack 41 = .ok (.getfield 253, 3) := by decide +kernel
theorem dX5_pack_44 : decode cX5_pack 44 = .ok (.bipush 20, 2) := by decide +kernel
theorem dX5_pack_46 : decode cX5_pack 46 = .ok (.if_icmp .ne 6, 3) := by decide +kernel
theorem dX5_pack_49 : decode cX5_pack 49 = .ok (.bipush (-103), 2) := by decide +kernel
theorem dX5_pack_51 : decode cX5_pack 51 = .ok (.ireturn, 1) := by decide +kernel
theorem dX5_pack_52 : decode cX5_pack 52 = .ok (.aload_n 0, 1) := by decide +kernel
theorem dX5_pack_53 : decode cX5_pack 53 = .ok (.dup, 1) := by decide +kernel
theorem dX5_pack_54 : decode cX5_pack 54 = .ok (.getfield 253, 3) := by decide +kernel
theorem dX5_pack_57 : decode cX5_pack 57 = .ok (.iconst 1, 1) := by decide +kernel
theorem dX5_pack_58 : decode cX5_pack 58 = .ok (.iadd, 1) := by decide +kernel
theorem dX5_pack_59 : decode cX5_pack 59 = .ok (.putfield 253, 3) := by decide +kernel
theorem dX5_pack_62 : decode cX5_pack 62 = .ok (.aload_n 0, 1) := by decide +kernel
theorem dX5_pack_63 : decode cX5_pack 63 = .ok (.iload_n 1, 1) := by decide +kernel
theorem dX5_pack_64 : decode cX5_pack 64 = .ok (.iload_n 2, 1) := by decide +kernel
theorem dX5_pack_65 : decode cX5_pack 65 = .ok (.invokevirtual 256, 3) := by decide +kernel
theorem dX5_pack_68 : decode cX5_pack 68 = .ok (.ireturn, 1) := by decide +kernel
theorem dX5_mendNow_0 : decode cX5_mendNow 0 = .ok (.iconst (-1), 1) := by decide +kernel
theorem dX5_mendNow_1 : decode cX5_mendNow 1 = .ok (.istore_n 1, 1) := by decide +kernel
theorem dX5_mendNow_2 : decode cX5_mendNow 2 = .ok (.aload_n 0, 1) := by decide +kernel
theorem dX5_mendNow_3 : decode cX5_mendNow 3 = .ok (.invokevirtual 259, 3) := by decide +kernel
theorem dX5_mendNow_6 : decode cX5_mendNow 6 = .ok (.istore_n 2, 1) := by decide +kernel
end
section
theorem dX5_mendNow_7 : decode cX5_mendNow 7 = .ok (.iconst 0, 1) := by decide +kernel
theorem dX5_mendNow_8 : decode cX5_mendNow 8 = .ok (.istore_n 3, 1) := by decide +kernel
theorem dX5_mendNow_9 : decode cX5_mendNow 9 = .ok (.iload_n 3, 1) := by decide +kernel
theorem dX5_mendNow_10 : decode cX5_mendNow 10 = .ok (.aload_n 0, 1) := by decide +kernel
theorem dX5_mendNow_11 : decode cX5_mendNow 11 = .ok (.getfield 134, 3) := by decide +kernel
theorem dX5_mendNow_14 : decode cX5_mendNow 14 = .ok (.if_icmp .ge 81, 3) := by decide +kernel
theorem dX5_mendNow_17 : decode cX5_mendNow 17 = .ok (.aload_n 0, 1) := by decide +kernel
theorem dX5_mendNow_18 : decode cX5_mendNow 18 = .ok (.getfield 19, 3) := by decide +kernel
theorem dX5_mendNow_21 : decode cX5_mendNow 21 = .ok (.iload_n 3, 1) := by decide +kernel
theorem dX5_mendNow_22 : decode cX5_mendNow 22 = .ok (.iaload, 1) := by decide +kernel
theorem dX5_mendNow_23 : decode cX5_mendNow 23 = .ok (.iconst (-1), 1) := by decide +kernel
theorem dX5_mendNow_24 : decode cX5_mendNow 24 = .ok (.if_icmp .eq 65, 3) := by decide +kernel
theorem dX5_mendNow_27 : decode cX5_mendNow 27 = .ok (.aload_n 0, 1) := by decide +kernel
theorem dX5_mendNow_28 : decode cX5_mendNow 28 = .ok (.getfield 16, 3) := by decide +kernel
theorem dX5_mendNow_31 : decode cX5_mendNow 31 = .ok (.iload_n 3, 1) := by decide +kernel
theorem dX5_mendNow_32 : decode cX5_mendNow 32 = .ok (.iaload, 1) := by decide +kernel
theorem dX5_mendNow_33 : decode cX5_mendNow 33 = .ok (.bipush 9, 2) := by decide +kernel
theorem dX5_mendNow_35 : decode cX5_mendNow 35 = .ok (.if_icmp .ge 54, 3) := by decide +kernel
theorem dX5_mendNow_38 : decode cX5_mendNow 38 = .ok (.aload_n 0, 1) := by decide +kernel
theorem dX5_mendNow_39 : decode cX5_mendNow 39 = .ok (.getfield 16, 3) := by decide +kernel
theorem dX5_mendNow_42 : decode cX5_mendNow 42 = .ok (.iload_n 3, 1) := by decide +kernel
theorem dX5_mendNow_43 : decode cX5_mendNow 43 = .ok (.dup2, 1) := by decide +kernel
theorem dX5_mendNow_44 : decode cX5_mendNow 44 = .ok (.iaload, 1) := by decide +kernel
theorem dX5_mendNow_45 : decode cX5_mendNow 45 = .ok (.iconst 1, 1) := by decide +kernel
theorem dX5_mendNow_46 : decode cX5_mendNow 46 = .ok (.iadd, 1) := by decide +kernel
theorem dX5_mendNow_47 : decode cX5_mendNow 47 = .ok (.iastore, 1) := by decide +kernel
theorem dX5_mendNow_48 : decode cX5_mendNow 48 = .ok (.aload_n 0, 1) := by decide +kernel
theorem dX5_mendNow_49 : decode cX5_mendNow 49 = .ok (.invokevirtual 259, 3) := by decide +kernel
theorem dX5_mendNow_52 : decode cX5_mendNow 52 = .ok (.istore 4, 2) := by decide +kernel
theorem dX5_mendNow_54 : decode cX5_mendNow 54 = .ok (.aload_n 0, 1) := by decide +kernel
theorem dX5_mendNow_55 : decode cX5_mendNow 55 = .ok (.getfield 16, 3) := by decide +kernel
theorem dX5_mendNow_58 : decode cX5_mendNow 58 = .ok (.iload_n 3, 1) := by decide +kernel
theorem dX5_mendNow_59 : decode cX5_mendNow 59 = .ok (.dup2, 1) := by decide +kernel
theorem dX5_mendNow_60 : decode cX5_mendNow 60 = .ok (.iaload, 1) := by decide +kernel
theorem dX5_mendNow_61 : decode cX5_mendNow 61 = .ok (.iconst 1, 1) := by decide +kernel
theorem dX5_mendNow_62 : decode cX5_mendNow 62 = .ok (.isub, 1) := by decide +kernel
theorem dX5_mendNow_63 : decode cX5_mendNow 63 = .ok (.iastore, 1) := by decide +kernel
theorem dX5_mendNow_64 : decode cX5_mendNow 64 = .ok (.iload 4, 2) := by decide +kernel
theorem dX5_mendNow_66 : decode cX5_mendNow 66 = .ok (.iload_n 2, 1) := by decide +kernel
theorem dX5_mendNow_67 : decode cX5_mendNow 67 = .ok (.if_icmp .le 7, 3) := by decide +kernel
theorem dX5_mendNow_70 : decode cX5_mendNow 70 = .ok (.iload_n 3, 1) := by decide +kernel
theorem dX5_mendNow_71 : decode cX5_mendNow 71 = .ok (.goto 4, 3) := by decide +kernel
theorem dX5_mendNow_74 : decode cX5_mendNow 74 = .ok (.iload_n 1, 1) := by decide +kernel
theorem dX5_mendNow_75 : decode cX5_mendNow 75 = .ok (.istore_n 1, 1) := by decide +kernel
theorem dX5_mendNow_76 : decode cX5_mendNow 76 = .ok (.iload 4, 2) := by decide +kernel
theorem dX5_mendNow_78 : decode cX5_mendNow 78 = .ok (.iload_n 2, 1) := by decide +kernel
theorem dX5_mendNow_79 : decode cX5_mendNow 79 = .ok (.if_icmp .le 8, 3) := by decide +kernel
theorem dX5_mendNow_82 : decode cX5_mendNow 82 = .ok (.iload 4, 2) := by decide +kernel
theorem dX5_mendNow_84 : decode cX5_mendNow 84 = .ok (.goto 4, 3) := by decide +kernel
theorem dX5_mendNow_87 : decode cX5_mendNow 87 = .ok (.iload_n 2, 1) := by decide +kernel
theorem dX5_mendNow_88 : decode cX5_mendNow 88 = .ok (.istore_n 2, 1) := by decide +kernel
theorem dX5_mendNow_89 : decode cX5_mendNow 89 = .ok (.iinc 3 1, 3) := by decide +kernel
theorem dX5_mendNow_92 : decode cX5_mendNow 92 = .ok (.goto (-83), 3) := by decide +kernel
theorem dX5_mendNow_95 : decode cX5_mendNow 95 = .ok (.iload_n 1, 1) := by decide +kernel
theorem dX5_mendNow_96 : decode cX5_mendNow 96 = .ok (.ireturn, 1) := by decide +kernel
theorem dX5_mend_0 : decode cX5_mend 0 = .ok (.aload_n 0, 1) := by decide +kernel
theorem dX5_mend_1 : decode cX5_mend 1 = .ok (.getfield 131, 3) := by decide +kernel
theorem dX5_mend_4 : decode cX5_mend 4 = .ok (.ifCond .ne 8, 3) := by decide +kernel
theorem dX5_mend_7 : decode cX5_mend 7 = .ok (.bipush (-103), 2) := by decide +kernel
theorem dX5_mend_9 : decode cX5_mend 9 = .ok (.goto 7, 3) := by decide +kernel
theorem dX5_mend_12 : decode cX5_mend 12 = .ok (.aload_n 0, 1) := by decide +kernel
theorem dX5_mend_13 : decode cX5_mend 13 = .ok (.invokevirtual 262, 3) := by decide +kernel
theorem dX5_mend_16 : decode cX5_mend 16 = .ok (.ireturn, 1) := by decide +kernel
theorem dX5_anyLifts_0 : decode cX5_anyLifts 0 = .ok (.iconst 0, 1) := by decide +kernel
theorem dX5_anyLifts_1 : decode cX5_anyLifts 1 = .ok (.istore_n 3, 1) := by decide +kernel
theorem dX5_anyLifts_2 : decode cX5_anyLifts 2 = .ok (.iconst 0, 1) := by decide +kernel
theorem dX5_anyLifts_3 : decode cX5_anyLifts 3 = .ok (.istore 4, 2) := by decide +kernel
theorem dX5_anyLifts_5 : decode cX5_anyLifts 5 = .ok (.iload 4, 2) := by decide +kernel
theorem dX5_anyLifts_7 : decode cX5_anyLifts 7 = .ok (.aload_n 0, 1) := by decide +kernel
theorem dX5_anyLifts_8 : decode cX5_anyLifts 8 = .ok (.getfield 131, 3) := by decide +kernel
theorem dX5_anyLifts_11 : decode cX5_anyLifts 11 = .ok (.if_icmp .ge 30, 3) := by decide +kernel
theorem dX5_anyLifts_14 : decode cX5_anyLifts 14 = .ok (.iload_n 3, 1) := by decide +kernel
theorem dX5_anyLifts_15 : decode cX5_anyLifts 15 = .ok (.ifCond .ne 14, 3) := by decide +kernel
theorem dX5_anyLifts_18 : decode cX5_anyLifts 18 = .ok (.aload_n 0, 1) := by decide +kernel
theorem dX5_anyLifts_19 : decode cX5_anyLifts 19 = .ok (.iload 4, 2) := by decide +kernel
theorem dX5_anyLifts_21 : decode cX5_anyLifts 21 = .ok (.iload_n 1, 1) := by decide +kernel
theorem dX5_anyLifts_22 : decode cX5_anyLifts 22 = .ok (.iload_n 2, 1) := by decide +kernel
theorem dX5_anyLifts_23 : decode cX5_anyLifts 23 = .ok (.invokevirtual 204, 3) := by decide +kernel
theorem dX5_anyLifts_26 : decode cX5_anyLifts 26 = .ok (.ifCond .eq 7, 3) := by decide +kernel
theorem dX5_anyLifts_29 : decode cX5_anyLifts 29 = .ok (.iconst 1, 1) := by decide +kernel
theorem dX5_anyLifts_30 : decode cX5_anyLifts 30 = .ok (.goto 4, 3) := by decide +kernel
theorem dX5_anyLifts_33 : decode cX5_anyLifts 33 = .ok (.iconst 0, 1) := by decide +kernel
theorem dX5_anyLifts_34 : decode cX5_anyLifts 34 = .ok (.istore_n 3, 1) := by decide +kernel
theorem dX5_anyLifts_35 : decode cX5_anyLifts 35 = .ok (.iinc 4 1, 3) := by decide +kernel
theorem dX5_anyLifts_38 : decode cX5_anyLifts 38 = .ok (.goto (-33), 3) := by decide +kernel
theorem dX5_anyLifts_41 : decode cX5_anyLifts 41 = .ok (.iload_n 3, 1) := by decide +kernel
theorem dX5_anyLifts_42 : decode cX5_anyLifts 42 = .ok (.ireturn, 1) := by decide +kernel
theorem dX5_oddsNow_0 : decode cX5_oddsNow 0 = .ok (.iconst 0, 1) := by decide +kernel
theorem dX5_oddsNow_1 : decode cX5_oddsNow 1 = .ok (.istore_n 3, 1) := by decide +kernel
theorem dX5_oddsNow_2 : decode cX5_oddsNow 2 = .ok (.iconst 0, 1) := by decide +kernel
theorem dX5_oddsNow_3 : decode cX5_oddsNow 3 = .ok (.istore 4, 2) := by decide +kernel
theorem dX5_oddsNow_5 : decode cX5_oddsNow 5 = .ok (.iload 4, 2) := by decide +kernel
theorem dX5_oddsNow_7 : decode cX5_oddsNow 7 = .ok (.bipush 10, 2) := by decide +kernel
theorem dX5_oddsNow_9 : decode cX5_oddsNow 9 = .ok (.if_icmp .ge 45, 3) := by decide +kernel
theorem dX5_oddsNow_12 : decode cX5_oddsNow 12 = .ok (.iload_n 3, 1) := by decide +kernel
theorem dX5_oddsNow_13 : decode cX5_oddsNow 13 = .ok (.aload_n 0, 1) := by decide +kernel
theorem dX5_oddsNow_14 : decode cX5_oddsNow 14 = .ok (.iconst 0, 1) := by decide +kernel
theorem dX5_oddsNow_15 : decode cX5_oddsNow 15 = .ok (.iload 4, 2) := by decide +kernel
theorem dX5_oddsNow_17 : decode cX5_oddsNow 17 = .ok (.invokevirtual 265, 3) := by decide +kernel
theorem dX5_oddsNow_20 : decode cX5_oddsNow 20 = .ok (.ifCond .eq 7, 3) := by decide +kernel
theorem dX5_oddsNow_23 : decode cX5_oddsNow 23 = .ok (.iconst 0, 1) := by decide +kernel
theorem dX5_oddsNow_24 : decode cX5_oddsNow 24 = .ok (.goto 4, 3) := by decide +kernel
theorem dX5_oddsNow_27 : decode cX5_oddsNow 27 = .ok (.iconst 1, 1) := by decide +kernel
theorem dX5_oddsNow_28 : decode cX5_oddsNow 28 = .ok (.iadd, 1) := by decide +kernel
theorem dX5_oddsNow_29 : decode cX5_oddsNow 29 = .ok (.istore_n 3, 1) := by decide +kernel
theorem dX5_oddsNow_30 : decode cX5_oddsNow 30 = .ok (.iload_n 3, 1) := by decide +kernel
theorem dX5_oddsNow_31 : decode cX5_oddsNow 31 = .ok (.aload_n 0, 1) := by decide +kernel
theorem dX5_oddsNow_32 : decode cX5_oddsNow 32 = .ok (.iconst 1, 1) := by decide +kernel
theorem dX5_oddsNow_33 : decode cX5_oddsNow 33 = .ok (.iload 4, 2) := by decide +kernel
theorem dX5_oddsNow_35 : decode cX5_oddsNow 35 = .ok (.invokevirtual 265, 3) := by decide +kernel
theorem dX5_oddsNow_38 : decode cX5_oddsNow 38 = .ok (.ifCond .eq 7, 3) := by decide +kernel
theorem dX5_oddsNow_41 : decode cX5_oddsNow 41 = .ok (.iconst 0, 1) := by decide +kernel
theorem dX5_oddsNow_42 : decode cX5_oddsNow 42 = .ok (.goto 4, 3) := by decide +kernel
theorem dX5_oddsNow_45 : decode cX5_oddsNow 45 = .ok (.iconst 1, 1) := by decide +kernel
theorem dX5_oddsNow_46 : decode cX5_oddsNow 46 = .ok (.iadd, 1) := by decide +kernel
theorem dX5_oddsNow_47 : decode cX5_oddsNow 47 = .ok (.istore_n 3, 1) := by decide +kernel
theorem dX5_oddsNow_48 : decode cX5_oddsNow 48 = .ok (.iinc 4 1, 3) := by decide +kernel
theorem dX5_oddsNow_51 : decode cX5_oddsNow 51 = .ok (.goto (-46), 3) := by decide +kernel
theorem dX5_oddsNow_54 : decode cX5_oddsNow 54 = .ok (.iconst 1, 1) := by decide +kernel
theorem dX5_oddsNow_55 : decode cX5_oddsNow 55 = .ok (.istore 4, 2) := by decide +kernel
theorem dX5_oddsNow_57 : decode cX5_oddsNow 57 = .ok (.iconst 1, 1) := by decide +kernel
theorem dX5_oddsNow_58 : decode cX5_oddsNow 58 = .ok (.istore 5, 2) := by decide +kernel
theorem dX5_oddsNow_60 : decode cX5_oddsNow 60 = .ok (.iconst 0, 1) := by decide +kernel
theorem dX5_oddsNow_61 : decode cX5_oddsNow 61 = .ok (.istore 6, 2) := by decide +kernel
theorem dX5_oddsNow_63 : decode cX5_oddsNow 63 = .ok (.iload 6, 2) := by decide +kernel
theorem dX5_oddsNow_65 : decode cX5_oddsNow 65 = .ok (.iload_n 1, 1) := by decide +kernel
theorem dX5_oddsNow_66 : decode cX5_oddsNow 66 = .ok (.if_icmp .ge 22, 3) := by decide +kernel
theorem dX5_oddsNow_69 : decode cX5_oddsNow 69 = .ok (.iload 4, 2) := by decide +kernel
theorem dX5_oddsNow_71 : decode cX5_oddsNow 71 = .ok (.iload_n 3, 1) := by decide +kernel
theorem dX5_oddsNow_72 : decode cX5_oddsNow 72 = .ok (.imul, 1) := by decide +kernel
theorem dX5_oddsNow_73 : decode cX5_oddsNow 73 = .ok (.istore 4, 2) := by decide +kernel
theorem dX5_oddsNow_75 : decode cX5_oddsNow 75 = .ok (.iload 5, 2) := by decide +kernel
theorem dX5_oddsNow_77 : decode cX5_oddsNow 77 = .ok (.bipush 20, 2) := by decide +kernel
theorem dX5_oddsNow_79 : decode cX5_oddsNow 79 = .ok (.imul, 1) := by decide +kernel
theorem dX5_oddsNow_80 : decode cX5_oddsNow 80 = .ok (.istore 5, 2) := by decide +kernel
theorem dX5_oddsNow_82 : decode cX5_oddsNow 82 = .ok (.iinc 6 1, 3) := by decide +kernel
theorem dX5_oddsNow_85 : decode cX5_oddsNow 85 = .ok (.goto (-22), 3) := by decide +kernel
theorem dX5_oddsNow_88 : decode cX5_oddsNow 88 = .ok (.iload 4, 2) := by decide +kernel
theorem dX5_oddsNow_90 : decode cX5_oddsNow 90 = .ok (.iload 5, 2) := by decide +kernel
theorem dX5_oddsNow_92 : decode cX5_oddsNow 92 = .ok (.invokestatic 268, 3) := by decide +kernel
theorem dX5_oddsNow_95 : decode cX5_oddsNow 95 = .ok (.istore 6, 2) := by decide +kernel
theorem dX5_oddsNow_97 : decode cX5_oddsNow 97 = .ok (.iload_n 2, 1) := by decide +kernel
theorem dX5_oddsNow_98 : decode cX5_oddsNow 98 = .ok (.ifCond .ne 11, 3) := by decide +kernel
theorem dX5_oddsNow_101 : decode cX5_oddsNow 101 = .ok (.iload 4, 2) := by decide +kernel
theorem dX5_oddsNow_103 : decode cX5_oddsNow 103 = .ok (.iload 6, 2) := by decide +kernel
theorem dX5_oddsNow_105 : decode cX5_oddsNow 105 = .ok (.idiv, 1) := by decide +kernel
theorem dX5_oddsNow_106 : decode cX5_oddsNow 106 = .ok (.goto 8, 3) := by decide +kernel
theorem dX5_oddsNow_109 : decode cX5_oddsNow 109 = .ok (.iload 5, 2) := by decide +kernel
theorem dX5_oddsNow_111 : decode cX5_oddsNow 111 = .ok (.iload 6, 2) := by decide +kernel
theorem dX5_oddsNow_113 : decode cX5_oddsNow 113 = .ok (.idiv, 1) := by decide +kernel
theorem dX5_oddsNow_114 : decode cX5_oddsNow 114 = .ok (.ireturn, 1) := by decide +kernel
theorem dX5_odds_0 : decode cX5_odds 0 = .ok (.iload_n 1, 1) := by decide +kernel
theorem dX5_odds_1 : decode cX5_odds 1 = .ok (.iconst 1, 1) := by decide +kernel
theorem dX5_odds_2 : decode cX5_odds 2 = .ok (.iconst 4, 1) := by decide +kernel
theorem dX5_odds_3 : decode cX5_odds 3 = .ok (.invokestatic 96, 3) := by decide +kernel
theorem dX5_odds_6 : decode cX5_odds 6 = .ok (.ifCond .eq 12, 3) := by decide +kernel
theorem dX5_odds_9 : decode cX5_odds 9 = .ok (.iload_n 2, 1) := by decide +kernel
theorem dX5_odds_10 : decode cX5_odds 10 = .ok (.iconst 0, 1) := by decide +kernel
theorem dX5_odds_11 : decode cX5_odds 11 = .ok (.iconst 1, 1) := by decide +kernel
theorem dX5_odds_12 : decode cX5_odds 12 = .ok (.invokestatic 96, 3) := by decide +kernel
theorem dX5_odds_15 : decode cX5_odds 15 = .ok (.ifCond .ne 6, 3) := by decide +kernel
theorem dX5_odds_18 : decode cX5_odds 18 = .ok (.bipush (-102), 2) := by decide +kernel
theorem dX5_odds_20 : decode cX5_odds 20 = .ok (.ireturn, 1) := by decide +kernel
theorem dX5_odds_21 : decode cX5_odds 21 = .ok (.aload_n 0, 1) := by decide +kernel
theorem dX5_odds_22 : decode cX5_odds 22 = .ok (.getfield 131, 3) := by decide +kernel
theorem dX5_odds_25 : decode cX5_odds 25 = .ok (.ifCond .ne 8, 3) := by decide +kernel
theorem dX5_odds_28 : decode cX5_odds 28 = .ok (.bipush (-103), 2) := by decide +kernel
theorem dX5_odds_30 : decode cX5_odds 30 = .ok (.goto 9, 3) := by decide +kernel
theorem dX5_odds_33 : decode cX5_odds 33 = .ok (.aload_n 0, 1) := by decide +kernel
theorem dX5_odds_34 : decode cX5_odds 34 = .ok (.iload_n 1, 1) := by decide +kernel
theorem dX5_odds_35 : decode cX5_odds 35 = .ok (.iload_n 2, 1) := by decide +kernel
theorem dX5_odds_36 : decode cX5_odds 36 = .ok (.invokevirtual 271, 3) := by decide +kernel
theorem dX5_odds_39 : decode cX5_odds 39 = .ok (.ireturn, 1) := by decide +kernel
theorem dX5_see_0 : decode cX5_see 0 = .ok (.aload_n 0, 1) := by decide +kernel
theorem dX5_see_1 : decode cX5_see 1 = .ok (.iload_n 1, 1) := by decide +kernel
theorem dX5_see_2 : decode cX5_see 2 = .ok (.invokevirtual 182, 3) := by decide +kernel
theorem dX5_see_5 : decode cX5_see 5 = .ok (.ifCond .ne 6, 3) := by decide +kernel
theorem dX5_see_8 : decode cX5_see 8 = .ok (.bipush (-101), 2) := by decide +kernel
theorem dX5_see_10 : decode cX5_see 10 = .ok (.ireturn, 1) := by decide +kernel
theorem dX5_see_11 : decode cX5_see 11 = .ok (.iload_n 2, 1) := by decide +kernel
theorem dX5_see_12 : decode cX5_see 12 = .ok (.iload_n 3, 1) := by decide +kernel
theorem dX5_see_13 : decode cX5_see 13 = .ok (.invokestatic 201, 3) := by decide +kernel
theorem dX5_see_16 : decode cX5_see 16 = .ok (.ifCond .ne 6, 3) := by decide +kernel
theorem dX5_see_19 : decode cX5_see 19 = .ok (.bipush (-102), 2) := by decide +kernel
theorem dX5_see_21 : decode cX5_see 21 = .ok (.ireturn, 1) := by decide +kernel
theorem dX5_see_22 : decode cX5_see 22 = .ok (.aload_n 0, 1) := by decide +kernel
theorem dX5_see_23 : decode cX5_see 23 = .ok (.getfield 149, 3) := by decide +kernel
theorem dX5_see_26 : decode cX5_see 26 = .ok (.bipush 8, 2) := by decide +kernel
theorem dX5_see_28 : decode cX5_see 28 = .ok (.if_icmp .ne 6, 3) := by decide +kernel
theorem dX5_see_31 : decode cX5_see 31 = .ok (.bipush (-104), 2) := by decide +kernel
theorem dX5_see_33 : decode cX5_see 33 = .ok (.ireturn, 1) := by decide +kernel
theorem dX5_see_34 : decode cX5_see 34 = .ok (.aload_n 0, 1) := by decide +kernel
theorem dX5_see_35 : decode cX5_see 35 = .ok (.getfield 28, 3) := by decide +kernel
theorem dX5_see_38 : decode cX5_see 38 = .ok (.aload_n 0, 1) := by decide +kernel
theorem dX5_see_39 : decode cX5_see 39 = .ok (.getfield 149, 3) := by decide +kernel
theorem dX5_see_42 : decode cX5_see 42 = .ok (.iload_n 1, 1) := by decide +kernel
theorem dX5_see_43 : decode cX5_see 43 = .ok (.iastore, 1) := by decide +kernel
theorem dX5_see_44 : decode cX5_see 44 = .ok (.aload_n 0, 1) := by decide +kernel
theorem dX5_see_45 : decode cX5_see 45 = .ok (.getfield 31, 3) := by decide +kernel
theorem dX5_see_48 : decode cX5_see 48 = .ok (.aload_n 0, 1) := by decide +kernel
theorem dX5_see_49 : decode cX5_see 49 = .ok (.getfield 149, 3) := by decide +kernel
theorem dX5_see_52 : decode cX5_see 52 = .ok (.iload_n 2, 1) := by decide +kernel
theorem dX5_see_53 : decode cX5_see 53 = .ok (.iastore, 1) := by decide +kernel
theorem dX5_see_54 : decode cX5_see 54 = .ok (.aload_n 0, 1) := by decide +kernel
theorem dX5_see_55 : decode cX5_see 55 = .ok (.getfield 34, 3) := by decide +kernel
theorem dX5_see_58 : decode cX5_see 58 = .ok (.aload_n 0, 1) := by decide +kernel
theorem dX5_see_59 : decode cX5_see 59 = .ok (.getfield 149, 3) := by decide +kernel
theorem dX5_see_62 : decode cX5_see 62 = .ok (.iload_n 3, 1) := by decide +kernel
theorem dX5_see_63 : decode cX5_see 63 = .ok (.iastore, 1) := by decide +kernel
theorem dX5_see_64 : decode cX5_see 64 = .ok (.aload_n 0, 1) := by decide +kernel
theorem dX5_see_65 : decode cX5_see 65 = .ok (.getfield 37, 3) := by decide +kernel
theorem dX5_see_68 : decode cX5_see 68 = .ok (.aload_n 0, 1) := by decide +kernel
theorem dX5_see_69 : decode cX5_see 69 = .ok (.getfield 149, 3) := by decide +kernel
theorem dX5_see_72 : decode cX5_see 72 = .ok (.iload 4, 2) := by decide +kernel
theorem dX5_see_74 : decode cX5_see 74 = .ok (.ifCond .eq 7, 3) := by decide +kernel
theorem dX5_see_77 : decode cX5_see 77 = .ok (.iconst 1, 1) := by decide +kernel
theorem dX5_see_78 : decode cX5_see 78 = .ok (.goto 4, 3) := by decide +kernel
theorem dX5_see_81 : decode cX5_see 81 = .ok (.iconst 0, 1) := by decide +kernel
theorem dX5_see_82 : decode cX5_see 82 = .ok (.iastore, 1) := by decide +kernel
theorem dX5_see_83 : decode cX5_see 83 = .ok (.aload_n 0, 1) := by decide +kernel
theorem dX5_see_84 : decode cX5_see 84 = .ok (.dup, 1) := by decide +kernel
theorem dX5_see_85 : decode cX5_see 85 = .ok (.getfield 149, 3) := by decide +kernel
theorem dX5_see_88 : decode cX5_see 88 = .ok (.iconst 1, 1) := by decide +kernel
theorem dX5_see_89 : decode cX5_see 89 = .ok (.iadd, 1) := by decide +kernel
theorem dX5_see_90 : decode cX5_see 90 = .ok (.putfield 149, 3) := by decide +kernel
theorem dX5_see_93 : decode cX5_see 93 = .ok (.aload_n 0, 1) := by decide +kernel
theorem dX5_see_94 : decode cX5_see 94 = .ok (.getfield 149, 3) := by decide +kernel
theorem dX5_see_97 : decode cX5_see 97 = .ok (.ireturn, 1) := by decide +kernel
theorem dX5_forget_0 : decode cX5_forget 0 = .ok (.aload_n 0, 1) := by decide +kernel
theorem dX5_forget_1 : decode cX5_forget 1 = .ok (.getfield 149, 3) := by decide +kernel
theorem dX5_forget_4 : decode cX5_forget 4 = .ok (.istore_n 1, 1) := by decide +kernel
theorem dX5_forget_5 : decode cX5_forget 5 = .ok (.aload_n 0, 1) := by decide +kernel
theorem dX5_forget_6 : decode cX5_forget 6 = .ok (.iconst 0, 1) := by decide +kernel
theorem dX5_forget_7 : decode cX5_forget 7 = .ok (.putfield 149, 3) := by decide +kernel
theorem dX5_forget_10 : decode cX5_forget 10 = .ok (.iload_n 1, 1) := by decide +kernel
theorem dX5_forget_11 : decode cX5_forget 11 = .ok (.ireturn, 1) := by decide +kernel
theorem dX5_liftsWith_0 : decode cX5_liftsWith 0 = .ok (.aload_n 0, 1) := by decide +kernel
theorem dX5_liftsWith_1 : decode cX5_liftsWith 1 = .ok (.getfield 16, 3) := by decide +kernel
theorem dX5_liftsWith_4 : decode cX5_liftsWith 4 = .ok (.iload_n 1, 1) := by decide +kernel
theorem dX5_liftsWith_5 : decode cX5_liftsWith 5 = .ok (.iaload, 1) := by decide +kernel
theorem dX5_liftsWith_6 : decode cX5_liftsWith 6 = .ok (.istore 5, 2) := by decide +kernel
theorem dX5_liftsWith_8 : decode cX5_liftsWith 8 = .ok (.aload_n 0, 1) := by decide +kernel
theorem dX5_liftsWith_9 : decode cX5_liftsWith 9 = .ok (.getfield 16, 3) := by decide +kernel
theorem dX5_liftsWith_12 : decode cX5_liftsWith 12 = .ok (.iload_n 1, 1) := by decide +kernel
theorem dX5_liftsWith_13 : decode cX5_liftsWith 13 = .ok (.iload_n 2, 1) := by decide +kernel
theorem dX5_liftsWith_14 : decode cX5_liftsWith 14 = .ok (.iastore, 1) := by decide +kernel
theorem dX5_liftsWith_15 : decode cX5_liftsWith 15 = .ok (.aload_n 0, 1) := by decide +kernel
theorem dX5_liftsWith_16 : decode cX5_liftsWith 16 = .ok (.aload_n 0, 1) := by decide +kernel
theorem dX5_liftsWith_17 : decode cX5_liftsWith 17 = .ok (.getfield 19, 3) := by decide +kernel
theorem dX5_liftsWith_20 : decode cX5_liftsWith 20 = .ok (.iload_n 1, 1) := by decide +kernel
theorem dX5_liftsWith_21 : decode cX5_liftsWith 21 = .ok (.iaload, 1) := by decide +kernel
theorem dX5_liftsWith_22 : decode cX5_liftsWith 22 = .ok (.iload_n 3, 1) := by decide +kernel
theorem dX5_liftsWith_23 : decode cX5_liftsWith 23 = .ok (.iload 4, 2) := by decide +kernel
theorem dX5_liftsWith_25 : decode cX5_liftsWith 25 = .ok (.invokevirtual 204, 3) := by decide +kernel
theorem dX5_liftsWith_28 : decode cX5_liftsWith 28 = .ok (.istore 6, 2) := by decide +kernel
theorem dX5_liftsWith_30 : decode cX5_liftsWith 30 = .ok (.aload_n 0, 1) := by decide +kernel
theorem dX5_liftsWith_31 : decode cX5_liftsWith 31 = .ok (.getfield 16, 3) := by decide +kernel
theorem dX5_liftsWith_34 : decode cX5_liftsWith 34 = .ok (.iload_n 1, 1) := by decide +kernel
theorem dX5_liftsWith_35 : decode cX5_liftsWith 35 = .ok (.iload 5, 2) := by decide +kernel
theorem dX5_liftsWith_37 : decode cX5_liftsWith 37 = .ok (.iastore, 1) := by decide +kernel
theorem dX5_liftsWith_38 : decode cX5_liftsWith 38 = .ok (.iload 6, 2) := by decide +kernel
theorem dX5_liftsWith_40 : decode cX5_liftsWith 40 = .ok (.ireturn, 1) := by decide +kernel
theorem dX5_canHave_0 : decode cX5_canHave 0 = .ok (.iconst 0, 1) := by decide +kernel
theorem dX5_canHave_1 : decode cX5_canHave 1 = .ok (.istore_n 2, 1) := by decide +kernel
theorem dX5_canHave_2 : decode cX5_canHave 2 = .ok (.iconst 1, 1) := by decide +kernel
theorem dX5_canHave_3 : decode cX5_canHave 3 = .ok (.istore_n 3, 1) := by decide +kernel
theorem dX5_canHave_4 : decode cX5_canHave 4 = .ok (.iload_n 3, 1) := by decide +kernel
theorem dX5_canHave_5 : decode cX5_canHave 5 = .ok (.bipush 9, 2) := by decide +kernel
theorem dX5_canHave_7 : decode cX5_canHave 7 = .ok (.if_icmp .gt 119, 3) := by decide +kernel
theorem dX5_canHave_10 : decode cX5_canHave 10 = .ok (.iconst 1, 1) := by decide +kernel
theorem dX5_canHave_11 : decode cX5_canHave 11 = .ok (.istore 4, 2) := by decide +kernel
theorem dX5_canHave_13 : decode cX5_canHave 13 = .ok (.iconst 0, 1) := by decide +kernel
theorem dX5_canHave_14 : decode cX5_canHave 14 = .ok (.istore 5, 2) := by decide +kernel
theorem dX5_canHave_16 : decode cX5_canHave 16 = .ok (.iload 5, 2) := by decide +kernel
theorem dX5_canHave_18 : decode cX5_canHave 18 = .ok (.aload_n 0, 1) := by decide +kernel
theorem dX5_canHave_19 : decode cX5_canHave 19 = .ok (.getfield 149, 3) := by decide +kernel
theorem dX5_canHave_22 : decode cX5_canHave 22 = .ok (.if_icmp .ge 81, 3) := by decide +kernel
theorem dX5_canHave_25 : decode cX5_canHave 25 = .ok (.aload_n 0, 1) := by decide +kernel
theorem dX5_canHave_26 : decode cX5_canHave 26 = .ok (.getfield 19, 3) := by decide +kernel
theorem dX5_canHave_29 : decode cX5_canHave 29 = .ok (.iload_n 1, 1) := by decide +kernel
theorem dX5_canHave_30 : decode cX5_canHave 30 = .ok (.iaload, 1) := by decide +kernel
theorem dX5_canHave_31 : decode cX5_canHave 31 = .ok (.iconst (-1), 1) := by decide +kernel
theorem dX5_canHave_32 : decode cX5_canHave 32 = .ok (.if_icmp .eq 71, 3) := by decide +kernel
theorem dX5_canHave_35 : decode cX5_canHave 35 = .ok (.iload 4, 2) := by decide +kernel
theorem dX5_canHave_37 : decode cX5_canHave 37 = .ok (.ifCond .eq 57, 3) := by decide +kernel
theorem dX5_canHave_40 : decode cX5_canHave 40 = .ok (.aload_n 0, 1) := by decide +kernel
theorem dX5_canHave_41 : decode cX5_canHave 41 = .ok (.getfield 28, 3) := by decide +kernel
theorem dX5_canHave_44 : decode cX5_canHave 44 = .ok (.iload 5, 2) := by decide +kernel
theorem dX5_canHave_46 : decode cX5_canHave 46 = .ok (.iaload, 1) := by decide +kernel
theorem dX5_canHave_47 : decode cX5_canHave 47 = .ok (.iload_n 1, 1) := by decide +kernel
theorem dX5_canHave_48 : decode cX5_canHave 48 = .ok (.if_icmp .ne 42, 3) := by decide +kernel
theorem dX5_canHave_51 : decode cX5_canHave 51 = .ok (.aload_n 0, 1) := by decide +kernel
theorem dX5_canHave_52 : decode cX5_canHave 52 = .ok (.iload_n 1, 1) := by decide +kernel
theorem dX5_canHave_53 : decode cX5_canHave 53 = .ok (.iload_n 3, 1) := by decide +kernel
theorem dX5_canHave_54 : decode cX5_canHave 54 = .ok (.aload_n 0, 1) := by decide +kernel
theorem dX5_canHave_55 : decode cX5_canHave 55 = .ok (.getfield 31, 3) := by decide +kernel
theorem dX5_canHave_58 : decode cX5_canHave 58 = .ok (.iload 5, 2) := by decide +kernel
theorem dX5_canHave_60 : decode cX5_canHave 60 = .ok (.iaload, 1) := by decide +kernel
theorem dX5_canHave_61 : decode cX5_canHave 61 = .ok (.aload_n 0, 1) := by decide +kernel
theorem dX5_canHave_62 : decode cX5_canHave 62 = .ok (.getfield 34, 3) := by decide +kernel
theorem dX5_canHave_65 : decode cX5_canHave 65 = .ok (.iload 5, 2) := by decide +kernel
theorem dX5_canHave_67 : decode cX5_canHave 67 = .ok (.iaload, 1) := by decide +kernel
theorem dX5_canHave_68 : decode cX5_canHave 68 = .ok (.invokevirtual 274, 3) := by decide +kernel
theorem dX5_canHave_71 : decode cX5_canHave 71 = .ok (.aload_n 0, 1) := by decide +kernel
theorem dX5_canHave_72 : decode cX5_canHave 72 = .ok (.getfield 37, 3) := by decide +kernel
theorem dX5_canHave_75 : decode cX5_canHave 75 = .ok (.iload 5, 2) := by decide +kernel
theorem dX5_canHave_77 : decode cX5_canHave 77 = .ok (.iaload, 1) := by decide +kernel
theorem dX5_canHave_78 : decode cX5_canHave 78 = .ok (.iconst 1, 1) := by decide +kernel
theorem dX5_canHave_79 : decode cX5_canHave 79 = .ok (.if_icmp .ne 7, 3) := by decide +kernel
theorem dX5_canHave_82 : decode cX5_canHave 82 = .ok (.iconst 1, 1) := by decide +kernel
theorem dX5_canHave_83 : decode cX5_canHave 83 = .ok (.goto 4, 3) := by decide +kernel
theorem dX5_canHave_86 : decode cX5_canHave 86 = .ok (.iconst 0, 1) := by decide +kernel
theorem dX5_canHave_87 : decode cX5_canHave 87 = .ok (.if_icmp .ne 7, 3) := by decide +kernel
theorem dX5_canHave_90 : decode cX5_canHave 90 = .ok (.iconst 1, 1) := by decide +kernel
theorem dX5_canHave_91 : decode cX5_canHave 91 = .ok (.goto 4, 3) := by decide +kernel
theorem dX5_canHave_94 : decode cX5_canHave 94 = .ok (.iconst 0, 1) := by decide +kernel
theorem dX5_canHave_95 : decode cX5_canHave 95 = .ok (.istore 4, 2) := by decide +kernel
theorem dX5_canHave_97 : decode cX5_canHave 97 = .ok (.iinc 5 1, 3) := by decide +kernel
theorem dX5_canHave_100 : decode cX5_canHave 100 = .ok (.goto (-84), 3) := by decide +kernel
theorem dX5_canHave_103 : decode cX5_canHave 103 = .ok (.iload_n 2, 1) := by decide +kernel
theorem dX5_canHave_104 : decode cX5_canHave 104 = .ok (.iload 4, 2) := by decide +kernel
theorem dX5_canHave_106 : decode cX5_canHave 106 = .ok (.ifCond .eq 11, 3) := by decide +kernel
theorem dX5_canHave_109 : decode cX5_canHave 109 = .ok (.iconst 1, 1) := by decide +kernel
theorem dX5_canHave_110 : decode cX5_canHave 110 = .ok (.iload_n 3, 1) := by decide +kernel
theorem dX5_canHave_111 : decode cX5_canHave 111 = .ok (.iconst 1, 1) := by decide +kernel
theorem dX5_canHave_112 : decode cX5_canHave 112 = .ok (.isub, 1) := by decide +kernel
theorem dX5_canHave_113 : decode cX5_canHave 113 = .ok (.ishl, 1) := by decide +kernel
theorem dX5_canHave_114 : decode cX5_canHave 114 = .ok (.goto 4, 3) := by decide +kernel
theorem dX5_canHave_117 : decode cX5_canHave 117 = .ok (.iconst 0, 1) := by decide +kernel
theorem dX5_canHave_118 : decode cX5_canHave 118 = .ok (.ior, 1) := by decide +kernel
theorem dX5_canHave_119 : decode cX5_canHave 119 = .ok (.istore_n 2, 1) := by decide +kernel
theorem dX5_canHave_120 : decode cX5_canHave 120 = .ok (.iinc 3 1, 3) := by decide +kernel
theorem dX5_canHave_123 : decode cX5_canHave 123 = .ok (.goto (-119), 3) := by decide +kernel
theorem dX5_canHave_126 : decode cX5_canHave 126 = .ok (.iload_n 2, 1) := by decide +kernel
theorem dX5_canHave_127 : decode cX5_canHave 127 = .ok (.ireturn, 1) := by decide +kernel
theorem dX5_worstBy_0 : decode cX5_worstBy 0 = .ok (.iconst 0, 1) := by decide +kernel
theorem dX5_worstBy_1 : decode cX5_worstBy 1 = .ok (.istore 5, 2) := by decide +kernel
theorem dX5_worstBy_3 : decode cX5_worstBy 3 = .ok (.iconst 1, 1) := by decide +kernel
theorem dX5_worstBy_4 : decode cX5_worstBy 4 = .ok (.istore 6, 2) := by decide +kernel
theorem dX5_worstBy_6 : decode cX5_worstBy 6 = .ok (.iload 6, 2) := by decide +kernel
theorem dX5_worstBy_8 : decode cX5_worstBy 8 = .ok (.bipush 9, 2) := by decide +kernel
theorem dX5_worstBy_10 : decode cX5_worstBy 10 = .ok (.if_icmp .gt 43, 3) := by decide +kernel
theorem dX5_worstBy_13 : decode cX5_worstBy 13 = .ok (.iload 5, 2) := by decide +kernel
theorem dX5_worstBy_15 : decode cX5_worstBy 15 = .ok (.iload_n 2, 1) := by decide +kernel
theorem dX5_worstBy_16 : decode cX5_worstBy 16 = .ok (.iload 6, 2) := by decide +kernel
theorem dX5_worstBy_18 : decode cX5_worstBy 18 = .ok (.iconst 1, 1) := by decide +kernel
theorem dX5_worstBy_19 : decode cX5_worstBy 19 = .ok (.isub, 1) := by decide +kernel
theorem dX5_worstBy_20 : decode cX5_worstBy 20 = .ok (.invokestatic 172, 3) := by decide +kernel
theorem dX5_worstBy_23 : decode cX5_worstBy 23 = .ok (.ifCond .eq 20, 3) := by decide +kernel
theorem dX5_worstBy_26 : decode cX5_worstBy 26 = .ok (.aload_n 0, 1) := by decide +kernel
theorem dX5_worstBy_27 : decode cX5_worstBy 27 = .ok (.iload_n 1, 1) := by decide +kernel
theorem dX5_worstBy_28 : decode cX5_worstBy 28 = .ok (.iload 6, 2) := by decide +kernel
theorem dX5_worstBy_30 : decode cX5_worstBy 30 = .ok (.iload_n 3, 1) := by decide +kernel
theorem dX5_worstBy_31 : decode cX5_worstBy 31 = .ok (.iload 4, 2) := by decide +kernel
theorem dX5_worstBy_33 : decode cX5_worstBy 33 = .ok (.invokevirtual 274, 3) := by decide +kernel
theorem dX5_worstBy_36 : decode cX5_worstBy 36 = .ok (.ifCond .eq 7, 3) := by decide +kernel
theorem dX5_worstBy_39 : decode cX5_worstBy 39 = .ok (.iconst 1, 1) := by decide +kernel
theorem dX5_worstBy_40 : decode cX5_worstBy 40 = .ok (.goto 4, 3) := by decide +kernel
theorem dX5_worstBy_43 : decode cX5_worstBy 43 = .ok (.iconst 0, 1) := by decide +kernel
theorem dX5_worstBy_44 : decode cX5_worstBy 44 = .ok (.iadd, 1) := by decide +kernel
theorem dX5_worstBy_45 : decode cX5_worstBy 45 = .ok (.istore 5, 2) := by decide +kernel
theorem dX5_worstBy_47 : decode cX5_worstBy 47 = .ok (.iinc 6 1, 3) := by decide +kernel
theorem dX5_worstBy_50 : decode cX5_worstBy 50 = .ok (.goto (-44), 3) := by decide +kernel
theorem dX5_worstBy_53 : decode cX5_worstBy 53 = .ok (.iload_n 2, 1) := by decide +kernel
theorem dX5_worstBy_54 : decode cX5_worstBy 54 = .ok (.invokestatic 218, 3) := by decide +kernel
theorem dX5_worstBy_57 : decode cX5_worstBy 57 = .ok (.iload 5, 2) := by decide +kernel
theorem dX5_worstBy_59 : decode cX5_worstBy 59 = .ok (.isub, 1) := by decide +kernel
theorem dX5_worstBy_60 : decode cX5_worstBy 60 = .ok (.istore 6, 2) := by decide +kernel
theorem dX5_worstBy_62 : decode cX5_worstBy 62 = .ok (.iload 5, 2) := by decide +kernel
theorem dX5_worstBy_64 : decode cX5_worstBy 64 = .ok (.iload 6, 2) := by decide +kernel
theorem dX5_worstBy_66 : decode cX5_worstBy 66 = .ok (.if_icmp .le 8, 3) := by decide +kernel
theorem dX5_worstBy_69 : decode cX5_worstBy 69 = .ok (.iload 5, 2) := by decide +kernel
theorem dX5_worstBy_71 : decode cX5_worstBy 71 = .ok (.goto 5, 3) := by decide +kernel
theorem dX5_worstBy_74 : decode cX5_worstBy 74 = .ok (.iload 6, 2) := by decide +kernel
theorem dX5_worstBy_76 : decode cX5_worstBy 76 = .ok (.ireturn, 1) := by decide +kernel
theorem dX5_waitFor_0 : decode cX5_waitFor 0 = .ok (.aload_n 0, 1) := by decide +kernel
theorem dX5_waitFor_1 : decode cX5_waitFor 1 = .ok (.iload_n 1, 1) := by decide +kernel
theorem dX5_waitFor_2 : decode cX5_waitFor 2 = .ok (.invokevirtual 176, 3) := by decide +kernel
theorem dX5_waitFor_5 : decode cX5_waitFor 5 = .ok (.istore_n 2, 1) := by decide +kernel
theorem dX5_waitFor_6 : decode cX5_waitFor 6 = .ok (.iconst (-1), 1) := by decide +kernel
theorem dX5_waitFor_7 : decode cX5_waitFor 7 = .ok (.istore_n 3, 1) := by decide +kernel
theorem dX5_waitFor_8 : decode cX5_waitFor 8 = .ok (.ldc 168, 2) := by decide +kernel
theorem dX5_waitFor_10 : decode cX5_waitFor 10 = .ok (.istore 4, 2) := by decide +kernel
theorem dX5_waitFor_12 : decode cX5_waitFor 12 = .ok (.iconst 0, 1) := by decide +kernel
theorem dX5_waitFor_13 : decode cX5_waitFor 13 = .ok (.istore 5, 2) := by decide +kernel
theorem dX5_waitFor_15 : decode cX5_waitFor 15 = .ok (.iload 5, 2) := by decide +kernel
theorem dX5_waitFor_17 : decode cX5_waitFor 17 = .ok (.sipush 200, 3) := by decide +kernel
theorem dX5_waitFor_20 : decode cX5_waitFor 20 = .ok (.if_icmp .ge 71, 3) := by decide +kernel
theorem dX5_waitFor_23 : decode cX5_waitFor 23 = .ok (.iload_n 2, 1) := by decide +kernel
theorem dX5_waitFor_24 : decode cX5_waitFor 24 = .ok (.ifCond .eq 67, 3) := by decide +kernel
theorem dX5_waitFor_27 : decode cX5_waitFor 27 = .ok (.aload_n 0, 1) := by decide +kernel
theorem dX5_waitFor_28 : decode cX5_waitFor 28 = .ok (.getfield 19, 3) := by decide +kernel
theorem dX5_waitFor_31 : decode cX5_waitFor 31 = .ok (.iload_n 1, 1) := by decide +kernel
theorem dX5_waitFor_32 : decode cX5_waitFor 32 = .ok (.iaload, 1) := by decide +kernel
theorem dX5_waitFor_33 : decode cX5_waitFor 33 = .ok (.iconst (-1), 1) := by decide +kernel
theorem dX5_waitFor_34 : decode cX5_waitFor 34 = .ok (.if_icmp .eq 57, 3) := by decide +kernel
theorem dX5_waitFor_37 : decode cX5_waitFor 37 = .ok (.aload_n 0, 1) := by decide +kernel
theorem dX5_waitFor_38 : decode cX5_waitFor 38 = .ok (.iload_n 1, 1) := by decide +kernel
theorem dX5_waitFor_39 : decode cX5_waitFor 39 = .ok (.iload_n 2, 1) := by decide +kernel
theorem dX5_waitFor_40 : decode cX5_waitFor 40 = .ok (.iload 5, 2) := by decide +kernel
theorem dX5_waitFor_42 : decode cX5_waitFor 42 = .ok (.bipush 100, 2) := by decide +kernel
theorem dX5_waitFor_44 : decode cX5_waitFor 44 = .ok (.idiv, 1) := by decide +kernel
theorem dX5_waitFor_45 : decode cX5_waitFor 45 = .ok (.iload 5, 2) := by decide +kernel
theorem dX5_waitFor_47 : decode cX5_waitFor 47 = .ok (.bipush 100, 2) := by decide +kernel
theorem dX5_waitFor_49 : decode cX5_waitFor 49 = .ok (.irem, 1) := by decide +kernel
theorem dX5_waitFor_50 : decode cX5_waitFor 50 = .ok (.invokevirtual 278, 3) := by decide +kernel
theorem dX5_waitFor_53 : decode cX5_waitFor 53 = .ok (.istore 6, 2) := by decide +kernel
theorem dX5_waitFor_55 : decode cX5_waitFor 55 = .ok (.iload 6, 2) := by decide +kernel
theorem dX5_waitFor_57 : decode cX5_waitFor 57 = .ok (.iload 4, 2) := by decide +kernel
theorem dX5_waitFor_59 : decode cX5_waitFor 59 = .ok (.if_icmp .ge 8, 3) := by decide +kernel
theorem dX5_waitFor_62 : decode cX5_waitFor 62 = .ok (.iload 5, 2) := by decide +kernel
theorem dX5_waitFor_64 : decode cX5_waitFor 64 = .ok (.goto 4, 3) := by decide +kernel
theorem dX5_waitFor_67 : decode cX5_waitFor 67 = .ok (.iload_n 3, 1) := by decide +kernel
theorem dX5_waitFor_68 : decode cX5_waitFor 68 = .ok (.istore_n 3, 1) := by decide +kernel
theorem dX5_waitFor_69 : decode cX5_waitFor 69 = .ok (.iload 6, 2) := by decide +kernel
theorem dX5_waitFor_71 : decode cX5_waitFor 71 = .ok (.iload 4, 2) := by decide +kernel
theorem dX5_waitFor_73 : decode cX5_waitFor 73 = .ok (.if_icmp .ge 8, 3) := by decide +kernel
theorem dX5_waitFor_76 : decode cX5_waitFor 76 = .ok (.iload 6, 2) := by decide +kernel
theorem dX5_waitFor_78 : decode cX5_waitFor 78 = .ok (.goto 5, 3) := by decide +kernel
theorem dX5_waitFor_81 : decode cX5_waitFor 81 = .ok (.iload 4, 2) := by decide +kernel
theorem dX5_waitFor_83 : decode cX5_waitFor 83 = .ok (.istore 4, 2) := by decide +kernel
theorem dX5_waitFor_85 : decode cX5_waitFor 85 = .ok (.iinc 5 1, 3) := by decide +kernel
theorem dX5_waitFor_88 : decode cX5_waitFor 88 = .ok (.goto (-73), 3) := by decide +kernel
theorem dX5_waitFor_91 : decode cX5_waitFor 91 = .ok (.iload_n 3, 1) := by decide +kernel
theorem dX5_waitFor_92 : decode cX5_waitFor 92 = .ok (.ireturn, 1) := by decide +kernel
theorem dX5_draw_0 : decode cX5_draw 0 = .ok (.aload_n 0, 1) := by decide +kernel
theorem dX5_draw_1 : decode cX5_draw 1 = .ok (.ldc2_w 282, 3) := by decide +kernel
theorem dX5_draw_4 : decode cX5_draw 4 = .ok (.aload_n 0, 1) := by decide +kernel
theorem dX5_draw_5 : decode cX5_draw 5 = .ok (.getfield 284, 3) := by decide +kernel
theorem dX5_draw_8 : decode cX5_draw 8 = .ok (.lmul, 1) := by decide +kernel
theorem dX5_draw_9 : decode cX5_draw 9 = .ok (.ldc2_w 288, 3) := by decide +kernel
theorem dX5_draw_12 : decode cX5_draw 12 = .ok (.ladd, 1) := by decide +kernel
theorem dX5_draw_13 : decode cX5_draw 13 = .ok (.ldc2_w 290, 3) := by decide +kernel
theorem dX5_draw_16 : decode cX5_draw 16 = .ok (.land, 1) := by decide +kernel
theorem dX5_draw_17 : decode cX5_draw 17 = .ok (.putfield 284, 3) := by decide +kernel
theorem dX5_draw_20 : decode cX5_draw 20 = .ok (.aload_n 0, 1) := by decide +kernel
theorem dX5_draw_21 : decode cX5_draw 21 = .ok (.getfield 284, 3) := by decide +kernel
theorem dX5_draw_24 : decode cX5_draw 24 = .ok (.ldc2_w 292, 3) := by decide +kernel
theorem dX5_draw_27 : decode cX5_draw 27 = .ok (.ldiv, 1) := by decide +kernel
theorem dX5_draw_28 : decode cX5_draw 28 = .ok (.iload_n 1, 1) := by decide +kernel
theorem dX5_draw_29 : decode cX5_draw 29 = .ok (.i2l, 1) := by decide +kernel
theorem dX5_draw_30 : decode cX5_draw 30 = .ok (.lrem, 1) := by decide +kernel
theorem dX5_draw_31 : decode cX5_draw 31 = .ok (.l2i, 1) := by decide +kernel
theorem dX5_draw_32 : decode cX5_draw 32 = .ok (.ireturn, 1) := by decide +kernel
theorem dX5_onPlain_0 : decode cX5_onPlain 0 = .ok (.iconst 0, 1) := by decide +kernel
theorem dX5_onPlain_1 : decode cX5_onPlain 1 = .ok (.istore_n 1, 1) := by decide +kernel
theorem dX5_onPlain_2 : decode cX5_onPlain 2 = .ok (.iconst 0, 1) := by decide +kernel
theorem dX5_onPlain_3 : decode cX5_onPlain 3 = .ok (.istore_n 2, 1) := by decide +kernel
theorem dX5_onPlain_4 : decode cX5_onPlain 4 = .ok (.iload_n 2, 1) := by decide +kernel
theorem dX5_onPlain_5 : decode cX5_onPlain 5 = .ok (.aload_n 0, 1) := by decide +kernel
theorem dX5_onPlain_6 : decode cX5_onPlain 6 = .ok (.getfield 134, 3) := by decide +kernel
theorem dX5_onPlain_9 : decode cX5_onPlain 9 = .ok (.if_icmp .ge 27, 3) := by decide +kernel
theorem dX5_onPlain_12 : decode cX5_onPlain 12 = .ok (.iload_n 1, 1) := by decide +kernel
theorem dX5_onPlain_13 : decode cX5_onPlain 13 = .ok (.aload_n 0, 1) := by decide +kernel
theorem dX5_onPlain_14 : decode cX5_onPlain 14 = .ok (.getfield 19, 3) := by decide +kernel
theorem dX5_onPlain_17 : decode cX5_onPlain 17 = .ok (.iload_n 2, 1) := by decide +kernel
theorem dX5_onPlain_18 : decode cX5_onPlain 18 = .ok (.iaload, 1) := by decide +kernel
theorem dX5_onPlain_19 : decode cX5_onPlain 19 = .ok (.iconst (-1), 1) := by decide +kernel
theorem dX5_onPlain_20 : decode cX5_onPlain 20 = .ok (.if_icmp .ne 7, 3) := by decide +kernel
theorem dX5_onPlain_23 : decode cX5_onPlain 23 = .ok (.iconst 1, 1) := by decide +kernel
theorem dX5_onPlain_24 : decode cX5_onPlain 24 = .ok (.goto 4, 3) := by decide +kernel
theorem dX5_onPlain_27 : decode cX5_onPlain 27 = .ok (.iconst 0, 1) := by decide +kernel
theorem dX5_onPlain_28 : decode cX5_onPlain 28 = .ok (.iadd, 1) := by decide +kernel
theorem dX5_onPlain_29 : decode cX5_onPlain 29 = .ok (.istore_n 1, 1) := by decide +kernel
theorem dX5_onPlain_30 : decode cX5_onPlain 30 = .ok (.iinc 2 1, 3) := by decide +kernel
theorem dX5_onPlain_33 : decode cX5_onPlain 33 = .ok (.goto (-29), 3) := by decide +kernel
theorem dX5_onPlain_36 : decode cX5_onPlain 36 = .ok (.iload_n 1, 1) := by decide +kernel
theorem dX5_onPlain_37 : decode cX5_onPlain 37 = .ok (.ireturn, 1) := by decide +kernel
theorem dX5_decadesNow_0 : decode cX5_decadesNow 0 = .ok (.aload_n 0, 1) := by decide +kernel
theorem dX5_decadesNow_1 : decode cX5_decadesNow 1 = .ok (.getfield 140, 3) := by decide +kernel
theorem dX5_decadesNow_4 : decode cX5_decadesNow 4 = .ok (.istore 4, 2) := by decide +kernel
theorem dX5_decadesNow_6 : decode cX5_decadesNow 6 = .ok (.aload_n 0, 1) := by decide +kernel
theorem dX5_decadesNow_7 : decode cX5_decadesNow 7 = .ok (.getfield 143, 3) := by decide +kernel
theorem dX5_decadesNow_10 : decode cX5_decadesNow 10 = .ok (.istore 5, 2) := by decide +kernel
theorem dX5_decadesNow_12 : decode cX5_decadesNow 12 = .ok (.iconst 0, 1) := by decide +kernel
theorem dX5_decadesNow_13 : decode cX5_decadesNow 13 = .ok (.istore 6, 2) := by decide +kernel
theorem dX5_decadesNow_15 : decode cX5_decadesNow 15 = .ok (.iload 6, 2) := by decide +kernel
theorem dX5_decadesNow_17 : decode cX5_decadesNow 17 = .ok (.iconst 5, 1) := by decide +kernel
theorem dX5_decadesNow_18 : decode cX5_decadesNow 18 = .ok (.if_icmp .ge 65, 3) := by decide +kernel
theorem dX5_decadesNow_21 : decode cX5_decadesNow 21 = .ok (.aload_n 0, 1) := by decide +kernel
theorem dX5_decadesNow_22 : decode cX5_decadesNow 22 = .ok (.getfield 57, 3) := by decide +kernel
theorem dX5_decadesNow_25 : decode cX5_decadesNow 25 = .ok (.iload 6, 2) := by decide +kernel
theorem dX5_decadesNow_27 : decode cX5_decadesNow 27 = .ok (.aload_n 0, 1) := by decide +kernel
theorem dX5_decadesNow_28 : decode cX5_decadesNow 28 = .ok (.getfield 16, 3) := by decide +kernel
theorem dX5_decadesNow_31 : decode cX5_decadesNow 31 = .ok (.iload 6, 2) := by decide +kernel
theorem dX5_decadesNow_33 : decode cX5_decadesNow 33 = .ok (.iaload, 1) := by decide +kernel
theorem dX5_decadesNow_34 : decode cX5_decadesNow 34 = .ok (.iastore, 1) := by decide +kernel
theorem dX5_decadesNow_35 : decode cX5_decadesNow 35 = .ok (.aload_n 0, 1) := by decide +kernel
theorem dX5_decadesNow_36 : decode cX5_decadesNow 36 = .ok (.getfield 60, 3) := by decide +kernel
theorem dX5_decadesNow_39 : decode cX5_decadesNow 39 = .ok (.iload 6, 2) := by decide +kernel
theorem dX5_decadesNow_41 : decode cX5_decadesNow 41 = .ok (.aload_n 0, 1) := by decide +kernel
theorem dX5_decadesNow_42 : decode cX5_decadesNow 42 = .ok (.getfield 19, 3) := by decide +kernel
theorem dX5_decadesNow_45 : decode cX5_decadesNow 45 = .ok (.iload 6, 2) := by decide +kernel
theorem dX5_decadesNow_47 : decode cX5_decadesNow 47 = .ok (.iaload, 1) := by decide +kernel
theorem dX5_decadesNow_48 : decode cX5_decadesNow 48 = .ok (.iastore, 1) := by decide +kernel
theorem dX5_decadesNow_49 : decode cX5_decadesNow 49 = .ok (.aload_n 0, 1) := by decide +kernel
theorem dX5_decadesNow_50 : decode cX5_decadesNow 50 = .ok (.getfield 63, 3) := by decide +kernel
theorem dX5_decadesNow_53 : decode cX5_decadesNow 53 = .ok (.iload 6, 2) := by decide +kernel
theorem dX5_decadesNow_55 : decode cX5_decadesNow 55 = .ok (.aload_n 0, 1) := by decide +kernel
theorem dX5_decadesNow_56 : decode cX5_decadesNow 56 = .ok (.getfield 22, 3) := by decide +kernel
theorem dX5_decadesNow_59 : decode cX5_decadesNow 59 = .ok (.iload 6, 2) := by decide +kernel
theorem dX5_decadesNow_61 : decode cX5_decadesNow 61 = .ok (.iaload, 1) := by decide +kernel
theorem dX5_decadesNow_62 : decode cX5_decadesNow 62 = .ok (.iastore, 1) := by decide +kernel
theorem dX5_decadesNow_63 : decode cX5_decadesNow 63 = .ok (.aload_n 0, 1) := by decide +kernel
theorem dX5_decadesNow_64 : decode cX5_decadesNow 64 = .ok (.getfield 66, 3) := by decide +kernel
theorem dX5_decadesNow_67 : decode cX5_decadesNow 67 = .ok (.iload 6, 2) := by decide +kernel
theorem dX5_decadesNow_69 : decode cX5_decadesNow 69 = .ok (.aload_n 0, 1) := by decide +kernel
theorem dX5_decadesNow_70 : decode cX5_decadesNow 70 = .ok (.getfield 25, 3) := by decide +kernel
theorem dX5_decadesNow_73 : decode cX5_decadesNow 73 = .ok (.iload 6, 2) := by decide +kernel
theorem dX5_decadesNow_75 : decode cX5_decadesNow 75 = .ok (.iaload, 1) := by decide +kernel
theorem dX5_decadesNow_76 : decode cX5_decadesNow 76 = .ok (.iastore, 1) := by decide +kernel
theorem dX5_decadesNow_77 : decode cX5_decadesNow 77 = .ok (.iinc 6 1, 3) := by decide +kernel
theorem dX5_decadesNow_80 : decode cX5_decadesNow 80 = .ok (.goto (-65), 3) := by decide +kernel
theorem dX5_decadesNow_83 : decode cX5_decadesNow 83 = .ok (.aload_n 0, 1) := by decide +kernel
theorem dX5_decadesNow_84 : decode cX5_decadesNow 84 = .ok (.iload_n 2, 1) := by decide +kernel
theorem dX5_decadesNow_85 : decode cX5_decadesNow 85 = .ok (.i2l, 1) := by decide +kernel
theorem dX5_decadesNow_86 : decode cX5_decadesNow 86 = .ok (.putfield 284, 3) := by decide +kernel
theorem dX5_decadesNow_89 : decode cX5_decadesNow 89 = .ok (.iconst 0, 1) := by decide +kernel
theorem dX5_decadesNow_90 : decode cX5_decadesNow 90 = .ok (.istore 6, 2) := by decide +kernel
theorem dX5_decadesNow_92 : decode cX5_decadesNow 92 = .ok (.iconst 0, 1) := by decide +kernel
theorem dX5_decadesNow_93 : decode cX5_decadesNow 93 = .ok (.istore 7, 2) := by decide +kernel
theorem dX5_decadesNow_95 : decode cX5_decadesNow 95 = .ok (.iload 7, 2) := by decide +kernel
theorem dX5_decadesNow_97 : decode cX5_decadesNow 97 = .ok (.iload_n 1, 1) := by decide +kernel
theorem dX5_decadesNow_98 : decode cX5_decadesNow 98 = .ok (.if_icmp .ge 33, 3) := by decide +kernel
theorem dX5_decadesNow_101 : decode cX5_decadesNow 101 = .ok (.aload_n 0, 1) := by decide +kernel
theorem dX5_decadesNow_102 : decode cX5_decadesNow 102 = .ok (.iconst 2, 1) := by decide +kernel
theorem dX5_decadesNow_103 : decode cX5_decadesNow 103 = .ok (.invokevirtual 294, 3) := by decide +kernel
theorem dX5_decadesNow_106 : decode cX5_decadesNow 106 = .ok (.istore 8, 2) := by decide +kernel
theorem dX5_decadesNow_108 : decode cX5_decadesNow 108 = .ok (.iload 6, 2) := by decide +kernel
theorem dX5_decadesNow_110 : decode cX5_decadesNow 110 = .ok (.aload_n 0, 1) := by decide +kernel
theorem dX5_decadesNow_111 : decode cX5_decadesNow 111 = .ok (.iload 8, 2) := by decide +kernel
theorem dX5_decadesNow_113 : decode cX5_decadesNow 113 = .ok (.aload_n 0, 1) := by decide +kernel
theorem dX5_decadesNow_114 : decode cX5_decadesNow 114 = .ok (.bipush 10, 2) := by decide +kernel
theorem dX5_decadesNow_116 : decode cX5_decadesNow 116 = .ok (.invokevirtual 294, 3) := by decide +kernel
theorem dX5_decadesNow_119 : decode cX5_decadesNow 119 = .ok (.invokevirtual 221, 3) := by decide +kernel
theorem dX5_decadesNow_122 : decode cX5_decadesNow 122 = .ok (.iadd, 1) := by decide +kernel
theorem dX5_decadesNow_123 : decode cX5_decadesNow 123 = .ok (.istore 6, 2) := by decide +kernel
theorem dX5_decadesNow_125 : decode cX5_decadesNow 125 = .ok (.iinc 7 1, 3) := by decide +kernel
theorem dX5_decadesNow_128 : decode cX5_decadesNow 128 = .ok (.goto (-33), 3) := by decide +kernel
theorem dX5_decadesNow_131 : decode cX5_decadesNow 131 = .ok (.aload_n 0, 1) := by decide +kernel
theorem dX5_decadesNow_132 : decode cX5_decadesNow 132 = .ok (.invokevirtual 297, 3) := by decide +kernel
theorem dX5_decadesNow_135 : decode cX5_decadesNow 135 = .ok (.istore 7, 2) := by decide +kernel
theorem dX5_decadesNow_137 : decode cX5_decadesNow 137 = .ok (.iconst 0, 1) := by decide +kernel
theorem dX5_decadesNow_138 : decode cX5_decadesNow 138 = .ok (.istore 8, 2) := by decide +kernel
theorem dX5_decadesNow_140 : decode cX5_decadesNow 140 = .ok (.iload 8, 2) := by decide +kernel
theorem dX5_decadesNow_142 : decode cX5_decadesNow 142 = .ok (.iconst 5, 1) := by decide +kernel
theorem dX5_decadesNow_143 : decode cX5_decadesNow 143 = .ok (.if_icmp .ge 65, 3) := by decide +kernel
theorem dX5_decadesNow_146 : decode cX5_decadesNow 146 = .ok (.aload_n 0, 1) := by decide +kernel
theorem dX5_decadesNow_147 : decode cX5_decadesNow 147 = .ok (.getfield 16, 3) := by decide +kernel
theorem dX5_decadesNow_150 : decode cX5_decadesNow 150 = .ok (.iload 8, 2) := by decide +kernel
theorem dX5_decadesNow_152 : decode cX5_decadesNow 152 = .ok (.aload_n 0, 1) := by decide +kernel
theorem dX5_decadesNow_153 : decode cX5_decadesNow 153 = .ok (.getfield 57, 3) := by decide +kernel
theorem dX5_decadesNow_156 : decode cX5_decadesNow 156 = .ok (.iload 8, 2) := by decide +kernel
theorem dX5_decadesNow_158 : decode cX5_decadesNow 158 = .ok (.iaload, 1) := by decide +kernel
theorem dX5_decadesNow_159 : decode cX5_decadesNow 159 = .ok (.iastore, 1) := by decide +kernel
theorem dX5_decadesNow_160 : decode cX5_decadesNow 160 = .ok (.aload_n 0, 1) := by decide +kernel
theorem dX5_decadesNow_161 : decode cX5_decadesNow 161 = .ok (.getfield 19, 3) := by decide +kernel
theorem dX5_decadesNow_164 : decode cX5_decadesNow 164 = .ok (.iload 8, 2) := by decide +kernel
theorem dX5_decadesNow_166 : decode cX5_decadesNow 166 = .ok (.aload_n 0, 1) := by decide +kernel
theorem dX5_decadesNow_167 : decode cX5_decadesNow 167 = .ok (.getfield 60, 3) := by decide +kernel
theorem dX5_decadesNow_170 : decode cX5_decadesNow 170 = .ok (.iload 8, 2) := by decide +kernel
theorem dX5_decadesNow_172 : decode cX5_decadesNow 172 = .ok (.iaload, 1) := by decide +kernel
theorem dX5_decadesNow_173 : decode cX5_decadesNow 173 = .ok (.iastore, 1) := by decide +kernel
theorem dX5_decadesNow_174 : decode cX5_decadesNow 174 = .ok (.aload_n 0, 1) := by decide +kernel
theorem dX5_decadesNow_175 : decode cX5_decadesNow 175 = .ok (.getfield 22, 3) := by decide +kernel
theorem dX5_decadesNow_178 : decode cX5_decadesNow 178 = .ok (.iload 8, 2) := by decide +kernel
theorem dX5_decadesNow_180 : decode cX5_decadesNow 180 = .ok (.aload_n 0, 1) := by decide +kernel
theorem dX5_decadesNow_181 : decode cX5_decadesNow 181 = .ok (.getfield 63, 3) := by decide +kernel
theorem dX5_decadesNow_184 : decode cX5_decadesNow 184 = .ok (.iload 8, 2) := by decide +kernel
theorem dX5_decadesNow_186 : decode cX5_decadesNow 186 = .ok (.iaload, 1) := by decide +kernel
theorem dX5_decadesNow_187 : decode cX5_decadesNow 187 = .ok (.iastore, 1) := by decide +kernel
theorem dX5_decadesNow_188 : decode cX5_decadesNow 188 = .ok (.aload_n 0, 1) := by decide +kernel
theorem dX5_decadesNow_189 : decode cX5_decadesNow 189 = .ok (.getfield 25, 3) := by decide +kernel
theorem dX5_decadesNow_192 : decode cX5_decadesNow 192 = .ok (.iload 8, 2) := by decide +kernel
theorem dX5_decadesNow_194 : decode cX5_decadesNow 194 = .ok (.aload_n 0, 1) := by decide +kernel
theorem dX5_decadesNow_195 : decode cX5_decadesNow 195 = .ok (.getfield 66, 3) := by decide +kernel
theorem dX5_decadesNow_198 : decode cX5_decadesNow 198 = .ok (.iload 8, 2) := by decide +kernel
theorem dX5_decadesNow_200 : decode cX5_decadesNow 200 = .ok (.iaload, 1) := by decide +kernel
theorem dX5_decadesNow_201 : decode cX5_decadesNow 201 = .ok (.iastore, 1) := by decide +kernel
theorem dX5_decadesNow_202 : decode cX5_decadesNow 202 = .ok (.iinc 8 1, 3) := by decide +kernel
theorem dX5_decadesNow_205 : decode cX5_decadesNow 205 = .ok (.goto (-65), 3) := by decide +kernel
theorem dX5_decadesNow_208 : decode cX5_decadesNow 208 = .ok (.aload_n 0, 1) := by decide +kernel
theorem dX5_decadesNow_209 : decode cX5_decadesNow 209 = .ok (.iload 4, 2) := by decide +kernel
theorem dX5_decadesNow_211 : decode cX5_decadesNow 211 = .ok (.putfield 140, 3) := by decide +kernel
theorem dX5_decadesNow_214 : decode cX5_decadesNow 214 = .ok (.aload_n 0, 1) := by decide +kernel
theorem dX5_decadesNow_215 : decode cX5_decadesNow 215 = .ok (.iload 5, 2) := by decide +kernel
theorem dX5_decadesNow_217 : decode cX5_decadesNow 217 = .ok (.putfield 143, 3) := by decide +kernel
theorem dX5_decadesNow_220 : decode cX5_decadesNow 220 = .ok (.iload_n 3, 1) := by decide +kernel
theorem dX5_decadesNow_221 : decode cX5_decadesNow 221 = .ok (.ifCond .ne 8, 3) := by decide +kernel
theorem dX5_decadesNow_224 : decode cX5_decadesNow 224 = .ok (.iload 6, 2) := by decide +kernel
theorem dX5_decadesNow_226 : decode cX5_decadesNow 226 = .ok (.goto 18, 3) := by decide +kernel
theorem dX5_decadesNow_229 : decode cX5_decadesNow 229 = .ok (.iload_n 3, 1) := by decide +kernel
theorem dX5_decadesNow_230 : decode cX5_decadesNow 230 = .ok (.iconst 1, 1) := by decide +kernel
theorem dX5_decadesNow_231 : decode cX5_decadesNow 231 = .ok (.if_icmp .ne 8, 3) := by decide +kernel
theorem dX5_decadesNow_234 : decode cX5_decadesNow 234 = .ok (.iload 7, 2) := by decide +kernel
theorem dX5_decadesNow_236 : decode cX5_decadesNow 236 = .ok (.goto 8, 3) := by decide +kernel
theorem dX5_decadesNow_239 : decode cX5_decadesNow 239 = .ok (.aload_n 0, 1) := by decide +kernel
theorem dX5_decadesNow_240 : decode cX5_decadesNow 240 = .ok (.getfield 284, 3) := by decide +kernel
theorem dX5_decadesNow_243 : decode cX5_decadesNow 243 = .ok (.l2i, 1) := by decide +kernel
theorem dX5_decadesNow_244 : decode cX5_decadesNow 244 = .ok (.ireturn, 1) := by decide +kernel
theorem dX5_decades_0 : decode cX5_decades 0 = .ok (.iload_n 1, 1) := by decide +kernel
theorem dX5_decades_1 : decode cX5_decades 1 = .ok (.iconst 1, 1) := by decide +kernel
theorem dX5_decades_2 : decode cX5_decades 2 = .ok (.bipush 60, 2) := by decide +kernel
theorem dX5_decades_4 : decode cX5_decades 4 = .ok (.invokestatic 96, 3) := by decide +kernel
theorem dX5_decades_7 : decode cX5_decades 7 = .ok (.ifCond .eq 16, 3) := by decide +kernel
theorem dX5_decades_10 : decode cX5_decades 10 = .ok (.iload_n 2, 1) := by decide +kernel
theorem dX5_decades_11 : decode cX5_decades 11 = .ok (.ifCond .lt 12, 3) := by decide +kernel
theorem dX5_decades_14 : decode cX5_decades 14 = .ok (.iload_n 3, 1) := by decide +kernel
theorem dX5_decades_15 : decode cX5_decades 15 = .ok (.iconst 0, 1) := by decide +kernel
theorem dX5_decades_16 : decode cX5_decades 16 = .ok (.iconst 2, 1) := by decide +kernel
theorem dX5_decades_17 : decode cX5_decades 17 = .ok (.invokestatic 96, 3) := by decide +kernel
theorem dX5_decades_20 : decode cX5_decades 20 = .ok (.ifCond .ne 6, 3) := by decide +kernel
theorem dX5_decades_23 : decode cX5_decades 23 = .ok (.bipush (-102), 2) := by decide +kernel
theorem dX5_decades_25 : decode cX5_decades 25 = .ok (.ireturn, 1) := by decide +kernel
theorem dX5_decades_26 : decode cX5_decades 26 = .ok (.aload_n 0, 1) := by decide +kernel
theorem dX5_decades_27 : decode cX5_decades 27 = .ok (.getfield 131, 3) := by decide +kernel
theorem dX5_decades_30 : decode cX5_decades 30 = .ok (.ifCond .ne 8, 3) := by decide +kernel
theorem dX5_decades_33 : decode cX5_decades 33 = .ok (.bipush (-103), 2) := by decide +kernel
theorem dX5_decades_35 : decode cX5_decades 35 = .ok (.goto 10, 3) := by decide +kernel
theorem dX5_decades_38 : decode cX5_decades 38 = .ok (.aload_n 0, 1) := by decide +kernel
theorem dX5_decades_39 : decode cX5_decades 39 = .ok (.iload_n 1, 1) := by decide +kernel
theorem dX5_decades_40 : decode cX5_decades 40 = .ok (.iload_n 2, 1) := by decide +kernel
theorem dX5_decades_41 : decode cX5_decades 41 = .ok (.iload_n 3, 1) := by decide +kernel
theorem dX5_decades_42 : decode cX5_decades 42 = .ok (.invokevirtual 300, 3) := by decide +kernel
theorem dX5_decades_45 : decode cX5_decades 45 = .ok (.ireturn, 1) := by decide +kernel
theorem dX5_image_0 : decode cX5_image 0 = .ok (.aload_n 0, 1) := by decide +kernel
theorem dX5_image_1 : decode cX5_image 1 = .ok (.getfield 131, 3) := by decide +kernel
theorem dX5_image_4 : decode cX5_image 4 = .ok (.ifCond .ne 6, 3) := by decide +kernel
theorem dX5_image_7 : decode cX5_image 7 = .ok (.bipush (-103), 2) := by decide +kernel
theorem dX5_image_9 : decode cX5_image 9 = .ok (.ireturn, 1) := by decide +kernel
theorem dX5_image_10 : decode cX5_image 10 = .ok (.aload_n 0, 1) := by decide +kernel
theorem dX5_image_11 : decode cX5_image 11 = .ok (.iconst 1, 1) := by decide +kernel
theorem dX5_image_12 : decode cX5_image 12 = .ok (.putfield 303, 3) := by decide +kernel
theorem dX5_image_15 : decode cX5_image 15 = .ok (.aload_n 0, 1) := by decide +kernel
theorem dX5_image_16 : decode cX5_image 16 = .ok (.aload_n 0, 1) := by decide +kernel
theorem dX5_image_17 : decode cX5_image 17 = .ok (.getfield 146, 3) := by decide +kernel
theorem dX5_image_20 : decode cX5_image 20 = .ok (.putfield 306, 3) := by decide +kernel
theorem dX5_image_23 : decode cX5_image 23 = .ok (.aload_n 0, 1) := by decide +kernel
theorem dX5_image_24 : decode cX5_image 24 = .ok (.aload_n 0, 1) := by decide +kernel
theorem dX5_image_25 : decode cX5_image 25 = .ok (.getfield 137, 3) := by decide +kernel
theorem dX5_image_28 : decode cX5_image 28 = .ok (.putfield 309, 3) := by decide +kernel
theorem dX5_image_31 : decode cX5_image 31 = .ok (.aload_n 0, 1) := by decide +kernel
theorem dX5_image_32 : decode cX5_image 32 = .ok (.aload_n 0, 1) := by decide +kernel
theorem dX5_image_33 : decode cX5_image 33 = .ok (.getfield 140, 3) := by decide +kernel
theorem dX5_image_36 : decode cX5_image 36 = .ok (.putfield 312, 3) := by decide +kernel
theorem dX5_image_39 : decode cX5_image 39 = .ok (.aload_n 0, 1) := by decide +kernel
theorem dX5_image_40 : decode cX5_image 40 = .ok (.aload_n 0, 1) := by decide +kernel
theorem dX5_image_41 : decode cX5_image 41 = .ok (.getfield 143, 3) := by decide +kernel
theorem dX5_image_44 : decode cX5_image 44 = .ok (.putfield 315, 3) := by decide +kernel
theorem dX5_image_47 : decode cX5_image 47 = .ok (.aload_n 0, 1) := by decide +kernel
theorem dX5_image_48 : decode cX5_image 48 = .ok (.aload_n 0, 1) := by decide +kernel
theorem dX5_image_49 : decode cX5_image 49 = .ok (.getfield 149, 3) := by decide +kernel
theorem dX5_image_52 : decode cX5_image 52 = .ok (.putfield 318, 3) := by decide +kernel
theorem dX5_image_55 : decode cX5_image 55 = .ok (.iconst 0, 1) := by decide +kernel
theorem dX5_image_56 : decode cX5_image 56 = .ok (.istore_n 1, 1) := by decide +kernel
theorem dX5_image_57 : decode cX5_image 57 = .ok (.iload_n 1, 1) := by decide +kernel
theorem dX5_image_58 : decode cX5_image 58 = .ok (.iconst 4, 1) := by decide +kernel
theorem dX5_image_59 : decode cX5_image 59 = .ok (.if_icmp .ge 21, 3) := by decide +kernel
theorem dX5_image_62 : decode cX5_image 62 = .ok (.aload_n 0, 1) := by decide +kernel
theorem dX5_image_63 : decode cX5_image 63 = .ok (.getfield 69, 3) := by decide +kernel
theorem dX5_image_66 : decode cX5_image 66 = .ok (.iload_n 1, 1) := by decide +kernel
theorem dX5_image_67 : decode cX5_image 67 = .ok (.aload_n 0, 1) := by decide +kernel
theorem dX5_image_68 : decode cX5_image 68 = .ok (.getfield 7, 3) := by decide +kernel
theorem dX5_image_71 : decode cX5_image 71 = .ok (.iload_n 1, 1) := by decide +kernel
theorem dX5_image_72 : decode cX5_image 72 = .ok (.iaload, 1) := by decide +kernel
theorem dX5_image_73 : decode cX5_image 73 = .ok (.iastore, 1) := by decide +kernel
theorem dX5_image_74 : decode cX5_image 74 = .ok (.iinc 1 1, 3) := by decide +kernel
theorem dX5_image_77 : decode cX5_image 77 = .ok (.goto (-20), 3) := by decide +kernel
theorem dX5_image_80 : decode cX5_image 80 = .ok (.iconst 0, 1) := by decide +kernel
theorem dX5_image_81 : decode cX5_image 81 = .ok (.istore_n 1, 1) := by decide +kernel
theorem dX5_image_82 : decode cX5_image 82 = .ok (.iload_n 1, 1) := by decide +kernel
theorem dX5_image_83 : decode cX5_image 83 = .ok (.iconst 5, 1) := by decide +kernel
theorem dX5_image_84 : decode cX5_image 84 = .ok (.if_icmp .ge 57, 3) := by decide +kernel
theorem dX5_image_87 : decode cX5_image 87 = .ok (.aload_n 0, 1) := by decide +kernel
theorem dX5_image_88 : decode cX5_image 88 = .ok (.getfield 72, 3) := by decide +kernel
theorem dX5_image_91 : decode cX5_image 91 = .ok (.iload_n 1, 1) := by decide +kernel
theorem dX5_image_92 : decode cX5_image 92 = .ok (.aload_n 0, 1) := by decide +kernel
theorem dX5_image_93 : decode cX5_image 93 = .ok (.getfield 16, 3) := by decide +kernel
theorem dX5_image_96 : decode cX5_image 96 = .ok (.iload_n 1, 1) := by decide +kernel
theorem dX5_image_97 : decode cX5_image 97 = .ok (.iaload, 1) := by decide +kernel
theorem dX5_image_98 : decode cX5_image 98 = .ok (.iastore, 1) := by decide +kernel
theorem dX5_image_99 : decode cX5_image 99 = .ok (.aload_n 0, 1) := by decide +kernel
theorem dX5_image_100 : decode cX5_image 100 = .ok (.getfield 75, 3) := by decide +kernel
theorem dX5_image_103 : decode cX5_image 103 = .ok (.iload_n 1, 1) := by decide +kernel
theorem dX5_image_104 : decode cX5_image 104 = .ok (.aload_n 0, 1) := by decide +kernel
theorem dX5_image_105 : decode cX5_image 105 = .ok (.getfield 19, 3) := by decide +kernel
theorem dX5_image_108 : decode cX5_image 108 = .ok (.iload_n 1, 1) := by decide +kernel
theorem dX5_image_109 : decode cX5_image 109 = .ok (.iaload, 1) := by decide +kernel
theorem dX5_image_110 : decode cX5_image 110 = .ok (.iastore, 1) := by decide +kernel
theorem dX5_image_111 : decode cX5_image 111 = .ok (.aload_n 0, 1) := by decide +kernel
theorem dX5_image_112 : decode cX5_image 112 = .ok (.getfield 78, 3) := by decide +kernel
theorem dX5_image_115 : decode cX5_image 115 = .ok (.iload_n 1, 1) := by decide +kernel
theorem dX5_image_116 : decode cX5_image 116 = .ok (.aload_n 0, 1) := by decide +kernel
theorem dX5_image_117 : decode cX5_image 117 = .ok (.getfield 22, 3) := by decide +kernel
theorem dX5_image_120 : decode cX5_image 120 = .ok (.iload_n 1, 1) := by decide +kernel
theorem dX5_image_121 : decode cX5_image 121 = .ok (.iaload, 1) := by decide +kernel
theorem dX5_image_122 : decode cX5_image 122 = .ok (.iastore, 1) := by decide +kernel
theorem dX5_image_123 : decode cX5_image 123 = .ok (.aload_n 0, 1) := by decide +kernel
theorem dX5_image_124 : decode cX5_image 124 = .ok (.getfield 81, 3) := by decide +kernel
theorem dX5_image_127 : decode cX5_image 127 = .ok (.iload_n 1, 1) := by decide +kernel
theorem dX5_image_128 : decode cX5_image 128 = .ok (.aload_n 0, 1) := by decide +kernel
theorem dX5_image_129 : decode cX5_image 129 = .ok (.getfield 25, 3) := by decide +kernel
theorem dX5_image_132 : decode cX5_image 132 = .ok (.iload_n 1, 1) := by decide +kernel
theorem dX5_image_133 : decode cX5_image 133 = .ok (.iaload, 1) := by decide +kernel
theorem dX5_image_134 : decode cX5_image 134 = .ok (.iastore, 1) := by decide +kernel
theorem dX5_image_135 : decode cX5_image 135 = .ok (.iinc 1 1, 3) := by decide +kernel
theorem dX5_image_138 : decode cX5_image 138 = .ok (.goto (-56), 3) := by decide +kernel
theorem dX5_image_141 : decode cX5_image 141 = .ok (.iconst 0, 1) := by decide +kernel
theorem dX5_image_142 : decode cX5_image 142 = .ok (.istore_n 1, 1) := by decide +kernel
theorem dX5_image_143 : decode cX5_image 143 = .ok (.iload_n 1, 1) := by decide +kernel
theorem dX5_image_144 : decode cX5_image 144 = .ok (.bipush 8, 2) := by decide +kernel
theorem dX5_image_146 : decode cX5_image 146 = .ok (.if_icmp .ge 57, 3) := by decide +kernel
theorem dX5_image_149 : decode cX5_image 149 = .ok (.aload_n 0, 1) := by decide +kernel
theorem dX5_image_150 : decode cX5_image 150 = .ok (.getfield 84, 3) := by decide +kernel
theorem dX5_image_153 : decode cX5_image 153 = .ok (.iload_n 1, 1) := by decide +kernel
theorem dX5_image_154 : decode cX5_image 154 = .ok (.aload_n 0, 1) := by decide +kernel
theorem dX5_image_155 : decode cX5_image 155 = .ok (.getfield 28, 3) := by decide +kernel
theorem dX5_image_158 : decode cX5_image 158 = .ok (.iload_n 1, 1) := by decide +kernel
theorem dX5_image_159 : decode cX5_image 159 = .ok (.iaload, 1) := by decide +kernel
theorem dX5_image_160 : decode cX5_image 160 = .ok (.iastore, 1) := by decide +kernel
theorem dX5_image_161 : decode cX5_image 161 = .ok (.aload_n 0, 1) := by decide +kernel
theorem dX5_image_162 : decode cX5_image 162 = .ok (.getfield 87, 3) := by decide +kernel
theorem dX5_image_165 : decode cX5_image 165 = .ok (.iload_n 1, 1) := by decide +kernel
theorem dX5_image_166 : decode cX5_image 166 = .ok (.aload_n 0, 1) := by decide +kernel
theorem dX5_image_167 : decode cX5_image 167 = .ok (.getfield 31, 3) := by decide +kernel
theorem dX5_image_170 : decode cX5_image 170 = .ok (.iload_n 1, 1) := by decide +kernel
theorem dX5_image_171 : decode cX5_image 171 = .ok (.iaload, 1) := by decide +kernel
theorem dX5_image_172 : decode cX5_image 172 = .ok (.iastore, 1) := by decide +kernel
theorem dX5_image_173 : decode cX5_image 173 = .ok (.aload_n 0, 1) := by decide +kernel
theorem dX5_image_174 : decode cX5_image 174 = .ok (.getfield 90, 3) := by decide +kernel
theorem dX5_image_177 : decode cX5_image 177 = .ok (.iload_n 1, 1) := by decide +kernel
theorem dX5_image_178 : decode cX5_image 178 = .ok (.aload_n 0, 1) := by decide +kernel
theorem dX5_image_179 : decode cX5_image 179 = .ok (.getfield 34, 3) := by decide +kernel
theorem dX5_image_182 : decode cX5_image 182 = .ok (.iload_n 1, 1) := by decide +kernel
theorem dX5_image_183 : decode cX5_image 183 = .ok (.iaload, 1) := by decide +kernel
theorem dX5_image_184 : decode cX5_image 184 = .ok (.iastore, 1) := by decide +kernel
theorem dX5_image_185 : decode cX5_image 185 = .ok (.aload_n 0, 1) := by decide +kernel
theorem dX5_image_186 : decode cX5_image 186 = .ok (.getfield 93, 3) := by decide +kernel
theorem dX5_image_189 : decode cX5_image 189 = .ok (.iload_n 1, 1) := by decide +kernel
theorem dX5_image_190 : decode cX5_image 190 = .ok (.aload_n 0, 1) := by decide +kernel
theorem dX5_image_191 : decode cX5_image 191 = .ok (.getfield 37, 3) := by decide +kernel
theorem dX5_image_194 : decode cX5_image 194 = .ok (.iload_n 1, 1) := by decide +kernel
theorem dX5_image_195 : decode cX5_image 195 = .ok (.iaload, 1) := by decide +kernel
theorem dX5_image_196 : decode cX5_image 196 = .ok (.iastore, 1) := by decide +kernel
theorem dX5_image_197 : decode cX5_image 197 = .ok (.iinc 1 1, 3) := by decide +kernel
theorem dX5_image_200 : decode cX5_image 200 = .ok (.goto (-57), 3) := by decide +kernel
theorem dX5_image_203 : decode cX5_image 203 = .ok (.aload_n 0, 1) := by decide +kernel
theorem dX5_image_204 : decode cX5_image 204 = .ok (.getfield 137, 3) := by decide +kernel
theorem dX5_image_207 : decode cX5_image 207 = .ok (.ireturn, 1) := by decide +kernel
theorem dX5_restore_0 : decode cX5_restore 0 = .ok (.aload_n 0, 1) := by decide +kernel
theorem dX5_restore_1 : decode cX5_restore 1 = .ok (.getfield 303, 3) := by decide +kernel
theorem dX5_restore_4 : decode cX5_restore 4 = .ok (.ifCond .eq 14, 3) := by decide +kernel
theorem dX5_restore_7 : decode cX5_restore 7 = .ok (.aload_n 0, 1) := by decide +kernel
theorem dX5_restore_8 : decode cX5_restore 8 = .ok (.getfield 306, 3) := by decide +kernel
theorem dX5_restore_11 : decode cX5_restore 11 = .ok (.aload_n 0, 1) := by decide +kernel
theorem dX5_restore_12 : decode cX5_restore 12 = .ok (.getfield 146, 3) := by decide +kernel
theorem dX5_restore_15 : decode cX5_restore 15 = .ok (.if_icmp .eq 6, 3) := by decide +kernel
theorem dX5_restore_18 : decode cX5_restore 18 = .ok (.bipush (-103), 2) := by decide +kernel
theorem dX5_restore_20 : decode cX5_restore 20 = .ok (.ireturn, 1) := by decide +kernel
theorem dX5_restore_21 : decode cX5_restore 21 = .ok (.aload_n 0, 1) := by decide +kernel
theorem dX5_restore_22 : decode cX5_restore 22 = .ok (.aload_n 0, 1) := by decide +kernel
theorem dX5_restore_23 : decode cX5_restore 23 = .ok (.getfield 309, 3) := by decide +kernel
theorem dX5_restore_26 : decode cX5_restore 26 = .ok (.putfield 137, 3) := by decide +kernel
theorem dX5_restore_29 : decode cX5_restore 29 = .ok (.aload_n 0, 1) := by decide +kernel
theorem dX5_restore_30 : decode cX5_restore 30 = .ok (.aload_n 0, 1) := by decide +kernel
theorem dX5_restore_31 : decode cX5_restore 31 = .ok (.getfield 312, 3) := by decide +kernel
theorem dX5_restore_34 : decode cX5_restore 34 = .ok (.putfield 140, 3) := by decide +kernel
theorem dX5_restore_37 : decode cX5_restore 37 = .ok (.aload_n 0, 1) := by decide +kernel
theorem dX5_restore_38 : decode cX5_restore 38 = .ok (.aload_n 0, 1) := by decide +kernel
theorem dX5_restore_39 : decode cX5_restore 39 = .ok (.getfield 315, 3) := by decide +kernel
theorem dX5_restore_42 : decode cX5_restore 42 = .ok (.putfield 143, 3) := by decide +kernel
theorem dX5_restore_45 : decode cX5_restore 45 = .ok (.aload_n 0, 1) := by decide +kernel
theorem dX5_restore_46 : decode cX5_restore 46 = .ok (.aload_n 0, 1) := by decide +kernel
theorem dX5_restore_47 : decode cX5_restore 47 = .ok (.getfield 318, 3) := by decide +kernel
theorem dX5_restore_50 : decode cX5_restore 50 = .ok (.putfield 149, 3) := by decide +kernel
theorem dX5_restore_53 : decode cX5_restore 53 = .ok (.iconst 0, 1) := by decide +kernel
theorem dX5_restore_54 : decode cX5_restore 54 = .ok (.istore_n 1, 1) := by decide +kernel
theorem dX5_restore_55 : decode cX5_restore 55 = .ok (.iload_n 1, 1) := by decide +kernel
theorem dX5_restore_56 : decode cX5_restore 56 = .ok (.iconst 4, 1) := by decide +kernel
theorem dX5_restore_57 : decode cX5_restore 57 = .ok (.if_icmp .ge 21, 3) := by decide +kernel
theorem dX5_restore_60 : decode cX5_restore 60 = .ok (.aload_n 0, 1) := by decide +kernel
theorem dX5_restore_61 : decode cX5_restore 61 = .ok (.getfield 7, 3) := by decide +kernel
theorem dX5_restore_64 : decode cX5_restore 64 = .ok (.iload_n 1, 1) := by decide +kernel
theorem dX5_restore_65 : decode cX5_restore 65 = .ok (.aload_n 0, 1) := by decide +kernel
theorem dX5_restore_66 : decode cX5_restore 66 = .ok (.getfield 69, 3) := by decide +kernel
theorem dX5_restore_69 : decode cX5_restore 69 = .ok (.iload_n 1, 1) := by decide +kernel
theorem dX5_restore_70 : decode cX5_restore 70 = .ok (.iaload, 1) := by decide +kernel
theorem dX5_restore_71 : decode cX5_restore 71 = .ok (.iastore, 1) := by decide +kernel
theorem dX5_restore_72 : decode cX5_restore 72 = .ok (.iinc 1 1, 3) := by decide +kernel
theorem dX5_restore_75 : decode cX5_restore 75 = .ok (.goto (-20), 3) := by decide +kernel
theorem dX5_restore_78 : decode cX5_restore 78 = .ok (.iconst 0, 1) := by decide +kernel
theorem dX5_restore_79 : decode cX5_restore 79 = .ok (.istore_n 1, 1) := by decide +kernel
theorem dX5_restore_80 : decode cX5_restore 80 = .ok (.iload_n 1, 1) := by decide +kernel
theorem dX5_restore_81 : decode cX5_restore 81 = .ok (.iconst 5, 1) := by decide +kernel
theorem dX5_restore_82 : decode cX5_restore 82 = .ok (.if_icmp .ge 57, 3) := by decide +kernel
theorem dX5_restore_85 : decode cX5_restore 85 = .ok (.aload_n 0, 1) := by decide +kernel
theorem dX5_restore_86 : decode cX5_restore 86 = .ok (.getfield 16, 3) := by decide +kernel
theorem dX5_restore_89 : decode cX5_restore 89 = .ok (.iload_n 1, 1) := by decide +kernel
theorem dX5_restore_90 : decode cX5_restore 90 = .ok (.aload_n 0, 1) := by decide +kernel
theorem dX5_restore_91 : decode cX5_restore 91 = .ok (.getfield 72, 3) := by decide +kernel
theorem dX5_restore_94 : decode cX5_restore 94 = .ok (.iload_n 1, 1) := by decide +kernel
theorem dX5_restore_95 : decode cX5_restore 95 = .ok (.iaload, 1) := by decide +kernel
theorem dX5_restore_96 : decode cX5_restore 96 = .ok (.iastore, 1) := by decide +kernel
theorem dX5_restore_97 : decode cX5_restore 97 = .ok (.aload_n 0, 1) := by decide +kernel
theorem dX5_restore_98 : decode cX5_restore 98 = .ok (.getfield 19, 3) := by decide +kernel
theorem dX5_restore_101 : decode cX5_restore 101 = .ok (.iload_n 1, 1) := by decide +kernel
theorem dX5_restore_102 : decode cX5_restore 102 = .ok (.aload_n 0, 1) := by decide +kernel
theorem dX5_restore_103 : decode cX5_restore 103 = .ok (.getfield 75, 3) := by decide +kernel
theorem dX5_restore_106 : decode cX5_restore 106 = .ok (.iload_n 1, 1) := by decide +kernel
theorem dX5_restore_107 : decode cX5_restore 107 = .ok (.iaload, 1) := by decide +kernel
theorem dX5_restore_108 : decode cX5_restore 108 = .ok (.iastore, 1) := by decide +kernel
theorem dX5_restore_109 : decode cX5_restore 109 = .ok (.aload_n 0, 1) := by decide +kernel
theorem dX5_restore_110 : decode cX5_restore 110 = .ok (.getfield 22, 3) := by decide +kernel
theorem dX5_restore_113 : decode cX5_restore 113 = .ok (.iload_n 1, 1) := by decide +kernel
theorem dX5_restore_114 : decode cX5_restore 114 = .ok (.aload_n 0, 1) := by decide +kernel
theorem dX5_restore_115 : decode cX5_restore 115 = .ok (.getfield 78, 3) := by decide +kernel
theorem dX5_restore_118 : decode cX5_restore 118 = .ok (.iload_n 1, 1) := by decide +kernel
theorem dX5_restore_119 : decode cX5_restore 119 = .ok (.iaload, 1) := by decide +kernel
theorem dX5_restore_120 : decode cX5_restore 120 = .ok (.iastore, 1) := by decide +kernel
theorem dX5_restore_121 : decode cX5_restore 121 = .ok (.aload_n 0, 1) := by decide +kernel
theorem dX5_restore_122 : decode cX5_restore 122 = .ok (.getfield 25, 3) := by decide +kernel
theorem dX5_restore_125 : decode cX5_restore 125 = .ok (.iload_n 1, 1) := by decide +kernel
theorem dX5_restore_126 : decode cX5_restore 126 = .ok (.aload_n 0, 1) := by decide +kernel
theorem dX5_restore_127 : decode cX5_restore 127 = .ok (.getfield 81, 3) := by decide +kernel
theorem dX5_restore_130 : decode cX5_restore 130 = .ok (.iload_n 1, 1) := by decide +kernel
theorem dX5_restore_131 : decode cX5_restore 131 = .ok (.iaload, 1) := by decide +kernel
theorem dX5_restore_132 : decode cX5_restore 132 = .ok (.iastore, 1) := by decide +kernel
theorem dX5_restore_133 : decode cX5_restore 133 = .ok (.iinc 1 1, 3) := by decide +kernel
theorem dX5_restore_136 : decode cX5_restore 136 = .ok (.goto (-56), 3) := by decide +kernel
theorem dX5_restore_139 : decode cX5_restore 139 = .ok (.iconst 0, 1) := by decide +kernel
theorem dX5_restore_140 : decode cX5_restore 140 = .ok (.istore_n 1, 1) := by decide +kernel
theorem dX5_restore_141 : decode cX5_restore 141 = .ok (.iload_n 1, 1) := by decide +kernel
theorem dX5_restore_142 : decode cX5_restore 142 = .ok (.bipush 8, 2) := by decide +kernel
theorem dX5_restore_144 : decode cX5_restore 144 = .ok (.if_icmp .ge 57, 3) := by decide +kernel
theorem dX5_restore_147 : decode cX5_restore 147 = .ok (.aload_n 0, 1) := by decide +kernel
theorem dX5_restore_148 : decode cX5_restore 148 = .ok (.getfield 28, 3) := by decide +kernel
theorem dX5_restore_151 : decode cX5_restore 151 = .ok (.iload_n 1, 1) := by decide +kernel
theorem dX5_restore_152 : decode cX5_restore 152 = .ok (.aload_n 0, 1) := by decide +kernel
theorem dX5_restore_153 : decode cX5_restore 153 = .ok (.getfield 84, 3) := by decide +kernel
theorem dX5_restore_156 : decode cX5_restore 156 = .ok (.iload_n 1, 1) := by decide +kernel
theorem dX5_restore_157 : decode cX5_restore 157 = .ok (.iaload, 1) := by decide +kernel
theorem dX5_restore_158 : decode cX5_restore 158 = .ok (.iastore, 1) := by decide +kernel
theorem dX5_restore_159 : decode cX5_restore 159 = .ok (.aload_n 0, 1) := by decide +kernel
theorem dX5_restore_160 : decode cX5_restore 160 = .ok (.getfield 31, 3) := by decide +kernel
theorem dX5_restore_163 : decode cX5_restore 163 = .ok (.iload_n 1, 1) := by decide +kernel
theorem dX5_restore_164 : decode cX5_restore 164 = .ok (.aload_n 0, 1) := by decide +kernel
theorem dX5_restore_165 : decode cX5_restore 165 = .ok (.getfield 87, 3) := by decide +kernel
theorem dX5_restore_168 : decode cX5_restore 168 = .ok (.iload_n 1, 1) := by decide +kernel
theorem dX5_restore_169 : decode cX5_restore 169 = .ok (.iaload, 1) := by decide +kernel
theorem dX5_restore_170 : decode cX5_restore 170 = .ok (.iastore, 1) := by decide +kernel
theorem dX5_restore_171 : decode cX5_restore 171 = .ok (.aload_n 0, 1) := by decide +kernel
theorem dX5_restore_172 : decode cX5_restore 172 = .ok (.getfield 34, 3) := by decide +kernel
theorem dX5_restore_175 : decode cX5_restore 175 = .ok (.iload_n 1, 1) := by decide +kernel
theorem dX5_restore_176 : decode cX5_restore 176 = .ok (.aload_n 0, 1) := by decide +kernel
theorem dX5_restore_177 : decode cX5_restore 177 = .ok (.getfield 90, 3) := by decide +kernel
theorem dX5_restore_180 : decode cX5_restore 180 = .ok (.iload_n 1, 1) := by decide +kernel
theorem dX5_restore_181 : decode cX5_restore 181 = .ok (.iaload, 1) := by decide +kernel
theorem dX5_restore_182 : decode cX5_restore 182 = .ok (.iastore, 1) := by decide +kernel
theorem dX5_restore_183 : decode cX5_restore 183 = .ok (.aload_n 0, 1) := by decide +kernel
theorem dX5_restore_184 : decode cX5_restore 184 = .ok (.getfield 37, 3) := by decide +kernel
theorem dX5_restore_187 : decode cX5_restore 187 = .ok (.iload_n 1, 1) := by decide +kernel
theorem dX5_restore_188 : decode cX5_restore 188 = .ok (.aload_n 0, 1) := by decide +kernel
theorem dX5_restore_189 : decode cX5_restore 189 = .ok (.getfield 93, 3) := by decide +kernel
theorem dX5_restore_192 : decode cX5_restore 192 = .ok (.iload_n 1, 1) := by decide +kernel
theorem dX5_restore_193 : decode cX5_restore 193 = .ok (.iaload, 1) := by decide +kernel
theorem dX5_restore_194 : decode cX5_restore 194 = .ok (.iastore, 1) := by decide +kernel
theorem dX5_restore_195 : decode cX5_restore 195 = .ok (.iinc 1 1, 3) := by decide +kernel
theorem dX5_restore_198 : decode cX5_restore 198 = .ok (.goto (-57), 3) := by decide +kernel
theorem dX5_restore_201 : decode cX5_restore 201 = .ok (.aload_n 0, 1) := by decide +kernel
theorem dX5_restore_202 : decode cX5_restore 202 = .ok (.getfield 137, 3) := by decide +kernel
theorem dX5_restore_205 : decode cX5_restore 205 = .ok (.ireturn, 1) := by decide +kernel
theorem dX5_howMany_0 : decode cX5_howMany 0 = .ok (.iload_n 1, 1) := by decide +kernel
theorem dX5_howMany_1 : decode cX5_howMany 1 = .ok (.tableswitch 125 0 11 #[63, 68, 73, 78, 85, 90, 95, 100, 105, 110, 115, 120], 63) := by decide +kernel
theorem dX5_howMany_64 : decode cX5_howMany 64 = .ok (.aload_n 0, 1) := by decide +kernel
theorem dX5_howMany_65 : decode cX5_howMany 65 = .ok (.getfield 131, 3) := by decide +kernel
theorem dX5_howMany_68 : decode cX5_howMany 68 = .ok (.ireturn, 1) := by decide +kernel
theorem dX5_howMany_69 : decode cX5_howMany 69 = .ok (.aload_n 0, 1) := by decide +kernel
theorem dX5_howMany_70 : decode cX5_howMany 70 = .ok (.getfield 134, 3) := by decide +kernel
theorem dX5_howMany_73 : decode cX5_howMany 73 = .ok (.ireturn, 1) := by decide +kernel
theorem dX5_howMany_74 : decode cX5_howMany 74 = .ok (.aload_n 0, 1) := by decide +kernel
theorem dX5_howMany_75 : decode cX5_howMany 75 = .ok (.invokevirtual 297, 3) := by decide +kernel
theorem dX5_howMany_78 : decode cX5_howMany 78 = .ok (.ireturn, 1) := by decide +kernel
theorem dX5_howMany_79 : decode cX5_howMany 79 = .ok (.aload_n 0, 1) := by decide +kernel
theorem dX5_howMany_80 : decode cX5_howMany 80 = .ok (.bipush 31, 2) := by decide +kernel
theorem dX5_howMany_82 : decode cX5_howMany 82 = .ok (.invokevirtual 192, 3) := by decide +kernel
theorem dX5_howMany_85 : decode cX5_howMany 85 = .ok (.ireturn, 1) := by decide +kernel
theorem dX5_howMany_86 : decode cX5_howMany 86 = .ok (.aload_n 0, 1) := by decide +kernel
theorem dX5_howMany_87 : decode cX5_howMany 87 = .ok (.invokevirtual 259, 3) := by decide +kernel
theorem dX5_howMany_90 : decode cX5_howMany 90 = .ok (.ireturn, 1) := by decide +kernel
theorem dX5_howMany_91 : decode cX5_howMany 91 = .ok (.aload_n 0, 1) := by decide +kernel
theorem dX5_howMany_92 : decode cX5_howMany 92 = .ok (.getfield 137, 3) := by decide +kernel
theorem dX5_howMany_95 : decode cX5_howMany 95 = .ok (.ireturn, 1) := by decide +kernel
theorem dX5_howMany_96 : decode cX5_howMany 96 = .ok (.aload_n 0, 1) := by decide +kernel
theorem dX5_howMany_97 : decode cX5_howMany 97 = .ok (.getfield 140, 3) := by decide +kernel
theorem dX5_howMany_100 : decode cX5_howMany 100 = .ok (.ireturn, 1) := by decide +kernel
theorem dX5_howMany_101 : decode cX5_howMany 101 = .ok (.aload_n 0, 1) := by decide +kernel
theorem dX5_howMany_102 : decode cX5_howMany 102 = .ok (.getfield 143, 3) := by decide +kernel
theorem dX5_howMany_105 : decode cX5_howMany 105 = .ok (.ireturn, 1) := by decide +kernel
theorem dX5_howMany_106 : decode cX5_howMany 106 = .ok (.aload_n 0, 1) := by decide +kernel
theorem dX5_howMany_107 : decode cX5_howMany 107 = .ok (.getfield 149, 3) := by decide +kernel
theorem dX5_howMany_110 : decode cX5_howMany 110 = .ok (.ireturn, 1) := by decide +kernel
theorem dX5_howMany_111 : decode cX5_howMany 111 = .ok (.aload_n 0, 1) := by decide +kernel
theorem dX5_howMany_112 : decode cX5_howMany 112 = .ok (.getfield 100, 3) := by decide +kernel
theorem dX5_howMany_115 : decode cX5_howMany 115 = .ok (.ireturn, 1) := by decide +kernel
theorem dX5_howMany_116 : decode cX5_howMany 116 = .ok (.aload_n 0, 1) := by decide +kernel
theorem dX5_howMany_117 : decode cX5_howMany 117 = .ok (.getfield 146, 3) := by decide +kernel
theorem dX5_howMany_120 : decode cX5_howMany 120 = .ok (.ireturn, 1) := by decide +kernel
theorem dX5_howMany_121 : decode cX5_howMany 121 = .ok (.aload_n 0, 1) := by decide +kernel
theorem dX5_howMany_122 : decode cX5_howMany 122 = .ok (.getfield 253, 3) := by decide +kernel
theorem dX5_howMany_125 : decode cX5_howMany 125 = .ok (.ireturn, 1) := by decide +kernel
theorem dX5_howMany_126 : decode cX5_howMany 126 = .ok (.bipush (-102), 2) := by decide +kernel
theorem dX5_howMany_128 : decode cX5_howMany 128 = .ok (.ireturn, 1) := by decide +kernel
theorem dX5_count_0 : decode cX5_count 0 = .ok (.aload_n 0, 1) := by decide +kernel
theorem dX5_count_1 : decode cX5_count 1 = .ok (.iload_n 1, 1) := by decide +kernel
theorem dX5_count_2 : decode cX5_count 2 = .ok (.invokevirtual 321, 3) := by decide +kernel
theorem dX5_count_5 : decode cX5_count 5 = .ok (.ireturn, 1) := by decide +kernel
theorem dX5_mix_0 : decode cX5_mix 0 = .ok (.aload_n 0, 1) := by decide +kernel
theorem dX5_mix_1 : decode cX5_mix 1 = .ok (.ldc2_w 324, 3) := by decide +kernel
theorem dX5_mix_4 : decode cX5_mix 4 = .ok (.aload_n 0, 1) := by decide +kernel
theorem dX5_mix_5 : decode cX5_mix 5 = .ok (.getfield 326, 3) := by decide +kernel
theorem dX5_mix_8 : decode cX5_mix 8 = .ok (.lmul, 1) := by decide +kernel
theorem dX5_mix_9 : decode cX5_mix 9 = .ok (.lload_n 1, 1) := by decide +kernel
theorem dX5_mix_10 : decode cX5_mix 10 = .ok (.ladd, 1) := by decide +kernel
theorem dX5_mix_11 : decode cX5_mix 11 = .ok (.putfield 326, 3) := by decide +kernel
theorem dX5_mix_14 : decode cX5_mix 14 = .ok (.return_, 1) := by decide +kernel
theorem dX5_mixVillage_0 : decode cX5_mixVillage 0 = .ok (.iconst 0, 1) := by decide +kernel
theorem dX5_mixVillage_1 : decode cX5_mixVillage 1 = .ok (.istore_n 2, 1) := by decide +kernel
theorem dX5_mixVillage_2 : decode cX5_mixVillage 2 = .ok (.iload_n 2, 1) := by decide +kernel
theorem dX5_mixVillage_3 : decode cX5_mixVillage 3 = .ok (.bipush 8, 2) := by decide +kernel
theorem dX5_mixVillage_5 : decode cX5_mixVillage 5 = .ok (.if_icmp .ge 20, 3) := by decide +kernel
theorem dX5_mixVillage_8 : decode cX5_mixVillage 8 = .ok (.aload_n 0, 1) := by decide +kernel
theorem dX5_mixVillage_9 : decode cX5_mixVillage 9 = .ok (.aload_n 0, 1) := by decide +kernel
theorem dX5_mixVillage_10 : decode cX5_mixVillage 10 = .ok (.iload_n 1, 1) := by decide +kernel
theorem dX5_mixVillage_11 : decode cX5_mixVillage 11 = .ok (.iload_n 2, 1) := by decide +kernel
theorem dX5_mixVillage_12 : decode cX5_mixVillage 12 = .ok (.invokevirtual 198, 3) := by decide +kernel
theorem dX5_mixVillage_15 : decode cX5_mixVillage 15 = .ok (.i2l, 1) := by decide +kernel
theorem dX5_mixVillage_16 : decode cX5_mixVillage 16 = .ok (.invokevirtual 329, 3) := by decide +kernel
theorem dX5_mixVillage_19 : decode cX5_mixVillage 19 = .ok (.iinc 2 1, 3) := by decide +kernel
theorem dX5_mixVillage_22 : decode cX5_mixVillage 22 = .ok (.goto (-20), 3) := by decide +kernel
theorem dX5_mixVillage_25 : decode cX5_mixVillage 25 = .ok (.iconst 0, 1) := by decide +kernel
theorem dX5_mixVillage_26 : decode cX5_mixVillage 26 = .ok (.istore_n 2, 1) := by decide +kernel
theorem dX5_mixVillage_27 : decode cX5_mixVillage 27 = .ok (.iload_n 2, 1) := by decide +kernel
theorem dX5_mixVillage_28 : decode cX5_mixVillage 28 = .ok (.aload_n 0, 1) := by decide +kernel
theorem dX5_mixVillage_29 : decode cX5_mixVillage 29 = .ok (.getfield 134, 3) := by decide +kernel
theorem dX5_mixVillage_32 : decode cX5_mixVillage 32 = .ok (.if_icmp .ge 33, 3) := by decide +kernel
theorem dX5_mixVillage_35 : decode cX5_mixVillage 35 = .ok (.aload_n 0, 1) := by decide +kernel
theorem dX5_mixVillage_36 : decode cX5_mixVillage 36 = .ok (.aload_n 0, 1) := by decide +kernel
theorem dX5_mixVillage_37 : decode cX5_mixVillage 37 = .ok (.iload_n 2, 1) := by decide +kernel
theorem dX5_mixVillage_38 : decode cX5_mixVillage 38 = .ok (.iload_n 1, 1) := by decide +kernel
theorem dX5_mixVillage_39 : decode cX5_mixVillage 39 = .ok (.iconst 0, 1) := by decide +kernel
theorem dX5_mixVillage_40 : decode cX5_mixVillage 40 = .ok (.invokevirtual 224, 3) := by decide +kernel
theorem dX5_mixVillage_43 : decode cX5_mixVillage 43 = .ok (.i2l, 1) := by decide +kernel
theorem dX5_mixVillage_44 : decode cX5_mixVillage 44 = .ok (.invokevirtual 329, 3) := by decide +kernel
theorem dX5_mixVillage_47 : decode cX5_mixVillage 47 = .ok (.aload_n 0, 1) := by decide +kernel
theorem dX5_mixVillage_48 : decode cX5_mixVillage 48 = .ok (.aload_n 0, 1) := by decide +kernel
theorem dX5_mixVillage_49 : decode cX5_mixVillage 49 = .ok (.iload_n 2, 1) := by decide +kernel
theorem dX5_mixVillage_50 : decode cX5_mixVillage 50 = .ok (.iload_n 1, 1) := by decide +kernel
theorem dX5_mixVillage_51 : decode cX5_mixVillage 51 = .ok (.iconst 1, 1) := by decide +kernel
theorem dX5_mixVillage_52 : decode cX5_mixVillage 52 = .ok (.invokevirtual 224, 3) := by decide +kernel
theorem dX5_mixVillage_55 : decode cX5_mixVillage 55 = .ok (.i2l, 1) := by decide +kernel
theorem dX5_mixVillage_56 : decode cX5_mixVillage 56 = .ok (.invokevirtual 329, 3) := by decide +kernel
theorem dX5_mixVillage_59 : decode cX5_mixVillage 59 = .ok (.iinc 2 1, 3) := by decide +kernel
theorem dX5_mixVillage_62 : decode cX5_mixVillage 62 = .ok (.goto (-35), 3) := by decide +kernel
theorem dX5_mixVillage_65 : decode cX5_mixVillage 65 = .ok (.return_, 1) := by decide +kernel
theorem dX5_digest_0 : decode cX5_digest 0 = .ok (.aload_n 0, 1) := by decide +kernel
theorem dX5_digest_1 : decode cX5_digest 1 = .ok (.ldc2_w 333, 3) := by decide +kernel
theorem dX5_digest_4 : decode cX5_digest 4 = .ok (.putfield 326, 3) := by decide +kernel
theorem dX5_digest_7 : decode cX5_digest 7 = .ok (.iconst 0, 1) := by decide +kernel
theorem dX5_digest_8 : decode cX5_digest 8 = .ok (.istore_n 1, 1) := by decide +kernel
theorem dX5_digest_9 : decode cX5_digest 9 = .ok (.iload_n 1, 1) := by decide +kernel
theorem dX5_digest_10 : decode cX5_digest 10 = .ok (.aload_n 0, 1) := by decide +kernel
theorem dX5_digest_11 : decode cX5_digest 11 = .ok (.getfield 134, 3) := by decide +kernel
theorem dX5_digest_14 : decode cX5_digest 14 = .ok (.if_icmp .ge 34, 3) := by decide +kernel
theorem dX5_digest_17 : decode cX5_digest 17 = .ok (.iconst 0, 1) := by decide +kernel
theorem dX5_digest_18 : decode cX5_digest 18 = .ok (.istore_n 2, 1) := by decide +kernel
theorem dX5_digest_19 : decode cX5_digest 19 = .ok (.iload_n 2, 1) := by decide +kernel
theorem dX5_digest_20 : decode cX5_digest 20 = .ok (.bipush 8, 2) := by decide +kernel
theorem dX5_digest_22 : decode cX5_digest 22 = .ok (.if_icmp .ge 20, 3) := by decide +kernel
theorem dX5_digest_25 : decode cX5_digest 25 = .ok (.aload_n 0, 1) := by decide +kernel
theorem dX5_digest_26 : decode cX5_digest 26 = .ok (.aload_n 0, 1) := by decide +kernel
theorem dX5_digest_27 : decode cX5_digest 27 = .ok (.iload_n 1, 1) := by decide +kernel
theorem dX5_digest_28 : decode cX5_digest 28 = .ok (.iload_n 2, 1) := by decide +kernel
theorem dX5_digest_29 : decode cX5_digest 29 = .ok (.invokevirtual 186, 3) := by decide +kernel
theorem dX5_digest_32 : decode cX5_digest 32 = .ok (.i2l, 1) := by decide +kernel
theorem dX5_digest_33 : decode cX5_digest 33 = .ok (.invokevirtual 329, 3) := by decide +kernel
theorem dX5_digest_36 : decode cX5_digest 36 = .ok (.iinc 2 1, 3) := by decide +kernel
theorem dX5_digest_39 : decode cX5_digest 39 = .ok (.goto (-20), 3) := by decide +kernel
theorem dX5_digest_42 : decode cX5_digest 42 = .ok (.iinc 1 1, 3) := by decide +kernel
theorem dX5_digest_45 : decode cX5_digest 45 = .ok (.goto (-36), 3) := by decide +kernel
theorem dX5_digest_48 : decode cX5_digest 48 = .ok (.iconst 0, 1) := by decide +kernel
theorem dX5_digest_49 : decode cX5_digest 49 = .ok (.istore_n 1, 1) := by decide +kernel
theorem dX5_digest_50 : decode cX5_digest 50 = .ok (.iload_n 1, 1) := by decide +kernel
theorem dX5_digest_51 : decode cX5_digest 51 = .ok (.aload_n 0, 1) := by decide +kernel
theorem dX5_digest_52 : decode cX5_digest 52 = .ok (.getfield 131, 3) := by decide +kernel
theorem dX5_digest_55 : decode cX5_digest 55 = .ok (.if_icmp .ge 14, 3) := by decide +kernel
theorem dX5_digest_58 : decode cX5_digest 58 = .ok (.aload_n 0, 1) := by decide +kernel
theorem dX5_digest_59 : decode cX5_digest 59 = .ok (.iload_n 1, 1) := by decide +kernel
theorem dX5_digest_60 : decode cX5_digest 60 = .ok (.invokevirtual 335, 3) := by decide +kernel
theorem dX5_digest_63 : decode cX5_digest 63 = .ok (.iinc 1 1, 3) := by decide +kernel
theorem dX5_digest_66 : decode cX5_digest 66 = .ok (.goto (-16), 3) := by decide +kernel
theorem dX5_digest_69 : decode cX5_digest 69 = .ok (.aload_n 0, 1) := by decide +kernel
theorem dX5_digest_70 : decode cX5_digest 70 = .ok (.getfield 131, 3) := by decide +kernel
theorem dX5_digest_73 : decode cX5_digest 73 = .ok (.ifCond .le 34, 3) := by decide +kernel
theorem dX5_digest_76 : decode cX5_digest 76 = .ok (.aload_n 0, 1) := by decide +kernel
theorem dX5_digest_77 : decode cX5_digest 77 = .ok (.aload_n 0, 1) := by decide +kernel
theorem dX5_digest_78 : decode cX5_digest 78 = .ok (.invokevirtual 262, 3) := by decide +kernel
theorem dX5_digest_81 : decode cX5_digest 81 = .ok (.i2l, 1) := by decide +kernel
theorem dX5_digest_82 : decode cX5_digest 82 = .ok (.invokevirtual 329, 3) := by decide +kernel
theorem dX5_digest_85 : decode cX5_digest 85 = .ok (.aload_n 0, 1) := by decide +kernel
theorem dX5_digest_86 : decode cX5_digest 86 = .ok (.aload_n 0, 1) := by decide +kernel
theorem dX5_digest_87 : decode cX5_digest 87 = .ok (.iconst 3, 1) := by decide +kernel
theorem dX5_digest_88 : decode cX5_digest 88 = .ok (.iconst 0, 1) := by decide +kernel
theorem dX5_digest_89 : decode cX5_digest 89 = .ok (.invokevirtual 271, 3) := by decide +kernel
theorem dX5_digest_92 : decode cX5_digest 92 = .ok (.i2l, 1) := by decide +kernel
theorem dX5_digest_93 : decode cX5_digest 93 = .ok (.invokevirtual 329, 3) := by decide +kernel
theorem dX5_digest_96 : decode cX5_digest 96 = .ok (.aload_n 0, 1) := by decide +kernel
theorem dX5_digest_97 : decode cX5_digest 97 = .ok (.aload_n 0, 1) := by decide +kernel
theorem dX5_digest_98 : decode cX5_digest 98 = .ok (.iconst 3, 1) := by decide +kernel
theorem dX5_digest_99 : decode cX5_digest 99 = .ok (.iconst 1, 1) := by decide +kernel
theorem dX5_digest_100 : decode cX5_digest 100 = .ok (.invokevirtual 271, 3) := by decide +kernel
theorem dX5_digest_103 : decode cX5_digest 103 = .ok (.i2l, 1) := by decide +kernel
theorem dX5_digest_104 : decode cX5_digest 104 = .ok (.invokevirtual 329, 3) := by decide +kernel
theorem dX5_digest_107 : decode cX5_digest 107 = .ok (.iconst 0, 1) := by decide +kernel
theorem dX5_digest_108 : decode cX5_digest 108 = .ok (.istore_n 1, 1) := by decide +kernel
theorem dX5_digest_109 : decode cX5_digest 109 = .ok (.iload_n 1, 1) := by decide +kernel
theorem dX5_digest_110 : decode cX5_digest 110 = .ok (.aload_n 0, 1) := by decide +kernel
theorem dX5_digest_111 : decode cX5_digest 111 = .ok (.getfield 100, 3) := by decide +kernel
theorem dX5_digest_114 : decode cX5_digest 114 = .ok (.if_icmp .ge 20, 3) := by decide +kernel
theorem dX5_digest_117 : decode cX5_digest 117 = .ok (.aload_n 0, 1) := by decide +kernel
theorem dX5_digest_118 : decode cX5_digest 118 = .ok (.aload_n 0, 1) := by decide +kernel
theorem dX5_digest_119 : decode cX5_digest 119 = .ok (.getfield 40, 3) := by decide +kernel
theorem dX5_digest_122 : decode cX5_digest 122 = .ok (.iload_n 1, 1) := by decide +kernel
theorem dX5_digest_123 : decode cX5_digest 123 = .ok (.baload, 1) := by decide +kernel
theorem dX5_digest_124 : decode cX5_digest 124 = .ok (.i2l, 1) := by decide +kernel
theorem dX5_digest_125 : decode cX5_digest 125 = .ok (.invokevirtual 329, 3) := by decide +kernel
theorem dX5_digest_128 : decode cX5_digest 128 = .ok (.iinc 1 1, 3) := by decide +kernel
theorem dX5_digest_131 : decode cX5_digest 131 = .ok (.goto (-22), 3) := by decide +kernel
theorem dX5_digest_134 : decode cX5_digest 134 = .ok (.iconst 0, 1) := by decide +kernel
theorem dX5_digest_135 : decode cX5_digest 135 = .ok (.istore_n 1, 1) := by decide +kernel
theorem dX5_digest_136 : decode cX5_digest 136 = .ok (.iload_n 1, 1) := by decide +kernel
theorem dX5_digest_137 : decode cX5_digest 137 = .ok (.bipush 12, 2) := by decide +kernel
theorem dX5_digest_139 : decode cX5_digest 139 = .ok (.if_icmp .ge 19, 3) := by decide +kernel
theorem dX5_digest_142 : decode cX5_digest 142 = .ok (.aload_n 0, 1) := by decide +kernel
theorem dX5_digest_143 : decode cX5_digest 143 = .ok (.aload_n 0, 1) := by decide +kernel
theorem dX5_digest_144 : decode cX5_digest 144 = .ok (.iload_n 1, 1) := by decide +kernel
theorem dX5_digest_145 : decode cX5_digest 145 = .ok (.invokevirtual 321, 3) := by decide +kernel
theorem dX5_digest_148 : decode cX5_digest 148 = .ok (.i2l, 1) := by decide +kernel
theorem dX5_digest_149 : decode cX5_digest 149 = .ok (.invokevirtual 329, 3) := by decide +kernel
theorem dX5_digest_152 : decode cX5_digest 152 = .ok (.iinc 1 1, 3) := by decide +kernel
theorem dX5_digest_155 : decode cX5_digest 155 = .ok (.goto (-19), 3) := by decide +kernel
theorem dX5_digest_158 : decode cX5_digest 158 = .ok (.aload_n 0, 1) := by decide +kernel
theorem dX5_digest_159 : decode cX5_digest 159 = .ok (.getfield 326, 3) := by decide +kernel
theorem dX5_digest_162 : decode cX5_digest 162 = .ok (.lreturn, 1) := by decide +kernel
theorem dJ11_isValidCodePoint_9a6ad_0 : decode cJ11_isValidCodePoint_9a6ad 0 = .ok (.iload_n 0, 1) := by decide +kernel
theorem dJ11_isValidCodePoint_9a6ad_1 : decode cJ11_isValidCodePoint_9a6ad 1 = .ok (.bipush 16, 2) := by decide +kernel
theorem dJ11_isValidCodePoint_9a6ad_3 : decode cJ11_isValidCodePoint_9a6ad 3 = .ok (.iushr, 1) := by decide +kernel
theorem dJ11_isValidCodePoint_9a6ad_4 : decode cJ11_isValidCodePoint_9a6ad 4 = .ok (.istore_n 1, 1) := by decide +kernel
theorem dJ11_isValidCodePoint_9a6ad_5 : decode cJ11_isValidCodePoint_9a6ad 5 = .ok (.iload_n 1, 1) := by decide +kernel
theorem dJ11_isValidCodePoint_9a6ad_6 : decode cJ11_isValidCodePoint_9a6ad 6 = .ok (.bipush 17, 2) := by decide +kernel
theorem dJ11_isValidCodePoint_9a6ad_8 : decode cJ11_isValidCodePoint_9a6ad 8 = .ok (.if_icmp .ge 7, 3) := by decide +kernel
theorem dJ11_isValidCodePoint_9a6ad_11 : decode cJ11_isValidCodePoint_9a6ad 11 = .ok (.iconst 1, 1) := by decide +kernel
theorem dJ11_isValidCodePoint_9a6ad_12 : decode cJ11_isValidCodePoint_9a6ad 12 = .ok (.goto 4, 3) := by decide +kernel
theorem dJ11_isValidCodePoint_9a6ad_15 : decode cJ11_isValidCodePoint_9a6ad 15 = .ok (.iconst 0, 1) := by decide +kernel
theorem dJ11_isValidCodePoint_9a6ad_16 : decode cJ11_isValidCodePoint_9a6ad 16 = .ok (.ireturn, 1) := by decide +kernel
theorem dJ11_highSurrogate_5068e_0 : decode cJ11_highSurrogate_5068e 0 = .ok (.iload_n 0, 1) := by decide +kernel
theorem dJ11_highSurrogate_5068e_1 : decode cJ11_highSurrogate_5068e 1 = .ok (.bipush 10, 2) := by decide +kernel
theorem dJ11_highSurrogate_5068e_3 : decode cJ11_highSurrogate_5068e 3 = .ok (.iushr, 1) := by decide +kernel
theorem dJ11_highSurrogate_5068e_4 : decode cJ11_highSurrogate_5068e 4 = .ok (.ldc 110, 2) := by decide +kernel
theorem dJ11_highSurrogate_5068e_6 : decode cJ11_highSurrogate_5068e 6 = .ok (.iadd, 1) := by decide +kernel
theorem dJ11_highSurrogate_5068e_7 : decode cJ11_highSurrogate_5068e 7 = .ok (.i2c, 1) := by decide +kernel
theorem dJ11_highSurrogate_5068e_8 : decode cJ11_highSurrogate_5068e 8 = .ok (.ireturn, 1) := by decide +kernel
theorem dJ11_lowSurrogate_5068e_0 : decode cJ11_lowSurrogate_5068e 0 = .ok (.iload_n 0, 1) := by decide +kernel
theorem dJ11_lowSurrogate_5068e_1 : decode cJ11_lowSurrogate_5068e 1 = .ok (.sipush 1023, 3) := by decide +kernel
theorem dJ11_lowSurrogate_5068e_4 : decode cJ11_lowSurrogate_5068e 4 = .ok (.iand, 1) := by decide +kernel
theorem dJ11_lowSurrogate_5068e_5 : decode cJ11_lowSurrogate_5068e 5 = .ok (.ldc 76, 2) := by decide +kernel
theorem dJ11_lowSurrogate_5068e_7 : decode cJ11_lowSurrogate_5068e 7 = .ok (.iadd, 1) := by decide +kernel
theorem dJ11_lowSurrogate_5068e_8 : decode cJ11_lowSurrogate_5068e 8 = .ok (.i2c, 1) := by decide +kernel
theorem dJ11_lowSurrogate_5068e_9 : decode cJ11_lowSurrogate_5068e 9 = .ok (.ireturn, 1) := by decide +kernel
theorem dJ6_bitCount_0f7a4_0 : decode cJ6_bitCount_0f7a4 0 = .ok (.iload_n 0, 1) := by decide +kernel
theorem dJ6_bitCount_0f7a4_1 : decode cJ6_bitCount_0f7a4 1 = .ok (.iload_n 0, 1) := by decide +kernel
theorem dJ6_bitCount_0f7a4_2 : decode cJ6_bitCount_0f7a4 2 = .ok (.iconst 1, 1) := by decide +kernel
theorem dJ6_bitCount_0f7a4_3 : decode cJ6_bitCount_0f7a4 3 = .ok (.iushr, 1) := by decide +kernel
theorem dJ6_bitCount_0f7a4_4 : decode cJ6_bitCount_0f7a4 4 = .ok (.ldc_w 265, 3) := by decide +kernel
theorem dJ6_bitCount_0f7a4_7 : decode cJ6_bitCount_0f7a4 7 = .ok (.iand, 1) := by decide +kernel
theorem dJ6_bitCount_0f7a4_8 : decode cJ6_bitCount_0f7a4 8 = .ok (.isub, 1) := by decide +kernel
theorem dJ6_bitCount_0f7a4_9 : decode cJ6_bitCount_0f7a4 9 = .ok (.istore_n 0, 1) := by decide +kernel
theorem dJ6_bitCount_0f7a4_10 : decode cJ6_bitCount_0f7a4 10 = .ok (.iload_n 0, 1) := by decide +kernel
theorem dJ6_bitCount_0f7a4_11 : decode cJ6_bitCount_0f7a4 11 = .ok (.ldc_w 266, 3) := by decide +kernel
theorem dJ6_bitCount_0f7a4_14 : decode cJ6_bitCount_0f7a4 14 = .ok (.iand, 1) := by decide +kernel
theorem dJ6_bitCount_0f7a4_15 : decode cJ6_bitCount_0f7a4 15 = .ok (.iload_n 0, 1) := by decide +kernel
theorem dJ6_bitCount_0f7a4_16 : decode cJ6_bitCount_0f7a4 16 = .ok (.iconst 2, 1) := by decide +kernel
theorem dJ6_bitCount_0f7a4_17 : decode cJ6_bitCount_0f7a4 17 = .ok (.iushr, 1) := by decide +kernel
theorem dJ6_bitCount_0f7a4_18 : decode cJ6_bitCount_0f7a4 18 = .ok (.ldc_w 266, 3) := by decide +kernel
theorem dJ6_bitCount_0f7a4_21 : decode cJ6_bitCount_0f7a4 21 = .ok (.iand, 1) := by decide +kernel
theorem dJ6_bitCount_0f7a4_22 : decode cJ6_bitCount_0f7a4 22 = .ok (.iadd, 1) := by decide +kernel
theorem dJ6_bitCount_0f7a4_23 : decode cJ6_bitCount_0f7a4 23 = .ok (.istore_n 0, 1) := by decide +kernel
theorem dJ6_bitCount_0f7a4_24 : decode cJ6_bitCount_0f7a4 24 = .ok (.iload_n 0, 1) := by decide +kernel
theorem dJ6_bitCount_0f7a4_25 : decode cJ6_bitCount_0f7a4 25 = .ok (.iload_n 0, 1) := by decide +kernel
theorem dJ6_bitCount_0f7a4_26 : decode cJ6_bitCount_0f7a4 26 = .ok (.iconst 4, 1) := by decide +kernel
theorem dJ6_bitCount_0f7a4_27 : decode cJ6_bitCount_0f7a4 27 = .ok (.iushr, 1) := by decide +kernel
end
section
theorem dJ6_bitCount_0f7a4_28 : decode cJ6_bitCount_0f7a4 28 = .ok (.iadd, 1) := by decide +kernel
theorem dJ6_bitCount_0f7a4_29 : decode cJ6_bitCount_0f7a4 29 = .ok (.ldc_w 267, 3) := by decide +kernel
theorem dJ6_bitCount_0f7a4_32 : decode cJ6_bitCount_0f7a4 32 = .ok (.iand, 1) := by decide +kernel
theorem dJ6_bitCount_0f7a4_33 : decode cJ6_bitCount_0f7a4 33 = .ok (.istore_n 0, 1) := by decide +kernel
theorem dJ6_bitCount_0f7a4_34 : decode cJ6_bitCount_0f7a4 34 = .ok (.iload_n 0, 1) := by decide +kernel
theorem dJ6_bitCount_0f7a4_35 : decode cJ6_bitCount_0f7a4 35 = .ok (.iload_n 0, 1) := by decide +kernel
theorem dJ6_bitCount_0f7a4_36 : decode cJ6_bitCount_0f7a4 36 = .ok (.bipush 8, 2) := by decide +kernel
theorem dJ6_bitCount_0f7a4_38 : decode cJ6_bitCount_0f7a4 38 = .ok (.iushr, 1) := by decide +kernel
theorem dJ6_bitCount_0f7a4_39 : decode cJ6_bitCount_0f7a4 39 = .ok (.iadd, 1) := by decide +kernel
theorem dJ6_bitCount_0f7a4_40 : decode cJ6_bitCount_0f7a4 40 = .ok (.istore_n 0, 1) := by decide +kernel
theorem dJ6_bitCount_0f7a4_41 : decode cJ6_bitCount_0f7a4 41 = .ok (.iload_n 0, 1) := by decide +kernel
theorem dJ6_bitCount_0f7a4_42 : decode cJ6_bitCount_0f7a4 42 = .ok (.iload_n 0, 1) := by decide +kernel
theorem dJ6_bitCount_0f7a4_43 : decode cJ6_bitCount_0f7a4 43 = .ok (.bipush 16, 2) := by decide +kernel
theorem dJ6_bitCount_0f7a4_45 : decode cJ6_bitCount_0f7a4 45 = .ok (.iushr, 1) := by decide +kernel
theorem dJ6_bitCount_0f7a4_46 : decode cJ6_bitCount_0f7a4 46 = .ok (.iadd, 1) := by decide +kernel
theorem dJ6_bitCount_0f7a4_47 : decode cJ6_bitCount_0f7a4 47 = .ok (.istore_n 0, 1) := by decide +kernel
theorem dJ6_bitCount_0f7a4_48 : decode cJ6_bitCount_0f7a4 48 = .ok (.iload_n 0, 1) := by decide +kernel
theorem dJ6_bitCount_0f7a4_49 : decode cJ6_bitCount_0f7a4 49 = .ok (.bipush 63, 2) := by decide +kernel
theorem dJ6_bitCount_0f7a4_51 : decode cJ6_bitCount_0f7a4 51 = .ok (.iand, 1) := by decide +kernel
theorem dJ6_bitCount_0f7a4_52 : decode cJ6_bitCount_0f7a4 52 = .ok (.ireturn, 1) := by decide +kernel
theorem dJ9_max_7cf53_0 : decode cJ9_max_7cf53 0 = .ok (.iload_n 0, 1) := by decide +kernel
theorem dJ9_max_7cf53_1 : decode cJ9_max_7cf53 1 = .ok (.iload_n 1, 1) := by decide +kernel
theorem dJ9_max_7cf53_2 : decode cJ9_max_7cf53 2 = .ok (.if_icmp .lt 7, 3) := by decide +kernel
theorem dJ9_max_7cf53_5 : decode cJ9_max_7cf53 5 = .ok (.iload_n 0, 1) := by decide +kernel
theorem dJ9_max_7cf53_6 : decode cJ9_max_7cf53 6 = .ok (.goto 4, 3) := by decide +kernel
theorem dJ9_max_7cf53_9 : decode cJ9_max_7cf53 9 = .ok (.iload_n 1, 1) := by decide +kernel
theorem dJ9_max_7cf53_10 : decode cJ9_max_7cf53 10 = .ok (.ireturn, 1) := by decide +kernel
theorem dJ9_min_7cf53_0 : decode cJ9_min_7cf53 0 = .ok (.iload_n 0, 1) := by decide +kernel
theorem dJ9_min_7cf53_1 : decode cJ9_min_7cf53 1 = .ok (.iload_n 1, 1) := by decide +kernel
theorem dJ9_min_7cf53_2 : decode cJ9_min_7cf53 2 = .ok (.if_icmp .gt 7, 3) := by decide +kernel
theorem dJ9_min_7cf53_5 : decode cJ9_min_7cf53 5 = .ok (.iload_n 0, 1) := by decide +kernel
theorem dJ9_min_7cf53_6 : decode cJ9_min_7cf53 6 = .ok (.goto 4, 3) := by decide +kernel
theorem dJ9_min_7cf53_9 : decode cJ9_min_7cf53 9 = .ok (.iload_n 1, 1) := by decide +kernel
theorem dJ9_min_7cf53_10 : decode cJ9_min_7cf53 10 = .ok (.ireturn, 1) := by decide +kernel
theorem dJ0_length_8abf5_0 : decode cJ0_length_8abf5 0 = .ok (.aload_n 0, 1) := by decide +kernel
theorem dJ0_length_8abf5_1 : decode cJ0_length_8abf5 1 = .ok (.getfield 9, 3) := by decide +kernel
theorem dJ0_length_8abf5_4 : decode cJ0_length_8abf5 4 = .ok (.arraylength, 1) := by decide +kernel
theorem dJ0_length_8abf5_5 : decode cJ0_length_8abf5 5 = .ok (.aload_n 0, 1) := by decide +kernel
theorem dJ0_length_8abf5_6 : decode cJ0_length_8abf5 6 = .ok (.invokevirtual 335, 3) := by decide +kernel
theorem dJ0_length_8abf5_9 : decode cJ0_length_8abf5 9 = .ok (.ishr, 1) := by decide +kernel
theorem dJ0_length_8abf5_10 : decode cJ0_length_8abf5 10 = .ok (.ireturn, 1) := by decide +kernel
theorem dJ0_indexOf_0f7a4_0 : decode cJ0_indexOf_0f7a4 0 = .ok (.aload_n 0, 1) := by decide +kernel
theorem dJ0_indexOf_0f7a4_1 : decode cJ0_indexOf_0f7a4 1 = .ok (.iload_n 1, 1) := by decide +kernel
theorem dJ0_indexOf_0f7a4_2 : decode cJ0_indexOf_0f7a4 2 = .ok (.iconst 0, 1) := by decide +kernel
theorem dJ0_indexOf_0f7a4_3 : decode cJ0_indexOf_0f7a4 3 = .ok (.invokevirtual 633, 3) := by decide +kernel
theorem dJ0_indexOf_0f7a4_6 : decode cJ0_indexOf_0f7a4 6 = .ok (.ireturn, 1) := by decide +kernel
theorem dJ0_indexOf_7cf53_0 : decode cJ0_indexOf_7cf53 0 = .ok (.aload_n 0, 1) := by decide +kernel
theorem dJ0_indexOf_7cf53_1 : decode cJ0_indexOf_7cf53 1 = .ok (.invokevirtual 492, 3) := by decide +kernel
theorem dJ0_indexOf_7cf53_4 : decode cJ0_indexOf_7cf53 4 = .ok (.ifCond .eq 19, 3) := by decide +kernel
theorem dJ0_indexOf_7cf53_7 : decode cJ0_indexOf_7cf53 7 = .ok (.aload_n 0, 1) := by decide +kernel
theorem dJ0_indexOf_7cf53_8 : decode cJ0_indexOf_7cf53 8 = .ok (.getfield 9, 3) := by decide +kernel
theorem dJ0_indexOf_7cf53_11 : decode cJ0_indexOf_7cf53 11 = .ok (.iload_n 1, 1) := by decide +kernel
theorem dJ0_indexOf_7cf53_12 : decode cJ0_indexOf_7cf53 12 = .ok (.iload_n 2, 1) := by decide +kernel
theorem dJ0_indexOf_7cf53_13 : decode cJ0_indexOf_7cf53 13 = .ok (.aload_n 0, 1) := by decide +kernel
theorem dJ0_indexOf_7cf53_14 : decode cJ0_indexOf_7cf53 14 = .ok (.invokevirtual 505, 3) := by decide +kernel
theorem dJ0_indexOf_7cf53_17 : decode cJ0_indexOf_7cf53 17 = .ok (.invokestatic 637, 3) := by decide +kernel
theorem dJ0_indexOf_7cf53_20 : decode cJ0_indexOf_7cf53 20 = .ok (.goto 16, 3) := by decide +kernel
theorem dJ0_indexOf_7cf53_23 : decode cJ0_indexOf_7cf53 23 = .ok (.aload_n 0, 1) := by decide +kernel
theorem dJ0_indexOf_7cf53_24 : decode cJ0_indexOf_7cf53 24 = .ok (.getfield 9, 3) := by decide +kernel
theorem dJ0_indexOf_7cf53_27 : decode cJ0_indexOf_7cf53 27 = .ok (.iload_n 1, 1) := by decide +kernel
theorem dJ0_indexOf_7cf53_28 : decode cJ0_indexOf_7cf53 28 = .ok (.iload_n 2, 1) := by decide +kernel
theorem dJ0_indexOf_7cf53_29 : decode cJ0_indexOf_7cf53 29 = .ok (.aload_n 0, 1) := by decide +kernel
theorem dJ0_indexOf_7cf53_30 : decode cJ0_indexOf_7cf53 30 = .ok (.invokevirtual 505, 3) := by decide +kernel
theorem dJ0_indexOf_7cf53_33 : decode cJ0_indexOf_7cf53 33 = .ok (.invokestatic 640, 3) := by decide +kernel
theorem dJ0_indexOf_7cf53_36 : decode cJ0_indexOf_7cf53 36 = .ok (.ireturn, 1) := by decide +kernel
theorem dJ0_coder_7d493_0 : decode cJ0_coder_7d493 0 = .ok (.getstatic 38, 3) := by decide +kernel
theorem dJ0_coder_7d493_3 : decode cJ0_coder_7d493 3 = .ok (.ifCond .eq 10, 3) := by decide +kernel
theorem dJ0_coder_7d493_6 : decode cJ0_coder_7d493 6 = .ok (.aload_n 0, 1) := by decide +kernel
theorem dJ0_coder_7d493_7 : decode cJ0_coder_7d493 7 = .ok (.getfield 15, 3) := by decide +kernel
theorem dJ0_coder_7d493_10 : decode cJ0_coder_7d493 10 = .ok (.goto 4, 3) := by decide +kernel
theorem dJ0_coder_7d493_13 : decode cJ0_coder_7d493 13 = .ok (.iconst 1, 1) := by decide +kernel
theorem dJ0_coder_7d493_14 : decode cJ0_coder_7d493 14 = .ok (.ireturn, 1) := by decide +kernel
theorem dJ0_isLatin1_aae02_0 : decode cJ0_isLatin1_aae02 0 = .ok (.getstatic 38, 3) := by decide +kernel
theorem dJ0_isLatin1_aae02_3 : decode cJ0_isLatin1_aae02 3 = .ok (.ifCond .eq 14, 3) := by decide +kernel
theorem dJ0_isLatin1_aae02_6 : decode cJ0_isLatin1_aae02 6 = .ok (.aload_n 0, 1) := by decide +kernel
theorem dJ0_isLatin1_aae02_7 : decode cJ0_isLatin1_aae02 7 = .ok (.getfield 15, 3) := by decide +kernel
theorem dJ0_isLatin1_aae02_10 : decode cJ0_isLatin1_aae02 10 = .ok (.ifCond .ne 7, 3) := by decide +kernel
theorem dJ0_isLatin1_aae02_13 : decode cJ0_isLatin1_aae02 13 = .ok (.iconst 1, 1) := by decide +kernel
theorem dJ0_isLatin1_aae02_14 : decode cJ0_isLatin1_aae02 14 = .ok (.goto 4, 3) := by decide +kernel
theorem dJ0_isLatin1_aae02_17 : decode cJ0_isLatin1_aae02 17 = .ok (.iconst 0, 1) := by decide +kernel
theorem dJ0_isLatin1_aae02_18 : decode cJ0_isLatin1_aae02 18 = .ok (.ireturn, 1) := by decide +kernel
theorem dJ0_checkBoundsBeginEnd_23922_0 : decode cJ0_checkBoundsBeginEnd_23922 0 = .ok (.iload_n 0, 1) := by decide +kernel
theorem dJ0_checkBoundsBeginEnd_23922_1 : decode cJ0_checkBoundsBeginEnd_23922 1 = .ok (.iload_n 1, 1) := by decide +kernel
theorem dJ0_checkBoundsBeginEnd_23922_2 : decode cJ0_checkBoundsBeginEnd_23922 2 = .ok (.iload_n 2, 1) := by decide +kernel
theorem dJ0_checkBoundsBeginEnd_23922_3 : decode cJ0_checkBoundsBeginEnd_23922 3 = .ok (.getstatic 1053, 3) := by decide +kernel
theorem dJ0_checkBoundsBeginEnd_23922_6 : decode cJ0_checkBoundsBeginEnd_23922 6 = .ok (.invokestatic 1062, 3) := by decide +kernel
theorem dJ0_checkBoundsBeginEnd_23922_9 : decode cJ0_checkBoundsBeginEnd_23922 9 = .ok (.pop, 1) := by decide +kernel
theorem dJ0_checkBoundsBeginEnd_23922_10 : decode cJ0_checkBoundsBeginEnd_23922 10 = .ok (.return_, 1) := by decide +kernel
theorem dJ1_canEncode_9a6ad_0 : decode cJ1_canEncode_9a6ad 0 = .ok (.iload_n 0, 1) := by decide +kernel
theorem dJ1_canEncode_9a6ad_1 : decode cJ1_canEncode_9a6ad 1 = .ok (.ifCond .lt 14, 3) := by decide +kernel
theorem dJ1_canEncode_9a6ad_4 : decode cJ1_canEncode_9a6ad 4 = .ok (.iload_n 0, 1) := by decide +kernel
theorem dJ1_canEncode_9a6ad_5 : decode cJ1_canEncode_9a6ad 5 = .ok (.sipush 255, 3) := by decide +kernel
theorem dJ1_canEncode_9a6ad_8 : decode cJ1_canEncode_9a6ad 8 = .ok (.if_icmp .gt 7, 3) := by decide +kernel
theorem dJ1_canEncode_9a6ad_11 : decode cJ1_canEncode_9a6ad 11 = .ok (.iconst 1, 1) := by decide +kernel
theorem dJ1_canEncode_9a6ad_12 : decode cJ1_canEncode_9a6ad 12 = .ok (.goto 4, 3) := by decide +kernel
theorem dJ1_canEncode_9a6ad_15 : decode cJ1_canEncode_9a6ad 15 = .ok (.iconst 0, 1) := by decide +kernel
theorem dJ1_canEncode_9a6ad_16 : decode cJ1_canEncode_9a6ad 16 = .ok (.ireturn, 1) := by decide +kernel
theorem dJ1_indexOf_4cfef_0 : decode cJ1_indexOf_4cfef 0 = .ok (.iload_n 1, 1) := by decide +kernel
theorem dJ1_indexOf_4cfef_1 : decode cJ1_indexOf_4cfef 1 = .ok (.invokestatic 88, 3) := by decide +kernel
theorem dJ1_indexOf_4cfef_4 : decode cJ1_indexOf_4cfef 4 = .ok (.ifCond .ne 5, 3) := by decide +kernel
theorem dJ1_indexOf_4cfef_7 : decode cJ1_indexOf_4cfef 7 = .ok (.iconst (-1), 1) := by decide +kernel
theorem dJ1_indexOf_4cfef_8 : decode cJ1_indexOf_4cfef 8 = .ok (.ireturn, 1) := by decide +kernel
theorem dJ1_indexOf_4cfef_9 : decode cJ1_indexOf_4cfef 9 = .ok (.iload_n 2, 1) := by decide +kernel
theorem dJ1_indexOf_4cfef_10 : decode cJ1_indexOf_4cfef 10 = .ok (.iconst 0, 1) := by decide +kernel
theorem dJ1_indexOf_4cfef_11 : decode cJ1_indexOf_4cfef 11 = .ok (.invokestatic 92, 3) := by decide +kernel
theorem dJ1_indexOf_4cfef_14 : decode cJ1_indexOf_4cfef 14 = .ok (.istore_n 2, 1) := by decide +kernel
theorem dJ1_indexOf_4cfef_15 : decode cJ1_indexOf_4cfef 15 = .ok (.iload_n 3, 1) := by decide +kernel
theorem dJ1_indexOf_4cfef_16 : decode cJ1_indexOf_4cfef 16 = .ok (.aload_n 0, 1) := by decide +kernel
theorem dJ1_indexOf_4cfef_17 : decode cJ1_indexOf_4cfef 17 = .ok (.arraylength, 1) := by decide +kernel
theorem dJ1_indexOf_4cfef_18 : decode cJ1_indexOf_4cfef 18 = .ok (.invokestatic 38, 3) := by decide +kernel
theorem dJ1_indexOf_4cfef_21 : decode cJ1_indexOf_4cfef 21 = .ok (.istore_n 3, 1) := by decide +kernel
theorem dJ1_indexOf_4cfef_22 : decode cJ1_indexOf_4cfef 22 = .ok (.iload_n 2, 1) := by decide +kernel
theorem dJ1_indexOf_4cfef_23 : decode cJ1_indexOf_4cfef 23 = .ok (.iload_n 3, 1) := by decide +kernel
theorem dJ1_indexOf_4cfef_24 : decode cJ1_indexOf_4cfef 24 = .ok (.if_icmp .lt 5, 3) := by decide +kernel
theorem dJ1_indexOf_4cfef_27 : decode cJ1_indexOf_4cfef 27 = .ok (.iconst (-1), 1) := by decide +kernel
theorem dJ1_indexOf_4cfef_28 : decode cJ1_indexOf_4cfef 28 = .ok (.ireturn, 1) := by decide +kernel
theorem dJ1_indexOf_4cfef_29 : decode cJ1_indexOf_4cfef 29 = .ok (.aload_n 0, 1) := by decide +kernel
theorem dJ1_indexOf_4cfef_30 : decode cJ1_indexOf_4cfef 30 = .ok (.iload_n 1, 1) := by decide +kernel
theorem dJ1_indexOf_4cfef_31 : decode cJ1_indexOf_4cfef 31 = .ok (.iload_n 2, 1) := by decide +kernel
theorem dJ1_indexOf_4cfef_32 : decode cJ1_indexOf_4cfef 32 = .ok (.iload_n 3, 1) := by decide +kernel
theorem dJ1_indexOf_4cfef_33 : decode cJ1_indexOf_4cfef 33 = .ok (.invokestatic 95, 3) := by decide +kernel
theorem dJ1_indexOf_4cfef_36 : decode cJ1_indexOf_4cfef 36 = .ok (.ireturn, 1) := by decide +kernel
theorem dJ1_indexOfChar_4cfef_0 : decode cJ1_indexOfChar_4cfef 0 = .ok (.iload_n 1, 1) := by decide +kernel
theorem dJ1_indexOfChar_4cfef_1 : decode cJ1_indexOfChar_4cfef 1 = .ok (.i2b, 1) := by decide +kernel
theorem dJ1_indexOfChar_4cfef_2 : decode cJ1_indexOfChar_4cfef 2 = .ok (.istore 4, 2) := by decide +kernel
theorem dJ1_indexOfChar_4cfef_4 : decode cJ1_indexOfChar_4cfef 4 = .ok (.iload_n 2, 1) := by decide +kernel
theorem dJ1_indexOfChar_4cfef_5 : decode cJ1_indexOfChar_4cfef 5 = .ok (.istore 5, 2) := by decide +kernel
theorem dJ1_indexOfChar_4cfef_7 : decode cJ1_indexOfChar_4cfef 7 = .ok (.iload 5, 2) := by decide +kernel
theorem dJ1_indexOfChar_4cfef_9 : decode cJ1_indexOfChar_4cfef 9 = .ok (.iload_n 3, 1) := by decide +kernel
theorem dJ1_indexOfChar_4cfef_10 : decode cJ1_indexOfChar_4cfef 10 = .ok (.if_icmp .ge 21, 3) := by decide +kernel
theorem dJ1_indexOfChar_4cfef_13 : decode cJ1_indexOfChar_4cfef 13 = .ok (.aload_n 0, 1) := by decide +kernel
theorem dJ1_indexOfChar_4cfef_14 : decode cJ1_indexOfChar_4cfef 14 = .ok (.iload 5, 2) := by decide +kernel
theorem dJ1_indexOfChar_4cfef_16 : decode cJ1_indexOfChar_4cfef 16 = .ok (.baload, 1) := by decide +kernel
theorem dJ1_indexOfChar_4cfef_17 : decode cJ1_indexOfChar_4cfef 17 = .ok (.iload 4, 2) := by decide +kernel
theorem dJ1_indexOfChar_4cfef_19 : decode cJ1_indexOfChar_4cfef 19 = .ok (.if_icmp .ne 6, 3) := by decide +kernel
theorem dJ1_indexOfChar_4cfef_22 : decode cJ1_indexOfChar_4cfef 22 = .ok (.iload 5, 2) := by decide +kernel
theorem dJ1_indexOfChar_4cfef_24 : decode cJ1_indexOfChar_4cfef 24 = .ok (.ireturn, 1) := by decide +kernel
theorem dJ1_indexOfChar_4cfef_25 : decode cJ1_indexOfChar_4cfef 25 = .ok (.iinc 5 1, 3) := by decide +kernel
theorem dJ1_indexOfChar_4cfef_28 : decode cJ1_indexOfChar_4cfef 28 = .ok (.goto (-21), 3) := by decide +kernel
theorem dJ1_indexOfChar_4cfef_31 : decode cJ1_indexOfChar_4cfef 31 = .ok (.iconst (-1), 1) := by decide +kernel
theorem dJ1_indexOfChar_4cfef_32 : decode cJ1_indexOfChar_4cfef 32 = .ok (.ireturn, 1) := by decide +kernel
theorem dJ2_getChar_3b067_0 : decode cJ2_getChar_3b067 0 = .ok (.getstatic 44, 3) := by decide +kernel
theorem dJ2_getChar_3b067_3 : decode cJ2_getChar_3b067 3 = .ok (.ifCond .ne 25, 3) := by decide +kernel
theorem dJ2_getChar_3b067_6 : decode cJ2_getChar_3b067 6 = .ok (.iload_n 1, 1) := by decide +kernel
theorem dJ2_getChar_3b067_7 : decode cJ2_getChar_3b067 7 = .ok (.ifCond .lt 11, 3) := by decide +kernel
theorem dJ2_getChar_3b067_10 : decode cJ2_getChar_3b067 10 = .ok (.iload_n 1, 1) := by decide +kernel
theorem dJ2_getChar_3b067_11 : decode cJ2_getChar_3b067 11 = .ok (.aload_n 0, 1) := by decide +kernel
theorem dJ2_getChar_3b067_12 : decode cJ2_getChar_3b067 12 = .ok (.invokestatic 48, 3) := by decide +kernel
theorem dJ2_getChar_3b067_15 : decode cJ2_getChar_3b067 15 = .ok (.if_icmp .lt 13, 3) := by decide +kernel
theorem dJ2_getChar_3b067_18 : decode cJ2_getChar_3b067 18 = .ok (.new 52, 3) := by decide +kernel
theorem dJ2_getChar_3b067_21 : decode cJ2_getChar_3b067 21 = .ok (.dup, 1) := by decide +kernel
theorem dJ2_getChar_3b067_22 : decode cJ2_getChar_3b067 22 = .ok (.ldc 54, 2) := by decide +kernel
theorem dJ2_getChar_3b067_24 : decode cJ2_getChar_3b067 24 = .ok (.invokespecial 56, 3) := by decide +kernel
theorem dJ2_getChar_3b067_27 : decode cJ2_getChar_3b067 27 = .ok (.athrow, 1) := by decide +kernel
theorem dJ2_getChar_3b067_28 : decode cJ2_getChar_3b067 28 = .ok (.iload_n 1, 1) := by decide +kernel
theorem dJ2_getChar_3b067_29 : decode cJ2_getChar_3b067 29 = .ok (.iconst 1, 1) := by decide +kernel
theorem dJ2_getChar_3b067_30 : decode cJ2_getChar_3b067 30 = .ok (.ishl, 1) := by decide +kernel
theorem dJ2_getChar_3b067_31 : decode cJ2_getChar_3b067 31 = .ok (.istore_n 1, 1) := by decide +kernel
theorem dJ2_getChar_3b067_32 : decode cJ2_getChar_3b067 32 = .ok (.aload_n 0, 1) := by decide +kernel
theorem dJ2_getChar_3b067_33 : decode cJ2_getChar_3b067 33 = .ok (.iload_n 1, 1) := by decide +kernel
theorem dJ2_getChar_3b067_34 : decode cJ2_getChar_3b067 34 = .ok (.iinc 1 1, 3) := by decide +kernel
theorem dJ2_getChar_3b067_37 : decode cJ2_getChar_3b067 37 = .ok (.baload, 1) := by decide +kernel
theorem dJ2_getChar_3b067_38 : decode cJ2_getChar_3b067 38 = .ok (.sipush 255, 3) := by decide +kernel
theorem dJ2_getChar_3b067_41 : decode cJ2_getChar_3b067 41 = .ok (.iand, 1) := by decide +kernel
theorem dJ2_getChar_3b067_42 : decode cJ2_getChar_3b067 42 = .ok (.getstatic 59, 3) := by decide +kernel
theorem dJ2_getChar_3b067_45 : decode cJ2_getChar_3b067 45 = .ok (.ishl, 1) := by decide +kernel
theorem dJ2_getChar_3b067_46 : decode cJ2_getChar_3b067 46 = .ok (.aload_n 0, 1) := by decide +kernel
theorem dJ2_getChar_3b067_47 : decode cJ2_getChar_3b067 47 = .ok (.iload_n 1, 1) := by decide +kernel
theorem dJ2_getChar_3b067_48 : decode cJ2_getChar_3b067 48 = .ok (.baload, 1) := by decide +kernel
theorem dJ2_getChar_3b067_49 : decode cJ2_getChar_3b067 49 = .ok (.sipush 255, 3) := by decide +kernel
theorem dJ2_getChar_3b067_52 : decode cJ2_getChar_3b067 52 = .ok (.iand, 1) := by decide +kernel
theorem dJ2_getChar_3b067_53 : decode cJ2_getChar_3b067 53 = .ok (.getstatic 63, 3) := by decide +kernel
theorem dJ2_getChar_3b067_56 : decode cJ2_getChar_3b067 56 = .ok (.ishl, 1) := by decide +kernel
theorem dJ2_getChar_3b067_57 : decode cJ2_getChar_3b067 57 = .ok (.ior, 1) := by decide +kernel
theorem dJ2_getChar_3b067_58 : decode cJ2_getChar_3b067 58 = .ok (.i2c, 1) := by decide +kernel
theorem dJ2_getChar_3b067_59 : decode cJ2_getChar_3b067 59 = .ok (.ireturn, 1) := by decide +kernel
theorem dJ2_length_9d52b_0 : decode cJ2_length_9d52b 0 = .ok (.aload_n 0, 1) := by decide +kernel
theorem dJ2_length_9d52b_1 : decode cJ2_length_9d52b 1 = .ok (.arraylength, 1) := by decide +kernel
theorem dJ2_length_9d52b_2 : decode cJ2_length_9d52b 2 = .ok (.iconst 1, 1) := by decide +kernel
theorem dJ2_length_9d52b_3 : decode cJ2_length_9d52b 3 = .ok (.ishr, 1) := by decide +kernel
theorem dJ2_length_9d52b_4 : decode cJ2_length_9d52b 4 = .ok (.ireturn, 1) := by decide +kernel
theorem dJ2_indexOf_4cfef_0 : decode cJ2_indexOf_4cfef 0 = .ok (.iload_n 2, 1) := by decide +kernel
theorem dJ2_indexOf_4cfef_1 : decode cJ2_indexOf_4cfef 1 = .ok (.iconst 0, 1) := by decide +kernel
theorem dJ2_indexOf_4cfef_2 : decode cJ2_indexOf_4cfef 2 = .ok (.invokestatic 224, 3) := by decide +kernel
theorem dJ2_indexOf_4cfef_5 : decode cJ2_indexOf_4cfef 5 = .ok (.istore_n 2, 1) := by decide +kernel
theorem dJ2_indexOf_4cfef_6 : decode cJ2_indexOf_4cfef 6 = .ok (.iload_n 3, 1) := by decide +kernel
theorem dJ2_indexOf_4cfef_7 : decode cJ2_indexOf_4cfef 7 = .ok (.aload_n 0, 1) := by decide +kernel
theorem dJ2_indexOf_4cfef_8 : decode cJ2_indexOf_4cfef 8 = .ok (.arraylength, 1) := by decide +kernel
theorem dJ2_indexOf_4cfef_9 : decode cJ2_indexOf_4cfef 9 = .ok (.iconst 1, 1) := by decide +kernel
theorem dJ2_indexOf_4cfef_10 : decode cJ2_indexOf_4cfef 10 = .ok (.ishr, 1) := by decide +kernel
theorem dJ2_indexOf_4cfef_11 : decode cJ2_indexOf_4cfef 11 = .ok (.invokestatic 183, 3) := by decide +kernel
theorem dJ2_indexOf_4cfef_14 : decode cJ2_indexOf_4cfef 14 = .ok (.istore_n 3, 1) := by decide +kernel
theorem dJ2_indexOf_4cfef_15 : decode cJ2_indexOf_4cfef 15 = .ok (.iload_n 2, 1) := by decide +kernel
theorem dJ2_indexOf_4cfef_16 : decode cJ2_indexOf_4cfef 16 = .ok (.iload_n 3, 1) := by decide +kernel
theorem dJ2_indexOf_4cfef_17 : decode cJ2_indexOf_4cfef 17 = .ok (.if_icmp .lt 5, 3) := by decide +kernel
theorem dJ2_indexOf_4cfef_20 : decode cJ2_indexOf_4cfef 20 = .ok (.iconst (-1), 1) := by decide +kernel
theorem dJ2_indexOf_4cfef_21 : decode cJ2_indexOf_4cfef 21 = .ok (.ireturn, 1) := by decide +kernel
theorem dJ2_indexOf_4cfef_22 : decode cJ2_indexOf_4cfef 22 = .ok (.iload_n 1, 1) := by decide +kernel
theorem dJ2_indexOf_4cfef_23 : decode cJ2_indexOf_4cfef 23 = .ok (.ldc 227, 2) := by decide +kernel
theorem dJ2_indexOf_4cfef_25 : decode cJ2_indexOf_4cfef 25 = .ok (.if_icmp .ge 11, 3) := by decide +kernel
theorem dJ2_indexOf_4cfef_28 : decode cJ2_indexOf_4cfef 28 = .ok (.aload_n 0, 1) := by decide +kernel
theorem dJ2_indexOf_4cfef_29 : decode cJ2_indexOf_4cfef 29 = .ok (.iload_n 1, 1) := by decide +kernel
theorem dJ2_indexOf_4cfef_30 : decode cJ2_indexOf_4cfef 30 = .ok (.iload_n 2, 1) := by decide +kernel
theorem dJ2_indexOf_4cfef_31 : decode cJ2_indexOf_4cfef 31 = .ok (.iload_n 3, 1) := by decide +kernel
theorem dJ2_indexOf_4cfef_32 : decode cJ2_indexOf_4cfef 32 = .ok (.invokestatic 228, 3) := by decide +kernel
theorem dJ2_indexOf_4cfef_35 : decode cJ2_indexOf_4cfef 35 = .ok (.ireturn, 1) := by decide +kernel
theorem dJ2_indexOf_4cfef_36 : decode cJ2_indexOf_4cfef 36 = .ok (.aload_n 0, 1) := by decide +kernel
theorem dJ2_indexOf_4cfef_37 : decode cJ2_indexOf_4cfef 37 = .ok (.iload_n 1, 1) := by decide +kernel
theorem dJ2_indexOf_4cfef_38 : decode cJ2_indexOf_4cfef 38 = .ok (.iload_n 2, 1) := by decide +kernel
theorem dJ2_indexOf_4cfef_39 : decode cJ2_indexOf_4cfef 39 = .ok (.iload_n 3, 1) := by decide +kernel
theorem dJ2_indexOf_4cfef_40 : decode cJ2_indexOf_4cfef 40 = .ok (.invokestatic 232, 3) := by decide +kernel
theorem dJ2_indexOf_4cfef_43 : decode cJ2_indexOf_4cfef 43 = .ok (.ireturn, 1) := by decide +kernel
theorem dJ2_indexOfChar_4cfef_0 : decode cJ2_indexOfChar_4cfef 0 = .ok (.iload_n 2, 1) := by decide +kernel
theorem dJ2_indexOfChar_4cfef_1 : decode cJ2_indexOfChar_4cfef 1 = .ok (.iload_n 3, 1) := by decide +kernel
theorem dJ2_indexOfChar_4cfef_2 : decode cJ2_indexOfChar_4cfef 2 = .ok (.aload_n 0, 1) := by decide +kernel
theorem dJ2_indexOfChar_4cfef_3 : decode cJ2_indexOfChar_4cfef 3 = .ok (.invokestatic 96, 3) := by decide +kernel
theorem dJ2_indexOfChar_4cfef_6 : decode cJ2_indexOfChar_4cfef 6 = .ok (.aload_n 0, 1) := by decide +kernel
theorem dJ2_indexOfChar_4cfef_7 : decode cJ2_indexOfChar_4cfef 7 = .ok (.iload_n 1, 1) := by decide +kernel
theorem dJ2_indexOfChar_4cfef_8 : decode cJ2_indexOfChar_4cfef 8 = .ok (.iload_n 2, 1) := by decide +kernel
theorem dJ2_indexOfChar_4cfef_9 : decode cJ2_indexOfChar_4cfef 9 = .ok (.iload_n 3, 1) := by decide +kernel
theorem dJ2_indexOfChar_4cfef_10 : decode cJ2_indexOfChar_4cfef 10 = .ok (.invokestatic 244, 3) := by decide +kernel
theorem dJ2_indexOfChar_4cfef_13 : decode cJ2_indexOfChar_4cfef 13 = .ok (.ireturn, 1) := by decide +kernel
theorem dJ2_indexOfCharUnsafe_4cfef_0 : decode cJ2_indexOfCharUnsafe_4cfef 0 = .ok (.iload_n 2, 1) := by decide +kernel
theorem dJ2_indexOfCharUnsafe_4cfef_1 : decode cJ2_indexOfCharUnsafe_4cfef 1 = .ok (.istore 4, 2) := by decide +kernel
theorem dJ2_indexOfCharUnsafe_4cfef_3 : decode cJ2_indexOfCharUnsafe_4cfef 3 = .ok (.iload 4, 2) := by decide +kernel
theorem dJ2_indexOfCharUnsafe_4cfef_5 : decode cJ2_indexOfCharUnsafe_4cfef 5 = .ok (.iload_n 3, 1) := by decide +kernel
theorem dJ2_indexOfCharUnsafe_4cfef_6 : decode cJ2_indexOfCharUnsafe_4cfef 6 = .ok (.if_icmp .ge 22, 3) := by decide +kernel
theorem dJ2_indexOfCharUnsafe_4cfef_9 : decode cJ2_indexOfCharUnsafe_4cfef 9 = .ok (.aload_n 0, 1) := by decide +kernel
theorem dJ2_indexOfCharUnsafe_4cfef_10 : decode cJ2_indexOfCharUnsafe_4cfef 10 = .ok (.iload 4, 2) := by decide +kernel
theorem dJ2_indexOfCharUnsafe_4cfef_12 : decode cJ2_indexOfCharUnsafe_4cfef 12 = .ok (.invokestatic 71, 3) := by decide +kernel
theorem dJ2_indexOfCharUnsafe_4cfef_15 : decode cJ2_indexOfCharUnsafe_4cfef 15 = .ok (.iload_n 1, 1) := by decide +kernel
theorem dJ2_indexOfCharUnsafe_4cfef_16 : decode cJ2_indexOfCharUnsafe_4cfef 16 = .ok (.if_icmp .ne 6, 3) := by decide +kernel
theorem dJ2_indexOfCharUnsafe_4cfef_19 : decode cJ2_indexOfCharUnsafe_4cfef 19 = .ok (.iload 4, 2) := by decide +kernel
theorem dJ2_indexOfCharUnsafe_4cfef_21 : decode cJ2_indexOfCharUnsafe_4cfef 21 = .ok (.ireturn, 1) := by decide +kernel
theorem dJ2_indexOfCharUnsafe_4cfef_22 : decode cJ2_indexOfCharUnsafe_4cfef 22 = .ok (.iinc 4 1, 3) := by decide +kernel
theorem dJ2_indexOfCharUnsafe_4cfef_25 : decode cJ2_indexOfCharUnsafe_4cfef 25 = .ok (.goto (-22), 3) := by decide +kernel
theorem dJ2_indexOfCharUnsafe_4cfef_28 : decode cJ2_indexOfCharUnsafe_4cfef 28 = .ok (.iconst (-1), 1) := by decide +kernel
theorem dJ2_indexOfCharUnsafe_4cfef_29 : decode cJ2_indexOfCharUnsafe_4cfef 29 = .ok (.ireturn, 1) := by decide +kernel
theorem dJ2_indexOfSupplementary_4cfef_0 : decode cJ2_indexOfSupplementary_4cfef 0 = .ok (.iload_n 1, 1) := by decide +kernel
theorem dJ2_indexOfSupplementary_4cfef_1 : decode cJ2_indexOfSupplementary_4cfef 1 = .ok (.invokestatic 164, 3) := by decide +kernel
theorem dJ2_indexOfSupplementary_4cfef_4 : decode cJ2_indexOfSupplementary_4cfef 4 = .ok (.ifCond .eq 65, 3) := by decide +kernel
theorem dJ2_indexOfSupplementary_4cfef_7 : decode cJ2_indexOfSupplementary_4cfef 7 = .ok (.iload_n 1, 1) := by decide +kernel
theorem dJ2_indexOfSupplementary_4cfef_8 : decode cJ2_indexOfSupplementary_4cfef 8 = .ok (.invokestatic 157, 3) := by decide +kernel
theorem dJ2_indexOfSupplementary_4cfef_11 : decode cJ2_indexOfSupplementary_4cfef 11 = .ok (.istore 4, 2) := by decide +kernel
theorem dJ2_indexOfSupplementary_4cfef_13 : decode cJ2_indexOfSupplementary_4cfef 13 = .ok (.iload_n 1, 1) := by decide +kernel
theorem dJ2_indexOfSupplementary_4cfef_14 : decode cJ2_indexOfSupplementary_4cfef 14 = .ok (.invokestatic 161, 3) := by decide +kernel
theorem dJ2_indexOfSupplementary_4cfef_17 : decode cJ2_indexOfSupplementary_4cfef 17 = .ok (.istore 5, 2) := by decide +kernel
theorem dJ2_indexOfSupplementary_4cfef_19 : decode cJ2_indexOfSupplementary_4cfef 19 = .ok (.iload_n 2, 1) := by decide +kernel
theorem dJ2_indexOfSupplementary_4cfef_20 : decode cJ2_indexOfSupplementary_4cfef 20 = .ok (.iload_n 3, 1) := by decide +kernel
theorem dJ2_indexOfSupplementary_4cfef_21 : decode cJ2_indexOfSupplementary_4cfef 21 = .ok (.aload_n 0, 1) := by decide +kernel
theorem dJ2_indexOfSupplementary_4cfef_22 : decode cJ2_indexOfSupplementary_4cfef 22 = .ok (.invokestatic 96, 3) := by decide +kernel
theorem dJ2_indexOfSupplementary_4cfef_25 : decode cJ2_indexOfSupplementary_4cfef 25 = .ok (.iload_n 2, 1) := by decide +kernel
theorem dJ2_indexOfSupplementary_4cfef_26 : decode cJ2_indexOfSupplementary_4cfef 26 = .ok (.istore 6, 2) := by decide +kernel
theorem dJ2_indexOfSupplementary_4cfef_28 : decode cJ2_indexOfSupplementary_4cfef 28 = .ok (.iload 6, 2) := by decide +kernel
theorem dJ2_indexOfSupplementary_4cfef_30 : decode cJ2_indexOfSupplementary_4cfef 30 = .ok (.iload_n 3, 1) := by decide +kernel
theorem dJ2_indexOfSupplementary_4cfef_31 : decode cJ2_indexOfSupplementary_4cfef 31 = .ok (.iconst 1, 1) := by decide +kernel
theorem dJ2_indexOfSupplementary_4cfef_32 : decode cJ2_indexOfSupplementary_4cfef 32 = .ok (.isub, 1) := by decide +kernel
theorem dJ2_indexOfSupplementary_4cfef_33 : decode cJ2_indexOfSupplementary_4cfef 33 = .ok (.if_icmp .ge 36, 3) := by decide +kernel
theorem dJ2_indexOfSupplementary_4cfef_36 : decode cJ2_indexOfSupplementary_4cfef 36 = .ok (.aload_n 0, 1) := by decide +kernel
theorem dJ2_indexOfSupplementary_4cfef_37 : decode cJ2_indexOfSupplementary_4cfef 37 = .ok (.iload 6, 2) := by decide +kernel
theorem dJ2_indexOfSupplementary_4cfef_39 : decode cJ2_indexOfSupplementary_4cfef 39 = .ok (.invokestatic 71, 3) := by decide +kernel
theorem dJ2_indexOfSupplementary_4cfef_42 : decode cJ2_indexOfSupplementary_4cfef 42 = .ok (.iload 4, 2) := by decide +kernel
theorem dJ2_indexOfSupplementary_4cfef_44 : decode cJ2_indexOfSupplementary_4cfef 44 = .ok (.if_icmp .ne 19, 3) := by decide +kernel
theorem dJ2_indexOfSupplementary_4cfef_47 : decode cJ2_indexOfSupplementary_4cfef 47 = .ok (.aload_n 0, 1) := by decide +kernel
theorem dJ2_indexOfSupplementary_4cfef_48 : decode cJ2_indexOfSupplementary_4cfef 48 = .ok (.iload 6, 2) := by decide +kernel
theorem dJ2_indexOfSupplementary_4cfef_50 : decode cJ2_indexOfSupplementary_4cfef 50 = .ok (.iconst 1, 1) := by decide +kernel
theorem dJ2_indexOfSupplementary_4cfef_51 : decode cJ2_indexOfSupplementary_4cfef 51 = .ok (.iadd, 1) := by decide +kernel
theorem dJ2_indexOfSupplementary_4cfef_52 : decode cJ2_indexOfSupplementary_4cfef 52 = .ok (.invokestatic 71, 3) := by decide +kernel
theorem dJ2_indexOfSupplementary_4cfef_55 : decode cJ2_indexOfSupplementary_4cfef 55 = .ok (.iload 5, 2) := by decide +kernel
theorem dJ2_indexOfSupplementary_4cfef_57 : decode cJ2_indexOfSupplementary_4cfef 57 = .ok (.if_icmp .ne 6, 3) := by decide +kernel
theorem dJ2_indexOfSupplementary_4cfef_60 : decode cJ2_indexOfSupplementary_4cfef 60 = .ok (.iload 6, 2) := by decide +kernel
theorem dJ2_indexOfSupplementary_4cfef_62 : decode cJ2_indexOfSupplementary_4cfef 62 = .ok (.ireturn, 1) := by decide +kernel
theorem dJ2_indexOfSupplementary_4cfef_63 : decode cJ2_indexOfSupplementary_4cfef 63 = .ok (.iinc 6 1, 3) := by decide +kernel
theorem dJ2_indexOfSupplementary_4cfef_66 : decode cJ2_indexOfSupplementary_4cfef 66 = .ok (.goto (-38), 3) := by decide +kernel
theorem dJ2_indexOfSupplementary_4cfef_69 : decode cJ2_indexOfSupplementary_4cfef 69 = .ok (.iconst (-1), 1) := by decide +kernel
theorem dJ2_indexOfSupplementary_4cfef_70 : decode cJ2_indexOfSupplementary_4cfef 70 = .ok (.ireturn, 1) := by decide +kernel
theorem dJ2_checkBoundsBeginEnd_d044e_0 : decode cJ2_checkBoundsBeginEnd_d044e 0 = .ok (.iload_n 0, 1) := by decide +kernel
theorem dJ2_checkBoundsBeginEnd_d044e_1 : decode cJ2_checkBoundsBeginEnd_d044e 1 = .ok (.iload_n 1, 1) := by decide +kernel
theorem dJ2_checkBoundsBeginEnd_d044e_2 : decode cJ2_checkBoundsBeginEnd_d044e 2 = .ok (.aload_n 2, 1) := by decide +kernel
theorem dJ2_checkBoundsBeginEnd_d044e_3 : decode cJ2_checkBoundsBeginEnd_d044e 3 = .ok (.invokestatic 48, 3) := by decide +kernel
theorem dJ2_checkBoundsBeginEnd_d044e_6 : decode cJ2_checkBoundsBeginEnd_d044e 6 = .ok (.invokestatic 241, 3) := by decide +kernel
theorem dJ2_checkBoundsBeginEnd_d044e_9 : decode cJ2_checkBoundsBeginEnd_d044e 9 = .ok (.return_, 1) := by decide +kernel
theorem dJ3_checkFromToIndex_8c36e_0 : decode cJ3_checkFromToIndex_8c36e 0 = .ok (.iload_n 0, 1) := by decide +kernel
theorem dJ3_checkFromToIndex_8c36e_1 : decode cJ3_checkFromToIndex_8c36e 1 = .ok (.ifCond .lt 13, 3) := by decide +kernel
theorem dJ3_checkFromToIndex_8c36e_4 : decode cJ3_checkFromToIndex_8c36e 4 = .ok (.iload_n 0, 1) := by decide +kernel
theorem dJ3_checkFromToIndex_8c36e_5 : decode cJ3_checkFromToIndex_8c36e 5 = .ok (.iload_n 1, 1) := by decide +kernel
theorem dJ3_checkFromToIndex_8c36e_6 : decode cJ3_checkFromToIndex_8c36e 6 = .ok (.if_icmp .gt 8, 3) := by decide +kernel
theorem dJ3_checkFromToIndex_8c36e_9 : decode cJ3_checkFromToIndex_8c36e 9 = .ok (.iload_n 1, 1) := by decide +kernel
theorem dJ3_checkFromToIndex_8c36e_10 : decode cJ3_checkFromToIndex_8c36e 10 = .ok (.iload_n 2, 1) := by decide +kernel
theorem dJ3_checkFromToIndex_8c36e_11 : decode cJ3_checkFromToIndex_8c36e 11 = .ok (.if_icmp .le 11, 3) := by decide +kernel
theorem dJ3_checkFromToIndex_8c36e_14 : decode cJ3_checkFromToIndex_8c36e 14 = .ok (.aload_n 3, 1) := by decide +kernel
theorem dJ3_checkFromToIndex_8c36e_15 : decode cJ3_checkFromToIndex_8c36e 15 = .ok (.iload_n 0, 1) := by decide +kernel
theorem dJ3_checkFromToIndex_8c36e_16 : decode cJ3_checkFromToIndex_8c36e 16 = .ok (.iload_n 1, 1) := by decide +kernel
theorem dJ3_checkFromToIndex_8c36e_17 : decode cJ3_checkFromToIndex_8c36e 17 = .ok (.iload_n 2, 1) := by decide +kernel
theorem dJ3_checkFromToIndex_8c36e_18 : decode cJ3_checkFromToIndex_8c36e 18 = .ok (.invokestatic 99, 3) := by decide +kernel
theorem dJ3_checkFromToIndex_8c36e_21 : decode cJ3_checkFromToIndex_8c36e 21 = .ok (.athrow, 1) := by decide +kernel
theorem dJ3_checkFromToIndex_8c36e_22 : decode cJ3_checkFromToIndex_8c36e 22 = .ok (.iload_n 0, 1) := by decide +kernel
theorem dJ3_checkFromToIndex_8c36e_23 : decode cJ3_checkFromToIndex_8c36e 23 = .ok (.ireturn, 1) := by decide +kernel
theorem dL_law_0 : decode cL_law 0 = .ok (.new 7, 3) := by decide +kernel
theorem dL_law_3 : decode cL_law 3 = .ok (.dup, 1) := by decide +kernel
theorem dL_law_4 : decode cL_law 4 = .ok (.invokespecial 9, 3) := by decide +kernel
theorem dL_law_7 : decode cL_law 7 = .ok (.astore_n 1, 1) := by decide +kernel
theorem dL_law_8 : decode cL_law 8 = .ok (.new 10, 3) := by decide +kernel
theorem dL_law_11 : decode cL_law 11 = .ok (.dup, 1) := by decide +kernel
theorem dL_law_12 : decode cL_law 12 = .ok (.invokespecial 12, 3) := by decide +kernel
theorem dL_law_15 : decode cL_law 15 = .ok (.astore_n 2, 1) := by decide +kernel
theorem dL_law_16 : decode cL_law 16 = .ok (.iconst 0, 1) := by decide +kernel
theorem dL_law_17 : decode cL_law 17 = .ok (.istore_n 3, 1) := by decide +kernel
theorem dL_law_18 : decode cL_law 18 = .ok (.iload_n 3, 1) := by decide +kernel
theorem dL_law_19 : decode cL_law 19 = .ok (.aload_n 0, 1) := by decide +kernel
theorem dL_law_20 : decode cL_law 20 = .ok (.arraylength, 1) := by decide +kernel
theorem dL_law_21 : decode cL_law 21 = .ok (.iconst 5, 1) := by decide +kernel
theorem dL_law_22 : decode cL_law 22 = .ok (.isub, 1) := by decide +kernel
theorem dL_law_23 : decode cL_law 23 = .ok (.if_icmp .gt 806, 3) := by decide +kernel
theorem dL_law_26 : decode cL_law 26 = .ok (.aload_n 0, 1) := by decide +kernel
theorem dL_law_27 : decode cL_law 27 = .ok (.iload_n 3, 1) := by decide +kernel
theorem dL_law_28 : decode cL_law 28 = .ok (.iaload, 1) := by decide +kernel
theorem dL_law_29 : decode cL_law 29 = .ok (.bipush 31, 2) := by decide +kernel
theorem dL_law_31 : decode cL_law 31 = .ok (.iand, 1) := by decide +kernel
theorem dL_law_32 : decode cL_law 32 = .ok (.tableswitch 791 0 23 #[112, 135, 148, 161, 174, 207, 240, 273, 316, 349, 392, 415, 448, 481, 524, 557, 570, 603, 672, 685, 728, 741, 754, 777], 112) := by decide +kernel
theorem dL_law_144 : decode cL_law 144 = .ok (.aload_n 1, 1) := by decide +kernel
theorem dL_law_145 : decode cL_law 145 = .ok (.aload_n 0, 1) := by decide +kernel
theorem dL_law_146 : decode cL_law 146 = .ok (.iload_n 3, 1) := by decide +kernel
theorem dL_law_147 : decode cL_law 147 = .ok (.iconst 1, 1) := by decide +kernel
theorem dL_law_148 : decode cL_law 148 = .ok (.iadd, 1) := by decide +kernel
theorem dL_law_149 : decode cL_law 149 = .ok (.iaload, 1) := by decide +kernel
theorem dL_law_150 : decode cL_law 150 = .ok (.invokevirtual 13, 3) := by decide +kernel
theorem dL_law_153 : decode cL_law 153 = .ok (.aload_n 2, 1) := by decide +kernel
theorem dL_law_154 : decode cL_law 154 = .ok (.aload_n 0, 1) := by decide +kernel
theorem dL_law_155 : decode cL_law 155 = .ok (.iload_n 3, 1) := by decide +kernel
theorem dL_law_156 : decode cL_law 156 = .ok (.iconst 1, 1) := by decide +kernel
theorem dL_law_157 : decode cL_law 157 = .ok (.iadd, 1) := by decide +kernel
theorem dL_law_158 : decode cL_law 158 = .ok (.iaload, 1) := by decide +kernel
theorem dL_law_159 : decode cL_law 159 = .ok (.invokevirtual 17, 3) := by decide +kernel
theorem dL_law_162 : decode cL_law 162 = .ok (.if_icmp .eq 661, 3) := by decide +kernel
theorem dL_law_165 : decode cL_law 165 = .ok (.iconst 0, 1) := by decide +kernel
theorem dL_law_166 : decode cL_law 166 = .ok (.ireturn, 1) := by decide +kernel
theorem dL_law_167 : decode cL_law 167 = .ok (.aload_n 1, 1) := by decide +kernel
theorem dL_law_168 : decode cL_law 168 = .ok (.invokevirtual 18, 3) := by decide +kernel
theorem dL_law_171 : decode cL_law 171 = .ok (.aload_n 2, 1) := by decide +kernel
theorem dL_law_172 : decode cL_law 172 = .ok (.invokevirtual 22, 3) := by decide +kernel
theorem dL_law_175 : decode cL_law 175 = .ok (.if_icmp .eq 648, 3) := by decide +kernel
theorem dL_law_178 : decode cL_law 178 = .ok (.iconst 0, 1) := by decide +kernel
theorem dL_law_179 : decode cL_law 179 = .ok (.ireturn, 1) := by decide +kernel
theorem dL_law_180 : decode cL_law 180 = .ok (.aload_n 1, 1) := by decide +kernel
theorem dL_law_181 : decode cL_law 181 = .ok (.invokevirtual 23, 3) := by decide +kernel
theorem dL_law_184 : decode cL_law 184 = .ok (.aload_n 2, 1) := by decide +kernel
theorem dL_law_185 : decode cL_law 185 = .ok (.invokevirtual 26, 3) := by decide +kernel
theorem dL_law_188 : decode cL_law 188 = .ok (.if_icmp .eq 635, 3) := by decide +kernel
theorem dL_law_191 : decode cL_law 191 = .ok (.iconst 0, 1) := by decide +kernel
theorem dL_law_192 : decode cL_law 192 = .ok (.ireturn, 1) := by decide +kernel
theorem dL_law_193 : decode cL_law 193 = .ok (.aload_n 1, 1) := by decide +kernel
theorem dL_law_194 : decode cL_law 194 = .ok (.invokevirtual 27, 3) := by decide +kernel
theorem dL_law_197 : decode cL_law 197 = .ok (.aload_n 2, 1) := by decide +kernel
theorem dL_law_198 : decode cL_law 198 = .ok (.invokevirtual 30, 3) := by decide +kernel
theorem dL_law_201 : decode cL_law 201 = .ok (.if_icmp .eq 622, 3) := by decide +kernel
theorem dL_law_204 : decode cL_law 204 = .ok (.iconst 0, 1) := by decide +kernel
theorem dL_law_205 : decode cL_law 205 = .ok (.ireturn, 1) := by decide +kernel
theorem dL_law_206 : decode cL_law 206 = .ok (.aload_n 1, 1) := by decide +kernel
theorem dL_law_207 : decode cL_law 207 = .ok (.aload_n 0, 1) := by decide +kernel
theorem dL_law_208 : decode cL_law 208 = .ok (.iload_n 3, 1) := by decide +kernel
theorem dL_law_209 : decode cL_law 209 = .ok (.iconst 1, 1) := by decide +kernel
theorem dL_law_210 : decode cL_law 210 = .ok (.iadd, 1) := by decide +kernel
theorem dL_law_211 : decode cL_law 211 = .ok (.iaload, 1) := by decide +kernel
theorem dL_law_212 : decode cL_law 212 = .ok (.aload_n 0, 1) := by decide +kernel
theorem dL_law_213 : decode cL_law 213 = .ok (.iload_n 3, 1) := by decide +kernel
theorem dL_law_214 : decode cL_law 214 = .ok (.iconst 2, 1) := by decide +kernel
theorem dL_law_215 : decode cL_law 215 = .ok (.iadd, 1) := by decide +kernel
theorem dL_law_216 : decode cL_law 216 = .ok (.iaload, 1) := by decide +kernel
theorem dL_law_217 : decode cL_law 217 = .ok (.invokevirtual 31, 3) := by decide +kernel
theorem dL_law_220 : decode cL_law 220 = .ok (.aload_n 2, 1) := by decide +kernel
theorem dL_law_221 : decode cL_law 221 = .ok (.aload_n 0, 1) := by decide +kernel
theorem dL_law_222 : decode cL_law 222 = .ok (.iload_n 3, 1) := by decide +kernel
theorem dL_law_223 : decode cL_law 223 = .ok (.iconst 1, 1) := by decide +kernel
theorem dL_law_224 : decode cL_law 224 = .ok (.iadd, 1) := by decide +kernel
theorem dL_law_225 : decode cL_law 225 = .ok (.iaload, 1) := by decide +kernel
theorem dL_law_226 : decode cL_law 226 = .ok (.aload_n 0, 1) := by decide +kernel
theorem dL_law_227 : decode cL_law 227 = .ok (.iload_n 3, 1) := by decide +kernel
theorem dL_law_228 : decode cL_law 228 = .ok (.iconst 2, 1) := by decide +kernel
theorem dL_law_229 : decode cL_law 229 = .ok (.iadd, 1) := by decide +kernel
theorem dL_law_230 : decode cL_law 230 = .ok (.iaload, 1) := by decide +kernel
theorem dL_law_231 : decode cL_law 231 = .ok (.invokevirtual 35, 3) := by decide +kernel
theorem dL_law_234 : decode cL_law 234 = .ok (.if_icmp .eq 589, 3) := by decide +kernel
theorem dL_law_237 : decode cL_law 237 = .ok (.iconst 0, 1) := by decide +kernel
theorem dL_law_238 : decode cL_law 238 = .ok (.ireturn, 1) := by decide +kernel
theorem dL_law_239 : decode cL_law 239 = .ok (.aload_n 1, 1) := by decide +kernel
theorem dL_law_240 : decode cL_law 240 = .ok (.aload_n 0, 1) := by decide +kernel
theorem dL_law_241 : decode cL_law 241 = .ok (.iload_n 3, 1) := by decide +kernel
theorem dL_law_242 : decode cL_law 242 = .ok (.iconst 1, 1) := by decide +kernel
theorem dL_law_243 : decode cL_law 243 = .ok (.iadd, 1) := by decide +kernel
theorem dL_law_244 : decode cL_law 244 = .ok (.iaload, 1) := by decide +kernel
theorem dL_law_245 : decode cL_law 245 = .ok (.aload_n 0, 1) := by decide +kernel
theorem dL_law_246 : decode cL_law 246 = .ok (.iload_n 3, 1) := by decide +kernel
theorem dL_law_247 : decode cL_law 247 = .ok (.iconst 2, 1) := by decide +kernel
theorem dL_law_248 : decode cL_law 248 = .ok (.iadd, 1) := by decide +kernel
theorem dL_law_249 : decode cL_law 249 = .ok (.iaload, 1) := by decide +kernel
theorem dL_law_250 : decode cL_law 250 = .ok (.invokevirtual 36, 3) := by decide +kernel
theorem dL_law_253 : decode cL_law 253 = .ok (.aload_n 2, 1) := by decide +kernel
theorem dL_law_254 : decode cL_law 254 = .ok (.aload_n 0, 1) := by decide +kernel
theorem dL_law_255 : decode cL_law 255 = .ok (.iload_n 3, 1) := by decide +kernel
theorem dL_law_256 : decode cL_law 256 = .ok (.iconst 1, 1) := by decide +kernel
theorem dL_law_257 : decode cL_law 257 = .ok (.iadd, 1) := by decide +kernel
theorem dL_law_258 : decode cL_law 258 = .ok (.iaload, 1) := by decide +kernel
theorem dL_law_259 : decode cL_law 259 = .ok (.aload_n 0, 1) := by decide +kernel
theorem dL_law_260 : decode cL_law 260 = .ok (.iload_n 3, 1) := by decide +kernel
theorem dL_law_261 : decode cL_law 261 = .ok (.iconst 2, 1) := by decide +kernel
theorem dL_law_262 : decode cL_law 262 = .ok (.iadd, 1) := by decide +kernel
theorem dL_law_263 : decode cL_law 263 = .ok (.iaload, 1) := by decide +kernel
theorem dL_law_264 : decode cL_law 264 = .ok (.invokevirtual 39, 3) := by decide +kernel
theorem dL_law_267 : decode cL_law 267 = .ok (.if_icmp .eq 556, 3) := by decide +kernel
theorem dL_law_270 : decode cL_law 270 = .ok (.iconst 0, 1) := by decide +kernel
theorem dL_law_271 : decode cL_law 271 = .ok (.ireturn, 1) := by decide +kernel
theorem dL_law_272 : decode cL_law 272 = .ok (.aload_n 1, 1) := by decide +kernel
theorem dL_law_273 : decode cL_law 273 = .ok (.aload_n 0, 1) := by decide +kernel
theorem dL_law_274 : decode cL_law 274 = .ok (.iload_n 3, 1) := by decide +kernel
theorem dL_law_275 : decode cL_law 275 = .ok (.iconst 1, 1) := by decide +kernel
theorem dL_law_276 : decode cL_law 276 = .ok (.iadd, 1) := by decide +kernel
theorem dL_law_277 : decode cL_law 277 = .ok (.iaload, 1) := by decide +kernel
theorem dL_law_278 : decode cL_law 278 = .ok (.aload_n 0, 1) := by decide +kernel
theorem dL_law_279 : decode cL_law 279 = .ok (.iload_n 3, 1) := by decide +kernel
theorem dL_law_280 : decode cL_law 280 = .ok (.iconst 2, 1) := by decide +kernel
theorem dL_law_281 : decode cL_law 281 = .ok (.iadd, 1) := by decide +kernel
theorem dL_law_282 : decode cL_law 282 = .ok (.iaload, 1) := by decide +kernel
theorem dL_law_283 : decode cL_law 283 = .ok (.invokevirtual 40, 3) := by decide +kernel
theorem dL_law_286 : decode cL_law 286 = .ok (.aload_n 2, 1) := by decide +kernel
theorem dL_law_287 : decode cL_law 287 = .ok (.aload_n 0, 1) := by decide +kernel
theorem dL_law_288 : decode cL_law 288 = .ok (.iload_n 3, 1) := by decide +kernel
theorem dL_law_289 : decode cL_law 289 = .ok (.iconst 1, 1) := by decide +kernel
theorem dL_law_290 : decode cL_law 290 = .ok (.iadd, 1) := by decide +kernel
theorem dL_law_291 : decode cL_law 291 = .ok (.iaload, 1) := by decide +kernel
theorem dL_law_292 : decode cL_law 292 = .ok (.aload_n 0, 1) := by decide +kernel
theorem dL_law_293 : decode cL_law 293 = .ok (.iload_n 3, 1) := by decide +kernel
theorem dL_law_294 : decode cL_law 294 = .ok (.iconst 2, 1) := by decide +kernel
theorem dL_law_295 : decode cL_law 295 = .ok (.iadd, 1) := by decide +kernel
theorem dL_law_296 : decode cL_law 296 = .ok (.iaload, 1) := by decide +kernel
theorem dL_law_297 : decode cL_law 297 = .ok (.invokevirtual 43, 3) := by decide +kernel
theorem dL_law_300 : decode cL_law 300 = .ok (.if_icmp .eq 523, 3) := by decide +kernel
theorem dL_law_303 : decode cL_law 303 = .ok (.iconst 0, 1) := by decide +kernel
theorem dL_law_304 : decode cL_law 304 = .ok (.ireturn, 1) := by decide +kernel
theorem dL_law_305 : decode cL_law 305 = .ok (.aload_n 1, 1) := by decide +kernel
theorem dL_law_306 : decode cL_law 306 = .ok (.aload_n 0, 1) := by decide +kernel
theorem dL_law_307 : decode cL_law 307 = .ok (.iload_n 3, 1) := by decide +kernel
theorem dL_law_308 : decode cL_law 308 = .ok (.iconst 1, 1) := by decide +kernel
theorem dL_law_309 : decode cL_law 309 = .ok (.iadd, 1) := by decide +kernel
theorem dL_law_310 : decode cL_law 310 = .ok (.iaload, 1) := by decide +kernel
theorem dL_law_311 : decode cL_law 311 = .ok (.aload_n 0, 1) := by decide +kernel
theorem dL_law_312 : decode cL_law 312 = .ok (.iload_n 3, 1) := by decide +kernel
theorem dL_law_313 : decode cL_law 313 = .ok (.iconst 2, 1) := by decide +kernel
theorem dL_law_314 : decode cL_law 314 = .ok (.iadd, 1) := by decide +kernel
theorem dL_law_315 : decode cL_law 315 = .ok (.iaload, 1) := by decide +kernel
theorem dL_law_316 : decode cL_law 316 = .ok (.aload_n 0, 1) := by decide +kernel
theorem dL_law_317 : decode cL_law 317 = .ok (.iload_n 3, 1) := by decide +kernel
theorem dL_law_318 : decode cL_law 318 = .ok (.iconst 3, 1) := by decide +kernel
theorem dL_law_319 : decode cL_law 319 = .ok (.iadd, 1) := by decide +kernel
theorem dL_law_320 : decode cL_law 320 = .ok (.iaload, 1) := by decide +kernel
theorem dL_law_321 : decode cL_law 321 = .ok (.invokevirtual 44, 3) := by decide +kernel
theorem dL_law_324 : decode cL_law 324 = .ok (.aload_n 2, 1) := by decide +kernel
theorem dL_law_325 : decode cL_law 325 = .ok (.aload_n 0, 1) := by decide +kernel
theorem dL_law_326 : decode cL_law 326 = .ok (.iload_n 3, 1) := by decide +kernel
theorem dL_law_327 : decode cL_law 327 = .ok (.iconst 1, 1) := by decide +kernel
theorem dL_law_328 : decode cL_law 328 = .ok (.iadd, 1) := by decide +kernel
theorem dL_law_329 : decode cL_law 329 = .ok (.iaload, 1) := by decide +kernel
theorem dL_law_330 : decode cL_law 330 = .ok (.aload_n 0, 1) := by decide +kernel
theorem dL_law_331 : decode cL_law 331 = .ok (.iload_n 3, 1) := by decide +kernel
theorem dL_law_332 : decode cL_law 332 = .ok (.iconst 2, 1) := by decide +kernel
theorem dL_law_333 : decode cL_law 333 = .ok (.iadd, 1) := by decide +kernel
theorem dL_law_334 : decode cL_law 334 = .ok (.iaload, 1) := by decide +kernel
theorem dL_law_335 : decode cL_law 335 = .ok (.aload_n 0, 1) := by decide +kernel
theorem dL_law_336 : decode cL_law 336 = .ok (.iload_n 3, 1) := by decide +kernel
theorem dL_law_337 : decode cL_law 337 = .ok (.iconst 3, 1) := by decide +kernel
theorem dL_law_338 : decode cL_law 338 = .ok (.iadd, 1) := by decide +kernel
theorem dL_law_339 : decode cL_law 339 = .ok (.iaload, 1) := by decide +kernel
theorem dL_law_340 : decode cL_law 340 = .ok (.invokevirtual 48, 3) := by decide +kernel
theorem dL_law_343 : decode cL_law 343 = .ok (.if_icmp .eq 480, 3) := by decide +kernel
theorem dL_law_346 : decode cL_law 346 = .ok (.iconst 0, 1) := by decide +kernel
theorem dL_law_347 : decode cL_law 347 = .ok (.ireturn, 1) := by decide +kernel
theorem dL_law_348 : decode cL_law 348 = .ok (.aload_n 1, 1) := by decide +kernel
theorem dL_law_349 : decode cL_law 349 = .ok (.aload_n 0, 1) := by decide +kernel
theorem dL_law_350 : decode cL_law 350 = .ok (.iload_n 3, 1) := by decide +kernel
theorem dL_law_351 : decode cL_law 351 = .ok (.iconst 1, 1) := by decide +kernel
theorem dL_law_352 : decode cL_law 352 = .ok (.iadd, 1) := by decide +kernel
theorem dL_law_353 : decode cL_law 353 = .ok (.iaload, 1) := by decide +kernel
theorem dL_law_354 : decode cL_law 354 = .ok (.aload_n 0, 1) := by decide +kernel
theorem dL_law_355 : decode cL_law 355 = .ok (.iload_n 3, 1) := by decide +kernel
theorem dL_law_356 : decode cL_law 356 = .ok (.iconst 2, 1) := by decide +kernel
theorem dL_law_357 : decode cL_law 357 = .ok (.iadd, 1) := by decide +kernel
theorem dL_law_358 : decode cL_law 358 = .ok (.iaload, 1) := by decide +kernel
theorem dL_law_359 : decode cL_law 359 = .ok (.invokevirtual 49, 3) := by decide +kernel
theorem dL_law_362 : decode cL_law 362 = .ok (.aload_n 2, 1) := by decide +kernel
theorem dL_law_363 : decode cL_law 363 = .ok (.aload_n 0, 1) := by decide +kernel
theorem dL_law_364 : decode cL_law 364 = .ok (.iload_n 3, 1) := by decide +kernel
theorem dL_law_365 : decode cL_law 365 = .ok (.iconst 1, 1) := by decide +kernel
theorem dL_law_366 : decode cL_law 366 = .ok (.iadd, 1) := by decide +kernel
theorem dL_law_367 : decode cL_law 367 = .ok (.iaload, 1) := by decide +kernel
theorem dL_law_368 : decode cL_law 368 = .ok (.aload_n 0, 1) := by decide +kernel
theorem dL_law_369 : decode cL_law 369 = .ok (.iload_n 3, 1) := by decide +kernel
theorem dL_law_370 : decode cL_law 370 = .ok (.iconst 2, 1) := by decide +kernel
theorem dL_law_371 : decode cL_law 371 = .ok (.iadd, 1) := by decide +kernel
theorem dL_law_372 : decode cL_law 372 = .ok (.iaload, 1) := by decide +kernel
theorem dL_law_373 : decode cL_law 373 = .ok (.invokevirtual 52, 3) := by decide +kernel
theorem dL_law_376 : decode cL_law 376 = .ok (.if_icmp .eq 447, 3) := by decide +kernel
theorem dL_law_379 : decode cL_law 379 = .ok (.iconst 0, 1) := by decide +kernel
theorem dL_law_380 : decode cL_law 380 = .ok (.ireturn, 1) := by decide +kernel
theorem dL_law_381 : decode cL_law 381 = .ok (.aload_n 1, 1) := by decide +kernel
theorem dL_law_382 : decode cL_law 382 = .ok (.aload_n 0, 1) := by decide +kernel
theorem dL_law_383 : decode cL_law 383 = .ok (.iload_n 3, 1) := by decide +kernel
theorem dL_law_384 : decode cL_law 384 = .ok (.iconst 1, 1) := by decide +kernel
theorem dL_law_385 : decode cL_law 385 = .ok (.iadd, 1) := by decide +kernel
theorem dL_law_386 : decode cL_law 386 = .ok (.iaload, 1) := by decide +kernel
theorem dL_law_387 : decode cL_law 387 = .ok (.aload_n 0, 1) := by decide +kernel
theorem dL_law_388 : decode cL_law 388 = .ok (.iload_n 3, 1) := by decide +kernel
theorem dL_law_389 : decode cL_law 389 = .ok (.iconst 2, 1) := by decide +kernel
theorem dL_law_390 : decode cL_law 390 = .ok (.iadd, 1) := by decide +kernel
theorem dL_law_391 : decode cL_law 391 = .ok (.iaload, 1) := by decide +kernel
theorem dL_law_392 : decode cL_law 392 = .ok (.aload_n 0, 1) := by decide +kernel
theorem dL_law_393 : decode cL_law 393 = .ok (.iload_n 3, 1) := by decide +kernel
theorem dL_law_394 : decode cL_law 394 = .ok (.iconst 3, 1) := by decide +kernel
theorem dL_law_395 : decode cL_law 395 = .ok (.iadd, 1) := by decide +kernel
theorem dL_law_396 : decode cL_law 396 = .ok (.iaload, 1) := by decide +kernel
theorem dL_law_397 : decode cL_law 397 = .ok (.invokevirtual 53, 3) := by decide +kernel
theorem dL_law_400 : decode cL_law 400 = .ok (.aload_n 2, 1) := by decide +kernel
theorem dL_law_401 : decode cL_law 401 = .ok (.aload_n 0, 1) := by decide +kernel
theorem dL_law_402 : decode cL_law 402 = .ok (.iload_n 3, 1) := by decide +kernel
theorem dL_law_403 : decode cL_law 403 = .ok (.iconst 1, 1) := by decide +kernel
theorem dL_law_404 : decode cL_law 404 = .ok (.iadd, 1) := by decide +kernel
theorem dL_law_405 : decode cL_law 405 = .ok (.iaload, 1) := by decide +kernel
theorem dL_law_406 : decode cL_law 406 = .ok (.aload_n 0, 1) := by decide +kernel
theorem dL_law_407 : decode cL_law 407 = .ok (.iload_n 3, 1) := by decide +kernel
theorem dL_law_408 : decode cL_law 408 = .ok (.iconst 2, 1) := by decide +kernel
theorem dL_law_409 : decode cL_law 409 = .ok (.iadd, 1) := by decide +kernel
theorem dL_law_410 : decode cL_law 410 = .ok (.iaload, 1) := by decide +kernel
theorem dL_law_411 : decode cL_law 411 = .ok (.aload_n 0, 1) := by decide +kernel
theorem dL_law_412 : decode cL_law 412 = .ok (.iload_n 3, 1) := by decide +kernel
theorem dL_law_413 : decode cL_law 413 = .ok (.iconst 3, 1) := by decide +kernel
theorem dL_law_414 : decode cL_law 414 = .ok (.iadd, 1) := by decide +kernel
theorem dL_law_415 : decode cL_law 415 = .ok (.iaload, 1) := by decide +kernel
theorem dL_law_416 : decode cL_law 416 = .ok (.invokevirtual 56, 3) := by decide +kernel
theorem dL_law_419 : decode cL_law 419 = .ok (.if_icmp .eq 404, 3) := by decide +kernel
theorem dL_law_422 : decode cL_law 422 = .ok (.iconst 0, 1) := by decide +kernel
theorem dL_law_423 : decode cL_law 423 = .ok (.ireturn, 1) := by decide +kernel
theorem dL_law_424 : decode cL_law 424 = .ok (.aload_n 1, 1) := by decide +kernel
theorem dL_law_425 : decode cL_law 425 = .ok (.aload_n 0, 1) := by decide +kernel
theorem dL_law_426 : decode cL_law 426 = .ok (.iload_n 3, 1) := by decide +kernel
theorem dL_law_427 : decode cL_law 427 = .ok (.iconst 1, 1) := by decide +kernel
theorem dL_law_428 : decode cL_law 428 = .ok (.iadd, 1) := by decide +kernel
theorem dL_law_429 : decode cL_law 429 = .ok (.iaload, 1) := by decide +kernel
theorem dL_law_430 : decode cL_law 430 = .ok (.invokevirtual 57, 3) := by decide +kernel
theorem dL_law_433 : decode cL_law 433 = .ok (.aload_n 2, 1) := by decide +kernel
theorem dL_law_434 : decode cL_law 434 = .ok (.aload_n 0, 1) := by decide +kernel
theorem dL_law_435 : decode cL_law 435 = .ok (.iload_n 3, 1) := by decide +kernel
theorem dL_law_436 : decode cL_law 436 = .ok (.iconst 1, 1) := by decide +kernel
theorem dL_law_437 : decode cL_law 437 = .ok (.iadd, 1) := by decide +kernel
theorem dL_law_438 : decode cL_law 438 = .ok (.iaload, 1) := by decide +kernel
theorem dL_law_439 : decode cL_law 439 = .ok (.invokevirtual 60, 3) := by decide +kernel
theorem dL_law_442 : decode cL_law 442 = .ok (.if_icmp .eq 381, 3) := by decide +kernel
theorem dL_law_445 : decode cL_law 445 = .ok (.iconst 0, 1) := by decide +kernel
theorem dL_law_446 : decode cL_law 446 = .ok (.ireturn, 1) := by decide +kernel
theorem dL_law_447 : decode cL_law 447 = .ok (.aload_n 1, 1) := by decide +kernel
theorem dL_law_448 : decode cL_law 448 = .ok (.aload_n 0, 1) := by decide +kernel
theorem dL_law_449 : decode cL_law 449 = .ok (.iload_n 3, 1) := by decide +kernel
theorem dL_law_450 : decode cL_law 450 = .ok (.iconst 1, 1) := by decide +kernel
theorem dL_law_451 : decode cL_law 451 = .ok (.iadd, 1) := by decide +kernel
theorem dL_law_452 : decode cL_law 452 = .ok (.iaload, 1) := by decide +kernel
theorem dL_law_453 : decode cL_law 453 = .ok (.aload_n 0, 1) := by decide +kernel
theorem dL_law_454 : decode cL_law 454 = .ok (.iload_n 3, 1) := by decide +kernel
theorem dL_law_455 : decode cL_law 455 = .ok (.iconst 2, 1) := by decide +kernel
theorem dL_law_456 : decode cL_law 456 = .ok (.iadd, 1) := by decide +kernel
theorem dL_law_457 : decode cL_law 457 = .ok (.iaload, 1) := by decide +kernel
theorem dL_law_458 : decode cL_law 458 = .ok (.invokevirtual 61, 3) := by decide +kernel
theorem dL_law_461 : decode cL_law 461 = .ok (.aload_n 2, 1) := by decide +kernel
theorem dL_law_462 : decode cL_law 462 = .ok (.aload_n 0, 1) := by decide +kernel
theorem dL_law_463 : decode cL_law 463 = .ok (.iload_n 3, 1) := by decide +kernel
theorem dL_law_464 : decode cL_law 464 = .ok (.iconst 1, 1) := by decide +kernel
theorem dL_law_465 : decode cL_law 465 = .ok (.iadd, 1) := by decide +kernel
theorem dL_law_466 : decode cL_law 466 = .ok (.iaload, 1) := by decide +kernel
theorem dL_law_467 : decode cL_law 467 = .ok (.aload_n 0, 1) := by decide +kernel
theorem dL_law_468 : decode cL_law 468 = .ok (.iload_n 3, 1) := by decide +kernel
theorem dL_law_469 : decode cL_law 469 = .ok (.iconst 2, 1) := by decide +kernel
theorem dL_law_470 : decode cL_law 470 = .ok (.iadd, 1) := by decide +kernel
theorem dL_law_471 : decode cL_law 471 = .ok (.iaload, 1) := by decide +kernel
theorem dL_law_472 : decode cL_law 472 = .ok (.invokevirtual 64, 3) := by decide +kernel
theorem dL_law_475 : decode cL_law 475 = .ok (.if_icmp .eq 348, 3) := by decide +kernel
theorem dL_law_478 : decode cL_law 478 = .ok (.iconst 0, 1) := by decide +kernel
theorem dL_law_479 : decode cL_law 479 = .ok (.ireturn, 1) := by decide +kernel
theorem dL_law_480 : decode cL_law 480 = .ok (.aload_n 1, 1) := by decide +kernel
theorem dL_law_481 : decode cL_law 481 = .ok (.aload_n 0, 1) := by decide +kernel
theorem dL_law_482 : decode cL_law 482 = .ok (.iload_n 3, 1) := by decide +kernel
theorem dL_law_483 : decode cL_law 483 = .ok (.iconst 1, 1) := by decide +kernel
theorem dL_law_484 : decode cL_law 484 = .ok (.iadd, 1) := by decide +kernel
theorem dL_law_485 : decode cL_law 485 = .ok (.iaload, 1) := by decide +kernel
theorem dL_law_486 : decode cL_law 486 = .ok (.aload_n 0, 1) := by decide +kernel
theorem dL_law_487 : decode cL_law 487 = .ok (.iload_n 3, 1) := by decide +kernel
theorem dL_law_488 : decode cL_law 488 = .ok (.iconst 2, 1) := by decide +kernel
theorem dL_law_489 : decode cL_law 489 = .ok (.iadd, 1) := by decide +kernel
theorem dL_law_490 : decode cL_law 490 = .ok (.iaload, 1) := by decide +kernel
theorem dL_law_491 : decode cL_law 491 = .ok (.invokevirtual 65, 3) := by decide +kernel
theorem dL_law_494 : decode cL_law 494 = .ok (.aload_n 2, 1) := by decide +kernel
theorem dL_law_495 : decode cL_law 495 = .ok (.aload_n 0, 1) := by decide +kernel
theorem dL_law_496 : decode cL_law 496 = .ok (.iload_n 3, 1) := by decide +kernel
theorem dL_law_497 : decode cL_law 497 = .ok (.iconst 1, 1) := by decide +kernel
theorem dL_law_498 : decode cL_law 498 = .ok (.iadd, 1) := by decide +kernel
theorem dL_law_499 : decode cL_law 499 = .ok (.iaload, 1) := by decide +kernel
theorem dL_law_500 : decode cL_law 500 = .ok (.aload_n 0, 1) := by decide +kernel
theorem dL_law_501 : decode cL_law 501 = .ok (.iload_n 3, 1) := by decide +kernel
theorem dL_law_502 : decode cL_law 502 = .ok (.iconst 2, 1) := by decide +kernel
theorem dL_law_503 : decode cL_law 503 = .ok (.iadd, 1) := by decide +kernel
theorem dL_law_504 : decode cL_law 504 = .ok (.iaload, 1) := by decide +kernel
theorem dL_law_505 : decode cL_law 505 = .ok (.invokevirtual 68, 3) := by decide +kernel
theorem dL_law_508 : decode cL_law 508 = .ok (.if_icmp .eq 315, 3) := by decide +kernel
theorem dL_law_511 : decode cL_law 511 = .ok (.iconst 0, 1) := by decide +kernel
theorem dL_law_512 : decode cL_law 512 = .ok (.ireturn, 1) := by decide +kernel
theorem dL_law_513 : decode cL_law 513 = .ok (.aload_n 1, 1) := by decide +kernel
theorem dL_law_514 : decode cL_law 514 = .ok (.aload_n 0, 1) := by decide +kernel
theorem dL_law_515 : decode cL_law 515 = .ok (.iload_n 3, 1) := by decide +kernel
theorem dL_law_516 : decode cL_law 516 = .ok (.iconst 1, 1) := by decide +kernel
theorem dL_law_517 : decode cL_law 517 = .ok (.iadd, 1) := by decide +kernel
theorem dL_law_518 : decode cL_law 518 = .ok (.iaload, 1) := by decide +kernel
theorem dL_law_519 : decode cL_law 519 = .ok (.aload_n 0, 1) := by decide +kernel
theorem dL_law_520 : decode cL_law 520 = .ok (.iload_n 3, 1) := by decide +kernel
theorem dL_law_521 : decode cL_law 521 = .ok (.iconst 2, 1) := by decide +kernel
theorem dL_law_522 : decode cL_law 522 = .ok (.iadd, 1) := by decide +kernel
theorem dL_law_523 : decode cL_law 523 = .ok (.iaload, 1) := by decide +kernel
theorem dL_law_524 : decode cL_law 524 = .ok (.aload_n 0, 1) := by decide +kernel
theorem dL_law_525 : decode cL_law 525 = .ok (.iload_n 3, 1) := by decide +kernel
theorem dL_law_526 : decode cL_law 526 = .ok (.iconst 3, 1) := by decide +kernel
theorem dL_law_527 : decode cL_law 527 = .ok (.iadd, 1) := by decide +kernel
theorem dL_law_528 : decode cL_law 528 = .ok (.iaload, 1) := by decide +kernel
theorem dL_law_529 : decode cL_law 529 = .ok (.invokevirtual 69, 3) := by decide +kernel
theorem dL_law_532 : decode cL_law 532 = .ok (.aload_n 2, 1) := by decide +kernel
theorem dL_law_533 : decode cL_law 533 = .ok (.aload_n 0, 1) := by decide +kernel
theorem dL_law_534 : decode cL_law 534 = .ok (.iload_n 3, 1) := by decide +kernel
theorem dL_law_535 : decode cL_law 535 = .ok (.iconst 1, 1) := by decide +kernel
theorem dL_law_536 : decode cL_law 536 = .ok (.iadd, 1) := by decide +kernel
theorem dL_law_537 : decode cL_law 537 = .ok (.iaload, 1) := by decide +kernel
theorem dL_law_538 : decode cL_law 538 = .ok (.aload_n 0, 1) := by decide +kernel
theorem dL_law_539 : decode cL_law 539 = .ok (.iload_n 3, 1) := by decide +kernel
theorem dL_law_540 : decode cL_law 540 = .ok (.iconst 2, 1) := by decide +kernel
theorem dL_law_541 : decode cL_law 541 = .ok (.iadd, 1) := by decide +kernel
theorem dL_law_542 : decode cL_law 542 = .ok (.iaload, 1) := by decide +kernel
theorem dL_law_543 : decode cL_law 543 = .ok (.aload_n 0, 1) := by decide +kernel
theorem dL_law_544 : decode cL_law 544 = .ok (.iload_n 3, 1) := by decide +kernel
theorem dL_law_545 : decode cL_law 545 = .ok (.iconst 3, 1) := by decide +kernel
theorem dL_law_546 : decode cL_law 546 = .ok (.iadd, 1) := by decide +kernel
theorem dL_law_547 : decode cL_law 547 = .ok (.iaload, 1) := by decide +kernel
theorem dL_law_548 : decode cL_law 548 = .ok (.invokevirtual 72, 3) := by decide +kernel
theorem dL_law_551 : decode cL_law 551 = .ok (.if_icmp .eq 272, 3) := by decide +kernel
theorem dL_law_554 : decode cL_law 554 = .ok (.iconst 0, 1) := by decide +kernel
theorem dL_law_555 : decode cL_law 555 = .ok (.ireturn, 1) := by decide +kernel
theorem dL_law_556 : decode cL_law 556 = .ok (.aload_n 1, 1) := by decide +kernel
theorem dL_law_557 : decode cL_law 557 = .ok (.aload_n 0, 1) := by decide +kernel
theorem dL_law_558 : decode cL_law 558 = .ok (.iload_n 3, 1) := by decide +kernel
theorem dL_law_559 : decode cL_law 559 = .ok (.iconst 1, 1) := by decide +kernel
theorem dL_law_560 : decode cL_law 560 = .ok (.iadd, 1) := by decide +kernel
theorem dL_law_561 : decode cL_law 561 = .ok (.iaload, 1) := by decide +kernel
theorem dL_law_562 : decode cL_law 562 = .ok (.aload_n 0, 1) := by decide +kernel
theorem dL_law_563 : decode cL_law 563 = .ok (.iload_n 3, 1) := by decide +kernel
theorem dL_law_564 : decode cL_law 564 = .ok (.iconst 2, 1) := by decide +kernel
theorem dL_law_565 : decode cL_law 565 = .ok (.iadd, 1) := by decide +kernel
theorem dL_law_566 : decode cL_law 566 = .ok (.iaload, 1) := by decide +kernel
theorem dL_law_567 : decode cL_law 567 = .ok (.invokevirtual 73, 3) := by decide +kernel
theorem dL_law_570 : decode cL_law 570 = .ok (.aload_n 2, 1) := by decide +kernel
theorem dL_law_571 : decode cL_law 571 = .ok (.aload_n 0, 1) := by decide +kernel
theorem dL_law_572 : decode cL_law 572 = .ok (.iload_n 3, 1) := by decide +kernel
theorem dL_law_573 : decode cL_law 573 = .ok (.iconst 1, 1) := by decide +kernel
theorem dL_law_574 : decode cL_law 574 = .ok (.iadd, 1) := by decide +kernel
theorem dL_law_575 : decode cL_law 575 = .ok (.iaload, 1) := by decide +kernel
theorem dL_law_576 : decode cL_law 576 = .ok (.aload_n 0, 1) := by decide +kernel
theorem dL_law_577 : decode cL_law 577 = .ok (.iload_n 3, 1) := by decide +kernel
theorem dL_law_578 : decode cL_law 578 = .ok (.iconst 2, 1) := by decide +kernel
theorem dL_law_579 : decode cL_law 579 = .ok (.iadd, 1) := by decide +kernel
theorem dL_law_580 : decode cL_law 580 = .ok (.iaload, 1) := by decide +kernel
theorem dL_law_581 : decode cL_law 581 = .ok (.invokevirtual 76, 3) := by decide +kernel
theorem dL_law_584 : decode cL_law 584 = .ok (.if_icmp .eq 239, 3) := by decide +kernel
theorem dL_law_587 : decode cL_law 587 = .ok (.iconst 0, 1) := by decide +kernel
theorem dL_law_588 : decode cL_law 588 = .ok (.ireturn, 1) := by decide +kernel
theorem dL_law_589 : decode cL_law 589 = .ok (.aload_n 1, 1) := by decide +kernel
theorem dL_law_590 : decode cL_law 590 = .ok (.invokevirtual 77, 3) := by decide +kernel
theorem dL_law_593 : decode cL_law 593 = .ok (.aload_n 2, 1) := by decide +kernel
theorem dL_law_594 : decode cL_law 594 = .ok (.invokevirtual 80, 3) := by decide +kernel
theorem dL_law_597 : decode cL_law 597 = .ok (.if_icmp .eq 226, 3) := by decide +kernel
theorem dL_law_600 : decode cL_law 600 = .ok (.iconst 0, 1) := by decide +kernel
theorem dL_law_601 : decode cL_law 601 = .ok (.ireturn, 1) := by decide +kernel
theorem dL_law_602 : decode cL_law 602 = .ok (.aload_n 1, 1) := by decide +kernel
theorem dL_law_603 : decode cL_law 603 = .ok (.aload_n 0, 1) := by decide +kernel
theorem dL_law_604 : decode cL_law 604 = .ok (.iload_n 3, 1) := by decide +kernel
theorem dL_law_605 : decode cL_law 605 = .ok (.iconst 1, 1) := by decide +kernel
theorem dL_law_606 : decode cL_law 606 = .ok (.iadd, 1) := by decide +kernel
theorem dL_law_607 : decode cL_law 607 = .ok (.iaload, 1) := by decide +kernel
theorem dL_law_608 : decode cL_law 608 = .ok (.aload_n 0, 1) := by decide +kernel
theorem dL_law_609 : decode cL_law 609 = .ok (.iload_n 3, 1) := by decide +kernel
theorem dL_law_610 : decode cL_law 610 = .ok (.iconst 2, 1) := by decide +kernel
theorem dL_law_611 : decode cL_law 611 = .ok (.iadd, 1) := by decide +kernel
theorem dL_law_612 : decode cL_law 612 = .ok (.iaload, 1) := by decide +kernel
theorem dL_law_613 : decode cL_law 613 = .ok (.invokevirtual 81, 3) := by decide +kernel
theorem dL_law_616 : decode cL_law 616 = .ok (.aload_n 2, 1) := by decide +kernel
theorem dL_law_617 : decode cL_law 617 = .ok (.aload_n 0, 1) := by decide +kernel
theorem dL_law_618 : decode cL_law 618 = .ok (.iload_n 3, 1) := by decide +kernel
theorem dL_law_619 : decode cL_law 619 = .ok (.iconst 1, 1) := by decide +kernel
theorem dL_law_620 : decode cL_law 620 = .ok (.iadd, 1) := by decide +kernel
theorem dL_law_621 : decode cL_law 621 = .ok (.iaload, 1) := by decide +kernel
theorem dL_law_622 : decode cL_law 622 = .ok (.aload_n 0, 1) := by decide +kernel
theorem dL_law_623 : decode cL_law 623 = .ok (.iload_n 3, 1) := by decide +kernel
theorem dL_law_624 : decode cL_law 624 = .ok (.iconst 2, 1) := by decide +kernel
theorem dL_law_625 : decode cL_law 625 = .ok (.iadd, 1) := by decide +kernel
theorem dL_law_626 : decode cL_law 626 = .ok (.iaload, 1) := by decide +kernel
theorem dL_law_627 : decode cL_law 627 = .ok (.invokevirtual 84, 3) := by decide +kernel
theorem dL_law_630 : decode cL_law 630 = .ok (.if_icmp .eq 193, 3) := by decide +kernel
theorem dL_law_633 : decode cL_law 633 = .ok (.iconst 0, 1) := by decide +kernel
theorem dL_law_634 : decode cL_law 634 = .ok (.ireturn, 1) := by decide +kernel
theorem dL_law_635 : decode cL_law 635 = .ok (.aload_n 1, 1) := by decide +kernel
theorem dL_law_636 : decode cL_law 636 = .ok (.aload_n 0, 1) := by decide +kernel
theorem dL_law_637 : decode cL_law 637 = .ok (.iload_n 3, 1) := by decide +kernel
theorem dL_law_638 : decode cL_law 638 = .ok (.iconst 1, 1) := by decide +kernel
theorem dL_law_639 : decode cL_law 639 = .ok (.iadd, 1) := by decide +kernel
theorem dL_law_640 : decode cL_law 640 = .ok (.iaload, 1) := by decide +kernel
theorem dL_law_641 : decode cL_law 641 = .ok (.aload_n 0, 1) := by decide +kernel
theorem dL_law_642 : decode cL_law 642 = .ok (.iload_n 3, 1) := by decide +kernel
theorem dL_law_643 : decode cL_law 643 = .ok (.iconst 2, 1) := by decide +kernel
theorem dL_law_644 : decode cL_law 644 = .ok (.iadd, 1) := by decide +kernel
theorem dL_law_645 : decode cL_law 645 = .ok (.iaload, 1) := by decide +kernel
theorem dL_law_646 : decode cL_law 646 = .ok (.aload_n 0, 1) := by decide +kernel
theorem dL_law_647 : decode cL_law 647 = .ok (.iload_n 3, 1) := by decide +kernel
theorem dL_law_648 : decode cL_law 648 = .ok (.iconst 3, 1) := by decide +kernel
theorem dL_law_649 : decode cL_law 649 = .ok (.iadd, 1) := by decide +kernel
theorem dL_law_650 : decode cL_law 650 = .ok (.iaload, 1) := by decide +kernel
theorem dL_law_651 : decode cL_law 651 = .ok (.aload_n 0, 1) := by decide +kernel
theorem dL_law_652 : decode cL_law 652 = .ok (.iload_n 3, 1) := by decide +kernel
theorem dL_law_653 : decode cL_law 653 = .ok (.iconst 4, 1) := by decide +kernel
theorem dL_law_654 : decode cL_law 654 = .ok (.iadd, 1) := by decide +kernel
theorem dL_law_655 : decode cL_law 655 = .ok (.iaload, 1) := by decide +kernel
theorem dL_law_656 : decode cL_law 656 = .ok (.ifCond .eq 7, 3) := by decide +kernel
theorem dL_law_659 : decode cL_law 659 = .ok (.iconst 1, 1) := by decide +kernel
theorem dL_law_660 : decode cL_law 660 = .ok (.goto 4, 3) := by decide +kernel
theorem dL_law_663 : decode cL_law 663 = .ok (.iconst 0, 1) := by decide +kernel
theorem dL_law_664 : decode cL_law 664 = .ok (.invokevirtual 85, 3) := by decide +kernel
theorem dL_law_667 : decode cL_law 667 = .ok (.aload_n 2, 1) := by decide +kernel
theorem dL_law_668 : decode cL_law 668 = .ok (.aload_n 0, 1) := by decide +kernel
theorem dL_law_669 : decode cL_law 669 = .ok (.iload_n 3, 1) := by decide +kernel
theorem dL_law_670 : decode cL_law 670 = .ok (.iconst 1, 1) := by decide +kernel
theorem dL_law_671 : decode cL_law 671 = .ok (.iadd, 1) := by decide +kernel
theorem dL_law_672 : decode cL_law 672 = .ok (.iaload, 1) := by decide +kernel
theorem dL_law_673 : decode cL_law 673 = .ok (.aload_n 0, 1) := by decide +kernel
theorem dL_law_674 : decode cL_law 674 = .ok (.iload_n 3, 1) := by decide +kernel
theorem dL_law_675 : decode cL_law 675 = .ok (.iconst 2, 1) := by decide +kernel
theorem dL_law_676 : decode cL_law 676 = .ok (.iadd, 1) := by decide +kernel
theorem dL_law_677 : decode cL_law 677 = .ok (.iaload, 1) := by decide +kernel
theorem dL_law_678 : decode cL_law 678 = .ok (.aload_n 0, 1) := by decide +kernel
theorem dL_law_679 : decode cL_law 679 = .ok (.iload_n 3, 1) := by decide +kernel
theorem dL_law_680 : decode cL_law 680 = .ok (.iconst 3, 1) := by decide +kernel
theorem dL_law_681 : decode cL_law 681 = .ok (.iadd, 1) := by decide +kernel
theorem dL_law_682 : decode cL_law 682 = .ok (.iaload, 1) := by decide +kernel
theorem dL_law_683 : decode cL_law 683 = .ok (.aload_n 0, 1) := by decide +kernel
theorem dL_law_684 : decode cL_law 684 = .ok (.iload_n 3, 1) := by decide +kernel
theorem dL_law_685 : decode cL_law 685 = .ok (.iconst 4, 1) := by decide +kernel
theorem dL_law_686 : decode cL_law 686 = .ok (.iadd, 1) := by decide +kernel
theorem dL_law_687 : decode cL_law 687 = .ok (.iaload, 1) := by decide +kernel
theorem dL_law_688 : decode cL_law 688 = .ok (.ifCond .eq 7, 3) := by decide +kernel
theorem dL_law_691 : decode cL_law 691 = .ok (.iconst 1, 1) := by decide +kernel
theorem dL_law_692 : decode cL_law 692 = .ok (.goto 4, 3) := by decide +kernel
theorem dL_law_695 : decode cL_law 695 = .ok (.iconst 0, 1) := by decide +kernel
theorem dL_law_696 : decode cL_law 696 = .ok (.invokevirtual 89, 3) := by decide +kernel
theorem dL_law_699 : decode cL_law 699 = .ok (.if_icmp .eq 124, 3) := by decide +kernel
theorem dL_law_702 : decode cL_law 702 = .ok (.iconst 0, 1) := by decide +kernel
theorem dL_law_703 : decode cL_law 703 = .ok (.ireturn, 1) := by decide +kernel
theorem dL_law_704 : decode cL_law 704 = .ok (.aload_n 1, 1) := by decide +kernel
theorem dL_law_705 : decode cL_law 705 = .ok (.invokevirtual 90, 3) := by decide +kernel
theorem dL_law_708 : decode cL_law 708 = .ok (.aload_n 2, 1) := by decide +kernel
theorem dL_law_709 : decode cL_law 709 = .ok (.invokevirtual 93, 3) := by decide +kernel
theorem dL_law_712 : decode cL_law 712 = .ok (.if_icmp .eq 111, 3) := by decide +kernel
theorem dL_law_715 : decode cL_law 715 = .ok (.iconst 0, 1) := by decide +kernel
theorem dL_law_716 : decode cL_law 716 = .ok (.ireturn, 1) := by decide +kernel
theorem dL_law_717 : decode cL_law 717 = .ok (.aload_n 1, 1) := by decide +kernel
theorem dL_law_718 : decode cL_law 718 = .ok (.aload_n 0, 1) := by decide +kernel
theorem dL_law_719 : decode cL_law 719 = .ok (.iload_n 3, 1) := by decide +kernel
theorem dL_law_720 : decode cL_law 720 = .ok (.iconst 1, 1) := by decide +kernel
theorem dL_law_721 : decode cL_law 721 = .ok (.iadd, 1) := by decide +kernel
theorem dL_law_722 : decode cL_law 722 = .ok (.iaload, 1) := by decide +kernel
theorem dL_law_723 : decode cL_law 723 = .ok (.aload_n 0, 1) := by decide +kernel
theorem dL_law_724 : decode cL_law 724 = .ok (.iload_n 3, 1) := by decide +kernel
theorem dL_law_725 : decode cL_law 725 = .ok (.iconst 2, 1) := by decide +kernel
theorem dL_law_726 : decode cL_law 726 = .ok (.iadd, 1) := by decide +kernel
theorem dL_law_727 : decode cL_law 727 = .ok (.iaload, 1) := by decide +kernel
theorem dL_law_728 : decode cL_law 728 = .ok (.aload_n 0, 1) := by decide +kernel
theorem dL_law_729 : decode cL_law 729 = .ok (.iload_n 3, 1) := by decide +kernel
theorem dL_law_730 : decode cL_law 730 = .ok (.iconst 3, 1) := by decide +kernel
theorem dL_law_731 : decode cL_law 731 = .ok (.iadd, 1) := by decide +kernel
theorem dL_law_732 : decode cL_law 732 = .ok (.iaload, 1) := by decide +kernel
theorem dL_law_733 : decode cL_law 733 = .ok (.invokevirtual 94, 3) := by decide +kernel
theorem dL_law_736 : decode cL_law 736 = .ok (.aload_n 2, 1) := by decide +kernel
theorem dL_law_737 : decode cL_law 737 = .ok (.aload_n 0, 1) := by decide +kernel
theorem dL_law_738 : decode cL_law 738 = .ok (.iload_n 3, 1) := by decide +kernel
theorem dL_law_739 : decode cL_law 739 = .ok (.iconst 1, 1) := by decide +kernel
theorem dL_law_740 : decode cL_law 740 = .ok (.iadd, 1) := by decide +kernel
theorem dL_law_741 : decode cL_law 741 = .ok (.iaload, 1) := by decide +kernel
theorem dL_law_742 : decode cL_law 742 = .ok (.aload_n 0, 1) := by decide +kernel
theorem dL_law_743 : decode cL_law 743 = .ok (.iload_n 3, 1) := by decide +kernel
theorem dL_law_744 : decode cL_law 744 = .ok (.iconst 2, 1) := by decide +kernel
theorem dL_law_745 : decode cL_law 745 = .ok (.iadd, 1) := by decide +kernel
theorem dL_law_746 : decode cL_law 746 = .ok (.iaload, 1) := by decide +kernel
theorem dL_law_747 : decode cL_law 747 = .ok (.aload_n 0, 1) := by decide +kernel
theorem dL_law_748 : decode cL_law 748 = .ok (.iload_n 3, 1) := by decide +kernel
theorem dL_law_749 : decode cL_law 749 = .ok (.iconst 3, 1) := by decide +kernel
theorem dL_law_750 : decode cL_law 750 = .ok (.iadd, 1) := by decide +kernel
theorem dL_law_751 : decode cL_law 751 = .ok (.iaload, 1) := by decide +kernel
theorem dL_law_752 : decode cL_law 752 = .ok (.invokevirtual 97, 3) := by decide +kernel
theorem dL_law_755 : decode cL_law 755 = .ok (.if_icmp .eq 68, 3) := by decide +kernel
theorem dL_law_758 : decode cL_law 758 = .ok (.iconst 0, 1) := by decide +kernel
theorem dL_law_759 : decode cL_law 759 = .ok (.ireturn, 1) := by decide +kernel
theorem dL_law_760 : decode cL_law 760 = .ok (.aload_n 1, 1) := by decide +kernel
theorem dL_law_761 : decode cL_law 761 = .ok (.invokevirtual 98, 3) := by decide +kernel
theorem dL_law_764 : decode cL_law 764 = .ok (.aload_n 2, 1) := by decide +kernel
theorem dL_law_765 : decode cL_law 765 = .ok (.invokevirtual 101, 3) := by decide +kernel
theorem dL_law_768 : decode cL_law 768 = .ok (.if_icmp .eq 55, 3) := by decide +kernel
theorem dL_law_771 : decode cL_law 771 = .ok (.iconst 0, 1) := by decide +kernel
theorem dL_law_772 : decode cL_law 772 = .ok (.ireturn, 1) := by decide +kernel
theorem dL_law_773 : decode cL_law 773 = .ok (.aload_n 1, 1) := by decide +kernel
theorem dL_law_774 : decode cL_law 774 = .ok (.invokevirtual 102, 3) := by decide +kernel
theorem dL_law_777 : decode cL_law 777 = .ok (.aload_n 2, 1) := by decide +kernel
theorem dL_law_778 : decode cL_law 778 = .ok (.invokevirtual 105, 3) := by decide +kernel
theorem dL_law_781 : decode cL_law 781 = .ok (.if_icmp .eq 42, 3) := by decide +kernel
theorem dL_law_784 : decode cL_law 784 = .ok (.iconst 0, 1) := by decide +kernel
theorem dL_law_785 : decode cL_law 785 = .ok (.ireturn, 1) := by decide +kernel
theorem dL_law_786 : decode cL_law 786 = .ok (.aload_n 1, 1) := by decide +kernel
theorem dL_law_787 : decode cL_law 787 = .ok (.aload_n 0, 1) := by decide +kernel
theorem dL_law_788 : decode cL_law 788 = .ok (.iload_n 3, 1) := by decide +kernel
theorem dL_law_789 : decode cL_law 789 = .ok (.iconst 1, 1) := by decide +kernel
theorem dL_law_790 : decode cL_law 790 = .ok (.iadd, 1) := by decide +kernel
theorem dL_law_791 : decode cL_law 791 = .ok (.iaload, 1) := by decide +kernel
theorem dL_law_792 : decode cL_law 792 = .ok (.invokevirtual 106, 3) := by decide +kernel
theorem dL_law_795 : decode cL_law 795 = .ok (.aload_n 2, 1) := by decide +kernel
theorem dL_law_796 : decode cL_law 796 = .ok (.aload_n 0, 1) := by decide +kernel
theorem dL_law_797 : decode cL_law 797 = .ok (.iload_n 3, 1) := by decide +kernel
theorem dL_law_798 : decode cL_law 798 = .ok (.iconst 1, 1) := by decide +kernel
theorem dL_law_799 : decode cL_law 799 = .ok (.iadd, 1) := by decide +kernel
theorem dL_law_800 : decode cL_law 800 = .ok (.iaload, 1) := by decide +kernel
theorem dL_law_801 : decode cL_law 801 = .ok (.invokevirtual 109, 3) := by decide +kernel
theorem dL_law_804 : decode cL_law 804 = .ok (.if_icmp .eq 19, 3) := by decide +kernel
theorem dL_law_807 : decode cL_law 807 = .ok (.iconst 0, 1) := by decide +kernel
theorem dL_law_808 : decode cL_law 808 = .ok (.ireturn, 1) := by decide +kernel
theorem dL_law_809 : decode cL_law 809 = .ok (.aload_n 1, 1) := by decide +kernel
theorem dL_law_810 : decode cL_law 810 = .ok (.invokevirtual 110, 3) := by decide +kernel
theorem dL_law_813 : decode cL_law 813 = .ok (.aload_n 2, 1) := by decide +kernel
theorem dL_law_814 : decode cL_law 814 = .ok (.invokevirtual 114, 3) := by decide +kernel
theorem dL_law_817 : decode cL_law 817 = .ok (.lcmp, 1) := by decide +kernel
theorem dL_law_818 : decode cL_law 818 = .ok (.ifCond .eq 5, 3) := by decide +kernel
theorem dL_law_821 : decode cL_law 821 = .ok (.iconst 0, 1) := by decide +kernel
theorem dL_law_822 : decode cL_law 822 = .ok (.ireturn, 1) := by decide +kernel
theorem dL_law_823 : decode cL_law 823 = .ok (.iinc 3 5, 3) := by decide +kernel
theorem dL_law_826 : decode cL_law 826 = .ok (.goto (-808), 3) := by decide +kernel
theorem dL_law_829 : decode cL_law 829 = .ok (.iconst 1, 1) := by decide +kernel
theorem dL_law_830 : decode cL_law 830 = .ok (.ireturn, 1) := by decide +kernel
end
section
theorem wc_X4_init : Cond.code yX4_init cX4_init 1 none ∈ wsG := wsG_in 76 (by decide +kernel) rfl
theorem wi_X4_init : Cond.instanceMethod yX4_init ∈ wsG := wsG_in 75 (by decide +kernel) rfl
theorem wc_X2_init : Cond.code yX2_init cX2_init 1 none ∈ wsG := wsG_in 84 (by decide +kernel) rfl
theorem wi_X2_init : Cond.instanceMethod yX2_init ∈ wsG := wsG_in 83 (by decide +kernel) rfl
theorem wc_X0_init : Cond.code yX0_init cX0_init 1 none ∈ wsG := wsG_in 109 (by decide +kernel) rfl
theorem wi_X0_init : Cond.instanceMethod yX0_init ∈ wsG := wsG_in 108 (by decide +kernel) rfl
theorem wc_X3_init : Cond.code yX3_init cX3_init 1 none ∈ wsG := wsG_in 173 (by decide +kernel) rfl
theorem wi_X3_init : Cond.instanceMethod yX3_init ∈ wsG := wsG_in 172 (by decide +kernel) rfl
theorem wc_X1_init : Cond.code yX1_init cX1_init 1 none ∈ wsG := wsG_in 200 (by decide +kernel) rfl
theorem wi_X1_init : Cond.instanceMethod yX1_init ∈ wsG := wsG_in 199 (by decide +kernel) rfl
theorem wc_X4_letter : Cond.code yX4_letter cX4_letter 2 (some .int) ∈ wsG := wsG_in 258 (by decide +kernel) rfl
theorem wi_X4_letter : Cond.instanceMethod yX4_letter ∈ wsG := wsG_in 256 (by decide +kernel) rfl
theorem we_X4_letter : Cond.selects RX4 yX4_letter yX4_letter ∈ wsG := wsG_in 257 (by decide +kernel) rfl
theorem wc_X2_append : Cond.code yX2_append cX2_append 2 none ∈ wsG := wsG_in 262 (by decide +kernel) rfl
theorem wi_X2_append : Cond.instanceMethod yX2_append ∈ wsG := wsG_in 260 (by decide +kernel) rfl
theorem we_X2_append : Cond.selects RX2 yX2_append yX2_append ∈ wsG := wsG_in 261 (by decide +kernel) rfl
theorem wc_X4_blank : Cond.code yX4_blank cX4_blank 2 (some .int) ∈ wsG := wsG_in 266 (by decide +kernel) rfl
theorem wi_X4_blank : Cond.instanceMethod yX4_blank ∈ wsG := wsG_in 264 (by decide +kernel) rfl
theorem we_X4_blank : Cond.selects RX4 yX4_blank yX4_blank ∈ wsG := wsG_in 265 (by decide +kernel) rfl
theorem wc_X4_fault : Cond.code yX4_fault cX4_fault 1 (some .int) ∈ wsG := wsG_in 270 (by decide +kernel) rfl
theorem wi_X4_fault : Cond.instanceMethod yX4_fault ∈ wsG := wsG_in 268 (by decide +kernel) rfl
theorem we_X4_fault : Cond.selects RX4 yX4_fault yX4_fault ∈ wsG := wsG_in 269 (by decide +kernel) rfl
theorem wc_X2_scan : Cond.code yX2_scan cX2_scan 2 (some .int) ∈ wsG := wsG_in 274 (by decide +kernel) rfl
theorem wi_X2_scan : Cond.instanceMethod yX2_scan ∈ wsG := wsG_in 272 (by decide +kernel) rfl
theorem we_X2_scan : Cond.selects RX2 yX2_scan yX2_scan ∈ wsG := wsG_in 273 (by decide +kernel) rfl
theorem wc_X2_dueBehind : Cond.code yX2_dueBehind cX2_dueBehind 2 (some .int) ∈ wsG := wsG_in 278 (by decide +kernel) rfl
theorem wi_X2_dueBehind : Cond.instanceMethod yX2_dueBehind ∈ wsG := wsG_in 277 (by decide +kernel) rfl
theorem we_X2_dueBehind : Cond.selects RX2 yX2_dueBehind yX2_dueBehind ∈ wsG := wsG_in 0 (by decide +kernel) rfl
theorem wc_X2_behindBase : Cond.code yX2_behindBase cX2_behindBase 2 (some .int) ∈ wsG := wsG_in 282 (by decide +kernel) rfl
theorem wi_X2_behindBase : Cond.instanceMethod yX2_behindBase ∈ wsG := wsG_in 281 (by decide +kernel) rfl
theorem we_X2_behindBase : Cond.selects RX2 yX2_behindBase yX2_behindBase ∈ wsG := wsG_in 1 (by decide +kernel) rfl
theorem wc_X2_isDigit : Cond.code yX2_isDigit cX2_isDigit 3 (some .boolean) ∈ wsG := wsG_in 285 (by decide +kernel) rfl
theorem wt_X2_isDigit : Cond.static yX2_isDigit ∈ wsG := wsG_in 284 (by decide +kernel) rfl
theorem wc_X2_behindBaseSign : Cond.code yX2_behindBaseSign cX2_behindBaseSign 2 (some .int) ∈ wsG := wsG_in 289 (by decide +kernel) rfl
theorem wi_X2_behindBaseSign : Cond.instanceMethod yX2_behindBaseSign ∈ wsG := wsG_in 288 (by decide +kernel) rfl
theorem we_X2_behindBaseSign : Cond.selects RX2 yX2_behindBaseSign yX2_behindBaseSign ∈ wsG := wsG_in 2 (by decide +kernel) rfl
theorem wc_J0_indexOf_0f7a4 : Cond.code yJ0_indexOf_0f7a4 cJ0_indexOf_0f7a4 2 (some .int) ∈ wsG := wsG_in 294 (by decide +kernel) rfl
theorem wi_J0_indexOf_0f7a4 : Cond.instanceMethod yJ0_indexOf_0f7a4 ∈ wsG := wsG_in 292 (by decide +kernel) rfl
theorem we_J0_indexOf_0f7a4 : Cond.selects RJ0 yJ0_indexOf_0f7a4 yJ0_indexOf_0f7a4 ∈ wsG := wsG_in 293 (by decide +kernel) rfl
theorem wc_J0_indexOf_7cf53 : Cond.code yJ0_indexOf_7cf53 cJ0_indexOf_7cf53 3 (some .int) ∈ wsG := wsG_in 298 (by decide +kernel) rfl
theorem wi_J0_indexOf_7cf53 : Cond.instanceMethod yJ0_indexOf_7cf53 ∈ wsG := wsG_in 296 (by decide +kernel) rfl
theorem we_J0_indexOf_7cf53 : Cond.selects RJ0 yJ0_indexOf_7cf53 yJ0_indexOf_7cf53 ∈ wsG := wsG_in 297 (by decide +kernel) rfl
theorem wc_J0_isLatin1_aae02 : Cond.code yJ0_isLatin1_aae02 cJ0_isLatin1_aae02 1 (some .boolean) ∈ wsG := wsG_in 302 (by decide +kernel) rfl
theorem wi_J0_isLatin1_aae02 : Cond.instanceMethod yJ0_isLatin1_aae02 ∈ wsG := wsG_in 300 (by decide +kernel) rfl
theorem we_J0_isLatin1_aae02 : Cond.selects RJ0 yJ0_isLatin1_aae02 yJ0_isLatin1_aae02 ∈ wsG := wsG_in 301 (by decide +kernel) rfl
theorem wc_J0_length_8abf5 : Cond.code yJ0_length_8abf5 cJ0_length_8abf5 1 (some .int) ∈ wsG := wsG_in 308 (by decide +kernel) rfl
theorem wi_J0_length_8abf5 : Cond.instanceMethod yJ0_length_8abf5 ∈ wsG := wsG_in 306 (by decide +kernel) rfl
theorem we_J0_length_8abf5 : Cond.selects RJ0 yJ0_length_8abf5 yJ0_length_8abf5 ∈ wsG := wsG_in 307 (by decide +kernel) rfl
theorem wc_J0_coder_7d493 : Cond.code yJ0_coder_7d493 cJ0_coder_7d493 1 (some .byte) ∈ wsG := wsG_in 312 (by decide +kernel) rfl
theorem wi_J0_coder_7d493 : Cond.instanceMethod yJ0_coder_7d493 ∈ wsG := wsG_in 310 (by decide +kernel) rfl
theorem we_J0_coder_7d493 : Cond.selects RJ0 yJ0_coder_7d493 yJ0_coder_7d493 ∈ wsG := wsG_in 311 (by decide +kernel) rfl
theorem wc_J1_indexOf_4cfef : Cond.code yJ1_indexOf_4cfef cJ1_indexOf_4cfef 4 (some .int) ∈ wsG := wsG_in 315 (by decide +kernel) rfl
theorem wt_J1_indexOf_4cfef : Cond.static yJ1_indexOf_4cfef ∈ wsG := wsG_in 314 (by decide +kernel) rfl
theorem wc_J1_canEncode_9a6ad : Cond.code yJ1_canEncode_9a6ad cJ1_canEncode_9a6ad 1 (some .boolean) ∈ wsG := wsG_in 318 (by decide +kernel) rfl
theorem wt_J1_canEncode_9a6ad : Cond.static yJ1_canEncode_9a6ad ∈ wsG := wsG_in 317 (by decide +kernel) rfl
theorem wc_J9_max_7cf53 : Cond.code yJ9_max_7cf53 cJ9_max_7cf53 2 (some .int) ∈ wsG := wsG_in 321 (by decide +kernel) rfl
theorem wt_J9_max_7cf53 : Cond.static yJ9_max_7cf53 ∈ wsG := wsG_in 320 (by decide +kernel) rfl
theorem wc_J9_min_7cf53 : Cond.code yJ9_min_7cf53 cJ9_min_7cf53 2 (some .int) ∈ wsG := wsG_in 324 (by decide +kernel) rfl
theorem wt_J9_min_7cf53 : Cond.static yJ9_min_7cf53 ∈ wsG := wsG_in 323 (by decide +kernel) rfl
theorem wc_J1_indexOfChar_4cfef : Cond.code yJ1_indexOfChar_4cfef cJ1_indexOfChar_4cfef 6 (some .int) ∈ wsG := wsG_in 327 (by decide +kernel) rfl
theorem wt_J1_indexOfChar_4cfef : Cond.static yJ1_indexOfChar_4cfef ∈ wsG := wsG_in 326 (by decide +kernel) rfl
theorem wc_J2_indexOf_4cfef : Cond.code yJ2_indexOf_4cfef cJ2_indexOf_4cfef 4 (some .int) ∈ wsG := wsG_in 330 (by decide +kernel) rfl
theorem wt_J2_indexOf_4cfef : Cond.static yJ2_indexOf_4cfef ∈ wsG := wsG_in 329 (by decide +kernel) rfl
theorem wc_J2_indexOfChar_4cfef : Cond.code yJ2_indexOfChar_4cfef cJ2_indexOfChar_4cfef 4 (some .int) ∈ wsG := wsG_in 336 (by decide +kernel) rfl
theorem wt_J2_indexOfChar_4cfef : Cond.static yJ2_indexOfChar_4cfef ∈ wsG := wsG_in 335 (by decide +kernel) rfl
theorem wc_J2_checkBoundsBeginEnd_d044e : Cond.code yJ2_checkBoundsBeginEnd_d044e cJ2_checkBoundsBeginEnd_d044e 3 none ∈ wsG := wsG_in 339 (by decide +kernel) rfl
theorem wt_J2_checkBoundsBeginEnd_d044e : Cond.static yJ2_checkBoundsBeginEnd_d044e ∈ wsG := wsG_in 338 (by decide +kernel) rfl
theorem wc_J2_length_9d52b : Cond.code yJ2_length_9d52b cJ2_length_9d52b 1 (some .int) ∈ wsG := wsG_in 342 (by decide +kernel) rfl
theorem wt_J2_length_9d52b : Cond.static yJ2_length_9d52b ∈ wsG := wsG_in 341 (by decide +kernel) rfl
theorem wc_J0_checkBoundsBeginEnd_23922 : Cond.code yJ0_checkBoundsBeginEnd_23922 cJ0_checkBoundsBeginEnd_23922 3 none ∈ wsG := wsG_in 345 (by decide +kernel) rfl
theorem wt_J0_checkBoundsBeginEnd_23922 : Cond.static yJ0_checkBoundsBeginEnd_23922 ∈ wsG := wsG_in 344 (by decide +kernel) rfl
theorem wc_J3_checkFromToIndex_8c36e : Cond.code yJ3_checkFromToIndex_8c36e cJ3_checkFromToIndex_8c36e 4 (some .int) ∈ wsG := wsG_in 350 (by decide +kernel) rfl
theorem wt_J3_checkFromToIndex_8c36e : Cond.static yJ3_checkFromToIndex_8c36e ∈ wsG := wsG_in 349 (by decide +kernel) rfl
theorem wc_J2_indexOfCharUnsafe_4cfef : Cond.code yJ2_indexOfCharUnsafe_4cfef cJ2_indexOfCharUnsafe_4cfef 5 (some .int) ∈ wsG := wsG_in 353 (by decide +kernel) rfl
theorem wt_J2_indexOfCharUnsafe_4cfef : Cond.static yJ2_indexOfCharUnsafe_4cfef ∈ wsG := wsG_in 352 (by decide +kernel) rfl
theorem wc_J2_getChar_3b067 : Cond.code yJ2_getChar_3b067 cJ2_getChar_3b067 2 (some .char) ∈ wsG := wsG_in 356 (by decide +kernel) rfl
theorem wt_J2_getChar_3b067 : Cond.static yJ2_getChar_3b067 ∈ wsG := wsG_in 355 (by decide +kernel) rfl
theorem wc_J2_indexOfSupplementary_4cfef : Cond.code yJ2_indexOfSupplementary_4cfef cJ2_indexOfSupplementary_4cfef 7 (some .int) ∈ wsG := wsG_in 365 (by decide +kernel) rfl
theorem wt_J2_indexOfSupplementary_4cfef : Cond.static yJ2_indexOfSupplementary_4cfef ∈ wsG := wsG_in 364 (by decide +kernel) rfl
theorem wc_J11_isValidCodePoint_9a6ad : Cond.code yJ11_isValidCodePoint_9a6ad cJ11_isValidCodePoint_9a6ad 2 (some .boolean) ∈ wsG := wsG_in 368 (by decide +kernel) rfl
theorem wt_J11_isValidCodePoint_9a6ad : Cond.static yJ11_isValidCodePoint_9a6ad ∈ wsG := wsG_in 367 (by decide +kernel) rfl
theorem wc_J11_highSurrogate_5068e : Cond.code yJ11_highSurrogate_5068e cJ11_highSurrogate_5068e 1 (some .char) ∈ wsG := wsG_in 371 (by decide +kernel) rfl
theorem wt_J11_highSurrogate_5068e : Cond.static yJ11_highSurrogate_5068e ∈ wsG := wsG_in 370 (by decide +kernel) rfl
theorem wc_J11_lowSurrogate_5068e : Cond.code yJ11_lowSurrogate_5068e cJ11_lowSurrogate_5068e 1 (some .char) ∈ wsG := wsG_in 375 (by decide +kernel) rfl
theorem wt_J11_lowSurrogate_5068e : Cond.static yJ11_lowSurrogate_5068e ∈ wsG := wsG_in 374 (by decide +kernel) rfl
theorem wc_X2_behindPlace : Cond.code yX2_behindPlace cX2_behindPlace 2 (some .int) ∈ wsG := wsG_in 380 (by decide +kernel) rfl
theorem wi_X2_behindPlace : Cond.instanceMethod yX2_behindPlace ∈ wsG := wsG_in 379 (by decide +kernel) rfl
theorem we_X2_behindPlace : Cond.selects RX2 yX2_behindPlace yX2_behindPlace ∈ wsG := wsG_in 3 (by decide +kernel) rfl
theorem wc_X4_table : Cond.code yX4_table cX4_table 1 (some .int) ∈ wsG := wsG_in 385 (by decide +kernel) rfl
theorem wi_X4_table : Cond.instanceMethod yX4_table ∈ wsG := wsG_in 383 (by decide +kernel) rfl
theorem we_X4_table : Cond.selects RX4 yX4_table yX4_table ∈ wsG := wsG_in 384 (by decide +kernel) rfl
theorem wc_X2_isTable : Cond.code yX2_isTable cX2_isTable 1 (some .boolean) ∈ wsG := wsG_in 389 (by decide +kernel) rfl
theorem wi_X2_isTable : Cond.instanceMethod yX2_isTable ∈ wsG := wsG_in 387 (by decide +kernel) rfl
theorem we_X2_isTable : Cond.selects RX2 yX2_isTable yX2_isTable ∈ wsG := wsG_in 388 (by decide +kernel) rfl
theorem wc_X2_readInto : Cond.code yX2_readInto cX2_readInto 4 none ∈ wsG := wsG_in 394 (by decide +kernel) rfl
theorem wi_X2_readInto : Cond.instanceMethod yX2_readInto ∈ wsG := wsG_in 392 (by decide +kernel) rfl
theorem we_X2_readInto : Cond.selects RX2 yX2_readInto yX2_readInto ∈ wsG := wsG_in 393 (by decide +kernel) rfl
theorem wc_X0_clear : Cond.code yX0_clear cX0_clear 4 none ∈ wsG := wsG_in 398 (by decide +kernel) rfl
theorem wi_X0_clear : Cond.instanceMethod yX0_clear ∈ wsG := wsG_in 396 (by decide +kernel) rfl
theorem we_X0_clear : Cond.selects RX0 yX0_clear yX0_clear ∈ wsG := wsG_in 397 (by decide +kernel) rfl
theorem wc_X2_digitAt : Cond.code yX2_digitAt cX2_digitAt 2 (some .int) ∈ wsG := wsG_in 404 (by decide +kernel) rfl
theorem wi_X2_digitAt : Cond.instanceMethod yX2_digitAt ∈ wsG := wsG_in 403 (by decide +kernel) rfl
theorem we_X2_digitAt : Cond.selects RX2 yX2_digitAt yX2_digitAt ∈ wsG := wsG_in 4 (by decide +kernel) rfl
theorem wc_X2_kindAt : Cond.code yX2_kindAt cX2_kindAt 2 (some .int) ∈ wsG := wsG_in 408 (by decide +kernel) rfl
theorem wi_X2_kindAt : Cond.instanceMethod yX2_kindAt ∈ wsG := wsG_in 407 (by decide +kernel) rfl
theorem we_X2_kindAt : Cond.selects RX2 yX2_kindAt yX2_kindAt ∈ wsG := wsG_in 5 (by decide +kernel) rfl
theorem wc_X4_weight : Cond.code yX4_weight cX4_weight 3 (some .int) ∈ wsG := wsG_in 412 (by decide +kernel) rfl
theorem wi_X4_weight : Cond.instanceMethod yX4_weight ∈ wsG := wsG_in 410 (by decide +kernel) rfl
theorem we_X4_weight : Cond.selects RX4 yX4_weight yX4_weight ∈ wsG := wsG_in 411 (by decide +kernel) rfl
theorem wc_X4_isWeight : Cond.code yX4_isWeight cX4_isWeight 2 (some .boolean) ∈ wsG := wsG_in 416 (by decide +kernel) rfl
theorem wi_X4_isWeight : Cond.instanceMethod yX4_isWeight ∈ wsG := wsG_in 415 (by decide +kernel) rfl
theorem we_X4_isWeight : Cond.selects RX4 yX4_isWeight yX4_isWeight ∈ wsG := wsG_in 6 (by decide +kernel) rfl
theorem wc_X4_bearing : Cond.code yX4_bearing cX4_bearing 3 (some .int) ∈ wsG := wsG_in 419 (by decide +kernel) rfl
theorem wt_X4_bearing : Cond.static yX4_bearing ∈ wsG := wsG_in 418 (by decide +kernel) rfl
theorem wc_X3_possibleOunces : Cond.code yX3_possibleOunces cX3_possibleOunces 6 (some .int) ∈ wsG := wsG_in 423 (by decide +kernel) rfl
theorem wi_X3_possibleOunces : Cond.instanceMethod yX3_possibleOunces ∈ wsG := wsG_in 421 (by decide +kernel) rfl
theorem we_X3_possibleOunces : Cond.selects RX3 yX3_possibleOunces yX3_possibleOunces ∈ wsG := wsG_in 422 (by decide +kernel) rfl
theorem wc_X0_holdIfOunces : Cond.code yX0_holdIfOunces cX0_holdIfOunces 6 (some .int) ∈ wsG := wsG_in 427 (by decide +kernel) rfl
theorem wi_X0_holdIfOunces : Cond.instanceMethod yX0_holdIfOunces ∈ wsG := wsG_in 425 (by decide +kernel) rfl
theorem we_X0_holdIfOunces : Cond.selects RX0 yX0_holdIfOunces yX0_holdIfOunces ∈ wsG := wsG_in 426 (by decide +kernel) rfl
theorem wc_X0_holdBut : Cond.code yX0_holdBut cX0_holdBut 6 (some .int) ∈ wsG := wsG_in 432 (by decide +kernel) rfl
theorem wi_X0_holdBut : Cond.instanceMethod yX0_holdBut ∈ wsG := wsG_in 430 (by decide +kernel) rfl
theorem we_X0_holdBut : Cond.selects RX0 yX0_holdBut yX0_holdBut ∈ wsG := wsG_in 431 (by decide +kernel) rfl
theorem wc_X4_leverage : Cond.code yX4_leverage cX4_leverage 2 (some .int) ∈ wsG := wsG_in 435 (by decide +kernel) rfl
theorem wt_X4_leverage : Cond.static yX4_leverage ∈ wsG := wsG_in 434 (by decide +kernel) rfl
theorem wc_X4_liftsAt : Cond.code yX4_liftsAt cX4_liftsAt 2 (some .boolean) ∈ wsG := wsG_in 438 (by decide +kernel) rfl
theorem wt_X4_liftsAt : Cond.static yX4_liftsAt ∈ wsG := wsG_in 437 (by decide +kernel) rfl
theorem wc_X3_windToWaitFor : Cond.code yX3_windToWaitFor cX3_windToWaitFor 9 (some .int) ∈ wsG := wsG_in 442 (by decide +kernel) rfl
theorem wi_X3_windToWaitFor : Cond.instanceMethod yX3_windToWaitFor ∈ wsG := wsG_in 440 (by decide +kernel) rfl
theorem we_X3_windToWaitFor : Cond.selects RX3 yX3_windToWaitFor yX3_windToWaitFor ∈ wsG := wsG_in 441 (by decide +kernel) rfl
theorem wc_X3_fillHolds : Cond.code yX3_fillHolds cX3_fillHolds 5 none ∈ wsG := wsG_in 447 (by decide +kernel) rfl
theorem wi_X3_fillHolds : Cond.instanceMethod yX3_fillHolds ∈ wsG := wsG_in 446 (by decide +kernel) rfl
theorem we_X3_fillHolds : Cond.selects RX3 yX3_fillHolds yX3_fillHolds ∈ wsG := wsG_in 7 (by decide +kernel) rfl
theorem wc_X3_leftAtWorst : Cond.code yX3_leftAtWorst cX3_leftAtWorst 5 (some .int) ∈ wsG := wsG_in 451 (by decide +kernel) rfl
theorem wi_X3_leftAtWorst : Cond.instanceMethod yX3_leftAtWorst ∈ wsG := wsG_in 450 (by decide +kernel) rfl
theorem we_X3_leftAtWorst : Cond.selects RX3 yX3_leftAtWorst yX3_leftAtWorst ∈ wsG := wsG_in 8 (by decide +kernel) rfl
theorem wc_J6_bitCount_0f7a4 : Cond.code yJ6_bitCount_0f7a4 cJ6_bitCount_0f7a4 1 (some .int) ∈ wsG := wsG_in 454 (by decide +kernel) rfl
theorem wt_J6_bitCount_0f7a4 : Cond.static yJ6_bitCount_0f7a4 ∈ wsG := wsG_in 453 (by decide +kernel) rfl
theorem wc_X4_as : Cond.code yX4_as cX4_as 3 (some .int) ∈ wsG := wsG_in 462 (by decide +kernel) rfl
theorem wi_X4_as : Cond.instanceMethod yX4_as ∈ wsG := wsG_in 460 (by decide +kernel) rfl
theorem we_X4_as : Cond.selects RX4 yX4_as yX4_as ∈ wsG := wsG_in 461 (by decide +kernel) rfl
theorem wc_X4_isOfKind : Cond.code yX4_isOfKind cX4_isOfKind 2 (some .boolean) ∈ wsG := wsG_in 465 (by decide +kernel) rfl
theorem wt_X4_isOfKind : Cond.static yX4_isOfKind ∈ wsG := wsG_in 464 (by decide +kernel) rfl
theorem wc_X4_village : Cond.code yX4_village cX4_village 3 (some .int) ∈ wsG := wsG_in 469 (by decide +kernel) rfl
theorem wi_X4_village : Cond.instanceMethod yX4_village ∈ wsG := wsG_in 467 (by decide +kernel) rfl
theorem we_X4_village : Cond.selects RX4 yX4_village yX4_village ∈ wsG := wsG_in 468 (by decide +kernel) rfl
theorem wc_X4_isVillage : Cond.code yX4_isVillage cX4_isVillage 2 (some .boolean) ∈ wsG := wsG_in 473 (by decide +kernel) rfl
theorem wi_X4_isVillage : Cond.instanceMethod yX4_isVillage ∈ wsG := wsG_in 472 (by decide +kernel) rfl
theorem we_X4_isVillage : Cond.selects RX4 yX4_isVillage yX4_isVillage ∈ wsG := wsG_in 9 (by decide +kernel) rfl
theorem wc_X4_standBy : Cond.code yX4_standBy cX4_standBy 1 (some .int) ∈ wsG := wsG_in 477 (by decide +kernel) rfl
theorem wt_X4_standBy : Cond.static yX4_standBy ∈ wsG := wsG_in 476 (by decide +kernel) rfl
theorem wc_X0_leastOf : Cond.code yX0_leastOf cX0_leastOf 2 (some .int) ∈ wsG := wsG_in 482 (by decide +kernel) rfl
theorem wi_X0_leastOf : Cond.instanceMethod yX0_leastOf ∈ wsG := wsG_in 480 (by decide +kernel) rfl
theorem we_X0_leastOf : Cond.selects RX0 yX0_leastOf yX0_leastOf ∈ wsG := wsG_in 481 (by decide +kernel) rfl
theorem wc_X0_weightsIn : Cond.code yX0_weightsIn cX0_weightsIn 4 (some .int) ∈ wsG := wsG_in 487 (by decide +kernel) rfl
theorem wi_X0_weightsIn : Cond.instanceMethod yX0_weightsIn ∈ wsG := wsG_in 485 (by decide +kernel) rfl
theorem we_X0_weightsIn : Cond.selects RX0 yX0_weightsIn yX0_weightsIn ∈ wsG := wsG_in 486 (by decide +kernel) rfl
theorem wc_X0_ouncesIn : Cond.code yX0_ouncesIn cX0_ouncesIn 4 (some .int) ∈ wsG := wsG_in 491 (by decide +kernel) rfl
theorem wi_X0_ouncesIn : Cond.instanceMethod yX0_ouncesIn ∈ wsG := wsG_in 489 (by decide +kernel) rfl
theorem we_X0_ouncesIn : Cond.selects RX0 yX0_ouncesIn yX0_ouncesIn ∈ wsG := wsG_in 490 (by decide +kernel) rfl
theorem wc_X4_lifts : Cond.code yX4_lifts cX4_lifts 4 (some .int) ∈ wsG := wsG_in 495 (by decide +kernel) rfl
theorem wi_X4_lifts : Cond.instanceMethod yX4_lifts ∈ wsG := wsG_in 493 (by decide +kernel) rfl
theorem we_X4_lifts : Cond.selects RX4 yX4_lifts yX4_lifts ∈ wsG := wsG_in 494 (by decide +kernel) rfl
theorem wc_X4_isWind : Cond.code yX4_isWind cX4_isWind 2 (some .boolean) ∈ wsG := wsG_in 498 (by decide +kernel) rfl
theorem wt_X4_isWind : Cond.static yX4_isWind ∈ wsG := wsG_in 497 (by decide +kernel) rfl
theorem wc_X4_blow : Cond.code yX4_blow cX4_blow 3 (some .int) ∈ wsG := wsG_in 503 (by decide +kernel) rfl
theorem wi_X4_blow : Cond.instanceMethod yX4_blow ∈ wsG := wsG_in 501 (by decide +kernel) rfl
theorem we_X4_blow : Cond.selects RX4 yX4_blow yX4_blow ∈ wsG := wsG_in 502 (by decide +kernel) rfl
theorem wc_X4_hasTable : Cond.code yX4_hasTable cX4_hasTable 1 (some .boolean) ∈ wsG := wsG_in 507 (by decide +kernel) rfl
theorem wi_X4_hasTable : Cond.instanceMethod yX4_hasTable ∈ wsG := wsG_in 506 (by decide +kernel) rfl
theorem we_X4_hasTable : Cond.selects RX4 yX4_hasTable yX4_hasTable ∈ wsG := wsG_in 10 (by decide +kernel) rfl
theorem wc_X0_takeWind : Cond.code yX0_takeWind cX0_takeWind 6 (some .int) ∈ wsG := wsG_in 511 (by decide +kernel) rfl
theorem wi_X0_takeWind : Cond.instanceMethod yX0_takeWind ∈ wsG := wsG_in 509 (by decide +kernel) rfl
theorem we_X0_takeWind : Cond.selects RX0 yX0_takeWind yX0_takeWind ∈ wsG := wsG_in 510 (by decide +kernel) rfl
theorem wc_X0_slide : Cond.code yX0_slide cX0_slide 4 none ∈ wsG := wsG_in 516 (by decide +kernel) rfl
theorem wi_X0_slide : Cond.instanceMethod yX0_slide ∈ wsG := wsG_in 515 (by decide +kernel) rfl
theorem we_X0_slide : Cond.selects RX0 yX0_slide yX0_slide ∈ wsG := wsG_in 11 (by decide +kernel) rfl
theorem wc_X0_moveTo : Cond.code yX0_moveTo cX0_moveTo 4 none ∈ wsG := wsG_in 520 (by decide +kernel) rfl
theorem wi_X0_moveTo : Cond.instanceMethod yX0_moveTo ∈ wsG := wsG_in 518 (by decide +kernel) rfl
theorem we_X0_moveTo : Cond.selects RX0 yX0_moveTo yX0_moveTo ∈ wsG := wsG_in 519 (by decide +kernel) rfl
theorem wc_X0_weather : Cond.code yX0_weather cX0_weather 2 none ∈ wsG := wsG_in 524 (by decide +kernel) rfl
theorem wi_X0_weather : Cond.instanceMethod yX0_weather ∈ wsG := wsG_in 523 (by decide +kernel) rfl
theorem we_X0_weather : Cond.selects RX0 yX0_weather yX0_weather ∈ wsG := wsG_in 12 (by decide +kernel) rfl
theorem wc_X4_put : Cond.code yX4_put cX4_put 5 (some .int) ∈ wsG := wsG_in 529 (by decide +kernel) rfl
theorem wi_X4_put : Cond.instanceMethod yX4_put ∈ wsG := wsG_in 527 (by decide +kernel) rfl
theorem we_X4_put : Cond.selects RX4 yX4_put yX4_put ∈ wsG := wsG_in 528 (by decide +kernel) rfl
theorem wc_X4_lift : Cond.code yX4_lift cX4_lift 3 (some .int) ∈ wsG := wsG_in 534 (by decide +kernel) rfl
theorem wi_X4_lift : Cond.instanceMethod yX4_lift ∈ wsG := wsG_in 532 (by decide +kernel) rfl
theorem we_X4_lift : Cond.selects RX4 yX4_lift yX4_lift ∈ wsG := wsG_in 533 (by decide +kernel) rfl
theorem wc_X4_cut : Cond.code yX4_cut cX4_cut 4 (some .int) ∈ wsG := wsG_in 538 (by decide +kernel) rfl
theorem wi_X4_cut : Cond.instanceMethod yX4_cut ∈ wsG := wsG_in 536 (by decide +kernel) rfl
theorem we_X4_cut : Cond.selects RX4 yX4_cut yX4_cut ∈ wsG := wsG_in 537 (by decide +kernel) rfl
theorem wc_X4_build : Cond.code yX4_build cX4_build 4 (some .int) ∈ wsG := wsG_in 542 (by decide +kernel) rfl
theorem wi_X4_build : Cond.instanceMethod yX4_build ∈ wsG := wsG_in 540 (by decide +kernel) rfl
theorem we_X4_build : Cond.selects RX4 yX4_build yX4_build ∈ wsG := wsG_in 541 (by decide +kernel) rfl
theorem wc_X4_where : Cond.code yX4_where cX4_where 5 (some .int) ∈ wsG := wsG_in 546 (by decide +kernel) rfl
theorem wi_X4_where : Cond.instanceMethod yX4_where ∈ wsG := wsG_in 544 (by decide +kernel) rfl
theorem we_X4_where : Cond.selects RX4 yX4_where yX4_where ∈ wsG := wsG_in 545 (by decide +kernel) rfl
theorem wc_X0_bestPlace : Cond.code yX0_bestPlace cX0_bestPlace 7 (some .int) ∈ wsG := wsG_in 550 (by decide +kernel) rfl
theorem wi_X0_bestPlace : Cond.instanceMethod yX0_bestPlace ∈ wsG := wsG_in 548 (by decide +kernel) rfl
theorem we_X0_bestPlace : Cond.selects RX0 yX0_bestPlace yX0_bestPlace ∈ wsG := wsG_in 549 (by decide +kernel) rfl
theorem wc_X0_leastIfPut : Cond.code yX0_leastIfPut cX0_leastIfPut 4 (some .int) ∈ wsG := wsG_in 554 (by decide +kernel) rfl
theorem wi_X0_leastIfPut : Cond.instanceMethod yX0_leastIfPut ∈ wsG := wsG_in 552 (by decide +kernel) rfl
theorem we_X0_leastIfPut : Cond.selects RX0 yX0_leastIfPut yX0_leastIfPut ∈ wsG := wsG_in 553 (by decide +kernel) rfl
theorem wc_X0_holdIfPut : Cond.code yX0_holdIfPut cX0_holdIfPut 6 (some .int) ∈ wsG := wsG_in 558 (by decide +kernel) rfl
theorem wi_X0_holdIfPut : Cond.instanceMethod yX0_holdIfPut ∈ wsG := wsG_in 557 (by decide +kernel) rfl
theorem we_X0_holdIfPut : Cond.selects RX0 yX0_holdIfPut yX0_holdIfPut ∈ wsG := wsG_in 13 (by decide +kernel) rfl
theorem wc_X4_pack : Cond.code yX4_pack cX4_pack 3 (some .int) ∈ wsG := wsG_in 563 (by decide +kernel) rfl
theorem wi_X4_pack : Cond.instanceMethod yX4_pack ∈ wsG := wsG_in 561 (by decide +kernel) rfl
theorem we_X4_pack : Cond.selects RX4 yX4_pack yX4_pack ∈ wsG := wsG_in 562 (by decide +kernel) rfl
theorem wc_X4_isPackAnswer : Cond.code yX4_isPackAnswer cX4_isPackAnswer 1 (some .boolean) ∈ wsG := wsG_in 566 (by decide +kernel) rfl
theorem wt_X4_isPackAnswer : Cond.static yX4_isPackAnswer ∈ wsG := wsG_in 565 (by decide +kernel) rfl
theorem wc_X1_search : Cond.code yX1_search cX1_search 4 none ∈ wsG := wsG_in 570 (by decide +kernel) rfl
theorem wi_X1_search : Cond.instanceMethod yX1_search ∈ wsG := wsG_in 568 (by decide +kernel) rfl
theorem we_X1_search : Cond.selects RX1 yX1_search yX1_search ∈ wsG := wsG_in 569 (by decide +kernel) rfl
theorem wc_X1_weigh : Cond.code yX1_weigh cX1_weigh 6 none ∈ wsG := wsG_in 574 (by decide +kernel) rfl
theorem wi_X1_weigh : Cond.instanceMethod yX1_weigh ∈ wsG := wsG_in 573 (by decide +kernel) rfl
theorem we_X1_weigh : Cond.selects RX1 yX1_weigh yX1_weigh ∈ wsG := wsG_in 14 (by decide +kernel) rfl
theorem wc_X1_chooseFrom : Cond.code yX1_chooseFrom cX1_chooseFrom 10 none ∈ wsG := wsG_in 580 (by decide +kernel) rfl
theorem wi_X1_chooseFrom : Cond.instanceMethod yX1_chooseFrom ∈ wsG := wsG_in 579 (by decide +kernel) rfl
theorem we_X1_chooseFrom : Cond.selects RX1 yX1_chooseFrom yX1_chooseFrom ∈ wsG := wsG_in 15 (by decide +kernel) rfl
theorem wc_X1_keepIfBetter : Cond.code yX1_keepIfBetter cX1_keepIfBetter 4 none ∈ wsG := wsG_in 584 (by decide +kernel) rfl
theorem wi_X1_keepIfBetter : Cond.instanceMethod yX1_keepIfBetter ∈ wsG := wsG_in 583 (by decide +kernel) rfl
theorem we_X1_keepIfBetter : Cond.selects RX1 yX1_keepIfBetter yX1_keepIfBetter ∈ wsG := wsG_in 16 (by decide +kernel) rfl
theorem wc_X4_mend : Cond.code yX4_mend cX4_mend 1 (some .int) ∈ wsG := wsG_in 589 (by decide +kernel) rfl
theorem wi_X4_mend : Cond.instanceMethod yX4_mend ∈ wsG := wsG_in 587 (by decide +kernel) rfl
theorem we_X4_mend : Cond.selects RX4 yX4_mend yX4_mend ∈ wsG := wsG_in 588 (by decide +kernel) rfl
theorem wc_X0_bestToMend : Cond.code yX0_bestToMend cX0_bestToMend 5 (some .int) ∈ wsG := wsG_in 593 (by decide +kernel) rfl
theorem wi_X0_bestToMend : Cond.instanceMethod yX0_bestToMend ∈ wsG := wsG_in 591 (by decide +kernel) rfl
theorem we_X0_bestToMend : Cond.selects RX0 yX0_bestToMend yX0_bestToMend ∈ wsG := wsG_in 592 (by decide +kernel) rfl
theorem wc_X0_leastOfAll : Cond.code yX0_leastOfAll cX0_leastOfAll 3 (some .int) ∈ wsG := wsG_in 597 (by decide +kernel) rfl
theorem wi_X0_leastOfAll : Cond.instanceMethod yX0_leastOfAll ∈ wsG := wsG_in 595 (by decide +kernel) rfl
theorem we_X0_leastOfAll : Cond.selects RX0 yX0_leastOfAll yX0_leastOfAll ∈ wsG := wsG_in 596 (by decide +kernel) rfl
theorem wc_X0_leastOfAllIfMended : Cond.code yX0_leastOfAllIfMended cX0_leastOfAllIfMended 5 (some .int) ∈ wsG := wsG_in 602 (by decide +kernel) rfl
theorem wi_X0_leastOfAllIfMended : Cond.instanceMethod yX0_leastOfAllIfMended ∈ wsG := wsG_in 601 (by decide +kernel) rfl
theorem we_X0_leastOfAllIfMended : Cond.selects RX0 yX0_leastOfAllIfMended yX0_leastOfAllIfMended ∈ wsG := wsG_in 17 (by decide +kernel) rfl
theorem wc_X4_odds : Cond.code yX4_odds cX4_odds 7 (some .int) ∈ wsG := wsG_in 607 (by decide +kernel) rfl
theorem wi_X4_odds : Cond.instanceMethod yX4_odds ∈ wsG := wsG_in 605 (by decide +kernel) rfl
theorem we_X4_odds : Cond.selects RX4 yX4_odds yX4_odds ∈ wsG := wsG_in 606 (by decide +kernel) rfl
theorem wc_X0_hourlyWindsStood : Cond.code yX0_hourlyWindsStood cX0_hourlyWindsStood 5 (some .int) ∈ wsG := wsG_in 611 (by decide +kernel) rfl
theorem wi_X0_hourlyWindsStood : Cond.instanceMethod yX0_hourlyWindsStood ∈ wsG := wsG_in 609 (by decide +kernel) rfl
theorem we_X0_hourlyWindsStood : Cond.selects RX0 yX0_hourlyWindsStood yX0_hourlyWindsStood ∈ wsG := wsG_in 610 (by decide +kernel) rfl
theorem wc_X4_inLowestTerms : Cond.code yX4_inLowestTerms cX4_inLowestTerms 3 (some .int) ∈ wsG := wsG_in 614 (by decide +kernel) rfl
theorem wt_X4_inLowestTerms : Cond.static yX4_inLowestTerms ∈ wsG := wsG_in 613 (by decide +kernel) rfl
theorem wc_X4_see : Cond.code yX4_see cX4_see 5 (some .int) ∈ wsG := wsG_in 618 (by decide +kernel) rfl
theorem wi_X4_see : Cond.instanceMethod yX4_see ∈ wsG := wsG_in 616 (by decide +kernel) rfl
theorem we_X4_see : Cond.selects RX4 yX4_see yX4_see ∈ wsG := wsG_in 617 (by decide +kernel) rfl
theorem wc_X3_append : Cond.code yX3_append cX3_append 5 none ∈ wsG := wsG_in 622 (by decide +kernel) rfl
theorem wi_X3_append : Cond.instanceMethod yX3_append ∈ wsG := wsG_in 620 (by decide +kernel) rfl
theorem we_X3_append : Cond.selects RX3 yX3_append yX3_append ∈ wsG := wsG_in 621 (by decide +kernel) rfl
theorem wc_X4_forget : Cond.code yX4_forget cX4_forget 2 (some .int) ∈ wsG := wsG_in 626 (by decide +kernel) rfl
theorem wi_X4_forget : Cond.instanceMethod yX4_forget ∈ wsG := wsG_in 624 (by decide +kernel) rfl
theorem we_X4_forget : Cond.selects RX4 yX4_forget yX4_forget ∈ wsG := wsG_in 625 (by decide +kernel) rfl
theorem wc_X4_decades : Cond.code yX4_decades cX4_decades 8 (some .int) ∈ wsG := wsG_in 630 (by decide +kernel) rfl
theorem wi_X4_decades : Cond.instanceMethod yX4_decades ∈ wsG := wsG_in 628 (by decide +kernel) rfl
theorem we_X4_decades : Cond.selects RX4 yX4_decades yX4_decades ∈ wsG := wsG_in 629 (by decide +kernel) rfl
theorem wc_X0_copyFrom : Cond.code yX0_copyFrom cX0_copyFrom 3 none ∈ wsG := wsG_in 634 (by decide +kernel) rfl
theorem wi_X0_copyFrom : Cond.instanceMethod yX0_copyFrom ∈ wsG := wsG_in 632 (by decide +kernel) rfl
theorem we_X0_copyFrom : Cond.selects RX0 yX0_copyFrom yX0_copyFrom ∈ wsG := wsG_in 633 (by decide +kernel) rfl
theorem wc_X4_nextSeed : Cond.code yX4_nextSeed cX4_nextSeed 1 (some .int) ∈ wsG := wsG_in 637 (by decide +kernel) rfl
theorem wt_X4_nextSeed : Cond.static yX4_nextSeed ∈ wsG := wsG_in 636 (by decide +kernel) rfl
theorem wc_X4_drawnOf : Cond.code yX4_drawnOf cX4_drawnOf 2 (some .int) ∈ wsG := wsG_in 643 (by decide +kernel) rfl
theorem wt_X4_drawnOf : Cond.static yX4_drawnOf ∈ wsG := wsG_in 642 (by decide +kernel) rfl
theorem wc_X0_weightsOnPlain : Cond.code yX0_weightsOnPlain cX0_weightsOnPlain 1 (some .int) ∈ wsG := wsG_in 648 (by decide +kernel) rfl
theorem wi_X0_weightsOnPlain : Cond.instanceMethod yX0_weightsOnPlain ∈ wsG := wsG_in 646 (by decide +kernel) rfl
theorem we_X0_weightsOnPlain : Cond.selects RX0 yX0_weightsOnPlain yX0_weightsOnPlain ∈ wsG := wsG_in 647 (by decide +kernel) rfl
theorem wc_X4_image : Cond.code yX4_image cX4_image 1 (some .int) ∈ wsG := wsG_in 653 (by decide +kernel) rfl
theorem wi_X4_image : Cond.instanceMethod yX4_image ∈ wsG := wsG_in 651 (by decide +kernel) rfl
theorem we_X4_image : Cond.selects RX4 yX4_image yX4_image ∈ wsG := wsG_in 652 (by decide +kernel) rfl
theorem wc_X3_copyFrom : Cond.code yX3_copyFrom cX3_copyFrom 3 none ∈ wsG := wsG_in 657 (by decide +kernel) rfl
theorem wi_X3_copyFrom : Cond.instanceMethod yX3_copyFrom ∈ wsG := wsG_in 655 (by decide +kernel) rfl
theorem we_X3_copyFrom : Cond.selects RX3 yX3_copyFrom yX3_copyFrom ∈ wsG := wsG_in 656 (by decide +kernel) rfl
theorem wc_X4_restore : Cond.code yX4_restore cX4_restore 1 (some .int) ∈ wsG := wsG_in 661 (by decide +kernel) rfl
theorem wi_X4_restore : Cond.instanceMethod yX4_restore ∈ wsG := wsG_in 659 (by decide +kernel) rfl
theorem we_X4_restore : Cond.selects RX4 yX4_restore yX4_restore ∈ wsG := wsG_in 660 (by decide +kernel) rfl
theorem wc_X4_count : Cond.code yX4_count cX4_count 2 (some .int) ∈ wsG := wsG_in 665 (by decide +kernel) rfl
theorem wi_X4_count : Cond.instanceMethod yX4_count ∈ wsG := wsG_in 663 (by decide +kernel) rfl
theorem we_X4_count : Cond.selects RX4 yX4_count yX4_count ∈ wsG := wsG_in 664 (by decide +kernel) rfl
theorem wc_X0_ouncesOfAll : Cond.code yX0_ouncesOfAll cX0_ouncesOfAll 3 (some .int) ∈ wsG := wsG_in 669 (by decide +kernel) rfl
theorem wi_X0_ouncesOfAll : Cond.instanceMethod yX0_ouncesOfAll ∈ wsG := wsG_in 667 (by decide +kernel) rfl
theorem we_X0_ouncesOfAll : Cond.selects RX0 yX0_ouncesOfAll yX0_ouncesOfAll ∈ wsG := wsG_in 668 (by decide +kernel) rfl
theorem wc_X4_digest : Cond.code yX4_digest cX4_digest 5 (some .long) ∈ wsG := wsG_in 674 (by decide +kernel) rfl
theorem wi_X4_digest : Cond.instanceMethod yX4_digest ∈ wsG := wsG_in 672 (by decide +kernel) rfl
theorem we_X4_digest : Cond.selects RX4 yX4_digest yX4_digest ∈ wsG := wsG_in 673 (by decide +kernel) rfl
theorem wc_X4_mixed : Cond.code yX4_mixed cX4_mixed 4 (some .long) ∈ wsG := wsG_in 679 (by decide +kernel) rfl
theorem wt_X4_mixed : Cond.static yX4_mixed ∈ wsG := wsG_in 678 (by decide +kernel) rfl
theorem wc_X5_init : Cond.code yX5_init cX5_init 1 none ∈ wsG := wsG_in 690 (by decide +kernel) rfl
theorem wi_X5_init : Cond.instanceMethod yX5_init ∈ wsG := wsG_in 689 (by decide +kernel) rfl
theorem wc_X5_letter : Cond.code yX5_letter cX5_letter 2 (some .int) ∈ wsG := wsG_in 846 (by decide +kernel) rfl
theorem wi_X5_letter : Cond.instanceMethod yX5_letter ∈ wsG := wsG_in 844 (by decide +kernel) rfl
theorem we_X5_letter : Cond.selects RX5 yX5_letter yX5_letter ∈ wsG := wsG_in 845 (by decide +kernel) rfl
theorem wc_X5_within : Cond.code yX5_within cX5_within 3 (some .boolean) ∈ wsG := wsG_in 849 (by decide +kernel) rfl
theorem wt_X5_within : Cond.static yX5_within ∈ wsG := wsG_in 848 (by decide +kernel) rfl
theorem wc_X5_blank : Cond.code yX5_blank cX5_blank 2 (some .int) ∈ wsG := wsG_in 853 (by decide +kernel) rfl
theorem wi_X5_blank : Cond.instanceMethod yX5_blank ∈ wsG := wsG_in 851 (by decide +kernel) rfl
theorem we_X5_blank : Cond.selects RX5 yX5_blank yX5_blank ∈ wsG := wsG_in 852 (by decide +kernel) rfl
theorem wc_X5_fault : Cond.code yX5_fault cX5_fault 1 (some .int) ∈ wsG := wsG_in 857 (by decide +kernel) rfl
theorem wi_X5_fault : Cond.instanceMethod yX5_fault ∈ wsG := wsG_in 855 (by decide +kernel) rfl
theorem we_X5_fault : Cond.selects RX5 yX5_fault yX5_fault ∈ wsG := wsG_in 856 (by decide +kernel) rfl
theorem wc_X5_read : Cond.code yX5_read cX5_read 2 (some .int) ∈ wsG := wsG_in 861 (by decide +kernel) rfl
theorem wi_X5_read : Cond.instanceMethod yX5_read ∈ wsG := wsG_in 860 (by decide +kernel) rfl
theorem we_X5_read : Cond.selects RX5 yX5_read yX5_read ∈ wsG := wsG_in 18 (by decide +kernel) rfl
theorem wc_X5_isFigure : Cond.code yX5_isFigure cX5_isFigure 4 (some .boolean) ∈ wsG := wsG_in 865 (by decide +kernel) rfl
theorem wi_X5_isFigure : Cond.instanceMethod yX5_isFigure ∈ wsG := wsG_in 864 (by decide +kernel) rfl
theorem we_X5_isFigure : Cond.selects RX5 yX5_isFigure yX5_isFigure ∈ wsG := wsG_in 19 (by decide +kernel) rfl
theorem wc_X5_at : Cond.code yX5_at cX5_at 2 (some .int) ∈ wsG := wsG_in 869 (by decide +kernel) rfl
theorem wi_X5_at : Cond.instanceMethod yX5_at ∈ wsG := wsG_in 868 (by decide +kernel) rfl
theorem we_X5_at : Cond.selects RX5 yX5_at yX5_at ∈ wsG := wsG_in 20 (by decide +kernel) rfl
theorem wc_X5_readWeights : Cond.code yX5_readWeights cX5_readWeights 3 (some .int) ∈ wsG := wsG_in 873 (by decide +kernel) rfl
theorem wi_X5_readWeights : Cond.instanceMethod yX5_readWeights ∈ wsG := wsG_in 872 (by decide +kernel) rfl
theorem we_X5_readWeights : Cond.selects RX5 yX5_readWeights yX5_readWeights ∈ wsG := wsG_in 21 (by decide +kernel) rfl
theorem wc_X5_kindBy : Cond.code yX5_kindBy cX5_kindBy 1 (some .int) ∈ wsG := wsG_in 876 (by decide +kernel) rfl
theorem wt_X5_kindBy : Cond.static yX5_kindBy ∈ wsG := wsG_in 875 (by decide +kernel) rfl
theorem wc_X5_table : Cond.code yX5_table cX5_table 3 (some .int) ∈ wsG := wsG_in 880 (by decide +kernel) rfl
theorem wi_X5_table : Cond.instanceMethod yX5_table ∈ wsG := wsG_in 878 (by decide +kernel) rfl
theorem we_X5_table : Cond.selects RX5 yX5_table yX5_table ∈ wsG := wsG_in 879 (by decide +kernel) rfl
theorem wc_X5_weight : Cond.code yX5_weight cX5_weight 3 (some .int) ∈ wsG := wsG_in 884 (by decide +kernel) rfl
theorem wi_X5_weight : Cond.instanceMethod yX5_weight ∈ wsG := wsG_in 882 (by decide +kernel) rfl
theorem we_X5_weight : Cond.selects RX5 yX5_weight yX5_weight ∈ wsG := wsG_in 883 (by decide +kernel) rfl
theorem wc_X5_isWeight : Cond.code yX5_isWeight cX5_isWeight 2 (some .boolean) ∈ wsG := wsG_in 888 (by decide +kernel) rfl
theorem wi_X5_isWeight : Cond.instanceMethod yX5_isWeight ∈ wsG := wsG_in 887 (by decide +kernel) rfl
theorem we_X5_isWeight : Cond.selects RX5 yX5_isWeight yX5_isWeight ∈ wsG := wsG_in 22 (by decide +kernel) rfl
theorem wc_X5_weightNow : Cond.code yX5_weightNow cX5_weightNow 3 (some .int) ∈ wsG := wsG_in 892 (by decide +kernel) rfl
theorem wi_X5_weightNow : Cond.instanceMethod yX5_weightNow ∈ wsG := wsG_in 891 (by decide +kernel) rfl
theorem we_X5_weightNow : Cond.selects RX5 yX5_weightNow yX5_weightNow ∈ wsG := wsG_in 23 (by decide +kernel) rfl
theorem wc_X5_bears : Cond.code yX5_bears cX5_bears 2 (some .int) ∈ wsG := wsG_in 896 (by decide +kernel) rfl
theorem wi_X5_bears : Cond.instanceMethod yX5_bears ∈ wsG := wsG_in 895 (by decide +kernel) rfl
theorem we_X5_bears : Cond.selects RX5 yX5_bears yX5_bears ∈ wsG := wsG_in 24 (by decide +kernel) rfl
theorem wc_X5_canHave : Cond.code yX5_canHave cX5_canHave 6 (some .int) ∈ wsG := wsG_in 900 (by decide +kernel) rfl
theorem wi_X5_canHave : Cond.instanceMethod yX5_canHave ∈ wsG := wsG_in 899 (by decide +kernel) rfl
theorem we_X5_canHave : Cond.selects RX5 yX5_canHave yX5_canHave ∈ wsG := wsG_in 25 (by decide +kernel) rfl
theorem wc_X5_liftsWith : Cond.code yX5_liftsWith cX5_liftsWith 7 (some .boolean) ∈ wsG := wsG_in 904 (by decide +kernel) rfl
theorem wi_X5_liftsWith : Cond.instanceMethod yX5_liftsWith ∈ wsG := wsG_in 903 (by decide +kernel) rfl
theorem we_X5_liftsWith : Cond.selects RX5 yX5_liftsWith yX5_liftsWith ∈ wsG := wsG_in 26 (by decide +kernel) rfl
theorem wc_X5_wouldLift : Cond.code yX5_wouldLift cX5_wouldLift 4 (some .boolean) ∈ wsG := wsG_in 908 (by decide +kernel) rfl
theorem wi_X5_wouldLift : Cond.instanceMethod yX5_wouldLift ∈ wsG := wsG_in 907 (by decide +kernel) rfl
theorem we_X5_wouldLift : Cond.selects RX5 yX5_wouldLift yX5_wouldLift ∈ wsG := wsG_in 27 (by decide +kernel) rfl
theorem wc_X5_hold : Cond.code yX5_hold cX5_hold 5 (some .int) ∈ wsG := wsG_in 912 (by decide +kernel) rfl
theorem wi_X5_hold : Cond.instanceMethod yX5_hold ∈ wsG := wsG_in 911 (by decide +kernel) rfl
theorem we_X5_hold : Cond.selects RX5 yX5_hold yX5_hold ∈ wsG := wsG_in 28 (by decide +kernel) rfl
theorem wc_X5_arm : Cond.code yX5_arm cX5_arm 2 (some .int) ∈ wsG := wsG_in 915 (by decide +kernel) rfl
theorem wt_X5_arm : Cond.static yX5_arm ∈ wsG := wsG_in 914 (by decide +kernel) rfl
theorem wc_X5_waitFor : Cond.code yX5_waitFor cX5_waitFor 7 (some .int) ∈ wsG := wsG_in 919 (by decide +kernel) rfl
theorem wi_X5_waitFor : Cond.instanceMethod yX5_waitFor ∈ wsG := wsG_in 918 (by decide +kernel) rfl
theorem we_X5_waitFor : Cond.selects RX5 yX5_waitFor yX5_waitFor ∈ wsG := wsG_in 29 (by decide +kernel) rfl
theorem wc_X5_worstBy : Cond.code yX5_worstBy cX5_worstBy 7 (some .int) ∈ wsG := wsG_in 924 (by decide +kernel) rfl
theorem wi_X5_worstBy : Cond.instanceMethod yX5_worstBy ∈ wsG := wsG_in 923 (by decide +kernel) rfl
theorem we_X5_worstBy : Cond.selects RX5 yX5_worstBy yX5_worstBy ∈ wsG := wsG_in 30 (by decide +kernel) rfl
theorem wc_X5_isIn : Cond.code yX5_isIn cX5_isIn 2 (some .boolean) ∈ wsG := wsG_in 927 (by decide +kernel) rfl
theorem wt_X5_isIn : Cond.static yX5_isIn ∈ wsG := wsG_in 926 (by decide +kernel) rfl
theorem wc_X5_size : Cond.code yX5_size cX5_size 3 (some .int) ∈ wsG := wsG_in 930 (by decide +kernel) rfl
theorem wt_X5_size : Cond.static yX5_size ∈ wsG := wsG_in 929 (by decide +kernel) rfl
theorem wc_X5_as : Cond.code yX5_as cX5_as 4 (some .int) ∈ wsG := wsG_in 934 (by decide +kernel) rfl
theorem wi_X5_as : Cond.instanceMethod yX5_as ∈ wsG := wsG_in 932 (by decide +kernel) rfl
theorem we_X5_as : Cond.selects RX5 yX5_as yX5_as ∈ wsG := wsG_in 933 (by decide +kernel) rfl
theorem wc_X5_village : Cond.code yX5_village cX5_village 3 (some .int) ∈ wsG := wsG_in 938 (by decide +kernel) rfl
theorem wi_X5_village : Cond.instanceMethod yX5_village ∈ wsG := wsG_in 936 (by decide +kernel) rfl
theorem we_X5_village : Cond.selects RX5 yX5_village yX5_village ∈ wsG := wsG_in 937 (by decide +kernel) rfl
theorem wc_X5_isVillage : Cond.code yX5_isVillage cX5_isVillage 2 (some .boolean) ∈ wsG := wsG_in 942 (by decide +kernel) rfl
theorem wi_X5_isVillage : Cond.instanceMethod yX5_isVillage ∈ wsG := wsG_in 941 (by decide +kernel) rfl
theorem we_X5_isVillage : Cond.selects RX5 yX5_isVillage yX5_isVillage ∈ wsG := wsG_in 31 (by decide +kernel) rfl
theorem wc_X5_villageNow : Cond.code yX5_villageNow cX5_villageNow 3 (some .int) ∈ wsG := wsG_in 946 (by decide +kernel) rfl
theorem wi_X5_villageNow : Cond.instanceMethod yX5_villageNow ∈ wsG := wsG_in 945 (by decide +kernel) rfl
theorem we_X5_villageNow : Cond.selects RX5 yX5_villageNow yX5_villageNow ∈ wsG := wsG_in 32 (by decide +kernel) rfl
theorem wc_X5_stand : Cond.code yX5_stand cX5_stand 3 (some .int) ∈ wsG := wsG_in 950 (by decide +kernel) rfl
theorem wi_X5_stand : Cond.instanceMethod yX5_stand ∈ wsG := wsG_in 949 (by decide +kernel) rfl
theorem we_X5_stand : Cond.selects RX5 yX5_stand yX5_stand ∈ wsG := wsG_in 33 (by decide +kernel) rfl
theorem wc_X5_standBy : Cond.code yX5_standBy cX5_standBy 1 (some .int) ∈ wsG := wsG_in 953 (by decide +kernel) rfl
theorem wt_X5_standBy : Cond.static yX5_standBy ∈ wsG := wsG_in 952 (by decide +kernel) rfl
theorem wc_X5_leastOf : Cond.code yX5_leastOf cX5_leastOf 4 (some .int) ∈ wsG := wsG_in 957 (by decide +kernel) rfl
theorem wi_X5_leastOf : Cond.instanceMethod yX5_leastOf ∈ wsG := wsG_in 956 (by decide +kernel) rfl
theorem we_X5_leastOf : Cond.selects RX5 yX5_leastOf yX5_leastOf ∈ wsG := wsG_in 34 (by decide +kernel) rfl
theorem wc_X5_there : Cond.code yX5_there cX5_there 4 (some .int) ∈ wsG := wsG_in 961 (by decide +kernel) rfl
theorem wi_X5_there : Cond.instanceMethod yX5_there ∈ wsG := wsG_in 960 (by decide +kernel) rfl
theorem we_X5_there : Cond.selects RX5 yX5_there yX5_there ∈ wsG := wsG_in 35 (by decide +kernel) rfl
theorem wc_X5_ouncesIn : Cond.code yX5_ouncesIn cX5_ouncesIn 4 (some .int) ∈ wsG := wsG_in 965 (by decide +kernel) rfl
theorem wi_X5_ouncesIn : Cond.instanceMethod yX5_ouncesIn ∈ wsG := wsG_in 964 (by decide +kernel) rfl
theorem we_X5_ouncesIn : Cond.selects RX5 yX5_ouncesIn yX5_ouncesIn ∈ wsG := wsG_in 36 (by decide +kernel) rfl
theorem wc_X5_lifts : Cond.code yX5_lifts cX5_lifts 4 (some .int) ∈ wsG := wsG_in 969 (by decide +kernel) rfl
theorem wi_X5_lifts : Cond.instanceMethod yX5_lifts ∈ wsG := wsG_in 967 (by decide +kernel) rfl
theorem we_X5_lifts : Cond.selects RX5 yX5_lifts yX5_lifts ∈ wsG := wsG_in 968 (by decide +kernel) rfl
theorem wc_X5_isWind : Cond.code yX5_isWind cX5_isWind 2 (some .boolean) ∈ wsG := wsG_in 972 (by decide +kernel) rfl
theorem wt_X5_isWind : Cond.static yX5_isWind ∈ wsG := wsG_in 971 (by decide +kernel) rfl
theorem wc_X5_blow : Cond.code yX5_blow cX5_blow 3 (some .int) ∈ wsG := wsG_in 976 (by decide +kernel) rfl
theorem wi_X5_blow : Cond.instanceMethod yX5_blow ∈ wsG := wsG_in 974 (by decide +kernel) rfl
theorem we_X5_blow : Cond.selects RX5 yX5_blow yX5_blow ∈ wsG := wsG_in 975 (by decide +kernel) rfl
theorem wc_X5_wind : Cond.code yX5_wind cX5_wind 5 (some .int) ∈ wsG := wsG_in 980 (by decide +kernel) rfl
theorem wi_X5_wind : Cond.instanceMethod yX5_wind ∈ wsG := wsG_in 979 (by decide +kernel) rfl
theorem we_X5_wind : Cond.selects RX5 yX5_wind yX5_wind ∈ wsG := wsG_in 37 (by decide +kernel) rfl
theorem wc_X5_slide : Cond.code yX5_slide cX5_slide 3 none ∈ wsG := wsG_in 984 (by decide +kernel) rfl
theorem wi_X5_slide : Cond.instanceMethod yX5_slide ∈ wsG := wsG_in 983 (by decide +kernel) rfl
theorem we_X5_slide : Cond.selects RX5 yX5_slide yX5_slide ∈ wsG := wsG_in 38 (by decide +kernel) rfl
theorem wc_X5_goAway : Cond.code yX5_goAway cX5_goAway 2 none ∈ wsG := wsG_in 988 (by decide +kernel) rfl
theorem wi_X5_goAway : Cond.instanceMethod yX5_goAway ∈ wsG := wsG_in 987 (by decide +kernel) rfl
theorem we_X5_goAway : Cond.selects RX5 yX5_goAway yX5_goAway ∈ wsG := wsG_in 39 (by decide +kernel) rfl
theorem wc_X5_wear : Cond.code yX5_wear cX5_wear 2 none ∈ wsG := wsG_in 992 (by decide +kernel) rfl
theorem wi_X5_wear : Cond.instanceMethod yX5_wear ∈ wsG := wsG_in 991 (by decide +kernel) rfl
theorem we_X5_wear : Cond.selects RX5 yX5_wear yX5_wear ∈ wsG := wsG_in 40 (by decide +kernel) rfl
theorem wc_X5_put : Cond.code yX5_put cX5_put 5 (some .int) ∈ wsG := wsG_in 996 (by decide +kernel) rfl
theorem wi_X5_put : Cond.instanceMethod yX5_put ∈ wsG := wsG_in 994 (by decide +kernel) rfl
theorem we_X5_put : Cond.selects RX5 yX5_put yX5_put ∈ wsG := wsG_in 995 (by decide +kernel) rfl
theorem wc_X5_lift : Cond.code yX5_lift cX5_lift 3 (some .int) ∈ wsG := wsG_in 1000 (by decide +kernel) rfl
theorem wi_X5_lift : Cond.instanceMethod yX5_lift ∈ wsG := wsG_in 998 (by decide +kernel) rfl
theorem we_X5_lift : Cond.selects RX5 yX5_lift yX5_lift ∈ wsG := wsG_in 999 (by decide +kernel) rfl
theorem wc_X5_cut : Cond.code yX5_cut cX5_cut 4 (some .int) ∈ wsG := wsG_in 1004 (by decide +kernel) rfl
theorem wi_X5_cut : Cond.instanceMethod yX5_cut ∈ wsG := wsG_in 1002 (by decide +kernel) rfl
theorem we_X5_cut : Cond.selects RX5 yX5_cut yX5_cut ∈ wsG := wsG_in 1003 (by decide +kernel) rfl
theorem wc_X5_build : Cond.code yX5_build cX5_build 4 (some .int) ∈ wsG := wsG_in 1008 (by decide +kernel) rfl
theorem wi_X5_build : Cond.instanceMethod yX5_build ∈ wsG := wsG_in 1006 (by decide +kernel) rfl
theorem we_X5_build : Cond.selects RX5 yX5_build yX5_build ∈ wsG := wsG_in 1007 (by decide +kernel) rfl
theorem wc_X5_where : Cond.code yX5_where cX5_where 4 (some .int) ∈ wsG := wsG_in 1012 (by decide +kernel) rfl
theorem wi_X5_where : Cond.instanceMethod yX5_where ∈ wsG := wsG_in 1010 (by decide +kernel) rfl
theorem we_X5_where : Cond.selects RX5 yX5_where yX5_where ∈ wsG := wsG_in 1011 (by decide +kernel) rfl
theorem wc_X5_whereNow : Cond.code yX5_whereNow cX5_whereNow 10 (some .int) ∈ wsG := wsG_in 1016 (by decide +kernel) rfl
theorem wi_X5_whereNow : Cond.instanceMethod yX5_whereNow ∈ wsG := wsG_in 1015 (by decide +kernel) rfl
theorem we_X5_whereNow : Cond.selects RX5 yX5_whereNow yX5_whereNow ∈ wsG := wsG_in 41 (by decide +kernel) rfl
theorem wc_X5_pack : Cond.code yX5_pack cX5_pack 3 (some .int) ∈ wsG := wsG_in 1020 (by decide +kernel) rfl
theorem wi_X5_pack : Cond.instanceMethod yX5_pack ∈ wsG := wsG_in 1018 (by decide +kernel) rfl
theorem we_X5_pack : Cond.selects RX5 yX5_pack yX5_pack ∈ wsG := wsG_in 1019 (by decide +kernel) rfl
theorem wc_X5_packNow : Cond.code yX5_packNow cX5_packNow 7 (some .int) ∈ wsG := wsG_in 1024 (by decide +kernel) rfl
theorem wi_X5_packNow : Cond.instanceMethod yX5_packNow ∈ wsG := wsG_in 1023 (by decide +kernel) rfl
theorem we_X5_packNow : Cond.selects RX5 yX5_packNow yX5_packNow ∈ wsG := wsG_in 42 (by decide +kernel) rfl
theorem wc_X5_canStand : Cond.code yX5_canStand cX5_canStand 5 (some .boolean) ∈ wsG := wsG_in 1028 (by decide +kernel) rfl
theorem wi_X5_canStand : Cond.instanceMethod yX5_canStand ∈ wsG := wsG_in 1027 (by decide +kernel) rfl
theorem we_X5_canStand : Cond.selects RX5 yX5_canStand yX5_canStand ∈ wsG := wsG_in 43 (by decide +kernel) rfl
theorem wc_X5_standsNow : Cond.code yX5_standsNow cX5_standsNow 8 (some .boolean) ∈ wsG := wsG_in 1032 (by decide +kernel) rfl
theorem wi_X5_standsNow : Cond.instanceMethod yX5_standsNow ∈ wsG := wsG_in 1031 (by decide +kernel) rfl
theorem we_X5_standsNow : Cond.selects RX5 yX5_standsNow yX5_standsNow ∈ wsG := wsG_in 44 (by decide +kernel) rfl
theorem wc_X5_bareBears : Cond.code yX5_bareBears cX5_bareBears 2 (some .int) ∈ wsG := wsG_in 1035 (by decide +kernel) rfl
theorem wt_X5_bareBears : Cond.static yX5_bareBears ∈ wsG := wsG_in 1034 (by decide +kernel) rfl
theorem wc_X5_nextPlaces : Cond.code yX5_nextPlaces cX5_nextPlaces 3 (some .boolean) ∈ wsG := wsG_in 1039 (by decide +kernel) rfl
theorem wi_X5_nextPlaces : Cond.instanceMethod yX5_nextPlaces ∈ wsG := wsG_in 1038 (by decide +kernel) rfl
theorem we_X5_nextPlaces : Cond.selects RX5 yX5_nextPlaces yX5_nextPlaces ∈ wsG := wsG_in 45 (by decide +kernel) rfl
theorem wc_X5_isRow : Cond.code yX5_isRow cX5_isRow 3 (some .boolean) ∈ wsG := wsG_in 1043 (by decide +kernel) rfl
theorem wi_X5_isRow : Cond.instanceMethod yX5_isRow ∈ wsG := wsG_in 1042 (by decide +kernel) rfl
theorem we_X5_isRow : Cond.selects RX5 yX5_isRow yX5_isRow ∈ wsG := wsG_in 46 (by decide +kernel) rfl
theorem wc_X5_nextRow : Cond.code yX5_nextRow cX5_nextRow 4 (some .boolean) ∈ wsG := wsG_in 1047 (by decide +kernel) rfl
theorem wi_X5_nextRow : Cond.instanceMethod yX5_nextRow ∈ wsG := wsG_in 1046 (by decide +kernel) rfl
theorem we_X5_nextRow : Cond.selects RX5 yX5_nextRow yX5_nextRow ∈ wsG := wsG_in 47 (by decide +kernel) rfl
theorem wc_X5_mend : Cond.code yX5_mend cX5_mend 1 (some .int) ∈ wsG := wsG_in 1051 (by decide +kernel) rfl
theorem wi_X5_mend : Cond.instanceMethod yX5_mend ∈ wsG := wsG_in 1049 (by decide +kernel) rfl
theorem we_X5_mend : Cond.selects RX5 yX5_mend yX5_mend ∈ wsG := wsG_in 1050 (by decide +kernel) rfl
theorem wc_X5_mendNow : Cond.code yX5_mendNow cX5_mendNow 5 (some .int) ∈ wsG := wsG_in 1055 (by decide +kernel) rfl
theorem wi_X5_mendNow : Cond.instanceMethod yX5_mendNow ∈ wsG := wsG_in 1054 (by decide +kernel) rfl
theorem we_X5_mendNow : Cond.selects RX5 yX5_mendNow yX5_mendNow ∈ wsG := wsG_in 48 (by decide +kernel) rfl
theorem wc_X5_leastOfAll : Cond.code yX5_leastOfAll cX5_leastOfAll 3 (some .int) ∈ wsG := wsG_in 1059 (by decide +kernel) rfl
theorem wi_X5_leastOfAll : Cond.instanceMethod yX5_leastOfAll ∈ wsG := wsG_in 1058 (by decide +kernel) rfl
theorem we_X5_leastOfAll : Cond.selects RX5 yX5_leastOfAll yX5_leastOfAll ∈ wsG := wsG_in 49 (by decide +kernel) rfl
theorem wc_X5_odds : Cond.code yX5_odds cX5_odds 3 (some .int) ∈ wsG := wsG_in 1063 (by decide +kernel) rfl
theorem wi_X5_odds : Cond.instanceMethod yX5_odds ∈ wsG := wsG_in 1061 (by decide +kernel) rfl
theorem we_X5_odds : Cond.selects RX5 yX5_odds yX5_odds ∈ wsG := wsG_in 1062 (by decide +kernel) rfl
theorem wc_X5_oddsNow : Cond.code yX5_oddsNow cX5_oddsNow 7 (some .int) ∈ wsG := wsG_in 1067 (by decide +kernel) rfl
theorem wi_X5_oddsNow : Cond.instanceMethod yX5_oddsNow ∈ wsG := wsG_in 1066 (by decide +kernel) rfl
theorem we_X5_oddsNow : Cond.selects RX5 yX5_oddsNow yX5_oddsNow ∈ wsG := wsG_in 50 (by decide +kernel) rfl
theorem wc_X5_anyLifts : Cond.code yX5_anyLifts cX5_anyLifts 5 (some .boolean) ∈ wsG := wsG_in 1071 (by decide +kernel) rfl
theorem wi_X5_anyLifts : Cond.instanceMethod yX5_anyLifts ∈ wsG := wsG_in 1070 (by decide +kernel) rfl
theorem we_X5_anyLifts : Cond.selects RX5 yX5_anyLifts yX5_anyLifts ∈ wsG := wsG_in 51 (by decide +kernel) rfl
theorem wc_X5_divisor : Cond.code yX5_divisor cX5_divisor 5 (some .int) ∈ wsG := wsG_in 1074 (by decide +kernel) rfl
theorem wt_X5_divisor : Cond.static yX5_divisor ∈ wsG := wsG_in 1073 (by decide +kernel) rfl
theorem wc_X5_see : Cond.code yX5_see cX5_see 5 (some .int) ∈ wsG := wsG_in 1078 (by decide +kernel) rfl
theorem wi_X5_see : Cond.instanceMethod yX5_see ∈ wsG := wsG_in 1076 (by decide +kernel) rfl
theorem we_X5_see : Cond.selects RX5 yX5_see yX5_see ∈ wsG := wsG_in 1077 (by decide +kernel) rfl
theorem wc_X5_forget : Cond.code yX5_forget cX5_forget 2 (some .int) ∈ wsG := wsG_in 1082 (by decide +kernel) rfl
theorem wi_X5_forget : Cond.instanceMethod yX5_forget ∈ wsG := wsG_in 1080 (by decide +kernel) rfl
theorem we_X5_forget : Cond.selects RX5 yX5_forget yX5_forget ∈ wsG := wsG_in 1081 (by decide +kernel) rfl
theorem wc_X5_decades : Cond.code yX5_decades cX5_decades 4 (some .int) ∈ wsG := wsG_in 1086 (by decide +kernel) rfl
theorem wi_X5_decades : Cond.instanceMethod yX5_decades ∈ wsG := wsG_in 1084 (by decide +kernel) rfl
theorem we_X5_decades : Cond.selects RX5 yX5_decades yX5_decades ∈ wsG := wsG_in 1085 (by decide +kernel) rfl
theorem wc_X5_decadesNow : Cond.code yX5_decadesNow cX5_decadesNow 9 (some .int) ∈ wsG := wsG_in 1090 (by decide +kernel) rfl
theorem wi_X5_decadesNow : Cond.instanceMethod yX5_decadesNow ∈ wsG := wsG_in 1089 (by decide +kernel) rfl
theorem we_X5_decadesNow : Cond.selects RX5 yX5_decadesNow yX5_decadesNow ∈ wsG := wsG_in 52 (by decide +kernel) rfl
theorem wc_X5_draw : Cond.code yX5_draw cX5_draw 2 (some .int) ∈ wsG := wsG_in 1094 (by decide +kernel) rfl
theorem wi_X5_draw : Cond.instanceMethod yX5_draw ∈ wsG := wsG_in 1093 (by decide +kernel) rfl
theorem we_X5_draw : Cond.selects RX5 yX5_draw yX5_draw ∈ wsG := wsG_in 53 (by decide +kernel) rfl
theorem wc_X5_onPlain : Cond.code yX5_onPlain cX5_onPlain 3 (some .int) ∈ wsG := wsG_in 1102 (by decide +kernel) rfl
theorem wi_X5_onPlain : Cond.instanceMethod yX5_onPlain ∈ wsG := wsG_in 1101 (by decide +kernel) rfl
theorem we_X5_onPlain : Cond.selects RX5 yX5_onPlain yX5_onPlain ∈ wsG := wsG_in 54 (by decide +kernel) rfl
theorem wc_X5_image : Cond.code yX5_image cX5_image 2 (some .int) ∈ wsG := wsG_in 1106 (by decide +kernel) rfl
theorem wi_X5_image : Cond.instanceMethod yX5_image ∈ wsG := wsG_in 1104 (by decide +kernel) rfl
theorem we_X5_image : Cond.selects RX5 yX5_image yX5_image ∈ wsG := wsG_in 1105 (by decide +kernel) rfl
theorem wc_X5_restore : Cond.code yX5_restore cX5_restore 2 (some .int) ∈ wsG := wsG_in 1110 (by decide +kernel) rfl
theorem wi_X5_restore : Cond.instanceMethod yX5_restore ∈ wsG := wsG_in 1108 (by decide +kernel) rfl
theorem we_X5_restore : Cond.selects RX5 yX5_restore yX5_restore ∈ wsG := wsG_in 1109 (by decide +kernel) rfl
theorem wc_X5_count : Cond.code yX5_count cX5_count 2 (some .int) ∈ wsG := wsG_in 1114 (by decide +kernel) rfl
theorem wi_X5_count : Cond.instanceMethod yX5_count ∈ wsG := wsG_in 1112 (by decide +kernel) rfl
theorem we_X5_count : Cond.selects RX5 yX5_count yX5_count ∈ wsG := wsG_in 1113 (by decide +kernel) rfl
theorem wc_X5_howMany : Cond.code yX5_howMany cX5_howMany 2 (some .int) ∈ wsG := wsG_in 1118 (by decide +kernel) rfl
theorem wi_X5_howMany : Cond.instanceMethod yX5_howMany ∈ wsG := wsG_in 1117 (by decide +kernel) rfl
theorem we_X5_howMany : Cond.selects RX5 yX5_howMany yX5_howMany ∈ wsG := wsG_in 55 (by decide +kernel) rfl
theorem wc_X5_digest : Cond.code yX5_digest cX5_digest 3 (some .long) ∈ wsG := wsG_in 1122 (by decide +kernel) rfl
theorem wi_X5_digest : Cond.instanceMethod yX5_digest ∈ wsG := wsG_in 1120 (by decide +kernel) rfl
theorem we_X5_digest : Cond.selects RX5 yX5_digest yX5_digest ∈ wsG := wsG_in 1121 (by decide +kernel) rfl
theorem wc_X5_mix : Cond.code yX5_mix cX5_mix 3 none ∈ wsG := wsG_in 1127 (by decide +kernel) rfl
theorem wi_X5_mix : Cond.instanceMethod yX5_mix ∈ wsG := wsG_in 1126 (by decide +kernel) rfl
theorem we_X5_mix : Cond.selects RX5 yX5_mix yX5_mix ∈ wsG := wsG_in 56 (by decide +kernel) rfl
theorem wc_X5_mixVillage : Cond.code yX5_mixVillage cX5_mixVillage 3 none ∈ wsG := wsG_in 1132 (by decide +kernel) rfl
theorem wi_X5_mixVillage : Cond.instanceMethod yX5_mixVillage ∈ wsG := wsG_in 1131 (by decide +kernel) rfl
theorem we_X5_mixVillage : Cond.selects RX5 yX5_mixVillage yX5_mixVillage ∈ wsG := wsG_in 57 (by decide +kernel) rfl
theorem wn_L : Cond.initialized RL ∈ wsG := wsG_in 58 (by decide +kernel) rfl
theorem wn_X4 : Cond.initialized RX4 ∈ wsG := wsG_in 59 (by decide +kernel) rfl
theorem wn_X2 : Cond.initialized RX2 ∈ wsG := wsG_in 60 (by decide +kernel) rfl
theorem wn_X0 : Cond.initialized RX0 ∈ wsG := wsG_in 61 (by decide +kernel) rfl
theorem wn_X3 : Cond.initialized RX3 ∈ wsG := wsG_in 62 (by decide +kernel) rfl
theorem wn_X1 : Cond.initialized RX1 ∈ wsG := wsG_in 63 (by decide +kernel) rfl
theorem wn_X5 : Cond.initialized RX5 ∈ wsG := wsG_in 64 (by decide +kernel) rfl
theorem wn_J0 : Cond.initialized RJ0 ∈ wsG := wsG_in 65 (by decide +kernel) rfl
theorem wn_J1 : Cond.initialized RJ1 ∈ wsG := wsG_in 66 (by decide +kernel) rfl
theorem wn_J9 : Cond.initialized RJ9 ∈ wsG := wsG_in 67 (by decide +kernel) rfl
theorem wn_J2 : Cond.initialized RJ2 ∈ wsG := wsG_in 68 (by decide +kernel) rfl
theorem wn_J3 : Cond.initialized RJ3 ∈ wsG := wsG_in 69 (by decide +kernel) rfl
theorem wn_J11 : Cond.initialized RJ11 ∈ wsG := wsG_in 70 (by decide +kernel) rfl
theorem wn_J6 : Cond.initialized RJ6 ∈ wsG := wsG_in 71 (by decide +kernel) rfl
theorem wl_L_9 : Cond.methodLink RL 9 yX4_init ∈ wsG := wsG_in 74 (by decide +kernel) rfl
theorem wl_X4_3 : Cond.methodLink RX4 3 objectInit ∈ wsG := wsG_in 77 (by decide +kernel) rfl
theorem wl_X4_11 : Cond.methodLink RX4 11 yX2_init ∈ wsG := wsG_in 82 (by decide +kernel) rfl
theorem wl_X2_3 : Cond.methodLink RX2 3 objectInit ∈ wsG := wsG_in 85 (by decide +kernel) rfl
theorem wl_X4_18 : Cond.methodLink RX4 18 yX0_init ∈ wsG := wsG_in 107 (by decide +kernel) rfl
theorem wl_X0_3 : Cond.methodLink RX0 3 objectInit ∈ wsG := wsG_in 110 (by decide +kernel) rfl
theorem wl_X4_25 : Cond.methodLink RX4 25 yX3_init ∈ wsG := wsG_in 171 (by decide +kernel) rfl
theorem wl_X3_3 : Cond.methodLink RX3 3 objectInit ∈ wsG := wsG_in 174 (by decide +kernel) rfl
theorem wl_X4_41 : Cond.methodLink RX4 41 yX1_init ∈ wsG := wsG_in 198 (by decide +kernel) rfl
theorem wl_X1_3 : Cond.methodLink RX1 3 objectInit ∈ wsG := wsG_in 201 (by decide +kernel) rfl
theorem wl_L_13 : Cond.methodLink RL 13 yX4_letter ∈ wsG := wsG_in 255 (by decide +kernel) rfl
theorem wl_X4_60 : Cond.methodLink RX4 60 yX2_append ∈ wsG := wsG_in 259 (by decide +kernel) rfl
theorem wl_L_18 : Cond.methodLink RL 18 yX4_blank ∈ wsG := wsG_in 263 (by decide +kernel) rfl
theorem wl_L_23 : Cond.methodLink RL 23 yX4_fault ∈ wsG := wsG_in 267 (by decide +kernel) rfl
theorem wl_X4_64 : Cond.methodLink RX4 64 yX2_scan ∈ wsG := wsG_in 271 (by decide +kernel) rfl
theorem wl_X2_28 : Cond.methodLink RX2 28 yX2_dueBehind ∈ wsG := wsG_in 275 (by decide +kernel) rfl
theorem wl_X2_36 : Cond.methodLink RX2 36 yX2_behindBase ∈ wsG := wsG_in 279 (by decide +kernel) rfl
theorem wl_X2_49 : Cond.methodLink RX2 49 yX2_isDigit ∈ wsG := wsG_in 283 (by decide +kernel) rfl
theorem wl_X2_39 : Cond.methodLink RX2 39 yX2_behindBaseSign ∈ wsG := wsG_in 286 (by decide +kernel) rfl
theorem wl_X2_44 : Cond.methodLink RX2 44 yJ0_indexOf_0f7a4 ∈ wsG := wsG_in 291 (by decide +kernel) rfl
theorem wl_J0_633 : Cond.methodLink RJ0 633 yJ0_indexOf_7cf53 ∈ wsG := wsG_in 295 (by decide +kernel) rfl
theorem wl_J0_492 : Cond.methodLink RJ0 492 yJ0_isLatin1_aae02 ∈ wsG := wsG_in 299 (by decide +kernel) rfl
theorem wl_J0_505 : Cond.methodLink RJ0 505 yJ0_length_8abf5 ∈ wsG := wsG_in 305 (by decide +kernel) rfl
theorem wl_J0_335 : Cond.methodLink RJ0 335 yJ0_coder_7d493 ∈ wsG := wsG_in 309 (by decide +kernel) rfl
theorem wl_J0_637 : Cond.methodLink RJ0 637 yJ1_indexOf_4cfef ∈ wsG := wsG_in 313 (by decide +kernel) rfl
theorem wl_J1_88 : Cond.methodLink RJ1 88 yJ1_canEncode_9a6ad ∈ wsG := wsG_in 316 (by decide +kernel) rfl
theorem wl_J1_92 : Cond.methodLink RJ1 92 yJ9_max_7cf53 ∈ wsG := wsG_in 319 (by decide +kernel) rfl
theorem wl_J1_38 : Cond.methodLink RJ1 38 yJ9_min_7cf53 ∈ wsG := wsG_in 322 (by decide +kernel) rfl
theorem wl_J1_95 : Cond.methodLink RJ1 95 yJ1_indexOfChar_4cfef ∈ wsG := wsG_in 325 (by decide +kernel) rfl
theorem wl_J0_640 : Cond.methodLink RJ0 640 yJ2_indexOf_4cfef ∈ wsG := wsG_in 328 (by decide +kernel) rfl
theorem wl_J2_224 : Cond.methodLink RJ2 224 yJ9_max_7cf53 ∈ wsG := wsG_in 331 (by decide +kernel) rfl
theorem wl_J2_183 : Cond.methodLink RJ2 183 yJ9_min_7cf53 ∈ wsG := wsG_in 332 (by decide +kernel) rfl
theorem wl_J2_228 : Cond.methodLink RJ2 228 yJ2_indexOfChar_4cfef ∈ wsG := wsG_in 334 (by decide +kernel) rfl
theorem wl_J2_96 : Cond.methodLink RJ2 96 yJ2_checkBoundsBeginEnd_d044e ∈ wsG := wsG_in 337 (by decide +kernel) rfl
theorem wl_J2_48 : Cond.methodLink RJ2 48 yJ2_length_9d52b ∈ wsG := wsG_in 340 (by decide +kernel) rfl
theorem wl_J2_241 : Cond.methodLink RJ2 241 yJ0_checkBoundsBeginEnd_23922 ∈ wsG := wsG_in 343 (by decide +kernel) rfl
theorem wl_J0_1062 : Cond.methodLink RJ0 1062 yJ3_checkFromToIndex_8c36e ∈ wsG := wsG_in 348 (by decide +kernel) rfl
theorem wl_J2_244 : Cond.methodLink RJ2 244 yJ2_indexOfCharUnsafe_4cfef ∈ wsG := wsG_in 351 (by decide +kernel) rfl
theorem wl_J2_71 : Cond.methodLink RJ2 71 yJ2_getChar_3b067 ∈ wsG := wsG_in 354 (by decide +kernel) rfl
theorem wl_J2_232 : Cond.methodLink RJ2 232 yJ2_indexOfSupplementary_4cfef ∈ wsG := wsG_in 363 (by decide +kernel) rfl
theorem wl_J2_164 : Cond.methodLink RJ2 164 yJ11_isValidCodePoint_9a6ad ∈ wsG := wsG_in 366 (by decide +kernel) rfl
theorem wl_J2_157 : Cond.methodLink RJ2 157 yJ11_highSurrogate_5068e ∈ wsG := wsG_in 369 (by decide +kernel) rfl
theorem wl_J2_161 : Cond.methodLink RJ2 161 yJ11_lowSurrogate_5068e ∈ wsG := wsG_in 373 (by decide +kernel) rfl
theorem wl_X2_53 : Cond.methodLink RX2 53 yX2_behindPlace ∈ wsG := wsG_in 377 (by decide +kernel) rfl
theorem wl_L_27 : Cond.methodLink RL 27 yX4_table ∈ wsG := wsG_in 382 (by decide +kernel) rfl
theorem wl_X4_68 : Cond.methodLink RX4 68 yX2_isTable ∈ wsG := wsG_in 386 (by decide +kernel) rfl
theorem wl_X2_32 : Cond.methodLink RX2 32 yX2_scan ∈ wsG := wsG_in 390 (by decide +kernel) rfl
theorem wl_X4_72 : Cond.methodLink RX4 72 yX2_readInto ∈ wsG := wsG_in 391 (by decide +kernel) rfl
theorem wl_X2_56 : Cond.methodLink RX2 56 yX0_clear ∈ wsG := wsG_in 395 (by decide +kernel) rfl
theorem wl_X0_46 : Cond.methodLink RX0 46 yJ9_min_7cf53 ∈ wsG := wsG_in 399 (by decide +kernel) rfl
theorem wl_X0_52 : Cond.methodLink RX0 52 yJ9_max_7cf53 ∈ wsG := wsG_in 400 (by decide +kernel) rfl
theorem wl_X2_66 : Cond.methodLink RX2 66 yX2_digitAt ∈ wsG := wsG_in 401 (by decide +kernel) rfl
theorem wl_X2_73 : Cond.methodLink RX2 73 yX2_kindAt ∈ wsG := wsG_in 405 (by decide +kernel) rfl
theorem wl_L_31 : Cond.methodLink RL 31 yX4_weight ∈ wsG := wsG_in 409 (by decide +kernel) rfl
theorem wl_X4_80 : Cond.methodLink RX4 80 yX4_isWeight ∈ wsG := wsG_in 413 (by decide +kernel) rfl
theorem wl_X4_100 : Cond.methodLink RX4 100 yX4_bearing ∈ wsG := wsG_in 417 (by decide +kernel) rfl
theorem wl_X4_104 : Cond.methodLink RX4 104 yX3_possibleOunces ∈ wsG := wsG_in 420 (by decide +kernel) rfl
theorem wl_X3_37 : Cond.methodLink RX3 37 yX0_holdIfOunces ∈ wsG := wsG_in 424 (by decide +kernel) rfl
theorem wl_X0_62 : Cond.methodLink RX0 62 yX0_holdBut ∈ wsG := wsG_in 429 (by decide +kernel) rfl
theorem wl_X4_108 : Cond.methodLink RX4 108 yX3_windToWaitFor ∈ wsG := wsG_in 439 (by decide +kernel) rfl
theorem wl_X3_45 : Cond.methodLink RX3 45 yX3_possibleOunces ∈ wsG := wsG_in 443 (by decide +kernel) rfl
theorem wl_X3_49 : Cond.methodLink RX3 49 yX3_fillHolds ∈ wsG := wsG_in 444 (by decide +kernel) rfl
theorem wl_X3_53 : Cond.methodLink RX3 53 yX3_leftAtWorst ∈ wsG := wsG_in 448 (by decide +kernel) rfl
theorem wl_X3_57 : Cond.methodLink RX3 57 yJ6_bitCount_0f7a4 ∈ wsG := wsG_in 452 (by decide +kernel) rfl
theorem wl_X3_63 : Cond.methodLink RX3 63 yJ9_max_7cf53 ∈ wsG := wsG_in 458 (by decide +kernel) rfl
theorem wl_L_36 : Cond.methodLink RL 36 yX4_as ∈ wsG := wsG_in 459 (by decide +kernel) rfl
theorem wl_X4_111 : Cond.methodLink RX4 111 yX4_isOfKind ∈ wsG := wsG_in 463 (by decide +kernel) rfl
theorem wl_L_40 : Cond.methodLink RL 40 yX4_village ∈ wsG := wsG_in 466 (by decide +kernel) rfl
theorem wl_X4_115 : Cond.methodLink RX4 115 yX4_isVillage ∈ wsG := wsG_in 470 (by decide +kernel) rfl
theorem wl_X4_121 : Cond.methodLink RX4 121 yX0_holdBut ∈ wsG := wsG_in 474 (by decide +kernel) rfl
theorem wl_X4_124 : Cond.methodLink RX4 124 yX4_standBy ∈ wsG := wsG_in 475 (by decide +kernel) rfl
theorem wl_X4_250 : Cond.methodLink RX4 250 yJ9_min_7cf53 ∈ wsG := wsG_in 478 (by decide +kernel) rfl
theorem wl_X4_128 : Cond.methodLink RX4 128 yX0_leastOf ∈ wsG := wsG_in 479 (by decide +kernel) rfl
theorem wl_X4_131 : Cond.methodLink RX4 131 yX0_weightsIn ∈ wsG := wsG_in 484 (by decide +kernel) rfl
theorem wl_X4_134 : Cond.methodLink RX4 134 yX0_ouncesIn ∈ wsG := wsG_in 488 (by decide +kernel) rfl
theorem wl_L_44 : Cond.methodLink RL 44 yX4_lifts ∈ wsG := wsG_in 492 (by decide +kernel) rfl
theorem wl_X4_137 : Cond.methodLink RX4 137 yX4_isWind ∈ wsG := wsG_in 496 (by decide +kernel) rfl
theorem wl_X4_140 : Cond.methodLink RX4 140 yX4_liftsAt ∈ wsG := wsG_in 499 (by decide +kernel) rfl
theorem wl_L_49 : Cond.methodLink RL 49 yX4_blow ∈ wsG := wsG_in 500 (by decide +kernel) rfl
theorem wl_X4_143 : Cond.methodLink RX4 143 yX4_hasTable ∈ wsG := wsG_in 504 (by decide +kernel) rfl
theorem wl_X4_149 : Cond.methodLink RX4 149 yX0_takeWind ∈ wsG := wsG_in 508 (by decide +kernel) rfl
theorem wl_X0_101 : Cond.methodLink RX0 101 yX0_slide ∈ wsG := wsG_in 513 (by decide +kernel) rfl
theorem wl_X0_109 : Cond.methodLink RX0 109 yX0_moveTo ∈ wsG := wsG_in 517 (by decide +kernel) rfl
theorem wl_X0_105 : Cond.methodLink RX0 105 yX0_weather ∈ wsG := wsG_in 521 (by decide +kernel) rfl
theorem wl_X0_92 : Cond.methodLink RX0 92 yJ6_bitCount_0f7a4 ∈ wsG := wsG_in 525 (by decide +kernel) rfl
theorem wl_L_53 : Cond.methodLink RL 53 yX4_put ∈ wsG := wsG_in 526 (by decide +kernel) rfl
theorem wl_X4_153 : Cond.methodLink RX4 153 yX0_moveTo ∈ wsG := wsG_in 530 (by decide +kernel) rfl
theorem wl_L_57 : Cond.methodLink RL 57 yX4_lift ∈ wsG := wsG_in 531 (by decide +kernel) rfl
theorem wl_L_61 : Cond.methodLink RL 61 yX4_cut ∈ wsG := wsG_in 535 (by decide +kernel) rfl
theorem wl_L_65 : Cond.methodLink RL 65 yX4_build ∈ wsG := wsG_in 539 (by decide +kernel) rfl
theorem wl_L_69 : Cond.methodLink RL 69 yX4_where ∈ wsG := wsG_in 543 (by decide +kernel) rfl
theorem wl_X4_157 : Cond.methodLink RX4 157 yX0_bestPlace ∈ wsG := wsG_in 547 (by decide +kernel) rfl
theorem wl_X0_76 : Cond.methodLink RX0 76 yX0_leastIfPut ∈ wsG := wsG_in 551 (by decide +kernel) rfl
theorem wl_X0_72 : Cond.methodLink RX0 72 yX0_holdIfPut ∈ wsG := wsG_in 555 (by decide +kernel) rfl
theorem wl_X4_160 : Cond.methodLink RX4 160 yX0_leastIfPut ∈ wsG := wsG_in 559 (by decide +kernel) rfl
theorem wl_L_73 : Cond.methodLink RL 73 yX4_pack ∈ wsG := wsG_in 560 (by decide +kernel) rfl
theorem wl_X4_163 : Cond.methodLink RX4 163 yX4_isPackAnswer ∈ wsG := wsG_in 564 (by decide +kernel) rfl
theorem wl_X4_166 : Cond.methodLink RX4 166 yX1_search ∈ wsG := wsG_in 567 (by decide +kernel) rfl
theorem wl_X1_31 : Cond.methodLink RX1 31 yX1_weigh ∈ wsG := wsG_in 571 (by decide +kernel) rfl
theorem wl_X1_40 : Cond.methodLink RX1 40 yX1_chooseFrom ∈ wsG := wsG_in 577 (by decide +kernel) rfl
theorem wl_X1_61 : Cond.methodLink RX1 61 yX1_keepIfBetter ∈ wsG := wsG_in 581 (by decide +kernel) rfl
theorem wl_L_77 : Cond.methodLink RL 77 yX4_mend ∈ wsG := wsG_in 586 (by decide +kernel) rfl
theorem wl_X4_179 : Cond.methodLink RX4 179 yX0_bestToMend ∈ wsG := wsG_in 590 (by decide +kernel) rfl
theorem wl_X0_82 : Cond.methodLink RX0 82 yX0_leastOfAll ∈ wsG := wsG_in 594 (by decide +kernel) rfl
theorem wl_X0_69 : Cond.methodLink RX0 69 yX0_leastOf ∈ wsG := wsG_in 598 (by decide +kernel) rfl
theorem wl_X0_86 : Cond.methodLink RX0 86 yX0_leastOfAllIfMended ∈ wsG := wsG_in 599 (by decide +kernel) rfl
theorem wl_X0_79 : Cond.methodLink RX0 79 yX0_holdIfOunces ∈ wsG := wsG_in 603 (by decide +kernel) rfl
theorem wl_L_81 : Cond.methodLink RL 81 yX4_odds ∈ wsG := wsG_in 604 (by decide +kernel) rfl
theorem wl_X4_182 : Cond.methodLink RX4 182 yX0_hourlyWindsStood ∈ wsG := wsG_in 608 (by decide +kernel) rfl
theorem wl_X4_185 : Cond.methodLink RX4 185 yX4_inLowestTerms ∈ wsG := wsG_in 612 (by decide +kernel) rfl
theorem wl_L_85 : Cond.methodLink RL 85 yX4_see ∈ wsG := wsG_in 615 (by decide +kernel) rfl
theorem wl_X4_188 : Cond.methodLink RX4 188 yX3_append ∈ wsG := wsG_in 619 (by decide +kernel) rfl
theorem wl_L_90 : Cond.methodLink RL 90 yX4_forget ∈ wsG := wsG_in 623 (by decide +kernel) rfl
theorem wl_L_94 : Cond.methodLink RL 94 yX4_decades ∈ wsG := wsG_in 627 (by decide +kernel) rfl
theorem wl_X4_191 : Cond.methodLink RX4 191 yX0_copyFrom ∈ wsG := wsG_in 631 (by decide +kernel) rfl
theorem wl_X4_194 : Cond.methodLink RX4 194 yX4_nextSeed ∈ wsG := wsG_in 635 (by decide +kernel) rfl
theorem wl_X4_197 : Cond.methodLink RX4 197 yX4_drawnOf ∈ wsG := wsG_in 641 (by decide +kernel) rfl
theorem wl_X4_200 : Cond.methodLink RX4 200 yX0_weightsOnPlain ∈ wsG := wsG_in 645 (by decide +kernel) rfl
theorem wl_X0_89 : Cond.methodLink RX0 89 yX0_weightsIn ∈ wsG := wsG_in 649 (by decide +kernel) rfl
theorem wl_L_98 : Cond.methodLink RL 98 yX4_image ∈ wsG := wsG_in 650 (by decide +kernel) rfl
theorem wl_X4_203 : Cond.methodLink RX4 203 yX3_copyFrom ∈ wsG := wsG_in 654 (by decide +kernel) rfl
theorem wl_L_102 : Cond.methodLink RL 102 yX4_restore ∈ wsG := wsG_in 658 (by decide +kernel) rfl
theorem wl_L_106 : Cond.methodLink RL 106 yX4_count ∈ wsG := wsG_in 662 (by decide +kernel) rfl
theorem wl_X4_209 : Cond.methodLink RX4 209 yX0_ouncesOfAll ∈ wsG := wsG_in 666 (by decide +kernel) rfl
theorem wl_X4_212 : Cond.methodLink RX4 212 yX0_leastOfAll ∈ wsG := wsG_in 670 (by decide +kernel) rfl
theorem wl_L_110 : Cond.methodLink RL 110 yX4_digest ∈ wsG := wsG_in 671 (by decide +kernel) rfl
theorem wl_X4_223 : Cond.methodLink RX4 223 yX4_weight ∈ wsG := wsG_in 676 (by decide +kernel) rfl
theorem wl_X4_226 : Cond.methodLink RX4 226 yX4_mixed ∈ wsG := wsG_in 677 (by decide +kernel) rfl
theorem wl_X4_230 : Cond.methodLink RX4 230 yX4_village ∈ wsG := wsG_in 681 (by decide +kernel) rfl
theorem wl_X4_233 : Cond.methodLink RX4 233 yX4_where ∈ wsG := wsG_in 682 (by decide +kernel) rfl
theorem wl_X4_236 : Cond.methodLink RX4 236 yX4_mend ∈ wsG := wsG_in 683 (by decide +kernel) rfl
theorem wl_X4_239 : Cond.methodLink RX4 239 yX4_odds ∈ wsG := wsG_in 684 (by decide +kernel) rfl
theorem wl_X4_245 : Cond.methodLink RX4 245 yX4_count ∈ wsG := wsG_in 685 (by decide +kernel) rfl
theorem wl_L_12 : Cond.methodLink RL 12 yX5_init ∈ wsG := wsG_in 688 (by decide +kernel) rfl
theorem wl_X5_1 : Cond.methodLink RX5 1 objectInit ∈ wsG := wsG_in 691 (by decide +kernel) rfl
theorem wl_L_17 : Cond.methodLink RL 17 yX5_letter ∈ wsG := wsG_in 843 (by decide +kernel) rfl
theorem wl_X5_96 : Cond.methodLink RX5 96 yX5_within ∈ wsG := wsG_in 847 (by decide +kernel) rfl
theorem wl_L_22 : Cond.methodLink RL 22 yX5_blank ∈ wsG := wsG_in 850 (by decide +kernel) rfl
theorem wl_L_26 : Cond.methodLink RL 26 yX5_fault ∈ wsG := wsG_in 854 (by decide +kernel) rfl
theorem wl_X5_127 : Cond.methodLink RX5 127 yX5_read ∈ wsG := wsG_in 858 (by decide +kernel) rfl
theorem wl_X5_114 : Cond.methodLink RX5 114 yX5_isFigure ∈ wsG := wsG_in 862 (by decide +kernel) rfl
theorem wl_X5_104 : Cond.methodLink RX5 104 yX5_at ∈ wsG := wsG_in 866 (by decide +kernel) rfl
theorem wl_X5_124 : Cond.methodLink RX5 124 yX5_readWeights ∈ wsG := wsG_in 870 (by decide +kernel) rfl
theorem wl_X5_111 : Cond.methodLink RX5 111 yX5_kindBy ∈ wsG := wsG_in 874 (by decide +kernel) rfl
theorem wl_L_30 : Cond.methodLink RL 30 yX5_table ∈ wsG := wsG_in 877 (by decide +kernel) rfl
theorem wl_L_35 : Cond.methodLink RL 35 yX5_weight ∈ wsG := wsG_in 881 (by decide +kernel) rfl
theorem wl_X5_182 : Cond.methodLink RX5 182 yX5_isWeight ∈ wsG := wsG_in 885 (by decide +kernel) rfl
theorem wl_X5_186 : Cond.methodLink RX5 186 yX5_weightNow ∈ wsG := wsG_in 889 (by decide +kernel) rfl
theorem wl_X5_152 : Cond.methodLink RX5 152 yX5_bears ∈ wsG := wsG_in 893 (by decide +kernel) rfl
theorem wl_X5_176 : Cond.methodLink RX5 176 yX5_canHave ∈ wsG := wsG_in 897 (by decide +kernel) rfl
theorem wl_X5_274 : Cond.methodLink RX5 274 yX5_liftsWith ∈ wsG := wsG_in 901 (by decide +kernel) rfl
theorem wl_X5_204 : Cond.methodLink RX5 204 yX5_wouldLift ∈ wsG := wsG_in 905 (by decide +kernel) rfl
theorem wl_X5_159 : Cond.methodLink RX5 159 yX5_hold ∈ wsG := wsG_in 909 (by decide +kernel) rfl
theorem wl_X5_155 : Cond.methodLink RX5 155 yX5_arm ∈ wsG := wsG_in 913 (by decide +kernel) rfl
theorem wl_X5_179 : Cond.methodLink RX5 179 yX5_waitFor ∈ wsG := wsG_in 916 (by decide +kernel) rfl
theorem wl_X5_278 : Cond.methodLink RX5 278 yX5_worstBy ∈ wsG := wsG_in 921 (by decide +kernel) rfl
theorem wl_X5_172 : Cond.methodLink RX5 172 yX5_isIn ∈ wsG := wsG_in 925 (by decide +kernel) rfl
theorem wl_X5_218 : Cond.methodLink RX5 218 yX5_size ∈ wsG := wsG_in 928 (by decide +kernel) rfl
theorem wl_L_39 : Cond.methodLink RL 39 yX5_as ∈ wsG := wsG_in 931 (by decide +kernel) rfl
theorem wl_L_43 : Cond.methodLink RL 43 yX5_village ∈ wsG := wsG_in 935 (by decide +kernel) rfl
theorem wl_X5_195 : Cond.methodLink RX5 195 yX5_isVillage ∈ wsG := wsG_in 939 (by decide +kernel) rfl
theorem wl_X5_198 : Cond.methodLink RX5 198 yX5_villageNow ∈ wsG := wsG_in 943 (by decide +kernel) rfl
theorem wl_X5_165 : Cond.methodLink RX5 165 yX5_stand ∈ wsG := wsG_in 947 (by decide +kernel) rfl
theorem wl_X5_162 : Cond.methodLink RX5 162 yX5_standBy ∈ wsG := wsG_in 951 (by decide +kernel) rfl
theorem wl_X5_169 : Cond.methodLink RX5 169 yX5_leastOf ∈ wsG := wsG_in 954 (by decide +kernel) rfl
theorem wl_X5_189 : Cond.methodLink RX5 189 yX5_there ∈ wsG := wsG_in 958 (by decide +kernel) rfl
theorem wl_X5_192 : Cond.methodLink RX5 192 yX5_ouncesIn ∈ wsG := wsG_in 962 (by decide +kernel) rfl
theorem wl_L_48 : Cond.methodLink RL 48 yX5_lifts ∈ wsG := wsG_in 966 (by decide +kernel) rfl
theorem wl_X5_201 : Cond.methodLink RX5 201 yX5_isWind ∈ wsG := wsG_in 970 (by decide +kernel) rfl
theorem wl_L_52 : Cond.methodLink RL 52 yX5_blow ∈ wsG := wsG_in 973 (by decide +kernel) rfl
theorem wl_X5_221 : Cond.methodLink RX5 221 yX5_wind ∈ wsG := wsG_in 977 (by decide +kernel) rfl
theorem wl_X5_211 : Cond.methodLink RX5 211 yX5_slide ∈ wsG := wsG_in 981 (by decide +kernel) rfl
theorem wl_X5_207 : Cond.methodLink RX5 207 yX5_goAway ∈ wsG := wsG_in 985 (by decide +kernel) rfl
theorem wl_X5_215 : Cond.methodLink RX5 215 yX5_wear ∈ wsG := wsG_in 989 (by decide +kernel) rfl
theorem wl_L_56 : Cond.methodLink RL 56 yX5_put ∈ wsG := wsG_in 993 (by decide +kernel) rfl
theorem wl_L_60 : Cond.methodLink RL 60 yX5_lift ∈ wsG := wsG_in 997 (by decide +kernel) rfl
theorem wl_L_64 : Cond.methodLink RL 64 yX5_cut ∈ wsG := wsG_in 1001 (by decide +kernel) rfl
theorem wl_L_68 : Cond.methodLink RL 68 yX5_build ∈ wsG := wsG_in 1005 (by decide +kernel) rfl
theorem wl_L_72 : Cond.methodLink RL 72 yX5_where ∈ wsG := wsG_in 1009 (by decide +kernel) rfl
theorem wl_X5_224 : Cond.methodLink RX5 224 yX5_whereNow ∈ wsG := wsG_in 1013 (by decide +kernel) rfl
theorem wl_L_76 : Cond.methodLink RL 76 yX5_pack ∈ wsG := wsG_in 1017 (by decide +kernel) rfl
theorem wl_X5_256 : Cond.methodLink RX5 256 yX5_packNow ∈ wsG := wsG_in 1021 (by decide +kernel) rfl
theorem wl_X5_243 : Cond.methodLink RX5 243 yX5_canStand ∈ wsG := wsG_in 1025 (by decide +kernel) rfl
theorem wl_X5_231 : Cond.methodLink RX5 231 yX5_standsNow ∈ wsG := wsG_in 1029 (by decide +kernel) rfl
theorem wl_X5_228 : Cond.methodLink RX5 228 yX5_bareBears ∈ wsG := wsG_in 1033 (by decide +kernel) rfl
theorem wl_X5_234 : Cond.methodLink RX5 234 yX5_nextPlaces ∈ wsG := wsG_in 1036 (by decide +kernel) rfl
theorem wl_X5_246 : Cond.methodLink RX5 246 yX5_isRow ∈ wsG := wsG_in 1040 (by decide +kernel) rfl
theorem wl_X5_250 : Cond.methodLink RX5 250 yX5_nextRow ∈ wsG := wsG_in 1044 (by decide +kernel) rfl
theorem wl_L_80 : Cond.methodLink RL 80 yX5_mend ∈ wsG := wsG_in 1048 (by decide +kernel) rfl
theorem wl_X5_262 : Cond.methodLink RX5 262 yX5_mendNow ∈ wsG := wsG_in 1052 (by decide +kernel) rfl
theorem wl_X5_259 : Cond.methodLink RX5 259 yX5_leastOfAll ∈ wsG := wsG_in 1056 (by decide +kernel) rfl
theorem wl_L_84 : Cond.methodLink RL 84 yX5_odds ∈ wsG := wsG_in 1060 (by decide +kernel) rfl
theorem wl_X5_271 : Cond.methodLink RX5 271 yX5_oddsNow ∈ wsG := wsG_in 1064 (by decide +kernel) rfl
theorem wl_X5_265 : Cond.methodLink RX5 265 yX5_anyLifts ∈ wsG := wsG_in 1068 (by decide +kernel) rfl
theorem wl_X5_268 : Cond.methodLink RX5 268 yX5_divisor ∈ wsG := wsG_in 1072 (by decide +kernel) rfl
theorem wl_L_89 : Cond.methodLink RL 89 yX5_see ∈ wsG := wsG_in 1075 (by decide +kernel) rfl
theorem wl_L_93 : Cond.methodLink RL 93 yX5_forget ∈ wsG := wsG_in 1079 (by decide +kernel) rfl
theorem wl_L_97 : Cond.methodLink RL 97 yX5_decades ∈ wsG := wsG_in 1083 (by decide +kernel) rfl
theorem wl_X5_300 : Cond.methodLink RX5 300 yX5_decadesNow ∈ wsG := wsG_in 1087 (by decide +kernel) rfl
theorem wl_X5_294 : Cond.methodLink RX5 294 yX5_draw ∈ wsG := wsG_in 1091 (by decide +kernel) rfl
theorem wl_X5_297 : Cond.methodLink RX5 297 yX5_onPlain ∈ wsG := wsG_in 1099 (by decide +kernel) rfl
theorem wl_L_101 : Cond.methodLink RL 101 yX5_image ∈ wsG := wsG_in 1103 (by decide +kernel) rfl
theorem wl_L_105 : Cond.methodLink RL 105 yX5_restore ∈ wsG := wsG_in 1107 (by decide +kernel) rfl
theorem wl_L_109 : Cond.methodLink RL 109 yX5_count ∈ wsG := wsG_in 1111 (by decide +kernel) rfl
theorem wl_X5_321 : Cond.methodLink RX5 321 yX5_howMany ∈ wsG := wsG_in 1115 (by decide +kernel) rfl
theorem wl_L_114 : Cond.methodLink RL 114 yX5_digest ∈ wsG := wsG_in 1119 (by decide +kernel) rfl
theorem wl_X5_329 : Cond.methodLink RX5 329 yX5_mix ∈ wsG := wsG_in 1124 (by decide +kernel) rfl
theorem wl_X5_335 : Cond.methodLink RX5 335 yX5_mixVillage ∈ wsG := wsG_in 1129 (by decide +kernel) rfl
theorem wf_X2_9 : Cond.fieldLink RX2 9 "HeldTowns$Page" "letters" "[I" ∈ wsG := wsG_in 86 (by decide +kernel) rfl
theorem wf_X4_242 : Cond.fieldLink RX4 242 "HeldTowns$Page" "letters" "[I" ∈ wsG := wsG_in 87 (by decide +kernel) rfl
theorem wf_X2_15 : Cond.fieldLink RX2 15 "HeldTowns$Page" "length" "I" ∈ wsG := wsG_in 88 (by decide +kernel) rfl
theorem wf_X4_57 : Cond.fieldLink RX4 57 "HeldTowns$Page" "length" "I" ∈ wsG := wsG_in 89 (by decide +kernel) rfl
theorem wf_X2_19 : Cond.fieldLink RX2 19 "HeldTowns$Page" "villages" "I" ∈ wsG := wsG_in 90 (by decide +kernel) rfl
theorem wf_X2_22 : Cond.fieldLink RX2 22 "HeldTowns$Page" "weights" "I" ∈ wsG := wsG_in 91 (by decide +kernel) rfl
theorem wf_X2_25 : Cond.fieldLink RX2 25 "HeldTowns$Page" "due" "I" ∈ wsG := wsG_in 92 (by decide +kernel) rfl
theorem wf_X0_9 : Cond.fieldLink RX0 9 "HeldTowns$Land" "villages" "I" ∈ wsG := wsG_in 111 (by decide +kernel) rfl
theorem wf_X1_58 : Cond.fieldLink RX1 58 "HeldTowns$Land" "villages" "I" ∈ wsG := wsG_in 112 (by decide +kernel) rfl
theorem wf_X4_77 : Cond.fieldLink RX4 77 "HeldTowns$Land" "villages" "I" ∈ wsG := wsG_in 113 (by decide +kernel) rfl
theorem wf_X2_62 : Cond.fieldLink RX2 62 "HeldTowns$Land" "villages" "I" ∈ wsG := wsG_in 114 (by decide +kernel) rfl
theorem wf_X0_15 : Cond.fieldLink RX0 15 "HeldTowns$Land" "weights" "I" ∈ wsG := wsG_in 115 (by decide +kernel) rfl
theorem wf_X1_35 : Cond.fieldLink RX1 35 "HeldTowns$Land" "weights" "I" ∈ wsG := wsG_in 116 (by decide +kernel) rfl
theorem wf_X2_69 : Cond.fieldLink RX2 69 "HeldTowns$Land" "weights" "I" ∈ wsG := wsG_in 117 (by decide +kernel) rfl
theorem wf_X4_206 : Cond.fieldLink RX4 206 "HeldTowns$Land" "weights" "I" ∈ wsG := wsG_in 118 (by decide +kernel) rfl
theorem wf_X0_18 : Cond.fieldLink RX0 18 "HeldTowns$Land" "bases" "[I" ∈ wsG := wsG_in 119 (by decide +kernel) rfl
theorem wf_X1_65 : Cond.fieldLink RX1 65 "HeldTowns$Land" "bases" "[I" ∈ wsG := wsG_in 120 (by decide +kernel) rfl
theorem wf_X4_118 : Cond.fieldLink RX4 118 "HeldTowns$Land" "bases" "[I" ∈ wsG := wsG_in 121 (by decide +kernel) rfl
theorem wf_X2_63 : Cond.fieldLink RX2 63 "HeldTowns$Land" "bases" "[I" ∈ wsG := wsG_in 122 (by decide +kernel) rfl
theorem wf_X0_22 : Cond.fieldLink RX0 22 "HeldTowns$Land" "kinds" "[I" ∈ wsG := wsG_in 123 (by decide +kernel) rfl
theorem wf_X1_47 : Cond.fieldLink RX1 47 "HeldTowns$Land" "kinds" "[I" ∈ wsG := wsG_in 124 (by decide +kernel) rfl
theorem wf_X4_84 : Cond.fieldLink RX4 84 "HeldTowns$Land" "kinds" "[I" ∈ wsG := wsG_in 125 (by decide +kernel) rfl
theorem wf_X2_70 : Cond.fieldLink RX2 70 "HeldTowns$Land" "kinds" "[I" ∈ wsG := wsG_in 126 (by decide +kernel) rfl
theorem wf_X0_25 : Cond.fieldLink RX0 25 "HeldTowns$Land" "ounces" "[I" ∈ wsG := wsG_in 127 (by decide +kernel) rfl
theorem wf_X1_44 : Cond.fieldLink RX1 44 "HeldTowns$Land" "ounces" "[I" ∈ wsG := wsG_in 128 (by decide +kernel) rfl
theorem wf_X4_88 : Cond.fieldLink RX4 88 "HeldTowns$Land" "ounces" "[I" ∈ wsG := wsG_in 129 (by decide +kernel) rfl
theorem wf_X2_76 : Cond.fieldLink RX2 76 "HeldTowns$Land" "ounces" "[I" ∈ wsG := wsG_in 130 (by decide +kernel) rfl
theorem wf_X0_28 : Cond.fieldLink RX0 28 "HeldTowns$Land" "homes" "[I" ∈ wsG := wsG_in 131 (by decide +kernel) rfl
theorem wf_X3_32 : Cond.fieldLink RX3 32 "HeldTowns$Land" "homes" "[I" ∈ wsG := wsG_in 132 (by decide +kernel) rfl
theorem wf_X4_91 : Cond.fieldLink RX4 91 "HeldTowns$Land" "homes" "[I" ∈ wsG := wsG_in 133 (by decide +kernel) rfl
theorem wf_X2_79 : Cond.fieldLink RX2 79 "HeldTowns$Land" "homes" "[I" ∈ wsG := wsG_in 134 (by decide +kernel) rfl
theorem wf_X0_31 : Cond.fieldLink RX0 31 "HeldTowns$Land" "places" "[I" ∈ wsG := wsG_in 135 (by decide +kernel) rfl
theorem wf_X4_94 : Cond.fieldLink RX4 94 "HeldTowns$Land" "places" "[I" ∈ wsG := wsG_in 136 (by decide +kernel) rfl
theorem wf_X2_82 : Cond.fieldLink RX2 82 "HeldTowns$Land" "places" "[I" ∈ wsG := wsG_in 137 (by decide +kernel) rfl
theorem wf_X0_34 : Cond.fieldLink RX0 34 "HeldTowns$Land" "snows" "[I" ∈ wsG := wsG_in 138 (by decide +kernel) rfl
theorem wf_X4_97 : Cond.fieldLink RX4 97 "HeldTowns$Land" "snows" "[I" ∈ wsG := wsG_in 139 (by decide +kernel) rfl
theorem wf_X0_37 : Cond.fieldLink RX0 37 "HeldTowns$Land" "winds" "I" ∈ wsG := wsG_in 140 (by decide +kernel) rfl
theorem wf_X4_146 : Cond.fieldLink RX4 146 "HeldTowns$Land" "winds" "I" ∈ wsG := wsG_in 141 (by decide +kernel) rfl
theorem wf_X0_40 : Cond.fieldLink RX0 40 "HeldTowns$Land" "lifted" "I" ∈ wsG := wsG_in 142 (by decide +kernel) rfl
theorem wf_X4_215 : Cond.fieldLink RX4 215 "HeldTowns$Land" "lifted" "I" ∈ wsG := wsG_in 143 (by decide +kernel) rfl
theorem wf_X0_43 : Cond.fieldLink RX0 43 "HeldTowns$Land" "fallen" "I" ∈ wsG := wsG_in 144 (by decide +kernel) rfl
theorem wf_X4_218 : Cond.fieldLink RX4 218 "HeldTowns$Land" "fallen" "I" ∈ wsG := wsG_in 145 (by decide +kernel) rfl
theorem wf_X3_9 : Cond.fieldLink RX3 9 "HeldTowns$Seen" "length" "I" ∈ wsG := wsG_in 175 (by decide +kernel) rfl
theorem wf_X4_76 : Cond.fieldLink RX4 76 "HeldTowns$Seen" "length" "I" ∈ wsG := wsG_in 176 (by decide +kernel) rfl
theorem wf_X3_15 : Cond.fieldLink RX3 15 "HeldTowns$Seen" "weights" "[I" ∈ wsG := wsG_in 177 (by decide +kernel) rfl
theorem wf_X3_19 : Cond.fieldLink RX3 19 "HeldTowns$Seen" "sides" "[I" ∈ wsG := wsG_in 178 (by decide +kernel) rfl
theorem wf_X3_22 : Cond.fieldLink RX3 22 "HeldTowns$Seen" "forces" "[I" ∈ wsG := wsG_in 179 (by decide +kernel) rfl
theorem wf_X3_25 : Cond.fieldLink RX3 25 "HeldTowns$Seen" "lifting" "[Z" ∈ wsG := wsG_in 180 (by decide +kernel) rfl
theorem wf_X3_29 : Cond.fieldLink RX3 29 "HeldTowns$Seen" "holds" "[I" ∈ wsG := wsG_in 181 (by decide +kernel) rfl
theorem wf_X1_9 : Cond.fieldLink RX1 9 "HeldTowns$Packing" "best" "[I" ∈ wsG := wsG_in 202 (by decide +kernel) rfl
theorem wf_X4_176 : Cond.fieldLink RX4 176 "HeldTowns$Packing" "best" "[I" ∈ wsG := wsG_in 203 (by decide +kernel) rfl
theorem wf_X1_15 : Cond.fieldLink RX1 15 "HeldTowns$Packing" "mostStanding" "I" ∈ wsG := wsG_in 204 (by decide +kernel) rfl
theorem wf_X4_170 : Cond.fieldLink RX4 170 "HeldTowns$Packing" "mostStanding" "I" ∈ wsG := wsG_in 205 (by decide +kernel) rfl
theorem wf_X1_19 : Cond.fieldLink RX1 19 "HeldTowns$Packing" "fewestOunces" "I" ∈ wsG := wsG_in 206 (by decide +kernel) rfl
theorem wf_X4_173 : Cond.fieldLink RX4 173 "HeldTowns$Packing" "fewestOunces" "I" ∈ wsG := wsG_in 207 (by decide +kernel) rfl
theorem wf_X1_22 : Cond.fieldLink RX1 22 "HeldTowns$Packing" "chosen" "[I" ∈ wsG := wsG_in 208 (by decide +kernel) rfl
theorem wf_X1_25 : Cond.fieldLink RX1 25 "HeldTowns$Packing" "ouncesOfSet" "[I" ∈ wsG := wsG_in 209 (by decide +kernel) rfl
theorem wf_X1_28 : Cond.fieldLink RX1 28 "HeldTowns$Packing" "holdOfSet" "[I" ∈ wsG := wsG_in 210 (by decide +kernel) rfl
theorem wf_X4_12 : Cond.fieldLink RX4 12 "HeldTowns" "page" "LHeldTowns$Page;" ∈ wsG := wsG_in 224 (by decide +kernel) rfl
theorem wf_X4_19 : Cond.fieldLink RX4 19 "HeldTowns" "land" "LHeldTowns$Land;" ∈ wsG := wsG_in 225 (by decide +kernel) rfl
theorem wf_X4_26 : Cond.fieldLink RX4 26 "HeldTowns" "seen" "LHeldTowns$Seen;" ∈ wsG := wsG_in 226 (by decide +kernel) rfl
theorem wf_X4_30 : Cond.fieldLink RX4 30 "HeldTowns" "imageLand" "LHeldTowns$Land;" ∈ wsG := wsG_in 227 (by decide +kernel) rfl
theorem wf_X4_33 : Cond.fieldLink RX4 33 "HeldTowns" "imageSeen" "LHeldTowns$Seen;" ∈ wsG := wsG_in 228 (by decide +kernel) rfl
theorem wf_X4_36 : Cond.fieldLink RX4 36 "HeldTowns" "trial" "LHeldTowns$Land;" ∈ wsG := wsG_in 229 (by decide +kernel) rfl
theorem wf_X4_42 : Cond.fieldLink RX4 42 "HeldTowns" "packing" "LHeldTowns$Packing;" ∈ wsG := wsG_in 230 (by decide +kernel) rfl
theorem wf_X4_46 : Cond.fieldLink RX4 46 "HeldTowns" "imageKept" "Z" ∈ wsG := wsG_in 231 (by decide +kernel) rfl
theorem wf_X4_50 : Cond.fieldLink RX4 50 "HeldTowns" "tablesRead" "I" ∈ wsG := wsG_in 232 (by decide +kernel) rfl
theorem wf_X4_54 : Cond.fieldLink RX4 54 "HeldTowns" "packsDone" "I" ∈ wsG := wsG_in 233 (by decide +kernel) rfl
theorem wf_J0_38 : Cond.fieldLink RJ0 38 "java/lang/String" "COMPACT_STRINGS" "Z" ∈ wsG := wsG_in 303 (by decide +kernel) rfl
theorem wf_J0_1053 : Cond.fieldLink RJ0 1053 "jdk/internal/util/Preconditions" "SIOOBE_FORMATTER" "Ljava/util/function/BiFunction;" ∈ wsG := wsG_in 346 (by decide +kernel) rfl
theorem wf_J2_44 : Cond.fieldLink RJ2 44 "java/lang/StringUTF16" "$assertionsDisabled" "Z" ∈ wsG := wsG_in 357 (by decide +kernel) rfl
theorem wf_J2_59 : Cond.fieldLink RJ2 59 "java/lang/StringUTF16" "HI_BYTE_SHIFT" "I" ∈ wsG := wsG_in 359 (by decide +kernel) rfl
theorem wf_J2_63 : Cond.fieldLink RJ2 63 "java/lang/StringUTF16" "LO_BYTE_SHIFT" "I" ∈ wsG := wsG_in 361 (by decide +kernel) rfl
theorem wf_X5_146 : Cond.fieldLink RX5 146 "HeldTownsModel" "tables" "I" ∈ wsG := wsG_in 692 (by decide +kernel) rfl
theorem wf_X5_131 : Cond.fieldLink RX5 131 "HeldTownsModel" "villages" "I" ∈ wsG := wsG_in 693 (by decide +kernel) rfl
theorem wf_X5_134 : Cond.fieldLink RX5 134 "HeldTownsModel" "weights" "I" ∈ wsG := wsG_in 694 (by decide +kernel) rfl
theorem wf_X5_7 : Cond.fieldLink RX5 7 "HeldTownsModel" "baseOf" "[I" ∈ wsG := wsG_in 695 (by decide +kernel) rfl
theorem wf_X5_13 : Cond.fieldLink RX5 13 "HeldTownsModel" "kindOf" "[I" ∈ wsG := wsG_in 696 (by decide +kernel) rfl
theorem wf_X5_16 : Cond.fieldLink RX5 16 "HeldTownsModel" "ouncesOf" "[I" ∈ wsG := wsG_in 697 (by decide +kernel) rfl
theorem wf_X5_19 : Cond.fieldLink RX5 19 "HeldTownsModel" "villageOf" "[I" ∈ wsG := wsG_in 698 (by decide +kernel) rfl
theorem wf_X5_22 : Cond.fieldLink RX5 22 "HeldTownsModel" "placeOf" "[I" ∈ wsG := wsG_in 699 (by decide +kernel) rfl
theorem wf_X5_25 : Cond.fieldLink RX5 25 "HeldTownsModel" "snowOf" "[I" ∈ wsG := wsG_in 700 (by decide +kernel) rfl
theorem wf_X5_137 : Cond.fieldLink RX5 137 "HeldTownsModel" "winds" "I" ∈ wsG := wsG_in 701 (by decide +kernel) rfl
theorem wf_X5_140 : Cond.fieldLink RX5 140 "HeldTownsModel" "lifted" "I" ∈ wsG := wsG_in 702 (by decide +kernel) rfl
theorem wf_X5_143 : Cond.fieldLink RX5 143 "HeldTownsModel" "fell" "I" ∈ wsG := wsG_in 703 (by decide +kernel) rfl
theorem wf_X5_253 : Cond.fieldLink RX5 253 "HeldTownsModel" "asks" "I" ∈ wsG := wsG_in 704 (by decide +kernel) rfl
theorem wf_X5_149 : Cond.fieldLink RX5 149 "HeldTownsModel" "seen" "I" ∈ wsG := wsG_in 705 (by decide +kernel) rfl
theorem wf_X5_28 : Cond.fieldLink RX5 28 "HeldTownsModel" "seenWeight" "[I" ∈ wsG := wsG_in 706 (by decide +kernel) rfl
theorem wf_X5_31 : Cond.fieldLink RX5 31 "HeldTownsModel" "seenSide" "[I" ∈ wsG := wsG_in 707 (by decide +kernel) rfl
theorem wf_X5_34 : Cond.fieldLink RX5 34 "HeldTownsModel" "seenForce" "[I" ∈ wsG := wsG_in 708 (by decide +kernel) rfl
theorem wf_X5_37 : Cond.fieldLink RX5 37 "HeldTownsModel" "seenLifts" "[I" ∈ wsG := wsG_in 709 (by decide +kernel) rfl
theorem wf_X5_100 : Cond.fieldLink RX5 100 "HeldTownsModel" "pageLength" "I" ∈ wsG := wsG_in 710 (by decide +kernel) rfl
theorem wf_X5_40 : Cond.fieldLink RX5 40 "HeldTownsModel" "page" "[B" ∈ wsG := wsG_in 711 (by decide +kernel) rfl
theorem wf_X5_120 : Cond.fieldLink RX5 120 "HeldTownsModel" "isWhole" "Z" ∈ wsG := wsG_in 712 (by decide +kernel) rfl
theorem wf_X5_117 : Cond.fieldLink RX5 117 "HeldTownsModel" "newVillages" "I" ∈ wsG := wsG_in 713 (by decide +kernel) rfl
theorem wf_X5_108 : Cond.fieldLink RX5 108 "HeldTownsModel" "newWeights" "I" ∈ wsG := wsG_in 714 (by decide +kernel) rfl
theorem wf_X5_44 : Cond.fieldLink RX5 44 "HeldTownsModel" "standsBy" "[Z" ∈ wsG := wsG_in 715 (by decide +kernel) rfl
theorem wf_X5_48 : Cond.fieldLink RX5 48 "HeldTownsModel" "atPlace" "[I" ∈ wsG := wsG_in 716 (by decide +kernel) rfl
theorem wf_X5_51 : Cond.fieldLink RX5 51 "HeldTownsModel" "row" "[I" ∈ wsG := wsG_in 717 (by decide +kernel) rfl
theorem wf_X5_54 : Cond.fieldLink RX5 54 "HeldTownsModel" "bestRow" "[I" ∈ wsG := wsG_in 718 (by decide +kernel) rfl
theorem wf_X5_237 : Cond.fieldLink RX5 237 "HeldTownsModel" "rowMany" "I" ∈ wsG := wsG_in 719 (by decide +kernel) rfl
theorem wf_X5_240 : Cond.fieldLink RX5 240 "HeldTownsModel" "rowOunces" "I" ∈ wsG := wsG_in 720 (by decide +kernel) rfl
theorem wf_X5_284 : Cond.fieldLink RX5 284 "HeldTownsModel" "seedNow" "J" ∈ wsG := wsG_in 721 (by decide +kernel) rfl
theorem wf_X5_57 : Cond.fieldLink RX5 57 "HeldTownsModel" "savedOunces" "[I" ∈ wsG := wsG_in 722 (by decide +kernel) rfl
theorem wf_X5_60 : Cond.fieldLink RX5 60 "HeldTownsModel" "savedVillage" "[I" ∈ wsG := wsG_in 723 (by decide +kernel) rfl
theorem wf_X5_63 : Cond.fieldLink RX5 63 "HeldTownsModel" "savedPlace" "[I" ∈ wsG := wsG_in 724 (by decide +kernel) rfl
theorem wf_X5_66 : Cond.fieldLink RX5 66 "HeldTownsModel" "savedSnow" "[I" ∈ wsG := wsG_in 725 (by decide +kernel) rfl
theorem wf_X5_303 : Cond.fieldLink RX5 303 "HeldTownsModel" "isKept" "Z" ∈ wsG := wsG_in 726 (by decide +kernel) rfl
theorem wf_X5_306 : Cond.fieldLink RX5 306 "HeldTownsModel" "keptTable" "I" ∈ wsG := wsG_in 727 (by decide +kernel) rfl
theorem wf_X5_309 : Cond.fieldLink RX5 309 "HeldTownsModel" "keptWinds" "I" ∈ wsG := wsG_in 728 (by decide +kernel) rfl
theorem wf_X5_312 : Cond.fieldLink RX5 312 "HeldTownsModel" "keptLifted" "I" ∈ wsG := wsG_in 729 (by decide +kernel) rfl
theorem wf_X5_315 : Cond.fieldLink RX5 315 "HeldTownsModel" "keptFell" "I" ∈ wsG := wsG_in 730 (by decide +kernel) rfl
theorem wf_X5_318 : Cond.fieldLink RX5 318 "HeldTownsModel" "keptSeen" "I" ∈ wsG := wsG_in 731 (by decide +kernel) rfl
theorem wf_X5_69 : Cond.fieldLink RX5 69 "HeldTownsModel" "keptBase" "[I" ∈ wsG := wsG_in 732 (by decide +kernel) rfl
theorem wf_X5_72 : Cond.fieldLink RX5 72 "HeldTownsModel" "keptOunces" "[I" ∈ wsG := wsG_in 733 (by decide +kernel) rfl
theorem wf_X5_75 : Cond.fieldLink RX5 75 "HeldTownsModel" "keptVillage" "[I" ∈ wsG := wsG_in 734 (by decide +kernel) rfl
theorem wf_X5_78 : Cond.fieldLink RX5 78 "HeldTownsModel" "keptPlace" "[I" ∈ wsG := wsG_in 735 (by decide +kernel) rfl
theorem wf_X5_81 : Cond.fieldLink RX5 81 "HeldTownsModel" "keptSnow" "[I" ∈ wsG := wsG_in 736 (by decide +kernel) rfl
theorem wf_X5_84 : Cond.fieldLink RX5 84 "HeldTownsModel" "keptWeight" "[I" ∈ wsG := wsG_in 737 (by decide +kernel) rfl
theorem wf_X5_87 : Cond.fieldLink RX5 87 "HeldTownsModel" "keptSide" "[I" ∈ wsG := wsG_in 738 (by decide +kernel) rfl
theorem wf_X5_90 : Cond.fieldLink RX5 90 "HeldTownsModel" "keptForce" "[I" ∈ wsG := wsG_in 739 (by decide +kernel) rfl
theorem wf_X5_93 : Cond.fieldLink RX5 93 "HeldTownsModel" "keptLifts" "[I" ∈ wsG := wsG_in 740 (by decide +kernel) rfl
theorem wf_X5_326 : Cond.fieldLink RX5 326 "HeldTownsModel" "h" "J" ∈ wsG := wsG_in 741 (by decide +kernel) rfl
theorem wf_J0_15 : Cond.fieldLink RJ0 15 "java/lang/String" "coder" "B" ∈ wsG := wsG_in 1133 (by decide +kernel) rfl
theorem wf_J0_9 : Cond.fieldLink RJ0 9 "java/lang/String" "value" "[B" ∈ wsG := wsG_in 1134 (by decide +kernel) rfl
theorem wk_J2_227 : Cond.constant RJ2 227 (65536) ∈ wsG := wsG_in 333 (by decide +kernel) rfl
theorem wk_J11_110 : Cond.constant RJ11 110 (55232) ∈ wsG := wsG_in 372 (by decide +kernel) rfl
theorem wk_J11_76 : Cond.constant RJ11 76 (56320) ∈ wsG := wsG_in 376 (by decide +kernel) rfl
theorem wk_J6_265 : Cond.constant RJ6 265 (1431655765) ∈ wsG := wsG_in 455 (by decide +kernel) rfl
theorem wk_J6_266 : Cond.constant RJ6 266 (858993459) ∈ wsG := wsG_in 456 (by decide +kernel) rfl
theorem wk_J6_267 : Cond.constant RJ6 267 (252645135) ∈ wsG := wsG_in 457 (by decide +kernel) rfl
theorem wk_X4_261 : Cond.constant RX4 261 (65536) ∈ wsG := wsG_in 644 (by decide +kernel) rfl
theorem wk_X5_168 : Cond.constant RX5 168 (268435456) ∈ wsG := wsG_in 920 (by decide +kernel) rfl
theorem wk_X4_255 : Cond.constantLong RX4 255 (1103515245) ∈ wsG := wsG_in 638 (by decide +kernel) rfl
theorem wk_X4_257 : Cond.constantLong RX4 257 (12345) ∈ wsG := wsG_in 639 (by decide +kernel) rfl
theorem wk_X4_259 : Cond.constantLong RX4 259 (2147483648) ∈ wsG := wsG_in 640 (by decide +kernel) rfl
theorem wk_X4_221 : Cond.constantLong RX4 221 (1163) ∈ wsG := wsG_in 675 (by decide +kernel) rfl
theorem wk_X4_248 : Cond.constantLong RX4 248 (31) ∈ wsG := wsG_in 680 (by decide +kernel) rfl
theorem wk_X5_282 : Cond.constantLong RX5 282 (1103515245) ∈ wsG := wsG_in 1095 (by decide +kernel) rfl
theorem wk_X5_288 : Cond.constantLong RX5 288 (12345) ∈ wsG := wsG_in 1096 (by decide +kernel) rfl
theorem wk_X5_290 : Cond.constantLong RX5 290 (2147483647) ∈ wsG := wsG_in 1097 (by decide +kernel) rfl
theorem wk_X5_292 : Cond.constantLong RX5 292 (65536) ∈ wsG := wsG_in 1098 (by decide +kernel) rfl
theorem wk_X5_333 : Cond.constantLong RX5 333 (1163) ∈ wsG := wsG_in 1123 (by decide +kernel) rfl
theorem wk_X5_324 : Cond.constantLong RX5 324 (31) ∈ wsG := wsG_in 1128 (by decide +kernel) rfl
theorem inGX0 : ∀ w ∈ wsX00, w ∈ wsG := by
  intro w hw
  obtain ⟨k, hk, rfl⟩ := List.mem_map.mp hw
  have hk := List.mem_range.mp hk
  match k, hk with
  | 0, _ => exact wsG_in 146 (by decide +kernel) rfl
  | 1, _ => exact wsG_in 148 (by decide +kernel) rfl
  | 2, _ => exact wsG_in 150 (by decide +kernel) rfl
  | 3, _ => exact wsG_in 152 (by decide +kernel) rfl
  | 4, _ => exact wsG_in 154 (by decide +kernel) rfl
  | 5, _ => exact wsG_in 156 (by decide +kernel) rfl
  | 6, _ => exact wsG_in 158 (by decide +kernel) rfl
  | 7, _ => exact wsG_in 160 (by decide +kernel) rfl
  | 8, _ => exact wsG_in 162 (by decide +kernel) rfl
  | 9, _ => exact wsG_in 164 (by decide +kernel) rfl
  | 10, _ => exact wsG_in 166 (by decide +kernel) rfl
  | k + 11, hk => exact absurd hk (by omega)
theorem inGX1 : ∀ w ∈ wsX10, w ∈ wsG := by
  intro w hw
  obtain ⟨k, hk, rfl⟩ := List.mem_map.mp hw
  have hk := List.mem_range.mp hk
  match k, hk with
  | 0, _ => exact wsG_in 211 (by decide +kernel) rfl
  | 1, _ => exact wsG_in 213 (by decide +kernel) rfl
  | 2, _ => exact wsG_in 215 (by decide +kernel) rfl
  | 3, _ => exact wsG_in 217 (by decide +kernel) rfl
  | 4, _ => exact wsG_in 219 (by decide +kernel) rfl
  | 5, _ => exact wsG_in 221 (by decide +kernel) rfl
  | k + 6, hk => exact absurd hk (by omega)
theorem inGX2 : ∀ w ∈ wsX20, w ∈ wsG := by
  intro w hw
  obtain ⟨k, hk, rfl⟩ := List.mem_map.mp hw
  have hk := List.mem_range.mp hk
  match k, hk with
  | 0, _ => exact wsG_in 93 (by decide +kernel) rfl
  | 1, _ => exact wsG_in 95 (by decide +kernel) rfl
  | 2, _ => exact wsG_in 97 (by decide +kernel) rfl
  | 3, _ => exact wsG_in 99 (by decide +kernel) rfl
  | 4, _ => exact wsG_in 101 (by decide +kernel) rfl
  | k + 5, hk => exact absurd hk (by omega)
theorem inGX3 : ∀ w ∈ wsX30, w ∈ wsG := by
  intro w hw
  obtain ⟨k, hk, rfl⟩ := List.mem_map.mp hw
  have hk := List.mem_range.mp hk
  match k, hk with
  | 0, _ => exact wsG_in 182 (by decide +kernel) rfl
  | 1, _ => exact wsG_in 184 (by decide +kernel) rfl
  | 2, _ => exact wsG_in 186 (by decide +kernel) rfl
  | 3, _ => exact wsG_in 188 (by decide +kernel) rfl
  | 4, _ => exact wsG_in 190 (by decide +kernel) rfl
  | 5, _ => exact wsG_in 192 (by decide +kernel) rfl
  | k + 6, hk => exact absurd hk (by omega)
theorem inGX4 : ∀ w ∈ wsX40, w ∈ wsG := by
  intro w hw
  obtain ⟨k, hk, rfl⟩ := List.mem_map.mp hw
  have hk := List.mem_range.mp hk
  match k, hk with
  | 0, _ => exact wsG_in 234 (by decide +kernel) rfl
  | 1, _ => exact wsG_in 236 (by decide +kernel) rfl
  | 2, _ => exact wsG_in 238 (by decide +kernel) rfl
  | 3, _ => exact wsG_in 240 (by decide +kernel) rfl
  | 4, _ => exact wsG_in 242 (by decide +kernel) rfl
  | 5, _ => exact wsG_in 244 (by decide +kernel) rfl
  | 6, _ => exact wsG_in 246 (by decide +kernel) rfl
  | 7, _ => exact wsG_in 248 (by decide +kernel) rfl
  | 8, _ => exact wsG_in 250 (by decide +kernel) rfl
  | 9, _ => exact wsG_in 252 (by decide +kernel) rfl
  | k + 10, hk => exact absurd hk (by omega)
theorem inGX5 : ∀ w ∈ wsX50, w ∈ wsG := by
  intro w hw
  obtain ⟨k, hk, rfl⟩ := List.mem_map.mp hw
  have hk := List.mem_range.mp hk
  match k, hk with
  | 0, _ => exact wsG_in 742 (by decide +kernel) rfl
  | 1, _ => exact wsG_in 744 (by decide +kernel) rfl
  | 2, _ => exact wsG_in 746 (by decide +kernel) rfl
  | 3, _ => exact wsG_in 748 (by decide +kernel) rfl
  | 4, _ => exact wsG_in 750 (by decide +kernel) rfl
  | 5, _ => exact wsG_in 752 (by decide +kernel) rfl
  | 6, _ => exact wsG_in 754 (by decide +kernel) rfl
  | 7, _ => exact wsG_in 756 (by decide +kernel) rfl
  | 8, _ => exact wsG_in 758 (by decide +kernel) rfl
  | 9, _ => exact wsG_in 760 (by decide +kernel) rfl
  | 10, _ => exact wsG_in 762 (by decide +kernel) rfl
  | 11, _ => exact wsG_in 764 (by decide +kernel) rfl
  | 12, _ => exact wsG_in 766 (by decide +kernel) rfl
  | 13, _ => exact wsG_in 768 (by decide +kernel) rfl
  | 14, _ => exact wsG_in 770 (by decide +kernel) rfl
  | 15, _ => exact wsG_in 772 (by decide +kernel) rfl
  | 16, _ => exact wsG_in 774 (by decide +kernel) rfl
  | 17, _ => exact wsG_in 776 (by decide +kernel) rfl
  | 18, _ => exact wsG_in 778 (by decide +kernel) rfl
  | 19, _ => exact wsG_in 780 (by decide +kernel) rfl
  | 20, _ => exact wsG_in 782 (by decide +kernel) rfl
  | 21, _ => exact wsG_in 784 (by decide +kernel) rfl
  | 22, _ => exact wsG_in 786 (by decide +kernel) rfl
  | 23, _ => exact wsG_in 788 (by decide +kernel) rfl
  | 24, _ => exact wsG_in 790 (by decide +kernel) rfl
  | 25, _ => exact wsG_in 792 (by decide +kernel) rfl
  | 26, _ => exact wsG_in 794 (by decide +kernel) rfl
  | 27, _ => exact wsG_in 796 (by decide +kernel) rfl
  | 28, _ => exact wsG_in 798 (by decide +kernel) rfl
  | 29, _ => exact wsG_in 800 (by decide +kernel) rfl
  | 30, _ => exact wsG_in 802 (by decide +kernel) rfl
  | 31, _ => exact wsG_in 804 (by decide +kernel) rfl
  | 32, _ => exact wsG_in 806 (by decide +kernel) rfl
  | 33, _ => exact wsG_in 808 (by decide +kernel) rfl
  | 34, _ => exact wsG_in 810 (by decide +kernel) rfl
  | 35, _ => exact wsG_in 812 (by decide +kernel) rfl
  | 36, _ => exact wsG_in 814 (by decide +kernel) rfl
  | 37, _ => exact wsG_in 816 (by decide +kernel) rfl
  | 38, _ => exact wsG_in 818 (by decide +kernel) rfl
  | 39, _ => exact wsG_in 820 (by decide +kernel) rfl
  | 40, _ => exact wsG_in 822 (by decide +kernel) rfl
  | 41, _ => exact wsG_in 824 (by decide +kernel) rfl
  | 42, _ => exact wsG_in 826 (by decide +kernel) rfl
  | 43, _ => exact wsG_in 828 (by decide +kernel) rfl
  | 44, _ => exact wsG_in 830 (by decide +kernel) rfl
  | 45, _ => exact wsG_in 832 (by decide +kernel) rfl
  | 46, _ => exact wsG_in 834 (by decide +kernel) rfl
  | 47, _ => exact wsG_in 836 (by decide +kernel) rfl
  | 48, _ => exact wsG_in 838 (by decide +kernel) rfl
  | 49, _ => exact wsG_in 840 (by decide +kernel) rfl
  | k + 50, hk => exact absurd hk (by omega)
end
section
/-! The abstract world: a list of cells; a reference is the place of its cell in the list. Arrays: (0 int, 1 byte, 2 boolean; length; contents). Objects: (number in vwCl, fields). -/
abbrev Ce : Type := (Nat × Nat × (Nat → Int32)) ⊕ (Nat × List Value)
/-- the String constant's own place -/
def SK : Nat := 1000000
def ev_v (ad : Nat → Nat) (v : Value) : Value := match v with
  | .ref k => .ref (ad k)
  | v => v
def ev_c (cy : Nat → ClassId) (ad : Nat → Nat) (e : Ce) : va_E := match e with
  | .inl a => .inl (cy a.1, a.2.1, .inl a.2.2)
  | .inr o => .inr (o.1, o.2.map (ev_v ad))
def ev_w (cy : Nat → ClassId) (ad : Nat → Nat) (w : List Ce) : va_W := w.mapIdx (fun k e => (ad k, ev_c cy ad e))
theorem ev_w_get {cy : Nat → ClassId} {ad : Nat → Nat} {w : List Ce} {k : Nat} {e : Ce} (h : w[k]? = some e) : (ev_w cy ad w)[k]? = some (ad k, ev_c cy ad e) := by
  simp [ev_w, List.getElem?_mapIdx, h]
theorem ev_w_at {cy : Nat → ClassId} {ad : Nat → Nat} {w : List Ce} {k : Nat} {q : Nat × va_E} (h : (ev_w cy ad w)[k]? = some q) : ∃ e, w[k]? = some e ∧ q = (ad k, ev_c cy ad e) := by
  rw [ev_w, List.getElem?_mapIdx] at h
  cases hk : w[k]? with
  | none => rw [hk] at h; cases h
  | some e => rw [hk] at h; exact ⟨e, rfl, (Option.some.inj h).symm⟩
theorem ev_w_set {cy : Nat → ClassId} {ad : Nat → Nat} {w : List Ce} {k : Nat} {e : Ce} : (ev_w cy ad w).set k (ad k, ev_c cy ad e) = ev_w cy ad (w.set k e) := by
  apply List.ext_getElem?
  intro j
  by_cases hj : j = k
  · subst hj
    by_cases hl : j < w.length
    · rw [List.getElem?_set_self (by simpa [ev_w] using hl), ev_w_get (e := e) (by rw [List.getElem?_set_self hl])]
    · rw [List.getElem?_eq_none (by simp [ev_w]; omega), List.getElem?_eq_none (by simp [ev_w]; omega)]
  · rw [List.getElem?_set_ne (Ne.symm hj)]
    simp [ev_w, List.getElem?_mapIdx, List.getElem?_set_ne (Ne.symm hj)]
/-- the locals -/
def ev_l (ad : Nat → Nat) (ls' : Array Slot) (ls : List (Option Value)) : Prop := ls'.size = ls.length ∧ lv_wf ls' ∧ ∀ (i : Nat) (v : Value), ls[i]? = some (some v) → ls'[i]? = some (.val (ev_v ad v))
def RM (d : Nat) : Room := { frames := d, cells := 0, slots := 0, locals := 40 * d }
/-- what stays true of the tables -/
def ev_F (D : va_G) (cy : Nat → ClassId) (U : State) : Prop := va_K D vwCl [(cy 0, .int), (cy 1, .byte), (cy 2, .boolean)] U ∧ va_Nw (.methodLinkNest RX0 55 yX4_bearing RX4) U ∧ va_Nw (.methodLinkNest RX0 59 yX4_leverage RX4) U ∧ va_Nw (.methodLinkNest RX0 65 yX4_standBy RX4) U ∧ va_Nw (.methodLinkNest RX0 97 yX4_liftsAt RX4) U ∧ va_Nw (.methodLinkNest RX1 50 yX4_bearing RX4) U ∧ va_Nw (.methodLinkNest RX1 54 yX4_leverage RX4) U ∧ va_Nw (.methodLinkNest RX1 68 yX4_liftsAt RX4) U ∧ va_Nw (.methodLinkNest RX3 41 yX4_liftsAt RX4) U
theorem ev_F.warm {D : va_G} {cy : Nat → ClassId} {s U : State} (hW : s.WarmedH U.vm) (h : ev_F D cy s) : ev_F D cy U :=
  ⟨va_K.moved hW.alike h.1, va_Nw.warmM hW h.2.1, va_Nw.warmM hW h.2.2.1, va_Nw.warmM hW h.2.2.2.1, va_Nw.warmM hW h.2.2.2.2.1, va_Nw.warmM hW h.2.2.2.2.2.1, va_Nw.warmM hW h.2.2.2.2.2.2.1, va_Nw.warmM hW h.2.2.2.2.2.2.2.1, va_Nw.warmM hW h.2.2.2.2.2.2.2.2⟩
theorem ev_F.same {D : va_G} {cy : Nat → ClassId} {s U : State} (hv : s.vm = U.vm) (h : ev_F D cy s) : ev_F D cy U :=
  ⟨va_K.moved (by rw [hv]; exact Vm.Alike.refl U.vm) h.1, va_Nw.same rfl hv h.2.1, va_Nw.same rfl hv h.2.2.1, va_Nw.same rfl hv h.2.2.2.1, va_Nw.same rfl hv h.2.2.2.2.1, va_Nw.same rfl hv h.2.2.2.2.2.1, va_Nw.same rfl hv h.2.2.2.2.2.2.1, va_Nw.same rfl hv h.2.2.2.2.2.2.2.1, va_Nw.same rfl hv h.2.2.2.2.2.2.2.2⟩
/-- the String constant: its cell, its bytes' cell -/
def ev_S (sa sv : Nat) (A : Nat → Prop) (U : State) (H : Heap) : Prop := vk_R RX2 42 "wbcsp" sa U ∧ vk_S 1 [5] [[119, 98, 99, 115, 112]] (fun _ => sa) (fun _ => sv) A U H ∧ va_Z "java/lang/String" "COMPACT_STRINGS" "Z" (.int 1) A U H
theorem ev_S.narrow {sa sv : Nat} {A B : Nat → Prop} {U : State} {H : Heap} (h : ev_S sa sv A U H) (hAB : ∀ q, B q → A q) : ev_S sa sv B U H := ⟨h.1, h.2.1.narrow hAB, h.2.2.narrow hAB⟩
theorem ev_S.kept {sa sv : Nat} {A : Nat → Prop} {U : State} {H H1 : Heap} (h : ev_S sa sv A U H) (hq : ∀ a : Nat, a < H.size → ¬ A a → H1[a]? = H[a]?) : ev_S sa sv A U H1 := ⟨h.1, h.2.1.kept hq, h.2.2.kept hq⟩
theorem ev_S.warm {sa sv : Nat} {A : Nat → Prop} {s U : State} {H : Heap} (hW : s.WarmedH U.vm) (h : ev_S sa sv A s H) : ev_S sa sv A U H := ⟨h.1.warm hW, h.2.1.moved hW.alike, h.2.2.moved hW.alike⟩
theorem ev_S.same {sa sv : Nat} {A : Nat → Prop} {s U : State} {H : Heap} (hv : s.vm = U.vm) (h : ev_S sa sv A s H) : ev_S sa sv A U H := ⟨h.1.same hv.symm, h.2.1.moved (by rw [hv]; exact Vm.Alike.refl U.vm), h.2.2.moved (by rw [hv]; exact Vm.Alike.refl U.vm)⟩
/-- the frame's own facts -/
def ev_C (y : MethodName) (cc : ByteArray) (ret : Option FieldType) (n : Nat) (D : va_G) (cy : Nat → ClassId) (ad : Nat → Nat) (sv : Nat) (p : Program) (s : State) (m : MethodId) (args : Array Value) (meth : Method) (c : Code) (A : Nat → Prop) : Prop :=
  p.tables.exec = Jvm.exec ∧ c.code = cc ∧ meth.sig.returnType = ret ∧ meth.locks = false ∧ c.maxLocals = n ∧ s.vm.findClass y.cls = some m.cls ∧ (∀ w ∈ wsG, w.before args s = true) ∧ ev_F D cy s ∧ (∀ q, s.heap.size ≤ q → A q) ∧ ev_S (ad SK) sv A s s.heap
/-- a method's end -/
def ev_Q (D : va_G) (cy : Nat → ClassId) (ad : Nat → Nat) (A : Nat → Prop) (Q : Option Value → List Ce → Prop) : Array Value → State → Outcome → State → Prop := fun _ st oc t =>
  (∃ (r : Option Value) (w : List Ce), Q r w ∧ oc = .returned (r.map (ev_v ad)) ∧ va_P D vwCl (ev_w cy ad w) t.heap ∧ va_D A (ev_w cy ad w)) ∧ va_F A st t
/-- from this place of the method on, with these locals, this stack, this world: it ends, and Q of its answer and of the world then -/
def Ev (d : Nat) (y : MethodName) (cc : ByteArray) (ret : Option FieldType) (pc : Nat) (ls : List (Option Value)) (st : List Value) (w : List Ce) (Q : Option Value → List Ce → Prop) : Prop :=
  ∀ (D : va_G) (cy : Nat → ClassId) (ad : Nat → Nat) (sv : Nat) (p : Program) (l : Launch) (e : Env) (s : State) (m : MethodId) (args : Array Value) (below : List Frame) (meth : Method) (c : Code) (A : Nat → Prop) (ls' : Array Slot) (H : Heap) (locs : List Loc),
    ev_C y cc ret ls.length D cy ad sv p s m args meth c A → ev_l ad ls' ls → va_P D vwCl (ev_w cy ad w) H → va_D A (ev_w cy ad w) → va_S A s.heap H locs →
    W p l e (RM d) s m args below meth c H locs 0 0 (MQ below (ev_Q D cy ad A Q) args s 0 0 A) (F0 m pc ls' (st.map (ev_v ad)))
section EVR
variable {d : Nat} {y : MethodName} {cc : ByteArray} {ret : Option FieldType} {pc : Nat} {ls : List (Option Value)} {st : List Value} {w : List Ce} {Q : Option Value → List Ce → Prop}
theorem Ev.mono {Q' : Option Value → List Ce → Prop} (h : Ev d y cc ret pc ls st w Q) (hq : ∀ r w, Q r w → Q' r w) : Ev d y cc ret pc ls st w Q' := by
  intro D cy ad sv p l e s m args below meth c A ls' H locs C L P X S T hT Y
  obtain ⟨t, h1, o, h2, h3, ⟨⟨r, w', h4, h5⟩, h6⟩, h7⟩ := h D cy ad sv p l e s m args below meth c A ls' H locs C L P X S T hT Y
  exact ⟨t, h1, o, h2, h3, ⟨⟨r, w', hq r w' h4, h5⟩, h6⟩, h7⟩
theorem ev_cat {ad : Nat → Nat} (v : Value) : (ev_v ad v).category = v.category := by cases v <;> rfl
theorem Ev.iadd {a b : Int32} (hd : decode cc pc = .ok (.iadd, 1)) (k : Ev d y cc ret (pc + 1) ls (.int (a + b) :: st) w Q) : Ev d y cc ret pc ls (.int b :: .int a :: st) w Q :=
  fun D cy ad sv p l e s m args below meth c A ls' H locs C L P X S => lv_iadd C.1 C.2.1 hd (k D cy ad sv p l e s m args below meth c A ls' H locs C L P X S)
theorem Ev.isub {a b : Int32} (hd : decode cc pc = .ok (.isub, 1)) (k : Ev d y cc ret (pc + 1) ls (.int (a - b) :: st) w Q) : Ev d y cc ret pc ls (.int b :: .int a :: st) w Q :=
  fun D cy ad sv p l e s m args below meth c A ls' H locs C L P X S => lv_isub C.1 C.2.1 hd (k D cy ad sv p l e s m args below meth c A ls' H locs C L P X S)
theorem Ev.imul {a b : Int32} (hd : decode cc pc = .ok (.imul, 1)) (k : Ev d y cc ret (pc + 1) ls (.int (a * b) :: st) w Q) : Ev d y cc ret pc ls (.int b :: .int a :: st) w Q :=
  fun D cy ad sv p l e s m args below meth c A ls' H locs C L P X S => lv_imul C.1 C.2.1 hd (k D cy ad sv p l e s m args below meth c A ls' H locs C L P X S)
theorem Ev.iand {a b : Int32} (hd : decode cc pc = .ok (.iand, 1)) (k : Ev d y cc ret (pc + 1) ls (.int (a &&& b) :: st) w Q) : Ev d y cc ret pc ls (.int b :: .int a :: st) w Q :=
  fun D cy ad sv p l e s m args below meth c A ls' H locs C L P X S => lv_iand C.1 C.2.1 hd (k D cy ad sv p l e s m args below meth c A ls' H locs C L P X S)
theorem Ev.ior {a b : Int32} (hd : decode cc pc = .ok (.ior, 1)) (k : Ev d y cc ret (pc + 1) ls (.int (a ||| b) :: st) w Q) : Ev d y cc ret pc ls (.int b :: .int a :: st) w Q :=
  fun D cy ad sv p l e s m args below meth c A ls' H locs C L P X S => lv_ior C.1 C.2.1 hd (k D cy ad sv p l e s m args below meth c A ls' H locs C L P X S)
theorem Ev.ixor {a b : Int32} (hd : decode cc pc = .ok (.ixor, 1)) (k : Ev d y cc ret (pc + 1) ls (.int (a ^^^ b) :: st) w Q) : Ev d y cc ret pc ls (.int b :: .int a :: st) w Q :=
  fun D cy ad sv p l e s m args below meth c A ls' H locs C L P X S => lv_ixor C.1 C.2.1 hd (k D cy ad sv p l e s m args below meth c A ls' H locs C L P X S)
theorem Ev.ishl {a b : Int32} (hd : decode cc pc = .ok (.ishl, 1)) (k : Ev d y cc ret (pc + 1) ls (.int (a <<< (b &&& 31)) :: st) w Q) : Ev d y cc ret pc ls (.int b :: .int a :: st) w Q :=
  fun D cy ad sv p l e s m args below meth c A ls' H locs C L P X S => lv_ishl C.1 C.2.1 hd (k D cy ad sv p l e s m args below meth c A ls' H locs C L P X S)
theorem Ev.ishr {a b : Int32} (hd : decode cc pc = .ok (.ishr, 1)) (k : Ev d y cc ret (pc + 1) ls (.int (a >>> (b &&& 31)) :: st) w Q) : Ev d y cc ret pc ls (.int b :: .int a :: st) w Q :=
  fun D cy ad sv p l e s m args below meth c A ls' H locs C L P X S => lv_ishr C.1 C.2.1 hd (k D cy ad sv p l e s m args below meth c A ls' H locs C L P X S)
theorem Ev.idiv {a b : Int32} (hd : decode cc pc = .ok (.idiv, 1)) (hne : ¬ b = 0) (k : Ev d y cc ret (pc + 1) ls (.int (a / b) :: st) w Q) : Ev d y cc ret pc ls (.int b :: .int a :: st) w Q :=
  fun D cy ad sv p l e s m args below meth c A ls' H locs C L P X S => lv_idiv C.1 C.2.1 hd hne (k D cy ad sv p l e s m args below meth c A ls' H locs C L P X S)
theorem Ev.irem {a b : Int32} (hd : decode cc pc = .ok (.irem, 1)) (hne : ¬ b = 0) (k : Ev d y cc ret (pc + 1) ls (.int (a - a / b * b) :: st) w Q) : Ev d y cc ret pc ls (.int b :: .int a :: st) w Q :=
  fun D cy ad sv p l e s m args below meth c A ls' H locs C L P X S => lv_irem C.1 C.2.1 hd hne (k D cy ad sv p l e s m args below meth c A ls' H locs C L P X S)
theorem Ev.ladd {a b : Int64} (hd : decode cc pc = .ok (.ladd, 1)) (k : Ev d y cc ret (pc + 1) ls (.long (a + b) :: st) w Q) : Ev d y cc ret pc ls (.long b :: .long a :: st) w Q :=
  fun D cy ad sv p l e s m args below meth c A ls' H locs C L P X S => lv_ladd C.1 C.2.1 hd (k D cy ad sv p l e s m args below meth c A ls' H locs C L P X S)
theorem Ev.lmul {a b : Int64} (hd : decode cc pc = .ok (.lmul, 1)) (k : Ev d y cc ret (pc + 1) ls (.long (a * b) :: st) w Q) : Ev d y cc ret pc ls (.long b :: .long a :: st) w Q :=
  fun D cy ad sv p l e s m args below meth c A ls' H locs C L P X S => lv_lmul C.1 C.2.1 hd (k D cy ad sv p l e s m args below meth c A ls' H locs C L P X S)
theorem Ev.land {a b : Int64} (hd : decode cc pc = .ok (.land, 1)) (k : Ev d y cc ret (pc + 1) ls (.long (a &&& b) :: st) w Q) : Ev d y cc ret pc ls (.long b :: .long a :: st) w Q :=
  fun D cy ad sv p l e s m args below meth c A ls' H locs C L P X S => lv_land C.1 C.2.1 hd (k D cy ad sv p l e s m args below meth c A ls' H locs C L P X S)
theorem Ev.ldiv {a b : Int64} (hd : decode cc pc = .ok (.ldiv, 1)) (hne : ¬ b = 0) (k : Ev d y cc ret (pc + 1) ls (.long (a / b) :: st) w Q) : Ev d y cc ret pc ls (.long b :: .long a :: st) w Q :=
  fun D cy ad sv p l e s m args below meth c A ls' H locs C L P X S => lv_ldiv C.1 C.2.1 hd hne (k D cy ad sv p l e s m args below meth c A ls' H locs C L P X S)
theorem Ev.lrem {a b : Int64} (hd : decode cc pc = .ok (.lrem, 1)) (hne : ¬ b = 0) (k : Ev d y cc ret (pc + 1) ls (.long (a - a / b * b) :: st) w Q) : Ev d y cc ret pc ls (.long b :: .long a :: st) w Q :=
  fun D cy ad sv p l e s m args below meth c A ls' H locs C L P X S => lv_lrem C.1 C.2.1 hd hne (k D cy ad sv p l e s m args below meth c A ls' H locs C L P X S)
theorem Ev.iconst {n : Int} {v : Int32} (hd : decode cc pc = .ok (.iconst n, 1)) (hv : Int32.ofInt n = v) (k : Ev d y cc ret (pc + 1) ls (.int v :: st) w Q) : Ev d y cc ret pc ls (st) w Q :=
  fun D cy ad sv p l e s m args below meth c A ls' H locs C L P X S => lv_iconst C.1 C.2.1 hd hv (k D cy ad sv p l e s m args below meth c A ls' H locs C L P X S)
theorem Ev.bipush {n : Int} {v : Int32} (hd : decode cc pc = .ok (.bipush n, 2)) (hv : (Int8.ofInt n).toInt32 = v) (k : Ev d y cc ret (pc + 2) ls (.int v :: st) w Q) : Ev d y cc ret pc ls (st) w Q :=
  fun D cy ad sv p l e s m args below meth c A ls' H locs C L P X S => lv_bipush C.1 C.2.1 hd hv (k D cy ad sv p l e s m args below meth c A ls' H locs C L P X S)
theorem Ev.sipush {n : Int} {v : Int32} (hd : decode cc pc = .ok (.sipush n, 3)) (hv : (Int16.ofInt n).toInt32 = v) (k : Ev d y cc ret (pc + 3) ls (.int v :: st) w Q) : Ev d y cc ret pc ls (st) w Q :=
  fun D cy ad sv p l e s m args below meth c A ls' H locs C L P X S => lv_sipush C.1 C.2.1 hd hv (k D cy ad sv p l e s m args below meth c A ls' H locs C L P X S)
theorem Ev.i2l {a : Int32} (hd : decode cc pc = .ok (.i2l, 1)) (k : Ev d y cc ret (pc + 1) ls (.long a.toInt64 :: st) w Q) : Ev d y cc ret pc ls (.int a :: st) w Q :=
  fun D cy ad sv p l e s m args below meth c A ls' H locs C L P X S => lv_i2l C.1 C.2.1 hd rfl (k D cy ad sv p l e s m args below meth c A ls' H locs C L P X S)
theorem Ev.l2i {a : Int64} (hd : decode cc pc = .ok (.l2i, 1)) (k : Ev d y cc ret (pc + 1) ls (.int a.toInt32 :: st) w Q) : Ev d y cc ret pc ls (.long a :: st) w Q :=
  fun D cy ad sv p l e s m args below meth c A ls' H locs C L P X S => lv_l2i C.1 C.2.1 hd rfl (k D cy ad sv p l e s m args below meth c A ls' H locs C L P X S)
theorem Ev.pop {v : Value} (hd : decode cc pc = .ok (.pop, 1)) (hc : v.category = 1) (k : Ev d y cc ret (pc + 1) ls (st) w Q) : Ev d y cc ret pc ls (v :: st) w Q :=
  fun D cy ad sv p l e s m args below meth c A ls' H locs C L P X S => lv_pop C.1 C.2.1 hd (by rw [ev_cat]; exact hc) (k D cy ad sv p l e s m args below meth c A ls' H locs C L P X S)
theorem Ev.dup {v : Value} (hd : decode cc pc = .ok (.dup, 1)) (hc : v.category = 1) (k : Ev d y cc ret (pc + 1) ls (v :: v :: st) w Q) : Ev d y cc ret pc ls (v :: st) w Q :=
  fun D cy ad sv p l e s m args below meth c A ls' H locs C L P X S => lv_dup C.1 C.2.1 hd (by rw [ev_cat]; exact hc) (k D cy ad sv p l e s m args below meth c A ls' H locs C L P X S)
theorem Ev.dup2 {v u : Value} (hd : decode cc pc = .ok (.dup2, 1)) (hc : v.category = 1) (hc2 : u.category = 1) (k : Ev d y cc ret (pc + 1) ls (v :: u :: v :: u :: st) w Q) : Ev d y cc ret pc ls (v :: u :: st) w Q :=
  fun D cy ad sv p l e s m args below meth c A ls' H locs C L P X S => lv_dup2_11 C.1 C.2.1 hd (by rw [ev_cat]; exact hc) (by rw [ev_cat]; exact hc2) (k D cy ad sv p l e s m args below meth c A ls' H locs C L P X S)
theorem Ev.i2b {a v : Int32} (hd : decode cc pc = .ok (.i2b, 1)) (hv : a.toInt8.toInt32 = v) (k : Ev d y cc ret (pc + 1) ls (.int v :: st) w Q) : Ev d y cc ret pc ls (.int a :: st) w Q :=
  fun D cy ad sv p l e s m args below meth c A ls' H locs C L P X S => lv_i2b C.1 C.2.1 hd hv (k D cy ad sv p l e s m args below meth c A ls' H locs C L P X S)
theorem Ev.i2c {a v : Int32} (hd : decode cc pc = .ok (.i2c, 1)) (hv : (a.toUInt32 % 65536).toInt32 = v) (k : Ev d y cc ret (pc + 1) ls (.int v :: st) w Q) : Ev d y cc ret pc ls (.int a :: st) w Q :=
  fun D cy ad sv p l e s m args below meth c A ls' H locs C L P X S => lv_i2c C.1 C.2.1 hd hv (k D cy ad sv p l e s m args below meth c A ls' H locs C L P X S)
theorem Ev.iushr {a b v : Int32} (hd : decode cc pc = .ok (.iushr, 1)) (hv : (a.toUInt32 >>> (b.toUInt32 &&& Int32.toUInt32 31)).toInt32 = v) (k : Ev d y cc ret (pc + 1) ls (.int v :: st) w Q) : Ev d y cc ret pc ls (.int b :: .int a :: st) w Q :=
  fun D cy ad sv p l e s m args below meth c A ls' H locs C L P X S => lv_iushr C.1 C.2.1 hd hv (k D cy ad sv p l e s m args below meth c A ls' H locs C L P X S)
theorem Ev.iload_0 {x : Int32} (hd : decode cc pc = .ok (.iload_n 0, 1)) (hl : ls[0]? = some (some (.int x))) (k : Ev d y cc ret (pc + 1) ls (.int x :: st) w Q) : Ev d y cc ret pc ls st w Q :=
  fun D cy ad sv p l e s m args below meth c A ls' H locs C L P X S => lv_iload_n C.1 C.2.1 hd rfl (L.2.2 0 _ hl) (k D cy ad sv p l e s m args below meth c A ls' H locs C L P X S)
theorem Ev.iload_1 {x : Int32} (hd : decode cc pc = .ok (.iload_n 1, 1)) (hl : ls[1]? = some (some (.int x))) (k : Ev d y cc ret (pc + 1) ls (.int x :: st) w Q) : Ev d y cc ret pc ls st w Q :=
  fun D cy ad sv p l e s m args below meth c A ls' H locs C L P X S => lv_iload_n C.1 C.2.1 hd rfl (L.2.2 1 _ hl) (k D cy ad sv p l e s m args below meth c A ls' H locs C L P X S)
theorem Ev.iload_2 {x : Int32} (hd : decode cc pc = .ok (.iload_n 2, 1)) (hl : ls[2]? = some (some (.int x))) (k : Ev d y cc ret (pc + 1) ls (.int x :: st) w Q) : Ev d y cc ret pc ls st w Q :=
  fun D cy ad sv p l e s m args below meth c A ls' H locs C L P X S => lv_iload_n C.1 C.2.1 hd rfl (L.2.2 2 _ hl) (k D cy ad sv p l e s m args below meth c A ls' H locs C L P X S)
theorem Ev.iload_3 {x : Int32} (hd : decode cc pc = .ok (.iload_n 3, 1)) (hl : ls[3]? = some (some (.int x))) (k : Ev d y cc ret (pc + 1) ls (.int x :: st) w Q) : Ev d y cc ret pc ls st w Q :=
  fun D cy ad sv p l e s m args below meth c A ls' H locs C L P X S => lv_iload_n C.1 C.2.1 hd rfl (L.2.2 3 _ hl) (k D cy ad sv p l e s m args below meth c A ls' H locs C L P X S)
theorem Ev.iload {i : Nat} {x : Int32} (hd : decode cc pc = .ok (.iload i, 2)) (hl : ls[i]? = some (some (.int x))) (k : Ev d y cc ret (pc + 2) ls (.int x :: st) w Q) : Ev d y cc ret pc ls st w Q :=
  fun D cy ad sv p l e s m args below meth c A ls' H locs C L P X S => lv_iload C.1 C.2.1 hd (L.2.2 i _ hl) (k D cy ad sv p l e s m args below meth c A ls' H locs C L P X S)
theorem Ev.lload_0 {x : Int64} (hd : decode cc pc = .ok (.lload_n 0, 1)) (hl : ls[0]? = some (some (.long x))) (k : Ev d y cc ret (pc + 1) ls (.long x :: st) w Q) : Ev d y cc ret pc ls st w Q :=
  fun D cy ad sv p l e s m args below meth c A ls' H locs C L P X S => lv_lload_n C.1 C.2.1 hd rfl (L.2.2 0 _ hl) (k D cy ad sv p l e s m args below meth c A ls' H locs C L P X S)
theorem Ev.lload_1 {x : Int64} (hd : decode cc pc = .ok (.lload_n 1, 1)) (hl : ls[1]? = some (some (.long x))) (k : Ev d y cc ret (pc + 1) ls (.long x :: st) w Q) : Ev d y cc ret pc ls st w Q :=
  fun D cy ad sv p l e s m args below meth c A ls' H locs C L P X S => lv_lload_n C.1 C.2.1 hd rfl (L.2.2 1 _ hl) (k D cy ad sv p l e s m args below meth c A ls' H locs C L P X S)
theorem Ev.lload_2 {x : Int64} (hd : decode cc pc = .ok (.lload_n 2, 1)) (hl : ls[2]? = some (some (.long x))) (k : Ev d y cc ret (pc + 1) ls (.long x :: st) w Q) : Ev d y cc ret pc ls st w Q :=
  fun D cy ad sv p l e s m args below meth c A ls' H locs C L P X S => lv_lload_n C.1 C.2.1 hd rfl (L.2.2 2 _ hl) (k D cy ad sv p l e s m args below meth c A ls' H locs C L P X S)
theorem Ev.lload_3 {x : Int64} (hd : decode cc pc = .ok (.lload_n 3, 1)) (hl : ls[3]? = some (some (.long x))) (k : Ev d y cc ret (pc + 1) ls (.long x :: st) w Q) : Ev d y cc ret pc ls st w Q :=
  fun D cy ad sv p l e s m args below meth c A ls' H locs C L P X S => lv_lload_n C.1 C.2.1 hd rfl (L.2.2 3 _ hl) (k D cy ad sv p l e s m args below meth c A ls' H locs C L P X S)
theorem Ev.lload {i : Nat} {x : Int64} (hd : decode cc pc = .ok (.lload i, 2)) (hl : ls[i]? = some (some (.long x))) (k : Ev d y cc ret (pc + 2) ls (.long x :: st) w Q) : Ev d y cc ret pc ls st w Q :=
  fun D cy ad sv p l e s m args below meth c A ls' H locs C L P X S => lv_lload C.1 C.2.1 hd (L.2.2 i _ hl) (k D cy ad sv p l e s m args below meth c A ls' H locs C L P X S)
theorem Ev.aload_0 {x : Nat} (hd : decode cc pc = .ok (.aload_n 0, 1)) (hl : ls[0]? = some (some (.ref x))) (k : Ev d y cc ret (pc + 1) ls (.ref x :: st) w Q) : Ev d y cc ret pc ls st w Q :=
  fun D cy ad sv p l e s m args below meth c A ls' H locs C L P X S => lv_aload_n C.1 C.2.1 hd rfl (L.2.2 0 _ hl) (k D cy ad sv p l e s m args below meth c A ls' H locs C L P X S)
theorem Ev.aload_1 {x : Nat} (hd : decode cc pc = .ok (.aload_n 1, 1)) (hl : ls[1]? = some (some (.ref x))) (k : Ev d y cc ret (pc + 1) ls (.ref x :: st) w Q) : Ev d y cc ret pc ls st w Q :=
  fun D cy ad sv p l e s m args below meth c A ls' H locs C L P X S => lv_aload_n C.1 C.2.1 hd rfl (L.2.2 1 _ hl) (k D cy ad sv p l e s m args below meth c A ls' H locs C L P X S)
theorem Ev.aload_2 {x : Nat} (hd : decode cc pc = .ok (.aload_n 2, 1)) (hl : ls[2]? = some (some (.ref x))) (k : Ev d y cc ret (pc + 1) ls (.ref x :: st) w Q) : Ev d y cc ret pc ls st w Q :=
  fun D cy ad sv p l e s m args below meth c A ls' H locs C L P X S => lv_aload_n C.1 C.2.1 hd rfl (L.2.2 2 _ hl) (k D cy ad sv p l e s m args below meth c A ls' H locs C L P X S)
theorem Ev.aload_3 {x : Nat} (hd : decode cc pc = .ok (.aload_n 3, 1)) (hl : ls[3]? = some (some (.ref x))) (k : Ev d y cc ret (pc + 1) ls (.ref x :: st) w Q) : Ev d y cc ret pc ls st w Q :=
  fun D cy ad sv p l e s m args below meth c A ls' H locs C L P X S => lv_aload_n C.1 C.2.1 hd rfl (L.2.2 3 _ hl) (k D cy ad sv p l e s m args below meth c A ls' H locs C L P X S)
theorem Ev.icmp_eq {a b : Int32} {off : Int} (tgt : Nat) (hd : decode cc pc = .ok (.if_icmp .eq off, 3)) (ht : (pc : Int) + off = (tgt : Int)) (kt : a = b → Ev d y cc ret tgt ls st w Q) (kf : ¬ a = b → Ev d y cc ret (pc + 3) ls st w Q) : Ev d y cc ret pc ls (.int b :: .int a :: st) w Q :=
  fun D cy ad sv p l e s m args below meth c A ls' H locs C L P X S => lv_icmp_eq C.1 C.2.1 hd ht (fun h => kt h D cy ad sv p l e s m args below meth c A ls' H locs C L P X S) (fun h => kf h D cy ad sv p l e s m args below meth c A ls' H locs C L P X S)
theorem Ev.icmp_ne {a b : Int32} {off : Int} (tgt : Nat) (hd : decode cc pc = .ok (.if_icmp .ne off, 3)) (ht : (pc : Int) + off = (tgt : Int)) (kt : ¬ a = b → Ev d y cc ret tgt ls st w Q) (kf : a = b → Ev d y cc ret (pc + 3) ls st w Q) : Ev d y cc ret pc ls (.int b :: .int a :: st) w Q :=
  fun D cy ad sv p l e s m args below meth c A ls' H locs C L P X S => lv_icmp_ne C.1 C.2.1 hd ht (fun h => kt h D cy ad sv p l e s m args below meth c A ls' H locs C L P X S) (fun h => kf h D cy ad sv p l e s m args below meth c A ls' H locs C L P X S)
theorem Ev.icmp_lt {a b : Int32} {off : Int} (tgt : Nat) (hd : decode cc pc = .ok (.if_icmp .lt off, 3)) (ht : (pc : Int) + off = (tgt : Int)) (kt : a < b → Ev d y cc ret tgt ls st w Q) (kf : ¬ a < b → Ev d y cc ret (pc + 3) ls st w Q) : Ev d y cc ret pc ls (.int b :: .int a :: st) w Q :=
  fun D cy ad sv p l e s m args below meth c A ls' H locs C L P X S => lv_icmp_lt C.1 C.2.1 hd ht (fun h => kt h D cy ad sv p l e s m args below meth c A ls' H locs C L P X S) (fun h => kf h D cy ad sv p l e s m args below meth c A ls' H locs C L P X S)
theorem Ev.icmp_ge {a b : Int32} {off : Int} (tgt : Nat) (hd : decode cc pc = .ok (.if_icmp .ge off, 3)) (ht : (pc : Int) + off = (tgt : Int)) (kt : b ≤ a → Ev d y cc ret tgt ls st w Q) (kf : ¬ b ≤ a → Ev d y cc ret (pc + 3) ls st w Q) : Ev d y cc ret pc ls (.int b :: .int a :: st) w Q :=
  fun D cy ad sv p l e s m args below meth c A ls' H locs C L P X S => lv_icmp_ge C.1 C.2.1 hd ht (fun h => kt h D cy ad sv p l e s m args below meth c A ls' H locs C L P X S) (fun h => kf h D cy ad sv p l e s m args below meth c A ls' H locs C L P X S)
theorem Ev.icmp_gt {a b : Int32} {off : Int} (tgt : Nat) (hd : decode cc pc = .ok (.if_icmp .gt off, 3)) (ht : (pc : Int) + off = (tgt : Int)) (kt : b < a → Ev d y cc ret tgt ls st w Q) (kf : ¬ b < a → Ev d y cc ret (pc + 3) ls st w Q) : Ev d y cc ret pc ls (.int b :: .int a :: st) w Q :=
  fun D cy ad sv p l e s m args below meth c A ls' H locs C L P X S => lv_icmp_gt C.1 C.2.1 hd ht (fun h => kt h D cy ad sv p l e s m args below meth c A ls' H locs C L P X S) (fun h => kf h D cy ad sv p l e s m args below meth c A ls' H locs C L P X S)
theorem Ev.icmp_le {a b : Int32} {off : Int} (tgt : Nat) (hd : decode cc pc = .ok (.if_icmp .le off, 3)) (ht : (pc : Int) + off = (tgt : Int)) (kt : a ≤ b → Ev d y cc ret tgt ls st w Q) (kf : ¬ a ≤ b → Ev d y cc ret (pc + 3) ls st w Q) : Ev d y cc ret pc ls (.int b :: .int a :: st) w Q :=
  fun D cy ad sv p l e s m args below meth c A ls' H locs C L P X S => lv_icmp_le C.1 C.2.1 hd ht (fun h => kt h D cy ad sv p l e s m args below meth c A ls' H locs C L P X S) (fun h => kf h D cy ad sv p l e s m args below meth c A ls' H locs C L P X S)
theorem Ev.if_eq {a : Int32} {off : Int} (tgt : Nat) (hd : decode cc pc = .ok (.ifCond .eq off, 3)) (ht : (pc : Int) + off = (tgt : Int)) (kt : a = 0 → Ev d y cc ret tgt ls st w Q) (kf : ¬ a = 0 → Ev d y cc ret (pc + 3) ls st w Q) : Ev d y cc ret pc ls (.int a :: st) w Q :=
  fun D cy ad sv p l e s m args below meth c A ls' H locs C L P X S => lv_if_eq C.1 C.2.1 hd ht (fun h => kt h D cy ad sv p l e s m args below meth c A ls' H locs C L P X S) (fun h => kf h D cy ad sv p l e s m args below meth c A ls' H locs C L P X S)
theorem Ev.if_ne {a : Int32} {off : Int} (tgt : Nat) (hd : decode cc pc = .ok (.ifCond .ne off, 3)) (ht : (pc : Int) + off = (tgt : Int)) (kt : ¬ a = 0 → Ev d y cc ret tgt ls st w Q) (kf : a = 0 → Ev d y cc ret (pc + 3) ls st w Q) : Ev d y cc ret pc ls (.int a :: st) w Q :=
  fun D cy ad sv p l e s m args below meth c A ls' H locs C L P X S => lv_if_ne C.1 C.2.1 hd ht (fun h => kt h D cy ad sv p l e s m args below meth c A ls' H locs C L P X S) (fun h => kf h D cy ad sv p l e s m args below meth c A ls' H locs C L P X S)
theorem Ev.if_lt {a : Int32} {off : Int} (tgt : Nat) (hd : decode cc pc = .ok (.ifCond .lt off, 3)) (ht : (pc : Int) + off = (tgt : Int)) (kt : a < 0 → Ev d y cc ret tgt ls st w Q) (kf : ¬ a < 0 → Ev d y cc ret (pc + 3) ls st w Q) : Ev d y cc ret pc ls (.int a :: st) w Q :=
  fun D cy ad sv p l e s m args below meth c A ls' H locs C L P X S => lv_if_lt C.1 C.2.1 hd ht (fun h => kt h D cy ad sv p l e s m args below meth c A ls' H locs C L P X S) (fun h => kf h D cy ad sv p l e s m args below meth c A ls' H locs C L P X S)
theorem Ev.if_ge {a : Int32} {off : Int} (tgt : Nat) (hd : decode cc pc = .ok (.ifCond .ge off, 3)) (ht : (pc : Int) + off = (tgt : Int)) (kt : 0 ≤ a → Ev d y cc ret tgt ls st w Q) (kf : ¬ 0 ≤ a → Ev d y cc ret (pc + 3) ls st w Q) : Ev d y cc ret pc ls (.int a :: st) w Q :=
  fun D cy ad sv p l e s m args below meth c A ls' H locs C L P X S => lv_if_ge C.1 C.2.1 hd ht (fun h => kt h D cy ad sv p l e s m args below meth c A ls' H locs C L P X S) (fun h => kf h D cy ad sv p l e s m args below meth c A ls' H locs C L P X S)
theorem Ev.if_gt {a : Int32} {off : Int} (tgt : Nat) (hd : decode cc pc = .ok (.ifCond .gt off, 3)) (ht : (pc : Int) + off = (tgt : Int)) (kt : 0 < a → Ev d y cc ret tgt ls st w Q) (kf : ¬ 0 < a → Ev d y cc ret (pc + 3) ls st w Q) : Ev d y cc ret pc ls (.int a :: st) w Q :=
  fun D cy ad sv p l e s m args below meth c A ls' H locs C L P X S => lv_if_gt C.1 C.2.1 hd ht (fun h => kt h D cy ad sv p l e s m args below meth c A ls' H locs C L P X S) (fun h => kf h D cy ad sv p l e s m args below meth c A ls' H locs C L P X S)
theorem Ev.if_le {a : Int32} {off : Int} (tgt : Nat) (hd : decode cc pc = .ok (.ifCond .le off, 3)) (ht : (pc : Int) + off = (tgt : Int)) (kt : a ≤ 0 → Ev d y cc ret tgt ls st w Q) (kf : ¬ a ≤ 0 → Ev d y cc ret (pc + 3) ls st w Q) : Ev d y cc ret pc ls (.int a :: st) w Q :=
  fun D cy ad sv p l e s m args below meth c A ls' H locs C L P X S => lv_if_le C.1 C.2.1 hd ht (fun h => kt h D cy ad sv p l e s m args below meth c A ls' H locs C L P X S) (fun h => kf h D cy ad sv p l e s m args below meth c A ls' H locs C L P X S)
theorem Ev.goto {off : Int} (tgt : Nat) (hd : decode cc pc = .ok (.goto off, 3)) (ht : (pc : Int) + off = (tgt : Int)) (k : Ev d y cc ret tgt ls st w Q) : Ev d y cc ret pc ls st w Q :=
  fun D cy ad sv p l e s m args below meth c A ls' H locs C L P X S => lv_goto C.1 C.2.1 hd ht (k D cy ad sv p l e s m args below meth c A ls' H locs C L P X S)
theorem Ev.tableIn {dflt lo hi off : Int} {offs : Array Int} {len : Nat} {x : Int32} (tgt : Nat) (hd : decode cc pc = .ok (.tableswitch dflt lo hi offs, len)) (h1 : ¬ x.toInt < lo) (h2 : ¬ hi < x.toInt) (ho : offs[(x.toInt - lo).toNat]? = some off) (ht : (pc : Int) + off = (tgt : Int)) (k : Ev d y cc ret tgt ls st w Q) : Ev d y cc ret pc ls (.int x :: st) w Q :=
  fun D cy ad sv p l e s m args below meth c A ls' H locs C L P X S => lv_tableIn C.1 C.2.1 hd h1 h2 ho ht (k D cy ad sv p l e s m args below meth c A ls' H locs C L P X S)
theorem Ev.tableOut {dflt lo hi : Int} {offs : Array Int} {len : Nat} {x : Int32} (tgt : Nat) (hd : decode cc pc = .ok (.tableswitch dflt lo hi offs, len)) (h : x.toInt < lo ∨ hi < x.toInt) (ht : (pc : Int) + dflt = (tgt : Int)) (k : Ev d y cc ret tgt ls st w Q) : Ev d y cc ret pc ls (.int x :: st) w Q :=
  fun D cy ad sv p l e s m args below meth c A ls' H locs C L P X S => lv_tableOut C.1 C.2.1 hd h ht (k D cy ad sv p l e s m args below meth c A ls' H locs C L P X S)
theorem Ev.lookup {dflt off : Int} {ps : Array (Int × Int)} {len : Nat} {x : Int32} (tgt : Nat) (hd : decode cc pc = .ok (.lookupswitch dflt ps, len)) (hp : (ps.toList.zip (ps.toList.drop 1)).all (fun (a, next) => a.1 < next.1) = true) (ho : Op.lookupswitch.offset ps.toList dflt x.toInt = off) (ht : (pc : Int) + off = (tgt : Int)) (k : Ev d y cc ret tgt ls st w Q) : Ev d y cc ret pc ls (.int x :: st) w Q :=
  fun D cy ad sv p l e s m args below meth c A ls' H locs C L P X S => lv_lookup C.1 C.2.1 hd hp ho ht (k D cy ad sv p l e s m args below meth c A ls' H locs C L P X S)
theorem Ev.ldc {i : Nat} {v : Int32} (hk : Cond.constant y.cls i v ∈ wsG) (hd : decode cc pc = .ok (.ldc i, 2)) (k : Ev d y cc ret (pc + 2) ls (.int v :: st) w Q) : Ev d y cc ret pc ls st w Q :=
  fun D cy ad sv p l e s m args below meth c A ls' H locs C L P X S => lv_ldc C.1 C.2.1 C.2.2.2.2.2.1 (C.2.2.2.2.2.2.1 _ hk) hd (k D cy ad sv p l e s m args below meth c A ls' H locs C L P X S)
theorem Ev.ldcw {i : Nat} {v : Int32} (hk : Cond.constant y.cls i v ∈ wsG) (hd : decode cc pc = .ok (.ldc_w i, 3)) (k : Ev d y cc ret (pc + 3) ls (.int v :: st) w Q) : Ev d y cc ret pc ls st w Q :=
  fun D cy ad sv p l e s m args below meth c A ls' H locs C L P X S => lv_ldcw C.1 C.2.1 C.2.2.2.2.2.1 (C.2.2.2.2.2.2.1 _ hk) hd (k D cy ad sv p l e s m args below meth c A ls' H locs C L P X S)
theorem Ev.ldc2 {i : Nat} {v : Int64} (hk : Cond.constantLong y.cls i v ∈ wsG) (hd : decode cc pc = .ok (.ldc2_w i, 3)) (k : Ev d y cc ret (pc + 3) ls (.long v :: st) w Q) : Ev d y cc ret pc ls st w Q :=
  fun D cy ad sv p l e s m args below meth c A ls' H locs C L P X S => lv_ldc2 C.1 C.2.1 C.2.2.2.2.2.1 (C.2.2.2.2.2.2.1 _ hk) hd (k D cy ad sv p l e s m args below meth c A ls' H locs C L P X S)
theorem ev_end {D : va_G} {cy : Nat → ClassId} {ad : Nat → Nat} {s t : State} {A : Nat → Prop} {H : Heap} {locs : List Loc} {r : Option Value} {args : Array Value} (hQ : Q r w) (P : va_P D vwCl (ev_w cy ad w) H) (X : va_D A (ev_w cy ad w)) (S : va_S A s.heap H locs) (ht : t.heap = H) : ev_Q D cy ad A Q args s (.returned (r.map (ev_v ad))) t :=
  ⟨⟨r, w, hQ, rfl, by rw [ht]; exact P, X⟩, S.F ht⟩
theorem Ev.iret {v : Int32} (hd : decode cc pc = .ok (.ireturn, 1)) (hQ : Q (some (.int v)) w) : Ev d y cc (some .int) pc ls [.int v] w Q :=
  fun D cy ad sv p l e s m args below meth c A ls' H locs C L P X S => W.iret C.1 C.2.1 C.2.2.1 (fun t ht _ => ev_end (r := some (.int v)) hQ P X S ht) S.2.2 hd (hlocks := C.2.2.2.1)
theorem Ev.zret {v : Int32} (hd : decode cc pc = .ok (.ireturn, 1)) (hn : narrow .boolean (.int v) = .int v) (hQ : Q (some (.int v)) w) : Ev d y cc (some .boolean) pc ls [.int v] w Q :=
  fun D cy ad sv p l e s m args below meth c A ls' H locs C L P X S => W.zret C.1 C.2.1 C.2.2.1 hn (fun t ht _ => ev_end (r := some (.int v)) hQ P X S ht) S.2.2 hd (hlocks := C.2.2.2.1)
theorem Ev.lret {v : Int64} (hd : decode cc pc = .ok (.lreturn, 1)) (hQ : Q (some (.long v)) w) : Ev d y cc (some .long) pc ls [.long v] w Q :=
  fun D cy ad sv p l e s m args below meth c A ls' H locs C L P X S => W.lret C.1 C.2.1 C.2.2.1 (fun t ht _ => ev_end (r := some (.long v)) hQ P X S ht) S.2.2 hd (hlocks := C.2.2.2.1)
theorem Ev.vret (hd : decode cc pc = .ok (.return_, 1)) (hQ : Q none w) : Ev d y cc none pc ls [] w Q :=
  fun D cy ad sv p l e s m args below meth c A ls' H locs C L P X S => W.vret C.1 C.2.1 C.2.2.1 (fun t ht _ => ev_end (r := none) hQ P X S ht) S.2.2 hd (hlocks := C.2.2.2.1)
theorem Ev.iald {q n : Nat} {f : Nat → Int32} {i : Int32} (hd : decode cc pc = .ok (.iaload, 1)) (he : w[q]? = some (.inl (0, n, f))) (hi : vp_in i n) (k : Ev d y cc ret (pc + 1) ls (.int (f i.toNatClampNeg) :: st) w Q) : Ev d y cc ret pc ls (.int i :: .ref q :: st) w Q :=
  fun D cy ad sv p l e s m args below meth c A ls' H locs C L P X S => va_iald C.1 C.2.1 C.2.2.2.2.2.2.2.1.1 P q 0 (ev_w_get he) rfl hi hd (k D cy ad sv p l e s m args below meth c A ls' H locs C L P X S)
theorem Ev.bald {q n : Nat} {f : Nat → Int32} {i : Int32} (hd : decode cc pc = .ok (.baload, 1)) (he : w[q]? = some (.inl (1, n, f))) (hi : vp_in i n) (k : Ev d y cc ret (pc + 1) ls (.int (f i.toNatClampNeg) :: st) w Q) : Ev d y cc ret pc ls (.int i :: .ref q :: st) w Q :=
  fun D cy ad sv p l e s m args below meth c A ls' H locs C L P X S => va_bald C.1 C.2.1 C.2.2.2.2.2.2.2.1.1 P q 1 (ev_w_get he) rfl hi hd (k D cy ad sv p l e s m args below meth c A ls' H locs C L P X S)
theorem Ev.zald {q n : Nat} {f : Nat → Int32} {i : Int32} (hd : decode cc pc = .ok (.baload, 1)) (he : w[q]? = some (.inl (2, n, f))) (hi : vp_in i n) (k : Ev d y cc ret (pc + 1) ls (.int (f i.toNatClampNeg) :: st) w Q) : Ev d y cc ret pc ls (.int i :: .ref q :: st) w Q :=
  fun D cy ad sv p l e s m args below meth c A ls' H locs C L P X S => va_zald C.1 C.2.1 C.2.2.2.2.2.2.2.1.1 P q 2 (ev_w_get he) rfl hi hd (k D cy ad sv p l e s m args below meth c A ls' H locs C L P X S)
theorem Ev.iast {q n : Nat} {f : Nat → Int32} {i x : Int32} {w2 : List Ce} (hd : decode cc pc = .ok (.iastore, 1)) (he : w[q]? = some (.inl (0, n, f))) (hi : vp_in i n) (hw : w.set q (.inl (0, n, upd f i.toNatClampNeg x)) = w2) (k : Ev d y cc ret (pc + 1) ls st w2 Q) : Ev d y cc ret pc ls (.int x :: .int i :: .ref q :: st) w Q :=
  fun D cy ad sv p l e s m args below meth c A ls' H locs C L P X S => va_iast C.1 C.2.1 C.2.2.2.2.2.2.2.1.1 P X S q 0 (ev_w_get he) rfl hi hd (fun H1 locs1 P1 X1 S1 => k D cy ad sv p l e s m args below meth c A ls' H1 locs1 C L (by rw [← hw, ← ev_w_set]; exact P1) (by rw [← hw, ← ev_w_set]; exact X1) S1)
theorem Ev.bast {q n : Nat} {f : Nat → Int32} {i x : Int32} {w2 : List Ce} (hd : decode cc pc = .ok (.bastore, 1)) (he : w[q]? = some (.inl (1, n, f))) (hi : vp_in i n) (hw : w.set q (.inl (1, n, upd f i.toNatClampNeg (vp_nar .byte x))) = w2) (k : Ev d y cc ret (pc + 1) ls st w2 Q) : Ev d y cc ret pc ls (.int x :: .int i :: .ref q :: st) w Q :=
  fun D cy ad sv p l e s m args below meth c A ls' H locs C L P X S => va_bast C.1 C.2.1 C.2.2.2.2.2.2.2.1.1 P X S q 1 (ev_w_get he) rfl hi hd (fun H1 locs1 P1 X1 S1 => k D cy ad sv p l e s m args below meth c A ls' H1 locs1 C L (by rw [← hw, ← ev_w_set]; exact P1) (by rw [← hw, ← ev_w_set]; exact X1) S1)
theorem Ev.zast {q n : Nat} {f : Nat → Int32} {i x : Int32} {w2 : List Ce} (hd : decode cc pc = .ok (.bastore, 1)) (he : w[q]? = some (.inl (2, n, f))) (hi : vp_in i n) (hw : w.set q (.inl (2, n, upd f i.toNatClampNeg (vp_nar .boolean x))) = w2) (k : Ev d y cc ret (pc + 1) ls st w2 Q) : Ev d y cc ret pc ls (.int x :: .int i :: .ref q :: st) w Q :=
  fun D cy ad sv p l e s m args below meth c A ls' H locs C L P X S => va_zast C.1 C.2.1 C.2.2.2.2.2.2.2.1.1 P X S q 2 (ev_w_get he) rfl hi hd (fun H1 locs1 P1 X1 S1 => k D cy ad sv p l e s m args below meth c A ls' H1 locs1 C L (by rw [← hw, ← ev_w_set]; exact P1) (by rw [← hw, ← ev_w_set]; exact X1) S1)
/-- a class of vwCl -/
def CF (ci : Nat) (C : String) (T : u_T) (N : Nat) (ty : Nat → FieldType) : Prop := vwCl[ci]? = some (C, T, N) ∧ (∀ w ∈ u_ws C T N, w ∈ wsG) ∧ (∀ k, k < N → parseFieldDescriptor (T k).2.2.1 = some (ty k)) ∧ (∀ a, a < N → ∀ b, b < N → a ≠ b → (T a).2.1 ≠ (T b).2.1)
theorem cf0 : CF 0 RX0 TX0 11 tyX0 := ⟨rfl, inGX0, tyX0_ok, nmX0⟩
theorem cf1 : CF 1 RX1 TX1 6 tyX1 := ⟨rfl, inGX1, tyX1_ok, nmX1⟩
theorem cf2 : CF 2 RX2 TX2 5 tyX2 := ⟨rfl, inGX2, tyX2_ok, nmX2⟩
theorem cf3 : CF 3 RX3 TX3 6 tyX3 := ⟨rfl, inGX3, tyX3_ok, nmX3⟩
theorem cf4 : CF 4 RX4 TX4 10 tyX4 := ⟨rfl, inGX4, tyX4_ok, nmX4⟩
theorem cf5 : CF 5 RX5 TX5 50 tyX5 := ⟨rfl, inGX5, tyX5_ok, nmX5⟩
theorem Ev.getf {ci N i q : Nat} {C : String} {T : u_T} {ty : Nat → FieldType} {fs : List Value} {v : Value} (hc : CF ci C T N ty) (j : Nat) (hj : j < N) (hk : Cond.fieldLink y.cls i (T j).1 (T j).2.1 (T j).2.2.1 ∈ wsG) (hd : decode cc pc = .ok (.getfield i, 3)) (he : w[q]? = some (.inr (ci, fs))) (hv : fs[j]? = some v) (k : Ev d y cc ret (pc + 3) ls (v :: st) w Q) : Ev d y cc ret pc ls (.ref q :: st) w Q :=
  fun D cy ad sv p l e s m args below meth c A ls' H locs C L P X S => va_get C.1 C.2.1 C.2.2.2.2.2.2.1 hc.2.1 C.2.2.2.2.2.1 C.2.2.2.2.2.2.2.1.1 P q (ev_w_get he) hc.1 j hj (C.2.2.2.2.2.2.1 _ hk) (fun _ h => h) (by rw [List.getElem?_map, hv]; rfl) hd (k D cy ad sv p l e s m args below meth c A ls' H locs C L P X S)
theorem Ev.putf {ci N i q : Nat} {C : String} {T : u_T} {ty : Nat → FieldType} {fs : List Value} {v : Value} {w2 : List Ce} (hc : CF ci C T N ty) (j : Nat) (hj : j < N) (hk : Cond.fieldLink y.cls i (T j).1 (T j).2.1 (T j).2.2.1 ∈ wsG) (hd : decode cc pc = .ok (.putfield i, 3)) (hf : (T j).2.2.2 = false) (hv : ∀ ad, ev_v ad v = v) (hn : narrow (ty j) v = v) (hfit : fits (ty j) v = true) (he : w[q]? = some (.inr (ci, fs))) (hl : j < fs.length) (hw : w.set q (.inr (ci, fs.set j v)) = w2) (k : Ev d y cc ret (pc + 3) ls st w2 Q) : Ev d y cc ret pc ls (v :: .ref q :: st) w Q := by
  intro D cy ad sv p l e s m args below meth c A ls' H locs C L P X S
  show W p l e (RM d) s m args below meth c H locs 0 0 _ (F0 m pc ls' (ev_v ad v :: .ref (ad q) :: st.map (ev_v ad)))
  rw [hv ad]
  refine va_put C.1 C.2.1 C.2.2.2.2.2.2.1 hc.2.1 ty hc.2.2.1 hc.2.2.2 C.2.2.2.2.2.1 C.2.2.2.2.2.2.2.1.1 P X S q (ev_w_get he) hc.1 j hj (C.2.2.2.2.2.2.1 _ hk) (fun _ h => h) hf (hc.2.2.1 j hj) hn hfit (by rw [List.length_map]; exact hl) hd (fun H1 locs1 P1 X1 S1 => ?_)
  have e1 : (ev_w cy ad w).set q (ad q, .inr (ci, (fs.map (ev_v ad)).set j v)) = ev_w cy ad w2 := by
    rw [← hw, ← ev_w_set]
    show _ = (ev_w cy ad w).set q (ad q, .inr (ci, (fs.set j v).map (ev_v ad)))
    rw [List.map_set, hv ad]
  exact k D cy ad sv p l e s m args below meth c A ls' H1 locs1 C L (by rw [← e1]; exact P1) (by rw [← e1]; exact X1) S1
/-- the slot ahead is no long's -/
def lok (ls : List (Option Value)) (i : Nat) : Bool := match i with
  | 0 => true
  | j + 1 => match ls[j]? with
    | some (some u) => u.category == 1
    | _ => true
theorem lok_of {ls : List (Option Value)} {i j : Nat} {u : Value} (h : lok ls i = true) (hj : j + 1 = i) (hu : ls[j]? = some (some u)) : ¬ u.category = 2 := by
  subst hj
  simp only [lok, hu] at h
  intro hc
  rw [hc] at h
  cases h
def ev_al (ad : Nat → Nat) (ls : List (Option Value)) : List (Nat × Value) := (List.range ls.length).filterMap (fun i => match ls[i]? with
  | some (some v) => some (i, ev_v ad v)
  | _ => none)
theorem ev_al_in {ad : Nat → Nat} {ls : List (Option Value)} {i : Nat} {v : Value} (h : ls[i]? = some (some v)) : (i, ev_v ad v) ∈ ev_al ad ls :=
  List.mem_filterMap.mpr ⟨i, List.mem_range.mpr (List.getElem?_eq_some_iff.mp h).1, by rw [h]⟩
theorem ev_l.has {ad : Nat → Nat} {ls' : Array Slot} {ls : List (Option Value)} (h : ev_l ad ls' ls) : lv_has ls' ls.length (ev_al ad ls) := by
  refine ⟨h.1, h.2.1, fun q hq => ?_⟩
  obtain ⟨i, -, hi⟩ := List.mem_filterMap.mp hq
  cases hc : ls[i]? with
  | none => rw [hc] at hi; cases hi
  | some o =>
    cases o with
    | none => rw [hc] at hi; cases hi
    | some v =>
      rw [hc] at hi
      cases hi
      exact h.2.2 i v hc
theorem ev_l.set1 {ad : Nat → Nat} {ls'' : Array Slot} {ls : List (Option Value)} {i : Nat} {v : Value} (hi : i < ls.length) (hok : lok ls i = true) (h : lv_has ls'' ls.length ((i, ev_v ad v) :: (ev_al ad ls).filter (fun q => !(q.1 == i) && !(q.1 + 1 == i && q.2.category == 2)))) : ev_l ad ls'' (ls.set i (some v)) := by
  refine ⟨by rw [List.length_set]; exact h.1, h.2.1, fun j u hj => ?_⟩
  by_cases e : j = i
  · subst e
    rw [List.getElem?_set_self hi] at hj
    cases hj
    exact h.2.2 (j, ev_v ad v) List.mem_cons_self
  · rw [List.getElem?_set_ne (Ne.symm e)] at hj
    refine h.2.2 (j, ev_v ad u) (List.mem_cons_of_mem _ (List.mem_filter.mpr ⟨ev_al_in hj, ?_⟩))
    simp only [Bool.and_eq_true, Bool.not_eq_true', beq_eq_false_iff_ne, ne_eq, Bool.and_eq_false_iff]
    refine ⟨e, ?_⟩
    by_cases e2 : j + 1 = i
    · exact Or.inr (by rw [ev_cat]; exact lok_of hok e2 hj)
    · exact Or.inl e2
theorem ev_l.set2 {ad : Nat → Nat} {ls'' : Array Slot} {ls : List (Option Value)} {i : Nat} {v : Value} (hi : i + 1 < ls.length) (hok : lok ls i = true) (h : lv_has ls'' ls.length ((i, ev_v ad v) :: (ev_al ad ls).filter (fun q => !(q.1 == i) && (!(q.1 == i + 1) && !(q.1 + 1 == i && q.2.category == 2))))) : ev_l ad ls'' ((ls.set i (some v)).set (i + 1) none) := by
  refine ⟨by rw [List.length_set, List.length_set]; exact h.1, h.2.1, fun j u hj => ?_⟩
  by_cases e1 : j = i + 1
  · subst e1
    rw [List.getElem?_set_self (by rw [List.length_set]; exact hi)] at hj
    cases hj
  rw [List.getElem?_set_ne (Ne.symm e1)] at hj
  by_cases e : j = i
  · subst e
    rw [List.getElem?_set_self (by omega)] at hj
    cases hj
    exact h.2.2 (j, ev_v ad v) List.mem_cons_self
  · rw [List.getElem?_set_ne (Ne.symm e)] at hj
    refine h.2.2 (j, ev_v ad u) (List.mem_cons_of_mem _ (List.mem_filter.mpr ⟨ev_al_in hj, ?_⟩))
    simp only [Bool.and_eq_true, Bool.not_eq_true', beq_eq_false_iff_ne, ne_eq, Bool.and_eq_false_iff]
    refine ⟨e, e1, ?_⟩
    by_cases e2 : j + 1 = i
    · exact Or.inr (by rw [ev_cat]; exact lok_of hok e2 hj)
    · exact Or.inl e2
theorem Ev.istN {i : Nat} {j : Fin 4} {x : Int32} {ls2 : List (Option Value)} (hd : decode cc pc = .ok (.istore_n j, 1)) (hj : (j : Nat) = i) (hi : i < ls.length) (hok : lok ls i = true) (hl : ls.set i (some (.int x)) = ls2) (k : Ev d y cc ret (pc + 1) ls2 st w Q) : Ev d y cc ret pc ls (.int x :: st) w Q := by
  intro D cy ad sv p l e s m args below meth c A ls' H locs C L P X S
  refine lv_istore_n C.1 C.2.1 hd hj L.has hi rfl (fun ls'' h => ?_)
  have hn : ls2.length = ls.length := by rw [← hl, List.length_set]
  exact k D cy ad sv p l e s m args below meth c A ls'' H locs (by rw [hn]; exact C) (by rw [← hl]; exact ev_l.set1 (v := .int x) hi hok h) P X S
theorem Ev.istI {i : Nat} {x : Int32} {ls2 : List (Option Value)} (hd : decode cc pc = .ok (.istore i, 2)) (hi : i < ls.length) (hok : lok ls i = true) (hl : ls.set i (some (.int x)) = ls2) (k : Ev d y cc ret (pc + 2) ls2 st w Q) : Ev d y cc ret pc ls (.int x :: st) w Q := by
  intro D cy ad sv p l e s m args below meth c A ls' H locs C L P X S
  refine lv_istore C.1 C.2.1 hd L.has hi rfl (fun ls'' h => ?_)
  have hn : ls2.length = ls.length := by rw [← hl, List.length_set]
  exact k D cy ad sv p l e s m args below meth c A ls'' H locs (by rw [hn]; exact C) (by rw [← hl]; exact ev_l.set1 (v := .int x) hi hok h) P X S
theorem Ev.lstN {i : Nat} {j : Fin 4} {x : Int64} {ls2 : List (Option Value)} (hd : decode cc pc = .ok (.lstore_n j, 1)) (hj : (j : Nat) = i) (hi : i + 1 < ls.length) (hok : lok ls i = true) (hl : (ls.set i (some (.long x))).set (i + 1) none = ls2) (k : Ev d y cc ret (pc + 1) ls2 st w Q) : Ev d y cc ret pc ls (.long x :: st) w Q := by
  intro D cy ad sv p l e s m args below meth c A ls' H locs C L P X S
  refine lv_lstore_n C.1 C.2.1 hd hj L.has hi rfl (fun ls'' h => ?_)
  have hn : ls2.length = ls.length := by rw [← hl, List.length_set, List.length_set]
  exact k D cy ad sv p l e s m args below meth c A ls'' H locs (by rw [hn]; exact C) (by rw [← hl]; exact ev_l.set2 (v := .long x) hi hok h) P X S
theorem Ev.iincI {i : Nat} {n : Int} {x v : Int32} {ls2 : List (Option Value)} (hd : decode cc pc = .ok (.iinc i n, 3)) (hx : ls[i]? = some (some (.int x))) (hv : x + Int32.ofInt n = v) (hok : lok ls i = true) (hl : ls.set i (some (.int v)) = ls2) (k : Ev d y cc ret (pc + 3) ls2 st w Q) : Ev d y cc ret pc ls st w Q := by
  intro D cy ad sv p l e s m args below meth c A ls' H locs C L P X S
  have hi := (List.getElem?_eq_some_iff.mp hx).1
  obtain ⟨kk, hkk⟩ := List.getElem?_of_mem (ev_al_in (ad := ad) hx)
  refine lv_iinc C.1 C.2.1 hd L.has hkk hv hi rfl (fun ls'' h => ?_)
  have hn : ls2.length = ls.length := by rw [← hl, List.length_set]
  exact k D cy ad sv p l e s m args below meth c A ls'' H locs (by rw [hn]; exact C) (by rw [← hl]; exact ev_l.set1 (v := .int v) hi hok h) P X S
end EVR
end
section
/-! calls: the callee's world is the caller's own, or a part of it, by its places -/
def ev_e (As : List Value) : List (Option Value) := As.flatMap (fun v => if v.category = 2 then [some v, none] else [some v])
theorem ev_e_sl (ad : Nat → Nat) : ∀ (As : List Value), (ev_e As).length = (lg_sl (As.map (ev_v ad))).length ∧ ∀ (i : Nat) (v : Value), (ev_e As)[i]? = some (some v) → (lg_sl (As.map (ev_v ad)))[i]? = some (.val (ev_v ad v))
  | [] => ⟨rfl, fun i v h => by simp [ev_e] at h⟩
  | a :: As => by
    obtain ⟨h1, h2⟩ := ev_e_sl ad As
    by_cases hc : a.category = 2
    · have e1 : ev_e (a :: As) = some a :: none :: ev_e As := by simp [ev_e, hc]
      have e2 : lg_sl ((a :: As).map (ev_v ad)) = .val (ev_v ad a) :: .second :: lg_sl (As.map (ev_v ad)) := by simp [lg_sl, ev_cat, hc]
      rw [e1, e2]
      refine ⟨by simp [h1], fun i v h => ?_⟩
      match i, h with
      | 0, h => simp at h; subst h; rfl
      | 1, h => simp at h
      | i + 2, h => exact h2 i v h
    · have e1 : ev_e (a :: As) = some a :: ev_e As := by simp [ev_e, hc]
      have e2 : lg_sl ((a :: As).map (ev_v ad)) = .val (ev_v ad a) :: lg_sl (As.map (ev_v ad)) := by simp [lg_sl, ev_cat, hc]
      rw [e1, e2]
      refine ⟨by simp [h1], fun i v h => ?_⟩
      match i, h with
      | 0, h => simp at h; subst h; rfl
      | i + 1, h => exact h2 i v h
theorem ev_entry (ad : Nat → Nat) {As : List Value} {n : Nat} (hle : (ev_e As).length ≤ n) : ev_l ad ((lg_sl (As.map (ev_v ad)) ++ List.replicate (n - (lg_sl (As.map (ev_v ad))).length) Slot.unset).toArray) (ev_e As ++ List.replicate (n - (ev_e As).length) none) := by
  obtain ⟨h1, h2⟩ := ev_e_sl ad As
  have hh := lv_entry (As.map (ev_v ad)) (n := n) (by rw [← h1]; exact hle)
  refine ⟨?_, hh.2.1, fun i v h => ?_⟩
  · rw [hh.1]; simp; omega
  · by_cases hi : i < (ev_e As).length
    · rw [List.getElem?_append_left hi] at h
      rw [List.getElem?_toArray, List.getElem?_append_left (by rw [← h1]; exact hi)]
      exact h2 i v h
    · rw [List.getElem?_append_right (by omega)] at h
      rw [List.getElem?_replicate] at h
      split at h <;> cases h
theorem wsG_good {y : MethodName} {cc : ByteArray} {n : Nat} {ret : Option FieldType} (h : Cond.code y cc n ret ∈ wsG) : GoodIn wsG (Cond.code y cc n ret :: wsG) := by
  intro w hw
  have hm : w ∈ wsG := by
    rcases List.mem_cons.mp hw with rfl | h2
    · exact h
    · exact h2
  exact ⟨hm, good_of_word (List.mem_filter.mp hm).2⟩
/-- what holds where a method begins -/
def ev_P (D : va_G) (cy : Nat → ClassId) (ad : Nat → Nat) (sv sz : Nat) (w : List Ce) (As : List Value) : Array Value → State → Prop := va_Pc (As.map (ev_v ad)) (fun U => U.heap.size = sz ∧ va_P D vwCl (ev_w cy ad w) U.heap ∧ va_D (fun _ => True) (ev_w cy ad w) ∧ ev_F D cy U ∧ ev_S (ad SK) sv (va_A (ev_w cy ad w) sz) U U.heap)
theorem ev_met {d : Nat} {y : MethodName} {cc : ByteArray} {ret : Option FieldType} {ls : List (Option Value)} {w : List Ce} {Q : Option Value → List Ce → Prop} {As : List Value} {n : Nat} (hE : Ev d y cc ret 0 ls [] w Q) (h0 : ev_e As ++ List.replicate (n - (ev_e As).length) none = ls) (hle : (ev_e As).length ≤ n) (hy : plainName y.cls = true) (l : Launch) (D : va_G) (cy : Nat → ClassId) (ad : Nat → Nat) (sv sz : Nat) :
    Met l y (Cond.code y cc n ret :: wsG) (RM d) (ev_P D cy ad sv sz w As) (ev_Q D cy ad (va_A (ev_w cy ad w) sz) Q) 0 0 (va_A (ev_w cy ad w) sz) := by
  refine Met.ofW (cc := cc) (maxL := n) (ret := ret) hy rfl ?_
  intro p e s m args below meth c s₁ B hml hv
  obtain ⟨rfl, hsz, hP, hD, hF, hS⟩ := hv
  subst hsz
  have hl := ev_entry ad hle
  have hn : ls.length = n := by rw [← h0]; simp; omega
  rw [lg_entry_eq]
  rw [h0] at hl
  have hts := atoms_spec (ws := Cond.code y cc n ret :: wsG) B.pre
  exact hE D cy ad sv p l e s m _ below meth c (va_A (ev_w cy ad w) s.heap.size) _ s.heap [] ⟨B.exec, B.bytes, B.returns, B.notSynchronized, by rw [hn]; exact hml, findClass_of_methodNamed B.named, fun w hw => hts w (List.mem_cons_of_mem _ hw), hF, fun q h => Or.inr h, hS⟩ hl hP hD.self va_S.rf
theorem ev_blind {D : va_G} {cy : Nat → ClassId} {ad : Nat → Nat} {sv sz : Nat} {w : List Ce} {As : List Value} : FrameBlind (ev_P D cy ad sv sz w As) := by
  intro a U g mk q
  obtain ⟨h0, h1, h2, h3, h4, h5⟩ := q
  exact ⟨h0, h1, h2, h3, ev_F.same (s := U) rfl h4, ev_S.same (s := U) rfl h5⟩
/-- a callee that can be called by its name: static, or of an object -/
def OkM (y : MethodName) (cc : ByteArray) (n : Nat) (ret : Option FieldType) (np : Nat) : Prop := Cond.code y cc n ret ∈ wsG ∧ Cond.initialized y.cls ∈ wsG ∧ (y.cls ≠ "java/lang/invoke/MethodHandle" ∧ y.cls ≠ "java/lang/invoke/VarHandle" ∧ (parseMethodDescriptor y.desc).map (fun d => d.parameters.length) = some np) ∧ plainName y.cls = true ∧ n ≤ 20
section EVC
variable {d : Nat} {y y2 : MethodName} {cc cc2 : ByteArray} {ret ret2 : Option FieldType} {pc n2 np : Nat} {ls ls2 : List (Option Value)} {st rest : List Value} {w wc : List Ce} {Q Q2 : Option Value → List Ce → Prop} {As : List Value}
variable {D : va_G} {cy : Nat → ClassId} {ad ad' : Nat → Nat} {sv : Nat} {p : Program} {l : Launch} {e : Env} {s : State} {m : MethodId} {args : Array Value} {below : List Frame} {meth : Method} {c : Code} {A : Nat → Prop} {ls' : Array Slot} {H : Heap} {locs : List Loc} {i : Nat} {g : JFrame}
theorem ev_pre (C : ev_C y cc ret ls.length D cy ad sv p s m args meth c A) (S : va_S A s.heap H locs) (hP : va_P D vwCl (ev_w cy ad' wc) H) (hD : va_D (fun _ => True) (ev_w cy ad' wc)) (hs : ad' SK = ad SK) (hA : ∀ q, va_A (ev_w cy ad' wc) H.size q → A q) {U : State} (hU : U.heap = H) (hW : s.WarmedH U.vm) {v : Array Value} (hv : v = (As.map (ev_v ad')).toArray) : ev_P D cy ad' sv H.size wc As v U := by
  refine ⟨hv, by rw [hU], by rw [hU]; exact hP, hD, ev_F.warm hW C.2.2.2.2.2.2.2.1, ?_⟩
  rw [hs, hU]
  exact ev_S.warm hW ((C.2.2.2.2.2.2.2.2.2.kept S.2.1).narrow hA)
theorem ev_runS (hE : Ev d y2 cc2 ret2 0 ls2 [] wc Q2) (h0 : ev_e As ++ List.replicate (n2 - (ev_e As).length) none = ls2) (hle : (ev_e As).length ≤ n2) (hm : OkM y2 cc2 n2 ret2 np) (hst : Cond.static y2 ∈ wsG) (hlk : Cond.methodLink y.cls i y2 ∈ wsG) (hnp : As.length = np)
    (C : ev_C y cc ret ls.length D cy ad sv p s m args meth c A) (L : ls'.size = ls.length) (S : va_S A s.heap H locs) (hP : va_P D vwCl (ev_w cy ad' wc) H) (hD : va_D (fun _ => True) (ev_w cy ad' wc)) (hs : ad' SK = ad SK) (hA : ∀ q, va_A (ev_w cy ad' wc) H.size q → A q)
    {st0 rest0 : List Value} (hstk : st0 = (As.map (ev_v ad')).reverse ++ rest0) (hr : (rest0.map fun v => v.category).sum ≤ 8) (hd : decode cc pc = .ok (.invokestatic i, 3)) :
    va_Run p l e (RM (d + 1)) s m args below meth c H locs 0 0 0 0 (F0 m pc ls' st0) rest0 (ev_Q D cy ad' (va_A (ev_w cy ad' wc) H.size) Q2 (As.map (ev_v ad')).toArray) (va_A (ev_w cy ad' wc) H.size) := by
  have ht := C.2.2.2.2.2.2.1
  exact va_runS (Ts := wsG) (own := y.cls) (n := np) (bytes := cc2) (maxL := n2) (ret := ret2) ⟨C.1, C.2.1, C.2.2.2.2.1, C.2.2.2.2.2.1, ht⟩ (ev_met hE h0 hle hm.2.2.2.1 l D cy ad' sv H.size)
    ⟨callB_of np ht (wsG_good hm.1) rfl rfl rfl (ht _ hm.2.1) (ht _ hlk) hm.2.2.1 ⟨Nat.le_refl _, by have := hm.2.2.2.2; show 8 + (n2 + 11) + 40 * d ≤ 40 * (d + 1); omega⟩, ht _ hst⟩
    ⟨ev_blind, fun U hU hW => ev_pre C S hP hD hs hA hU hW rfl⟩ rfl (by rw [List.length_map]; exact hnp) L hstk (lv_room hr) hd ⟨Nat.le_refl _, Nat.le_refl _⟩
theorem ev_runN (host : String) (hE : Ev d y2 cc2 ret2 0 ls2 [] wc Q2) (h0 : ev_e As ++ List.replicate (n2 - (ev_e As).length) none = ls2) (hle : (ev_e As).length ≤ n2) (hm : OkM y2 cc2 n2 ret2 np) (hst : Cond.static y2 ∈ wsG) (hlk : va_Nw (.methodLinkNest y.cls i y2 host) s) (hnp : As.length = np)
    (C : ev_C y cc ret ls.length D cy ad sv p s m args meth c A) (L : ls'.size = ls.length) (S : va_S A s.heap H locs) (hP : va_P D vwCl (ev_w cy ad' wc) H) (hD : va_D (fun _ => True) (ev_w cy ad' wc)) (hs : ad' SK = ad SK) (hA : ∀ q, va_A (ev_w cy ad' wc) H.size q → A q)
    {st0 rest0 : List Value} (hstk : st0 = (As.map (ev_v ad')).reverse ++ rest0) (hr : (rest0.map fun v => v.category).sum ≤ 8) (hd : decode cc pc = .ok (.invokestatic i, 3)) :
    va_Run p l e (RM (d + 1)) s m args below meth c H locs 0 0 0 0 (F0 m pc ls' st0) rest0 (ev_Q D cy ad' (va_A (ev_w cy ad' wc) H.size) Q2 (As.map (ev_v ad')).toArray) (va_A (ev_w cy ad' wc) H.size) := by
  have ht := C.2.2.2.2.2.2.1
  exact va_runSN (Ts := wsG) (own := y.cls) (host := host) (n := np) (bytes := cc2) (maxL := n2) (ret := ret2) ⟨C.1, C.2.1, C.2.2.2.2.1, C.2.2.2.2.2.1, ht⟩ (ev_met hE h0 hle hm.2.2.2.1 l D cy ad' sv H.size)
    ⟨va_cnB np ht (wsG_good hm.1) rfl rfl rfl hlk (ht _ hm.2.1) hm.2.2.1 ⟨Nat.le_refl _, by have := hm.2.2.2.2; show 8 + (n2 + 11) + 40 * d ≤ 40 * (d + 1); omega⟩, ht _ hst, trivial⟩
    ⟨ev_blind, fun U hU hW => ev_pre C S hP hD hs hA hU hW rfl⟩ rfl (by rw [List.length_map]; exact hnp) L hstk (lv_room hr) hd ⟨Nat.le_refl _, Nat.le_refl _⟩
theorem ev_runV {o ci N : Nat} {T : u_T} {ty : Nat → FieldType} {fs : List Value} (hE : Ev d y2 cc2 ret2 0 ls2 [] wc Q2) (h0 : ev_e (.ref o :: As) ++ List.replicate (n2 - (ev_e (.ref o :: As)).length) none = ls2) (hle : (ev_e (.ref o :: As)).length ≤ n2) (hm : OkM y2 cc2 n2 ret2 np) (hin : Cond.instanceMethod y2 ∈ wsG) (hse : Cond.selects y2.cls y2 y2 ∈ wsG) (hlk : Cond.methodLink y.cls i y2 ∈ wsG) (hnp : As.length = np) (hcf : CF ci y2.cls T N ty) (ho : wc[o]? = some (.inr (ci, fs)))
    (C : ev_C y cc ret ls.length D cy ad sv p s m args meth c A) (L : ls'.size = ls.length) (S : va_S A s.heap H locs) (hP : va_P D vwCl (ev_w cy ad' wc) H) (hD : va_D (fun _ => True) (ev_w cy ad' wc)) (hs : ad' SK = ad SK) (hA : ∀ q, va_A (ev_w cy ad' wc) H.size q → A q)
    {st0 rest0 : List Value} (hstk : st0 = (As.map (ev_v ad')).reverse ++ .ref (ad' o) :: rest0) (hr : (rest0.map fun v => v.category).sum ≤ 8) (hd : decode cc pc = .ok (.invokevirtual i, 3)) :
    va_Run p l e (RM (d + 1)) s m args below meth c H locs 0 0 0 0 (F0 m pc ls' st0) rest0 (ev_Q D cy ad' (va_A (ev_w cy ad' wc) H.size) Q2 (Value.ref (ad' o) :: As.map (ev_v ad')).toArray) (va_A (ev_w cy ad' wc) H.size) := by
  have ht := C.2.2.2.2.2.2.1
  exact va_runV (Ts := wsG) (own := y.cls) (C := y2.cls) (n := np) (bytes := cc2) (maxL := n2) (ret := ret2) (b := ad' o) ⟨C.1, C.2.1, C.2.2.2.2.1, C.2.2.2.2.2.1, ht⟩ (ev_met (As := .ref o :: As) hE h0 hle hm.2.2.2.1 l D cy ad' sv H.size)
    ⟨callB_of np ht (wsG_good hm.1) rfl rfl rfl (ht _ hm.2.1) (ht _ hlk) hm.2.2.1 ⟨Nat.le_refl _, by have := hm.2.2.2.2; show 8 + (n2 + 11) + 40 * d ≤ 40 * (d + 1); omega⟩, ht _ hin, ht _ hse⟩
    ⟨ev_blind, va_recv C.2.2.2.2.2.2.2.1.1 hP hcf.1 (ev_w_get ho), fun U hU hW => ev_pre (As := .ref o :: As) C S hP hD hs hA hU hW rfl⟩ rfl (by rw [List.length_map]; exact hnp) L hstk (lv_room hr) hd ⟨Nat.le_refl _, Nat.le_refl _⟩
theorem ev_back {st0 rest0 : List Value} {a : Array Value} {A1 : Nat → Prop} {Z : State → Prop} (hr : va_Run p l e (RM (d + 1)) s m args below meth c H locs 0 0 0 0 (F0 m pc ls' st0) rest0 (ev_Q D cy ad' A1 Q2 a) A1) (hS : va_S A s.heap H locs) (hA : ∀ q, A1 q → A q)
    (kk : ∀ (r : Option Value) (w' : List Ce) (H1 : Heap) (locs1 : List Loc), Q2 r w' → va_P D vwCl (ev_w cy ad' w') H1 → va_D A1 (ev_w cy ad' w') → (∀ q : Nat, q < H.size → ¬ A1 q → H1[q]? = H[q]?) → va_S A s.heap H1 locs1 → W p l e (RM (d + 1)) s m args below meth c H1 locs1 0 0 Z (F0 m (pc + 3) ls' ((r.map (ev_v ad')).toList ++ rest0))) :
    W p l e (RM (d + 1)) s m args below meth c H locs 0 0 Z (F0 m pc ls' st0) := by
  intro T hT X
  obtain ⟨v, st₀, t, T', L, h0, X', hL, e1, e2, ⟨⟨r, w', hq, hv, hP, hD⟩, hz, hk⟩, st⟩ := hr T hT X
  cases hv
  rw [h0] at hz hk
  obtain ⟨t2, a1, b1⟩ := kk r w' T'.heap (locs ++ L) hq (by rw [e1]; exact hP) hD (fun q h1 h2 => by rw [e1]; exact hk q h1 h2)
    ⟨Nat.le_trans hS.1 (by rw [e1]; exact hz), fun q h1 h2 => by rw [e1, hk q (Nat.lt_of_lt_of_le h1 hS.1) (fun z => h2 (hA q z))]; exact hS.2.1 q h1 h2, fun q hq => by
      rcases List.mem_append.mp hq with h | h
      · exact hS.2.2 q h
      · exact hA _ (hL q h)⟩ T' rfl X'
  exact ⟨t2, st t2 a1, b1⟩
theorem ev_self (C : ev_C y cc ret ls.length D cy ad sv p s m args meth c A) (S : va_S A s.heap H locs) (X : va_D A (ev_w cy ad' w)) : ∀ q, va_A (ev_w cy ad' w) H.size q → A q := by
  intro q h
  rcases h with ⟨k, e, h⟩ | h
  · exact X.2 k _ h
  · exact C.2.2.2.2.2.2.2.2.1 q (Nat.le_trans S.1 h)
end EVC
section EVC2
variable {d : Nat} {y y2 : MethodName} {cc cc2 : ByteArray} {ret ret2 : Option FieldType} {pc n2 np : Nat} {ls ls2 : List (Option Value)} {st rest : List Value} {w wc : List Ce} {Q Q2 : Option Value → List Ce → Prop} {i : Nat}
theorem ev_rest {ad : Nat → Nat} (h : (rest.map fun v => v.category).sum ≤ 8) : ((rest.map (ev_v ad)).map fun v => v.category).sum ≤ 8 := by
  rw [List.map_map]
  have e : (fun v : Value => v.category) ∘ ev_v ad = fun v => v.category := funext fun v => ev_cat v
  rw [e]
  exact h
theorem ev_tl {ad : Nat → Nat} {r : Option Value} : (r.map (ev_v ad)).toList ++ rest.map (ev_v ad) = (r.toList ++ rest).map (ev_v ad) := by cases r <;> simp
/-- a static method of one's own tables, in the same world -/
theorem Ev.callS (As : List Value) (hE : Ev d y2 cc2 ret2 0 ls2 [] w Q2) (hd : decode cc pc = .ok (.invokestatic i, 3)) (hlk : Cond.methodLink y.cls i y2 ∈ wsG) (hst : Cond.static y2 ∈ wsG) (hm : OkM y2 cc2 n2 ret2 np) (h0 : ev_e As ++ List.replicate (n2 - (ev_e As).length) none = ls2) (hle : (ev_e As).length ≤ n2) (hnp : As.length = np) (hr : (rest.map fun v => v.category).sum ≤ 8) (hs : As.reverse ++ rest = st)
    (k : ∀ r w', Q2 r w' → Ev (d + 1) y cc ret (pc + 3) ls (r.toList ++ rest) w' Q) : Ev (d + 1) y cc ret pc ls st w Q := by
  intro D cy ad sv p l e s m args below meth c A ls' H locs C L P X S
  have hA := ev_self C S X
  refine ev_back (ev_runS (As := As) hE h0 hle hm hst hlk hnp C L.1 S P (X.weaken (fun _ _ _ _ => trivial)) rfl hA (rest0 := rest.map (ev_v ad)) (by rw [← hs]; simp) (ev_rest hr) hd) S hA (fun r w' H1 locs1 hq P1 X1 _ S1 => ?_)
  rw [ev_tl]
  exact k r w' hq D cy ad sv p l e s m args below meth c A ls' H1 locs1 C L P1 (X1.weaken (fun _ q _ h => hA _ h)) S1
theorem Ev.callN (As : List Value) (host : String) (hE : Ev d y2 cc2 ret2 0 ls2 [] w Q2) (hd : decode cc pc = .ok (.invokestatic i, 3)) (hlk : ∀ (D : va_G) (cy : Nat → ClassId) (s : State), ev_F D cy s → va_Nw (.methodLinkNest y.cls i y2 host) s) (hst : Cond.static y2 ∈ wsG) (hm : OkM y2 cc2 n2 ret2 np) (h0 : ev_e As ++ List.replicate (n2 - (ev_e As).length) none = ls2) (hle : (ev_e As).length ≤ n2) (hnp : As.length = np) (hr : (rest.map fun v => v.category).sum ≤ 8) (hs : As.reverse ++ rest = st)
    (k : ∀ r w', Q2 r w' → Ev (d + 1) y cc ret (pc + 3) ls (r.toList ++ rest) w' Q) : Ev (d + 1) y cc ret pc ls st w Q := by
  intro D cy ad sv p l e s m args below meth c A ls' H locs C L P X S
  have hA := ev_self C S X
  refine ev_back (ev_runN (As := As) host hE h0 hle hm hst (hlk D cy s C.2.2.2.2.2.2.2.1) hnp C L.1 S P (X.weaken (fun _ _ _ _ => trivial)) rfl hA (rest0 := rest.map (ev_v ad)) (by rw [← hs]; simp) (ev_rest hr) hd) S hA (fun r w' H1 locs1 hq P1 X1 _ S1 => ?_)
  rw [ev_tl]
  exact k r w' hq D cy ad sv p l e s m args below meth c A ls' H1 locs1 C L P1 (X1.weaken (fun _ q _ h => hA _ h)) S1
theorem Ev.callV (o : Nat) (As : List Value) {ci N : Nat} {T : u_T} {ty : Nat → FieldType} {fs : List Value} (hE : Ev d y2 cc2 ret2 0 ls2 [] w Q2) (hd : decode cc pc = .ok (.invokevirtual i, 3)) (hlk : Cond.methodLink y.cls i y2 ∈ wsG) (hin : Cond.instanceMethod y2 ∈ wsG) (hse : Cond.selects y2.cls y2 y2 ∈ wsG) (hm : OkM y2 cc2 n2 ret2 np) (hcf : CF ci y2.cls T N ty) (ho : w[o]? = some (.inr (ci, fs))) (h0 : ev_e (.ref o :: As) ++ List.replicate (n2 - (ev_e (.ref o :: As)).length) none = ls2) (hle : (ev_e (.ref o :: As)).length ≤ n2) (hnp : As.length = np) (hr : (rest.map fun v => v.category).sum ≤ 8) (hs : As.reverse ++ .ref o :: rest = st)
    (k : ∀ r w', Q2 r w' → Ev (d + 1) y cc ret (pc + 3) ls (r.toList ++ rest) w' Q) : Ev (d + 1) y cc ret pc ls st w Q := by
  intro D cy ad sv p l e s m args below meth c A ls' H locs C L P X S
  have hA := ev_self C S X
  refine ev_back (ev_runV (As := As) (o := o) hE h0 hle hm hin hse hlk hnp hcf ho C L.1 S P (X.weaken (fun _ _ _ _ => trivial)) rfl hA (rest0 := rest.map (ev_v ad)) (by rw [← hs]; simp [ev_v]) (ev_rest hr) hd) S hA (fun r w' H1 locs1 hq P1 X1 _ S1 => ?_)
  rw [ev_tl]
  exact k r w' hq D cy ad sv p l e s m args below meth c A ls' H1 locs1 C L P1 (X1.weaken (fun _ q _ h => hA _ h)) S1
/-! a part of the world: the callee's place k is the caller's place is[k] -/
def ev_i (is : List Nat) (k : Nat) : Nat := is.getD k k
def ev_ec (is : List Nat) (e : Ce) : Ce := match e with
  | .inl a => .inl a
  | .inr o => .inr (o.1, o.2.map (ev_v (ev_i is)))
def ev_put (w : List Ce) : List Nat → List Ce → List Ce
  | i :: is, c :: cs => ev_put (w.set i c) is cs
  | _, _ => w
theorem ev_put_len : ∀ (is : List Nat) (w cs : List Ce), (ev_put w is cs).length = w.length
  | [], w, cs => by simp [ev_put]
  | i :: is, w, [] => by simp [ev_put]
  | i :: is, w, c :: cs => by rw [ev_put, ev_put_len is, List.length_set]
theorem ev_put_out : ∀ (is : List Nat) (w cs : List Ce) (j : Nat), j ∉ is → (ev_put w is cs)[j]? = w[j]?
  | [], w, cs, j, _ => by simp [ev_put]
  | i :: is, w, [], j, _ => by simp [ev_put]
  | i :: is, w, c :: cs, j, h => by
    rw [ev_put, ev_put_out is (w.set i c) cs j (fun q => h (List.mem_cons_of_mem _ q)), List.getElem?_set_ne (fun q => h (by rw [← q]; exact List.mem_cons_self))]
theorem ev_put_in : ∀ (is : List Nat) (w cs : List Ce) (k j : Nat), va_nd is = true → is[k]? = some j → j < w.length → k < cs.length → (ev_put w is cs)[j]? = cs[k]?
  | [], w, cs, k, j, _, h, _, _ => by simp at h
  | i :: is, w, [], k, j, _, _, _, h => by simp at h
  | i :: is, w, c :: cs, k, j, hn, h, hj, hk => by
    simp only [va_nd, Bool.and_eq_true, decide_eq_true_eq] at hn
    rw [ev_put]
    match k, h, hk with
    | 0, h, hk =>
      simp at h
      subst h
      rw [ev_put_out is _ cs i hn.1, List.getElem?_set_self hj]
      rfl
    | k + 1, h, hk =>
      exact ev_put_in is (w.set i c) cs k j hn.2 h (by rw [List.length_set]; exact hj) (by simpa using hk)
theorem ev_cc {cy : Nat → ClassId} {ad : Nat → Nat} {is : List Nat} (e : Ce) : ev_c cy ad (ev_ec is e) = ev_c cy (fun k => ad (ev_i is k)) e := by
  cases e with
  | inl a => rfl
  | inr o =>
    show Sum.inr _ = Sum.inr _
    rw [List.map_map]
    congr 2
    apply List.map_congr_left
    intro v _
    cases v <;> rfl
theorem ev_D_len {cy : Nat → ClassId} {ad : Nat → Nat} {A : Nat → Prop} {w2 : List Ce} (X : va_D A (ev_w cy ad w)) (h : w2.length = w.length) : va_D A (ev_w cy ad w2) := by
  have key : ∀ (k : Nat) (q : Nat × va_E), (ev_w cy ad w2)[k]? = some q → ∃ q0, (ev_w cy ad w)[k]? = some q0 ∧ q0.1 = q.1 := by
    intro k q hq
    obtain ⟨e, he, rfl⟩ := ev_w_at hq
    have hk : k < w.length := by rw [← h]; exact (List.getElem?_eq_some_iff.mp he).1
    exact ⟨_, ev_w_get (List.getElem?_eq_getElem hk), rfl⟩
  refine ⟨fun i j x z hi hj hxz => ?_, fun k q hk => ?_⟩
  · obtain ⟨x0, h1, h2⟩ := key i x hi
    obtain ⟨z0, h3, h4⟩ := key j z hj
    exact X.1 i j x0 z0 h1 h3 (h2.trans (hxz.trans h4.symm))
  · obtain ⟨q0, h1, h2⟩ := key k q hk
    rw [← h2]
    exact X.2 k q0 h1
/-- the part, cut out -/
theorem ev_cut {cy : Nat → ClassId} {ad : Nat → Nat} {is : List Nat} (hin : is.map (fun j => w[j]?) = wc.map (fun e => some (ev_ec is e))) {k : Nat} {e : Ce} (he : wc[k]? = some e) : ∃ j, is[k]? = some j ∧ ev_i is k = j ∧ w[j]? = some (ev_ec is e) := by
  have h1 : (is.map (fun j => w[j]?))[k]? = some (some (ev_ec is e)) := by rw [hin, List.getElem?_map, he]; rfl
  rw [List.getElem?_map] at h1
  cases hi : is[k]? with
  | none => rw [hi] at h1; cases h1
  | some j =>
    rw [hi] at h1
    exact ⟨j, rfl, by simp [ev_i, List.getD, hi], Option.some.inj h1⟩
theorem ev_cutP {D : va_G} {cy : Nat → ClassId} {ad : Nat → Nat} {is : List Nat} {H : Heap} (hin : is.map (fun j => w[j]?) = wc.map (fun e => some (ev_ec is e))) (P : va_P D vwCl (ev_w cy ad w) H) : va_P D vwCl (ev_w cy (fun k => ad (ev_i is k)) wc) H := by
  intro k q hq
  obtain ⟨e, he, rfl⟩ := ev_w_at hq
  obtain ⟨j, h1, h2, h3⟩ := ev_cut (cy := cy) (ad := ad) hin he
  have := P j _ (ev_w_get (cy := cy) (ad := ad) h3)
  rw [ev_cc] at this
  rw [← h2] at this
  exact this
theorem ev_cutD {cy : Nat → ClassId} {ad : Nat → Nat} {A : Nat → Prop} {is : List Nat} (hnd : va_nd is = true) (hin : is.map (fun j => w[j]?) = wc.map (fun e => some (ev_ec is e))) (X : va_D A (ev_w cy ad w)) : va_D A (ev_w cy (fun k => ad (ev_i is k)) wc) := by
  refine ⟨fun i j x z hi hj hxz => ?_, fun k q hk => ?_⟩
  · obtain ⟨e1, he1, rfl⟩ := ev_w_at hi
    obtain ⟨e2, he2, rfl⟩ := ev_w_at hj
    obtain ⟨j1, a1, a2, a3⟩ := ev_cut (cy := cy) (ad := ad) hin he1
    obtain ⟨j2, b1, b2, b3⟩ := ev_cut (cy := cy) (ad := ad) hin he2
    have hxz : ad (ev_i is i) = ad (ev_i is j) := hxz
    rw [a2, b2] at hxz
    have h12 := X.1 j1 j2 _ _ (ev_w_get (cy := cy) (ad := ad) a3) (ev_w_get (cy := cy) (ad := ad) b3) hxz
    subst h12
    exact va_nd_inj is hnd i j j1 a1 b1
  · obtain ⟨e, he, rfl⟩ := ev_w_at hk
    obtain ⟨j, a1, a2, a3⟩ := ev_cut (cy := cy) (ad := ad) hin he
    have := X.2 j _ (ev_w_get (cy := cy) (ad := ad) a3)
    show A (ad (ev_i is k))
    rw [a2]
    exact this
theorem ev_joinP {D : va_G} {cy : Nat → ClassId} {ad : Nat → Nat} {A : Nat → Prop} {is : List Nat} {wc' : List Ce} {H H1 : Heap} (hnd : va_nd is = true) (hin : is.map (fun j => w[j]?) = wc.map (fun e => some (ev_ec is e))) (hl : wc'.length = wc.length) (P : va_P D vwCl (ev_w cy ad w) H) (X : va_D A (ev_w cy ad w)) (P1 : va_P D vwCl (ev_w cy (fun k => ad (ev_i is k)) wc') H1) (hk : ∀ q : Nat, q < H.size → ¬ va_A (ev_w cy (fun k => ad (ev_i is k)) wc) H.size q → H1[q]? = H[q]?) : va_P D vwCl (ev_w cy ad (ev_put w is (wc'.map (ev_ec is)))) H1 := by
  have hlen : is.length = wc.length := by simpa using congrArg List.length hin
  intro j q hq
  obtain ⟨e, he, rfl⟩ := ev_w_at hq
  have hj : j < w.length := by
    have := (List.getElem?_eq_some_iff.mp he).1
    rwa [ev_put_len] at this
  by_cases hm : j ∈ is
  · obtain ⟨k, hk1⟩ := List.getElem?_of_mem hm
    have hk2 : k < is.length := (List.getElem?_eq_some_iff.mp hk1).1
    rw [ev_put_in is w _ k j hnd hk1 hj (by rw [List.length_map]; omega), List.getElem?_map] at he
    cases hc : wc'[k]? with
    | none => rw [hc] at he; cases he
    | some e' =>
      rw [hc] at he
      cases he
      have := P1 k _ (ev_w_get hc)
      rw [ev_cc]
      have e2 : ev_i is k = j := by simp [ev_i, List.getD, hk1]
      have this : va_at D vwCl (ad (ev_i is k), _) H1 := this
      rw [e2] at this
      exact this
  · rw [ev_put_out is w _ j hm] at he
    have h0 := P j _ (ev_w_get (cy := cy) (ad := ad) he)
    refine h0.kept (hk _ h0.lt (fun h => ?_))
    rcases h with ⟨k, e2, h⟩ | h
    · obtain ⟨e3, h3, h4⟩ := ev_w_at h
      obtain ⟨j1, a1, a2, a3⟩ := ev_cut (cy := cy) (ad := ad) hin h3
      have h5 : ad j = ad (ev_i is k) := congrArg Prod.fst h4
      rw [a2] at h5
      have := X.1 j j1 _ _ (ev_w_get (cy := cy) (ad := ad) he) (ev_w_get (cy := cy) (ad := ad) a3) h5
      subst this
      exact hm (List.mem_of_getElem? a1)
    · exact absurd h0.lt (Nat.not_lt.mpr h)
theorem ev_tlE {ad : Nat → Nat} {is : List Nat} {r : Option Value} : (r.map (ev_v (fun k => ad (ev_i is k)))).toList ++ rest.map (ev_v ad) = ((r.map (ev_v (ev_i is))).toList ++ rest).map (ev_v ad) := by
  cases r with
  | none => simp
  | some v => cases v <;> simp [ev_v]
theorem ev_mapE {ad : Nat → Nat} {is : List Nat} (As : List Value) : As.map (ev_v (fun k => ad (ev_i is k))) = (As.map (ev_v (ev_i is))).map (ev_v ad) := by
  rw [List.map_map]
  apply List.map_congr_left
  intro v _
  cases v <;> rfl
/-- a method of an object, in a part of the world -/
theorem Ev.callVE (is : List Nat) (o : Nat) (As : List Value) {ci N : Nat} {T : u_T} {ty : Nat → FieldType} {fs : List Value} (hE : Ev d y2 cc2 ret2 0 ls2 [] wc Q2) (hd : decode cc pc = .ok (.invokevirtual i, 3)) (hlk : Cond.methodLink y.cls i y2 ∈ wsG) (hin : Cond.instanceMethod y2 ∈ wsG) (hse : Cond.selects y2.cls y2 y2 ∈ wsG) (hm : OkM y2 cc2 n2 ret2 np) (hcf : CF ci y2.cls T N ty) (ho : wc[o]? = some (.inr (ci, fs))) (h0 : ev_e (.ref o :: As) ++ List.replicate (n2 - (ev_e (.ref o :: As)).length) none = ls2) (hle : (ev_e (.ref o :: As)).length ≤ n2) (hnp : As.length = np) (hr : (rest.map fun v => v.category).sum ≤ 8) (hs : (As.map (ev_v (ev_i is))).reverse ++ .ref (ev_i is o) :: rest = st)
    (hnd : va_nd is = true) (hsk : ev_i is SK = SK) (hpart : is.map (fun j => w[j]?) = wc.map (fun e => some (ev_ec is e)))
    (k : ∀ r wc', Q2 r wc' → wc'.length = wc.length ∧ Ev (d + 1) y cc ret (pc + 3) ls ((r.map (ev_v (ev_i is))).toList ++ rest) (ev_put w is (wc'.map (ev_ec is))) Q) : Ev (d + 1) y cc ret pc ls st w Q := by
  intro D cy ad sv p l e s m args below meth c A ls' H locs C L P X S
  have P' := ev_cutP (cy := cy) (ad := ad) (is := is) hpart P
  have X' := ev_cutD (cy := cy) (ad := ad) hnd hpart X
  have hA := ev_self C S X'
  refine ev_back (ad' := fun k => ad (ev_i is k)) (ev_runV (As := As) (o := o) (ad' := fun k => ad (ev_i is k)) hE h0 hle hm hin hse hlk hnp hcf ho C L.1 S P' (X'.weaken (fun _ _ _ _ => trivial)) (by show ad (ev_i is SK) = ad SK; rw [hsk]) hA (rest0 := rest.map (ev_v ad)) (by rw [← hs, ev_mapE]; simp [ev_v]) (ev_rest hr) hd) S hA (fun r w' H1 locs1 hq P1 X1 hkeep S1 => ?_)
  rw [ev_tlE]
  obtain ⟨hl, hk⟩ := k r w' hq
  exact hk D cy ad sv p l e s m args below meth c A ls' H1 locs1 C L (ev_joinP (cy := cy) (ad := ad) hnd hpart hl P X P1 hkeep) (ev_D_len X (ev_put_len is w _)) S1
end EVC2
end
