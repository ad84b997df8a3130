section
-- ===== PART A: goes FIRST, ahead of the names: the tables' words, and 'selects' of the private methods out of them =====
/-- a private method of a class that the tables say can be made, by its rows of tables_1 -/
def lw_okq (q : MethodName × Nat) : Prop := (q.1.cls ≠ "java/lang/invoke/MethodHandle" ∧ q.1.cls ≠ "java/lang/invoke/VarHandle") ∧ Cond.instantiable q.1.cls q.2 ∈ tables_1 ∧ Cond.privateMethod q.1 ∈ tables_1 ∧ Cond.instanceMethod q.1 ∈ tables_1
theorem lw_p0 : lw_okq (⟨"LipFlaps", "recordState", "()V"⟩, 9) := ⟨⟨by decide +kernel, by decide +kernel⟩, List.mem_of_getElem? (i := 11) (by decide +kernel), List.mem_of_getElem? (i := 229) (by decide +kernel), List.mem_of_getElem? (i := 230) (by decide +kernel)⟩
theorem lw_p1 : lw_okq (⟨"LipFlaps$Planner", "fillCosts", "(LLipFlaps$Scene;II)V"⟩, 9) := ⟨⟨by decide +kernel, by decide +kernel⟩, List.mem_of_getElem? (i := 139) (by decide +kernel), List.mem_of_getElem? (i := 364) (by decide +kernel), List.mem_of_getElem? (i := 365) (by decide +kernel)⟩
theorem lw_p2 : lw_okq (⟨"LipFlaps$Planner", "fillRest", "(II)V"⟩, 9) := ⟨⟨by decide +kernel, by decide +kernel⟩, List.mem_of_getElem? (i := 139) (by decide +kernel), List.mem_of_getElem? (i := 381) (by decide +kernel), List.mem_of_getElem? (i := 382) (by decide +kernel)⟩
theorem lw_p3 : lw_okq (⟨"LipFlaps$Planner", "longer", "(I)I"⟩, 9) := ⟨⟨by decide +kernel, by decide +kernel⟩, List.mem_of_getElem? (i := 139) (by decide +kernel), List.mem_of_getElem? (i := 385) (by decide +kernel), List.mem_of_getElem? (i := 386) (by decide +kernel)⟩
theorem lw_p4 : lw_okq (⟨"LipFlaps$Planner", "leastOfLeaving", "(II)I"⟩, 9) := ⟨⟨by decide +kernel, by decide +kernel⟩, List.mem_of_getElem? (i := 139) (by decide +kernel), List.mem_of_getElem? (i := 389) (by decide +kernel), List.mem_of_getElem? (i := 390) (by decide +kernel)⟩
theorem lw_p5 : lw_okq (⟨"LipFlaps$Planner", "bestFirst", "()I"⟩, 9) := ⟨⟨by decide +kernel, by decide +kernel⟩, List.mem_of_getElem? (i := 139) (by decide +kernel), List.mem_of_getElem? (i := 398) (by decide +kernel), List.mem_of_getElem? (i := 399) (by decide +kernel)⟩
theorem lw_p6 : lw_okq (⟨"LipFlaps$Planner", "bestNext", "(III)I"⟩, 9) := ⟨⟨by decide +kernel, by decide +kernel⟩, List.mem_of_getElem? (i := 139) (by decide +kernel), List.mem_of_getElem? (i := 402) (by decide +kernel), List.mem_of_getElem? (i := 403) (by decide +kernel)⟩
theorem lw_p7 : lw_okq (⟨"LipFlaps$Reader", "skipSpaces", "()V"⟩, 4) := ⟨⟨by decide +kernel, by decide +kernel⟩, List.mem_of_getElem? (i := 174) (by decide +kernel), List.mem_of_getElem? (i := 449) (by decide +kernel), List.mem_of_getElem? (i := 450) (by decide +kernel)⟩
theorem lw_p8 : lw_okq (⟨"LipFlaps$Reader", "readItem", "(LLipFlaps$Scene;)V"⟩, 4) := ⟨⟨by decide +kernel, by decide +kernel⟩, List.mem_of_getElem? (i := 174) (by decide +kernel), List.mem_of_getElem? (i := 453) (by decide +kernel), List.mem_of_getElem? (i := 454) (by decide +kernel)⟩
theorem lw_p9 : lw_okq (⟨"LipFlaps$Reader", "readNumber", "(II)I"⟩, 4) := ⟨⟨by decide +kernel, by decide +kernel⟩, List.mem_of_getElem? (i := 174) (by decide +kernel), List.mem_of_getElem? (i := 460) (by decide +kernel), List.mem_of_getElem? (i := 461) (by decide +kernel)⟩
theorem lw_p10 : lw_okq (⟨"LipFlaps$Planner", "fillHere", "(II)V"⟩, 9) := ⟨⟨by decide +kernel, by decide +kernel⟩, List.mem_of_getElem? (i := 139) (by decide +kernel), List.mem_of_getElem? (i := 527) (by decide +kernel), List.mem_of_getElem? (i := 528) (by decide +kernel)⟩
theorem lw_p11 : lw_okq (⟨"LipFlaps$Planner", "leastOfEntering", "(I)I"⟩, 9) := ⟨⟨by decide +kernel, by decide +kernel⟩, List.mem_of_getElem? (i := 139) (by decide +kernel), List.mem_of_getElem? (i := 531) (by decide +kernel), List.mem_of_getElem? (i := 532) (by decide +kernel)⟩
theorem lw_p12 : lw_okq (⟨"LipFlapsModel", "keep", "()V"⟩, 13) := ⟨⟨by decide +kernel, by decide +kernel⟩, List.mem_of_getElem? (i := 574) (by decide +kernel), List.mem_of_getElem? (i := 630) (by decide +kernel), List.mem_of_getElem? (i := 631) (by decide +kernel)⟩
theorem lw_p13 : lw_okq (⟨"LipFlapsModel", "isMouth", "(I)Z"⟩, 13) := ⟨⟨by decide +kernel, by decide +kernel⟩, List.mem_of_getElem? (i := 574) (by decide +kernel), List.mem_of_getElem? (i := 641) (by decide +kernel), List.mem_of_getElem? (i := 642) (by decide +kernel)⟩
theorem lw_p14 : lw_okq (⟨"LipFlapsModel", "opening", "(I)I"⟩, 13) := ⟨⟨by decide +kernel, by decide +kernel⟩, List.mem_of_getElem? (i := 574) (by decide +kernel), List.mem_of_getElem? (i := 645) (by decide +kernel), List.mem_of_getElem? (i := 646) (by decide +kernel)⟩
theorem lw_p15 : lw_okq (⟨"LipFlapsModel", "width", "(I)I"⟩, 13) := ⟨⟨by decide +kernel, by decide +kernel⟩, List.mem_of_getElem? (i := 574) (by decide +kernel), List.mem_of_getElem? (i := 652) (by decide +kernel), List.mem_of_getElem? (i := 653) (by decide +kernel)⟩
def lw_privs_1 : List (MethodName × Nat) := [(⟨"LipFlaps", "recordState", "()V"⟩, 9), (⟨"LipFlaps$Planner", "fillCosts", "(LLipFlaps$Scene;II)V"⟩, 9), (⟨"LipFlaps$Planner", "fillRest", "(II)V"⟩, 9), (⟨"LipFlaps$Planner", "longer", "(I)I"⟩, 9), (⟨"LipFlaps$Planner", "leastOfLeaving", "(II)I"⟩, 9), (⟨"LipFlaps$Planner", "bestFirst", "()I"⟩, 9), (⟨"LipFlaps$Planner", "bestNext", "(III)I"⟩, 9), (⟨"LipFlaps$Reader", "skipSpaces", "()V"⟩, 4), (⟨"LipFlaps$Reader", "readItem", "(LLipFlaps$Scene;)V"⟩, 4), (⟨"LipFlaps$Reader", "readNumber", "(II)I"⟩, 4), (⟨"LipFlaps$Planner", "fillHere", "(II)V"⟩, 9), (⟨"LipFlaps$Planner", "leastOfEntering", "(I)I"⟩, 9), (⟨"LipFlapsModel", "keep", "()V"⟩, 13), (⟨"LipFlapsModel", "isMouth", "(I)Z"⟩, 13), (⟨"LipFlapsModel", "opening", "(I)I"⟩, 13), (⟨"LipFlapsModel", "width", "(I)I"⟩, 13)]
theorem lw_r1 : ∀ q ∈ lw_privs_1, lw_okq q := List.forall_mem_cons.mpr ⟨lw_p0, List.forall_mem_cons.mpr ⟨lw_p1, List.forall_mem_cons.mpr ⟨lw_p2, List.forall_mem_cons.mpr ⟨lw_p3, List.forall_mem_cons.mpr ⟨lw_p4, List.forall_mem_cons.mpr ⟨lw_p5, List.forall_mem_cons.mpr ⟨lw_p6, List.forall_mem_cons.mpr ⟨lw_p7, List.forall_mem_cons.mpr ⟨lw_p8, List.forall_mem_cons.mpr ⟨lw_p9, List.forall_mem_cons.mpr ⟨lw_p10, List.forall_mem_cons.mpr ⟨lw_p11, List.forall_mem_cons.mpr ⟨lw_p12, List.forall_mem_cons.mpr ⟨lw_p13, List.forall_mem_cons.mpr ⟨lw_p14, List.forall_mem_cons.mpr ⟨lw_p15, fun _ h => absurd h List.not_mem_nil⟩⟩⟩⟩⟩⟩⟩⟩⟩⟩⟩⟩⟩⟩⟩⟩
theorem lw_p16 : lw_okq (⟨"LipFlapsModel", "setting", "(I)I"⟩, 13) := ⟨⟨by decide +kernel, by decide +kernel⟩, List.mem_of_getElem? (i := 574) (by decide +kernel), List.mem_of_getElem? (i := 670) (by decide +kernel), List.mem_of_getElem? (i := 671) (by decide +kernel)⟩
theorem lw_p17 : lw_okq (⟨"LipFlapsModel", "frames", "()I"⟩, 13) := ⟨⟨by decide +kernel, by decide +kernel⟩, List.mem_of_getElem? (i := 574) (by decide +kernel), List.mem_of_getElem? (i := 690) (by decide +kernel), List.mem_of_getElem? (i := 691) (by decide +kernel)⟩
theorem lw_p18 : lw_okq (⟨"LipFlapsModel", "firstOf", "(I)I"⟩, 13) := ⟨⟨by decide +kernel, by decide +kernel⟩, List.mem_of_getElem? (i := 574) (by decide +kernel), List.mem_of_getElem? (i := 694) (by decide +kernel), List.mem_of_getElem? (i := 695) (by decide +kernel)⟩
theorem lw_p19 : lw_okq (⟨"LipFlapsModel", "framesOf", "(I)I"⟩, 13) := ⟨⟨by decide +kernel, by decide +kernel⟩, List.mem_of_getElem? (i := 574) (by decide +kernel), List.mem_of_getElem? (i := 698) (by decide +kernel), List.mem_of_getElem? (i := 699) (by decide +kernel)⟩
theorem lw_p20 : lw_okq (⟨"LipFlapsModel", "isSegment", "(I)Z"⟩, 13) := ⟨⟨by decide +kernel, by decide +kernel⟩, List.mem_of_getElem? (i := 574) (by decide +kernel), List.mem_of_getElem? (i := 706) (by decide +kernel), List.mem_of_getElem? (i := 707) (by decide +kernel)⟩
theorem lw_p21 : lw_okq (⟨"LipFlapsModel", "puts", "(III)I"⟩, 13) := ⟨⟨by decide +kernel, by decide +kernel⟩, List.mem_of_getElem? (i := 574) (by decide +kernel), List.mem_of_getElem? (i := 721) (by decide +kernel), List.mem_of_getElem? (i := 722) (by decide +kernel)⟩
theorem lw_p22 : lw_okq (⟨"LipFlapsModel", "isFrame", "(I)Z"⟩, 13) := ⟨⟨by decide +kernel, by decide +kernel⟩, List.mem_of_getElem? (i := 574) (by decide +kernel), List.mem_of_getElem? (i := 725) (by decide +kernel), List.mem_of_getElem? (i := 726) (by decide +kernel)⟩
theorem lw_p23 : lw_okq (⟨"LipFlapsModel", "nearestTo", "(III)I"⟩, 13) := ⟨⟨by decide +kernel, by decide +kernel⟩, List.mem_of_getElem? (i := 574) (by decide +kernel), List.mem_of_getElem? (i := 737) (by decide +kernel), List.mem_of_getElem? (i := 738) (by decide +kernel)⟩
theorem lw_p24 : lw_okq (⟨"LipFlapsModel", "farBetween", "(II)I"⟩, 13) := ⟨⟨by decide +kernel, by decide +kernel⟩, List.mem_of_getElem? (i := 574) (by decide +kernel), List.mem_of_getElem? (i := 742) (by decide +kernel), List.mem_of_getElem? (i := 743) (by decide +kernel)⟩
theorem lw_p25 : lw_okq (⟨"LipFlapsModel", "findPlan", "(III)I"⟩, 13) := ⟨⟨by decide +kernel, by decide +kernel⟩, List.mem_of_getElem? (i := 574) (by decide +kernel), List.mem_of_getElem? (i := 750) (by decide +kernel), List.mem_of_getElem? (i := 751) (by decide +kernel)⟩
theorem lw_p26 : lw_okq (⟨"LipFlapsModel", "layKinds", "()V"⟩, 13) := ⟨⟨by decide +kernel, by decide +kernel⟩, List.mem_of_getElem? (i := 574) (by decide +kernel), List.mem_of_getElem? (i := 754) (by decide +kernel), List.mem_of_getElem? (i := 755) (by decide +kernel)⟩
theorem lw_p27 : lw_okq (⟨"LipFlapsModel", "kindOf", "(I)I"⟩, 13) := ⟨⟨by decide +kernel, by decide +kernel⟩, List.mem_of_getElem? (i := 574) (by decide +kernel), List.mem_of_getElem? (i := 758) (by decide +kernel), List.mem_of_getElem? (i := 759) (by decide +kernel)⟩
theorem lw_p28 : lw_okq (⟨"LipFlapsModel", "wrongBy", "(II)I"⟩, 13) := ⟨⟨by decide +kernel, by decide +kernel⟩, List.mem_of_getElem? (i := 574) (by decide +kernel), List.mem_of_getElem? (i := 762) (by decide +kernel), List.mem_of_getElem? (i := 763) (by decide +kernel)⟩
theorem lw_p29 : lw_okq (⟨"LipFlapsModel", "behind", "(IIIII)I"⟩, 13) := ⟨⟨by decide +kernel, by decide +kernel⟩, List.mem_of_getElem? (i := 574) (by decide +kernel), List.mem_of_getElem? (i := 766) (by decide +kernel), List.mem_of_getElem? (i := 767) (by decide +kernel)⟩
theorem lw_p30 : lw_okq (⟨"LipFlapsModel", "lays", "(II)I"⟩, 13) := ⟨⟨by decide +kernel, by decide +kernel⟩, List.mem_of_getElem? (i := 574) (by decide +kernel), List.mem_of_getElem? (i := 773) (by decide +kernel), List.mem_of_getElem? (i := 774) (by decide +kernel)⟩
theorem lw_p31 : lw_okq (⟨"LipFlapsModel", "breathes", "([I)I"⟩, 13) := ⟨⟨by decide +kernel, by decide +kernel⟩, List.mem_of_getElem? (i := 574) (by decide +kernel), List.mem_of_getElem? (i := 781) (by decide +kernel), List.mem_of_getElem? (i := 782) (by decide +kernel)⟩
def lw_privs_2 : List (MethodName × Nat) := [(⟨"LipFlapsModel", "setting", "(I)I"⟩, 13), (⟨"LipFlapsModel", "frames", "()I"⟩, 13), (⟨"LipFlapsModel", "firstOf", "(I)I"⟩, 13), (⟨"LipFlapsModel", "framesOf", "(I)I"⟩, 13), (⟨"LipFlapsModel", "isSegment", "(I)Z"⟩, 13), (⟨"LipFlapsModel", "puts", "(III)I"⟩, 13), (⟨"LipFlapsModel", "isFrame", "(I)Z"⟩, 13), (⟨"LipFlapsModel", "nearestTo", "(III)I"⟩, 13), (⟨"LipFlapsModel", "farBetween", "(II)I"⟩, 13), (⟨"LipFlapsModel", "findPlan", "(III)I"⟩, 13), (⟨"LipFlapsModel", "layKinds", "()V"⟩, 13), (⟨"LipFlapsModel", "kindOf", "(I)I"⟩, 13), (⟨"LipFlapsModel", "wrongBy", "(II)I"⟩, 13), (⟨"LipFlapsModel", "behind", "(IIIII)I"⟩, 13), (⟨"LipFlapsModel", "lays", "(II)I"⟩, 13), (⟨"LipFlapsModel", "breathes", "([I)I"⟩, 13)]
theorem lw_r2 : ∀ q ∈ lw_privs_2, lw_okq q := List.forall_mem_cons.mpr ⟨lw_p16, List.forall_mem_cons.mpr ⟨lw_p17, List.forall_mem_cons.mpr ⟨lw_p18, List.forall_mem_cons.mpr ⟨lw_p19, List.forall_mem_cons.mpr ⟨lw_p20, List.forall_mem_cons.mpr ⟨lw_p21, List.forall_mem_cons.mpr ⟨lw_p22, List.forall_mem_cons.mpr ⟨lw_p23, List.forall_mem_cons.mpr ⟨lw_p24, List.forall_mem_cons.mpr ⟨lw_p25, List.forall_mem_cons.mpr ⟨lw_p26, List.forall_mem_cons.mpr ⟨lw_p27, List.forall_mem_cons.mpr ⟨lw_p28, List.forall_mem_cons.mpr ⟨lw_p29, List.forall_mem_cons.mpr ⟨lw_p30, List.forall_mem_cons.mpr ⟨lw_p31, fun _ h => absurd h List.not_mem_nil⟩⟩⟩⟩⟩⟩⟩⟩⟩⟩⟩⟩⟩⟩⟩⟩
theorem lw_p32 : lw_okq (⟨"LipFlapsModel", "overSpaces", "()V"⟩, 13) := ⟨⟨by decide +kernel, by decide +kernel⟩, List.mem_of_getElem? (i := 574) (by decide +kernel), List.mem_of_getElem? (i := 812) (by decide +kernel), List.mem_of_getElem? (i := 813) (by decide +kernel)⟩
theorem lw_p33 : lw_okq (⟨"LipFlapsModel", "here", "()I"⟩, 13) := ⟨⟨by decide +kernel, by decide +kernel⟩, List.mem_of_getElem? (i := 574) (by decide +kernel), List.mem_of_getElem? (i := 816) (by decide +kernel), List.mem_of_getElem? (i := 817) (by decide +kernel)⟩
theorem lw_p34 : lw_okq (⟨"LipFlapsModel", "readItem", "()Z"⟩, 13) := ⟨⟨by decide +kernel, by decide +kernel⟩, List.mem_of_getElem? (i := 574) (by decide +kernel), List.mem_of_getElem? (i := 820) (by decide +kernel), List.mem_of_getElem? (i := 821) (by decide +kernel)⟩
theorem lw_p35 : lw_okq (⟨"LipFlapsModel", "readNumber", "(II)Z"⟩, 13) := ⟨⟨by decide +kernel, by decide +kernel⟩, List.mem_of_getElem? (i := 574) (by decide +kernel), List.mem_of_getElem? (i := 824) (by decide +kernel), List.mem_of_getElem? (i := 825) (by decide +kernel)⟩
theorem lw_p36 : lw_okq (⟨"LipFlapsModel", "manyOf", "(I)I"⟩, 13) := ⟨⟨by decide +kernel, by decide +kernel⟩, List.mem_of_getElem? (i := 574) (by decide +kernel), List.mem_of_getElem? (i := 832) (by decide +kernel), List.mem_of_getElem? (i := 833) (by decide +kernel)⟩
theorem lw_p37 : lw_okq (⟨"LipFlapsModel", "manyGasps", "()I"⟩, 13) := ⟨⟨by decide +kernel, by decide +kernel⟩, List.mem_of_getElem? (i := 574) (by decide +kernel), List.mem_of_getElem? (i := 836) (by decide +kernel), List.mem_of_getElem? (i := 837) (by decide +kernel)⟩
theorem lw_p38 : lw_okq (⟨"LipFlapsModel", "segmentOf", "(I)I"⟩, 13) := ⟨⟨by decide +kernel, by decide +kernel⟩, List.mem_of_getElem? (i := 574) (by decide +kernel), List.mem_of_getElem? (i := 864) (by decide +kernel), List.mem_of_getElem? (i := 865) (by decide +kernel)⟩
theorem lw_p39 : lw_okq (⟨"LipFlapsModel", "tellAir", "(II)I"⟩, 13) := ⟨⟨by decide +kernel, by decide +kernel⟩, List.mem_of_getElem? (i := 574) (by decide +kernel), List.mem_of_getElem? (i := 871) (by decide +kernel), List.mem_of_getElem? (i := 872) (by decide +kernel)⟩
theorem lw_p40 : lw_okq (⟨"LipFlapsModel", "faultIn", "(I)I"⟩, 13) := ⟨⟨by decide +kernel, by decide +kernel⟩, List.mem_of_getElem? (i := 574) (by decide +kernel), List.mem_of_getElem? (i := 895) (by decide +kernel), List.mem_of_getElem? (i := 896) (by decide +kernel)⟩
def lw_privs_3 : List (MethodName × Nat) := [(⟨"LipFlapsModel", "overSpaces", "()V"⟩, 13), (⟨"LipFlapsModel", "here", "()I"⟩, 13), (⟨"LipFlapsModel", "readItem", "()Z"⟩, 13), (⟨"LipFlapsModel", "readNumber", "(II)Z"⟩, 13), (⟨"LipFlapsModel", "manyOf", "(I)I"⟩, 13), (⟨"LipFlapsModel", "manyGasps", "()I"⟩, 13), (⟨"LipFlapsModel", "segmentOf", "(I)I"⟩, 13), (⟨"LipFlapsModel", "tellAir", "(II)I"⟩, 13), (⟨"LipFlapsModel", "faultIn", "(I)I"⟩, 13)]
theorem lw_r3 : ∀ q ∈ lw_privs_3, lw_okq q := List.forall_mem_cons.mpr ⟨lw_p32, List.forall_mem_cons.mpr ⟨lw_p33, List.forall_mem_cons.mpr ⟨lw_p34, List.forall_mem_cons.mpr ⟨lw_p35, List.forall_mem_cons.mpr ⟨lw_p36, List.forall_mem_cons.mpr ⟨lw_p37, List.forall_mem_cons.mpr ⟨lw_p38, List.forall_mem_cons.mpr ⟨lw_p39, List.forall_mem_cons.mpr ⟨lw_p40, fun _ h => absurd h List.not_mem_nil⟩⟩⟩⟩⟩⟩⟩⟩⟩
def lw_privs : List (MethodName × Nat) := lw_privs_1 ++ (lw_privs_2 ++ (lw_privs_3))
def lw_tbl : List Cond := k2_sels lw_privs ++ tables_1
theorem lw_privs_ok : ∀ q ∈ lw_privs, lw_okq q := by
  show ∀ q ∈ lw_privs_1 ++ (lw_privs_2 ++ (lw_privs_3)), lw_okq q
  exact List.forall_mem_append.mpr ⟨lw_r1, List.forall_mem_append.mpr ⟨lw_r2, lw_r3⟩⟩
end
section
abbrev RI : Type := Instr × List Nat
def RX0 : String := "LipFlaps$Air"
def TX0 : u_T := fun k => match k with
  | 0 => ("LipFlaps$Air", "behind", "[I", true)
  | 1 => ("LipFlaps$Air", "gasps", "[Z", true)
  | 2 => ("LipFlaps$Air", "gaspCount", "I", false)
  | _ => ("LipFlaps$Air", "gaspSegment", "I", false)
def tyX0 : Nat → FieldType := fun k => match k with
  | 0 => .array .int
  | 1 => .array .boolean
  | 2 => .int
  | _ => .int
abbrev wsX00 : List Cond := u_ws RX0 TX0 4
theorem nmX0 : ∀ a, a < 4 → ∀ b, b < 4 → a ≠ b → (TX0 a).2.1 ≠ (TX0 b).2.1 := by decide +kernel
theorem tyX0_ok : ∀ k, k < 4 → parseFieldDescriptor (TX0 k).2.2.1 = some (tyX0 k) := by decide +kernel
def RX1 : String := "LipFlaps$Planner"
def TX1 : u_T := fun k => match k with
  | 0 => ("LipFlaps$Planner", "plan", "[I", true)
  | 1 => ("LipFlaps$Planner", "costs", "[I", true)
  | 2 => ("LipFlaps$Planner", "close", "[Z", true)
  | 3 => ("LipFlaps$Planner", "rest", "[I", true)
  | 4 => ("LipFlaps$Planner", "here", "[I", true)
  | 5 => ("LipFlaps$Planner", "ahead", "[I", true)
  | 6 => ("LipFlaps$Planner", "frames", "I", false)
  | 7 => ("LipFlaps$Planner", "mouths", "I", false)
  | _ => ("LipFlaps$Planner", "hold", "I", false)
def tyX1 : Nat → FieldType := fun k => match k with
  | 0 => .array .int
  | 1 => .array .int
  | 2 => .array .boolean
  | 3 => .array .int
  | 4 => .array .int
  | 5 => .array .int
  | 6 => .int
  | 7 => .int
  | _ => .int
abbrev wsX10 : List Cond := u_ws RX1 TX1 9
theorem nmX1 : ∀ a, a < 9 → ∀ b, b < 9 → a ≠ b → (TX1 a).2.1 ≠ (TX1 b).2.1 := by decide +kernel
theorem tyX1_ok : ∀ k, k < 9 → parseFieldDescriptor (TX1 k).2.2.1 = some (tyX1 k) := by decide +kernel
def RX2 : String := "LipFlaps$Reader"
def TX2 : u_T := fun k => match k with
  | 0 => ("LipFlaps$Reader", "error", "I", false)
  | 1 => ("LipFlaps$Reader", "text", "[I", false)
  | 2 => ("LipFlaps$Reader", "length", "I", false)
  | _ => ("LipFlaps$Reader", "at", "I", false)
def tyX2 : Nat → FieldType := fun k => match k with
  | 0 => .int
  | 1 => .array .int
  | 2 => .int
  | _ => .int
abbrev wsX20 : List Cond := u_ws RX2 TX2 4
theorem nmX2 : ∀ a, a < 4 → ∀ b, b < 4 → a ≠ b → (TX2 a).2.1 ≠ (TX2 b).2.1 := by decide +kernel
theorem tyX2_ok : ∀ k, k < 4 → parseFieldDescriptor (TX2 k).2.2.1 = some (tyX2 k) := by decide +kernel
def RX3 : String := "LipFlaps$Scene"
def TX3 : u_T := fun k => match k with
  | 0 => ("LipFlaps$Scene", "mouths", "I", false)
  | 1 => ("LipFlaps$Scene", "openings", "[I", true)
  | 2 => ("LipFlaps$Scene", "widths", "[I", true)
  | 3 => ("LipFlaps$Scene", "sounds", "[I", true)
  | 4 => ("LipFlaps$Scene", "numbers", "[I", true)
  | 5 => ("LipFlaps$Scene", "segments", "I", false)
  | 6 => ("LipFlaps$Scene", "kinds", "[I", true)
  | 7 => ("LipFlaps$Scene", "lengths", "[I", true)
  | 8 => ("LipFlaps$Scene", "frames", "I", false)
  | 9 => ("LipFlaps$Scene", "pinned", "[I", true)
  | _ => ("LipFlaps$Scene", "drawn", "[I", true)
def tyX3 : Nat → FieldType := fun k => match k with
  | 0 => .int
  | 1 => .array .int
  | 2 => .array .int
  | 3 => .array .int
  | 4 => .array .int
  | 5 => .int
  | 6 => .array .int
  | 7 => .array .int
  | 8 => .int
  | 9 => .array .int
  | _ => .array .int
abbrev wsX30 : List Cond := u_ws RX3 TX3 11
theorem nmX3 : ∀ a, a < 11 → ∀ b, b < 11 → a ≠ b → (TX3 a).2.1 ≠ (TX3 b).2.1 := by decide +kernel
theorem tyX3_ok : ∀ k, k < 11 → parseFieldDescriptor (TX3 k).2.2.1 = some (tyX3 k) := by decide +kernel
def RX4 : String := "LipFlaps$State"
def TX4 : u_T := fun k => match k with
  | 0 => ("LipFlaps$State", "scene", "LLipFlaps$Scene;", true)
  | 1 => ("LipFlaps$State", "slots", "[LLipFlaps$Scene;", true)
  | _ => ("LipFlaps$State", "taken", "[Z", true)
def tyX4 : Nat → FieldType := fun k => match k with
  | 0 => .object "LipFlaps$Scene"
  | 1 => .array (.object "LipFlaps$Scene")
  | _ => .array .boolean
abbrev wsX40 : List Cond := u_ws RX4 TX4 3
theorem nmX4 : ∀ a, a < 3 → ∀ b, b < 3 → a ≠ b → (TX4 a).2.1 ≠ (TX4 b).2.1 := by decide +kernel
theorem tyX4_ok : ∀ k, k < 3 → parseFieldDescriptor (TX4 k).2.2.1 = some (tyX4 k) := by decide +kernel
def RX5 : String := "LipFlaps"
def TX5 : u_T := fun k => match k with
  | 0 => ("LipFlaps", "now", "LLipFlaps$State;", true)
  | 1 => ("LipFlaps", "history", "[LLipFlaps$State;", true)
  | 2 => ("LipFlaps", "historyCount", "I", false)
  | 3 => ("LipFlaps", "trial", "LLipFlaps$Scene;", true)
  | 4 => ("LipFlaps", "air", "LLipFlaps$Air;", true)
  | 5 => ("LipFlaps", "planner", "LLipFlaps$Planner;", true)
  | 6 => ("LipFlaps", "reader", "LLipFlaps$Reader;", true)
  | 7 => ("LipFlaps", "text", "[I", true)
  | _ => ("LipFlaps", "textLength", "I", false)
def tyX5 : Nat → FieldType := fun k => match k with
  | 0 => .object "LipFlaps$State"
  | 1 => .array (.object "LipFlaps$State")
  | 2 => .int
  | 3 => .object "LipFlaps$Scene"
  | 4 => .object "LipFlaps$Air"
  | 5 => .object "LipFlaps$Planner"
  | 6 => .object "LipFlaps$Reader"
  | 7 => .array .int
  | _ => .int
abbrev wsX50 : List Cond := u_ws RX5 TX5 9
theorem nmX5 : ∀ a, a < 9 → ∀ b, b < 9 → a ≠ b → (TX5 a).2.1 ≠ (TX5 b).2.1 := by decide +kernel
theorem tyX5_ok : ∀ k, k < 9 → parseFieldDescriptor (TX5 k).2.2.1 = some (tyX5 k) := by decide +kernel
def RX6 : String := "LipFlapsModel"
def TX6 : u_T := fun k => match k with
  | 0 => ("LipFlapsModel", "page", "[I", true)
  | 1 => ("LipFlapsModel", "spare", "[I", true)
  | 2 => ("LipFlapsModel", "history", "[I", true)
  | 3 => ("LipFlapsModel", "states", "I", false)
  | 4 => ("LipFlapsModel", "text", "[I", true)
  | 5 => ("LipFlapsModel", "textLength", "I", false)
  | 6 => ("LipFlapsModel", "air", "[I", true)
  | 7 => ("LipFlapsModel", "gasps", "[Z", true)
  | 8 => ("LipFlapsModel", "place", "I", false)
  | 9 => ("LipFlapsModel", "value", "I", false)
  | 10 => ("LipFlapsModel", "cost", "[I", true)
  | 11 => ("LipFlapsModel", "plan", "[I", true)
  | _ => ("LipFlapsModel", "kinds", "[I", true)
def tyX6 : Nat → FieldType := fun k => match k with
  | 0 => .array .int
  | 1 => .array .int
  | 2 => .array .int
  | 3 => .int
  | 4 => .array .int
  | 5 => .int
  | 6 => .array .int
  | 7 => .array .boolean
  | 8 => .int
  | 9 => .int
  | 10 => .array .int
  | 11 => .array .int
  | _ => .array .int
abbrev wsX60 : List Cond := u_ws RX6 TX6 13
theorem nmX6 : ∀ a, a < 13 → ∀ b, b < 13 → a ≠ b → (TX6 a).2.1 ≠ (TX6 b).2.1 := by decide +kernel
theorem tyX6_ok : ∀ k, k < 13 → parseFieldDescriptor (TX6 k).2.2.1 = some (tyX6 k) := by decide +kernel
def RL : String := "LipFlapsLaw"
def RN (c : Nat) : String := cond (Nat.blt c 4) (cond (Nat.blt c 2) (cond (Nat.blt c 1) (cond (Nat.beq c 0) RX0 "") (cond (Nat.beq c 1) RX1 "")) (cond (Nat.blt c 3) (cond (Nat.beq c 2) RX2 "") (cond (Nat.beq c 3) RX3 ""))) (cond (Nat.blt c 6) (cond (Nat.blt c 5) (cond (Nat.beq c 4) RX4 "") (cond (Nat.beq c 5) RX5 "")) (cond (Nat.blt c 7) (cond (Nat.beq c 6) RX6 "") (cond (Nat.beq c 7) RL "")))
abbrev NF (c : Nat) : Nat := cond (Nat.blt c 3) (cond (Nat.blt c 1) (cond (Nat.beq c 0) 4 0) (cond (Nat.blt c 2) (cond (Nat.beq c 1) 9 0) (cond (Nat.beq c 2) 4 0))) (cond (Nat.blt c 5) (cond (Nat.blt c 4) (cond (Nat.beq c 3) 11 0) (cond (Nat.beq c 4) 3 0)) (cond (Nat.blt c 6) (cond (Nat.beq c 5) 9 0) (cond (Nat.beq c 6) 13 0)))
def TN (c : Nat) : u_T := cond (Nat.blt c 3) (cond (Nat.blt c 1) (cond (Nat.beq c 0) TX0 (fun _ => ("", "", "", false))) (cond (Nat.blt c 2) (cond (Nat.beq c 1) TX1 (fun _ => ("", "", "", false))) (cond (Nat.beq c 2) TX2 (fun _ => ("", "", "", false))))) (cond (Nat.blt c 5) (cond (Nat.blt c 4) (cond (Nat.beq c 3) TX3 (fun _ => ("", "", "", false))) (cond (Nat.beq c 4) TX4 (fun _ => ("", "", "", false)))) (cond (Nat.blt c 6) (cond (Nat.beq c 5) TX5 (fun _ => ("", "", "", false))) (cond (Nat.beq c 6) TX6 (fun _ => ("", "", "", false)))))
def tyN (c : Nat) : Nat → FieldType := cond (Nat.blt c 3) (cond (Nat.blt c 1) (cond (Nat.beq c 0) tyX0 (fun _ => .int)) (cond (Nat.blt c 2) (cond (Nat.beq c 1) tyX1 (fun _ => .int)) (cond (Nat.beq c 2) tyX2 (fun _ => .int)))) (cond (Nat.blt c 5) (cond (Nat.blt c 4) (cond (Nat.beq c 3) tyX3 (fun _ => .int)) (cond (Nat.beq c 4) tyX4 (fun _ => .int))) (cond (Nat.blt c 6) (cond (Nat.beq c 5) tyX5 (fun _ => .int)) (cond (Nat.beq c 6) tyX6 (fun _ => .int))))
abbrev clN : List vw_C := [(RX0, TX0, 4), (RX1, TX1, 9), (RX2, TX2, 4), (RX3, TX3, 11), (RX4, TX4, 3), (RX5, TX5, 9), (RX6, TX6, 13)]
/-- is that field an int? (else a reference) -/
def fI (c k : Nat) : Bool := cond (Nat.blt c 3) (cond (Nat.blt c 1) (cond (Nat.beq c 0) (!([0, 1] : List Nat).contains k) true) (cond (Nat.blt c 2) (cond (Nat.beq c 1) (!([0, 1, 2, 3, 4, 5] : List Nat).contains k) true) (cond (Nat.beq c 2) (!([1] : List Nat).contains k) true))) (cond (Nat.blt c 5) (cond (Nat.blt c 4) (cond (Nat.beq c 3) (!([1, 2, 3, 4, 6, 7, 9, 10] : List Nat).contains k) true) (cond (Nat.beq c 4) (!([0, 1, 2] : List Nat).contains k) true)) (cond (Nat.blt c 6) (cond (Nat.beq c 5) (!([0, 1, 3, 4, 5, 6, 7] : List Nat).contains k) true) (cond (Nat.beq c 6) (!([0, 1, 2, 4, 6, 7, 10, 11, 12] : List Nat).contains k) true)))
abbrev NM : Nat := 164
abbrev k_A_init : Nat := 0
abbrev k_A_follow : Nat := 1
abbrev k_A_changeIn : Nat := 2
abbrev k_P_init : Nat := 3
abbrev k_P_prepare : Nat := 4
abbrev k_P_fillCosts : Nat := 5
abbrev k_P_useSpeed : Nat := 6
abbrev k_P_barOthers : Nat := 7
abbrev k_P_leastFromEnd : Nat := 8
abbrev k_P_fillRest : Nat := 9
abbrev k_P_leastOfLeaving : Nat := 10
abbrev k_P_longer : Nat := 11
abbrev k_P_leastFromStart : Nat := 12
abbrev k_P_fillHere : Nat := 13
abbrev k_P_leastOfEntering : Nat := 14
abbrev k_P_choose : Nat := 15
abbrev k_P_bestFirst : Nat := 16
abbrev k_P_bestNext : Nat := 17
abbrev k_R_init : Nat := 18
abbrev k_R_readItems : Nat := 19
abbrev k_R_readItem : Nat := 20
abbrev k_R_readNumber : Nat := 21
abbrev k_R_skipSpaces : Nat := 22
abbrev k_R_isDigit : Nat := 23
abbrev k_R_kindOf : Nat := 24
abbrev k_S_init : Nat := 25
abbrev k_S_copyFrom : Nat := 26
abbrev k_S_hasMouth : Nat := 27
abbrev k_S_hasSegment : Nat := 28
abbrev k_S_hasFrame : Nat := 29
abbrev k_S_hasRoomFor : Nat := 30
abbrev k_S_distanceOf : Nat := 31
abbrev k_S_jumpOf : Nat := 32
abbrev k_S_nearestOfAll : Nat := 33
abbrev k_S_nearestWithin : Nat := 34
abbrev k_S_wrongOf : Nat := 35
abbrev k_S_leastWrongFor : Nat := 36
abbrev k_S_countSet : Nat := 37
abbrev k_S_firstFrameOf : Nat := 38
abbrev k_S_segmentAt : Nat := 39
abbrev k_S_kindAt : Nat := 40
abbrev k_S_openSegment : Nat := 41
abbrev k_S_closeSegment : Nat := 42
abbrev k_S_openFrames : Nat := 43
abbrev k_S_closeFrames : Nat := 44
abbrev k_T_init : Nat := 45
abbrev k_T_copyFrom : Nat := 46
abbrev k_T_countTaken : Nat := 47
abbrev k_L_init : Nat := 48
abbrev k_L_addMouth : Nat := 49
abbrev k_L_setMouth : Nat := 50
abbrev k_L_setSound : Nat := 51
abbrev k_L_setNumber : Nat := 52
abbrev k_L_insert : Nat := 53
abbrev k_L_remove : Nat := 54
abbrev k_L_stretch : Nat := 55
abbrev k_L_pin : Nat := 56
abbrev k_L_draw : Nat := 57
abbrev k_L_between : Nat := 58
abbrev k_L_finish : Nat := 59
abbrev k_L_breathe : Nat := 60
abbrev k_L_take : Nat := 61
abbrev k_L_restore : Nat := 62
abbrev k_L_undo : Nat := 63
abbrev k_L_append : Nat := 64
abbrev k_L_clearText : Nat := 65
abbrev k_L_load : Nat := 66
abbrev k_L_count : Nat := 67
abbrev k_L_mouth : Nat := 68
abbrev k_L_jump : Nat := 69
abbrev k_L_sound : Nat := 70
abbrev k_L_number : Nat := 71
abbrev k_L_segment : Nat := 72
abbrev k_L_frame : Nat := 73
abbrev k_L_wrongness : Nat := 74
abbrev k_L_least : Nat := 75
abbrev k_L_leastWith : Nat := 76
abbrev k_L_why : Nat := 77
abbrev k_L_fault : Nat := 78
abbrev k_L_drawnSum : Nat := 79
abbrev k_L_speedFor : Nat := 80
abbrev k_L_nearest : Nat := 81
abbrev k_L_isOutside : Nat := 82
abbrev k_L_recordState : Nat := 83
abbrev k_L_partWay : Nat := 84
abbrev k_L_faultAt : Nat := 85
abbrev k_M_init : Nat := 86
abbrev k_M_in : Nat := 87
abbrev k_M_apart : Nat := 88
abbrev k_M_greater : Nat := 89
abbrev k_M_bring : Nat := 90
abbrev k_M_keep : Nat := 91
abbrev k_M_isMouth : Nat := 92
abbrev k_M_isSegment : Nat := 93
abbrev k_M_opening : Nat := 94
abbrev k_M_width : Nat := 95
abbrev k_M_farBetween : Nat := 96
abbrev k_M_kindOf : Nat := 97
abbrev k_M_framesOf : Nat := 98
abbrev k_M_setting : Nat := 99
abbrev k_M_firstOf : Nat := 100
abbrev k_M_frames : Nat := 101
abbrev k_M_isFrame : Nat := 102
abbrev k_M_segmentOf : Nat := 103
abbrev k_M_isSize : Nat := 104
abbrev k_M_addMouth : Nat := 105
abbrev k_M_setMouth : Nat := 106
abbrev k_M_setSound : Nat := 107
abbrev k_M_isSetting : Nat := 108
abbrev k_M_setNumber : Nat := 109
abbrev k_M_opens : Nat := 110
abbrev k_M_closes : Nat := 111
abbrev k_M_allOf : Nat := 112
abbrev k_M_inserts : Nat := 113
abbrev k_M_hasRoom : Nat := 114
abbrev k_M_insert : Nat := 115
abbrev k_M_remove : Nat := 116
abbrev k_M_stretch : Nat := 117
abbrev k_M_puts : Nat := 118
abbrev k_M_pin : Nat := 119
abbrev k_M_draw : Nat := 120
abbrev k_M_nearestTo : Nat := 121
abbrev k_M_between : Nat := 122
abbrev k_M_finish : Nat := 123
abbrev k_M_breathes : Nat := 124
abbrev k_M_segmentIn : Nat := 125
abbrev k_M_breathe : Nat := 126
abbrev k_M_take : Nat := 127
abbrev k_M_restore : Nat := 128
abbrev k_M_undo : Nat := 129
abbrev k_M_append : Nat := 130
abbrev k_M_clearText : Nat := 131
abbrev k_M_here : Nat := 132
abbrev k_M_overSpaces : Nat := 133
abbrev k_M_readNumber : Nat := 134
abbrev k_M_readItem : Nat := 135
abbrev k_M_load : Nat := 136
abbrev k_M_layKinds : Nat := 137
abbrev k_M_wrongBy : Nat := 138
abbrev k_M_cellOf : Nat := 139
abbrev k_M_behind : Nat := 140
abbrev k_M_findPlan : Nat := 141
abbrev k_M_lays : Nat := 142
abbrev k_M_manyOf : Nat := 143
abbrev k_M_manyGasps : Nat := 144
abbrev k_M_count : Nat := 145
abbrev k_M_mouth : Nat := 146
abbrev k_M_jump : Nat := 147
abbrev k_M_sound : Nat := 148
abbrev k_M_number : Nat := 149
abbrev k_M_segment : Nat := 150
abbrev k_M_orNone : Nat := 151
abbrev k_M_tellAir : Nat := 152
abbrev k_M_frame : Nat := 153
abbrev k_M_wrongness : Nat := 154
abbrev k_M_least : Nat := 155
abbrev k_M_leastWith : Nat := 156
abbrev k_M_why : Nat := 157
abbrev k_M_faultIn : Nat := 158
abbrev k_M_fault : Nat := 159
abbrev k_M_drawnSum : Nat := 160
abbrev k_M_speedFor : Nat := 161
abbrev k_M_nearest : Nat := 162
abbrev k_W_law : Nat := 163
def yM (k : Nat) : MethodName := cond (Nat.blt k 82) (cond (Nat.blt k 41) (cond (Nat.blt k 20) (cond (Nat.blt k 10) (cond (Nat.blt k 5) (cond (Nat.blt k 2) (cond (Nat.blt k 1) (cond (Nat.beq k 0) (⟨RN 0, "<init>", "()V"⟩) ⟨"", "", ""⟩) (cond (Nat.beq k 1) (⟨RN 0, "follow", "(LLipFlaps$Scene;)V"⟩) ⟨"", "", ""⟩)) (cond (Nat.blt k 3) (cond (Nat.beq k 2) (⟨RN 0, "changeIn", "(LLipFlaps$Scene;I)I"⟩) ⟨"", "", ""⟩) (cond (Nat.blt k 4) (cond (Nat.beq k 3) (⟨RN 1, "<init>", "()V"⟩) ⟨"", "", ""⟩) (cond (Nat.beq k 4) (⟨RN 1, "prepare", "(LLipFlaps$Scene;)V"⟩) ⟨"", "", ""⟩)))) (cond (Nat.blt k 7) (cond (Nat.blt k 6) (cond (Nat.beq k 5) (⟨RN 1, "fillCosts", "(LLipFlaps$Scene;II)V"⟩) ⟨"", "", ""⟩) (cond (Nat.beq k 6) (⟨RN 1, "useSpeed", "(LLipFlaps$Scene;I)V"⟩) ⟨"", "", ""⟩)) (cond (Nat.blt k 8) (cond (Nat.beq k 7) (⟨RN 1, "barOthers", "(II)V"⟩) ⟨"", "", ""⟩) (cond (Nat.blt k 9) (cond (Nat.beq k 8) (⟨RN 1, "leastFromEnd", "()I"⟩) ⟨"", "", ""⟩) (cond (Nat.beq k 9) (⟨RN 1, "fillRest", "(II)V"⟩) ⟨"", "", ""⟩))))) (cond (Nat.blt k 15) (cond (Nat.blt k 12) (cond (Nat.blt k 11) (cond (Nat.beq k 10) (⟨RN 1, "leastOfLeaving", "(II)I"⟩) ⟨"", "", ""⟩) (cond (Nat.beq k 11) (⟨RN 1, "longer", "(I)I"⟩) ⟨"", "", ""⟩)) (cond (Nat.blt k 13) (cond (Nat.beq k 12) (⟨RN 1, "leastFromStart", "()I"⟩) ⟨"", "", ""⟩) (cond (Nat.blt k 14) (cond (Nat.beq k 13) (⟨RN 1, "fillHere", "(II)V"⟩) ⟨"", "", ""⟩) (cond (Nat.beq k 14) (⟨RN 1, "leastOfEntering", "(I)I"⟩) ⟨"", "", ""⟩)))) (cond (Nat.blt k 17) (cond (Nat.blt k 16) (cond (Nat.beq k 15) (⟨RN 1, "choose", "()Z"⟩) ⟨"", "", ""⟩) (cond (Nat.beq k 16) (⟨RN 1, "bestFirst", "()I"⟩) ⟨"", "", ""⟩)) (cond (Nat.blt k 18) (cond (Nat.beq k 17) (⟨RN 1, "bestNext", "(III)I"⟩) ⟨"", "", ""⟩) (cond (Nat.blt k 19) (cond (Nat.beq k 18) (⟨RN 2, "<init>", "()V"⟩) ⟨"", "", ""⟩) (cond (Nat.beq k 19) (⟨RN 2, "readItems", "([IILLipFlaps$Scene;)I"⟩) ⟨"", "", ""⟩)))))) (cond (Nat.blt k 30) (cond (Nat.blt k 25) (cond (Nat.blt k 22) (cond (Nat.blt k 21) (cond (Nat.beq k 20) (⟨RN 2, "readItem", "(LLipFlaps$Scene;)V"⟩) ⟨"", "", ""⟩) (cond (Nat.beq k 21) (⟨RN 2, "readNumber", "(II)I"⟩) ⟨"", "", ""⟩)) (cond (Nat.blt k 23) (cond (Nat.beq k 22) (⟨RN 2, "skipSpaces", "()V"⟩) ⟨"", "", ""⟩) (cond (Nat.blt k 24) (cond (Nat.beq k 23) (⟨RN 2, "isDigit", "(I)Z"⟩) ⟨"", "", ""⟩) (cond (Nat.beq k 24) (⟨RN 2, "kindOf", "(I)I"⟩) ⟨"", "", ""⟩)))) (cond (Nat.blt k 27) (cond (Nat.blt k 26) (cond (Nat.beq k 25) (⟨RN 3, "<init>", "()V"⟩) ⟨"", "", ""⟩) (cond (Nat.beq k 26) (⟨RN 3, "copyFrom", "(LLipFlaps$Scene;)V"⟩) ⟨"", "", ""⟩)) (cond (Nat.blt k 28) (cond (Nat.beq k 27) (⟨RN 3, "hasMouth", "(I)Z"⟩) ⟨"", "", ""⟩) (cond (Nat.blt k 29) (cond (Nat.beq k 28) (⟨RN 3, "hasSegment", "(I)Z"⟩) ⟨"", "", ""⟩) (cond (Nat.beq k 29) (⟨RN 3, "hasFrame", "(I)Z"⟩) ⟨"", "", ""⟩))))) (cond (Nat.blt k 35) (cond (Nat.blt k 32) (cond (Nat.blt k 31) (cond (Nat.beq k 30) (⟨RN 3, "hasRoomFor", "(I)Z"⟩) ⟨"", "", ""⟩) (cond (Nat.beq k 31) (⟨RN 3, "distanceOf", "(III)I"⟩) ⟨"", "", ""⟩)) (cond (Nat.blt k 33) (cond (Nat.beq k 32) (⟨RN 3, "jumpOf", "(II)I"⟩) ⟨"", "", ""⟩) (cond (Nat.blt k 34) (cond (Nat.beq k 33) (⟨RN 3, "nearestOfAll", "(II)I"⟩) ⟨"", "", ""⟩) (cond (Nat.beq k 34) (⟨RN 3, "nearestWithin", "(III)I"⟩) ⟨"", "", ""⟩)))) (cond (Nat.blt k 38) (cond (Nat.blt k 36) (cond (Nat.beq k 35) (⟨RN 3, "wrongOf", "(II)I"⟩) ⟨"", "", ""⟩) (cond (Nat.blt k 37) (cond (Nat.beq k 36) (⟨RN 3, "leastWrongFor", "(I)I"⟩) ⟨"", "", ""⟩) (cond (Nat.beq k 37) (⟨RN 3, "countSet", "([I)I"⟩) ⟨"", "", ""⟩))) (cond (Nat.blt k 39) (cond (Nat.beq k 38) (⟨RN 3, "firstFrameOf", "(I)I"⟩) ⟨"", "", ""⟩) (cond (Nat.blt k 40) (cond (Nat.beq k 39) (⟨RN 3, "segmentAt", "(I)I"⟩) ⟨"", "", ""⟩) (cond (Nat.beq k 40) (⟨RN 3, "kindAt", "(I)I"⟩) ⟨"", "", ""⟩))))))) (cond (Nat.blt k 61) (cond (Nat.blt k 51) (cond (Nat.blt k 46) (cond (Nat.blt k 43) (cond (Nat.blt k 42) (cond (Nat.beq k 41) (⟨RN 3, "openSegment", "(III)V"⟩) ⟨"", "", ""⟩) (cond (Nat.beq k 42) (⟨RN 3, "closeSegment", "(I)V"⟩) ⟨"", "", ""⟩)) (cond (Nat.blt k 44) (cond (Nat.beq k 43) (⟨RN 3, "openFrames", "(II)V"⟩) ⟨"", "", ""⟩) (cond (Nat.blt k 45) (cond (Nat.beq k 44) (⟨RN 3, "closeFrames", "(II)V"⟩) ⟨"", "", ""⟩) (cond (Nat.beq k 45) (⟨RN 4, "<init>", "()V"⟩) ⟨"", "", ""⟩)))) (cond (Nat.blt k 48) (cond (Nat.blt k 47) (cond (Nat.beq k 46) (⟨RN 4, "copyFrom", "(LLipFlaps$State;)V"⟩) ⟨"", "", ""⟩) (cond (Nat.beq k 47) (⟨RN 4, "countTaken", "()I"⟩) ⟨"", "", ""⟩)) (cond (Nat.blt k 49) (cond (Nat.beq k 48) (⟨RN 5, "<init>", "()V"⟩) ⟨"", "", ""⟩) (cond (Nat.blt k 50) (cond (Nat.beq k 49) (⟨RN 5, "addMouth", "(II)I"⟩) ⟨"", "", ""⟩) (cond (Nat.beq k 50) (⟨RN 5, "setMouth", "(III)I"⟩) ⟨"", "", ""⟩))))) (cond (Nat.blt k 56) (cond (Nat.blt k 53) (cond (Nat.blt k 52) (cond (Nat.beq k 51) (⟨RN 5, "setSound", "(III)I"⟩) ⟨"", "", ""⟩) (cond (Nat.beq k 52) (⟨RN 5, "setNumber", "(II)I"⟩) ⟨"", "", ""⟩)) (cond (Nat.blt k 54) (cond (Nat.beq k 53) (⟨RN 5, "insert", "(III)I"⟩) ⟨"", "", ""⟩) (cond (Nat.blt k 55) (cond (Nat.beq k 54) (⟨RN 5, "remove", "(I)I"⟩) ⟨"", "", ""⟩) (cond (Nat.beq k 55) (⟨RN 5, "stretch", "(II)I"⟩) ⟨"", "", ""⟩)))) (cond (Nat.blt k 58) (cond (Nat.blt k 57) (cond (Nat.beq k 56) (⟨RN 5, "pin", "(II)I"⟩) ⟨"", "", ""⟩) (cond (Nat.beq k 57) (⟨RN 5, "draw", "(II)I"⟩) ⟨"", "", ""⟩)) (cond (Nat.blt k 59) (cond (Nat.beq k 58) (⟨RN 5, "between", "(II)I"⟩) ⟨"", "", ""⟩) (cond (Nat.blt k 60) (cond (Nat.beq k 59) (⟨RN 5, "finish", "()I"⟩) ⟨"", "", ""⟩) (cond (Nat.beq k 60) (⟨RN 5, "breathe", "(I)I"⟩) ⟨"", "", ""⟩)))))) (cond (Nat.blt k 71) (cond (Nat.blt k 66) (cond (Nat.blt k 63) (cond (Nat.blt k 62) (cond (Nat.beq k 61) (⟨RN 5, "take", "(I)I"⟩) ⟨"", "", ""⟩) (cond (Nat.beq k 62) (⟨RN 5, "restore", "(I)I"⟩) ⟨"", "", ""⟩)) (cond (Nat.blt k 64) (cond (Nat.beq k 63) (⟨RN 5, "undo", "()I"⟩) ⟨"", "", ""⟩) (cond (Nat.blt k 65) (cond (Nat.beq k 64) (⟨RN 5, "append", "(I)I"⟩) ⟨"", "", ""⟩) (cond (Nat.beq k 65) (⟨RN 5, "clearText", "()I"⟩) ⟨"", "", ""⟩)))) (cond (Nat.blt k 68) (cond (Nat.blt k 67) (cond (Nat.beq k 66) (⟨RN 5, "load", "()I"⟩) ⟨"", "", ""⟩) (cond (Nat.beq k 67) (⟨RN 5, "count", "(I)I"⟩) ⟨"", "", ""⟩)) (cond (Nat.blt k 69) (cond (Nat.beq k 68) (⟨RN 5, "mouth", "(II)I"⟩) ⟨"", "", ""⟩) (cond (Nat.blt k 70) (cond (Nat.beq k 69) (⟨RN 5, "jump", "(II)I"⟩) ⟨"", "", ""⟩) (cond (Nat.beq k 70) (⟨RN 5, "sound", "(II)I"⟩) ⟨"", "", ""⟩))))) (cond (Nat.blt k 76) (cond (Nat.blt k 73) (cond (Nat.blt k 72) (cond (Nat.beq k 71) (⟨RN 5, "number", "(I)I"⟩) ⟨"", "", ""⟩) (cond (Nat.beq k 72) (⟨RN 5, "segment", "(II)I"⟩) ⟨"", "", ""⟩)) (cond (Nat.blt k 74) (cond (Nat.beq k 73) (⟨RN 5, "frame", "(II)I"⟩) ⟨"", "", ""⟩) (cond (Nat.blt k 75) (cond (Nat.beq k 74) (⟨RN 5, "wrongness", "(II)I"⟩) ⟨"", "", ""⟩) (cond (Nat.beq k 75) (⟨RN 5, "least", "(I)I"⟩) ⟨"", "", ""⟩)))) (cond (Nat.blt k 79) (cond (Nat.blt k 77) (cond (Nat.beq k 76) (⟨RN 5, "leastWith", "(II)I"⟩) ⟨"", "", ""⟩) (cond (Nat.blt k 78) (cond (Nat.beq k 77) (⟨RN 5, "why", "(I)I"⟩) ⟨"", "", ""⟩) (cond (Nat.beq k 78) (⟨RN 5, "fault", "(I)I"⟩) ⟨"", "", ""⟩))) (cond (Nat.blt k 80) (cond (Nat.beq k 79) (⟨RN 5, "drawnSum", "()I"⟩) ⟨"", "", ""⟩) (cond (Nat.blt k 81) (cond (Nat.beq k 80) (⟨RN 5, "speedFor", "(I)I"⟩) ⟨"", "", ""⟩) (cond (Nat.beq k 81) (⟨RN 5, "nearest", "(II)I"⟩) ⟨"", "", ""⟩)))))))) (cond (Nat.blt k 123) (cond (Nat.blt k 102) (cond (Nat.blt k 92) (cond (Nat.blt k 87) (cond (Nat.blt k 84) (cond (Nat.blt k 83) (cond (Nat.beq k 82) (⟨RN 5, "isOutside", "(III)Z"⟩) ⟨"", "", ""⟩) (cond (Nat.beq k 83) (⟨RN 5, "recordState", "()V"⟩) ⟨"", "", ""⟩)) (cond (Nat.blt k 85) (cond (Nat.beq k 84) (⟨RN 5, "partWay", "(IIII)I"⟩) ⟨"", "", ""⟩) (cond (Nat.blt k 86) (cond (Nat.beq k 85) (⟨RN 5, "faultAt", "(LLipFlaps$Scene;II)I"⟩) ⟨"", "", ""⟩) (cond (Nat.beq k 86) (⟨RN 6, "<init>", "()V"⟩) ⟨"", "", ""⟩)))) (cond (Nat.blt k 89) (cond (Nat.blt k 88) (cond (Nat.beq k 87) (⟨RN 6, "in", "(III)Z"⟩) ⟨"", "", ""⟩) (cond (Nat.beq k 88) (⟨RN 6, "apart", "(II)I"⟩) ⟨"", "", ""⟩)) (cond (Nat.blt k 90) (cond (Nat.beq k 89) (⟨RN 6, "greater", "(II)I"⟩) ⟨"", "", ""⟩) (cond (Nat.blt k 91) (cond (Nat.beq k 90) (⟨RN 6, "bring", "([II[III)V"⟩) ⟨"", "", ""⟩) (cond (Nat.beq k 91) (⟨RN 6, "keep", "()V"⟩) ⟨"", "", ""⟩))))) (cond (Nat.blt k 97) (cond (Nat.blt k 94) (cond (Nat.blt k 93) (cond (Nat.beq k 92) (⟨RN 6, "isMouth", "(I)Z"⟩) ⟨"", "", ""⟩) (cond (Nat.beq k 93) (⟨RN 6, "isSegment", "(I)Z"⟩) ⟨"", "", ""⟩)) (cond (Nat.blt k 95) (cond (Nat.beq k 94) (⟨RN 6, "opening", "(I)I"⟩) ⟨"", "", ""⟩) (cond (Nat.blt k 96) (cond (Nat.beq k 95) (⟨RN 6, "width", "(I)I"⟩) ⟨"", "", ""⟩) (cond (Nat.beq k 96) (⟨RN 6, "farBetween", "(II)I"⟩) ⟨"", "", ""⟩)))) (cond (Nat.blt k 99) (cond (Nat.blt k 98) (cond (Nat.beq k 97) (⟨RN 6, "kindOf", "(I)I"⟩) ⟨"", "", ""⟩) (cond (Nat.beq k 98) (⟨RN 6, "framesOf", "(I)I"⟩) ⟨"", "", ""⟩)) (cond (Nat.blt k 100) (cond (Nat.beq k 99) (⟨RN 6, "setting", "(I)I"⟩) ⟨"", "", ""⟩) (cond (Nat.blt k 101) (cond (Nat.beq k 100) (⟨RN 6, "firstOf", "(I)I"⟩) ⟨"", "", ""⟩) (cond (Nat.beq k 101) (⟨RN 6, "frames", "()I"⟩) ⟨"", "", ""⟩)))))) (cond (Nat.blt k 112) (cond (Nat.blt k 107) (cond (Nat.blt k 104) (cond (Nat.blt k 103) (cond (Nat.beq k 102) (⟨RN 6, "isFrame", "(I)Z"⟩) ⟨"", "", ""⟩) (cond (Nat.beq k 103) (⟨RN 6, "segmentOf", "(I)I"⟩) ⟨"", "", ""⟩)) (cond (Nat.blt k 105) (cond (Nat.beq k 104) (⟨RN 6, "isSize", "(I)Z"⟩) ⟨"", "", ""⟩) (cond (Nat.blt k 106) (cond (Nat.beq k 105) (⟨RN 6, "addMouth", "(II)I"⟩) ⟨"", "", ""⟩) (cond (Nat.beq k 106) (⟨RN 6, "setMouth", "(III)I"⟩) ⟨"", "", ""⟩)))) (cond (Nat.blt k 109) (cond (Nat.blt k 108) (cond (Nat.beq k 107) (⟨RN 6, "setSound", "(III)I"⟩) ⟨"", "", ""⟩) (cond (Nat.beq k 108) (⟨RN 6, "isSetting", "(II)Z"⟩) ⟨"", "", ""⟩)) (cond (Nat.blt k 110) (cond (Nat.beq k 109) (⟨RN 6, "setNumber", "(II)I"⟩) ⟨"", "", ""⟩) (cond (Nat.blt k 111) (cond (Nat.beq k 110) (⟨RN 6, "opens", "([IIII)V"⟩) ⟨"", "", ""⟩) (cond (Nat.beq k 111) (⟨RN 6, "closes", "([IIII)V"⟩) ⟨"", "", ""⟩))))) (cond (Nat.blt k 117) (cond (Nat.blt k 114) (cond (Nat.blt k 113) (cond (Nat.beq k 112) (⟨RN 6, "allOf", "([I)I"⟩) ⟨"", "", ""⟩) (cond (Nat.beq k 113) (⟨RN 6, "inserts", "([IIII)V"⟩) ⟨"", "", ""⟩)) (cond (Nat.blt k 115) (cond (Nat.beq k 114) (⟨RN 6, "hasRoom", "([II)Z"⟩) ⟨"", "", ""⟩) (cond (Nat.blt k 116) (cond (Nat.beq k 115) (⟨RN 6, "insert", "(III)I"⟩) ⟨"", "", ""⟩) (cond (Nat.beq k 116) (⟨RN 6, "remove", "(I)I"⟩) ⟨"", "", ""⟩)))) (cond (Nat.blt k 120) (cond (Nat.blt k 118) (cond (Nat.beq k 117) (⟨RN 6, "stretch", "(II)I"⟩) ⟨"", "", ""⟩) (cond (Nat.blt k 119) (cond (Nat.beq k 118) (⟨RN 6, "puts", "(III)I"⟩) ⟨"", "", ""⟩) (cond (Nat.beq k 119) (⟨RN 6, "pin", "(II)I"⟩) ⟨"", "", ""⟩))) (cond (Nat.blt k 121) (cond (Nat.beq k 120) (⟨RN 6, "draw", "(II)I"⟩) ⟨"", "", ""⟩) (cond (Nat.blt k 122) (cond (Nat.beq k 121) (⟨RN 6, "nearestTo", "(III)I"⟩) ⟨"", "", ""⟩) (cond (Nat.beq k 122) (⟨RN 6, "between", "(II)I"⟩) ⟨"", "", ""⟩))))))) (cond (Nat.blt k 143) (cond (Nat.blt k 133) (cond (Nat.blt k 128) (cond (Nat.blt k 125) (cond (Nat.blt k 124) (cond (Nat.beq k 123) (⟨RN 6, "finish", "()I"⟩) ⟨"", "", ""⟩) (cond (Nat.beq k 124) (⟨RN 6, "breathes", "([I)I"⟩) ⟨"", "", ""⟩)) (cond (Nat.blt k 126) (cond (Nat.beq k 125) (⟨RN 6, "segmentIn", "([II)I"⟩) ⟨"", "", ""⟩) (cond (Nat.blt k 127) (cond (Nat.beq k 126) (⟨RN 6, "breathe", "(I)I"⟩) ⟨"", "", ""⟩) (cond (Nat.beq k 127) (⟨RN 6, "take", "(I)I"⟩) ⟨"", "", ""⟩)))) (cond (Nat.blt k 130) (cond (Nat.blt k 129) (cond (Nat.beq k 128) (⟨RN 6, "restore", "(I)I"⟩) ⟨"", "", ""⟩) (cond (Nat.beq k 129) (⟨RN 6, "undo", "()I"⟩) ⟨"", "", ""⟩)) (cond (Nat.blt k 131) (cond (Nat.beq k 130) (⟨RN 6, "append", "(I)I"⟩) ⟨"", "", ""⟩) (cond (Nat.blt k 132) (cond (Nat.beq k 131) (⟨RN 6, "clearText", "()I"⟩) ⟨"", "", ""⟩) (cond (Nat.beq k 132) (⟨RN 6, "here", "()I"⟩) ⟨"", "", ""⟩))))) (cond (Nat.blt k 138) (cond (Nat.blt k 135) (cond (Nat.blt k 134) (cond (Nat.beq k 133) (⟨RN 6, "overSpaces", "()V"⟩) ⟨"", "", ""⟩) (cond (Nat.beq k 134) (⟨RN 6, "readNumber", "(II)Z"⟩) ⟨"", "", ""⟩)) (cond (Nat.blt k 136) (cond (Nat.beq k 135) (⟨RN 6, "readItem", "()Z"⟩) ⟨"", "", ""⟩) (cond (Nat.blt k 137) (cond (Nat.beq k 136) (⟨RN 6, "load", "()I"⟩) ⟨"", "", ""⟩) (cond (Nat.beq k 137) (⟨RN 6, "layKinds", "()V"⟩) ⟨"", "", ""⟩)))) (cond (Nat.blt k 140) (cond (Nat.blt k 139) (cond (Nat.beq k 138) (⟨RN 6, "wrongBy", "(II)I"⟩) ⟨"", "", ""⟩) (cond (Nat.beq k 139) (⟨RN 6, "cellOf", "(III)I"⟩) ⟨"", "", ""⟩)) (cond (Nat.blt k 141) (cond (Nat.beq k 140) (⟨RN 6, "behind", "(IIIII)I"⟩) ⟨"", "", ""⟩) (cond (Nat.blt k 142) (cond (Nat.beq k 141) (⟨RN 6, "findPlan", "(III)I"⟩) ⟨"", "", ""⟩) (cond (Nat.beq k 142) (⟨RN 6, "lays", "(II)I"⟩) ⟨"", "", ""⟩)))))) (cond (Nat.blt k 153) (cond (Nat.blt k 148) (cond (Nat.blt k 145) (cond (Nat.blt k 144) (cond (Nat.beq k 143) (⟨RN 6, "manyOf", "(I)I"⟩) ⟨"", "", ""⟩) (cond (Nat.beq k 144) (⟨RN 6, "manyGasps", "()I"⟩) ⟨"", "", ""⟩)) (cond (Nat.blt k 146) (cond (Nat.beq k 145) (⟨RN 6, "count", "(I)I"⟩) ⟨"", "", ""⟩) (cond (Nat.blt k 147) (cond (Nat.beq k 146) (⟨RN 6, "mouth", "(II)I"⟩) ⟨"", "", ""⟩) (cond (Nat.beq k 147) (⟨RN 6, "jump", "(II)I"⟩) ⟨"", "", ""⟩)))) (cond (Nat.blt k 150) (cond (Nat.blt k 149) (cond (Nat.beq k 148) (⟨RN 6, "sound", "(II)I"⟩) ⟨"", "", ""⟩) (cond (Nat.beq k 149) (⟨RN 6, "number", "(I)I"⟩) ⟨"", "", ""⟩)) (cond (Nat.blt k 151) (cond (Nat.beq k 150) (⟨RN 6, "segment", "(II)I"⟩) ⟨"", "", ""⟩) (cond (Nat.blt k 152) (cond (Nat.beq k 151) (⟨RN 6, "orNone", "(I)I"⟩) ⟨"", "", ""⟩) (cond (Nat.beq k 152) (⟨RN 6, "tellAir", "(II)I"⟩) ⟨"", "", ""⟩))))) (cond (Nat.blt k 158) (cond (Nat.blt k 155) (cond (Nat.blt k 154) (cond (Nat.beq k 153) (⟨RN 6, "frame", "(II)I"⟩) ⟨"", "", ""⟩) (cond (Nat.beq k 154) (⟨RN 6, "wrongness", "(II)I"⟩) ⟨"", "", ""⟩)) (cond (Nat.blt k 156) (cond (Nat.beq k 155) (⟨RN 6, "least", "(I)I"⟩) ⟨"", "", ""⟩) (cond (Nat.blt k 157) (cond (Nat.beq k 156) (⟨RN 6, "leastWith", "(II)I"⟩) ⟨"", "", ""⟩) (cond (Nat.beq k 157) (⟨RN 6, "why", "(I)I"⟩) ⟨"", "", ""⟩)))) (cond (Nat.blt k 161) (cond (Nat.blt k 159) (cond (Nat.beq k 158) (⟨RN 6, "faultIn", "(I)I"⟩) ⟨"", "", ""⟩) (cond (Nat.blt k 160) (cond (Nat.beq k 159) (⟨RN 6, "fault", "(I)I"⟩) ⟨"", "", ""⟩) (cond (Nat.beq k 160) (⟨RN 6, "drawnSum", "()I"⟩) ⟨"", "", ""⟩))) (cond (Nat.blt k 162) (cond (Nat.beq k 161) (⟨RN 6, "speedFor", "(I)I"⟩) ⟨"", "", ""⟩) (cond (Nat.blt k 163) (cond (Nat.beq k 162) (⟨RN 6, "nearest", "(II)I"⟩) ⟨"", "", ""⟩) (cond (Nat.beq k 163) (⟨RN 7, "law", "([I)Z"⟩) ⟨"", "", ""⟩))))))))
def byM (k : Nat) : ByteArray := cond (Nat.blt k 82) (cond (Nat.blt k 41) (cond (Nat.blt k 20) (cond (Nat.blt k 10) (cond (Nat.blt k 5) (cond (Nat.blt k 2) (cond (Nat.blt k 1) (cond (Nat.beq k 0) prog_2_method_1_code ⟨#[]⟩) (cond (Nat.beq k 1) prog_2_method_2_code ⟨#[]⟩)) (cond (Nat.blt k 3) (cond (Nat.beq k 2) prog_2_method_3_code ⟨#[]⟩) (cond (Nat.blt k 4) (cond (Nat.beq k 3) prog_3_method_1_code ⟨#[]⟩) (cond (Nat.beq k 4) prog_3_method_2_code ⟨#[]⟩)))) (cond (Nat.blt k 7) (cond (Nat.blt k 6) (cond (Nat.beq k 5) prog_3_method_3_code ⟨#[]⟩) (cond (Nat.beq k 6) prog_3_method_4_code ⟨#[]⟩)) (cond (Nat.blt k 8) (cond (Nat.beq k 7) prog_3_method_5_code ⟨#[]⟩) (cond (Nat.blt k 9) (cond (Nat.beq k 8) prog_3_method_6_code ⟨#[]⟩) (cond (Nat.beq k 9) prog_3_method_7_code ⟨#[]⟩))))) (cond (Nat.blt k 15) (cond (Nat.blt k 12) (cond (Nat.blt k 11) (cond (Nat.beq k 10) prog_3_method_8_code ⟨#[]⟩) (cond (Nat.beq k 11) prog_3_method_9_code ⟨#[]⟩)) (cond (Nat.blt k 13) (cond (Nat.beq k 12) prog_3_method_10_code ⟨#[]⟩) (cond (Nat.blt k 14) (cond (Nat.beq k 13) prog_3_method_11_code ⟨#[]⟩) (cond (Nat.beq k 14) prog_3_method_12_code ⟨#[]⟩)))) (cond (Nat.blt k 17) (cond (Nat.blt k 16) (cond (Nat.beq k 15) prog_3_method_13_code ⟨#[]⟩) (cond (Nat.beq k 16) prog_3_method_14_code ⟨#[]⟩)) (cond (Nat.blt k 18) (cond (Nat.beq k 17) prog_3_method_15_code ⟨#[]⟩) (cond (Nat.blt k 19) (cond (Nat.beq k 18) prog_4_method_1_code ⟨#[]⟩) (cond (Nat.beq k 19) prog_4_method_2_code ⟨#[]⟩)))))) (cond (Nat.blt k 30) (cond (Nat.blt k 25) (cond (Nat.blt k 22) (cond (Nat.blt k 21) (cond (Nat.beq k 20) prog_4_method_3_code ⟨#[]⟩) (cond (Nat.beq k 21) prog_4_method_4_code ⟨#[]⟩)) (cond (Nat.blt k 23) (cond (Nat.beq k 22) prog_4_method_5_code ⟨#[]⟩) (cond (Nat.blt k 24) (cond (Nat.beq k 23) prog_4_method_6_code ⟨#[]⟩) (cond (Nat.beq k 24) prog_4_method_7_code ⟨#[]⟩)))) (cond (Nat.blt k 27) (cond (Nat.blt k 26) (cond (Nat.beq k 25) prog_5_method_1_code ⟨#[]⟩) (cond (Nat.beq k 26) prog_5_method_2_code ⟨#[]⟩)) (cond (Nat.blt k 28) (cond (Nat.beq k 27) prog_5_method_3_code ⟨#[]⟩) (cond (Nat.blt k 29) (cond (Nat.beq k 28) prog_5_method_4_code ⟨#[]⟩) (cond (Nat.beq k 29) prog_5_method_5_code ⟨#[]⟩))))) (cond (Nat.blt k 35) (cond (Nat.blt k 32) (cond (Nat.blt k 31) (cond (Nat.beq k 30) prog_5_method_6_code ⟨#[]⟩) (cond (Nat.beq k 31) prog_5_method_7_code ⟨#[]⟩)) (cond (Nat.blt k 33) (cond (Nat.beq k 32) prog_5_method_8_code ⟨#[]⟩) (cond (Nat.blt k 34) (cond (Nat.beq k 33) prog_5_method_9_code ⟨#[]⟩) (cond (Nat.beq k 34) prog_5_method_10_code ⟨#[]⟩)))) (cond (Nat.blt k 38) (cond (Nat.blt k 36) (cond (Nat.beq k 35) prog_5_method_11_code ⟨#[]⟩) (cond (Nat.blt k 37) (cond (Nat.beq k 36) prog_5_method_12_code ⟨#[]⟩) (cond (Nat.beq k 37) prog_5_method_13_code ⟨#[]⟩))) (cond (Nat.blt k 39) (cond (Nat.beq k 38) prog_5_method_14_code ⟨#[]⟩) (cond (Nat.blt k 40) (cond (Nat.beq k 39) prog_5_method_15_code ⟨#[]⟩) (cond (Nat.beq k 40) prog_5_method_16_code ⟨#[]⟩))))))) (cond (Nat.blt k 61) (cond (Nat.blt k 51) (cond (Nat.blt k 46) (cond (Nat.blt k 43) (cond (Nat.blt k 42) (cond (Nat.beq k 41) prog_5_method_17_code ⟨#[]⟩) (cond (Nat.beq k 42) prog_5_method_18_code ⟨#[]⟩)) (cond (Nat.blt k 44) (cond (Nat.beq k 43) prog_5_method_19_code ⟨#[]⟩) (cond (Nat.blt k 45) (cond (Nat.beq k 44) prog_5_method_20_code ⟨#[]⟩) (cond (Nat.beq k 45) prog_6_method_1_code ⟨#[]⟩)))) (cond (Nat.blt k 48) (cond (Nat.blt k 47) (cond (Nat.beq k 46) prog_6_method_2_code ⟨#[]⟩) (cond (Nat.beq k 47) prog_6_method_3_code ⟨#[]⟩)) (cond (Nat.blt k 49) (cond (Nat.beq k 48) prog_1_method_1_code ⟨#[]⟩) (cond (Nat.blt k 50) (cond (Nat.beq k 49) prog_1_method_2_code ⟨#[]⟩) (cond (Nat.beq k 50) prog_1_method_3_code ⟨#[]⟩))))) (cond (Nat.blt k 56) (cond (Nat.blt k 53) (cond (Nat.blt k 52) (cond (Nat.beq k 51) prog_1_method_4_code ⟨#[]⟩) (cond (Nat.beq k 52) prog_1_method_5_code ⟨#[]⟩)) (cond (Nat.blt k 54) (cond (Nat.beq k 53) prog_1_method_6_code ⟨#[]⟩) (cond (Nat.blt k 55) (cond (Nat.beq k 54) prog_1_method_7_code ⟨#[]⟩) (cond (Nat.beq k 55) prog_1_method_8_code ⟨#[]⟩)))) (cond (Nat.blt k 58) (cond (Nat.blt k 57) (cond (Nat.beq k 56) prog_1_method_9_code ⟨#[]⟩) (cond (Nat.beq k 57) prog_1_method_10_code ⟨#[]⟩)) (cond (Nat.blt k 59) (cond (Nat.beq k 58) prog_1_method_11_code ⟨#[]⟩) (cond (Nat.blt k 60) (cond (Nat.beq k 59) prog_1_method_12_code ⟨#[]⟩) (cond (Nat.beq k 60) prog_1_method_13_code ⟨#[]⟩)))))) (cond (Nat.blt k 71) (cond (Nat.blt k 66) (cond (Nat.blt k 63) (cond (Nat.blt k 62) (cond (Nat.beq k 61) prog_1_method_14_code ⟨#[]⟩) (cond (Nat.beq k 62) prog_1_method_15_code ⟨#[]⟩)) (cond (Nat.blt k 64) (cond (Nat.beq k 63) prog_1_method_16_code ⟨#[]⟩) (cond (Nat.blt k 65) (cond (Nat.beq k 64) prog_1_method_17_code ⟨#[]⟩) (cond (Nat.beq k 65) prog_1_method_18_code ⟨#[]⟩)))) (cond (Nat.blt k 68) (cond (Nat.blt k 67) (cond (Nat.beq k 66) prog_1_method_19_code ⟨#[]⟩) (cond (Nat.beq k 67) prog_1_method_20_code ⟨#[]⟩)) (cond (Nat.blt k 69) (cond (Nat.beq k 68) prog_1_method_21_code ⟨#[]⟩) (cond (Nat.blt k 70) (cond (Nat.beq k 69) prog_1_method_22_code ⟨#[]⟩) (cond (Nat.beq k 70) prog_1_method_23_code ⟨#[]⟩))))) (cond (Nat.blt k 76) (cond (Nat.blt k 73) (cond (Nat.blt k 72) (cond (Nat.beq k 71) prog_1_method_24_code ⟨#[]⟩) (cond (Nat.beq k 72) prog_1_method_25_code ⟨#[]⟩)) (cond (Nat.blt k 74) (cond (Nat.beq k 73) prog_1_method_26_code ⟨#[]⟩) (cond (Nat.blt k 75) (cond (Nat.beq k 74) prog_1_method_27_code ⟨#[]⟩) (cond (Nat.beq k 75) prog_1_method_28_code ⟨#[]⟩)))) (cond (Nat.blt k 79) (cond (Nat.blt k 77) (cond (Nat.beq k 76) prog_1_method_29_code ⟨#[]⟩) (cond (Nat.blt k 78) (cond (Nat.beq k 77) prog_1_method_30_code ⟨#[]⟩) (cond (Nat.beq k 78) prog_1_method_31_code ⟨#[]⟩))) (cond (Nat.blt k 80) (cond (Nat.beq k 79) prog_1_method_32_code ⟨#[]⟩) (cond (Nat.blt k 81) (cond (Nat.beq k 80) prog_1_method_33_code ⟨#[]⟩) (cond (Nat.beq k 81) prog_1_method_34_code ⟨#[]⟩)))))))) (cond (Nat.blt k 123) (cond (Nat.blt k 102) (cond (Nat.blt k 92) (cond (Nat.blt k 87) (cond (Nat.blt k 84) (cond (Nat.blt k 83) (cond (Nat.beq k 82) prog_1_method_35_code ⟨#[]⟩) (cond (Nat.beq k 83) prog_1_method_36_code ⟨#[]⟩)) (cond (Nat.blt k 85) (cond (Nat.beq k 84) prog_1_method_37_code ⟨#[]⟩) (cond (Nat.blt k 86) (cond (Nat.beq k 85) prog_1_method_38_code ⟨#[]⟩) (cond (Nat.beq k 86) prog_8_method_1_code ⟨#[]⟩)))) (cond (Nat.blt k 89) (cond (Nat.blt k 88) (cond (Nat.beq k 87) prog_8_method_3_code ⟨#[]⟩) (cond (Nat.beq k 88) prog_8_method_4_code ⟨#[]⟩)) (cond (Nat.blt k 90) (cond (Nat.beq k 89) prog_8_method_5_code ⟨#[]⟩) (cond (Nat.blt k 91) (cond (Nat.beq k 90) prog_8_method_6_code ⟨#[]⟩) (cond (Nat.beq k 91) prog_8_method_7_code ⟨#[]⟩))))) (cond (Nat.blt k 97) (cond (Nat.blt k 94) (cond (Nat.blt k 93) (cond (Nat.beq k 92) prog_8_method_8_code ⟨#[]⟩) (cond (Nat.beq k 93) prog_8_method_9_code ⟨#[]⟩)) (cond (Nat.blt k 95) (cond (Nat.beq k 94) prog_8_method_10_code ⟨#[]⟩) (cond (Nat.blt k 96) (cond (Nat.beq k 95) prog_8_method_11_code ⟨#[]⟩) (cond (Nat.beq k 96) prog_8_method_12_code ⟨#[]⟩)))) (cond (Nat.blt k 99) (cond (Nat.blt k 98) (cond (Nat.beq k 97) prog_8_method_13_code ⟨#[]⟩) (cond (Nat.beq k 98) prog_8_method_14_code ⟨#[]⟩)) (cond (Nat.blt k 100) (cond (Nat.beq k 99) prog_8_method_15_code ⟨#[]⟩) (cond (Nat.blt k 101) (cond (Nat.beq k 100) prog_8_method_16_code ⟨#[]⟩) (cond (Nat.beq k 101) prog_8_method_17_code ⟨#[]⟩)))))) (cond (Nat.blt k 112) (cond (Nat.blt k 107) (cond (Nat.blt k 104) (cond (Nat.blt k 103) (cond (Nat.beq k 102) prog_8_method_18_code ⟨#[]⟩) (cond (Nat.beq k 103) prog_8_method_19_code ⟨#[]⟩)) (cond (Nat.blt k 105) (cond (Nat.beq k 104) prog_8_method_20_code ⟨#[]⟩) (cond (Nat.blt k 106) (cond (Nat.beq k 105) prog_8_method_21_code ⟨#[]⟩) (cond (Nat.beq k 106) prog_8_method_22_code ⟨#[]⟩)))) (cond (Nat.blt k 109) (cond (Nat.blt k 108) (cond (Nat.beq k 107) prog_8_method_23_code ⟨#[]⟩) (cond (Nat.beq k 108) prog_8_method_24_code ⟨#[]⟩)) (cond (Nat.blt k 110) (cond (Nat.beq k 109) prog_8_method_25_code ⟨#[]⟩) (cond (Nat.blt k 111) (cond (Nat.beq k 110) prog_8_method_26_code ⟨#[]⟩) (cond (Nat.beq k 111) prog_8_method_27_code ⟨#[]⟩))))) (cond (Nat.blt k 117) (cond (Nat.blt k 114) (cond (Nat.blt k 113) (cond (Nat.beq k 112) prog_8_method_28_code ⟨#[]⟩) (cond (Nat.beq k 113) prog_8_method_29_code ⟨#[]⟩)) (cond (Nat.blt k 115) (cond (Nat.beq k 114) prog_8_method_30_code ⟨#[]⟩) (cond (Nat.blt k 116) (cond (Nat.beq k 115) prog_8_method_31_code ⟨#[]⟩) (cond (Nat.beq k 116) prog_8_method_32_code ⟨#[]⟩)))) (cond (Nat.blt k 120) (cond (Nat.blt k 118) (cond (Nat.beq k 117) prog_8_method_33_code ⟨#[]⟩) (cond (Nat.blt k 119) (cond (Nat.beq k 118) prog_8_method_34_code ⟨#[]⟩) (cond (Nat.beq k 119) prog_8_method_35_code ⟨#[]⟩))) (cond (Nat.blt k 121) (cond (Nat.beq k 120) prog_8_method_36_code ⟨#[]⟩) (cond (Nat.blt k 122) (cond (Nat.beq k 121) prog_8_method_37_code ⟨#[]⟩) (cond (Nat.beq k 122) prog_8_method_38_code ⟨#[]⟩))))))) (cond (Nat.blt k 143) (cond (Nat.blt k 133) (cond (Nat.blt k 128) (cond (Nat.blt k 125) (cond (Nat.blt k 124) (cond (Nat.beq k 123) prog_8_method_39_code ⟨#[]⟩) (cond (Nat.beq k 124) prog_8_method_40_code ⟨#[]⟩)) (cond (Nat.blt k 126) (cond (Nat.beq k 125) prog_8_method_41_code ⟨#[]⟩) (cond (Nat.blt k 127) (cond (Nat.beq k 126) prog_8_method_42_code ⟨#[]⟩) (cond (Nat.beq k 127) prog_8_method_43_code ⟨#[]⟩)))) (cond (Nat.blt k 130) (cond (Nat.blt k 129) (cond (Nat.beq k 128) prog_8_method_44_code ⟨#[]⟩) (cond (Nat.beq k 129) prog_8_method_45_code ⟨#[]⟩)) (cond (Nat.blt k 131) (cond (Nat.beq k 130) prog_8_method_46_code ⟨#[]⟩) (cond (Nat.blt k 132) (cond (Nat.beq k 131) prog_8_method_47_code ⟨#[]⟩) (cond (Nat.beq k 132) prog_8_method_48_code ⟨#[]⟩))))) (cond (Nat.blt k 138) (cond (Nat.blt k 135) (cond (Nat.blt k 134) (cond (Nat.beq k 133) prog_8_method_49_code ⟨#[]⟩) (cond (Nat.beq k 134) prog_8_method_50_code ⟨#[]⟩)) (cond (Nat.blt k 136) (cond (Nat.beq k 135) prog_8_method_51_code ⟨#[]⟩) (cond (Nat.blt k 137) (cond (Nat.beq k 136) prog_8_method_52_code ⟨#[]⟩) (cond (Nat.beq k 137) prog_8_method_53_code ⟨#[]⟩)))) (cond (Nat.blt k 140) (cond (Nat.blt k 139) (cond (Nat.beq k 138) prog_8_method_54_code ⟨#[]⟩) (cond (Nat.beq k 139) prog_8_method_55_code ⟨#[]⟩)) (cond (Nat.blt k 141) (cond (Nat.beq k 140) prog_8_method_56_code ⟨#[]⟩) (cond (Nat.blt k 142) (cond (Nat.beq k 141) prog_8_method_57_code ⟨#[]⟩) (cond (Nat.beq k 142) prog_8_method_58_code ⟨#[]⟩)))))) (cond (Nat.blt k 153) (cond (Nat.blt k 148) (cond (Nat.blt k 145) (cond (Nat.blt k 144) (cond (Nat.beq k 143) prog_8_method_59_code ⟨#[]⟩) (cond (Nat.beq k 144) prog_8_method_60_code ⟨#[]⟩)) (cond (Nat.blt k 146) (cond (Nat.beq k 145) prog_8_method_61_code ⟨#[]⟩) (cond (Nat.blt k 147) (cond (Nat.beq k 146) prog_8_method_62_code ⟨#[]⟩) (cond (Nat.beq k 147) prog_8_method_63_code ⟨#[]⟩)))) (cond (Nat.blt k 150) (cond (Nat.blt k 149) (cond (Nat.beq k 148) prog_8_method_64_code ⟨#[]⟩) (cond (Nat.beq k 149) prog_8_method_65_code ⟨#[]⟩)) (cond (Nat.blt k 151) (cond (Nat.beq k 150) prog_8_method_66_code ⟨#[]⟩) (cond (Nat.blt k 152) (cond (Nat.beq k 151) prog_8_method_67_code ⟨#[]⟩) (cond (Nat.beq k 152) prog_8_method_68_code ⟨#[]⟩))))) (cond (Nat.blt k 158) (cond (Nat.blt k 155) (cond (Nat.blt k 154) (cond (Nat.beq k 153) prog_8_method_69_code ⟨#[]⟩) (cond (Nat.beq k 154) prog_8_method_70_code ⟨#[]⟩)) (cond (Nat.blt k 156) (cond (Nat.beq k 155) prog_8_method_71_code ⟨#[]⟩) (cond (Nat.blt k 157) (cond (Nat.beq k 156) prog_8_method_72_code ⟨#[]⟩) (cond (Nat.beq k 157) prog_8_method_73_code ⟨#[]⟩)))) (cond (Nat.blt k 161) (cond (Nat.blt k 159) (cond (Nat.beq k 158) prog_8_method_74_code ⟨#[]⟩) (cond (Nat.blt k 160) (cond (Nat.beq k 159) prog_8_method_75_code ⟨#[]⟩) (cond (Nat.beq k 160) prog_8_method_76_code ⟨#[]⟩))) (cond (Nat.blt k 162) (cond (Nat.beq k 161) prog_8_method_77_code ⟨#[]⟩) (cond (Nat.blt k 163) (cond (Nat.beq k 162) prog_8_method_78_code ⟨#[]⟩) (cond (Nat.beq k 163) code ⟨#[]⟩))))))))
def mxM (k : Nat) : Nat := cond (Nat.blt k 82) (cond (Nat.blt k 41) (cond (Nat.blt k 20) (cond (Nat.blt k 10) (cond (Nat.blt k 5) (cond (Nat.blt k 2) (cond (Nat.blt k 1) (cond (Nat.beq k 0) 1 0) (cond (Nat.beq k 1) 7 0)) (cond (Nat.blt k 3) (cond (Nat.beq k 2) 2 0) (cond (Nat.blt k 4) (cond (Nat.beq k 3) 1 0) (cond (Nat.beq k 4) 5 0)))) (cond (Nat.blt k 7) (cond (Nat.blt k 6) (cond (Nat.beq k 5) 5 0) (cond (Nat.beq k 6) 5 0)) (cond (Nat.blt k 8) (cond (Nat.beq k 7) 4 0) (cond (Nat.blt k 9) (cond (Nat.beq k 8) 3 0) (cond (Nat.beq k 9) 7 0))))) (cond (Nat.blt k 15) (cond (Nat.blt k 12) (cond (Nat.blt k 11) (cond (Nat.beq k 10) 5 0) (cond (Nat.beq k 11) 2 0)) (cond (Nat.blt k 13) (cond (Nat.beq k 12) 4 0) (cond (Nat.blt k 14) (cond (Nat.beq k 13) 6 0) (cond (Nat.beq k 14) 4 0)))) (cond (Nat.blt k 17) (cond (Nat.blt k 16) (cond (Nat.beq k 15) 3 0) (cond (Nat.beq k 16) 3 0)) (cond (Nat.blt k 18) (cond (Nat.beq k 17) 8 0) (cond (Nat.blt k 19) (cond (Nat.beq k 18) 1 0) (cond (Nat.beq k 19) 5 0)))))) (cond (Nat.blt k 30) (cond (Nat.blt k 25) (cond (Nat.blt k 22) (cond (Nat.blt k 21) (cond (Nat.beq k 20) 6 0) (cond (Nat.beq k 21) 6 0)) (cond (Nat.blt k 23) (cond (Nat.beq k 22) 1 0) (cond (Nat.blt k 24) (cond (Nat.beq k 23) 1 0) (cond (Nat.beq k 24) 1 0)))) (cond (Nat.blt k 27) (cond (Nat.blt k 26) (cond (Nat.beq k 25) 2 0) (cond (Nat.beq k 26) 2 0)) (cond (Nat.blt k 28) (cond (Nat.beq k 27) 2 0) (cond (Nat.blt k 29) (cond (Nat.beq k 28) 2 0) (cond (Nat.beq k 29) 2 0))))) (cond (Nat.blt k 35) (cond (Nat.blt k 32) (cond (Nat.blt k 31) (cond (Nat.beq k 30) 2 0) (cond (Nat.beq k 31) 4 0)) (cond (Nat.blt k 33) (cond (Nat.beq k 32) 3 0) (cond (Nat.blt k 34) (cond (Nat.beq k 33) 5 0) (cond (Nat.beq k 34) 6 0)))) (cond (Nat.blt k 38) (cond (Nat.blt k 36) (cond (Nat.beq k 35) 4 0) (cond (Nat.blt k 37) (cond (Nat.beq k 36) 4 0) (cond (Nat.beq k 37) 4 0))) (cond (Nat.blt k 39) (cond (Nat.beq k 38) 4 0) (cond (Nat.blt k 40) (cond (Nat.beq k 39) 4 0) (cond (Nat.beq k 40) 2 0))))))) (cond (Nat.blt k 61) (cond (Nat.blt k 51) (cond (Nat.blt k 46) (cond (Nat.blt k 43) (cond (Nat.blt k 42) (cond (Nat.beq k 41) 5 0) (cond (Nat.beq k 42) 3 0)) (cond (Nat.blt k 44) (cond (Nat.beq k 43) 4 0) (cond (Nat.blt k 45) (cond (Nat.beq k 44) 4 0) (cond (Nat.beq k 45) 2 0)))) (cond (Nat.blt k 48) (cond (Nat.blt k 47) (cond (Nat.beq k 46) 3 0) (cond (Nat.beq k 47) 3 0)) (cond (Nat.blt k 49) (cond (Nat.beq k 48) 2 0) (cond (Nat.blt k 50) (cond (Nat.beq k 49) 4 0) (cond (Nat.beq k 50) 6 0))))) (cond (Nat.blt k 56) (cond (Nat.blt k 53) (cond (Nat.blt k 52) (cond (Nat.beq k 51) 6 0) (cond (Nat.beq k 52) 4 0)) (cond (Nat.blt k 54) (cond (Nat.beq k 53) 5 0) (cond (Nat.blt k 55) (cond (Nat.beq k 54) 3 0) (cond (Nat.beq k 55) 6 0)))) (cond (Nat.blt k 58) (cond (Nat.blt k 57) (cond (Nat.beq k 56) 5 0) (cond (Nat.beq k 57) 5 0)) (cond (Nat.blt k 59) (cond (Nat.beq k 58) 10 0) (cond (Nat.blt k 60) (cond (Nat.beq k 59) 3 0) (cond (Nat.beq k 60) 4 0)))))) (cond (Nat.blt k 71) (cond (Nat.blt k 66) (cond (Nat.blt k 63) (cond (Nat.blt k 62) (cond (Nat.beq k 61) 2 0) (cond (Nat.beq k 62) 2 0)) (cond (Nat.blt k 64) (cond (Nat.beq k 63) 1 0) (cond (Nat.blt k 65) (cond (Nat.beq k 64) 2 0) (cond (Nat.beq k 65) 2 0)))) (cond (Nat.blt k 68) (cond (Nat.blt k 67) (cond (Nat.beq k 66) 2 0) (cond (Nat.beq k 67) 3 0)) (cond (Nat.blt k 69) (cond (Nat.beq k 68) 3 0) (cond (Nat.blt k 70) (cond (Nat.beq k 69) 3 0) (cond (Nat.beq k 70) 3 0))))) (cond (Nat.blt k 76) (cond (Nat.blt k 73) (cond (Nat.blt k 72) (cond (Nat.beq k 71) 2 0) (cond (Nat.beq k 72) 4 0)) (cond (Nat.blt k 74) (cond (Nat.beq k 73) 4 0) (cond (Nat.blt k 75) (cond (Nat.beq k 74) 3 0) (cond (Nat.beq k 75) 2 0)))) (cond (Nat.blt k 79) (cond (Nat.blt k 77) (cond (Nat.beq k 76) 3 0) (cond (Nat.blt k 78) (cond (Nat.beq k 77) 6 0) (cond (Nat.beq k 78) 6 0))) (cond (Nat.blt k 80) (cond (Nat.beq k 79) 4 0) (cond (Nat.blt k 81) (cond (Nat.beq k 80) 4 0) (cond (Nat.beq k 81) 3 0)))))))) (cond (Nat.blt k 123) (cond (Nat.blt k 102) (cond (Nat.blt k 92) (cond (Nat.blt k 87) (cond (Nat.blt k 84) (cond (Nat.blt k 83) (cond (Nat.beq k 82) 3 0) (cond (Nat.beq k 83) 3 0)) (cond (Nat.blt k 85) (cond (Nat.beq k 84) 4 0) (cond (Nat.blt k 86) (cond (Nat.beq k 85) 5 0) (cond (Nat.beq k 86) 2 0)))) (cond (Nat.blt k 89) (cond (Nat.blt k 88) (cond (Nat.beq k 87) 3 0) (cond (Nat.beq k 88) 2 0)) (cond (Nat.blt k 90) (cond (Nat.beq k 89) 2 0) (cond (Nat.blt k 91) (cond (Nat.beq k 90) 6 0) (cond (Nat.beq k 91) 1 0))))) (cond (Nat.blt k 97) (cond (Nat.blt k 94) (cond (Nat.blt k 93) (cond (Nat.beq k 92) 2 0) (cond (Nat.beq k 93) 2 0)) (cond (Nat.blt k 95) (cond (Nat.beq k 94) 2 0) (cond (Nat.blt k 96) (cond (Nat.beq k 95) 2 0) (cond (Nat.beq k 96) 3 0)))) (cond (Nat.blt k 99) (cond (Nat.blt k 98) (cond (Nat.beq k 97) 2 0) (cond (Nat.beq k 98) 2 0)) (cond (Nat.blt k 100) (cond (Nat.beq k 99) 2 0) (cond (Nat.blt k 101) (cond (Nat.beq k 100) 4 0) (cond (Nat.beq k 101) 1 0)))))) (cond (Nat.blt k 112) (cond (Nat.blt k 107) (cond (Nat.blt k 104) (cond (Nat.blt k 103) (cond (Nat.beq k 102) 2 0) (cond (Nat.beq k 103) 3 0)) (cond (Nat.blt k 105) (cond (Nat.beq k 104) 1 0) (cond (Nat.blt k 106) (cond (Nat.beq k 105) 3 0) (cond (Nat.beq k 106) 5 0)))) (cond (Nat.blt k 109) (cond (Nat.blt k 108) (cond (Nat.beq k 107) 5 0) (cond (Nat.beq k 108) 2 0)) (cond (Nat.blt k 110) (cond (Nat.beq k 109) 4 0) (cond (Nat.blt k 111) (cond (Nat.beq k 110) 5 0) (cond (Nat.beq k 111) 5 0))))) (cond (Nat.blt k 117) (cond (Nat.blt k 114) (cond (Nat.blt k 113) (cond (Nat.beq k 112) 3 0) (cond (Nat.beq k 113) 7 0)) (cond (Nat.blt k 115) (cond (Nat.beq k 114) 2 0) (cond (Nat.blt k 116) (cond (Nat.beq k 115) 4 0) (cond (Nat.beq k 116) 3 0)))) (cond (Nat.blt k 120) (cond (Nat.blt k 118) (cond (Nat.beq k 117) 5 0) (cond (Nat.blt k 119) (cond (Nat.beq k 118) 5 0) (cond (Nat.beq k 119) 3 0))) (cond (Nat.blt k 121) (cond (Nat.beq k 120) 3 0) (cond (Nat.blt k 122) (cond (Nat.beq k 121) 9 0) (cond (Nat.beq k 122) 8 0))))))) (cond (Nat.blt k 143) (cond (Nat.blt k 133) (cond (Nat.blt k 128) (cond (Nat.blt k 125) (cond (Nat.blt k 124) (cond (Nat.beq k 123) 2 0) (cond (Nat.beq k 124) 9 0)) (cond (Nat.blt k 126) (cond (Nat.beq k 125) 4 0) (cond (Nat.blt k 127) (cond (Nat.beq k 126) 5 0) (cond (Nat.beq k 127) 3 0)))) (cond (Nat.blt k 130) (cond (Nat.blt k 129) (cond (Nat.beq k 128) 3 0) (cond (Nat.beq k 129) 1 0)) (cond (Nat.blt k 131) (cond (Nat.beq k 130) 2 0) (cond (Nat.blt k 132) (cond (Nat.beq k 131) 2 0) (cond (Nat.beq k 132) 1 0))))) (cond (Nat.blt k 138) (cond (Nat.blt k 135) (cond (Nat.blt k 134) (cond (Nat.beq k 133) 1 0) (cond (Nat.beq k 134) 5 0)) (cond (Nat.blt k 136) (cond (Nat.beq k 135) 5 0) (cond (Nat.blt k 137) (cond (Nat.beq k 136) 2 0) (cond (Nat.beq k 137) 4 0)))) (cond (Nat.blt k 140) (cond (Nat.blt k 139) (cond (Nat.beq k 138) 4 0) (cond (Nat.beq k 139) 3 0)) (cond (Nat.blt k 141) (cond (Nat.beq k 140) 10 0) (cond (Nat.blt k 142) (cond (Nat.beq k 141) 11 0) (cond (Nat.beq k 142) 14 0)))))) (cond (Nat.blt k 153) (cond (Nat.blt k 148) (cond (Nat.blt k 145) (cond (Nat.blt k 144) (cond (Nat.beq k 143) 4 0) (cond (Nat.beq k 144) 4 0)) (cond (Nat.blt k 146) (cond (Nat.beq k 145) 2 0) (cond (Nat.blt k 147) (cond (Nat.beq k 146) 3 0) (cond (Nat.beq k 147) 3 0)))) (cond (Nat.blt k 150) (cond (Nat.blt k 149) (cond (Nat.beq k 148) 3 0) (cond (Nat.beq k 149) 2 0)) (cond (Nat.blt k 151) (cond (Nat.beq k 150) 3 0) (cond (Nat.blt k 152) (cond (Nat.beq k 151) 1 0) (cond (Nat.beq k 152) 4 0))))) (cond (Nat.blt k 158) (cond (Nat.blt k 155) (cond (Nat.blt k 154) (cond (Nat.beq k 153) 3 0) (cond (Nat.beq k 154) 3 0)) (cond (Nat.blt k 156) (cond (Nat.beq k 155) 2 0) (cond (Nat.blt k 157) (cond (Nat.beq k 156) 3 0) (cond (Nat.beq k 157) 5 0)))) (cond (Nat.blt k 161) (cond (Nat.blt k 159) (cond (Nat.beq k 158) 6 0) (cond (Nat.blt k 160) (cond (Nat.beq k 159) 4 0) (cond (Nat.beq k 160) 3 0))) (cond (Nat.blt k 162) (cond (Nat.beq k 161) 4 0) (cond (Nat.blt k 163) (cond (Nat.beq k 162) 3 0) (cond (Nat.beq k 163) 4 0))))))))
def rtM (k : Nat) : Option FieldType := cond (Nat.blt k 82) (cond (Nat.blt k 41) (cond (Nat.blt k 20) (cond (Nat.blt k 10) (cond (Nat.blt k 5) (cond (Nat.blt k 2) (cond (Nat.blt k 1) (cond (Nat.beq k 0) none none) (cond (Nat.beq k 1) none none)) (cond (Nat.blt k 3) (cond (Nat.beq k 2) (some .int) none) (cond (Nat.blt k 4) (cond (Nat.beq k 3) none none) (cond (Nat.beq k 4) none none)))) (cond (Nat.blt k 7) (cond (Nat.blt k 6) (cond (Nat.beq k 5) none none) (cond (Nat.beq k 6) none none)) (cond (Nat.blt k 8) (cond (Nat.beq k 7) none none) (cond (Nat.blt k 9) (cond (Nat.beq k 8) (some .int) none) (cond (Nat.beq k 9) none none))))) (cond (Nat.blt k 15) (cond (Nat.blt k 12) (cond (Nat.blt k 11) (cond (Nat.beq k 10) (some .int) none) (cond (Nat.beq k 11) (some .int) none)) (cond (Nat.blt k 13) (cond (Nat.beq k 12) (some .int) none) (cond (Nat.blt k 14) (cond (Nat.beq k 13) none none) (cond (Nat.beq k 14) (some .int) none)))) (cond (Nat.blt k 17) (cond (Nat.blt k 16) (cond (Nat.beq k 15) (some .boolean) none) (cond (Nat.beq k 16) (some .int) none)) (cond (Nat.blt k 18) (cond (Nat.beq k 17) (some .int) none) (cond (Nat.blt k 19) (cond (Nat.beq k 18) none none) (cond (Nat.beq k 19) (some .int) none)))))) (cond (Nat.blt k 30) (cond (Nat.blt k 25) (cond (Nat.blt k 22) (cond (Nat.blt k 21) (cond (Nat.beq k 20) none none) (cond (Nat.beq k 21) (some .int) none)) (cond (Nat.blt k 23) (cond (Nat.beq k 22) none none) (cond (Nat.blt k 24) (cond (Nat.beq k 23) (some .boolean) none) (cond (Nat.beq k 24) (some .int) none)))) (cond (Nat.blt k 27) (cond (Nat.blt k 26) (cond (Nat.beq k 25) none none) (cond (Nat.beq k 26) none none)) (cond (Nat.blt k 28) (cond (Nat.beq k 27) (some .boolean) none) (cond (Nat.blt k 29) (cond (Nat.beq k 28) (some .boolean) none) (cond (Nat.beq k 29) (some .boolean) none))))) (cond (Nat.blt k 35) (cond (Nat.blt k 32) (cond (Nat.blt k 31) (cond (Nat.beq k 30) (some .boolean) none) (cond (Nat.beq k 31) (some .int) none)) (cond (Nat.blt k 33) (cond (Nat.beq k 32) (some .int) none) (cond (Nat.blt k 34) (cond (Nat.beq k 33) (some .int) none) (cond (Nat.beq k 34) (some .int) none)))) (cond (Nat.blt k 38) (cond (Nat.blt k 36) (cond (Nat.beq k 35) (some .int) none) (cond (Nat.blt k 37) (cond (Nat.beq k 36) (some .int) none) (cond (Nat.beq k 37) (some .int) none))) (cond (Nat.blt k 39) (cond (Nat.beq k 38) (some .int) none) (cond (Nat.blt k 40) (cond (Nat.beq k 39) (some .int) none) (cond (Nat.beq k 40) (some .int) none))))))) (cond (Nat.blt k 61) (cond (Nat.blt k 51) (cond (Nat.blt k 46) (cond (Nat.blt k 43) (cond (Nat.blt k 42) (cond (Nat.beq k 41) none none) (cond (Nat.beq k 42) none none)) (cond (Nat.blt k 44) (cond (Nat.beq k 43) none none) (cond (Nat.blt k 45) (cond (Nat.beq k 44) none none) (cond (Nat.beq k 45) none none)))) (cond (Nat.blt k 48) (cond (Nat.blt k 47) (cond (Nat.beq k 46) none none) (cond (Nat.beq k 47) (some .int) none)) (cond (Nat.blt k 49) (cond (Nat.beq k 48) none none) (cond (Nat.blt k 50) (cond (Nat.beq k 49) (some .int) none) (cond (Nat.beq k 50) (some .int) none))))) (cond (Nat.blt k 56) (cond (Nat.blt k 53) (cond (Nat.blt k 52) (cond (Nat.beq k 51) (some .int) none) (cond (Nat.beq k 52) (some .int) none)) (cond (Nat.blt k 54) (cond (Nat.beq k 53) (some .int) none) (cond (Nat.blt k 55) (cond (Nat.beq k 54) (some .int) none) (cond (Nat.beq k 55) (some .int) none)))) (cond (Nat.blt k 58) (cond (Nat.blt k 57) (cond (Nat.beq k 56) (some .int) none) (cond (Nat.beq k 57) (some .int) none)) (cond (Nat.blt k 59) (cond (Nat.beq k 58) (some .int) none) (cond (Nat.blt k 60) (cond (Nat.beq k 59) (some .int) none) (cond (Nat.beq k 60) (some .int) none)))))) (cond (Nat.blt k 71) (cond (Nat.blt k 66) (cond (Nat.blt k 63) (cond (Nat.blt k 62) (cond (Nat.beq k 61) (some .int) none) (cond (Nat.beq k 62) (some .int) none)) (cond (Nat.blt k 64) (cond (Nat.beq k 63) (some .int) none) (cond (Nat.blt k 65) (cond (Nat.beq k 64) (some .int) none) (cond (Nat.beq k 65) (some .int) none)))) (cond (Nat.blt k 68) (cond (Nat.blt k 67) (cond (Nat.beq k 66) (some .int) none) (cond (Nat.beq k 67) (some .int) none)) (cond (Nat.blt k 69) (cond (Nat.beq k 68) (some .int) none) (cond (Nat.blt k 70) (cond (Nat.beq k 69) (some .int) none) (cond (Nat.beq k 70) (some .int) none))))) (cond (Nat.blt k 76) (cond (Nat.blt k 73) (cond (Nat.blt k 72) (cond (Nat.beq k 71) (some .int) none) (cond (Nat.beq k 72) (some .int) none)) (cond (Nat.blt k 74) (cond (Nat.beq k 73) (some .int) none) (cond (Nat.blt k 75) (cond (Nat.beq k 74) (some .int) none) (cond (Nat.beq k 75) (some .int) none)))) (cond (Nat.blt k 79) (cond (Nat.blt k 77) (cond (Nat.beq k 76) (some .int) none) (cond (Nat.blt k 78) (cond (Nat.beq k 77) (some .int) none) (cond (Nat.beq k 78) (some .int) none))) (cond (Nat.blt k 80) (cond (Nat.beq k 79) (some .int) none) (cond (Nat.blt k 81) (cond (Nat.beq k 80) (some .int) none) (cond (Nat.beq k 81) (some .int) none)))))))) (cond (Nat.blt k 123) (cond (Nat.blt k 102) (cond (Nat.blt k 92) (cond (Nat.blt k 87) (cond (Nat.blt k 84) (cond (Nat.blt k 83) (cond (Nat.beq k 82) (some .boolean) none) (cond (Nat.beq k 83) none none)) (cond (Nat.blt k 85) (cond (Nat.beq k 84) (some .int) none) (cond (Nat.blt k 86) (cond (Nat.beq k 85) (some .int) none) (cond (Nat.beq k 86) none none)))) (cond (Nat.blt k 89) (cond (Nat.blt k 88) (cond (Nat.beq k 87) (some .boolean) none) (cond (Nat.beq k 88) (some .int) none)) (cond (Nat.blt k 90) (cond (Nat.beq k 89) (some .int) none) (cond (Nat.blt k 91) (cond (Nat.beq k 90) none none) (cond (Nat.beq k 91) none none))))) (cond (Nat.blt k 97) (cond (Nat.blt k 94) (cond (Nat.blt k 93) (cond (Nat.beq k 92) (some .boolean) none) (cond (Nat.beq k 93) (some .boolean) none)) (cond (Nat.blt k 95) (cond (Nat.beq k 94) (some .int) none) (cond (Nat.blt k 96) (cond (Nat.beq k 95) (some .int) none) (cond (Nat.beq k 96) (some .int) none)))) (cond (Nat.blt k 99) (cond (Nat.blt k 98) (cond (Nat.beq k 97) (some .int) none) (cond (Nat.beq k 98) (some .int) none)) (cond (Nat.blt k 100) (cond (Nat.beq k 99) (some .int) none) (cond (Nat.blt k 101) (cond (Nat.beq k 100) (some .int) none) (cond (Nat.beq k 101) (some .int) none)))))) (cond (Nat.blt k 112) (cond (Nat.blt k 107) (cond (Nat.blt k 104) (cond (Nat.blt k 103) (cond (Nat.beq k 102) (some .boolean) none) (cond (Nat.beq k 103) (some .int) none)) (cond (Nat.blt k 105) (cond (Nat.beq k 104) (some .boolean) none) (cond (Nat.blt k 106) (cond (Nat.beq k 105) (some .int) none) (cond (Nat.beq k 106) (some .int) none)))) (cond (Nat.blt k 109) (cond (Nat.blt k 108) (cond (Nat.beq k 107) (some .int) none) (cond (Nat.beq k 108) (some .boolean) none)) (cond (Nat.blt k 110) (cond (Nat.beq k 109) (some .int) none) (cond (Nat.blt k 111) (cond (Nat.beq k 110) none none) (cond (Nat.beq k 111) none none))))) (cond (Nat.blt k 117) (cond (Nat.blt k 114) (cond (Nat.blt k 113) (cond (Nat.beq k 112) (some .int) none) (cond (Nat.beq k 113) none none)) (cond (Nat.blt k 115) (cond (Nat.beq k 114) (some .boolean) none) (cond (Nat.blt k 116) (cond (Nat.beq k 115) (some .int) none) (cond (Nat.beq k 116) (some .int) none)))) (cond (Nat.blt k 120) (cond (Nat.blt k 118) (cond (Nat.beq k 117) (some .int) none) (cond (Nat.blt k 119) (cond (Nat.beq k 118) (some .int) none) (cond (Nat.beq k 119) (some .int) none))) (cond (Nat.blt k 121) (cond (Nat.beq k 120) (some .int) none) (cond (Nat.blt k 122) (cond (Nat.beq k 121) (some .int) none) (cond (Nat.beq k 122) (some .int) none))))))) (cond (Nat.blt k 143) (cond (Nat.blt k 133) (cond (Nat.blt k 128) (cond (Nat.blt k 125) (cond (Nat.blt k 124) (cond (Nat.beq k 123) (some .int) none) (cond (Nat.beq k 124) (some .int) none)) (cond (Nat.blt k 126) (cond (Nat.beq k 125) (some .int) none) (cond (Nat.blt k 127) (cond (Nat.beq k 126) (some .int) none) (cond (Nat.beq k 127) (some .int) none)))) (cond (Nat.blt k 130) (cond (Nat.blt k 129) (cond (Nat.beq k 128) (some .int) none) (cond (Nat.beq k 129) (some .int) none)) (cond (Nat.blt k 131) (cond (Nat.beq k 130) (some .int) none) (cond (Nat.blt k 132) (cond (Nat.beq k 131) (some .int) none) (cond (Nat.beq k 132) (some .int) none))))) (cond (Nat.blt k 138) (cond (Nat.blt k 135) (cond (Nat.blt k 134) (cond (Nat.beq k 133) none none) (cond (Nat.beq k 134) (some .boolean) none)) (cond (Nat.blt k 136) (cond (Nat.beq k 135) (some .boolean) none) (cond (Nat.blt k 137) (cond (Nat.beq k 136) (some .int) none) (cond (Nat.beq k 137) none none)))) (cond (Nat.blt k 140) (cond (Nat.blt k 139) (cond (Nat.beq k 138) (some .int) none) (cond (Nat.beq k 139) (some .int) none)) (cond (Nat.blt k 141) (cond (Nat.beq k 140) (some .int) none) (cond (Nat.blt k 142) (cond (Nat.beq k 141) (some .int) none) (cond (Nat.beq k 142) (some .int) none)))))) (cond (Nat.blt k 153) (cond (Nat.blt k 148) (cond (Nat.blt k 145) (cond (Nat.blt k 144) (cond (Nat.beq k 143) (some .int) none) (cond (Nat.beq k 144) (some .int) none)) (cond (Nat.blt k 146) (cond (Nat.beq k 145) (some .int) none) (cond (Nat.blt k 147) (cond (Nat.beq k 146) (some .int) none) (cond (Nat.beq k 147) (some .int) none)))) (cond (Nat.blt k 150) (cond (Nat.blt k 149) (cond (Nat.beq k 148) (some .int) none) (cond (Nat.beq k 149) (some .int) none)) (cond (Nat.blt k 151) (cond (Nat.beq k 150) (some .int) none) (cond (Nat.blt k 152) (cond (Nat.beq k 151) (some .int) none) (cond (Nat.beq k 152) (some .int) none))))) (cond (Nat.blt k 158) (cond (Nat.blt k 155) (cond (Nat.blt k 154) (cond (Nat.beq k 153) (some .int) none) (cond (Nat.beq k 154) (some .int) none)) (cond (Nat.blt k 156) (cond (Nat.beq k 155) (some .int) none) (cond (Nat.blt k 157) (cond (Nat.beq k 156) (some .int) none) (cond (Nat.beq k 157) (some .int) none)))) (cond (Nat.blt k 161) (cond (Nat.blt k 159) (cond (Nat.beq k 158) (some .int) none) (cond (Nat.blt k 160) (cond (Nat.beq k 159) (some .int) none) (cond (Nat.beq k 160) (some .int) none))) (cond (Nat.blt k 162) (cond (Nat.beq k 161) (some .int) none) (cond (Nat.blt k 163) (cond (Nat.beq k 162) (some .int) none) (cond (Nat.beq k 163) (some .boolean) none))))))))
def clM (k : Nat) : Nat := cond (Nat.blt k 82) (cond (Nat.blt k 41) (cond (Nat.blt k 20) (cond (Nat.blt k 10) (cond (Nat.blt k 5) (cond (Nat.blt k 2) (cond (Nat.blt k 1) (cond (Nat.beq k 0) 0 99) (cond (Nat.beq k 1) 0 99)) (cond (Nat.blt k 3) (cond (Nat.beq k 2) 0 99) (cond (Nat.blt k 4) (cond (Nat.beq k 3) 1 99) (cond (Nat.beq k 4) 1 99)))) (cond (Nat.blt k 7) (cond (Nat.blt k 6) (cond (Nat.beq k 5) 1 99) (cond (Nat.beq k 6) 1 99)) (cond (Nat.blt k 8) (cond (Nat.beq k 7) 1 99) (cond (Nat.blt k 9) (cond (Nat.beq k 8) 1 99) (cond (Nat.beq k 9) 1 99))))) (cond (Nat.blt k 15) (cond (Nat.blt k 12) (cond (Nat.blt k 11) (cond (Nat.beq k 10) 1 99) (cond (Nat.beq k 11) 1 99)) (cond (Nat.blt k 13) (cond (Nat.beq k 12) 1 99) (cond (Nat.blt k 14) (cond (Nat.beq k 13) 1 99) (cond (Nat.beq k 14) 1 99)))) (cond (Nat.blt k 17) (cond (Nat.blt k 16) (cond (Nat.beq k 15) 1 99) (cond (Nat.beq k 16) 1 99)) (cond (Nat.blt k 18) (cond (Nat.beq k 17) 1 99) (cond (Nat.blt k 19) (cond (Nat.beq k 18) 2 99) (cond (Nat.beq k 19) 2 99)))))) (cond (Nat.blt k 30) (cond (Nat.blt k 25) (cond (Nat.blt k 22) (cond (Nat.blt k 21) (cond (Nat.beq k 20) 2 99) (cond (Nat.beq k 21) 2 99)) (cond (Nat.blt k 23) (cond (Nat.beq k 22) 2 99) (cond (Nat.blt k 24) (cond (Nat.beq k 23) 2 99) (cond (Nat.beq k 24) 2 99)))) (cond (Nat.blt k 27) (cond (Nat.blt k 26) (cond (Nat.beq k 25) 3 99) (cond (Nat.beq k 26) 3 99)) (cond (Nat.blt k 28) (cond (Nat.beq k 27) 3 99) (cond (Nat.blt k 29) (cond (Nat.beq k 28) 3 99) (cond (Nat.beq k 29) 3 99))))) (cond (Nat.blt k 35) (cond (Nat.blt k 32) (cond (Nat.blt k 31) (cond (Nat.beq k 30) 3 99) (cond (Nat.beq k 31) 3 99)) (cond (Nat.blt k 33) (cond (Nat.beq k 32) 3 99) (cond (Nat.blt k 34) (cond (Nat.beq k 33) 3 99) (cond (Nat.beq k 34) 3 99)))) (cond (Nat.blt k 38) (cond (Nat.blt k 36) (cond (Nat.beq k 35) 3 99) (cond (Nat.blt k 37) (cond (Nat.beq k 36) 3 99) (cond (Nat.beq k 37) 3 99))) (cond (Nat.blt k 39) (cond (Nat.beq k 38) 3 99) (cond (Nat.blt k 40) (cond (Nat.beq k 39) 3 99) (cond (Nat.beq k 40) 3 99))))))) (cond (Nat.blt k 61) (cond (Nat.blt k 51) (cond (Nat.blt k 46) (cond (Nat.blt k 43) (cond (Nat.blt k 42) (cond (Nat.beq k 41) 3 99) (cond (Nat.beq k 42) 3 99)) (cond (Nat.blt k 44) (cond (Nat.beq k 43) 3 99) (cond (Nat.blt k 45) (cond (Nat.beq k 44) 3 99) (cond (Nat.beq k 45) 4 99)))) (cond (Nat.blt k 48) (cond (Nat.blt k 47) (cond (Nat.beq k 46) 4 99) (cond (Nat.beq k 47) 4 99)) (cond (Nat.blt k 49) (cond (Nat.beq k 48) 5 99) (cond (Nat.blt k 50) (cond (Nat.beq k 49) 5 99) (cond (Nat.beq k 50) 5 99))))) (cond (Nat.blt k 56) (cond (Nat.blt k 53) (cond (Nat.blt k 52) (cond (Nat.beq k 51) 5 99) (cond (Nat.beq k 52) 5 99)) (cond (Nat.blt k 54) (cond (Nat.beq k 53) 5 99) (cond (Nat.blt k 55) (cond (Nat.beq k 54) 5 99) (cond (Nat.beq k 55) 5 99)))) (cond (Nat.blt k 58) (cond (Nat.blt k 57) (cond (Nat.beq k 56) 5 99) (cond (Nat.beq k 57) 5 99)) (cond (Nat.blt k 59) (cond (Nat.beq k 58) 5 99) (cond (Nat.blt k 60) (cond (Nat.beq k 59) 5 99) (cond (Nat.beq k 60) 5 99)))))) (cond (Nat.blt k 71) (cond (Nat.blt k 66) (cond (Nat.blt k 63) (cond (Nat.blt k 62) (cond (Nat.beq k 61) 5 99) (cond (Nat.beq k 62) 5 99)) (cond (Nat.blt k 64) (cond (Nat.beq k 63) 5 99) (cond (Nat.blt k 65) (cond (Nat.beq k 64) 5 99) (cond (Nat.beq k 65) 5 99)))) (cond (Nat.blt k 68) (cond (Nat.blt k 67) (cond (Nat.beq k 66) 5 99) (cond (Nat.beq k 67) 5 99)) (cond (Nat.blt k 69) (cond (Nat.beq k 68) 5 99) (cond (Nat.blt k 70) (cond (Nat.beq k 69) 5 99) (cond (Nat.beq k 70) 5 99))))) (cond (Nat.blt k 76) (cond (Nat.blt k 73) (cond (Nat.blt k 72) (cond (Nat.beq k 71) 5 99) (cond (Nat.beq k 72) 5 99)) (cond (Nat.blt k 74) (cond (Nat.beq k 73) 5 99) (cond (Nat.blt k 75) (cond (Nat.beq k 74) 5 99) (cond (Nat.beq k 75) 5 99)))) (cond (Nat.blt k 79) (cond (Nat.blt k 77) (cond (Nat.beq k 76) 5 99) (cond (Nat.blt k 78) (cond (Nat.beq k 77) 5 99) (cond (Nat.beq k 78) 5 99))) (cond (Nat.blt k 80) (cond (Nat.beq k 79) 5 99) (cond (Nat.blt k 81) (cond (Nat.beq k 80) 5 99) (cond (Nat.beq k 81) 5 99)))))))) (cond (Nat.blt k 123) (cond (Nat.blt k 102) (cond (Nat.blt k 92) (cond (Nat.blt k 87) (cond (Nat.blt k 84) (cond (Nat.blt k 83) (cond (Nat.beq k 82) 5 99) (cond (Nat.beq k 83) 5 99)) (cond (Nat.blt k 85) (cond (Nat.beq k 84) 5 99) (cond (Nat.blt k 86) (cond (Nat.beq k 85) 5 99) (cond (Nat.beq k 86) 6 99)))) (cond (Nat.blt k 89) (cond (Nat.blt k 88) (cond (Nat.beq k 87) 6 99) (cond (Nat.beq k 88) 6 99)) (cond (Nat.blt k 90) (cond (Nat.beq k 89) 6 99) (cond (Nat.blt k 91) (cond (Nat.beq k 90) 6 99) (cond (Nat.beq k 91) 6 99))))) (cond (Nat.blt k 97) (cond (Nat.blt k 94) (cond (Nat.blt k 93) (cond (Nat.beq k 92) 6 99) (cond (Nat.beq k 93) 6 99)) (cond (Nat.blt k 95) (cond (Nat.beq k 94) 6 99) (cond (Nat.blt k 96) (cond (Nat.beq k 95) 6 99) (cond (Nat.beq k 96) 6 99)))) (cond (Nat.blt k 99) (cond (Nat.blt k 98) (cond (Nat.beq k 97) 6 99) (cond (Nat.beq k 98) 6 99)) (cond (Nat.blt k 100) (cond (Nat.beq k 99) 6 99) (cond (Nat.blt k 101) (cond (Nat.beq k 100) 6 99) (cond (Nat.beq k 101) 6 99)))))) (cond (Nat.blt k 112) (cond (Nat.blt k 107) (cond (Nat.blt k 104) (cond (Nat.blt k 103) (cond (Nat.beq k 102) 6 99) (cond (Nat.beq k 103) 6 99)) (cond (Nat.blt k 105) (cond (Nat.beq k 104) 6 99) (cond (Nat.blt k 106) (cond (Nat.beq k 105) 6 99) (cond (Nat.beq k 106) 6 99)))) (cond (Nat.blt k 109) (cond (Nat.blt k 108) (cond (Nat.beq k 107) 6 99) (cond (Nat.beq k 108) 6 99)) (cond (Nat.blt k 110) (cond (Nat.beq k 109) 6 99) (cond (Nat.blt k 111) (cond (Nat.beq k 110) 6 99) (cond (Nat.beq k 111) 6 99))))) (cond (Nat.blt k 117) (cond (Nat.blt k 114) (cond (Nat.blt k 113) (cond (Nat.beq k 112) 6 99) (cond (Nat.beq k 113) 6 99)) (cond (Nat.blt k 115) (cond (Nat.beq k 114) 6 99) (cond (Nat.blt k 116) (cond (Nat.beq k 115) 6 99) (cond (Nat.beq k 116) 6 99)))) (cond (Nat.blt k 120) (cond (Nat.blt k 118) (cond (Nat.beq k 117) 6 99) (cond (Nat.blt k 119) (cond (Nat.beq k 118) 6 99) (cond (Nat.beq k 119) 6 99))) (cond (Nat.blt k 121) (cond (Nat.beq k 120) 6 99) (cond (Nat.blt k 122) (cond (Nat.beq k 121) 6 99) (cond (Nat.beq k 122) 6 99))))))) (cond (Nat.blt k 143) (cond (Nat.blt k 133) (cond (Nat.blt k 128) (cond (Nat.blt k 125) (cond (Nat.blt k 124) (cond (Nat.beq k 123) 6 99) (cond (Nat.beq k 124) 6 99)) (cond (Nat.blt k 126) (cond (Nat.beq k 125) 6 99) (cond (Nat.blt k 127) (cond (Nat.beq k 126) 6 99) (cond (Nat.beq k 127) 6 99)))) (cond (Nat.blt k 130) (cond (Nat.blt k 129) (cond (Nat.beq k 128) 6 99) (cond (Nat.beq k 129) 6 99)) (cond (Nat.blt k 131) (cond (Nat.beq k 130) 6 99) (cond (Nat.blt k 132) (cond (Nat.beq k 131) 6 99) (cond (Nat.beq k 132) 6 99))))) (cond (Nat.blt k 138) (cond (Nat.blt k 135) (cond (Nat.blt k 134) (cond (Nat.beq k 133) 6 99) (cond (Nat.beq k 134) 6 99)) (cond (Nat.blt k 136) (cond (Nat.beq k 135) 6 99) (cond (Nat.blt k 137) (cond (Nat.beq k 136) 6 99) (cond (Nat.beq k 137) 6 99)))) (cond (Nat.blt k 140) (cond (Nat.blt k 139) (cond (Nat.beq k 138) 6 99) (cond (Nat.beq k 139) 6 99)) (cond (Nat.blt k 141) (cond (Nat.beq k 140) 6 99) (cond (Nat.blt k 142) (cond (Nat.beq k 141) 6 99) (cond (Nat.beq k 142) 6 99)))))) (cond (Nat.blt k 153) (cond (Nat.blt k 148) (cond (Nat.blt k 145) (cond (Nat.blt k 144) (cond (Nat.beq k 143) 6 99) (cond (Nat.beq k 144) 6 99)) (cond (Nat.blt k 146) (cond (Nat.beq k 145) 6 99) (cond (Nat.blt k 147) (cond (Nat.beq k 146) 6 99) (cond (Nat.beq k 147) 6 99)))) (cond (Nat.blt k 150) (cond (Nat.blt k 149) (cond (Nat.beq k 148) 6 99) (cond (Nat.beq k 149) 6 99)) (cond (Nat.blt k 151) (cond (Nat.beq k 150) 6 99) (cond (Nat.blt k 152) (cond (Nat.beq k 151) 6 99) (cond (Nat.beq k 152) 6 99))))) (cond (Nat.blt k 158) (cond (Nat.blt k 155) (cond (Nat.blt k 154) (cond (Nat.beq k 153) 6 99) (cond (Nat.beq k 154) 6 99)) (cond (Nat.blt k 156) (cond (Nat.beq k 155) 6 99) (cond (Nat.blt k 157) (cond (Nat.beq k 156) 6 99) (cond (Nat.beq k 157) 6 99)))) (cond (Nat.blt k 161) (cond (Nat.blt k 159) (cond (Nat.beq k 158) 6 99) (cond (Nat.blt k 160) (cond (Nat.beq k 159) 6 99) (cond (Nat.beq k 160) 6 99))) (cond (Nat.blt k 162) (cond (Nat.beq k 161) 6 99) (cond (Nat.blt k 163) (cond (Nat.beq k 162) 6 99) (cond (Nat.beq k 163) 7 99))))))))
/-- is it static? -/
def stM (k : Nat) : Bool := cond (Nat.blt k 82) (cond (Nat.blt k 41) (cond (Nat.blt k 20) (cond (Nat.blt k 10) (cond (Nat.blt k 5) (cond (Nat.blt k 2) (cond (Nat.blt k 1) (cond (Nat.beq k 0) false false) (cond (Nat.beq k 1) false false)) (cond (Nat.blt k 3) (cond (Nat.beq k 2) true false) (cond (Nat.blt k 4) (cond (Nat.beq k 3) false false) (cond (Nat.beq k 4) false false)))) (cond (Nat.blt k 7) (cond (Nat.blt k 6) (cond (Nat.beq k 5) false false) (cond (Nat.beq k 6) false false)) (cond (Nat.blt k 8) (cond (Nat.beq k 7) false false) (cond (Nat.blt k 9) (cond (Nat.beq k 8) false false) (cond (Nat.beq k 9) false false))))) (cond (Nat.blt k 15) (cond (Nat.blt k 12) (cond (Nat.blt k 11) (cond (Nat.beq k 10) false false) (cond (Nat.beq k 11) false false)) (cond (Nat.blt k 13) (cond (Nat.beq k 12) false false) (cond (Nat.blt k 14) (cond (Nat.beq k 13) false false) (cond (Nat.beq k 14) false false)))) (cond (Nat.blt k 17) (cond (Nat.blt k 16) (cond (Nat.beq k 15) false false) (cond (Nat.beq k 16) false false)) (cond (Nat.blt k 18) (cond (Nat.beq k 17) false false) (cond (Nat.blt k 19) (cond (Nat.beq k 18) false false) (cond (Nat.beq k 19) false false)))))) (cond (Nat.blt k 30) (cond (Nat.blt k 25) (cond (Nat.blt k 22) (cond (Nat.blt k 21) (cond (Nat.beq k 20) false false) (cond (Nat.beq k 21) false false)) (cond (Nat.blt k 23) (cond (Nat.beq k 22) false false) (cond (Nat.blt k 24) (cond (Nat.beq k 23) true false) (cond (Nat.beq k 24) true false)))) (cond (Nat.blt k 27) (cond (Nat.blt k 26) (cond (Nat.beq k 25) false false) (cond (Nat.beq k 26) false false)) (cond (Nat.blt k 28) (cond (Nat.beq k 27) false false) (cond (Nat.blt k 29) (cond (Nat.beq k 28) false false) (cond (Nat.beq k 29) false false))))) (cond (Nat.blt k 35) (cond (Nat.blt k 32) (cond (Nat.blt k 31) (cond (Nat.beq k 30) false false) (cond (Nat.beq k 31) false false)) (cond (Nat.blt k 33) (cond (Nat.beq k 32) false false) (cond (Nat.blt k 34) (cond (Nat.beq k 33) false false) (cond (Nat.beq k 34) false false)))) (cond (Nat.blt k 38) (cond (Nat.blt k 36) (cond (Nat.beq k 35) false false) (cond (Nat.blt k 37) (cond (Nat.beq k 36) false false) (cond (Nat.beq k 37) false false))) (cond (Nat.blt k 39) (cond (Nat.beq k 38) false false) (cond (Nat.blt k 40) (cond (Nat.beq k 39) false false) (cond (Nat.beq k 40) false false))))))) (cond (Nat.blt k 61) (cond (Nat.blt k 51) (cond (Nat.blt k 46) (cond (Nat.blt k 43) (cond (Nat.blt k 42) (cond (Nat.beq k 41) false false) (cond (Nat.beq k 42) false false)) (cond (Nat.blt k 44) (cond (Nat.beq k 43) false false) (cond (Nat.blt k 45) (cond (Nat.beq k 44) false false) (cond (Nat.beq k 45) false false)))) (cond (Nat.blt k 48) (cond (Nat.blt k 47) (cond (Nat.beq k 46) false false) (cond (Nat.beq k 47) false false)) (cond (Nat.blt k 49) (cond (Nat.beq k 48) false false) (cond (Nat.blt k 50) (cond (Nat.beq k 49) false false) (cond (Nat.beq k 50) false false))))) (cond (Nat.blt k 56) (cond (Nat.blt k 53) (cond (Nat.blt k 52) (cond (Nat.beq k 51) false false) (cond (Nat.beq k 52) false false)) (cond (Nat.blt k 54) (cond (Nat.beq k 53) false false) (cond (Nat.blt k 55) (cond (Nat.beq k 54) false false) (cond (Nat.beq k 55) false false)))) (cond (Nat.blt k 58) (cond (Nat.blt k 57) (cond (Nat.beq k 56) false false) (cond (Nat.beq k 57) false false)) (cond (Nat.blt k 59) (cond (Nat.beq k 58) false false) (cond (Nat.blt k 60) (cond (Nat.beq k 59) false false) (cond (Nat.beq k 60) false false)))))) (cond (Nat.blt k 71) (cond (Nat.blt k 66) (cond (Nat.blt k 63) (cond (Nat.blt k 62) (cond (Nat.beq k 61) false false) (cond (Nat.beq k 62) false false)) (cond (Nat.blt k 64) (cond (Nat.beq k 63) false false) (cond (Nat.blt k 65) (cond (Nat.beq k 64) false false) (cond (Nat.beq k 65) false false)))) (cond (Nat.blt k 68) (cond (Nat.blt k 67) (cond (Nat.beq k 66) false false) (cond (Nat.beq k 67) false false)) (cond (Nat.blt k 69) (cond (Nat.beq k 68) false false) (cond (Nat.blt k 70) (cond (Nat.beq k 69) false false) (cond (Nat.beq k 70) false false))))) (cond (Nat.blt k 76) (cond (Nat.blt k 73) (cond (Nat.blt k 72) (cond (Nat.beq k 71) false false) (cond (Nat.beq k 72) false false)) (cond (Nat.blt k 74) (cond (Nat.beq k 73) false false) (cond (Nat.blt k 75) (cond (Nat.beq k 74) false false) (cond (Nat.beq k 75) false false)))) (cond (Nat.blt k 79) (cond (Nat.blt k 77) (cond (Nat.beq k 76) false false) (cond (Nat.blt k 78) (cond (Nat.beq k 77) false false) (cond (Nat.beq k 78) false false))) (cond (Nat.blt k 80) (cond (Nat.beq k 79) false false) (cond (Nat.blt k 81) (cond (Nat.beq k 80) false false) (cond (Nat.beq k 81) false false)))))))) (cond (Nat.blt k 123) (cond (Nat.blt k 102) (cond (Nat.blt k 92) (cond (Nat.blt k 87) (cond (Nat.blt k 84) (cond (Nat.blt k 83) (cond (Nat.beq k 82) true false) (cond (Nat.beq k 83) false false)) (cond (Nat.blt k 85) (cond (Nat.beq k 84) true false) (cond (Nat.blt k 86) (cond (Nat.beq k 85) true false) (cond (Nat.beq k 86) false false)))) (cond (Nat.blt k 89) (cond (Nat.blt k 88) (cond (Nat.beq k 87) true false) (cond (Nat.beq k 88) true false)) (cond (Nat.blt k 90) (cond (Nat.beq k 89) true false) (cond (Nat.blt k 91) (cond (Nat.beq k 90) true false) (cond (Nat.beq k 91) false false))))) (cond (Nat.blt k 97) (cond (Nat.blt k 94) (cond (Nat.blt k 93) (cond (Nat.beq k 92) false false) (cond (Nat.beq k 93) false false)) (cond (Nat.blt k 95) (cond (Nat.beq k 94) false false) (cond (Nat.blt k 96) (cond (Nat.beq k 95) false false) (cond (Nat.beq k 96) false false)))) (cond (Nat.blt k 99) (cond (Nat.blt k 98) (cond (Nat.beq k 97) false false) (cond (Nat.beq k 98) false false)) (cond (Nat.blt k 100) (cond (Nat.beq k 99) false false) (cond (Nat.blt k 101) (cond (Nat.beq k 100) false false) (cond (Nat.beq k 101) false false)))))) (cond (Nat.blt k 112) (cond (Nat.blt k 107) (cond (Nat.blt k 104) (cond (Nat.blt k 103) (cond (Nat.beq k 102) false false) (cond (Nat.beq k 103) false false)) (cond (Nat.blt k 105) (cond (Nat.beq k 104) true false) (cond (Nat.blt k 106) (cond (Nat.beq k 105) false false) (cond (Nat.beq k 106) false false)))) (cond (Nat.blt k 109) (cond (Nat.blt k 108) (cond (Nat.beq k 107) false false) (cond (Nat.beq k 108) true false)) (cond (Nat.blt k 110) (cond (Nat.beq k 109) false false) (cond (Nat.blt k 111) (cond (Nat.beq k 110) true false) (cond (Nat.beq k 111) true false))))) (cond (Nat.blt k 117) (cond (Nat.blt k 114) (cond (Nat.blt k 113) (cond (Nat.beq k 112) true false) (cond (Nat.beq k 113) true false)) (cond (Nat.blt k 115) (cond (Nat.beq k 114) true false) (cond (Nat.blt k 116) (cond (Nat.beq k 115) false false) (cond (Nat.beq k 116) false false)))) (cond (Nat.blt k 120) (cond (Nat.blt k 118) (cond (Nat.beq k 117) false false) (cond (Nat.blt k 119) (cond (Nat.beq k 118) false false) (cond (Nat.beq k 119) false false))) (cond (Nat.blt k 121) (cond (Nat.beq k 120) false false) (cond (Nat.blt k 122) (cond (Nat.beq k 121) false false) (cond (Nat.beq k 122) false false))))))) (cond (Nat.blt k 143) (cond (Nat.blt k 133) (cond (Nat.blt k 128) (cond (Nat.blt k 125) (cond (Nat.blt k 124) (cond (Nat.beq k 123) false false) (cond (Nat.beq k 124) false false)) (cond (Nat.blt k 126) (cond (Nat.beq k 125) true false) (cond (Nat.blt k 127) (cond (Nat.beq k 126) false false) (cond (Nat.beq k 127) false false)))) (cond (Nat.blt k 130) (cond (Nat.blt k 129) (cond (Nat.beq k 128) false false) (cond (Nat.beq k 129) false false)) (cond (Nat.blt k 131) (cond (Nat.beq k 130) false false) (cond (Nat.blt k 132) (cond (Nat.beq k 131) false false) (cond (Nat.beq k 132) false false))))) (cond (Nat.blt k 138) (cond (Nat.blt k 135) (cond (Nat.blt k 134) (cond (Nat.beq k 133) false false) (cond (Nat.beq k 134) false false)) (cond (Nat.blt k 136) (cond (Nat.beq k 135) false false) (cond (Nat.blt k 137) (cond (Nat.beq k 136) false false) (cond (Nat.beq k 137) false false)))) (cond (Nat.blt k 140) (cond (Nat.blt k 139) (cond (Nat.beq k 138) false false) (cond (Nat.beq k 139) true false)) (cond (Nat.blt k 141) (cond (Nat.beq k 140) false false) (cond (Nat.blt k 142) (cond (Nat.beq k 141) false false) (cond (Nat.beq k 142) false false)))))) (cond (Nat.blt k 153) (cond (Nat.blt k 148) (cond (Nat.blt k 145) (cond (Nat.blt k 144) (cond (Nat.beq k 143) false false) (cond (Nat.beq k 144) false false)) (cond (Nat.blt k 146) (cond (Nat.beq k 145) false false) (cond (Nat.blt k 147) (cond (Nat.beq k 146) false false) (cond (Nat.beq k 147) false false)))) (cond (Nat.blt k 150) (cond (Nat.blt k 149) (cond (Nat.beq k 148) false false) (cond (Nat.beq k 149) false false)) (cond (Nat.blt k 151) (cond (Nat.beq k 150) false false) (cond (Nat.blt k 152) (cond (Nat.beq k 151) true false) (cond (Nat.beq k 152) false false))))) (cond (Nat.blt k 158) (cond (Nat.blt k 155) (cond (Nat.blt k 154) (cond (Nat.beq k 153) false false) (cond (Nat.beq k 154) false false)) (cond (Nat.blt k 156) (cond (Nat.beq k 155) false false) (cond (Nat.blt k 157) (cond (Nat.beq k 156) false false) (cond (Nat.beq k 157) false false)))) (cond (Nat.blt k 161) (cond (Nat.blt k 159) (cond (Nat.beq k 158) false false) (cond (Nat.blt k 160) (cond (Nat.beq k 159) false false) (cond (Nat.beq k 160) false false))) (cond (Nat.blt k 162) (cond (Nat.beq k 161) false false) (cond (Nat.blt k 163) (cond (Nat.beq k 162) false false) (cond (Nat.beq k 163) true false))))))))
/-- how many arguments, the receiver with them -/
def naM (k : Nat) : Nat := cond (Nat.blt k 82) (cond (Nat.blt k 41) (cond (Nat.blt k 20) (cond (Nat.blt k 10) (cond (Nat.blt k 5) (cond (Nat.blt k 2) (cond (Nat.blt k 1) (cond (Nat.beq k 0) 1 0) (cond (Nat.beq k 1) 2 0)) (cond (Nat.blt k 3) (cond (Nat.beq k 2) 2 0) (cond (Nat.blt k 4) (cond (Nat.beq k 3) 1 0) (cond (Nat.beq k 4) 2 0)))) (cond (Nat.blt k 7) (cond (Nat.blt k 6) (cond (Nat.beq k 5) 4 0) (cond (Nat.beq k 6) 3 0)) (cond (Nat.blt k 8) (cond (Nat.beq k 7) 3 0) (cond (Nat.blt k 9) (cond (Nat.beq k 8) 1 0) (cond (Nat.beq k 9) 3 0))))) (cond (Nat.blt k 15) (cond (Nat.blt k 12) (cond (Nat.blt k 11) (cond (Nat.beq k 10) 3 0) (cond (Nat.beq k 11) 2 0)) (cond (Nat.blt k 13) (cond (Nat.beq k 12) 1 0) (cond (Nat.blt k 14) (cond (Nat.beq k 13) 3 0) (cond (Nat.beq k 14) 2 0)))) (cond (Nat.blt k 17) (cond (Nat.blt k 16) (cond (Nat.beq k 15) 1 0) (cond (Nat.beq k 16) 1 0)) (cond (Nat.blt k 18) (cond (Nat.beq k 17) 4 0) (cond (Nat.blt k 19) (cond (Nat.beq k 18) 1 0) (cond (Nat.beq k 19) 4 0)))))) (cond (Nat.blt k 30) (cond (Nat.blt k 25) (cond (Nat.blt k 22) (cond (Nat.blt k 21) (cond (Nat.beq k 20) 2 0) (cond (Nat.beq k 21) 3 0)) (cond (Nat.blt k 23) (cond (Nat.beq k 22) 1 0) (cond (Nat.blt k 24) (cond (Nat.beq k 23) 1 0) (cond (Nat.beq k 24) 1 0)))) (cond (Nat.blt k 27) (cond (Nat.blt k 26) (cond (Nat.beq k 25) 1 0) (cond (Nat.beq k 26) 2 0)) (cond (Nat.blt k 28) (cond (Nat.beq k 27) 2 0) (cond (Nat.blt k 29) (cond (Nat.beq k 28) 2 0) (cond (Nat.beq k 29) 2 0))))) (cond (Nat.blt k 35) (cond (Nat.blt k 32) (cond (Nat.blt k 31) (cond (Nat.beq k 30) 2 0) (cond (Nat.beq k 31) 4 0)) (cond (Nat.blt k 33) (cond (Nat.beq k 32) 3 0) (cond (Nat.blt k 34) (cond (Nat.beq k 33) 3 0) (cond (Nat.beq k 34) 4 0)))) (cond (Nat.blt k 38) (cond (Nat.blt k 36) (cond (Nat.beq k 35) 3 0) (cond (Nat.blt k 37) (cond (Nat.beq k 36) 2 0) (cond (Nat.beq k 37) 2 0))) (cond (Nat.blt k 39) (cond (Nat.beq k 38) 2 0) (cond (Nat.blt k 40) (cond (Nat.beq k 39) 2 0) (cond (Nat.beq k 40) 2 0))))))) (cond (Nat.blt k 61) (cond (Nat.blt k 51) (cond (Nat.blt k 46) (cond (Nat.blt k 43) (cond (Nat.blt k 42) (cond (Nat.beq k 41) 4 0) (cond (Nat.beq k 42) 2 0)) (cond (Nat.blt k 44) (cond (Nat.beq k 43) 3 0) (cond (Nat.blt k 45) (cond (Nat.beq k 44) 3 0) (cond (Nat.beq k 45) 1 0)))) (cond (Nat.blt k 48) (cond (Nat.blt k 47) (cond (Nat.beq k 46) 2 0) (cond (Nat.beq k 47) 1 0)) (cond (Nat.blt k 49) (cond (Nat.beq k 48) 1 0) (cond (Nat.blt k 50) (cond (Nat.beq k 49) 3 0) (cond (Nat.beq k 50) 4 0))))) (cond (Nat.blt k 56) (cond (Nat.blt k 53) (cond (Nat.blt k 52) (cond (Nat.beq k 51) 4 0) (cond (Nat.beq k 52) 3 0)) (cond (Nat.blt k 54) (cond (Nat.beq k 53) 4 0) (cond (Nat.blt k 55) (cond (Nat.beq k 54) 2 0) (cond (Nat.beq k 55) 3 0)))) (cond (Nat.blt k 58) (cond (Nat.blt k 57) (cond (Nat.beq k 56) 3 0) (cond (Nat.beq k 57) 3 0)) (cond (Nat.blt k 59) (cond (Nat.beq k 58) 3 0) (cond (Nat.blt k 60) (cond (Nat.beq k 59) 1 0) (cond (Nat.beq k 60) 2 0)))))) (cond (Nat.blt k 71) (cond (Nat.blt k 66) (cond (Nat.blt k 63) (cond (Nat.blt k 62) (cond (Nat.beq k 61) 2 0) (cond (Nat.beq k 62) 2 0)) (cond (Nat.blt k 64) (cond (Nat.beq k 63) 1 0) (cond (Nat.blt k 65) (cond (Nat.beq k 64) 2 0) (cond (Nat.beq k 65) 1 0)))) (cond (Nat.blt k 68) (cond (Nat.blt k 67) (cond (Nat.beq k 66) 1 0) (cond (Nat.beq k 67) 2 0)) (cond (Nat.blt k 69) (cond (Nat.beq k 68) 3 0) (cond (Nat.blt k 70) (cond (Nat.beq k 69) 3 0) (cond (Nat.beq k 70) 3 0))))) (cond (Nat.blt k 76) (cond (Nat.blt k 73) (cond (Nat.blt k 72) (cond (Nat.beq k 71) 2 0) (cond (Nat.beq k 72) 3 0)) (cond (Nat.blt k 74) (cond (Nat.beq k 73) 3 0) (cond (Nat.blt k 75) (cond (Nat.beq k 74) 3 0) (cond (Nat.beq k 75) 2 0)))) (cond (Nat.blt k 79) (cond (Nat.blt k 77) (cond (Nat.beq k 76) 3 0) (cond (Nat.blt k 78) (cond (Nat.beq k 77) 2 0) (cond (Nat.beq k 78) 2 0))) (cond (Nat.blt k 80) (cond (Nat.beq k 79) 1 0) (cond (Nat.blt k 81) (cond (Nat.beq k 80) 2 0) (cond (Nat.beq k 81) 3 0)))))))) (cond (Nat.blt k 123) (cond (Nat.blt k 102) (cond (Nat.blt k 92) (cond (Nat.blt k 87) (cond (Nat.blt k 84) (cond (Nat.blt k 83) (cond (Nat.beq k 82) 3 0) (cond (Nat.beq k 83) 1 0)) (cond (Nat.blt k 85) (cond (Nat.beq k 84) 4 0) (cond (Nat.blt k 86) (cond (Nat.beq k 85) 3 0) (cond (Nat.beq k 86) 1 0)))) (cond (Nat.blt k 89) (cond (Nat.blt k 88) (cond (Nat.beq k 87) 3 0) (cond (Nat.beq k 88) 2 0)) (cond (Nat.blt k 90) (cond (Nat.beq k 89) 2 0) (cond (Nat.blt k 91) (cond (Nat.beq k 90) 5 0) (cond (Nat.beq k 91) 1 0))))) (cond (Nat.blt k 97) (cond (Nat.blt k 94) (cond (Nat.blt k 93) (cond (Nat.beq k 92) 2 0) (cond (Nat.beq k 93) 2 0)) (cond (Nat.blt k 95) (cond (Nat.beq k 94) 2 0) (cond (Nat.blt k 96) (cond (Nat.beq k 95) 2 0) (cond (Nat.beq k 96) 3 0)))) (cond (Nat.blt k 99) (cond (Nat.blt k 98) (cond (Nat.beq k 97) 2 0) (cond (Nat.beq k 98) 2 0)) (cond (Nat.blt k 100) (cond (Nat.beq k 99) 2 0) (cond (Nat.blt k 101) (cond (Nat.beq k 100) 2 0) (cond (Nat.beq k 101) 1 0)))))) (cond (Nat.blt k 112) (cond (Nat.blt k 107) (cond (Nat.blt k 104) (cond (Nat.blt k 103) (cond (Nat.beq k 102) 2 0) (cond (Nat.beq k 103) 2 0)) (cond (Nat.blt k 105) (cond (Nat.beq k 104) 1 0) (cond (Nat.blt k 106) (cond (Nat.beq k 105) 3 0) (cond (Nat.beq k 106) 4 0)))) (cond (Nat.blt k 109) (cond (Nat.blt k 108) (cond (Nat.beq k 107) 4 0) (cond (Nat.beq k 108) 2 0)) (cond (Nat.blt k 110) (cond (Nat.beq k 109) 3 0) (cond (Nat.blt k 111) (cond (Nat.beq k 110) 4 0) (cond (Nat.beq k 111) 4 0))))) (cond (Nat.blt k 117) (cond (Nat.blt k 114) (cond (Nat.blt k 113) (cond (Nat.beq k 112) 1 0) (cond (Nat.beq k 113) 4 0)) (cond (Nat.blt k 115) (cond (Nat.beq k 114) 2 0) (cond (Nat.blt k 116) (cond (Nat.beq k 115) 4 0) (cond (Nat.beq k 116) 2 0)))) (cond (Nat.blt k 120) (cond (Nat.blt k 118) (cond (Nat.beq k 117) 3 0) (cond (Nat.blt k 119) (cond (Nat.beq k 118) 4 0) (cond (Nat.beq k 119) 3 0))) (cond (Nat.blt k 121) (cond (Nat.beq k 120) 3 0) (cond (Nat.blt k 122) (cond (Nat.beq k 121) 4 0) (cond (Nat.beq k 122) 3 0))))))) (cond (Nat.blt k 143) (cond (Nat.blt k 133) (cond (Nat.blt k 128) (cond (Nat.blt k 125) (cond (Nat.blt k 124) (cond (Nat.beq k 123) 1 0) (cond (Nat.beq k 124) 2 0)) (cond (Nat.blt k 126) (cond (Nat.beq k 125) 2 0) (cond (Nat.blt k 127) (cond (Nat.beq k 126) 2 0) (cond (Nat.beq k 127) 2 0)))) (cond (Nat.blt k 130) (cond (Nat.blt k 129) (cond (Nat.beq k 128) 2 0) (cond (Nat.beq k 129) 1 0)) (cond (Nat.blt k 131) (cond (Nat.beq k 130) 2 0) (cond (Nat.blt k 132) (cond (Nat.beq k 131) 1 0) (cond (Nat.beq k 132) 1 0))))) (cond (Nat.blt k 138) (cond (Nat.blt k 135) (cond (Nat.blt k 134) (cond (Nat.beq k 133) 1 0) (cond (Nat.beq k 134) 3 0)) (cond (Nat.blt k 136) (cond (Nat.beq k 135) 1 0) (cond (Nat.blt k 137) (cond (Nat.beq k 136) 1 0) (cond (Nat.beq k 137) 1 0)))) (cond (Nat.blt k 140) (cond (Nat.blt k 139) (cond (Nat.beq k 138) 3 0) (cond (Nat.beq k 139) 3 0)) (cond (Nat.blt k 141) (cond (Nat.beq k 140) 6 0) (cond (Nat.blt k 142) (cond (Nat.beq k 141) 4 0) (cond (Nat.beq k 142) 3 0)))))) (cond (Nat.blt k 153) (cond (Nat.blt k 148) (cond (Nat.blt k 145) (cond (Nat.blt k 144) (cond (Nat.beq k 143) 2 0) (cond (Nat.beq k 144) 1 0)) (cond (Nat.blt k 146) (cond (Nat.beq k 145) 2 0) (cond (Nat.blt k 147) (cond (Nat.beq k 146) 3 0) (cond (Nat.beq k 147) 3 0)))) (cond (Nat.blt k 150) (cond (Nat.blt k 149) (cond (Nat.beq k 148) 3 0) (cond (Nat.beq k 149) 2 0)) (cond (Nat.blt k 151) (cond (Nat.beq k 150) 3 0) (cond (Nat.blt k 152) (cond (Nat.beq k 151) 1 0) (cond (Nat.beq k 152) 3 0))))) (cond (Nat.blt k 158) (cond (Nat.blt k 155) (cond (Nat.blt k 154) (cond (Nat.beq k 153) 3 0) (cond (Nat.beq k 154) 3 0)) (cond (Nat.blt k 156) (cond (Nat.beq k 155) 2 0) (cond (Nat.blt k 157) (cond (Nat.beq k 156) 3 0) (cond (Nat.beq k 157) 2 0)))) (cond (Nat.blt k 161) (cond (Nat.blt k 159) (cond (Nat.beq k 158) 2 0) (cond (Nat.blt k 160) (cond (Nat.beq k 159) 2 0) (cond (Nat.beq k 160) 1 0))) (cond (Nat.blt k 162) (cond (Nat.beq k 161) 2 0) (cond (Nat.blt k 163) (cond (Nat.beq k 162) 3 0) (cond (Nat.beq k 163) 1 0))))))))
/-- how deep its calls go -/
def dpM (k : Nat) : Nat := cond (Nat.blt k 82) (cond (Nat.blt k 41) (cond (Nat.blt k 20) (cond (Nat.blt k 10) (cond (Nat.blt k 5) (cond (Nat.blt k 2) (cond (Nat.blt k 1) (cond (Nat.beq k 0) 1 99) (cond (Nat.beq k 1) 1 99)) (cond (Nat.blt k 3) (cond (Nat.beq k 2) 0 99) (cond (Nat.blt k 4) (cond (Nat.beq k 3) 1 99) (cond (Nat.beq k 4) 4 99)))) (cond (Nat.blt k 7) (cond (Nat.blt k 6) (cond (Nat.beq k 5) 2 99) (cond (Nat.beq k 6) 3 99)) (cond (Nat.blt k 8) (cond (Nat.beq k 7) 0 99) (cond (Nat.blt k 9) (cond (Nat.beq k 8) 3 99) (cond (Nat.beq k 9) 2 99))))) (cond (Nat.blt k 15) (cond (Nat.blt k 12) (cond (Nat.blt k 11) (cond (Nat.beq k 10) 1 99) (cond (Nat.beq k 11) 1 99)) (cond (Nat.blt k 13) (cond (Nat.beq k 12) 3 99) (cond (Nat.blt k 14) (cond (Nat.beq k 13) 2 99) (cond (Nat.beq k 14) 1 99)))) (cond (Nat.blt k 17) (cond (Nat.blt k 16) (cond (Nat.beq k 15) 4 99) (cond (Nat.beq k 16) 0 99)) (cond (Nat.blt k 18) (cond (Nat.beq k 17) 2 99) (cond (Nat.blt k 19) (cond (Nat.beq k 18) 1 99) (cond (Nat.beq k 19) 3 99)))))) (cond (Nat.blt k 30) (cond (Nat.blt k 25) (cond (Nat.blt k 22) (cond (Nat.blt k 21) (cond (Nat.beq k 20) 2 99) (cond (Nat.beq k 21) 1 99)) (cond (Nat.blt k 23) (cond (Nat.beq k 22) 0 99) (cond (Nat.blt k 24) (cond (Nat.beq k 23) 0 99) (cond (Nat.beq k 24) 0 99)))) (cond (Nat.blt k 27) (cond (Nat.blt k 26) (cond (Nat.beq k 25) 1 99) (cond (Nat.beq k 26) 1 99)) (cond (Nat.blt k 28) (cond (Nat.beq k 27) 0 99) (cond (Nat.blt k 29) (cond (Nat.beq k 28) 0 99) (cond (Nat.beq k 29) 0 99))))) (cond (Nat.blt k 35) (cond (Nat.blt k 32) (cond (Nat.blt k 31) (cond (Nat.beq k 30) 0 99) (cond (Nat.beq k 31) 1 99)) (cond (Nat.blt k 33) (cond (Nat.beq k 32) 2 99) (cond (Nat.blt k 34) (cond (Nat.beq k 33) 2 99) (cond (Nat.beq k 34) 3 99)))) (cond (Nat.blt k 38) (cond (Nat.blt k 36) (cond (Nat.beq k 35) 1 99) (cond (Nat.blt k 37) (cond (Nat.beq k 36) 2 99) (cond (Nat.beq k 37) 0 99))) (cond (Nat.blt k 39) (cond (Nat.beq k 38) 0 99) (cond (Nat.blt k 40) (cond (Nat.beq k 39) 0 99) (cond (Nat.beq k 40) 1 99))))))) (cond (Nat.blt k 61) (cond (Nat.blt k 51) (cond (Nat.blt k 46) (cond (Nat.blt k 43) (cond (Nat.blt k 42) (cond (Nat.beq k 41) 1 99) (cond (Nat.beq k 42) 1 99)) (cond (Nat.blt k 44) (cond (Nat.beq k 43) 0 99) (cond (Nat.blt k 45) (cond (Nat.beq k 44) 0 99) (cond (Nat.beq k 45) 2 99)))) (cond (Nat.blt k 48) (cond (Nat.blt k 47) (cond (Nat.beq k 46) 2 99) (cond (Nat.beq k 47) 0 99)) (cond (Nat.blt k 49) (cond (Nat.beq k 48) 3 99) (cond (Nat.blt k 50) (cond (Nat.beq k 49) 4 99) (cond (Nat.beq k 50) 4 99))))) (cond (Nat.blt k 56) (cond (Nat.blt k 53) (cond (Nat.blt k 52) (cond (Nat.beq k 51) 4 99) (cond (Nat.beq k 52) 4 99)) (cond (Nat.blt k 54) (cond (Nat.beq k 53) 4 99) (cond (Nat.blt k 55) (cond (Nat.beq k 54) 4 99) (cond (Nat.beq k 55) 4 99)))) (cond (Nat.blt k 58) (cond (Nat.blt k 57) (cond (Nat.beq k 56) 4 99) (cond (Nat.beq k 57) 4 99)) (cond (Nat.blt k 59) (cond (Nat.beq k 58) 4 99) (cond (Nat.blt k 60) (cond (Nat.beq k 59) 5 99) (cond (Nat.beq k 60) 4 99)))))) (cond (Nat.blt k 71) (cond (Nat.blt k 66) (cond (Nat.blt k 63) (cond (Nat.blt k 62) (cond (Nat.beq k 61) 4 99) (cond (Nat.beq k 62) 4 99)) (cond (Nat.blt k 64) (cond (Nat.beq k 63) 3 99) (cond (Nat.blt k 65) (cond (Nat.beq k 64) 1 99) (cond (Nat.beq k 65) 0 99)))) (cond (Nat.blt k 68) (cond (Nat.blt k 67) (cond (Nat.beq k 66) 4 99) (cond (Nat.beq k 67) 2 99)) (cond (Nat.blt k 69) (cond (Nat.beq k 68) 1 99) (cond (Nat.blt k 70) (cond (Nat.beq k 69) 3 99) (cond (Nat.beq k 70) 1 99))))) (cond (Nat.blt k 76) (cond (Nat.blt k 73) (cond (Nat.blt k 72) (cond (Nat.beq k 71) 1 99) (cond (Nat.beq k 72) 1 99)) (cond (Nat.blt k 74) (cond (Nat.beq k 73) 5 99) (cond (Nat.blt k 75) (cond (Nat.beq k 74) 2 99) (cond (Nat.beq k 75) 5 99)))) (cond (Nat.blt k 79) (cond (Nat.blt k 77) (cond (Nat.beq k 76) 5 99) (cond (Nat.blt k 78) (cond (Nat.beq k 77) 5 99) (cond (Nat.beq k 78) 4 99))) (cond (Nat.blt k 80) (cond (Nat.beq k 79) 2 99) (cond (Nat.blt k 81) (cond (Nat.beq k 80) 5 99) (cond (Nat.beq k 81) 3 99)))))))) (cond (Nat.blt k 123) (cond (Nat.blt k 102) (cond (Nat.blt k 92) (cond (Nat.blt k 87) (cond (Nat.blt k 84) (cond (Nat.blt k 83) (cond (Nat.beq k 82) 0 99) (cond (Nat.beq k 83) 3 99)) (cond (Nat.blt k 85) (cond (Nat.beq k 84) 0 99) (cond (Nat.blt k 86) (cond (Nat.beq k 85) 3 99) (cond (Nat.beq k 86) 1 99)))) (cond (Nat.blt k 89) (cond (Nat.blt k 88) (cond (Nat.beq k 87) 0 99) (cond (Nat.beq k 88) 0 99)) (cond (Nat.blt k 90) (cond (Nat.beq k 89) 0 99) (cond (Nat.blt k 91) (cond (Nat.beq k 90) 0 99) (cond (Nat.beq k 91) 1 99))))) (cond (Nat.blt k 97) (cond (Nat.blt k 94) (cond (Nat.blt k 93) (cond (Nat.beq k 92) 1 99) (cond (Nat.beq k 93) 1 99)) (cond (Nat.blt k 95) (cond (Nat.beq k 94) 0 99) (cond (Nat.blt k 96) (cond (Nat.beq k 95) 0 99) (cond (Nat.beq k 96) 1 99)))) (cond (Nat.blt k 99) (cond (Nat.blt k 98) (cond (Nat.beq k 97) 0 99) (cond (Nat.beq k 98) 0 99)) (cond (Nat.blt k 100) (cond (Nat.beq k 99) 0 99) (cond (Nat.blt k 101) (cond (Nat.beq k 100) 1 99) (cond (Nat.beq k 101) 2 99)))))) (cond (Nat.blt k 112) (cond (Nat.blt k 107) (cond (Nat.blt k 104) (cond (Nat.blt k 103) (cond (Nat.beq k 102) 3 99) (cond (Nat.beq k 103) 2 99)) (cond (Nat.blt k 105) (cond (Nat.beq k 104) 1 99) (cond (Nat.blt k 106) (cond (Nat.beq k 105) 2 99) (cond (Nat.beq k 106) 2 99)))) (cond (Nat.blt k 109) (cond (Nat.blt k 108) (cond (Nat.beq k 107) 2 99) (cond (Nat.beq k 108) 1 99)) (cond (Nat.blt k 110) (cond (Nat.beq k 109) 2 99) (cond (Nat.blt k 111) (cond (Nat.beq k 110) 0 99) (cond (Nat.beq k 111) 0 99))))) (cond (Nat.blt k 117) (cond (Nat.blt k 114) (cond (Nat.blt k 113) (cond (Nat.beq k 112) 0 99) (cond (Nat.beq k 113) 1 99)) (cond (Nat.blt k 115) (cond (Nat.beq k 114) 1 99) (cond (Nat.blt k 116) (cond (Nat.beq k 115) 3 99) (cond (Nat.beq k 116) 3 99)))) (cond (Nat.blt k 120) (cond (Nat.blt k 118) (cond (Nat.beq k 117) 3 99) (cond (Nat.blt k 119) (cond (Nat.beq k 118) 4 99) (cond (Nat.beq k 119) 5 99))) (cond (Nat.blt k 121) (cond (Nat.beq k 120) 5 99) (cond (Nat.blt k 122) (cond (Nat.beq k 121) 2 99) (cond (Nat.beq k 122) 4 99))))))) (cond (Nat.blt k 143) (cond (Nat.blt k 133) (cond (Nat.blt k 128) (cond (Nat.blt k 125) (cond (Nat.blt k 124) (cond (Nat.beq k 123) 5 99) (cond (Nat.beq k 124) 0 99)) (cond (Nat.blt k 126) (cond (Nat.beq k 125) 0 99) (cond (Nat.blt k 127) (cond (Nat.beq k 126) 2 99) (cond (Nat.beq k 127) 3 99)))) (cond (Nat.blt k 130) (cond (Nat.blt k 129) (cond (Nat.beq k 128) 3 99) (cond (Nat.beq k 129) 1 99)) (cond (Nat.blt k 131) (cond (Nat.beq k 130) 1 99) (cond (Nat.blt k 132) (cond (Nat.beq k 131) 0 99) (cond (Nat.beq k 132) 0 99))))) (cond (Nat.blt k 138) (cond (Nat.blt k 135) (cond (Nat.blt k 134) (cond (Nat.beq k 133) 1 99) (cond (Nat.beq k 134) 2 99)) (cond (Nat.blt k 136) (cond (Nat.beq k 135) 3 99) (cond (Nat.blt k 137) (cond (Nat.beq k 136) 4 99) (cond (Nat.beq k 137) 1 99)))) (cond (Nat.blt k 140) (cond (Nat.blt k 139) (cond (Nat.beq k 138) 1 99) (cond (Nat.beq k 139) 0 99)) (cond (Nat.blt k 141) (cond (Nat.beq k 140) 2 99) (cond (Nat.blt k 142) (cond (Nat.beq k 141) 4 99) (cond (Nat.beq k 142) 3 99)))))) (cond (Nat.blt k 153) (cond (Nat.blt k 148) (cond (Nat.blt k 145) (cond (Nat.blt k 144) (cond (Nat.beq k 143) 3 99) (cond (Nat.beq k 144) 3 99)) (cond (Nat.blt k 146) (cond (Nat.beq k 145) 4 99) (cond (Nat.blt k 147) (cond (Nat.beq k 146) 2 99) (cond (Nat.beq k 147) 2 99)))) (cond (Nat.blt k 150) (cond (Nat.blt k 149) (cond (Nat.beq k 148) 1 99) (cond (Nat.beq k 149) 1 99)) (cond (Nat.blt k 151) (cond (Nat.beq k 150) 2 99) (cond (Nat.blt k 152) (cond (Nat.beq k 151) 0 99) (cond (Nat.beq k 152) 1 99))))) (cond (Nat.blt k 158) (cond (Nat.blt k 155) (cond (Nat.blt k 154) (cond (Nat.beq k 153) 5 99) (cond (Nat.beq k 154) 4 99)) (cond (Nat.blt k 156) (cond (Nat.beq k 155) 5 99) (cond (Nat.blt k 157) (cond (Nat.beq k 156) 5 99) (cond (Nat.beq k 157) 5 99)))) (cond (Nat.blt k 161) (cond (Nat.blt k 159) (cond (Nat.beq k 158) 2 99) (cond (Nat.blt k 160) (cond (Nat.beq k 159) 3 99) (cond (Nat.beq k 160) 3 99))) (cond (Nat.blt k 162) (cond (Nat.beq k 161) 5 99) (cond (Nat.blt k 163) (cond (Nat.beq k 162) 3 99) (cond (Nat.beq k 163) 6 99))))))))
def inM (k : Nat) : Bool := ([0, 3, 18, 25, 45, 48, 86] : List Nat).contains k
def fldT : List (List Nat) := [[0, 9, 0, 0], [0, 15, 0, 1], [0, 19, 3, 4], [0, 24, 0, 2], [0, 28, 0, 3], [0, 31, 3, 5], [0, 34, 3, 7], [0, 37, 3, 8], [0, 46, 3, 6], [0, 56, 3, 3], [1, 9, 1, 0], [1, 15, 1, 1], [1, 18, 1, 2], [1, 22, 1, 3], [1, 25, 1, 4], [1, 28, 1, 5], [1, 31, 3, 8], [1, 37, 1, 6], [1, 38, 3, 0], [1, 41, 1, 7], [1, 42, 3, 4], [1, 45, 1, 8], [1, 52, 3, 5], [1, 55, 3, 7], [1, 64, 3, 6], [1, 74, 3, 9], [2, 9, 2, 0], [2, 15, 2, 1], [2, 25, 2, 2], [2, 28, 2, 3], [2, 42, 3, 5], [2, 47, 3, 8], [2, 57, 3, 0], [2, 60, 3, 9], [3, 9, 3, 1], [3, 15, 3, 2], [3, 18, 3, 3], [3, 21, 3, 4], [3, 24, 3, 6], [3, 27, 3, 7], [3, 30, 3, 9], [3, 33, 3, 10], [3, 36, 3, 0], [3, 46, 3, 5], [3, 49, 3, 8], [4, 12, 4, 0], [4, 18, 4, 1], [4, 22, 4, 2], [5, 10, 5, 0], [5, 16, 5, 1], [5, 20, 5, 2], [5, 27, 5, 3], [5, 34, 5, 4], [5, 41, 5, 5], [5, 48, 5, 6], [5, 52, 5, 7], [5, 56, 5, 8], [5, 59, 4, 0], [5, 66, 3, 0], [5, 72, 3, 1], [5, 75, 3, 2], [5, 89, 3, 3], [5, 98, 3, 4], [5, 101, 3, 5], [5, 111, 3, 8], [5, 121, 3, 7], [5, 138, 3, 9], [5, 141, 3, 10], [5, 167, 1, 0], [5, 176, 0, 3], [5, 179, 3, 6], [5, 182, 4, 1], [5, 186, 4, 2], [5, 197, 2, 0], [5, 204, 0, 2], [5, 216, 0, 0], [5, 219, 0, 1], [6, 7, 6, 0], [6, 13, 6, 1], [6, 16, 6, 2], [6, 19, 6, 4], [6, 22, 6, 6], [6, 25, 6, 7], [6, 29, 6, 10], [6, 32, 6, 11], [6, 35, 6, 12], [6, 38, 6, 3], [6, 136, 6, 5], [6, 139, 6, 8], [6, 148, 6, 9]]
def statT : List (List Nat) := [[3, 40, 0], [3, 43, 1], [5, 86, 2], [5, 92, 3], [5, 95, 4]]
def newT : List (List Nat) := [[4, 9, 3], [5, 7, 4], [5, 24, 3], [5, 31, 0], [5, 38, 1], [5, 45, 2], [7, 7, 5], [7, 10, 6]]
def anewT : List (List Nat) := [[4, 9, 3], [5, 7, 2]]
def ldcT : List (List Nat) := [[1, 84, 1000000], [5, 238, 99999], [6, 119, 1000000], [6, 195, 99999]]
def methT : List (List Nat) := [[0, 49, 2], [1, 48, 6], [1, 67, 5], [1, 71, 35], [1, 77, 7], [1, 81, 32], [1, 85, 9], [1, 88, 11], [1, 92, 10], [1, 101, 13], [1, 104, 14], [1, 107, 8], [1, 111, 16], [1, 114, 17], [2, 31, 22], [2, 34, 20], [2, 38, 24], [2, 50, 21], [2, 53, 41], [2, 63, 23], [3, 68, 31], [3, 72, 32], [3, 75, 35], [3, 78, 39], [3, 81, 38], [3, 84, 43], [3, 88, 44], [4, 11, 25], [4, 26, 26], [5, 9, 45], [5, 26, 25], [5, 33, 0], [5, 40, 3], [5, 47, 18], [5, 62, 82], [5, 69, 83], [5, 78, 27], [5, 82, 31], [5, 104, 30], [5, 107, 41], [5, 114, 28], [5, 117, 42], [5, 124, 38], [5, 128, 44], [5, 132, 43], [5, 135, 29], [5, 144, 84], [5, 148, 34], [5, 151, 32], [5, 155, 4], [5, 159, 8], [5, 163, 15], [5, 170, 26], [5, 173, 1], [5, 190, 46], [5, 193, 19], [5, 200, 37], [5, 207, 47], [5, 210, 39], [5, 213, 40], [5, 222, 35], [5, 225, 12], [5, 228, 7], [5, 231, 36], [5, 234, 85], [5, 239, 6], [5, 243, 33], [6, 42, 90], [6, 46, 87], [6, 50, 94], [6, 54, 88], [6, 58, 95], [6, 61, 89], [6, 64, 98], [6, 67, 100], [6, 70, 101], [6, 74, 104], [6, 78, 91], [6, 81, 92], [6, 84, 108], [6, 88, 99], [6, 91, 112], [6, 95, 110], [6, 99, 114], [6, 103, 113], [6, 106, 93], [6, 109, 111], [6, 112, 102], [6, 115, 118], [6, 120, 96], [6, 123, 121], [6, 126, 141], [6, 129, 124], [6, 132, 125], [6, 142, 132], [6, 145, 133], [6, 151, 134], [6, 154, 135], [6, 158, 97], [6, 161, 139], [6, 164, 137], [6, 167, 138], [6, 170, 140], [6, 174, 142], [6, 177, 143], [6, 180, 144], [6, 183, 103], [6, 186, 151], [6, 189, 152], [6, 192, 158], [7, 9, 48], [7, 12, 86], [7, 13, 49], [7, 17, 105], [7, 18, 50], [7, 22, 106], [7, 23, 51], [7, 26, 107], [7, 27, 52], [7, 30, 109], [7, 31, 53], [7, 34, 115], [7, 35, 54], [7, 39, 116], [7, 40, 55], [7, 43, 117], [7, 44, 56], [7, 47, 119], [7, 48, 57], [7, 51, 120], [7, 52, 58], [7, 55, 122], [7, 56, 59], [7, 60, 123], [7, 61, 60], [7, 64, 126], [7, 65, 61], [7, 68, 127], [7, 69, 62], [7, 72, 128], [7, 73, 63], [7, 76, 129], [7, 77, 64], [7, 80, 130], [7, 81, 65], [7, 84, 131], [7, 85, 66], [7, 88, 136], [7, 89, 67], [7, 92, 145], [7, 93, 68], [7, 96, 146], [7, 97, 69], [7, 100, 147], [7, 101, 70], [7, 104, 148], [7, 105, 71], [7, 108, 149], [7, 109, 72], [7, 112, 150], [7, 113, 73], [7, 116, 153], [7, 117, 74], [7, 120, 154], [7, 121, 75], [7, 124, 155], [7, 125, 76], [7, 128, 156], [7, 129, 77], [7, 132, 157], [7, 133, 78], [7, 136, 159], [7, 137, 79], [7, 140, 160], [7, 141, 80], [7, 144, 161], [7, 145, 81], [7, 148, 162]]
def natT : List (List Nat) := [[0, 3, 1000], [0, 40, 1003], [0, 53, 1004], [1, 3, 1000], [1, 58, 1003], [1, 95, 1001], [2, 3, 1000], [2, 19, 1003], [3, 3, 1000], [3, 52, 1001], [3, 58, 1002], [3, 64, 1004], [4, 3, 1000], [5, 1, 1000], [6, 1, 1000]]
end
section
def b_A_init_0 : List RI := [(.aload_n 0, []), (.invokespecial 3, [1000, 1, 0]), (.aload_n 0, []), (.bipush 99, []), (.newarray .int, [0]), (.putfield 9, [0, 0]), (.aload_n 0, []), (.bipush 99, []), (.newarray .boolean, [1]), (.putfield 15, [0, 1]), (.return_, [])]
def p_A_init (L : Nat) : List RI := cond (Nat.beq L 0) b_A_init_0 []
def b_A_follow_0 : List RI := [(.aload_n 1, []), (.getfield 19, [3, 4]), (.iconst 3, []), (.iaload, []), (.istore_n 2, []), (.iconst 0, []), (.istore_n 3, []), (.aload_n 0, []), (.iconst 0, []), (.putfield 24, [0, 2]), (.aload_n 0, []), (.iconst (-1), []), (.putfield 28, [0, 3]), (.iconst 0, []), (.istore 4, []), (.nop, [22])]
def b_A_follow_22 : List RI := [(.iload 4, []), (.aload_n 1, []), (.getfield 31, [3, 5]), (.if_icmp .ge 134, [162]), (.iload_n 3, []), (.aload_n 1, []), (.getfield 34, [3, 7]), (.iload 4, []), (.iaload, []), (.iadd, []), (.aload_n 1, []), (.getfield 37, [3, 8]), (.invokestatic 40, [1003, 2, 0]), (.istore 5, []), (.nop, [49])]
def b_A_follow_49 : List RI := [(.iload_n 3, []), (.iload 5, []), (.if_icmp .ge 104, [156]), (.aload_n 1, []), (.aload_n 1, []), (.getfield 46, [3, 6]), (.iload 4, []), (.iaload, []), (.invokestatic 49, [2, 2, 0]), (.istore 6, []), (.aload_n 0, []), (.getfield 15, [0, 1]), (.iload_n 3, []), (.iload_n 2, []), (.iload 6, []), (.iadd, []), (.ifCond .ge 7, [84]), (.iconst 1, []), (.goto 4, [85])]
def b_A_follow_84 : List RI := [(.iconst 0, []), (.nop, [85])]
def b_A_follow_85 : List RI := [(.bastore, []), (.aload_n 0, []), (.getfield 15, [0, 1]), (.iload_n 3, []), (.baload, []), (.ifCond .eq 33, [125]), (.aload_n 0, []), (.aload_n 0, []), (.getfield 24, [0, 2]), (.ifCond .ne 8, [108]), (.iload 4, []), (.goto 7, [112])]
def b_A_follow_108 : List RI := [(.aload_n 0, []), (.getfield 28, [0, 3]), (.nop, [112])]
def b_A_follow_112 : List RI := [(.putfield 28, [0, 3]), (.aload_n 0, []), (.dup, []), (.getfield 24, [0, 2]), (.iconst 1, []), (.iadd, []), (.putfield 24, [0, 2]), (.nop, [125])]
def b_A_follow_125 : List RI := [(.iload_n 2, []), (.iload 6, []), (.iadd, []), (.iconst 0, []), (.invokestatic 53, [1004, 2, 0]), (.aload_n 1, []), (.getfield 19, [3, 4]), (.iconst 3, []), (.iaload, []), (.invokestatic 40, [1003, 2, 0]), (.istore_n 2, []), (.aload_n 0, []), (.getfield 9, [0, 0]), (.iload_n 3, []), (.iload_n 2, []), (.iastore, []), (.iinc 3 1, []), (.goto (-104), [49])]
def b_A_follow_156 : List RI := [(.iinc 4 1, []), (.goto (-137), [22])]
def b_A_follow_162 : List RI := [(.return_, [])]
def p_A_follow (L : Nat) : List RI := cond (Nat.blt L 108) (cond (Nat.blt L 49) (cond (Nat.blt L 22) (cond (Nat.beq L 0) b_A_follow_0 []) (cond (Nat.beq L 22) b_A_follow_22 [])) (cond (Nat.blt L 84) (cond (Nat.beq L 49) b_A_follow_49 []) (cond (Nat.blt L 85) (cond (Nat.beq L 84) b_A_follow_84 []) (cond (Nat.beq L 85) b_A_follow_85 [])))) (cond (Nat.blt L 125) (cond (Nat.blt L 112) (cond (Nat.beq L 108) b_A_follow_108 []) (cond (Nat.beq L 112) b_A_follow_112 [])) (cond (Nat.blt L 156) (cond (Nat.beq L 125) b_A_follow_125 []) (cond (Nat.blt L 162) (cond (Nat.beq L 156) b_A_follow_156 []) (cond (Nat.beq L 162) b_A_follow_162 []))))
def b_A_changeIn_0 : List RI := [(.iload_n 1, []), (.bipush 9, []), (.if_icmp .ne 12, [15]), (.aload_n 0, []), (.getfield 19, [3, 4]), (.iconst 4, []), (.iaload, []), (.goto 14, [26])]
def b_A_changeIn_15 : List RI := [(.aload_n 0, []), (.getfield 56, [3, 3]), (.iload_n 1, []), (.iconst 4, []), (.imul, []), (.iconst 3, []), (.iadd, []), (.iaload, []), (.ineg, []), (.nop, [26])]
def b_A_changeIn_26 : List RI := [(.ireturn, [0])]
def p_A_changeIn (L : Nat) : List RI := cond (Nat.blt L 15) (cond (Nat.beq L 0) b_A_changeIn_0 []) (cond (Nat.blt L 26) (cond (Nat.beq L 15) b_A_changeIn_15 []) (cond (Nat.beq L 26) b_A_changeIn_26 []))
def b_P_init_0 : List RI := [(.aload_n 0, []), (.invokespecial 3, [1000, 1, 0]), (.aload_n 0, []), (.bipush 99, []), (.newarray .int, [0]), (.putfield 9, [1, 0]), (.aload_n 0, []), (.sipush 792, []), (.newarray .int, [0]), (.putfield 15, [1, 1]), (.aload_n 0, []), (.bipush 64, []), (.newarray .boolean, [1]), (.putfield 18, [1, 2]), (.aload_n 0, []), (.sipush 2376, []), (.newarray .int, [0]), (.putfield 22, [1, 3]), (.aload_n 0, []), (.bipush 24, []), (.newarray .int, [0]), (.putfield 25, [1, 4]), (.aload_n 0, []), (.bipush 24, []), (.newarray .int, [0]), (.putfield 28, [1, 5]), (.return_, [])]
def p_P_init (L : Nat) : List RI := cond (Nat.beq L 0) b_P_init_0 []
def b_P_prepare_0 : List RI := [(.aload_n 0, []), (.aload_n 1, []), (.getfield 31, [3, 8]), (.putfield 37, [1, 6]), (.aload_n 0, []), (.aload_n 1, []), (.getfield 38, [3, 0]), (.putfield 41, [1, 7]), (.aload_n 0, []), (.aload_n 1, []), (.getfield 42, [3, 4]), (.iconst 1, []), (.iaload, []), (.putfield 45, [1, 8]), (.aload_n 0, []), (.aload_n 1, []), (.aload_n 1, []), (.getfield 42, [3, 4]), (.iconst 0, []), (.iaload, []), (.invokevirtual 48, [6, 3, 11]), (.iconst 0, []), (.istore_n 2, []), (.iconst 0, []), (.istore_n 3, []), (.nop, [41])]
def b_P_prepare_41 : List RI := [(.iload_n 3, []), (.aload_n 1, []), (.getfield 52, [3, 5]), (.if_icmp .ge 50, [96]), (.iload_n 2, []), (.aload_n 1, []), (.getfield 55, [3, 7]), (.iload_n 3, []), (.iaload, []), (.iadd, []), (.aload_n 0, []), (.getfield 37, [1, 6]), (.invokestatic 58, [1003, 2, 0]), (.istore 4, []), (.nop, [66])]
def b_P_prepare_66 : List RI := [(.iload_n 2, []), (.iload 4, []), (.if_icmp .ge 21, [90]), (.aload_n 0, []), (.aload_n 1, []), (.iload_n 2, []), (.aload_n 1, []), (.getfield 64, [3, 6]), (.iload_n 3, []), (.iaload, []), (.invokevirtual 67, [5, 4, 11]), (.iinc 2 1, []), (.goto (-21), [66])]
def b_P_prepare_90 : List RI := [(.iinc 3 1, []), (.goto (-52), [41])]
def b_P_prepare_96 : List RI := [(.return_, [])]
def p_P_prepare (L : Nat) : List RI := cond (Nat.blt L 66) (cond (Nat.blt L 41) (cond (Nat.beq L 0) b_P_prepare_0 []) (cond (Nat.beq L 41) b_P_prepare_41 [])) (cond (Nat.blt L 90) (cond (Nat.beq L 66) b_P_prepare_66 []) (cond (Nat.blt L 96) (cond (Nat.beq L 90) b_P_prepare_90 []) (cond (Nat.beq L 96) b_P_prepare_96 [])))
def b_P_fillCosts_0 : List RI := [(.iconst 0, []), (.istore 4, []), (.nop, [3])]
def b_P_fillCosts_3 : List RI := [(.iload 4, []), (.aload_n 0, []), (.getfield 41, [1, 7]), (.if_icmp .ge 28, [37]), (.aload_n 0, []), (.getfield 15, [1, 1]), (.iload_n 2, []), (.bipush 8, []), (.imul, []), (.iload 4, []), (.iadd, []), (.aload_n 1, []), (.iload_n 3, []), (.iload 4, []), (.invokevirtual 71, [35, 3, 13]), (.iastore, []), (.iinc 4 1, []), (.goto (-31), [3])]
def b_P_fillCosts_37 : List RI := [(.aload_n 1, []), (.getfield 74, [3, 9]), (.iload_n 2, []), (.iaload, []), (.bipush (-99), []), (.if_icmp .eq 14, [59]), (.aload_n 0, []), (.iload_n 2, []), (.aload_n 1, []), (.getfield 74, [3, 9]), (.iload_n 2, []), (.iaload, []), (.invokevirtual 77, [7, 3, 11]), (.nop, [59])]
def b_P_fillCosts_59 : List RI := [(.return_, [])]
def p_P_fillCosts (L : Nat) : List RI := cond (Nat.blt L 37) (cond (Nat.blt L 3) (cond (Nat.beq L 0) b_P_fillCosts_0 []) (cond (Nat.beq L 3) b_P_fillCosts_3 [])) (cond (Nat.blt L 59) (cond (Nat.beq L 37) b_P_fillCosts_37 []) (cond (Nat.beq L 59) b_P_fillCosts_59 []))
def b_P_useSpeed_0 : List RI := [(.iconst 0, []), (.istore_n 3, []), (.nop, [2])]
def b_P_useSpeed_2 : List RI := [(.iload_n 3, []), (.aload_n 0, []), (.getfield 41, [1, 7]), (.if_icmp .ge 55, [62]), (.iconst 0, []), (.istore 4, []), (.nop, [13])]
def b_P_useSpeed_13 : List RI := [(.iload 4, []), (.aload_n 0, []), (.getfield 41, [1, 7]), (.if_icmp .ge 37, [56]), (.aload_n 0, []), (.getfield 18, [1, 2]), (.iload_n 3, []), (.bipush 8, []), (.imul, []), (.iload 4, []), (.iadd, []), (.aload_n 1, []), (.iload_n 3, []), (.iload 4, []), (.invokevirtual 81, [32, 3, 13]), (.iload_n 2, []), (.if_icmp .gt 7, [48]), (.iconst 1, []), (.goto 4, [49])]
def b_P_useSpeed_48 : List RI := [(.iconst 0, []), (.nop, [49])]
def b_P_useSpeed_49 : List RI := [(.bastore, []), (.iinc 4 1, []), (.goto (-40), [13])]
def b_P_useSpeed_56 : List RI := [(.iinc 3 1, []), (.goto (-57), [2])]
def b_P_useSpeed_62 : List RI := [(.return_, [])]
def p_P_useSpeed (L : Nat) : List RI := cond (Nat.blt L 48) (cond (Nat.blt L 2) (cond (Nat.beq L 0) b_P_useSpeed_0 []) (cond (Nat.blt L 13) (cond (Nat.beq L 2) b_P_useSpeed_2 []) (cond (Nat.beq L 13) b_P_useSpeed_13 []))) (cond (Nat.blt L 56) (cond (Nat.blt L 49) (cond (Nat.beq L 48) b_P_useSpeed_48 []) (cond (Nat.beq L 49) b_P_useSpeed_49 [])) (cond (Nat.blt L 62) (cond (Nat.beq L 56) b_P_useSpeed_56 []) (cond (Nat.beq L 62) b_P_useSpeed_62 [])))
def b_P_barOthers_0 : List RI := [(.iconst 0, []), (.istore_n 3, []), (.nop, [2])]
def b_P_barOthers_2 : List RI := [(.iload_n 3, []), (.aload_n 0, []), (.getfield 41, [1, 7]), (.if_icmp .ge 27, [34]), (.iload_n 3, []), (.iload_n 2, []), (.if_icmp .eq 16, [28]), (.aload_n 0, []), (.getfield 15, [1, 1]), (.iload_n 1, []), (.bipush 8, []), (.imul, []), (.iload_n 3, []), (.iadd, []), (.ldc 84, [1000000]), (.iastore, []), (.nop, [28])]
def b_P_barOthers_28 : List RI := [(.iinc 3 1, []), (.goto (-29), [2])]
def b_P_barOthers_34 : List RI := [(.return_, [])]
def p_P_barOthers (L : Nat) : List RI := cond (Nat.blt L 28) (cond (Nat.blt L 2) (cond (Nat.beq L 0) b_P_barOthers_0 []) (cond (Nat.beq L 2) b_P_barOthers_2 [])) (cond (Nat.blt L 34) (cond (Nat.beq L 28) b_P_barOthers_28 []) (cond (Nat.beq L 34) b_P_barOthers_34 []))
def b_P_leastFromEnd_0 : List RI := [(.aload_n 0, []), (.getfield 37, [1, 6]), (.ifCond .ne 5, [9]), (.iconst 0, []), (.ireturn, [0])]
def b_P_leastFromEnd_9 : List RI := [(.aload_n 0, []), (.getfield 37, [1, 6]), (.iconst 1, []), (.isub, []), (.istore_n 1, []), (.nop, [16])]
def b_P_leastFromEnd_16 : List RI := [(.iload_n 1, []), (.ifCond .lt 31, [48]), (.iconst 0, []), (.istore_n 2, []), (.nop, [22])]
def b_P_leastFromEnd_22 : List RI := [(.iload_n 2, []), (.aload_n 0, []), (.getfield 41, [1, 7]), (.if_icmp .ge 15, [42]), (.aload_n 0, []), (.iload_n 1, []), (.iload_n 2, []), (.invokevirtual 85, [9, 3, 11]), (.iinc 2 1, []), (.goto (-17), [22])]
def b_P_leastFromEnd_42 : List RI := [(.iinc 1 (-1), []), (.goto (-29), [16])]
def b_P_leastFromEnd_48 : List RI := [(.ldc 84, [1000000]), (.istore_n 1, []), (.iconst 0, []), (.istore_n 2, []), (.nop, [53])]
def b_P_leastFromEnd_53 : List RI := [(.iload_n 2, []), (.aload_n 0, []), (.getfield 41, [1, 7]), (.if_icmp .ge 22, [80]), (.iload_n 1, []), (.aload_n 0, []), (.getfield 22, [1, 3]), (.iload_n 2, []), (.iconst 3, []), (.imul, []), (.iaload, []), (.invokestatic 58, [1003, 2, 0]), (.istore_n 1, []), (.iinc 2 1, []), (.goto (-24), [53])]
def b_P_leastFromEnd_80 : List RI := [(.iload_n 1, []), (.ldc 84, [1000000]), (.if_icmp .ge 7, [90]), (.iload_n 1, []), (.goto 5, [92])]
def b_P_leastFromEnd_90 : List RI := [(.bipush (-99), []), (.nop, [92])]
def b_P_leastFromEnd_92 : List RI := [(.ireturn, [0])]
def p_P_leastFromEnd (L : Nat) : List RI := cond (Nat.blt L 48) (cond (Nat.blt L 16) (cond (Nat.blt L 9) (cond (Nat.beq L 0) b_P_leastFromEnd_0 []) (cond (Nat.beq L 9) b_P_leastFromEnd_9 [])) (cond (Nat.blt L 22) (cond (Nat.beq L 16) b_P_leastFromEnd_16 []) (cond (Nat.blt L 42) (cond (Nat.beq L 22) b_P_leastFromEnd_22 []) (cond (Nat.beq L 42) b_P_leastFromEnd_42 [])))) (cond (Nat.blt L 80) (cond (Nat.blt L 53) (cond (Nat.beq L 48) b_P_leastFromEnd_48 []) (cond (Nat.beq L 53) b_P_leastFromEnd_53 [])) (cond (Nat.blt L 90) (cond (Nat.beq L 80) b_P_leastFromEnd_80 []) (cond (Nat.blt L 92) (cond (Nat.beq L 90) b_P_leastFromEnd_90 []) (cond (Nat.beq L 92) b_P_leastFromEnd_92 []))))
def b_P_fillRest_0 : List RI := [(.iload_n 1, []), (.bipush 8, []), (.imul, []), (.iload_n 2, []), (.iadd, []), (.iconst 3, []), (.imul, []), (.istore_n 3, []), (.iload_n 1, []), (.aload_n 0, []), (.getfield 37, [1, 6]), (.iconst 1, []), (.isub, []), (.if_icmp .ne 7, [23]), (.iconst 1, []), (.goto 4, [24])]
def b_P_fillRest_23 : List RI := [(.iconst 0, []), (.nop, [24])]
def b_P_fillRest_24 : List RI := [(.istore 4, []), (.iconst 0, []), (.istore 5, []), (.nop, [29])]
def b_P_fillRest_29 : List RI := [(.iload 5, []), (.aload_n 0, []), (.getfield 45, [1, 8]), (.if_icmp .ge 95, [130]), (.iload 4, []), (.ifCond .eq 7, [47]), (.iconst 0, []), (.goto 19, [63])]
def b_P_fillRest_47 : List RI := [(.aload_n 0, []), (.getfield 22, [1, 3]), (.iload_n 3, []), (.bipush 24, []), (.iadd, []), (.aload_n 0, []), (.iload 5, []), (.invokevirtual 88, [11, 2, 11]), (.iadd, []), (.iaload, []), (.nop, [63])]
def b_P_fillRest_63 : List RI := [(.istore 6, []), (.iload 4, []), (.ifCond .ne 29, [96]), (.iload 5, []), (.aload_n 0, []), (.getfield 45, [1, 8]), (.iconst 1, []), (.isub, []), (.if_icmp .ne 18, [96]), (.iload 6, []), (.aload_n 0, []), (.iload_n 2, []), (.iload_n 1, []), (.iconst 1, []), (.iadd, []), (.invokevirtual 92, [10, 3, 11]), (.invokestatic 58, [1003, 2, 0]), (.istore 6, []), (.nop, [96])]
def b_P_fillRest_96 : List RI := [(.aload_n 0, []), (.getfield 22, [1, 3]), (.iload_n 3, []), (.iload 5, []), (.iadd, []), (.ldc 84, [1000000]), (.aload_n 0, []), (.getfield 15, [1, 1]), (.iload_n 1, []), (.bipush 8, []), (.imul, []), (.iload_n 2, []), (.iadd, []), (.iaload, []), (.iload 6, []), (.iadd, []), (.invokestatic 58, [1003, 2, 0]), (.iastore, []), (.iinc 5 1, []), (.goto (-98), [29])]
def b_P_fillRest_130 : List RI := [(.return_, [])]
def p_P_fillRest (L : Nat) : List RI := cond (Nat.blt L 47) (cond (Nat.blt L 24) (cond (Nat.blt L 23) (cond (Nat.beq L 0) b_P_fillRest_0 []) (cond (Nat.beq L 23) b_P_fillRest_23 [])) (cond (Nat.blt L 29) (cond (Nat.beq L 24) b_P_fillRest_24 []) (cond (Nat.beq L 29) b_P_fillRest_29 []))) (cond (Nat.blt L 96) (cond (Nat.blt L 63) (cond (Nat.beq L 47) b_P_fillRest_47 []) (cond (Nat.beq L 63) b_P_fillRest_63 [])) (cond (Nat.blt L 130) (cond (Nat.beq L 96) b_P_fillRest_96 []) (cond (Nat.beq L 130) b_P_fillRest_130 [])))
def b_P_leastOfLeaving_0 : List RI := [(.ldc 84, [1000000]), (.istore_n 3, []), (.iconst 0, []), (.istore 4, []), (.nop, [6])]
def b_P_leastOfLeaving_6 : List RI := [(.iload 4, []), (.aload_n 0, []), (.getfield 41, [1, 7]), (.if_icmp .ge 49, [61]), (.iload 4, []), (.iload_n 1, []), (.if_icmp .eq 37, [55]), (.aload_n 0, []), (.getfield 18, [1, 2]), (.iload_n 1, []), (.bipush 8, []), (.imul, []), (.iload 4, []), (.iadd, []), (.baload, []), (.ifCond .eq 22, [55]), (.iload_n 3, []), (.aload_n 0, []), (.getfield 22, [1, 3]), (.iload_n 2, []), (.bipush 8, []), (.imul, []), (.iload 4, []), (.iadd, []), (.iconst 3, []), (.imul, []), (.iaload, []), (.invokestatic 58, [1003, 2, 0]), (.istore_n 3, []), (.nop, [55])]
def b_P_leastOfLeaving_55 : List RI := [(.iinc 4 1, []), (.goto (-52), [6])]
def b_P_leastOfLeaving_61 : List RI := [(.iload_n 3, []), (.ireturn, [0])]
def p_P_leastOfLeaving (L : Nat) : List RI := cond (Nat.blt L 55) (cond (Nat.blt L 6) (cond (Nat.beq L 0) b_P_leastOfLeaving_0 []) (cond (Nat.beq L 6) b_P_leastOfLeaving_6 [])) (cond (Nat.blt L 61) (cond (Nat.beq L 55) b_P_leastOfLeaving_55 []) (cond (Nat.beq L 61) b_P_leastOfLeaving_61 []))
def b_P_longer_0 : List RI := [(.iload_n 1, []), (.iconst 1, []), (.iadd, []), (.aload_n 0, []), (.getfield 45, [1, 8]), (.iconst 1, []), (.isub, []), (.invokestatic 58, [1003, 2, 0]), (.ireturn, [0])]
def p_P_longer (L : Nat) : List RI := cond (Nat.beq L 0) b_P_longer_0 []
def b_P_leastFromStart_0 : List RI := [(.aload_n 0, []), (.getfield 37, [1, 6]), (.ifCond .ne 5, [9]), (.iconst 0, []), (.ireturn, [0])]
def b_P_leastFromStart_9 : List RI := [(.iconst 0, []), (.istore_n 1, []), (.nop, [11])]
def b_P_leastFromStart_11 : List RI := [(.iload_n 1, []), (.aload_n 0, []), (.getfield 37, [1, 6]), (.if_icmp .ge 46, [62]), (.aload_n 0, []), (.getfield 25, [1, 4]), (.iconst 0, []), (.aload_n 0, []), (.getfield 28, [1, 5]), (.iconst 0, []), (.bipush 24, []), (.invokestatic 95, [1001, 5, 0]), (.iconst 0, []), (.istore_n 2, []), (.nop, [36])]
def b_P_leastFromStart_36 : List RI := [(.iload_n 2, []), (.aload_n 0, []), (.getfield 41, [1, 7]), (.if_icmp .ge 15, [56]), (.aload_n 0, []), (.iload_n 1, []), (.iload_n 2, []), (.invokevirtual 101, [13, 3, 11]), (.iinc 2 1, []), (.goto (-17), [36])]
def b_P_leastFromStart_56 : List RI := [(.iinc 1 1, []), (.goto (-48), [11])]
def b_P_leastFromStart_62 : List RI := [(.ldc 84, [1000000]), (.istore_n 1, []), (.iconst 0, []), (.istore_n 2, []), (.nop, [67])]
def b_P_leastFromStart_67 : List RI := [(.iload_n 2, []), (.aload_n 0, []), (.getfield 41, [1, 7]), (.if_icmp .ge 40, [112]), (.iconst 0, []), (.istore_n 3, []), (.nop, [77])]
def b_P_leastFromStart_77 : List RI := [(.iload_n 3, []), (.aload_n 0, []), (.getfield 45, [1, 8]), (.if_icmp .ge 24, [106]), (.iload_n 1, []), (.aload_n 0, []), (.getfield 25, [1, 4]), (.iload_n 2, []), (.iconst 3, []), (.imul, []), (.iload_n 3, []), (.iadd, []), (.iaload, []), (.invokestatic 58, [1003, 2, 0]), (.istore_n 1, []), (.iinc 3 1, []), (.goto (-26), [77])]
def b_P_leastFromStart_106 : List RI := [(.iinc 2 1, []), (.goto (-42), [67])]
def b_P_leastFromStart_112 : List RI := [(.iload_n 1, []), (.ldc 84, [1000000]), (.if_icmp .ge 7, [122]), (.iload_n 1, []), (.goto 5, [124])]
def b_P_leastFromStart_122 : List RI := [(.bipush (-99), []), (.nop, [124])]
def b_P_leastFromStart_124 : List RI := [(.ireturn, [0])]
def p_P_leastFromStart (L : Nat) : List RI := cond (Nat.blt L 67) (cond (Nat.blt L 36) (cond (Nat.blt L 9) (cond (Nat.beq L 0) b_P_leastFromStart_0 []) (cond (Nat.blt L 11) (cond (Nat.beq L 9) b_P_leastFromStart_9 []) (cond (Nat.beq L 11) b_P_leastFromStart_11 []))) (cond (Nat.blt L 56) (cond (Nat.beq L 36) b_P_leastFromStart_36 []) (cond (Nat.blt L 62) (cond (Nat.beq L 56) b_P_leastFromStart_56 []) (cond (Nat.beq L 62) b_P_leastFromStart_62 [])))) (cond (Nat.blt L 112) (cond (Nat.blt L 77) (cond (Nat.beq L 67) b_P_leastFromStart_67 []) (cond (Nat.blt L 106) (cond (Nat.beq L 77) b_P_leastFromStart_77 []) (cond (Nat.beq L 106) b_P_leastFromStart_106 []))) (cond (Nat.blt L 122) (cond (Nat.beq L 112) b_P_leastFromStart_112 []) (cond (Nat.blt L 124) (cond (Nat.beq L 122) b_P_leastFromStart_122 []) (cond (Nat.beq L 124) b_P_leastFromStart_124 []))))
def b_P_fillHere_0 : List RI := [(.iload_n 2, []), (.iconst 3, []), (.imul, []), (.istore_n 3, []), (.iconst 0, []), (.istore 4, []), (.nop, [7])]
def b_P_fillHere_7 : List RI := [(.iload 4, []), (.aload_n 0, []), (.getfield 45, [1, 8]), (.if_icmp .ge 20, [33]), (.aload_n 0, []), (.getfield 25, [1, 4]), (.iload_n 3, []), (.iload 4, []), (.iadd, []), (.ldc 84, [1000000]), (.iastore, []), (.iinc 4 1, []), (.goto (-23), [7])]
def b_P_fillHere_33 : List RI := [(.aload_n 0, []), (.getfield 25, [1, 4]), (.iload_n 3, []), (.iload_n 1, []), (.ifCond .ne 7, [46]), (.iconst 0, []), (.goto 8, [51])]
def b_P_fillHere_46 : List RI := [(.aload_n 0, []), (.iload_n 2, []), (.invokevirtual 104, [14, 2, 11]), (.nop, [51])]
def b_P_fillHere_51 : List RI := [(.iastore, []), (.iload_n 1, []), (.ifCond .ne 7, [60]), (.iconst 0, []), (.goto 7, [64])]
def b_P_fillHere_60 : List RI := [(.aload_n 0, []), (.getfield 45, [1, 8]), (.nop, [64])]
def b_P_fillHere_64 : List RI := [(.istore 4, []), (.iconst 0, []), (.istore 5, []), (.nop, [69])]
def b_P_fillHere_69 : List RI := [(.iload 5, []), (.iload 4, []), (.if_icmp .ge 47, [120]), (.aload_n 0, []), (.getfield 25, [1, 4]), (.iload_n 3, []), (.aload_n 0, []), (.iload 5, []), (.invokevirtual 88, [11, 2, 11]), (.iadd, []), (.aload_n 0, []), (.getfield 25, [1, 4]), (.iload_n 3, []), (.aload_n 0, []), (.iload 5, []), (.invokevirtual 88, [11, 2, 11]), (.iadd, []), (.iaload, []), (.aload_n 0, []), (.getfield 28, [1, 5]), (.iload_n 3, []), (.iload 5, []), (.iadd, []), (.iaload, []), (.invokestatic 58, [1003, 2, 0]), (.iastore, []), (.iinc 5 1, []), (.goto (-48), [69])]
def b_P_fillHere_120 : List RI := [(.iconst 0, []), (.istore 5, []), (.nop, [123])]
def b_P_fillHere_123 : List RI := [(.iload 5, []), (.aload_n 0, []), (.getfield 45, [1, 8]), (.if_icmp .ge 44, [173]), (.aload_n 0, []), (.getfield 25, [1, 4]), (.iload_n 3, []), (.iload 5, []), (.iadd, []), (.ldc 84, [1000000]), (.aload_n 0, []), (.getfield 25, [1, 4]), (.iload_n 3, []), (.iload 5, []), (.iadd, []), (.iaload, []), (.aload_n 0, []), (.getfield 15, [1, 1]), (.iload_n 1, []), (.bipush 8, []), (.imul, []), (.iload_n 2, []), (.iadd, []), (.iaload, []), (.iadd, []), (.invokestatic 58, [1003, 2, 0]), (.iastore, []), (.iinc 5 1, []), (.goto (-47), [123])]
def b_P_fillHere_173 : List RI := [(.return_, [])]
def p_P_fillHere (L : Nat) : List RI := cond (Nat.blt L 60) (cond (Nat.blt L 33) (cond (Nat.blt L 7) (cond (Nat.beq L 0) b_P_fillHere_0 []) (cond (Nat.beq L 7) b_P_fillHere_7 [])) (cond (Nat.blt L 46) (cond (Nat.beq L 33) b_P_fillHere_33 []) (cond (Nat.blt L 51) (cond (Nat.beq L 46) b_P_fillHere_46 []) (cond (Nat.beq L 51) b_P_fillHere_51 [])))) (cond (Nat.blt L 120) (cond (Nat.blt L 64) (cond (Nat.beq L 60) b_P_fillHere_60 []) (cond (Nat.blt L 69) (cond (Nat.beq L 64) b_P_fillHere_64 []) (cond (Nat.beq L 69) b_P_fillHere_69 []))) (cond (Nat.blt L 123) (cond (Nat.beq L 120) b_P_fillHere_120 []) (cond (Nat.blt L 173) (cond (Nat.beq L 123) b_P_fillHere_123 []) (cond (Nat.beq L 173) b_P_fillHere_173 []))))
def b_P_leastOfEntering_0 : List RI := [(.ldc 84, [1000000]), (.istore_n 2, []), (.iconst 0, []), (.istore_n 3, []), (.nop, [5])]
def b_P_leastOfEntering_5 : List RI := [(.iload_n 3, []), (.aload_n 0, []), (.getfield 41, [1, 7]), (.if_icmp .ge 48, [58]), (.iload_n 3, []), (.iload_n 1, []), (.if_icmp .eq 37, [52]), (.aload_n 0, []), (.getfield 18, [1, 2]), (.iload_n 3, []), (.bipush 8, []), (.imul, []), (.iload_n 1, []), (.iadd, []), (.baload, []), (.ifCond .eq 23, [52]), (.iload_n 2, []), (.aload_n 0, []), (.getfield 28, [1, 5]), (.iload_n 3, []), (.iconst 3, []), (.imul, []), (.aload_n 0, []), (.getfield 45, [1, 8]), (.iadd, []), (.iconst 1, []), (.isub, []), (.iaload, []), (.invokestatic 58, [1003, 2, 0]), (.istore_n 2, []), (.nop, [52])]
def b_P_leastOfEntering_52 : List RI := [(.iinc 3 1, []), (.goto (-50), [5])]
def b_P_leastOfEntering_58 : List RI := [(.iload_n 2, []), (.ireturn, [0])]
def p_P_leastOfEntering (L : Nat) : List RI := cond (Nat.blt L 52) (cond (Nat.blt L 5) (cond (Nat.beq L 0) b_P_leastOfEntering_0 []) (cond (Nat.beq L 5) b_P_leastOfEntering_5 [])) (cond (Nat.blt L 58) (cond (Nat.beq L 52) b_P_leastOfEntering_52 []) (cond (Nat.beq L 58) b_P_leastOfEntering_58 []))
def b_P_choose_0 : List RI := [(.aload_n 0, []), (.invokevirtual 107, [8, 1, 11]), (.bipush (-99), []), (.if_icmp .ne 5, [11]), (.iconst 0, []), (.ireturn, [1])]
def b_P_choose_11 : List RI := [(.iconst 0, []), (.istore_n 1, []), (.iconst 0, []), (.istore_n 2, []), (.nop, [15])]
def b_P_choose_15 : List RI := [(.iload_n 2, []), (.aload_n 0, []), (.getfield 37, [1, 6]), (.if_icmp .ge 71, [91]), (.aload_n 0, []), (.getfield 9, [1, 0]), (.iload_n 2, []), (.iload_n 2, []), (.ifCond .ne 10, [39]), (.aload_n 0, []), (.invokevirtual 111, [16, 1, 11]), (.goto 17, [53])]
def b_P_choose_39 : List RI := [(.aload_n 0, []), (.iload_n 2, []), (.aload_n 0, []), (.getfield 9, [1, 0]), (.iload_n 2, []), (.iconst 1, []), (.isub, []), (.iaload, []), (.iload_n 1, []), (.invokevirtual 114, [17, 4, 11]), (.nop, [53])]
def b_P_choose_53 : List RI := [(.iastore, []), (.iload_n 2, []), (.ifCond .le 28, [83]), (.aload_n 0, []), (.getfield 9, [1, 0]), (.iload_n 2, []), (.iaload, []), (.aload_n 0, []), (.getfield 9, [1, 0]), (.iload_n 2, []), (.iconst 1, []), (.isub, []), (.iaload, []), (.if_icmp .ne 11, [83]), (.aload_n 0, []), (.iload_n 1, []), (.invokevirtual 88, [11, 2, 11]), (.goto 4, [84])]
def b_P_choose_83 : List RI := [(.iconst 0, []), (.nop, [84])]
def b_P_choose_84 : List RI := [(.istore_n 1, []), (.iinc 2 1, []), (.goto (-73), [15])]
def b_P_choose_91 : List RI := [(.iconst 1, []), (.ireturn, [1])]
def p_P_choose (L : Nat) : List RI := cond (Nat.blt L 53) (cond (Nat.blt L 15) (cond (Nat.blt L 11) (cond (Nat.beq L 0) b_P_choose_0 []) (cond (Nat.beq L 11) b_P_choose_11 [])) (cond (Nat.blt L 39) (cond (Nat.beq L 15) b_P_choose_15 []) (cond (Nat.beq L 39) b_P_choose_39 []))) (cond (Nat.blt L 84) (cond (Nat.blt L 83) (cond (Nat.beq L 53) b_P_choose_53 []) (cond (Nat.beq L 83) b_P_choose_83 [])) (cond (Nat.blt L 91) (cond (Nat.beq L 84) b_P_choose_84 []) (cond (Nat.beq L 91) b_P_choose_91 [])))
def b_P_bestFirst_0 : List RI := [(.iconst 0, []), (.istore_n 1, []), (.iconst 1, []), (.istore_n 2, []), (.nop, [4])]
def b_P_bestFirst_4 : List RI := [(.iload_n 2, []), (.aload_n 0, []), (.getfield 41, [1, 7]), (.if_icmp .ge 30, [39]), (.aload_n 0, []), (.getfield 22, [1, 3]), (.iload_n 2, []), (.iconst 3, []), (.imul, []), (.iaload, []), (.aload_n 0, []), (.getfield 22, [1, 3]), (.iload_n 1, []), (.iconst 3, []), (.imul, []), (.iaload, []), (.if_icmp .ge 5, [33]), (.iload_n 2, []), (.istore_n 1, []), (.nop, [33])]
def b_P_bestFirst_33 : List RI := [(.iinc 2 1, []), (.goto (-32), [4])]
def b_P_bestFirst_39 : List RI := [(.iload_n 1, []), (.ireturn, [0])]
def p_P_bestFirst (L : Nat) : List RI := cond (Nat.blt L 33) (cond (Nat.blt L 4) (cond (Nat.beq L 0) b_P_bestFirst_0 []) (cond (Nat.beq L 4) b_P_bestFirst_4 [])) (cond (Nat.blt L 39) (cond (Nat.beq L 33) b_P_bestFirst_33 []) (cond (Nat.beq L 39) b_P_bestFirst_39 []))
def b_P_bestNext_0 : List RI := [(.iload_n 2, []), (.istore 4, []), (.ldc 84, [1000000]), (.istore 5, []), (.iconst 0, []), (.istore 6, []), (.nop, [10])]
def b_P_bestNext_10 : List RI := [(.iload 6, []), (.aload_n 0, []), (.getfield 41, [1, 7]), (.if_icmp .ge 100, [116]), (.ldc 84, [1000000]), (.istore 7, []), (.iload 6, []), (.iload_n 2, []), (.if_icmp .ne 28, [54]), (.aload_n 0, []), (.getfield 22, [1, 3]), (.iload_n 1, []), (.bipush 8, []), (.imul, []), (.iload 6, []), (.iadd, []), (.iconst 3, []), (.imul, []), (.aload_n 0, []), (.iload_n 3, []), (.invokevirtual 88, [11, 2, 11]), (.iadd, []), (.iaload, []), (.istore 7, []), (.goto 44, [95])]
def b_P_bestNext_54 : List RI := [(.iload_n 3, []), (.aload_n 0, []), (.getfield 45, [1, 8]), (.iconst 1, []), (.isub, []), (.if_icmp .ne 34, [95]), (.aload_n 0, []), (.getfield 18, [1, 2]), (.iload_n 2, []), (.bipush 8, []), (.imul, []), (.iload 6, []), (.iadd, []), (.baload, []), (.ifCond .eq 19, [95]), (.aload_n 0, []), (.getfield 22, [1, 3]), (.iload_n 1, []), (.bipush 8, []), (.imul, []), (.iload 6, []), (.iadd, []), (.iconst 3, []), (.imul, []), (.iaload, []), (.istore 7, []), (.nop, [95])]
def b_P_bestNext_95 : List RI := [(.iload 7, []), (.iload 5, []), (.if_icmp .ge 11, [110]), (.iload 7, []), (.istore 5, []), (.iload 6, []), (.istore 4, []), (.nop, [110])]
def b_P_bestNext_110 : List RI := [(.iinc 6 1, []), (.goto (-103), [10])]
def b_P_bestNext_116 : List RI := [(.iload 4, []), (.ireturn, [0])]
def p_P_bestNext (L : Nat) : List RI := cond (Nat.blt L 95) (cond (Nat.blt L 10) (cond (Nat.beq L 0) b_P_bestNext_0 []) (cond (Nat.blt L 54) (cond (Nat.beq L 10) b_P_bestNext_10 []) (cond (Nat.beq L 54) b_P_bestNext_54 []))) (cond (Nat.blt L 110) (cond (Nat.beq L 95) b_P_bestNext_95 []) (cond (Nat.blt L 116) (cond (Nat.beq L 110) b_P_bestNext_110 []) (cond (Nat.beq L 116) b_P_bestNext_116 [])))
def b_R_init_0 : List RI := [(.aload_n 0, []), (.invokespecial 3, [1000, 1, 0]), (.aload_n 0, []), (.iconst (-1), []), (.putfield 9, [2, 0]), (.aload_n 0, []), (.iconst 0, []), (.newarray .int, [0]), (.putfield 15, [2, 1]), (.return_, [])]
def p_R_init (L : Nat) : List RI := cond (Nat.beq L 0) b_R_init_0 []
def b_R_readItems_0 : List RI := [(.aload_n 0, []), (.aload_n 1, []), (.putfield 15, [2, 1]), (.aload_n 0, []), (.iload_n 2, []), (.aload_n 1, []), (.arraylength, []), (.invokestatic 19, [1003, 2, 0]), (.putfield 25, [2, 2]), (.aload_n 0, []), (.iconst 0, []), (.putfield 28, [2, 3]), (.aload_n 0, []), (.iconst (-1), []), (.putfield 9, [2, 0]), (.iconst 0, []), (.istore 4, []), (.aload_n 0, []), (.invokevirtual 31, [22, 1, 12]), (.nop, [32])]
def b_R_readItems_32 : List RI := [(.aload_n 0, []), (.getfield 9, [2, 0]), (.iconst (-1), []), (.if_icmp .ne 36, [73]), (.aload_n 0, []), (.getfield 28, [2, 3]), (.aload_n 0, []), (.getfield 25, [2, 2]), (.if_icmp .ge 25, [73]), (.iload 4, []), (.bipush 30, []), (.if_icmp .gt 18, [73]), (.aload_n 0, []), (.aload_n 3, []), (.invokevirtual 34, [20, 2, 12]), (.iinc 4 1, []), (.aload_n 0, []), (.invokevirtual 31, [22, 1, 12]), (.goto (-38), [32])]
def b_R_readItems_73 : List RI := [(.iload 4, []), (.ireturn, [0])]
def p_R_readItems (L : Nat) : List RI := cond (Nat.blt L 32) (cond (Nat.beq L 0) b_R_readItems_0 []) (cond (Nat.blt L 73) (cond (Nat.beq L 32) b_R_readItems_32 []) (cond (Nat.beq L 73) b_R_readItems_73 []))
def b_R_readItem_0 : List RI := [(.aload_n 0, []), (.getfield 15, [2, 1]), (.aload_n 0, []), (.getfield 28, [2, 3]), (.iaload, []), (.invokestatic 38, [24, 1, 0]), (.istore_n 2, []), (.iload_n 2, []), (.iconst (-1), []), (.if_icmp .eq 12, [27]), (.aload_n 1, []), (.getfield 42, [3, 5]), (.bipush 30, []), (.if_icmp .lt 12, [36]), (.nop, [27])]
def b_R_readItem_27 : List RI := [(.aload_n 0, []), (.aload_n 0, []), (.getfield 28, [2, 3]), (.putfield 9, [2, 0]), (.return_, [])]
def b_R_readItem_36 : List RI := [(.aload_n 0, []), (.dup, []), (.getfield 28, [2, 3]), (.iconst 1, []), (.iadd, []), (.putfield 28, [2, 3]), (.aload_n 1, []), (.getfield 47, [3, 8]), (.istore_n 3, []), (.aload_n 0, []), (.iconst 1, []), (.bipush 20, []), (.bipush 99, []), (.iload_n 3, []), (.isub, []), (.invokestatic 19, [1003, 2, 0]), (.invokevirtual 50, [21, 3, 12]), (.istore 4, []), (.aload_n 0, []), (.getfield 9, [2, 0]), (.iconst (-1), []), (.if_icmp .eq 4, [76]), (.return_, [])]
def b_R_readItem_76 : List RI := [(.aload_n 1, []), (.aload_n 1, []), (.getfield 42, [3, 5]), (.iload_n 2, []), (.iload 4, []), (.invokevirtual 53, [41, 4, 13]), (.aload_n 0, []), (.invokevirtual 31, [22, 1, 12]), (.aload_n 0, []), (.getfield 28, [2, 3]), (.aload_n 0, []), (.getfield 25, [2, 2]), (.if_icmp .ge 56, [155]), (.aload_n 0, []), (.getfield 15, [2, 1]), (.aload_n 0, []), (.getfield 28, [2, 3]), (.iaload, []), (.bipush 33, []), (.if_icmp .ne 42, [155]), (.aload_n 0, []), (.dup, []), (.getfield 28, [2, 3]), (.iconst 1, []), (.iadd, []), (.putfield 28, [2, 3]), (.aload_n 0, []), (.iconst 0, []), (.aload_n 1, []), (.getfield 57, [3, 0]), (.iconst 1, []), (.isub, []), (.invokevirtual 50, [21, 3, 12]), (.istore 5, []), (.aload_n 0, []), (.getfield 9, [2, 0]), (.iconst (-1), []), (.if_icmp .ne 11, [155]), (.aload_n 1, []), (.getfield 60, [3, 9]), (.iload_n 3, []), (.iload 5, []), (.iastore, []), (.nop, [155])]
def b_R_readItem_155 : List RI := [(.return_, [])]
def p_R_readItem (L : Nat) : List RI := cond (Nat.blt L 36) (cond (Nat.blt L 27) (cond (Nat.beq L 0) b_R_readItem_0 []) (cond (Nat.beq L 27) b_R_readItem_27 [])) (cond (Nat.blt L 76) (cond (Nat.beq L 36) b_R_readItem_36 []) (cond (Nat.blt L 155) (cond (Nat.beq L 76) b_R_readItem_76 []) (cond (Nat.beq L 155) b_R_readItem_155 [])))
def b_R_readNumber_0 : List RI := [(.aload_n 0, []), (.invokevirtual 31, [22, 1, 12]), (.aload_n 0, []), (.getfield 28, [2, 3]), (.istore_n 3, []), (.iconst 0, []), (.istore 4, []), (.nop, [12])]
def b_R_readNumber_12 : List RI := [(.aload_n 0, []), (.getfield 28, [2, 3]), (.aload_n 0, []), (.getfield 25, [2, 2]), (.if_icmp .ge 57, [77]), (.aload_n 0, []), (.getfield 15, [2, 1]), (.aload_n 0, []), (.getfield 28, [2, 3]), (.iaload, []), (.invokestatic 63, [23, 1, 0]), (.ifCond .eq 42, [77]), (.sipush 1000, []), (.iload 4, []), (.bipush 10, []), (.imul, []), (.aload_n 0, []), (.getfield 15, [2, 1]), (.aload_n 0, []), (.getfield 28, [2, 3]), (.iaload, []), (.iadd, []), (.bipush 48, []), (.isub, []), (.invokestatic 19, [1003, 2, 0]), (.istore 4, []), (.aload_n 0, []), (.dup, []), (.getfield 28, [2, 3]), (.iconst 1, []), (.iadd, []), (.putfield 28, [2, 3]), (.goto (-62), [12])]
def b_R_readNumber_77 : List RI := [(.aload_n 0, []), (.getfield 28, [2, 3]), (.iload_n 3, []), (.iconst 1, []), (.iadd, []), (.if_icmp .le 18, [102]), (.aload_n 0, []), (.getfield 15, [2, 1]), (.iload_n 3, []), (.iaload, []), (.bipush 48, []), (.if_icmp .ne 7, [102]), (.iconst 1, []), (.goto 4, [103])]
def b_R_readNumber_102 : List RI := [(.iconst 0, []), (.nop, [103])]
def b_R_readNumber_103 : List RI := [(.istore 5, []), (.aload_n 0, []), (.getfield 28, [2, 3]), (.iload_n 3, []), (.if_icmp .eq 20, [130]), (.iload 5, []), (.ifCond .ne 15, [130]), (.iload 4, []), (.iload_n 1, []), (.if_icmp .lt 9, [130]), (.iload 4, []), (.iload_n 2, []), (.if_icmp .le 8, [135]), (.nop, [130])]
def b_R_readNumber_130 : List RI := [(.aload_n 0, []), (.iload_n 3, []), (.putfield 9, [2, 0]), (.nop, [135])]
def b_R_readNumber_135 : List RI := [(.iload 4, []), (.ireturn, [0])]
def p_R_readNumber (L : Nat) : List RI := cond (Nat.blt L 102) (cond (Nat.blt L 12) (cond (Nat.beq L 0) b_R_readNumber_0 []) (cond (Nat.blt L 77) (cond (Nat.beq L 12) b_R_readNumber_12 []) (cond (Nat.beq L 77) b_R_readNumber_77 []))) (cond (Nat.blt L 130) (cond (Nat.blt L 103) (cond (Nat.beq L 102) b_R_readNumber_102 []) (cond (Nat.beq L 103) b_R_readNumber_103 [])) (cond (Nat.blt L 135) (cond (Nat.beq L 130) b_R_readNumber_130 []) (cond (Nat.beq L 135) b_R_readNumber_135 [])))
def b_R_skipSpaces_0 : List RI := [(.aload_n 0, []), (.getfield 28, [2, 3]), (.aload_n 0, []), (.getfield 25, [2, 2]), (.if_icmp .ge 30, [38]), (.aload_n 0, []), (.getfield 15, [2, 1]), (.aload_n 0, []), (.getfield 28, [2, 3]), (.iaload, []), (.bipush 32, []), (.if_icmp .ne 16, [38]), (.aload_n 0, []), (.dup, []), (.getfield 28, [2, 3]), (.iconst 1, []), (.iadd, []), (.putfield 28, [2, 3]), (.goto (-35), [0])]
def b_R_skipSpaces_38 : List RI := [(.return_, [])]
def p_R_skipSpaces (L : Nat) : List RI := cond (Nat.blt L 38) (cond (Nat.beq L 0) b_R_skipSpaces_0 []) (cond (Nat.beq L 38) b_R_skipSpaces_38 [])
def b_R_isDigit_0 : List RI := [(.iload_n 0, []), (.bipush 48, []), (.if_icmp .lt 13, [16]), (.iload_n 0, []), (.bipush 57, []), (.if_icmp .gt 7, [16]), (.iconst 1, []), (.goto 4, [17])]
def b_R_isDigit_16 : List RI := [(.iconst 0, []), (.nop, [17])]
def b_R_isDigit_17 : List RI := [(.ireturn, [1])]
def p_R_isDigit (L : Nat) : List RI := cond (Nat.blt L 16) (cond (Nat.beq L 0) b_R_isDigit_0 []) (cond (Nat.blt L 17) (cond (Nat.beq L 16) b_R_isDigit_16 []) (cond (Nat.beq L 17) b_R_isDigit_17 []))
def b_R_kindOf_0 : List RI := [(.iload_n 0, []), (.bipush 46, []), (.if_icmp .ne 6, [9]), (.bipush 9, []), (.ireturn, [0])]
def b_R_kindOf_9 : List RI := [(.iload_n 0, []), (.bipush 97, []), (.if_icmp .lt 16, [28]), (.iload_n 0, []), (.bipush 105, []), (.if_icmp .gt 10, [28]), (.iload_n 0, []), (.bipush 97, []), (.isub, []), (.goto 4, [29])]
def b_R_kindOf_28 : List RI := [(.iconst (-1), []), (.nop, [29])]
def b_R_kindOf_29 : List RI := [(.ireturn, [0])]
def p_R_kindOf (L : Nat) : List RI := cond (Nat.blt L 28) (cond (Nat.blt L 9) (cond (Nat.beq L 0) b_R_kindOf_0 []) (cond (Nat.beq L 9) b_R_kindOf_9 [])) (cond (Nat.blt L 29) (cond (Nat.beq L 28) b_R_kindOf_28 []) (cond (Nat.beq L 29) b_R_kindOf_29 []))
def b_S_init_0 : List RI := [(.aload_n 0, []), (.invokespecial 3, [1000, 1, 0]), (.aload_n 0, []), (.bipush 8, []), (.newarray .int, [0]), (.putfield 9, [3, 1]), (.aload_n 0, []), (.bipush 8, []), (.newarray .int, [0]), (.putfield 15, [3, 2]), (.aload_n 0, []), (.bipush 36, []), (.newarray .int, [0]), (.putfield 18, [3, 3]), (.aload_n 0, []), (.iconst 5, []), (.newarray .int, [0]), (.putfield 21, [3, 4]), (.aload_n 0, []), (.bipush 30, []), (.newarray .int, [0]), (.putfield 24, [3, 6]), (.aload_n 0, []), (.bipush 30, []), (.newarray .int, [0]), (.putfield 27, [3, 7]), (.aload_n 0, []), (.bipush 99, []), (.newarray .int, [0]), (.putfield 30, [3, 9]), (.aload_n 0, []), (.bipush 99, []), (.newarray .int, [0]), (.putfield 33, [3, 10]), (.aload_n 0, []), (.iconst 1, []), (.putfield 36, [3, 0]), (.aload_n 0, []), (.getfield 15, [3, 2]), (.iconst 0, []), (.iconst 4, []), (.iastore, []), (.iconst 0, []), (.istore_n 1, []), (.nop, [81])]
def b_S_init_81 : List RI := [(.iload_n 1, []), (.bipush 36, []), (.if_icmp .ge 22, [106]), (.aload_n 0, []), (.getfield 18, [3, 3]), (.iload_n 1, []), (.getstatic 40, [0]), (.iload_n 1, []), (.iconst 4, []), (.irem, []), (.iaload, []), (.iastore, []), (.iinc 1 1, []), (.goto (-22), [81])]
def b_S_init_106 : List RI := [(.iconst 0, []), (.istore_n 1, []), (.nop, [108])]
def b_S_init_108 : List RI := [(.iload_n 1, []), (.iconst 5, []), (.if_icmp .ge 20, [130]), (.aload_n 0, []), (.getfield 21, [3, 4]), (.iload_n 1, []), (.getstatic 43, [1]), (.iload_n 1, []), (.iaload, []), (.iastore, []), (.iinc 1 1, []), (.goto (-19), [108])]
def b_S_init_130 : List RI := [(.return_, [])]
def p_S_init (L : Nat) : List RI := cond (Nat.blt L 106) (cond (Nat.blt L 81) (cond (Nat.beq L 0) b_S_init_0 []) (cond (Nat.beq L 81) b_S_init_81 [])) (cond (Nat.blt L 108) (cond (Nat.beq L 106) b_S_init_106 []) (cond (Nat.blt L 130) (cond (Nat.beq L 108) b_S_init_108 []) (cond (Nat.beq L 130) b_S_init_130 [])))
def b_S_copyFrom_0 : List RI := [(.aload_n 0, []), (.aload_n 1, []), (.getfield 36, [3, 0]), (.putfield 36, [3, 0]), (.aload_n 0, []), (.aload_n 1, []), (.getfield 46, [3, 5]), (.putfield 46, [3, 5]), (.aload_n 0, []), (.aload_n 1, []), (.getfield 49, [3, 8]), (.putfield 49, [3, 8]), (.aload_n 1, []), (.getfield 9, [3, 1]), (.iconst 0, []), (.aload_n 0, []), (.getfield 9, [3, 1]), (.iconst 0, []), (.bipush 8, []), (.invokestatic 52, [1001, 5, 0]), (.aload_n 1, []), (.getfield 15, [3, 2]), (.iconst 0, []), (.aload_n 0, []), (.getfield 15, [3, 2]), (.iconst 0, []), (.bipush 8, []), (.invokestatic 52, [1001, 5, 0]), (.aload_n 1, []), (.getfield 18, [3, 3]), (.iconst 0, []), (.aload_n 0, []), (.getfield 18, [3, 3]), (.iconst 0, []), (.bipush 36, []), (.invokestatic 52, [1001, 5, 0]), (.aload_n 1, []), (.getfield 21, [3, 4]), (.iconst 0, []), (.aload_n 0, []), (.getfield 21, [3, 4]), (.iconst 0, []), (.iconst 5, []), (.invokestatic 52, [1001, 5, 0]), (.aload_n 1, []), (.getfield 24, [3, 6]), (.iconst 0, []), (.aload_n 0, []), (.getfield 24, [3, 6]), (.iconst 0, []), (.bipush 30, []), (.invokestatic 52, [1001, 5, 0]), (.aload_n 1, []), (.getfield 27, [3, 7]), (.iconst 0, []), (.aload_n 0, []), (.getfield 27, [3, 7]), (.iconst 0, []), (.bipush 30, []), (.invokestatic 52, [1001, 5, 0]), (.aload_n 1, []), (.getfield 30, [3, 9]), (.iconst 0, []), (.aload_n 0, []), (.getfield 30, [3, 9]), (.iconst 0, []), (.bipush 99, []), (.invokestatic 52, [1001, 5, 0]), (.aload_n 1, []), (.getfield 33, [3, 10]), (.iconst 0, []), (.aload_n 0, []), (.getfield 33, [3, 10]), (.iconst 0, []), (.bipush 99, []), (.invokestatic 52, [1001, 5, 0]), (.return_, [])]
def p_S_copyFrom (L : Nat) : List RI := cond (Nat.beq L 0) b_S_copyFrom_0 []
def b_S_hasMouth_0 : List RI := [(.iload_n 1, []), (.ifCond .lt 15, [16]), (.iload_n 1, []), (.aload_n 0, []), (.getfield 36, [3, 0]), (.if_icmp .ge 7, [16]), (.iconst 1, []), (.goto 4, [17])]
def b_S_hasMouth_16 : List RI := [(.iconst 0, []), (.nop, [17])]
def b_S_hasMouth_17 : List RI := [(.ireturn, [1])]
def p_S_hasMouth (L : Nat) : List RI := cond (Nat.blt L 16) (cond (Nat.beq L 0) b_S_hasMouth_0 []) (cond (Nat.blt L 17) (cond (Nat.beq L 16) b_S_hasMouth_16 []) (cond (Nat.beq L 17) b_S_hasMouth_17 []))
def b_S_hasSegment_0 : List RI := [(.iload_n 1, []), (.ifCond .lt 15, [16]), (.iload_n 1, []), (.aload_n 0, []), (.getfield 46, [3, 5]), (.if_icmp .ge 7, [16]), (.iconst 1, []), (.goto 4, [17])]
def b_S_hasSegment_16 : List RI := [(.iconst 0, []), (.nop, [17])]
def b_S_hasSegment_17 : List RI := [(.ireturn, [1])]
def p_S_hasSegment (L : Nat) : List RI := cond (Nat.blt L 16) (cond (Nat.beq L 0) b_S_hasSegment_0 []) (cond (Nat.blt L 17) (cond (Nat.beq L 16) b_S_hasSegment_16 []) (cond (Nat.beq L 17) b_S_hasSegment_17 []))
def b_S_hasFrame_0 : List RI := [(.iload_n 1, []), (.ifCond .lt 15, [16]), (.iload_n 1, []), (.aload_n 0, []), (.getfield 49, [3, 8]), (.if_icmp .ge 7, [16]), (.iconst 1, []), (.goto 4, [17])]
def b_S_hasFrame_16 : List RI := [(.iconst 0, []), (.nop, [17])]
def b_S_hasFrame_17 : List RI := [(.ireturn, [1])]
def p_S_hasFrame (L : Nat) : List RI := cond (Nat.blt L 16) (cond (Nat.beq L 0) b_S_hasFrame_0 []) (cond (Nat.blt L 17) (cond (Nat.beq L 16) b_S_hasFrame_16 []) (cond (Nat.beq L 17) b_S_hasFrame_17 []))
def b_S_hasRoomFor_0 : List RI := [(.aload_n 0, []), (.getfield 46, [3, 5]), (.bipush 30, []), (.if_icmp .ge 18, [24]), (.aload_n 0, []), (.getfield 49, [3, 8]), (.iload_n 1, []), (.iadd, []), (.bipush 99, []), (.if_icmp .gt 7, [24]), (.iconst 1, []), (.goto 4, [25])]
def b_S_hasRoomFor_24 : List RI := [(.iconst 0, []), (.nop, [25])]
def b_S_hasRoomFor_25 : List RI := [(.ireturn, [1])]
def p_S_hasRoomFor (L : Nat) : List RI := cond (Nat.blt L 24) (cond (Nat.beq L 0) b_S_hasRoomFor_0 []) (cond (Nat.blt L 25) (cond (Nat.beq L 24) b_S_hasRoomFor_24 []) (cond (Nat.beq L 25) b_S_hasRoomFor_25 []))
def b_S_distanceOf_0 : List RI := [(.aload_n 0, []), (.getfield 9, [3, 1]), (.iload_n 1, []), (.iaload, []), (.iload_n 2, []), (.isub, []), (.invokestatic 58, [1002, 1, 0]), (.aload_n 0, []), (.getfield 15, [3, 2]), (.iload_n 1, []), (.iaload, []), (.iload_n 3, []), (.isub, []), (.invokestatic 58, [1002, 1, 0]), (.invokestatic 64, [1004, 2, 0]), (.ireturn, [0])]
def p_S_distanceOf (L : Nat) : List RI := cond (Nat.beq L 0) b_S_distanceOf_0 []
def b_S_jumpOf_0 : List RI := [(.aload_n 0, []), (.iload_n 1, []), (.aload_n 0, []), (.getfield 9, [3, 1]), (.iload_n 2, []), (.iaload, []), (.aload_n 0, []), (.getfield 15, [3, 2]), (.iload_n 2, []), (.iaload, []), (.invokevirtual 68, [31, 4, 13]), (.ireturn, [0])]
def p_S_jumpOf (L : Nat) : List RI := cond (Nat.beq L 0) b_S_jumpOf_0 []
def b_S_nearestOfAll_0 : List RI := [(.iconst 0, []), (.istore_n 3, []), (.iconst 1, []), (.istore 4, []), (.nop, [5])]
def b_S_nearestOfAll_5 : List RI := [(.iload 4, []), (.aload_n 0, []), (.getfield 36, [3, 0]), (.if_icmp .ge 30, [41]), (.aload_n 0, []), (.iload 4, []), (.iload_n 1, []), (.iload_n 2, []), (.invokevirtual 68, [31, 4, 13]), (.aload_n 0, []), (.iload_n 3, []), (.iload_n 1, []), (.iload_n 2, []), (.invokevirtual 68, [31, 4, 13]), (.if_icmp .ge 6, [35]), (.iload 4, []), (.istore_n 3, []), (.nop, [35])]
def b_S_nearestOfAll_35 : List RI := [(.iinc 4 1, []), (.goto (-33), [5])]
def b_S_nearestOfAll_41 : List RI := [(.iload_n 3, []), (.ireturn, [0])]
def p_S_nearestOfAll (L : Nat) : List RI := cond (Nat.blt L 35) (cond (Nat.blt L 5) (cond (Nat.beq L 0) b_S_nearestOfAll_0 []) (cond (Nat.beq L 5) b_S_nearestOfAll_5 [])) (cond (Nat.blt L 41) (cond (Nat.beq L 35) b_S_nearestOfAll_35 []) (cond (Nat.beq L 41) b_S_nearestOfAll_41 []))
def b_S_nearestWithin_0 : List RI := [(.iconst (-1), []), (.istore 4, []), (.iconst 0, []), (.istore 5, []), (.nop, [6])]
def b_S_nearestWithin_6 : List RI := [(.iload 5, []), (.aload_n 0, []), (.getfield 36, [3, 0]), (.if_icmp .ge 54, [66]), (.aload_n 0, []), (.iload_n 1, []), (.iload 5, []), (.invokevirtual 72, [32, 3, 13]), (.aload_n 0, []), (.getfield 21, [3, 4]), (.iconst 0, []), (.iaload, []), (.if_icmp .gt 32, [60]), (.iload 4, []), (.iconst (-1), []), (.if_icmp .eq 22, [56]), (.aload_n 0, []), (.iload 5, []), (.iload_n 2, []), (.iload_n 3, []), (.invokevirtual 68, [31, 4, 13]), (.aload_n 0, []), (.iload 4, []), (.iload_n 2, []), (.iload_n 3, []), (.invokevirtual 68, [31, 4, 13]), (.if_icmp .ge 7, [60]), (.nop, [56])]
def b_S_nearestWithin_56 : List RI := [(.iload 5, []), (.istore 4, []), (.nop, [60])]
def b_S_nearestWithin_60 : List RI := [(.iinc 5 1, []), (.goto (-57), [6])]
def b_S_nearestWithin_66 : List RI := [(.iload 4, []), (.iconst (-1), []), (.if_icmp .ne 7, [76]), (.iload_n 1, []), (.goto 5, [78])]
def b_S_nearestWithin_76 : List RI := [(.iload 4, []), (.nop, [78])]
def b_S_nearestWithin_78 : List RI := [(.ireturn, [0])]
def p_S_nearestWithin (L : Nat) : List RI := cond (Nat.blt L 60) (cond (Nat.blt L 6) (cond (Nat.beq L 0) b_S_nearestWithin_0 []) (cond (Nat.blt L 56) (cond (Nat.beq L 6) b_S_nearestWithin_6 []) (cond (Nat.beq L 56) b_S_nearestWithin_56 []))) (cond (Nat.blt L 76) (cond (Nat.blt L 66) (cond (Nat.beq L 60) b_S_nearestWithin_60 []) (cond (Nat.beq L 66) b_S_nearestWithin_66 [])) (cond (Nat.blt L 78) (cond (Nat.beq L 76) b_S_nearestWithin_76 []) (cond (Nat.beq L 78) b_S_nearestWithin_78 [])))
def b_S_wrongOf_0 : List RI := [(.iload_n 1, []), (.bipush 9, []), (.if_icmp .ne 24, [27]), (.bipush 9, []), (.iconst 0, []), (.aload_n 0, []), (.getfield 21, [3, 4]), (.iconst 2, []), (.iaload, []), (.aload_n 0, []), (.getfield 9, [3, 1]), (.iload_n 2, []), (.iaload, []), (.isub, []), (.invokestatic 64, [1004, 2, 0]), (.imul, []), (.ireturn, [0])]
def b_S_wrongOf_27 : List RI := [(.iload_n 1, []), (.iconst 4, []), (.imul, []), (.istore_n 3, []), (.aload_n 0, []), (.getfield 18, [3, 3]), (.iload_n 3, []), (.iconst 2, []), (.iadd, []), (.iaload, []), (.aload_n 0, []), (.getfield 9, [3, 1]), (.iload_n 2, []), (.iaload, []), (.aload_n 0, []), (.getfield 18, [3, 3]), (.iload_n 3, []), (.iconst 0, []), (.iadd, []), (.iaload, []), (.isub, []), (.invokestatic 58, [1002, 1, 0]), (.aload_n 0, []), (.getfield 15, [3, 2]), (.iload_n 2, []), (.iaload, []), (.aload_n 0, []), (.getfield 18, [3, 3]), (.iload_n 3, []), (.iconst 1, []), (.iadd, []), (.iaload, []), (.isub, []), (.invokestatic 58, [1002, 1, 0]), (.iadd, []), (.imul, []), (.ireturn, [0])]
def p_S_wrongOf (L : Nat) : List RI := cond (Nat.blt L 27) (cond (Nat.beq L 0) b_S_wrongOf_0 []) (cond (Nat.beq L 27) b_S_wrongOf_27 [])
def b_S_leastWrongFor_0 : List RI := [(.iconst 0, []), (.istore_n 2, []), (.iconst 1, []), (.istore_n 3, []), (.nop, [4])]
def b_S_leastWrongFor_4 : List RI := [(.iload_n 3, []), (.aload_n 0, []), (.getfield 36, [3, 0]), (.if_icmp .ge 26, [35]), (.aload_n 0, []), (.iload_n 1, []), (.iload_n 3, []), (.invokevirtual 75, [35, 3, 13]), (.aload_n 0, []), (.iload_n 1, []), (.iload_n 2, []), (.invokevirtual 75, [35, 3, 13]), (.if_icmp .ge 5, [29]), (.iload_n 3, []), (.istore_n 2, []), (.nop, [29])]
def b_S_leastWrongFor_29 : List RI := [(.iinc 3 1, []), (.goto (-28), [4])]
def b_S_leastWrongFor_35 : List RI := [(.iload_n 2, []), (.ireturn, [0])]
def p_S_leastWrongFor (L : Nat) : List RI := cond (Nat.blt L 29) (cond (Nat.blt L 4) (cond (Nat.beq L 0) b_S_leastWrongFor_0 []) (cond (Nat.beq L 4) b_S_leastWrongFor_4 [])) (cond (Nat.blt L 35) (cond (Nat.beq L 29) b_S_leastWrongFor_29 []) (cond (Nat.beq L 35) b_S_leastWrongFor_35 []))
def b_S_countSet_0 : List RI := [(.iconst 0, []), (.istore_n 2, []), (.iconst 0, []), (.istore_n 3, []), (.nop, [4])]
def b_S_countSet_4 : List RI := [(.iload_n 3, []), (.aload_n 0, []), (.getfield 49, [3, 8]), (.if_icmp .ge 20, [29]), (.aload_n 1, []), (.iload_n 3, []), (.iaload, []), (.bipush (-99), []), (.if_icmp .eq 6, [23]), (.iinc 2 1, []), (.nop, [23])]
def b_S_countSet_23 : List RI := [(.iinc 3 1, []), (.goto (-22), [4])]
def b_S_countSet_29 : List RI := [(.iload_n 2, []), (.ireturn, [0])]
def p_S_countSet (L : Nat) : List RI := cond (Nat.blt L 23) (cond (Nat.blt L 4) (cond (Nat.beq L 0) b_S_countSet_0 []) (cond (Nat.beq L 4) b_S_countSet_4 [])) (cond (Nat.blt L 29) (cond (Nat.beq L 23) b_S_countSet_23 []) (cond (Nat.beq L 29) b_S_countSet_29 []))
def b_S_firstFrameOf_0 : List RI := [(.iconst 0, []), (.istore_n 2, []), (.iconst 0, []), (.istore_n 3, []), (.nop, [4])]
def b_S_firstFrameOf_4 : List RI := [(.iload_n 3, []), (.iload_n 1, []), (.if_icmp .ge 18, [24]), (.iload_n 2, []), (.aload_n 0, []), (.getfield 27, [3, 7]), (.iload_n 3, []), (.iaload, []), (.iadd, []), (.istore_n 2, []), (.iinc 3 1, []), (.goto (-17), [4])]
def b_S_firstFrameOf_24 : List RI := [(.iload_n 2, []), (.ireturn, [0])]
def p_S_firstFrameOf (L : Nat) : List RI := cond (Nat.blt L 4) (cond (Nat.beq L 0) b_S_firstFrameOf_0 []) (cond (Nat.blt L 24) (cond (Nat.beq L 4) b_S_firstFrameOf_4 []) (cond (Nat.beq L 24) b_S_firstFrameOf_24 []))
def b_S_segmentAt_0 : List RI := [(.iconst 0, []), (.istore_n 2, []), (.iconst 0, []), (.istore_n 3, []), (.nop, [4])]
def b_S_segmentAt_4 : List RI := [(.iload_n 3, []), (.aload_n 0, []), (.getfield 46, [3, 5]), (.if_icmp .ge 25, [34]), (.iload_n 2, []), (.aload_n 0, []), (.getfield 27, [3, 7]), (.iload_n 3, []), (.iaload, []), (.iadd, []), (.istore_n 2, []), (.iload_n 1, []), (.iload_n 2, []), (.if_icmp .ge 5, [28]), (.iload_n 3, []), (.ireturn, [0])]
def b_S_segmentAt_28 : List RI := [(.iinc 3 1, []), (.goto (-27), [4])]
def b_S_segmentAt_34 : List RI := [(.iconst 0, []), (.ireturn, [0])]
def p_S_segmentAt (L : Nat) : List RI := cond (Nat.blt L 28) (cond (Nat.blt L 4) (cond (Nat.beq L 0) b_S_segmentAt_0 []) (cond (Nat.beq L 4) b_S_segmentAt_4 [])) (cond (Nat.blt L 34) (cond (Nat.beq L 28) b_S_segmentAt_28 []) (cond (Nat.beq L 34) b_S_segmentAt_34 []))
def b_S_kindAt_0 : List RI := [(.aload_n 0, []), (.getfield 24, [3, 6]), (.aload_n 0, []), (.iload_n 1, []), (.invokevirtual 78, [39, 2, 13]), (.iaload, []), (.ireturn, [0])]
def p_S_kindAt (L : Nat) : List RI := cond (Nat.beq L 0) b_S_kindAt_0 []
def b_S_openSegment_0 : List RI := [(.aload_n 0, []), (.aload_n 0, []), (.iload_n 1, []), (.invokevirtual 81, [38, 2, 13]), (.iload_n 3, []), (.invokevirtual 84, [43, 3, 13]), (.aload_n 0, []), (.getfield 46, [3, 5]), (.istore 4, []), (.nop, [16])]
def b_S_openSegment_16 : List RI := [(.iload 4, []), (.iload_n 1, []), (.if_icmp .le 41, [60]), (.aload_n 0, []), (.getfield 24, [3, 6]), (.iload 4, []), (.aload_n 0, []), (.getfield 24, [3, 6]), (.iload 4, []), (.iconst 1, []), (.isub, []), (.iaload, []), (.iastore, []), (.aload_n 0, []), (.getfield 27, [3, 7]), (.iload 4, []), (.aload_n 0, []), (.getfield 27, [3, 7]), (.iload 4, []), (.iconst 1, []), (.isub, []), (.iaload, []), (.iastore, []), (.iinc 4 (-1), []), (.goto (-41), [16])]
def b_S_openSegment_60 : List RI := [(.aload_n 0, []), (.getfield 24, [3, 6]), (.iload_n 1, []), (.iload_n 2, []), (.iastore, []), (.aload_n 0, []), (.getfield 27, [3, 7]), (.iload_n 1, []), (.iload_n 3, []), (.iastore, []), (.aload_n 0, []), (.dup, []), (.getfield 46, [3, 5]), (.iconst 1, []), (.iadd, []), (.putfield 46, [3, 5]), (.return_, [])]
def p_S_openSegment (L : Nat) : List RI := cond (Nat.blt L 16) (cond (Nat.beq L 0) b_S_openSegment_0 []) (cond (Nat.blt L 60) (cond (Nat.beq L 16) b_S_openSegment_16 []) (cond (Nat.beq L 60) b_S_openSegment_60 []))
def b_S_closeSegment_0 : List RI := [(.aload_n 0, []), (.aload_n 0, []), (.iload_n 1, []), (.invokevirtual 81, [38, 2, 13]), (.aload_n 0, []), (.getfield 27, [3, 7]), (.iload_n 1, []), (.iaload, []), (.invokevirtual 88, [44, 3, 13]), (.iload_n 1, []), (.iconst 1, []), (.iadd, []), (.istore_n 2, []), (.nop, [19])]
def b_S_closeSegment_19 : List RI := [(.iload_n 2, []), (.aload_n 0, []), (.getfield 46, [3, 5]), (.if_icmp .ge 37, [61]), (.aload_n 0, []), (.getfield 24, [3, 6]), (.iload_n 2, []), (.iconst 1, []), (.isub, []), (.aload_n 0, []), (.getfield 24, [3, 6]), (.iload_n 2, []), (.iaload, []), (.iastore, []), (.aload_n 0, []), (.getfield 27, [3, 7]), (.iload_n 2, []), (.iconst 1, []), (.isub, []), (.aload_n 0, []), (.getfield 27, [3, 7]), (.iload_n 2, []), (.iaload, []), (.iastore, []), (.iinc 2 1, []), (.goto (-39), [19])]
def b_S_closeSegment_61 : List RI := [(.aload_n 0, []), (.dup, []), (.getfield 46, [3, 5]), (.iconst 1, []), (.isub, []), (.putfield 46, [3, 5]), (.return_, [])]
def p_S_closeSegment (L : Nat) : List RI := cond (Nat.blt L 19) (cond (Nat.beq L 0) b_S_closeSegment_0 []) (cond (Nat.blt L 61) (cond (Nat.beq L 19) b_S_closeSegment_19 []) (cond (Nat.beq L 61) b_S_closeSegment_61 []))
def b_S_openFrames_0 : List RI := [(.aload_n 0, []), (.getfield 49, [3, 8]), (.iconst 1, []), (.isub, []), (.istore_n 3, []), (.nop, [7])]
def b_S_openFrames_7 : List RI := [(.iload_n 3, []), (.iload_n 1, []), (.if_icmp .lt 37, [46]), (.aload_n 0, []), (.getfield 30, [3, 9]), (.iload_n 3, []), (.iload_n 2, []), (.iadd, []), (.aload_n 0, []), (.getfield 30, [3, 9]), (.iload_n 3, []), (.iaload, []), (.iastore, []), (.aload_n 0, []), (.getfield 33, [3, 10]), (.iload_n 3, []), (.iload_n 2, []), (.iadd, []), (.aload_n 0, []), (.getfield 33, [3, 10]), (.iload_n 3, []), (.iaload, []), (.iastore, []), (.iinc 3 (-1), []), (.goto (-36), [7])]
def b_S_openFrames_46 : List RI := [(.iload_n 1, []), (.istore_n 3, []), (.nop, [48])]
def b_S_openFrames_48 : List RI := [(.iload_n 3, []), (.iload_n 1, []), (.iload_n 2, []), (.iadd, []), (.if_icmp .ge 25, [77]), (.aload_n 0, []), (.getfield 30, [3, 9]), (.iload_n 3, []), (.bipush (-99), []), (.iastore, []), (.aload_n 0, []), (.getfield 33, [3, 10]), (.iload_n 3, []), (.bipush (-99), []), (.iastore, []), (.iinc 3 1, []), (.goto (-26), [48])]
def b_S_openFrames_77 : List RI := [(.aload_n 0, []), (.dup, []), (.getfield 49, [3, 8]), (.iload_n 2, []), (.iadd, []), (.putfield 49, [3, 8]), (.return_, [])]
def p_S_openFrames (L : Nat) : List RI := cond (Nat.blt L 46) (cond (Nat.blt L 7) (cond (Nat.beq L 0) b_S_openFrames_0 []) (cond (Nat.beq L 7) b_S_openFrames_7 [])) (cond (Nat.blt L 48) (cond (Nat.beq L 46) b_S_openFrames_46 []) (cond (Nat.blt L 77) (cond (Nat.beq L 48) b_S_openFrames_48 []) (cond (Nat.beq L 77) b_S_openFrames_77 [])))
def b_S_closeFrames_0 : List RI := [(.iload_n 1, []), (.iload_n 2, []), (.iadd, []), (.istore_n 3, []), (.nop, [4])]
def b_S_closeFrames_4 : List RI := [(.iload_n 3, []), (.aload_n 0, []), (.getfield 49, [3, 8]), (.if_icmp .ge 37, [46]), (.aload_n 0, []), (.getfield 30, [3, 9]), (.iload_n 3, []), (.iload_n 2, []), (.isub, []), (.aload_n 0, []), (.getfield 30, [3, 9]), (.iload_n 3, []), (.iaload, []), (.iastore, []), (.aload_n 0, []), (.getfield 33, [3, 10]), (.iload_n 3, []), (.iload_n 2, []), (.isub, []), (.aload_n 0, []), (.getfield 33, [3, 10]), (.iload_n 3, []), (.iaload, []), (.iastore, []), (.iinc 3 1, []), (.goto (-39), [4])]
def b_S_closeFrames_46 : List RI := [(.aload_n 0, []), (.dup, []), (.getfield 49, [3, 8]), (.iload_n 2, []), (.isub, []), (.putfield 49, [3, 8]), (.return_, [])]
def p_S_closeFrames (L : Nat) : List RI := cond (Nat.blt L 4) (cond (Nat.beq L 0) b_S_closeFrames_0 []) (cond (Nat.blt L 46) (cond (Nat.beq L 4) b_S_closeFrames_4 []) (cond (Nat.beq L 46) b_S_closeFrames_46 []))
def b_T_init_0 : List RI := [(.aload_n 0, []), (.invokespecial 3, [1000, 1, 0]), (.aload_n 0, []), (.new 9, [3]), (.dup, []), (.invokespecial 11, [25, 1, 13]), (.putfield 12, [4, 0]), (.aload_n 0, []), (.iconst 2, []), (.anewarray 9, [3]), (.putfield 18, [4, 1]), (.iconst 0, []), (.istore_n 1, []), (.nop, [25])]
def b_T_init_25 : List RI := [(.iload_n 1, []), (.iconst 2, []), (.if_icmp .ge 22, [49]), (.aload_n 0, []), (.getfield 18, [4, 1]), (.iload_n 1, []), (.new 9, [3]), (.dup, []), (.invokespecial 11, [25, 1, 13]), (.aastore, []), (.iinc 1 1, []), (.goto (-21), [25])]
def b_T_init_49 : List RI := [(.aload_n 0, []), (.iconst 2, []), (.newarray .boolean, [1]), (.putfield 22, [4, 2]), (.return_, [])]
def p_T_init (L : Nat) : List RI := cond (Nat.blt L 25) (cond (Nat.beq L 0) b_T_init_0 []) (cond (Nat.blt L 49) (cond (Nat.beq L 25) b_T_init_25 []) (cond (Nat.beq L 49) b_T_init_49 []))
def b_T_copyFrom_0 : List RI := [(.aload_n 0, []), (.getfield 12, [4, 0]), (.aload_n 1, []), (.getfield 12, [4, 0]), (.invokevirtual 26, [26, 2, 13]), (.iconst 0, []), (.istore_n 2, []), (.nop, [13])]
def b_T_copyFrom_13 : List RI := [(.iload_n 2, []), (.iconst 2, []), (.if_icmp .ge 45, [60]), (.aload_n 0, []), (.getfield 22, [4, 2]), (.iload_n 2, []), (.aload_n 1, []), (.getfield 22, [4, 2]), (.iload_n 2, []), (.baload, []), (.bastore, []), (.aload_n 0, []), (.getfield 22, [4, 2]), (.iload_n 2, []), (.baload, []), (.ifCond .eq 18, [54]), (.aload_n 0, []), (.getfield 18, [4, 1]), (.iload_n 2, []), (.aaload, []), (.aload_n 1, []), (.getfield 18, [4, 1]), (.iload_n 2, []), (.aaload, []), (.invokevirtual 26, [26, 2, 13]), (.nop, [54])]
def b_T_copyFrom_54 : List RI := [(.iinc 2 1, []), (.goto (-44), [13])]
def b_T_copyFrom_60 : List RI := [(.return_, [])]
def p_T_copyFrom (L : Nat) : List RI := cond (Nat.blt L 54) (cond (Nat.blt L 13) (cond (Nat.beq L 0) b_T_copyFrom_0 []) (cond (Nat.beq L 13) b_T_copyFrom_13 [])) (cond (Nat.blt L 60) (cond (Nat.beq L 54) b_T_copyFrom_54 []) (cond (Nat.beq L 60) b_T_copyFrom_60 []))
def b_T_countTaken_0 : List RI := [(.iconst 0, []), (.istore_n 1, []), (.iconst 0, []), (.istore_n 2, []), (.nop, [4])]
def b_T_countTaken_4 : List RI := [(.iload_n 2, []), (.iconst 2, []), (.if_icmp .ge 21, [27]), (.aload_n 0, []), (.getfield 22, [4, 2]), (.iload_n 2, []), (.baload, []), (.ifCond .eq 6, [21]), (.iinc 1 1, []), (.nop, [21])]
def b_T_countTaken_21 : List RI := [(.iinc 2 1, []), (.goto (-20), [4])]
def b_T_countTaken_27 : List RI := [(.iload_n 1, []), (.ireturn, [0])]
def p_T_countTaken (L : Nat) : List RI := cond (Nat.blt L 21) (cond (Nat.blt L 4) (cond (Nat.beq L 0) b_T_countTaken_0 []) (cond (Nat.beq L 4) b_T_countTaken_4 [])) (cond (Nat.blt L 27) (cond (Nat.beq L 21) b_T_countTaken_21 []) (cond (Nat.beq L 27) b_T_countTaken_27 []))
def b_L_init_0 : List RI := [(.aload_n 0, []), (.invokespecial 1, [1000, 1, 0]), (.aload_n 0, []), (.new 7, [4]), (.dup, []), (.invokespecial 9, [45, 1, 14]), (.putfield 10, [5, 0]), (.aload_n 0, []), (.iconst 5, []), (.anewarray 7, [2]), (.putfield 16, [5, 1]), (.iconst 0, []), (.istore_n 1, []), (.nop, [25])]
def b_L_init_25 : List RI := [(.iload_n 1, []), (.iconst 5, []), (.if_icmp .ge 22, [49]), (.aload_n 0, []), (.getfield 16, [5, 1]), (.iload_n 1, []), (.new 7, [4]), (.dup, []), (.invokespecial 9, [45, 1, 14]), (.aastore, []), (.iinc 1 1, []), (.goto (-21), [25])]
def b_L_init_49 : List RI := [(.aload_n 0, []), (.iconst 0, []), (.putfield 20, [5, 2]), (.aload_n 0, []), (.new 24, [3]), (.dup, []), (.invokespecial 26, [25, 1, 13]), (.putfield 27, [5, 3]), (.aload_n 0, []), (.new 31, [0]), (.dup, []), (.invokespecial 33, [0, 1, 10]), (.putfield 34, [5, 4]), (.aload_n 0, []), (.new 38, [1]), (.dup, []), (.invokespecial 40, [3, 1, 11]), (.putfield 41, [5, 5]), (.aload_n 0, []), (.new 45, [2]), (.dup, []), (.invokespecial 47, [18, 1, 12]), (.putfield 48, [5, 6]), (.aload_n 0, []), (.bipush 120, []), (.newarray .int, [0]), (.putfield 52, [5, 7]), (.aload_n 0, []), (.iconst 0, []), (.putfield 56, [5, 8]), (.return_, [])]
def p_L_init (L : Nat) : List RI := cond (Nat.blt L 25) (cond (Nat.beq L 0) b_L_init_0 []) (cond (Nat.blt L 49) (cond (Nat.beq L 25) b_L_init_25 []) (cond (Nat.beq L 49) b_L_init_49 []))
def b_L_addMouth_0 : List RI := [(.aload_n 0, []), (.getfield 10, [5, 0]), (.getfield 59, [4, 0]), (.astore_n 3, []), (.iload_n 1, []), (.iconst 0, []), (.bipush 9, []), (.invokestatic 62, [82, 3, 0]), (.ifCond .ne 13, [28]), (.iload_n 2, []), (.iconst 0, []), (.bipush 9, []), (.invokestatic 62, [82, 3, 0]), (.ifCond .eq 5, [30]), (.nop, [28])]
def b_L_addMouth_28 : List RI := [(.iconst (-1), []), (.ireturn, [0])]
def b_L_addMouth_30 : List RI := [(.aload_n 3, []), (.getfield 66, [3, 0]), (.bipush 8, []), (.if_icmp .lt 6, [42]), (.bipush (-3), []), (.ireturn, [0])]
def b_L_addMouth_42 : List RI := [(.aload_n 0, []), (.invokevirtual 69, [83, 1, 15]), (.aload_n 3, []), (.getfield 72, [3, 1]), (.aload_n 3, []), (.getfield 66, [3, 0]), (.iload_n 1, []), (.iastore, []), (.aload_n 3, []), (.getfield 75, [3, 2]), (.aload_n 3, []), (.getfield 66, [3, 0]), (.iload_n 2, []), (.iastore, []), (.aload_n 3, []), (.dup, []), (.getfield 66, [3, 0]), (.iconst 1, []), (.iadd, []), (.putfield 66, [3, 0]), (.aload_n 3, []), (.getfield 66, [3, 0]), (.iconst 1, []), (.isub, []), (.ireturn, [0])]
def p_L_addMouth (L : Nat) : List RI := cond (Nat.blt L 30) (cond (Nat.blt L 28) (cond (Nat.beq L 0) b_L_addMouth_0 []) (cond (Nat.beq L 28) b_L_addMouth_28 [])) (cond (Nat.blt L 42) (cond (Nat.beq L 30) b_L_addMouth_30 []) (cond (Nat.beq L 42) b_L_addMouth_42 []))
def b_L_setMouth_0 : List RI := [(.aload_n 0, []), (.getfield 10, [5, 0]), (.getfield 59, [4, 0]), (.astore 4, []), (.aload 4, []), (.iload_n 1, []), (.invokevirtual 78, [27, 2, 13]), (.ifCond .eq 23, [38]), (.iload_n 2, []), (.iconst 0, []), (.bipush 9, []), (.invokestatic 62, [82, 3, 0]), (.ifCond .ne 13, [38]), (.iload_n 3, []), (.iconst 0, []), (.bipush 9, []), (.invokestatic 62, [82, 3, 0]), (.ifCond .eq 5, [40]), (.nop, [38])]
def b_L_setMouth_38 : List RI := [(.iconst (-1), []), (.ireturn, [0])]
def b_L_setMouth_40 : List RI := [(.aload_n 0, []), (.invokevirtual 69, [83, 1, 15]), (.aload 4, []), (.iload_n 1, []), (.iload_n 2, []), (.iload_n 3, []), (.invokevirtual 82, [31, 4, 13]), (.istore 5, []), (.aload 4, []), (.getfield 72, [3, 1]), (.iload_n 1, []), (.iload_n 2, []), (.iastore, []), (.aload 4, []), (.getfield 75, [3, 2]), (.iload_n 1, []), (.iload_n 3, []), (.iastore, []), (.iload 5, []), (.ireturn, [0])]
def p_L_setMouth (L : Nat) : List RI := cond (Nat.blt L 38) (cond (Nat.beq L 0) b_L_setMouth_0 []) (cond (Nat.blt L 40) (cond (Nat.beq L 38) b_L_setMouth_38 []) (cond (Nat.beq L 40) b_L_setMouth_40 []))
def b_L_setSound_0 : List RI := [(.iload_n 1, []), (.iconst 0, []), (.bipush 8, []), (.invokestatic 62, [82, 3, 0]), (.ifCond .ne 25, [32]), (.iload_n 2, []), (.iconst 0, []), (.iconst 3, []), (.invokestatic 62, [82, 3, 0]), (.ifCond .ne 16, [32]), (.iload_n 3, []), (.iconst 0, []), (.getstatic 86, [2]), (.iload_n 2, []), (.iaload, []), (.invokestatic 62, [82, 3, 0]), (.ifCond .eq 5, [34]), (.nop, [32])]
def b_L_setSound_32 : List RI := [(.iconst (-1), []), (.ireturn, [0])]
def b_L_setSound_34 : List RI := [(.aload_n 0, []), (.invokevirtual 69, [83, 1, 15]), (.iload_n 1, []), (.iconst 4, []), (.imul, []), (.iload_n 2, []), (.iadd, []), (.istore 4, []), (.aload_n 0, []), (.getfield 10, [5, 0]), (.getfield 59, [4, 0]), (.getfield 89, [3, 3]), (.iload 4, []), (.iaload, []), (.istore 5, []), (.aload_n 0, []), (.getfield 10, [5, 0]), (.getfield 59, [4, 0]), (.getfield 89, [3, 3]), (.iload 4, []), (.iload_n 3, []), (.iastore, []), (.iload 5, []), (.ireturn, [0])]
def p_L_setSound (L : Nat) : List RI := cond (Nat.blt L 32) (cond (Nat.beq L 0) b_L_setSound_0 []) (cond (Nat.blt L 34) (cond (Nat.beq L 32) b_L_setSound_32 []) (cond (Nat.beq L 34) b_L_setSound_34 []))
def b_L_setNumber_0 : List RI := [(.iload_n 1, []), (.iconst 0, []), (.iconst 4, []), (.invokestatic 62, [82, 3, 0]), (.ifCond .ne 20, [26]), (.iload_n 2, []), (.getstatic 92, [3]), (.iload_n 1, []), (.iaload, []), (.getstatic 95, [4]), (.iload_n 1, []), (.iaload, []), (.invokestatic 62, [82, 3, 0]), (.ifCond .eq 5, [28]), (.nop, [26])]
def b_L_setNumber_26 : List RI := [(.iconst (-1), []), (.ireturn, [0])]
def b_L_setNumber_28 : List RI := [(.aload_n 0, []), (.invokevirtual 69, [83, 1, 15]), (.aload_n 0, []), (.getfield 10, [5, 0]), (.getfield 59, [4, 0]), (.getfield 98, [3, 4]), (.iload_n 1, []), (.iaload, []), (.istore_n 3, []), (.aload_n 0, []), (.getfield 10, [5, 0]), (.getfield 59, [4, 0]), (.getfield 98, [3, 4]), (.iload_n 1, []), (.iload_n 2, []), (.iastore, []), (.iload_n 3, []), (.ireturn, [0])]
def p_L_setNumber (L : Nat) : List RI := cond (Nat.blt L 26) (cond (Nat.beq L 0) b_L_setNumber_0 []) (cond (Nat.blt L 28) (cond (Nat.beq L 26) b_L_setNumber_26 []) (cond (Nat.beq L 28) b_L_setNumber_28 []))
def b_L_insert_0 : List RI := [(.aload_n 0, []), (.getfield 10, [5, 0]), (.getfield 59, [4, 0]), (.astore 4, []), (.iload_n 1, []), (.iconst 0, []), (.aload 4, []), (.getfield 101, [3, 5]), (.invokestatic 62, [82, 3, 0]), (.ifCond .ne 23, [42]), (.iload_n 2, []), (.iconst 0, []), (.bipush 9, []), (.invokestatic 62, [82, 3, 0]), (.ifCond .ne 13, [42]), (.iload_n 3, []), (.iconst 1, []), (.bipush 20, []), (.invokestatic 62, [82, 3, 0]), (.ifCond .eq 5, [44]), (.nop, [42])]
def b_L_insert_42 : List RI := [(.iconst (-1), []), (.ireturn, [0])]
def b_L_insert_44 : List RI := [(.aload 4, []), (.iload_n 3, []), (.invokevirtual 104, [30, 2, 13]), (.ifCond .ne 6, [56]), (.bipush (-3), []), (.ireturn, [0])]
def b_L_insert_56 : List RI := [(.aload_n 0, []), (.invokevirtual 69, [83, 1, 15]), (.aload 4, []), (.iload_n 1, []), (.iload_n 2, []), (.iload_n 3, []), (.invokevirtual 107, [41, 4, 13]), (.aload 4, []), (.getfield 111, [3, 8]), (.ireturn, [0])]
def p_L_insert (L : Nat) : List RI := cond (Nat.blt L 44) (cond (Nat.blt L 42) (cond (Nat.beq L 0) b_L_insert_0 []) (cond (Nat.beq L 42) b_L_insert_42 [])) (cond (Nat.blt L 56) (cond (Nat.beq L 44) b_L_insert_44 []) (cond (Nat.beq L 56) b_L_insert_56 []))
def b_L_remove_0 : List RI := [(.aload_n 0, []), (.getfield 10, [5, 0]), (.getfield 59, [4, 0]), (.astore_n 2, []), (.aload_n 2, []), (.iload_n 1, []), (.invokevirtual 114, [28, 2, 13]), (.ifCond .ne 5, [18]), (.iconst (-1), []), (.ireturn, [0])]
def b_L_remove_18 : List RI := [(.aload_n 0, []), (.invokevirtual 69, [83, 1, 15]), (.aload_n 2, []), (.iload_n 1, []), (.invokevirtual 117, [42, 2, 13]), (.aload_n 2, []), (.getfield 111, [3, 8]), (.ireturn, [0])]
def p_L_remove (L : Nat) : List RI := cond (Nat.blt L 18) (cond (Nat.beq L 0) b_L_remove_0 []) (cond (Nat.beq L 18) b_L_remove_18 [])
def b_L_stretch_0 : List RI := [(.aload_n 0, []), (.getfield 10, [5, 0]), (.getfield 59, [4, 0]), (.astore_n 3, []), (.aload_n 3, []), (.iload_n 1, []), (.invokevirtual 114, [28, 2, 13]), (.ifCond .eq 13, [26]), (.iload_n 2, []), (.iconst 1, []), (.bipush 20, []), (.invokestatic 62, [82, 3, 0]), (.ifCond .eq 5, [28]), (.nop, [26])]
def b_L_stretch_26 : List RI := [(.iconst (-1), []), (.ireturn, [0])]
def b_L_stretch_28 : List RI := [(.aload_n 3, []), (.getfield 121, [3, 7]), (.iload_n 1, []), (.iaload, []), (.istore 4, []), (.aload_n 3, []), (.getfield 111, [3, 8]), (.iload 4, []), (.isub, []), (.iload_n 2, []), (.iadd, []), (.bipush 99, []), (.if_icmp .le 6, [53]), (.bipush (-3), []), (.ireturn, [0])]
def b_L_stretch_53 : List RI := [(.aload_n 0, []), (.invokevirtual 69, [83, 1, 15]), (.aload_n 3, []), (.iload_n 1, []), (.invokevirtual 124, [38, 2, 13]), (.istore 5, []), (.iload_n 2, []), (.iload 4, []), (.if_icmp .ge 18, [85]), (.aload_n 3, []), (.iload 5, []), (.iload_n 2, []), (.iadd, []), (.iload 4, []), (.iload_n 2, []), (.isub, []), (.invokevirtual 128, [44, 3, 13]), (.goto 16, [98])]
def b_L_stretch_85 : List RI := [(.aload_n 3, []), (.iload 5, []), (.iload 4, []), (.iadd, []), (.iload_n 2, []), (.iload 4, []), (.isub, []), (.invokevirtual 132, [43, 3, 13]), (.nop, [98])]
def b_L_stretch_98 : List RI := [(.aload_n 3, []), (.getfield 121, [3, 7]), (.iload_n 1, []), (.iload_n 2, []), (.iastore, []), (.iload 4, []), (.ireturn, [0])]
def p_L_stretch (L : Nat) : List RI := cond (Nat.blt L 53) (cond (Nat.blt L 26) (cond (Nat.beq L 0) b_L_stretch_0 []) (cond (Nat.blt L 28) (cond (Nat.beq L 26) b_L_stretch_26 []) (cond (Nat.beq L 28) b_L_stretch_28 []))) (cond (Nat.blt L 85) (cond (Nat.beq L 53) b_L_stretch_53 []) (cond (Nat.blt L 98) (cond (Nat.beq L 85) b_L_stretch_85 []) (cond (Nat.beq L 98) b_L_stretch_98 [])))
def b_L_pin_0 : List RI := [(.aload_n 0, []), (.getfield 10, [5, 0]), (.getfield 59, [4, 0]), (.astore_n 3, []), (.aload_n 3, []), (.iload_n 1, []), (.invokevirtual 135, [29, 2, 13]), (.ifCond .eq 16, [29]), (.iload_n 2, []), (.iconst (-1), []), (.if_icmp .eq 13, [31]), (.aload_n 3, []), (.iload_n 2, []), (.invokevirtual 78, [27, 2, 13]), (.ifCond .ne 5, [31]), (.nop, [29])]
def b_L_pin_29 : List RI := [(.iconst (-1), []), (.ireturn, [0])]
def b_L_pin_31 : List RI := [(.aload_n 0, []), (.invokevirtual 69, [83, 1, 15]), (.aload_n 3, []), (.getfield 138, [3, 9]), (.iload_n 1, []), (.iaload, []), (.istore 4, []), (.aload_n 3, []), (.getfield 138, [3, 9]), (.iload_n 1, []), (.iload_n 2, []), (.iconst (-1), []), (.if_icmp .ne 8, [58]), (.bipush (-99), []), (.goto 4, [59])]
def b_L_pin_58 : List RI := [(.iload_n 2, []), (.nop, [59])]
def b_L_pin_59 : List RI := [(.iastore, []), (.iload 4, []), (.ireturn, [0])]
def p_L_pin (L : Nat) : List RI := cond (Nat.blt L 31) (cond (Nat.blt L 29) (cond (Nat.beq L 0) b_L_pin_0 []) (cond (Nat.beq L 29) b_L_pin_29 [])) (cond (Nat.blt L 58) (cond (Nat.beq L 31) b_L_pin_31 []) (cond (Nat.blt L 59) (cond (Nat.beq L 58) b_L_pin_58 []) (cond (Nat.beq L 59) b_L_pin_59 [])))
def b_L_draw_0 : List RI := [(.aload_n 0, []), (.getfield 10, [5, 0]), (.getfield 59, [4, 0]), (.astore_n 3, []), (.aload_n 3, []), (.iload_n 1, []), (.invokevirtual 135, [29, 2, 13]), (.ifCond .eq 16, [29]), (.iload_n 2, []), (.iconst (-1), []), (.if_icmp .eq 13, [31]), (.aload_n 3, []), (.iload_n 2, []), (.invokevirtual 78, [27, 2, 13]), (.ifCond .ne 5, [31]), (.nop, [29])]
def b_L_draw_29 : List RI := [(.iconst (-1), []), (.ireturn, [0])]
def b_L_draw_31 : List RI := [(.aload_n 0, []), (.invokevirtual 69, [83, 1, 15]), (.aload_n 3, []), (.getfield 141, [3, 10]), (.iload_n 1, []), (.iaload, []), (.istore 4, []), (.aload_n 3, []), (.getfield 141, [3, 10]), (.iload_n 1, []), (.iload_n 2, []), (.iconst (-1), []), (.if_icmp .ne 8, [58]), (.bipush (-99), []), (.goto 4, [59])]
def b_L_draw_58 : List RI := [(.iload_n 2, []), (.nop, [59])]
def b_L_draw_59 : List RI := [(.iastore, []), (.iload 4, []), (.ireturn, [0])]
def p_L_draw (L : Nat) : List RI := cond (Nat.blt L 31) (cond (Nat.blt L 29) (cond (Nat.beq L 0) b_L_draw_0 []) (cond (Nat.beq L 29) b_L_draw_29 [])) (cond (Nat.blt L 58) (cond (Nat.beq L 31) b_L_draw_31 []) (cond (Nat.blt L 59) (cond (Nat.beq L 58) b_L_draw_58 []) (cond (Nat.beq L 59) b_L_draw_59 [])))
def b_L_between_0 : List RI := [(.aload_n 0, []), (.getfield 10, [5, 0]), (.getfield 59, [4, 0]), (.astore_n 3, []), (.aload_n 3, []), (.iload_n 1, []), (.invokevirtual 135, [29, 2, 13]), (.ifCond .eq 16, [29]), (.aload_n 3, []), (.iload_n 2, []), (.invokevirtual 135, [29, 2, 13]), (.ifCond .eq 8, [29]), (.iload_n 2, []), (.iload_n 1, []), (.if_icmp .gt 5, [31]), (.nop, [29])]
def b_L_between_29 : List RI := [(.iconst (-1), []), (.ireturn, [0])]
def b_L_between_31 : List RI := [(.aload_n 3, []), (.getfield 141, [3, 10]), (.iload_n 1, []), (.iaload, []), (.istore 4, []), (.aload_n 3, []), (.getfield 141, [3, 10]), (.iload_n 2, []), (.iaload, []), (.istore 5, []), (.aload_n 3, []), (.iload 4, []), (.invokevirtual 78, [27, 2, 13]), (.ifCond .eq 12, [65]), (.aload_n 3, []), (.iload 5, []), (.invokevirtual 78, [27, 2, 13]), (.ifCond .ne 6, [68]), (.nop, [65])]
def b_L_between_65 : List RI := [(.bipush (-2), []), (.ireturn, [0])]
def b_L_between_68 : List RI := [(.aload_n 0, []), (.invokevirtual 69, [83, 1, 15]), (.iload 4, []), (.istore 6, []), (.iload_n 1, []), (.iconst 1, []), (.iadd, []), (.istore 7, []), (.nop, [81])]
def b_L_between_81 : List RI := [(.iload 7, []), (.iload_n 2, []), (.if_icmp .ge 82, [166]), (.aload_n 3, []), (.getfield 72, [3, 1]), (.iload 4, []), (.iaload, []), (.aload_n 3, []), (.getfield 72, [3, 1]), (.iload 5, []), (.iaload, []), (.iload 7, []), (.iload_n 1, []), (.isub, []), (.iload_n 2, []), (.iload_n 1, []), (.isub, []), (.invokestatic 144, [84, 4, 0]), (.istore 8, []), (.aload_n 3, []), (.getfield 75, [3, 2]), (.iload 4, []), (.iaload, []), (.aload_n 3, []), (.getfield 75, [3, 2]), (.iload 5, []), (.iaload, []), (.iload 7, []), (.iload_n 1, []), (.isub, []), (.iload_n 2, []), (.iload_n 1, []), (.isub, []), (.invokestatic 144, [84, 4, 0]), (.istore 9, []), (.aload_n 3, []), (.iload 6, []), (.iload 8, []), (.iload 9, []), (.invokevirtual 148, [34, 4, 13]), (.istore 6, []), (.aload_n 3, []), (.getfield 141, [3, 10]), (.iload 7, []), (.iload 6, []), (.iastore, []), (.iinc 7 1, []), (.goto (-82), [81])]
def b_L_between_166 : List RI := [(.aload_n 3, []), (.iload 6, []), (.iload 5, []), (.invokevirtual 151, [32, 3, 13]), (.ireturn, [0])]
def p_L_between (L : Nat) : List RI := cond (Nat.blt L 65) (cond (Nat.blt L 29) (cond (Nat.beq L 0) b_L_between_0 []) (cond (Nat.blt L 31) (cond (Nat.beq L 29) b_L_between_29 []) (cond (Nat.beq L 31) b_L_between_31 []))) (cond (Nat.blt L 81) (cond (Nat.blt L 68) (cond (Nat.beq L 65) b_L_between_65 []) (cond (Nat.beq L 68) b_L_between_68 [])) (cond (Nat.blt L 166) (cond (Nat.beq L 81) b_L_between_81 []) (cond (Nat.beq L 166) b_L_between_166 [])))
def b_L_finish_0 : List RI := [(.aload_n 0, []), (.getfield 41, [5, 5]), (.aload_n 0, []), (.getfield 10, [5, 0]), (.getfield 59, [4, 0]), (.invokevirtual 155, [4, 2, 11]), (.aload_n 0, []), (.getfield 41, [5, 5]), (.invokevirtual 159, [8, 1, 11]), (.istore_n 1, []), (.iload_n 1, []), (.bipush (-99), []), (.if_icmp .ne 6, [31]), (.bipush (-2), []), (.ireturn, [0])]
def b_L_finish_31 : List RI := [(.aload_n 0, []), (.invokevirtual 69, [83, 1, 15]), (.aload_n 0, []), (.getfield 41, [5, 5]), (.invokevirtual 163, [15, 1, 11]), (.pop, []), (.iconst 0, []), (.istore_n 2, []), (.nop, [45])]
def b_L_finish_45 : List RI := [(.iload_n 2, []), (.aload_n 0, []), (.getfield 10, [5, 0]), (.getfield 59, [4, 0]), (.getfield 111, [3, 8]), (.if_icmp .ge 30, [86]), (.aload_n 0, []), (.getfield 10, [5, 0]), (.getfield 59, [4, 0]), (.getfield 141, [3, 10]), (.iload_n 2, []), (.aload_n 0, []), (.getfield 41, [5, 5]), (.getfield 167, [1, 0]), (.iload_n 2, []), (.iaload, []), (.iastore, []), (.iinc 2 1, []), (.goto (-38), [45])]
def b_L_finish_86 : List RI := [(.iload_n 1, []), (.ireturn, [0])]
def p_L_finish (L : Nat) : List RI := cond (Nat.blt L 45) (cond (Nat.blt L 31) (cond (Nat.beq L 0) b_L_finish_0 []) (cond (Nat.beq L 31) b_L_finish_31 [])) (cond (Nat.blt L 86) (cond (Nat.beq L 45) b_L_finish_45 []) (cond (Nat.beq L 86) b_L_finish_86 []))
def b_L_breathe_0 : List RI := [(.iload_n 1, []), (.iconst 1, []), (.bipush 20, []), (.invokestatic 62, [82, 3, 0]), (.ifCond .eq 5, [12]), (.iconst (-1), []), (.ireturn, [0])]
def b_L_breathe_12 : List RI := [(.aload_n 0, []), (.getfield 27, [5, 3]), (.aload_n 0, []), (.getfield 10, [5, 0]), (.getfield 59, [4, 0]), (.invokevirtual 170, [26, 2, 13]), (.iconst 0, []), (.istore_n 2, []), (.nop, [28])]
def b_L_breathe_28 : List RI := [(.iload_n 2, []), (.bipush 30, []), (.if_icmp .gt 84, [115]), (.aload_n 0, []), (.getfield 34, [5, 4]), (.aload_n 0, []), (.getfield 27, [5, 3]), (.invokevirtual 173, [1, 2, 10]), (.aload_n 0, []), (.getfield 34, [5, 4]), (.getfield 176, [0, 3]), (.istore_n 3, []), (.iload_n 3, []), (.iconst (-1), []), (.if_icmp .ne 6, [61]), (.goto 57, [115])]
def b_L_breathe_61 : List RI := [(.iload_n 3, []), (.ifCond .eq 19, [81]), (.aload_n 0, []), (.getfield 27, [5, 3]), (.getfield 179, [3, 6]), (.iload_n 3, []), (.iconst 1, []), (.isub, []), (.iaload, []), (.bipush 9, []), (.if_icmp .ne 6, [84]), (.nop, [81])]
def b_L_breathe_81 : List RI := [(.bipush (-2), []), (.ireturn, [0])]
def b_L_breathe_84 : List RI := [(.aload_n 0, []), (.getfield 27, [5, 3]), (.iload_n 1, []), (.invokevirtual 104, [30, 2, 13]), (.ifCond .ne 6, [98]), (.bipush (-3), []), (.ireturn, [0])]
def b_L_breathe_98 : List RI := [(.aload_n 0, []), (.getfield 27, [5, 3]), (.iload_n 3, []), (.bipush 9, []), (.iload_n 1, []), (.invokevirtual 107, [41, 4, 13]), (.iinc 2 1, []), (.goto (-84), [28])]
def b_L_breathe_115 : List RI := [(.aload_n 0, []), (.invokevirtual 69, [83, 1, 15]), (.aload_n 0, []), (.getfield 10, [5, 0]), (.getfield 59, [4, 0]), (.aload_n 0, []), (.getfield 27, [5, 3]), (.invokevirtual 170, [26, 2, 13]), (.iload_n 2, []), (.ireturn, [0])]
def p_L_breathe (L : Nat) : List RI := cond (Nat.blt L 81) (cond (Nat.blt L 28) (cond (Nat.blt L 12) (cond (Nat.beq L 0) b_L_breathe_0 []) (cond (Nat.beq L 12) b_L_breathe_12 [])) (cond (Nat.blt L 61) (cond (Nat.beq L 28) b_L_breathe_28 []) (cond (Nat.beq L 61) b_L_breathe_61 []))) (cond (Nat.blt L 98) (cond (Nat.blt L 84) (cond (Nat.beq L 81) b_L_breathe_81 []) (cond (Nat.beq L 84) b_L_breathe_84 [])) (cond (Nat.blt L 115) (cond (Nat.beq L 98) b_L_breathe_98 []) (cond (Nat.beq L 115) b_L_breathe_115 [])))
def b_L_take_0 : List RI := [(.iload_n 1, []), (.iconst 0, []), (.iconst 1, []), (.invokestatic 62, [82, 3, 0]), (.ifCond .eq 5, [11]), (.iconst (-1), []), (.ireturn, [0])]
def b_L_take_11 : List RI := [(.aload_n 0, []), (.invokevirtual 69, [83, 1, 15]), (.aload_n 0, []), (.getfield 10, [5, 0]), (.getfield 182, [4, 1]), (.iload_n 1, []), (.aaload, []), (.aload_n 0, []), (.getfield 10, [5, 0]), (.getfield 59, [4, 0]), (.invokevirtual 170, [26, 2, 13]), (.aload_n 0, []), (.getfield 10, [5, 0]), (.getfield 186, [4, 2]), (.iload_n 1, []), (.iconst 1, []), (.bastore, []), (.aload_n 0, []), (.getfield 10, [5, 0]), (.getfield 59, [4, 0]), (.getfield 111, [3, 8]), (.ireturn, [0])]
def p_L_take (L : Nat) : List RI := cond (Nat.blt L 11) (cond (Nat.beq L 0) b_L_take_0 []) (cond (Nat.beq L 11) b_L_take_11 [])
def b_L_restore_0 : List RI := [(.iload_n 1, []), (.iconst 0, []), (.iconst 1, []), (.invokestatic 62, [82, 3, 0]), (.ifCond .eq 5, [11]), (.iconst (-1), []), (.ireturn, [0])]
def b_L_restore_11 : List RI := [(.aload_n 0, []), (.getfield 10, [5, 0]), (.getfield 186, [4, 2]), (.iload_n 1, []), (.baload, []), (.ifCond .ne 6, [26]), (.bipush (-2), []), (.ireturn, [0])]
def b_L_restore_26 : List RI := [(.aload_n 0, []), (.invokevirtual 69, [83, 1, 15]), (.aload_n 0, []), (.getfield 10, [5, 0]), (.getfield 59, [4, 0]), (.aload_n 0, []), (.getfield 10, [5, 0]), (.getfield 182, [4, 1]), (.iload_n 1, []), (.aaload, []), (.invokevirtual 170, [26, 2, 13]), (.aload_n 0, []), (.getfield 10, [5, 0]), (.getfield 59, [4, 0]), (.getfield 111, [3, 8]), (.ireturn, [0])]
def p_L_restore (L : Nat) : List RI := cond (Nat.blt L 11) (cond (Nat.beq L 0) b_L_restore_0 []) (cond (Nat.blt L 26) (cond (Nat.beq L 11) b_L_restore_11 []) (cond (Nat.beq L 26) b_L_restore_26 []))
def b_L_undo_0 : List RI := [(.aload_n 0, []), (.getfield 20, [5, 2]), (.ifCond .gt 6, [10]), (.bipush (-2), []), (.ireturn, [0])]
def b_L_undo_10 : List RI := [(.aload_n 0, []), (.dup, []), (.getfield 20, [5, 2]), (.iconst 1, []), (.isub, []), (.putfield 20, [5, 2]), (.aload_n 0, []), (.getfield 10, [5, 0]), (.aload_n 0, []), (.getfield 16, [5, 1]), (.aload_n 0, []), (.getfield 20, [5, 2]), (.aaload, []), (.invokevirtual 190, [46, 2, 14]), (.aload_n 0, []), (.getfield 20, [5, 2]), (.ireturn, [0])]
def p_L_undo (L : Nat) : List RI := cond (Nat.blt L 10) (cond (Nat.beq L 0) b_L_undo_0 []) (cond (Nat.beq L 10) b_L_undo_10 [])
def b_L_append_0 : List RI := [(.iload_n 1, []), (.iconst 1, []), (.sipush 255, []), (.invokestatic 62, [82, 3, 0]), (.ifCond .eq 5, [13]), (.iconst (-1), []), (.ireturn, [0])]
def b_L_append_13 : List RI := [(.aload_n 0, []), (.getfield 56, [5, 8]), (.bipush 120, []), (.if_icmp .lt 6, [25]), (.bipush (-3), []), (.ireturn, [0])]
def b_L_append_25 : List RI := [(.aload_n 0, []), (.getfield 52, [5, 7]), (.aload_n 0, []), (.getfield 56, [5, 8]), (.iload_n 1, []), (.iastore, []), (.aload_n 0, []), (.dup, []), (.getfield 56, [5, 8]), (.iconst 1, []), (.iadd, []), (.putfield 56, [5, 8]), (.aload_n 0, []), (.getfield 56, [5, 8]), (.ireturn, [0])]
def p_L_append (L : Nat) : List RI := cond (Nat.blt L 13) (cond (Nat.beq L 0) b_L_append_0 []) (cond (Nat.blt L 25) (cond (Nat.beq L 13) b_L_append_13 []) (cond (Nat.beq L 25) b_L_append_25 []))
def b_L_clearText_0 : List RI := [(.aload_n 0, []), (.getfield 56, [5, 8]), (.istore_n 1, []), (.aload_n 0, []), (.iconst 0, []), (.putfield 56, [5, 8]), (.iload_n 1, []), (.ireturn, [0])]
def p_L_clearText (L : Nat) : List RI := cond (Nat.beq L 0) b_L_clearText_0 []
def b_L_load_0 : List RI := [(.aload_n 0, []), (.getfield 27, [5, 3]), (.aload_n 0, []), (.getfield 10, [5, 0]), (.getfield 59, [4, 0]), (.invokevirtual 170, [26, 2, 13]), (.aload_n 0, []), (.getfield 48, [5, 6]), (.aload_n 0, []), (.getfield 52, [5, 7]), (.aload_n 0, []), (.getfield 56, [5, 8]), (.aload_n 0, []), (.getfield 27, [5, 3]), (.invokevirtual 193, [19, 4, 12]), (.istore_n 1, []), (.aload_n 0, []), (.getfield 48, [5, 6]), (.getfield 197, [2, 0]), (.iconst (-1), []), (.if_icmp .eq 15, [57]), (.sipush (-1000), []), (.aload_n 0, []), (.getfield 48, [5, 6]), (.getfield 197, [2, 0]), (.isub, []), (.ireturn, [0])]
def b_L_load_57 : List RI := [(.aload_n 0, []), (.invokevirtual 69, [83, 1, 15]), (.aload_n 0, []), (.getfield 10, [5, 0]), (.getfield 59, [4, 0]), (.aload_n 0, []), (.getfield 27, [5, 3]), (.invokevirtual 170, [26, 2, 13]), (.aload_n 0, []), (.iconst 0, []), (.putfield 56, [5, 8]), (.iload_n 1, []), (.ireturn, [0])]
def p_L_load (L : Nat) : List RI := cond (Nat.blt L 57) (cond (Nat.beq L 0) b_L_load_0 []) (cond (Nat.beq L 57) b_L_load_57 [])
def b_L_count_0 : List RI := [(.aload_n 0, []), (.getfield 10, [5, 0]), (.getfield 59, [4, 0]), (.astore_n 2, []), (.iload_n 1, []), (.tableswitch 118 0 8 #[51, 56, 61, 66, 75, 84, 100, 108, 113], [127, 60, 65, 70, 75, 84, 93, 109, 117, 122])]
def b_L_count_60 : List RI := [(.aload_n 2, []), (.getfield 66, [3, 0]), (.ireturn, [0])]
def b_L_count_65 : List RI := [(.aload_n 2, []), (.getfield 101, [3, 5]), (.ireturn, [0])]
def b_L_count_70 : List RI := [(.aload_n 2, []), (.getfield 111, [3, 8]), (.ireturn, [0])]
def b_L_count_75 : List RI := [(.aload_n 2, []), (.aload_n 2, []), (.getfield 138, [3, 9]), (.invokevirtual 200, [37, 2, 13]), (.ireturn, [0])]
def b_L_count_84 : List RI := [(.aload_n 2, []), (.aload_n 2, []), (.getfield 141, [3, 10]), (.invokevirtual 200, [37, 2, 13]), (.ireturn, [0])]
def b_L_count_93 : List RI := [(.aload_n 0, []), (.getfield 34, [5, 4]), (.aload_n 2, []), (.invokevirtual 173, [1, 2, 10]), (.aload_n 0, []), (.getfield 34, [5, 4]), (.getfield 204, [0, 2]), (.ireturn, [0])]
def b_L_count_109 : List RI := [(.aload_n 0, []), (.getfield 10, [5, 0]), (.invokevirtual 207, [47, 1, 14]), (.ireturn, [0])]
def b_L_count_117 : List RI := [(.aload_n 0, []), (.getfield 20, [5, 2]), (.ireturn, [0])]
def b_L_count_122 : List RI := [(.aload_n 0, []), (.getfield 56, [5, 8]), (.ireturn, [0])]
def b_L_count_127 : List RI := [(.iconst (-1), []), (.ireturn, [0])]
def p_L_count (L : Nat) : List RI := cond (Nat.blt L 84) (cond (Nat.blt L 65) (cond (Nat.blt L 60) (cond (Nat.beq L 0) b_L_count_0 []) (cond (Nat.beq L 60) b_L_count_60 [])) (cond (Nat.blt L 70) (cond (Nat.beq L 65) b_L_count_65 []) (cond (Nat.blt L 75) (cond (Nat.beq L 70) b_L_count_70 []) (cond (Nat.beq L 75) b_L_count_75 [])))) (cond (Nat.blt L 117) (cond (Nat.blt L 93) (cond (Nat.beq L 84) b_L_count_84 []) (cond (Nat.blt L 109) (cond (Nat.beq L 93) b_L_count_93 []) (cond (Nat.beq L 109) b_L_count_109 []))) (cond (Nat.blt L 122) (cond (Nat.beq L 117) b_L_count_117 []) (cond (Nat.blt L 127) (cond (Nat.beq L 122) b_L_count_122 []) (cond (Nat.beq L 127) b_L_count_127 []))))
def b_L_mouth_0 : List RI := [(.aload_n 0, []), (.getfield 10, [5, 0]), (.getfield 59, [4, 0]), (.iload_n 1, []), (.invokevirtual 78, [27, 2, 13]), (.ifCond .eq 12, [23]), (.iload_n 2, []), (.iconst 0, []), (.iconst 1, []), (.invokestatic 62, [82, 3, 0]), (.ifCond .eq 5, [25]), (.nop, [23])]
def b_L_mouth_23 : List RI := [(.iconst (-1), []), (.ireturn, [0])]
def b_L_mouth_25 : List RI := [(.iload_n 2, []), (.ifCond .ne 18, [44]), (.aload_n 0, []), (.getfield 10, [5, 0]), (.getfield 59, [4, 0]), (.getfield 72, [3, 1]), (.iload_n 1, []), (.iaload, []), (.goto 15, [56])]
def b_L_mouth_44 : List RI := [(.aload_n 0, []), (.getfield 10, [5, 0]), (.getfield 59, [4, 0]), (.getfield 75, [3, 2]), (.iload_n 1, []), (.iaload, []), (.nop, [56])]
def b_L_mouth_56 : List RI := [(.ireturn, [0])]
def p_L_mouth (L : Nat) : List RI := cond (Nat.blt L 25) (cond (Nat.blt L 23) (cond (Nat.beq L 0) b_L_mouth_0 []) (cond (Nat.beq L 23) b_L_mouth_23 [])) (cond (Nat.blt L 44) (cond (Nat.beq L 25) b_L_mouth_25 []) (cond (Nat.blt L 56) (cond (Nat.beq L 44) b_L_mouth_44 []) (cond (Nat.beq L 56) b_L_mouth_56 [])))
def b_L_jump_0 : List RI := [(.aload_n 0, []), (.getfield 10, [5, 0]), (.getfield 59, [4, 0]), (.iload_n 1, []), (.invokevirtual 78, [27, 2, 13]), (.ifCond .eq 17, [28]), (.aload_n 0, []), (.getfield 10, [5, 0]), (.getfield 59, [4, 0]), (.iload_n 2, []), (.invokevirtual 78, [27, 2, 13]), (.ifCond .ne 5, [30]), (.nop, [28])]
def b_L_jump_28 : List RI := [(.iconst (-1), []), (.ireturn, [0])]
def b_L_jump_30 : List RI := [(.aload_n 0, []), (.getfield 10, [5, 0]), (.getfield 59, [4, 0]), (.iload_n 1, []), (.iload_n 2, []), (.invokevirtual 151, [32, 3, 13]), (.ireturn, [0])]
def p_L_jump (L : Nat) : List RI := cond (Nat.blt L 28) (cond (Nat.beq L 0) b_L_jump_0 []) (cond (Nat.blt L 30) (cond (Nat.beq L 28) b_L_jump_28 []) (cond (Nat.beq L 30) b_L_jump_30 []))
def b_L_sound_0 : List RI := [(.iload_n 1, []), (.iconst 0, []), (.bipush 8, []), (.invokestatic 62, [82, 3, 0]), (.ifCond .ne 12, [19]), (.iload_n 2, []), (.iconst 0, []), (.iconst 3, []), (.invokestatic 62, [82, 3, 0]), (.ifCond .eq 5, [21]), (.nop, [19])]
def b_L_sound_19 : List RI := [(.iconst (-1), []), (.ireturn, [0])]
def b_L_sound_21 : List RI := [(.aload_n 0, []), (.getfield 10, [5, 0]), (.getfield 59, [4, 0]), (.getfield 89, [3, 3]), (.iload_n 1, []), (.iconst 4, []), (.imul, []), (.iload_n 2, []), (.iadd, []), (.iaload, []), (.ireturn, [0])]
def p_L_sound (L : Nat) : List RI := cond (Nat.blt L 19) (cond (Nat.beq L 0) b_L_sound_0 []) (cond (Nat.blt L 21) (cond (Nat.beq L 19) b_L_sound_19 []) (cond (Nat.beq L 21) b_L_sound_21 []))
def b_L_number_0 : List RI := [(.iload_n 1, []), (.iconst 0, []), (.iconst 4, []), (.invokestatic 62, [82, 3, 0]), (.ifCond .eq 5, [11]), (.iconst (-1), []), (.ireturn, [0])]
def b_L_number_11 : List RI := [(.aload_n 0, []), (.getfield 10, [5, 0]), (.getfield 59, [4, 0]), (.getfield 98, [3, 4]), (.iload_n 1, []), (.iaload, []), (.ireturn, [0])]
def p_L_number (L : Nat) : List RI := cond (Nat.blt L 11) (cond (Nat.beq L 0) b_L_number_0 []) (cond (Nat.beq L 11) b_L_number_11 [])
def b_L_segment_0 : List RI := [(.aload_n 0, []), (.getfield 10, [5, 0]), (.getfield 59, [4, 0]), (.astore_n 3, []), (.aload_n 3, []), (.iload_n 1, []), (.invokevirtual 114, [28, 2, 13]), (.ifCond .ne 5, [18]), (.iconst (-1), []), (.ireturn, [0])]
def b_L_segment_18 : List RI := [(.iload_n 2, []), (.tableswitch 45 0 2 #[25, 32, 39], [64, 44, 51, 58])]
def b_L_segment_44 : List RI := [(.aload_n 3, []), (.getfield 179, [3, 6]), (.iload_n 1, []), (.iaload, []), (.ireturn, [0])]
def b_L_segment_51 : List RI := [(.aload_n 3, []), (.getfield 121, [3, 7]), (.iload_n 1, []), (.iaload, []), (.ireturn, [0])]
def b_L_segment_58 : List RI := [(.aload_n 3, []), (.iload_n 1, []), (.invokevirtual 124, [38, 2, 13]), (.ireturn, [0])]
def b_L_segment_64 : List RI := [(.iconst (-1), []), (.ireturn, [0])]
def p_L_segment (L : Nat) : List RI := cond (Nat.blt L 51) (cond (Nat.blt L 18) (cond (Nat.beq L 0) b_L_segment_0 []) (cond (Nat.blt L 44) (cond (Nat.beq L 18) b_L_segment_18 []) (cond (Nat.beq L 44) b_L_segment_44 []))) (cond (Nat.blt L 58) (cond (Nat.beq L 51) b_L_segment_51 []) (cond (Nat.blt L 64) (cond (Nat.beq L 58) b_L_segment_58 []) (cond (Nat.beq L 64) b_L_segment_64 [])))
def b_L_frame_0 : List RI := [(.aload_n 0, []), (.getfield 10, [5, 0]), (.getfield 59, [4, 0]), (.astore_n 3, []), (.aload_n 3, []), (.iload_n 1, []), (.invokevirtual 135, [29, 2, 13]), (.ifCond .ne 5, [18]), (.iconst (-1), []), (.ireturn, [0])]
def b_L_frame_18 : List RI := [(.iload_n 2, []), (.tableswitch 144 0 6 #[41, 47, 53, 60, 67, 85, 111], [163, 60, 66, 72, 79, 86, 104, 130])]
def b_L_frame_60 : List RI := [(.aload_n 3, []), (.iload_n 1, []), (.invokevirtual 210, [39, 2, 13]), (.ireturn, [0])]
def b_L_frame_66 : List RI := [(.aload_n 3, []), (.iload_n 1, []), (.invokevirtual 213, [40, 2, 13]), (.ireturn, [0])]
def b_L_frame_72 : List RI := [(.aload_n 3, []), (.getfield 138, [3, 9]), (.iload_n 1, []), (.iaload, []), (.ireturn, [0])]
def b_L_frame_79 : List RI := [(.aload_n 3, []), (.getfield 141, [3, 10]), (.iload_n 1, []), (.iaload, []), (.ireturn, [0])]
def b_L_frame_86 : List RI := [(.aload_n 0, []), (.getfield 34, [5, 4]), (.aload_n 3, []), (.invokevirtual 173, [1, 2, 10]), (.aload_n 0, []), (.getfield 34, [5, 4]), (.getfield 216, [0, 0]), (.iload_n 1, []), (.iaload, []), (.ireturn, [0])]
def b_L_frame_104 : List RI := [(.aload_n 0, []), (.getfield 34, [5, 4]), (.aload_n 3, []), (.invokevirtual 173, [1, 2, 10]), (.aload_n 0, []), (.getfield 34, [5, 4]), (.getfield 219, [0, 1]), (.iload_n 1, []), (.baload, []), (.ifCond .eq 7, [128]), (.iconst 1, []), (.goto 4, [129])]
def b_L_frame_128 : List RI := [(.iconst 0, []), (.nop, [129])]
def b_L_frame_129 : List RI := [(.ireturn, [0])]
def b_L_frame_130 : List RI := [(.aload_n 0, []), (.getfield 41, [5, 5]), (.aload_n 3, []), (.invokevirtual 155, [4, 2, 11]), (.aload_n 0, []), (.getfield 41, [5, 5]), (.invokevirtual 163, [15, 1, 11]), (.ifCond .eq 15, [160]), (.aload_n 0, []), (.getfield 41, [5, 5]), (.getfield 167, [1, 0]), (.iload_n 1, []), (.iaload, []), (.goto 5, [162])]
def b_L_frame_160 : List RI := [(.bipush (-99), []), (.nop, [162])]
def b_L_frame_162 : List RI := [(.ireturn, [0])]
def b_L_frame_163 : List RI := [(.iconst (-1), []), (.ireturn, [0])]
def p_L_frame (L : Nat) : List RI := cond (Nat.blt L 104) (cond (Nat.blt L 66) (cond (Nat.blt L 18) (cond (Nat.beq L 0) b_L_frame_0 []) (cond (Nat.blt L 60) (cond (Nat.beq L 18) b_L_frame_18 []) (cond (Nat.beq L 60) b_L_frame_60 []))) (cond (Nat.blt L 79) (cond (Nat.blt L 72) (cond (Nat.beq L 66) b_L_frame_66 []) (cond (Nat.beq L 72) b_L_frame_72 [])) (cond (Nat.blt L 86) (cond (Nat.beq L 79) b_L_frame_79 []) (cond (Nat.beq L 86) b_L_frame_86 [])))) (cond (Nat.blt L 130) (cond (Nat.blt L 128) (cond (Nat.beq L 104) b_L_frame_104 []) (cond (Nat.blt L 129) (cond (Nat.beq L 128) b_L_frame_128 []) (cond (Nat.beq L 129) b_L_frame_129 []))) (cond (Nat.blt L 162) (cond (Nat.blt L 160) (cond (Nat.beq L 130) b_L_frame_130 []) (cond (Nat.beq L 160) b_L_frame_160 [])) (cond (Nat.blt L 163) (cond (Nat.beq L 162) b_L_frame_162 []) (cond (Nat.beq L 163) b_L_frame_163 []))))
def b_L_wrongness_0 : List RI := [(.aload_n 0, []), (.getfield 10, [5, 0]), (.getfield 59, [4, 0]), (.iload_n 1, []), (.invokevirtual 135, [29, 2, 13]), (.ifCond .eq 17, [28]), (.aload_n 0, []), (.getfield 10, [5, 0]), (.getfield 59, [4, 0]), (.iload_n 2, []), (.invokevirtual 78, [27, 2, 13]), (.ifCond .ne 5, [30]), (.nop, [28])]
def b_L_wrongness_28 : List RI := [(.iconst (-1), []), (.ireturn, [0])]
def b_L_wrongness_30 : List RI := [(.aload_n 0, []), (.getfield 10, [5, 0]), (.getfield 59, [4, 0]), (.aload_n 0, []), (.getfield 10, [5, 0]), (.getfield 59, [4, 0]), (.iload_n 1, []), (.invokevirtual 213, [40, 2, 13]), (.iload_n 2, []), (.invokevirtual 222, [35, 3, 13]), (.ireturn, [0])]
def p_L_wrongness (L : Nat) : List RI := cond (Nat.blt L 28) (cond (Nat.beq L 0) b_L_wrongness_0 []) (cond (Nat.blt L 30) (cond (Nat.beq L 28) b_L_wrongness_28 []) (cond (Nat.beq L 30) b_L_wrongness_30 []))
def b_L_least_0 : List RI := [(.iload_n 1, []), (.iconst 0, []), (.iconst 1, []), (.invokestatic 62, [82, 3, 0]), (.ifCond .eq 5, [11]), (.iconst (-1), []), (.ireturn, [0])]
def b_L_least_11 : List RI := [(.aload_n 0, []), (.getfield 41, [5, 5]), (.aload_n 0, []), (.getfield 10, [5, 0]), (.getfield 59, [4, 0]), (.invokevirtual 155, [4, 2, 11]), (.iload_n 1, []), (.ifCond .ne 13, [39]), (.aload_n 0, []), (.getfield 41, [5, 5]), (.invokevirtual 159, [8, 1, 11]), (.goto 10, [46])]
def b_L_least_39 : List RI := [(.aload_n 0, []), (.getfield 41, [5, 5]), (.invokevirtual 225, [12, 1, 11]), (.nop, [46])]
def b_L_least_46 : List RI := [(.ireturn, [0])]
def p_L_least (L : Nat) : List RI := cond (Nat.blt L 39) (cond (Nat.blt L 11) (cond (Nat.beq L 0) b_L_least_0 []) (cond (Nat.beq L 11) b_L_least_11 [])) (cond (Nat.blt L 46) (cond (Nat.beq L 39) b_L_least_39 []) (cond (Nat.beq L 46) b_L_least_46 []))
def b_L_leastWith_0 : List RI := [(.aload_n 0, []), (.getfield 10, [5, 0]), (.getfield 59, [4, 0]), (.iload_n 1, []), (.invokevirtual 135, [29, 2, 13]), (.ifCond .eq 17, [28]), (.aload_n 0, []), (.getfield 10, [5, 0]), (.getfield 59, [4, 0]), (.iload_n 2, []), (.invokevirtual 78, [27, 2, 13]), (.ifCond .ne 5, [30]), (.nop, [28])]
def b_L_leastWith_28 : List RI := [(.iconst (-1), []), (.ireturn, [0])]
def b_L_leastWith_30 : List RI := [(.aload_n 0, []), (.getfield 41, [5, 5]), (.aload_n 0, []), (.getfield 10, [5, 0]), (.getfield 59, [4, 0]), (.invokevirtual 155, [4, 2, 11]), (.aload_n 0, []), (.getfield 41, [5, 5]), (.iload_n 1, []), (.iload_n 2, []), (.invokevirtual 228, [7, 3, 11]), (.aload_n 0, []), (.getfield 41, [5, 5]), (.invokevirtual 159, [8, 1, 11]), (.ireturn, [0])]
def p_L_leastWith (L : Nat) : List RI := cond (Nat.blt L 28) (cond (Nat.beq L 0) b_L_leastWith_0 []) (cond (Nat.blt L 30) (cond (Nat.beq L 28) b_L_leastWith_28 []) (cond (Nat.beq L 30) b_L_leastWith_30 []))
def b_L_why_0 : List RI := [(.aload_n 0, []), (.getfield 10, [5, 0]), (.getfield 59, [4, 0]), (.astore_n 2, []), (.aload_n 2, []), (.iload_n 1, []), (.invokevirtual 135, [29, 2, 13]), (.ifCond .ne 5, [18]), (.iconst (-1), []), (.ireturn, [0])]
def b_L_why_18 : List RI := [(.aload_n 0, []), (.getfield 41, [5, 5]), (.aload_n 2, []), (.invokevirtual 155, [4, 2, 11]), (.aload_n 0, []), (.getfield 41, [5, 5]), (.invokevirtual 163, [15, 1, 11]), (.ifCond .ne 6, [39]), (.bipush (-99), []), (.ireturn, [0])]
def b_L_why_39 : List RI := [(.aload_n 2, []), (.iload_n 1, []), (.invokevirtual 213, [40, 2, 13]), (.istore_n 3, []), (.aload_n 2, []), (.iload_n 3, []), (.invokevirtual 231, [36, 2, 13]), (.istore 4, []), (.aload_n 2, []), (.getfield 98, [3, 4]), (.iconst 0, []), (.iaload, []), (.istore 5, []), (.aload_n 2, []), (.iload_n 3, []), (.aload_n 0, []), (.getfield 41, [5, 5]), (.getfield 167, [1, 0]), (.iload_n 1, []), (.iaload, []), (.invokevirtual 222, [35, 3, 13]), (.aload_n 2, []), (.iload_n 3, []), (.iload 4, []), (.invokevirtual 222, [35, 3, 13]), (.if_icmp .ne 5, [86]), (.iconst 0, []), (.ireturn, [0])]
def b_L_why_86 : List RI := [(.aload_n 2, []), (.getfield 138, [3, 9]), (.iload_n 1, []), (.iaload, []), (.bipush (-99), []), (.if_icmp .eq 5, [99]), (.iconst 1, []), (.ireturn, [0])]
def b_L_why_99 : List RI := [(.iload_n 1, []), (.ifCond .le 27, [127]), (.aload_n 2, []), (.aload_n 0, []), (.getfield 41, [5, 5]), (.getfield 167, [1, 0]), (.iload_n 1, []), (.iconst 1, []), (.isub, []), (.iaload, []), (.iload 4, []), (.invokevirtual 151, [32, 3, 13]), (.iload 5, []), (.if_icmp .le 5, [127]), (.iconst 2, []), (.ireturn, [0])]
def b_L_why_127 : List RI := [(.iload_n 1, []), (.iconst 1, []), (.iadd, []), (.aload_n 2, []), (.getfield 111, [3, 8]), (.if_icmp .ge 27, [161]), (.aload_n 2, []), (.iload 4, []), (.aload_n 0, []), (.getfield 41, [5, 5]), (.getfield 167, [1, 0]), (.iload_n 1, []), (.iconst 1, []), (.iadd, []), (.iaload, []), (.invokevirtual 151, [32, 3, 13]), (.iload 5, []), (.if_icmp .le 5, [161]), (.iconst 3, []), (.ireturn, [0])]
def b_L_why_161 : List RI := [(.iconst 4, []), (.ireturn, [0])]
def p_L_why (L : Nat) : List RI := cond (Nat.blt L 86) (cond (Nat.blt L 18) (cond (Nat.beq L 0) b_L_why_0 []) (cond (Nat.blt L 39) (cond (Nat.beq L 18) b_L_why_18 []) (cond (Nat.beq L 39) b_L_why_39 []))) (cond (Nat.blt L 127) (cond (Nat.blt L 99) (cond (Nat.beq L 86) b_L_why_86 []) (cond (Nat.beq L 99) b_L_why_99 [])) (cond (Nat.blt L 161) (cond (Nat.beq L 127) b_L_why_127 []) (cond (Nat.beq L 161) b_L_why_161 [])))
def b_L_fault_0 : List RI := [(.iload_n 1, []), (.iconst 0, []), (.iconst 1, []), (.invokestatic 62, [82, 3, 0]), (.ifCond .eq 5, [11]), (.iconst (-1), []), (.ireturn, [0])]
def b_L_fault_11 : List RI := [(.aload_n 0, []), (.getfield 10, [5, 0]), (.getfield 59, [4, 0]), (.astore_n 2, []), (.iconst 0, []), (.istore_n 3, []), (.iconst 0, []), (.istore 4, []), (.nop, [24])]
def b_L_fault_24 : List RI := [(.iload 4, []), (.aload_n 2, []), (.getfield 111, [3, 8]), (.if_icmp .ge 67, [97]), (.aload_n 2, []), (.iload 4, []), (.iload_n 3, []), (.invokestatic 234, [85, 3, 0]), (.istore 5, []), (.iload 5, []), (.ifCond .eq 15, [59]), (.iload_n 1, []), (.ifCond .ne 8, [56]), (.iload 4, []), (.goto 5, [58])]
def b_L_fault_56 : List RI := [(.iload 5, []), (.nop, [58])]
def b_L_fault_58 : List RI := [(.ireturn, [0])]
def b_L_fault_59 : List RI := [(.iload 4, []), (.ifCond .le 28, [89]), (.aload_n 2, []), (.getfield 141, [3, 10]), (.iload 4, []), (.iaload, []), (.aload_n 2, []), (.getfield 141, [3, 10]), (.iload 4, []), (.iconst 1, []), (.isub, []), (.iaload, []), (.if_icmp .ne 9, [89]), (.iload_n 3, []), (.iconst 1, []), (.iadd, []), (.goto 4, [90])]
def b_L_fault_89 : List RI := [(.iconst 1, []), (.nop, [90])]
def b_L_fault_90 : List RI := [(.istore_n 3, []), (.iinc 4 1, []), (.goto (-70), [24])]
def b_L_fault_97 : List RI := [(.bipush (-99), []), (.ireturn, [0])]
def p_L_fault (L : Nat) : List RI := cond (Nat.blt L 58) (cond (Nat.blt L 24) (cond (Nat.blt L 11) (cond (Nat.beq L 0) b_L_fault_0 []) (cond (Nat.beq L 11) b_L_fault_11 [])) (cond (Nat.blt L 56) (cond (Nat.beq L 24) b_L_fault_24 []) (cond (Nat.beq L 56) b_L_fault_56 []))) (cond (Nat.blt L 89) (cond (Nat.blt L 59) (cond (Nat.beq L 58) b_L_fault_58 []) (cond (Nat.beq L 59) b_L_fault_59 [])) (cond (Nat.blt L 90) (cond (Nat.beq L 89) b_L_fault_89 []) (cond (Nat.blt L 97) (cond (Nat.beq L 90) b_L_fault_90 []) (cond (Nat.beq L 97) b_L_fault_97 []))))
def b_L_drawnSum_0 : List RI := [(.aload_n 0, []), (.getfield 10, [5, 0]), (.getfield 59, [4, 0]), (.astore_n 1, []), (.iconst 0, []), (.istore_n 2, []), (.iconst 0, []), (.istore_n 3, []), (.nop, [12])]
def b_L_drawnSum_12 : List RI := [(.iload_n 3, []), (.aload_n 1, []), (.getfield 111, [3, 8]), (.if_icmp .ge 43, [60]), (.aload_n 1, []), (.aload_n 1, []), (.getfield 141, [3, 10]), (.iload_n 3, []), (.iaload, []), (.invokevirtual 78, [27, 2, 13]), (.ifCond .ne 6, [36]), (.bipush (-99), []), (.ireturn, [0])]
def b_L_drawnSum_36 : List RI := [(.iload_n 2, []), (.aload_n 1, []), (.aload_n 1, []), (.iload_n 3, []), (.invokevirtual 213, [40, 2, 13]), (.aload_n 1, []), (.getfield 141, [3, 10]), (.iload_n 3, []), (.iaload, []), (.invokevirtual 222, [35, 3, 13]), (.iadd, []), (.istore_n 2, []), (.iinc 3 1, []), (.goto (-45), [12])]
def b_L_drawnSum_60 : List RI := [(.iload_n 2, []), (.ireturn, [0])]
def p_L_drawnSum (L : Nat) : List RI := cond (Nat.blt L 36) (cond (Nat.blt L 12) (cond (Nat.beq L 0) b_L_drawnSum_0 []) (cond (Nat.beq L 12) b_L_drawnSum_12 [])) (cond (Nat.blt L 60) (cond (Nat.beq L 36) b_L_drawnSum_36 []) (cond (Nat.beq L 60) b_L_drawnSum_60 []))
def b_L_speedFor_0 : List RI := [(.iload_n 1, []), (.iconst 0, []), (.ldc 238, [99999]), (.invokestatic 62, [82, 3, 0]), (.ifCond .eq 5, [12]), (.iconst (-1), []), (.ireturn, [0])]
def b_L_speedFor_12 : List RI := [(.aload_n 0, []), (.getfield 41, [5, 5]), (.aload_n 0, []), (.getfield 10, [5, 0]), (.getfield 59, [4, 0]), (.invokevirtual 155, [4, 2, 11]), (.getstatic 92, [3]), (.iconst 0, []), (.iaload, []), (.istore_n 2, []), (.nop, [32])]
def b_L_speedFor_32 : List RI := [(.iload_n 2, []), (.getstatic 95, [4]), (.iconst 0, []), (.iaload, []), (.if_icmp .gt 45, [83]), (.aload_n 0, []), (.getfield 41, [5, 5]), (.aload_n 0, []), (.getfield 10, [5, 0]), (.getfield 59, [4, 0]), (.iload_n 2, []), (.invokevirtual 239, [6, 3, 11]), (.aload_n 0, []), (.getfield 41, [5, 5]), (.invokevirtual 225, [12, 1, 11]), (.istore_n 3, []), (.iload_n 3, []), (.bipush (-99), []), (.if_icmp .eq 10, [77]), (.iload_n 3, []), (.iload_n 1, []), (.if_icmp .gt 5, [77]), (.iload_n 2, []), (.ireturn, [0])]
def b_L_speedFor_77 : List RI := [(.iinc 2 1, []), (.goto (-48), [32])]
def b_L_speedFor_83 : List RI := [(.bipush (-99), []), (.ireturn, [0])]
def p_L_speedFor (L : Nat) : List RI := cond (Nat.blt L 32) (cond (Nat.blt L 12) (cond (Nat.beq L 0) b_L_speedFor_0 []) (cond (Nat.beq L 12) b_L_speedFor_12 [])) (cond (Nat.blt L 77) (cond (Nat.beq L 32) b_L_speedFor_32 []) (cond (Nat.blt L 83) (cond (Nat.beq L 77) b_L_speedFor_77 []) (cond (Nat.beq L 83) b_L_speedFor_83 [])))
def b_L_nearest_0 : List RI := [(.iload_n 1, []), (.iconst 0, []), (.bipush 9, []), (.invokestatic 62, [82, 3, 0]), (.ifCond .ne 13, [20]), (.iload_n 2, []), (.iconst 0, []), (.bipush 9, []), (.invokestatic 62, [82, 3, 0]), (.ifCond .eq 5, [22]), (.nop, [20])]
def b_L_nearest_20 : List RI := [(.iconst (-1), []), (.ireturn, [0])]
def b_L_nearest_22 : List RI := [(.aload_n 0, []), (.getfield 10, [5, 0]), (.getfield 59, [4, 0]), (.iload_n 1, []), (.iload_n 2, []), (.invokevirtual 243, [33, 3, 13]), (.ireturn, [0])]
def p_L_nearest (L : Nat) : List RI := cond (Nat.blt L 20) (cond (Nat.beq L 0) b_L_nearest_0 []) (cond (Nat.blt L 22) (cond (Nat.beq L 20) b_L_nearest_20 []) (cond (Nat.beq L 22) b_L_nearest_22 []))
def b_L_isOutside_0 : List RI := [(.iload_n 0, []), (.iload_n 1, []), (.if_icmp .lt 8, [10]), (.iload_n 0, []), (.iload_n 2, []), (.if_icmp .le 7, [14]), (.nop, [10])]
def b_L_isOutside_10 : List RI := [(.iconst 1, []), (.goto 4, [15])]
def b_L_isOutside_14 : List RI := [(.iconst 0, []), (.nop, [15])]
def b_L_isOutside_15 : List RI := [(.ireturn, [1])]
def p_L_isOutside (L : Nat) : List RI := cond (Nat.blt L 14) (cond (Nat.blt L 10) (cond (Nat.beq L 0) b_L_isOutside_0 []) (cond (Nat.beq L 10) b_L_isOutside_10 [])) (cond (Nat.blt L 15) (cond (Nat.beq L 14) b_L_isOutside_14 []) (cond (Nat.beq L 15) b_L_isOutside_15 []))
def b_L_recordState_0 : List RI := [(.aload_n 0, []), (.getfield 20, [5, 2]), (.iconst 5, []), (.if_icmp .lt 49, [54]), (.aload_n 0, []), (.getfield 16, [5, 1]), (.iconst 0, []), (.aaload, []), (.astore_n 1, []), (.iconst 1, []), (.istore_n 2, []), (.nop, [17])]
def b_L_recordState_17 : List RI := [(.iload_n 2, []), (.iconst 5, []), (.if_icmp .ge 23, [42]), (.aload_n 0, []), (.getfield 16, [5, 1]), (.iload_n 2, []), (.iconst 1, []), (.isub, []), (.aload_n 0, []), (.getfield 16, [5, 1]), (.iload_n 2, []), (.aaload, []), (.aastore, []), (.iinc 2 1, []), (.goto (-22), [17])]
def b_L_recordState_42 : List RI := [(.aload_n 0, []), (.getfield 16, [5, 1]), (.iconst 4, []), (.aload_n 1, []), (.aastore, []), (.aload_n 0, []), (.iconst 4, []), (.putfield 20, [5, 2]), (.nop, [54])]
def b_L_recordState_54 : List RI := [(.aload_n 0, []), (.getfield 16, [5, 1]), (.aload_n 0, []), (.getfield 20, [5, 2]), (.aaload, []), (.aload_n 0, []), (.getfield 10, [5, 0]), (.invokevirtual 190, [46, 2, 14]), (.aload_n 0, []), (.dup, []), (.getfield 20, [5, 2]), (.iconst 1, []), (.iadd, []), (.putfield 20, [5, 2]), (.return_, [])]
def p_L_recordState (L : Nat) : List RI := cond (Nat.blt L 42) (cond (Nat.blt L 17) (cond (Nat.beq L 0) b_L_recordState_0 []) (cond (Nat.beq L 17) b_L_recordState_17 [])) (cond (Nat.blt L 54) (cond (Nat.beq L 42) b_L_recordState_42 []) (cond (Nat.beq L 54) b_L_recordState_54 []))
def b_L_partWay_0 : List RI := [(.iload_n 3, []), (.ifCond .le 15, [16]), (.iload_n 0, []), (.iload_n 1, []), (.iload_n 0, []), (.isub, []), (.iload_n 2, []), (.imul, []), (.iload_n 3, []), (.idiv, []), (.iadd, []), (.goto 4, [17])]
def b_L_partWay_16 : List RI := [(.iload_n 0, []), (.nop, [17])]
def b_L_partWay_17 : List RI := [(.ireturn, [0])]
def p_L_partWay (L : Nat) : List RI := cond (Nat.blt L 16) (cond (Nat.beq L 0) b_L_partWay_0 []) (cond (Nat.blt L 17) (cond (Nat.beq L 16) b_L_partWay_16 []) (cond (Nat.beq L 17) b_L_partWay_17 []))
def b_L_faultAt_0 : List RI := [(.aload_n 0, []), (.getfield 141, [3, 10]), (.iload_n 1, []), (.iaload, []), (.istore_n 3, []), (.aload_n 0, []), (.iload_n 3, []), (.invokevirtual 78, [27, 2, 13]), (.ifCond .ne 5, [17]), (.iconst 1, []), (.ireturn, [0])]
def b_L_faultAt_17 : List RI := [(.aload_n 0, []), (.getfield 138, [3, 9]), (.iload_n 1, []), (.iaload, []), (.bipush (-99), []), (.if_icmp .eq 15, [40]), (.aload_n 0, []), (.getfield 138, [3, 9]), (.iload_n 1, []), (.iaload, []), (.iload_n 3, []), (.if_icmp .eq 5, [40]), (.iconst 2, []), (.ireturn, [0])]
def b_L_faultAt_40 : List RI := [(.iload_n 1, []), (.ifCond .ne 5, [46]), (.iconst 0, []), (.ireturn, [0])]
def b_L_faultAt_46 : List RI := [(.aload_n 0, []), (.getfield 141, [3, 10]), (.iload_n 1, []), (.iconst 1, []), (.isub, []), (.iaload, []), (.istore 4, []), (.aload_n 0, []), (.iload 4, []), (.iload_n 3, []), (.invokevirtual 151, [32, 3, 13]), (.aload_n 0, []), (.getfield 98, [3, 4]), (.iconst 0, []), (.iaload, []), (.if_icmp .le 5, [74]), (.iconst 3, []), (.ireturn, [0])]
def b_L_faultAt_74 : List RI := [(.iload 4, []), (.iload_n 3, []), (.if_icmp .eq 17, [94]), (.iload_n 2, []), (.aload_n 0, []), (.getfield 98, [3, 4]), (.iconst 1, []), (.iaload, []), (.if_icmp .ge 7, [94]), (.iconst 4, []), (.goto 4, [95])]
def b_L_faultAt_94 : List RI := [(.iconst 0, []), (.nop, [95])]
def b_L_faultAt_95 : List RI := [(.ireturn, [0])]
def p_L_faultAt (L : Nat) : List RI := cond (Nat.blt L 46) (cond (Nat.blt L 17) (cond (Nat.beq L 0) b_L_faultAt_0 []) (cond (Nat.blt L 40) (cond (Nat.beq L 17) b_L_faultAt_17 []) (cond (Nat.beq L 40) b_L_faultAt_40 []))) (cond (Nat.blt L 94) (cond (Nat.blt L 74) (cond (Nat.beq L 46) b_L_faultAt_46 []) (cond (Nat.beq L 74) b_L_faultAt_74 [])) (cond (Nat.blt L 95) (cond (Nat.beq L 94) b_L_faultAt_94 []) (cond (Nat.beq L 95) b_L_faultAt_95 [])))
def b_M_init_0 : List RI := [(.aload_n 0, []), (.invokespecial 1, [1000, 1, 0]), (.aload_n 0, []), (.sipush 953, []), (.newarray .int, [0]), (.putfield 7, [6, 0]), (.aload_n 0, []), (.sipush 953, []), (.newarray .int, [0]), (.putfield 13, [6, 1]), (.aload_n 0, []), (.sipush 4765, []), (.newarray .int, [0]), (.putfield 16, [6, 2]), (.aload_n 0, []), (.bipush 120, []), (.newarray .int, [0]), (.putfield 19, [6, 4]), (.aload_n 0, []), (.bipush 99, []), (.newarray .int, [0]), (.putfield 22, [6, 6]), (.aload_n 0, []), (.bipush 99, []), (.newarray .boolean, [1]), (.putfield 25, [6, 7]), (.aload_n 0, []), (.sipush 2376, []), (.newarray .int, [0]), (.putfield 29, [6, 10]), (.aload_n 0, []), (.bipush 99, []), (.newarray .int, [0]), (.putfield 32, [6, 11]), (.aload_n 0, []), (.bipush 99, []), (.newarray .int, [0]), (.putfield 35, [6, 12]), (.aload_n 0, []), (.getfield 7, [6, 0]), (.iconst 0, []), (.iconst 1, []), (.iastore, []), (.aload_n 0, []), (.getfield 7, [6, 0]), (.iconst 2, []), (.iconst 4, []), (.iastore, []), (.iconst 0, []), (.istore_n 1, []), (.nop, [96])]
def b_M_init_96 : List RI := [(.iload_n 1, []), (.bipush 9, []), (.if_icmp .ge 63, [162]), (.aload_n 0, []), (.getfield 7, [6, 0]), (.bipush 17, []), (.iconst 4, []), (.iload_n 1, []), (.imul, []), (.iadd, []), (.iconst 3, []), (.iastore, []), (.aload_n 0, []), (.getfield 7, [6, 0]), (.bipush 17, []), (.iconst 4, []), (.iload_n 1, []), (.imul, []), (.iadd, []), (.iconst 1, []), (.iadd, []), (.iconst 4, []), (.iastore, []), (.aload_n 0, []), (.getfield 7, [6, 0]), (.bipush 17, []), (.iconst 4, []), (.iload_n 1, []), (.imul, []), (.iadd, []), (.iconst 2, []), (.iadd, []), (.iconst 1, []), (.iastore, []), (.aload_n 0, []), (.getfield 7, [6, 0]), (.bipush 17, []), (.iconst 4, []), (.iload_n 1, []), (.imul, []), (.iadd, []), (.iconst 3, []), (.iadd, []), (.iconst 1, []), (.iastore, []), (.iinc 1 1, []), (.goto (-63), [96])]
def b_M_init_162 : List RI := [(.aload_n 0, []), (.getfield 7, [6, 0]), (.bipush 53, []), (.iconst 3, []), (.iastore, []), (.aload_n 0, []), (.getfield 7, [6, 0]), (.bipush 54, []), (.iconst 1, []), (.iastore, []), (.aload_n 0, []), (.getfield 7, [6, 0]), (.bipush 55, []), (.iconst 5, []), (.iastore, []), (.aload_n 0, []), (.getfield 7, [6, 0]), (.bipush 56, []), (.bipush 40, []), (.iastore, []), (.aload_n 0, []), (.getfield 7, [6, 0]), (.bipush 57, []), (.bipush 8, []), (.iastore, []), (.return_, [])]
def p_M_init (L : Nat) : List RI := cond (Nat.blt L 96) (cond (Nat.beq L 0) b_M_init_0 []) (cond (Nat.blt L 162) (cond (Nat.beq L 96) b_M_init_96 []) (cond (Nat.beq L 162) b_M_init_162 []))
def b_M_in_0 : List RI := [(.iload_n 0, []), (.iload_n 1, []), (.if_icmp .lt 12, [14]), (.iload_n 0, []), (.iload_n 2, []), (.if_icmp .gt 7, [14]), (.iconst 1, []), (.goto 4, [15])]
def b_M_in_14 : List RI := [(.iconst 0, []), (.nop, [15])]
def b_M_in_15 : List RI := [(.ireturn, [1])]
def p_M_in (L : Nat) : List RI := cond (Nat.blt L 14) (cond (Nat.beq L 0) b_M_in_0 []) (cond (Nat.blt L 15) (cond (Nat.beq L 14) b_M_in_14 []) (cond (Nat.beq L 15) b_M_in_15 []))
def b_M_apart_0 : List RI := [(.iload_n 0, []), (.iload_n 1, []), (.if_icmp .ge 9, [11]), (.iload_n 1, []), (.iload_n 0, []), (.isub, []), (.goto 6, [14])]
def b_M_apart_11 : List RI := [(.iload_n 0, []), (.iload_n 1, []), (.isub, []), (.nop, [14])]
def b_M_apart_14 : List RI := [(.ireturn, [0])]
def p_M_apart (L : Nat) : List RI := cond (Nat.blt L 11) (cond (Nat.beq L 0) b_M_apart_0 []) (cond (Nat.blt L 14) (cond (Nat.beq L 11) b_M_apart_11 []) (cond (Nat.beq L 14) b_M_apart_14 []))
def b_M_greater_0 : List RI := [(.iload_n 0, []), (.iload_n 1, []), (.if_icmp .le 7, [9]), (.iload_n 0, []), (.goto 4, [10])]
def b_M_greater_9 : List RI := [(.iload_n 1, []), (.nop, [10])]
def b_M_greater_10 : List RI := [(.ireturn, [0])]
def p_M_greater (L : Nat) : List RI := cond (Nat.blt L 9) (cond (Nat.beq L 0) b_M_greater_0 []) (cond (Nat.blt L 10) (cond (Nat.beq L 9) b_M_greater_9 []) (cond (Nat.beq L 10) b_M_greater_10 []))
def b_M_bring_0 : List RI := [(.iconst 0, []), (.istore 5, []), (.nop, [3])]
def b_M_bring_3 : List RI := [(.iload 5, []), (.iload 4, []), (.if_icmp .ge 21, [28]), (.aload_n 2, []), (.iload_n 3, []), (.iload 5, []), (.iadd, []), (.aload_n 0, []), (.iload_n 1, []), (.iload 5, []), (.iadd, []), (.iaload, []), (.iastore, []), (.iinc 5 1, []), (.goto (-22), [3])]
def b_M_bring_28 : List RI := [(.return_, [])]
def p_M_bring (L : Nat) : List RI := cond (Nat.blt L 3) (cond (Nat.beq L 0) b_M_bring_0 []) (cond (Nat.blt L 28) (cond (Nat.beq L 3) b_M_bring_3 []) (cond (Nat.beq L 28) b_M_bring_28 []))
def b_M_keep_0 : List RI := [(.aload_n 0, []), (.getfield 38, [6, 3]), (.iconst 5, []), (.if_icmp .ne 31, [36]), (.aload_n 0, []), (.getfield 16, [6, 2]), (.sipush 953, []), (.aload_n 0, []), (.getfield 16, [6, 2]), (.iconst 0, []), (.sipush 3812, []), (.invokestatic 42, [90, 5, 0]), (.aload_n 0, []), (.dup, []), (.getfield 38, [6, 3]), (.iconst 1, []), (.isub, []), (.putfield 38, [6, 3]), (.nop, [36])]
def b_M_keep_36 : List RI := [(.aload_n 0, []), (.getfield 7, [6, 0]), (.iconst 0, []), (.aload_n 0, []), (.getfield 16, [6, 2]), (.sipush 953, []), (.aload_n 0, []), (.getfield 38, [6, 3]), (.imul, []), (.sipush 953, []), (.invokestatic 42, [90, 5, 0]), (.aload_n 0, []), (.dup, []), (.getfield 38, [6, 3]), (.iconst 1, []), (.iadd, []), (.putfield 38, [6, 3]), (.return_, [])]
def p_M_keep (L : Nat) : List RI := cond (Nat.blt L 36) (cond (Nat.beq L 0) b_M_keep_0 []) (cond (Nat.beq L 36) b_M_keep_36 [])
def b_M_isMouth_0 : List RI := [(.iload_n 1, []), (.iconst 0, []), (.aload_n 0, []), (.getfield 7, [6, 0]), (.iconst 0, []), (.iaload, []), (.iconst 1, []), (.isub, []), (.invokestatic 46, [87, 3, 0]), (.ireturn, [1])]
def p_M_isMouth (L : Nat) : List RI := cond (Nat.beq L 0) b_M_isMouth_0 []
def b_M_isSegment_0 : List RI := [(.iload_n 1, []), (.iconst 0, []), (.aload_n 0, []), (.getfield 7, [6, 0]), (.bipush 58, []), (.iaload, []), (.iconst 1, []), (.isub, []), (.invokestatic 46, [87, 3, 0]), (.ireturn, [1])]
def p_M_isSegment (L : Nat) : List RI := cond (Nat.beq L 0) b_M_isSegment_0 []
def b_M_opening_0 : List RI := [(.aload_n 0, []), (.getfield 7, [6, 0]), (.iconst 1, []), (.iconst 2, []), (.iload_n 1, []), (.imul, []), (.iadd, []), (.iaload, []), (.ireturn, [0])]
def p_M_opening (L : Nat) : List RI := cond (Nat.beq L 0) b_M_opening_0 []
def b_M_width_0 : List RI := [(.aload_n 0, []), (.getfield 7, [6, 0]), (.iconst 1, []), (.iconst 2, []), (.iload_n 1, []), (.imul, []), (.iadd, []), (.iconst 1, []), (.iadd, []), (.iaload, []), (.ireturn, [0])]
def p_M_width (L : Nat) : List RI := cond (Nat.beq L 0) b_M_width_0 []
def b_M_farBetween_0 : List RI := [(.aload_n 0, []), (.iload_n 1, []), (.invokevirtual 50, [94, 2, 16]), (.aload_n 0, []), (.iload_n 2, []), (.invokevirtual 50, [94, 2, 16]), (.invokestatic 54, [88, 2, 0]), (.aload_n 0, []), (.iload_n 1, []), (.invokevirtual 58, [95, 2, 16]), (.aload_n 0, []), (.iload_n 2, []), (.invokevirtual 58, [95, 2, 16]), (.invokestatic 54, [88, 2, 0]), (.invokestatic 61, [89, 2, 0]), (.ireturn, [0])]
def p_M_farBetween (L : Nat) : List RI := cond (Nat.beq L 0) b_M_farBetween_0 []
def b_M_kindOf_0 : List RI := [(.aload_n 0, []), (.getfield 7, [6, 0]), (.bipush 59, []), (.iconst 2, []), (.iload_n 1, []), (.imul, []), (.iadd, []), (.iaload, []), (.ireturn, [0])]
def p_M_kindOf (L : Nat) : List RI := cond (Nat.beq L 0) b_M_kindOf_0 []
def b_M_framesOf_0 : List RI := [(.aload_n 0, []), (.getfield 7, [6, 0]), (.bipush 59, []), (.iconst 2, []), (.iload_n 1, []), (.imul, []), (.iadd, []), (.iconst 1, []), (.iadd, []), (.iaload, []), (.ireturn, [0])]
def p_M_framesOf (L : Nat) : List RI := cond (Nat.beq L 0) b_M_framesOf_0 []
def b_M_setting_0 : List RI := [(.aload_n 0, []), (.getfield 7, [6, 0]), (.bipush 53, []), (.iload_n 1, []), (.iadd, []), (.iaload, []), (.ireturn, [0])]
def p_M_setting (L : Nat) : List RI := cond (Nat.beq L 0) b_M_setting_0 []
def b_M_firstOf_0 : List RI := [(.iconst 0, []), (.istore_n 2, []), (.iconst 0, []), (.istore_n 3, []), (.nop, [4])]
def b_M_firstOf_4 : List RI := [(.iload_n 3, []), (.iload_n 1, []), (.if_icmp .ge 17, [23]), (.iload_n 2, []), (.aload_n 0, []), (.iload_n 3, []), (.invokevirtual 64, [98, 2, 16]), (.iadd, []), (.istore_n 2, []), (.iinc 3 1, []), (.goto (-16), [4])]
def b_M_firstOf_23 : List RI := [(.iload_n 2, []), (.ireturn, [0])]
def p_M_firstOf (L : Nat) : List RI := cond (Nat.blt L 4) (cond (Nat.beq L 0) b_M_firstOf_0 []) (cond (Nat.blt L 23) (cond (Nat.beq L 4) b_M_firstOf_4 []) (cond (Nat.beq L 23) b_M_firstOf_23 []))
def b_M_frames_0 : List RI := [(.aload_n 0, []), (.aload_n 0, []), (.getfield 7, [6, 0]), (.bipush 58, []), (.iaload, []), (.invokevirtual 67, [100, 2, 16]), (.ireturn, [0])]
def p_M_frames (L : Nat) : List RI := cond (Nat.beq L 0) b_M_frames_0 []
def b_M_isFrame_0 : List RI := [(.iload_n 1, []), (.iconst 0, []), (.aload_n 0, []), (.invokevirtual 70, [101, 1, 16]), (.iconst 1, []), (.isub, []), (.invokestatic 46, [87, 3, 0]), (.ireturn, [1])]
def p_M_isFrame (L : Nat) : List RI := cond (Nat.beq L 0) b_M_isFrame_0 []
def b_M_segmentOf_0 : List RI := [(.iconst 0, []), (.istore_n 2, []), (.nop, [2])]
def b_M_segmentOf_2 : List RI := [(.aload_n 0, []), (.iload_n 2, []), (.iconst 1, []), (.iadd, []), (.invokevirtual 67, [100, 2, 16]), (.iload_n 1, []), (.if_icmp .gt 9, [19]), (.iinc 2 1, []), (.goto (-14), [2])]
def b_M_segmentOf_19 : List RI := [(.iload_n 2, []), (.ireturn, [0])]
def p_M_segmentOf (L : Nat) : List RI := cond (Nat.blt L 2) (cond (Nat.beq L 0) b_M_segmentOf_0 []) (cond (Nat.blt L 19) (cond (Nat.beq L 2) b_M_segmentOf_2 []) (cond (Nat.beq L 19) b_M_segmentOf_19 []))
def b_M_isSize_0 : List RI := [(.iload_n 0, []), (.iconst 0, []), (.bipush 9, []), (.invokestatic 46, [87, 3, 0]), (.ireturn, [1])]
def p_M_isSize (L : Nat) : List RI := cond (Nat.beq L 0) b_M_isSize_0 []
def b_M_addMouth_0 : List RI := [(.iload_n 1, []), (.invokestatic 74, [104, 1, 0]), (.ifCond .eq 10, [14]), (.iload_n 2, []), (.invokestatic 74, [104, 1, 0]), (.ifCond .ne 5, [16]), (.nop, [14])]
def b_M_addMouth_14 : List RI := [(.iconst (-1), []), (.ireturn, [0])]
def b_M_addMouth_16 : List RI := [(.aload_n 0, []), (.getfield 7, [6, 0]), (.iconst 0, []), (.iaload, []), (.bipush 8, []), (.if_icmp .ne 6, [30]), (.bipush (-3), []), (.ireturn, [0])]
def b_M_addMouth_30 : List RI := [(.aload_n 0, []), (.invokevirtual 78, [91, 1, 16]), (.aload_n 0, []), (.getfield 7, [6, 0]), (.iconst 1, []), (.iconst 2, []), (.aload_n 0, []), (.getfield 7, [6, 0]), (.iconst 0, []), (.iaload, []), (.imul, []), (.iadd, []), (.iload_n 1, []), (.iastore, []), (.aload_n 0, []), (.getfield 7, [6, 0]), (.iconst 1, []), (.iconst 2, []), (.aload_n 0, []), (.getfield 7, [6, 0]), (.iconst 0, []), (.iaload, []), (.imul, []), (.iadd, []), (.iconst 1, []), (.iadd, []), (.iload_n 2, []), (.iastore, []), (.aload_n 0, []), (.getfield 7, [6, 0]), (.iconst 0, []), (.dup2, []), (.iaload, []), (.iconst 1, []), (.iadd, []), (.iastore, []), (.aload_n 0, []), (.getfield 7, [6, 0]), (.iconst 0, []), (.iaload, []), (.iconst 1, []), (.isub, []), (.ireturn, [0])]
def p_M_addMouth (L : Nat) : List RI := cond (Nat.blt L 16) (cond (Nat.blt L 14) (cond (Nat.beq L 0) b_M_addMouth_0 []) (cond (Nat.beq L 14) b_M_addMouth_14 [])) (cond (Nat.blt L 30) (cond (Nat.beq L 16) b_M_addMouth_16 []) (cond (Nat.beq L 30) b_M_addMouth_30 []))
def b_M_setMouth_0 : List RI := [(.aload_n 0, []), (.iload_n 1, []), (.invokevirtual 81, [92, 2, 16]), (.ifCond .eq 17, [22]), (.iload_n 2, []), (.invokestatic 74, [104, 1, 0]), (.ifCond .eq 10, [22]), (.iload_n 3, []), (.invokestatic 74, [104, 1, 0]), (.ifCond .ne 5, [24]), (.nop, [22])]
def b_M_setMouth_22 : List RI := [(.iconst (-1), []), (.ireturn, [0])]
def b_M_setMouth_24 : List RI := [(.aload_n 0, []), (.invokevirtual 78, [91, 1, 16]), (.aload_n 0, []), (.iload_n 1, []), (.invokevirtual 50, [94, 2, 16]), (.iload_n 2, []), (.invokestatic 54, [88, 2, 0]), (.aload_n 0, []), (.iload_n 1, []), (.invokevirtual 58, [95, 2, 16]), (.iload_n 3, []), (.invokestatic 54, [88, 2, 0]), (.invokestatic 61, [89, 2, 0]), (.istore 4, []), (.aload_n 0, []), (.getfield 7, [6, 0]), (.iconst 1, []), (.iconst 2, []), (.iload_n 1, []), (.imul, []), (.iadd, []), (.iload_n 2, []), (.iastore, []), (.aload_n 0, []), (.getfield 7, [6, 0]), (.iconst 1, []), (.iconst 2, []), (.iload_n 1, []), (.imul, []), (.iadd, []), (.iconst 1, []), (.iadd, []), (.iload_n 3, []), (.iastore, []), (.iload 4, []), (.ireturn, [0])]
def p_M_setMouth (L : Nat) : List RI := cond (Nat.blt L 22) (cond (Nat.beq L 0) b_M_setMouth_0 []) (cond (Nat.blt L 24) (cond (Nat.beq L 22) b_M_setMouth_22 []) (cond (Nat.beq L 24) b_M_setMouth_24 []))
def b_M_setSound_0 : List RI := [(.iload_n 1, []), (.iconst 0, []), (.bipush 8, []), (.invokestatic 46, [87, 3, 0]), (.ifCond .eq 31, [38]), (.iload_n 2, []), (.iconst 0, []), (.iconst 3, []), (.invokestatic 46, [87, 3, 0]), (.ifCond .eq 22, [38]), (.iload_n 3, []), (.iconst 0, []), (.iload_n 2, []), (.iconst 3, []), (.if_icmp .ne 7, [30]), (.iconst 3, []), (.goto 5, [32])]
def b_M_setSound_30 : List RI := [(.bipush 9, []), (.nop, [32])]
def b_M_setSound_32 : List RI := [(.invokestatic 46, [87, 3, 0]), (.ifCond .ne 5, [40]), (.nop, [38])]
def b_M_setSound_38 : List RI := [(.iconst (-1), []), (.ireturn, [0])]
def b_M_setSound_40 : List RI := [(.aload_n 0, []), (.invokevirtual 78, [91, 1, 16]), (.aload_n 0, []), (.getfield 7, [6, 0]), (.bipush 17, []), (.iconst 4, []), (.iload_n 1, []), (.imul, []), (.iadd, []), (.iload_n 2, []), (.iadd, []), (.iaload, []), (.istore 4, []), (.aload_n 0, []), (.getfield 7, [6, 0]), (.bipush 17, []), (.iconst 4, []), (.iload_n 1, []), (.imul, []), (.iadd, []), (.iload_n 2, []), (.iadd, []), (.iload_n 3, []), (.iastore, []), (.iload 4, []), (.ireturn, [0])]
def p_M_setSound (L : Nat) : List RI := cond (Nat.blt L 32) (cond (Nat.blt L 30) (cond (Nat.beq L 0) b_M_setSound_0 []) (cond (Nat.beq L 30) b_M_setSound_30 [])) (cond (Nat.blt L 38) (cond (Nat.beq L 32) b_M_setSound_32 []) (cond (Nat.blt L 40) (cond (Nat.beq L 38) b_M_setSound_38 []) (cond (Nat.beq L 40) b_M_setSound_40 [])))
def b_M_isSetting_0 : List RI := [(.iload_n 0, []), (.tableswitch 62 0 3 #[31, 39, 46, 54], [63, 32, 40, 47, 55])]
def b_M_isSetting_32 : List RI := [(.iload_n 1, []), (.iconst 1, []), (.bipush 9, []), (.invokestatic 46, [87, 3, 0]), (.ireturn, [1])]
def b_M_isSetting_40 : List RI := [(.iload_n 1, []), (.iconst 1, []), (.iconst 3, []), (.invokestatic 46, [87, 3, 0]), (.ireturn, [1])]
def b_M_isSetting_47 : List RI := [(.iload_n 1, []), (.iconst 0, []), (.bipush 9, []), (.invokestatic 46, [87, 3, 0]), (.ireturn, [1])]
def b_M_isSetting_55 : List RI := [(.iload_n 1, []), (.iconst 1, []), (.bipush 99, []), (.invokestatic 46, [87, 3, 0]), (.ireturn, [1])]
def b_M_isSetting_63 : List RI := [(.iload_n 0, []), (.iconst 4, []), (.if_icmp .ne 17, [82]), (.iload_n 1, []), (.iconst 1, []), (.bipush 20, []), (.invokestatic 46, [87, 3, 0]), (.ifCond .eq 7, [82]), (.iconst 1, []), (.goto 4, [83])]
def b_M_isSetting_82 : List RI := [(.iconst 0, []), (.nop, [83])]
def b_M_isSetting_83 : List RI := [(.ireturn, [1])]
def p_M_isSetting (L : Nat) : List RI := cond (Nat.blt L 55) (cond (Nat.blt L 40) (cond (Nat.blt L 32) (cond (Nat.beq L 0) b_M_isSetting_0 []) (cond (Nat.beq L 32) b_M_isSetting_32 [])) (cond (Nat.blt L 47) (cond (Nat.beq L 40) b_M_isSetting_40 []) (cond (Nat.beq L 47) b_M_isSetting_47 []))) (cond (Nat.blt L 82) (cond (Nat.blt L 63) (cond (Nat.beq L 55) b_M_isSetting_55 []) (cond (Nat.beq L 63) b_M_isSetting_63 [])) (cond (Nat.blt L 83) (cond (Nat.beq L 82) b_M_isSetting_82 []) (cond (Nat.beq L 83) b_M_isSetting_83 [])))
def b_M_setNumber_0 : List RI := [(.iload_n 1, []), (.iload_n 2, []), (.invokestatic 84, [108, 2, 0]), (.ifCond .ne 5, [10]), (.iconst (-1), []), (.ireturn, [0])]
def b_M_setNumber_10 : List RI := [(.aload_n 0, []), (.invokevirtual 78, [91, 1, 16]), (.aload_n 0, []), (.iload_n 1, []), (.invokevirtual 88, [99, 2, 16]), (.istore_n 3, []), (.aload_n 0, []), (.getfield 7, [6, 0]), (.bipush 53, []), (.iload_n 1, []), (.iadd, []), (.iload_n 2, []), (.iastore, []), (.iload_n 3, []), (.ireturn, [0])]
def p_M_setNumber (L : Nat) : List RI := cond (Nat.blt L 10) (cond (Nat.beq L 0) b_M_setNumber_0 []) (cond (Nat.beq L 10) b_M_setNumber_10 [])
def b_M_opens_0 : List RI := [(.iload_n 3, []), (.iconst 1, []), (.isub, []), (.istore 4, []), (.nop, [5])]
def b_M_opens_5 : List RI := [(.iload 4, []), (.iload_n 1, []), (.if_icmp .lt 43, [51]), (.aload_n 0, []), (.bipush 119, []), (.iload 4, []), (.iadd, []), (.iload_n 2, []), (.iadd, []), (.aload_n 0, []), (.bipush 119, []), (.iload 4, []), (.iadd, []), (.iaload, []), (.iastore, []), (.aload_n 0, []), (.sipush 218, []), (.iload 4, []), (.iadd, []), (.iload_n 2, []), (.iadd, []), (.aload_n 0, []), (.sipush 218, []), (.iload 4, []), (.iadd, []), (.iaload, []), (.iastore, []), (.iinc 4 (-1), []), (.goto (-43), [5])]
def b_M_opens_51 : List RI := [(.iload_n 1, []), (.istore 4, []), (.nop, [54])]
def b_M_opens_54 : List RI := [(.iload 4, []), (.iload_n 1, []), (.iload_n 2, []), (.iadd, []), (.if_icmp .ge 26, [85]), (.aload_n 0, []), (.bipush 119, []), (.iload 4, []), (.iadd, []), (.iconst (-1), []), (.iastore, []), (.aload_n 0, []), (.sipush 218, []), (.iload 4, []), (.iadd, []), (.iconst (-1), []), (.iastore, []), (.iinc 4 1, []), (.goto (-28), [54])]
def b_M_opens_85 : List RI := [(.return_, [])]
def p_M_opens (L : Nat) : List RI := cond (Nat.blt L 51) (cond (Nat.blt L 5) (cond (Nat.beq L 0) b_M_opens_0 []) (cond (Nat.beq L 5) b_M_opens_5 [])) (cond (Nat.blt L 54) (cond (Nat.beq L 51) b_M_opens_51 []) (cond (Nat.blt L 85) (cond (Nat.beq L 54) b_M_opens_54 []) (cond (Nat.beq L 85) b_M_opens_85 [])))
def b_M_closes_0 : List RI := [(.iload_n 1, []), (.istore 4, []), (.nop, [3])]
def b_M_closes_3 : List RI := [(.iload 4, []), (.iload_n 3, []), (.iload_n 2, []), (.isub, []), (.if_icmp .ge 43, [51]), (.aload_n 0, []), (.bipush 119, []), (.iload 4, []), (.iadd, []), (.aload_n 0, []), (.bipush 119, []), (.iload 4, []), (.iadd, []), (.iload_n 2, []), (.iadd, []), (.iaload, []), (.iastore, []), (.aload_n 0, []), (.sipush 218, []), (.iload 4, []), (.iadd, []), (.aload_n 0, []), (.sipush 218, []), (.iload 4, []), (.iadd, []), (.iload_n 2, []), (.iadd, []), (.iaload, []), (.iastore, []), (.iinc 4 1, []), (.goto (-45), [3])]
def b_M_closes_51 : List RI := [(.return_, [])]
def p_M_closes (L : Nat) : List RI := cond (Nat.blt L 3) (cond (Nat.beq L 0) b_M_closes_0 []) (cond (Nat.blt L 51) (cond (Nat.beq L 3) b_M_closes_3 []) (cond (Nat.beq L 51) b_M_closes_51 []))
def b_M_allOf_0 : List RI := [(.iconst 0, []), (.istore_n 1, []), (.iconst 0, []), (.istore_n 2, []), (.nop, [4])]
def b_M_allOf_4 : List RI := [(.iload_n 2, []), (.aload_n 0, []), (.bipush 58, []), (.iaload, []), (.if_icmp .ge 22, [31]), (.iload_n 1, []), (.aload_n 0, []), (.bipush 59, []), (.iconst 2, []), (.iload_n 2, []), (.imul, []), (.iadd, []), (.iconst 1, []), (.iadd, []), (.iaload, []), (.iadd, []), (.istore_n 1, []), (.iinc 2 1, []), (.goto (-24), [4])]
def b_M_allOf_31 : List RI := [(.iload_n 1, []), (.ireturn, [0])]
def p_M_allOf (L : Nat) : List RI := cond (Nat.blt L 4) (cond (Nat.beq L 0) b_M_allOf_0 []) (cond (Nat.blt L 31) (cond (Nat.beq L 4) b_M_allOf_4 []) (cond (Nat.beq L 31) b_M_allOf_31 []))
def b_M_inserts_0 : List RI := [(.aload_n 0, []), (.invokestatic 91, [112, 1, 0]), (.istore 4, []), (.iconst 0, []), (.istore 5, []), (.iconst 0, []), (.istore 6, []), (.nop, [12])]
def b_M_inserts_12 : List RI := [(.iload 6, []), (.iload_n 1, []), (.if_icmp .ge 25, [40]), (.iload 5, []), (.aload_n 0, []), (.bipush 59, []), (.iconst 2, []), (.iload 6, []), (.imul, []), (.iadd, []), (.iconst 1, []), (.iadd, []), (.iaload, []), (.iadd, []), (.istore 5, []), (.iinc 6 1, []), (.goto (-25), [12])]
def b_M_inserts_40 : List RI := [(.aload_n 0, []), (.iload 5, []), (.iload_n 3, []), (.iload 4, []), (.invokestatic 95, [110, 4, 0]), (.bipush 59, []), (.iconst 2, []), (.aload_n 0, []), (.bipush 58, []), (.iaload, []), (.imul, []), (.iadd, []), (.iconst 1, []), (.isub, []), (.istore 6, []), (.nop, [62])]
def b_M_inserts_62 : List RI := [(.iload 6, []), (.bipush 59, []), (.iconst 2, []), (.iload_n 1, []), (.imul, []), (.iadd, []), (.if_icmp .lt 19, [89]), (.aload_n 0, []), (.iload 6, []), (.iconst 2, []), (.iadd, []), (.aload_n 0, []), (.iload 6, []), (.iaload, []), (.iastore, []), (.iinc 6 (-1), []), (.goto (-24), [62])]
def b_M_inserts_89 : List RI := [(.aload_n 0, []), (.bipush 59, []), (.iconst 2, []), (.iload_n 1, []), (.imul, []), (.iadd, []), (.iload_n 2, []), (.iastore, []), (.aload_n 0, []), (.bipush 59, []), (.iconst 2, []), (.iload_n 1, []), (.imul, []), (.iadd, []), (.iconst 1, []), (.iadd, []), (.iload_n 3, []), (.iastore, []), (.aload_n 0, []), (.bipush 58, []), (.dup2, []), (.iaload, []), (.iconst 1, []), (.iadd, []), (.iastore, []), (.return_, [])]
def p_M_inserts (L : Nat) : List RI := cond (Nat.blt L 40) (cond (Nat.blt L 12) (cond (Nat.beq L 0) b_M_inserts_0 []) (cond (Nat.beq L 12) b_M_inserts_12 [])) (cond (Nat.blt L 62) (cond (Nat.beq L 40) b_M_inserts_40 []) (cond (Nat.blt L 89) (cond (Nat.beq L 62) b_M_inserts_62 []) (cond (Nat.beq L 89) b_M_inserts_89 [])))
def b_M_hasRoom_0 : List RI := [(.aload_n 0, []), (.bipush 58, []), (.iaload, []), (.bipush 30, []), (.if_icmp .ge 18, [24]), (.aload_n 0, []), (.invokestatic 91, [112, 1, 0]), (.iload_n 1, []), (.iadd, []), (.bipush 99, []), (.if_icmp .gt 7, [24]), (.iconst 1, []), (.goto 4, [25])]
def b_M_hasRoom_24 : List RI := [(.iconst 0, []), (.nop, [25])]
def b_M_hasRoom_25 : List RI := [(.ireturn, [1])]
def p_M_hasRoom (L : Nat) : List RI := cond (Nat.blt L 24) (cond (Nat.beq L 0) b_M_hasRoom_0 []) (cond (Nat.blt L 25) (cond (Nat.beq L 24) b_M_hasRoom_24 []) (cond (Nat.beq L 25) b_M_hasRoom_25 []))
def b_M_insert_0 : List RI := [(.iload_n 1, []), (.iconst 0, []), (.aload_n 0, []), (.getfield 7, [6, 0]), (.bipush 58, []), (.iaload, []), (.invokestatic 46, [87, 3, 0]), (.ifCond .eq 23, [35]), (.iload_n 2, []), (.iconst 0, []), (.bipush 9, []), (.invokestatic 46, [87, 3, 0]), (.ifCond .eq 13, [35]), (.iload_n 3, []), (.iconst 1, []), (.bipush 20, []), (.invokestatic 46, [87, 3, 0]), (.ifCond .ne 5, [37]), (.nop, [35])]
def b_M_insert_35 : List RI := [(.iconst (-1), []), (.ireturn, [0])]
def b_M_insert_37 : List RI := [(.aload_n 0, []), (.getfield 7, [6, 0]), (.iload_n 3, []), (.invokestatic 99, [114, 2, 0]), (.ifCond .ne 6, [51]), (.bipush (-3), []), (.ireturn, [0])]
def b_M_insert_51 : List RI := [(.aload_n 0, []), (.invokevirtual 78, [91, 1, 16]), (.aload_n 0, []), (.getfield 7, [6, 0]), (.iload_n 1, []), (.iload_n 2, []), (.iload_n 3, []), (.invokestatic 103, [113, 4, 0]), (.aload_n 0, []), (.invokevirtual 70, [101, 1, 16]), (.ireturn, [0])]
def p_M_insert (L : Nat) : List RI := cond (Nat.blt L 37) (cond (Nat.blt L 35) (cond (Nat.beq L 0) b_M_insert_0 []) (cond (Nat.beq L 35) b_M_insert_35 [])) (cond (Nat.blt L 51) (cond (Nat.beq L 37) b_M_insert_37 []) (cond (Nat.beq L 51) b_M_insert_51 []))
def b_M_remove_0 : List RI := [(.aload_n 0, []), (.iload_n 1, []), (.invokevirtual 106, [93, 2, 16]), (.ifCond .ne 5, [10]), (.iconst (-1), []), (.ireturn, [0])]
def b_M_remove_10 : List RI := [(.aload_n 0, []), (.invokevirtual 78, [91, 1, 16]), (.aload_n 0, []), (.getfield 7, [6, 0]), (.aload_n 0, []), (.iload_n 1, []), (.invokevirtual 67, [100, 2, 16]), (.aload_n 0, []), (.iload_n 1, []), (.invokevirtual 64, [98, 2, 16]), (.aload_n 0, []), (.invokevirtual 70, [101, 1, 16]), (.invokestatic 109, [111, 4, 0]), (.aload_n 0, []), (.getfield 7, [6, 0]), (.bipush 58, []), (.dup2, []), (.iaload, []), (.iconst 1, []), (.isub, []), (.iastore, []), (.bipush 59, []), (.iconst 2, []), (.iload_n 1, []), (.imul, []), (.iadd, []), (.istore_n 2, []), (.nop, [53])]
def b_M_remove_53 : List RI := [(.iload_n 2, []), (.bipush 59, []), (.iconst 2, []), (.aload_n 0, []), (.getfield 7, [6, 0]), (.bipush 58, []), (.iaload, []), (.imul, []), (.iadd, []), (.if_icmp .ge 23, [89]), (.aload_n 0, []), (.getfield 7, [6, 0]), (.iload_n 2, []), (.aload_n 0, []), (.getfield 7, [6, 0]), (.iload_n 2, []), (.iconst 2, []), (.iadd, []), (.iaload, []), (.iastore, []), (.iinc 2 1, []), (.goto (-33), [53])]
def b_M_remove_89 : List RI := [(.aload_n 0, []), (.invokevirtual 70, [101, 1, 16]), (.ireturn, [0])]
def p_M_remove (L : Nat) : List RI := cond (Nat.blt L 53) (cond (Nat.blt L 10) (cond (Nat.beq L 0) b_M_remove_0 []) (cond (Nat.beq L 10) b_M_remove_10 [])) (cond (Nat.blt L 89) (cond (Nat.beq L 53) b_M_remove_53 []) (cond (Nat.beq L 89) b_M_remove_89 []))
def b_M_stretch_0 : List RI := [(.aload_n 0, []), (.iload_n 1, []), (.invokevirtual 106, [93, 2, 16]), (.ifCond .eq 13, [18]), (.iload_n 2, []), (.iconst 1, []), (.bipush 20, []), (.invokestatic 46, [87, 3, 0]), (.ifCond .ne 5, [20]), (.nop, [18])]
def b_M_stretch_18 : List RI := [(.iconst (-1), []), (.ireturn, [0])]
def b_M_stretch_20 : List RI := [(.aload_n 0, []), (.iload_n 1, []), (.invokevirtual 64, [98, 2, 16]), (.istore_n 3, []), (.aload_n 0, []), (.invokevirtual 70, [101, 1, 16]), (.iload_n 3, []), (.isub, []), (.iload_n 2, []), (.iadd, []), (.bipush 99, []), (.if_icmp .le 6, [42]), (.bipush (-3), []), (.ireturn, [0])]
def b_M_stretch_42 : List RI := [(.aload_n 0, []), (.invokevirtual 78, [91, 1, 16]), (.aload_n 0, []), (.iload_n 1, []), (.invokevirtual 67, [100, 2, 16]), (.istore 4, []), (.iload_n 2, []), (.iload_n 3, []), (.if_icmp .ge 24, [79]), (.aload_n 0, []), (.getfield 7, [6, 0]), (.iload 4, []), (.iload_n 2, []), (.iadd, []), (.iload_n 3, []), (.iload_n 2, []), (.isub, []), (.aload_n 0, []), (.invokevirtual 70, [101, 1, 16]), (.invokestatic 109, [111, 4, 0]), (.goto 21, [97])]
def b_M_stretch_79 : List RI := [(.aload_n 0, []), (.getfield 7, [6, 0]), (.iload 4, []), (.iload_n 3, []), (.iadd, []), (.iload_n 2, []), (.iload_n 3, []), (.isub, []), (.aload_n 0, []), (.invokevirtual 70, [101, 1, 16]), (.invokestatic 95, [110, 4, 0]), (.nop, [97])]
def b_M_stretch_97 : List RI := [(.aload_n 0, []), (.getfield 7, [6, 0]), (.bipush 59, []), (.iconst 2, []), (.iload_n 1, []), (.imul, []), (.iadd, []), (.iconst 1, []), (.iadd, []), (.iload_n 2, []), (.iastore, []), (.iload_n 3, []), (.ireturn, [0])]
def p_M_stretch (L : Nat) : List RI := cond (Nat.blt L 42) (cond (Nat.blt L 18) (cond (Nat.beq L 0) b_M_stretch_0 []) (cond (Nat.blt L 20) (cond (Nat.beq L 18) b_M_stretch_18 []) (cond (Nat.beq L 20) b_M_stretch_20 []))) (cond (Nat.blt L 79) (cond (Nat.beq L 42) b_M_stretch_42 []) (cond (Nat.blt L 97) (cond (Nat.beq L 79) b_M_stretch_79 []) (cond (Nat.beq L 97) b_M_stretch_97 [])))
def b_M_puts_0 : List RI := [(.aload_n 0, []), (.iload_n 2, []), (.invokevirtual 112, [102, 2, 16]), (.ifCond .eq 16, [21]), (.iload_n 3, []), (.iconst (-1), []), (.if_icmp .eq 13, [23]), (.aload_n 0, []), (.iload_n 3, []), (.invokevirtual 81, [92, 2, 16]), (.ifCond .ne 5, [23]), (.nop, [21])]
def b_M_puts_21 : List RI := [(.iconst (-1), []), (.ireturn, [0])]
def b_M_puts_23 : List RI := [(.aload_n 0, []), (.invokevirtual 78, [91, 1, 16]), (.aload_n 0, []), (.getfield 7, [6, 0]), (.iload_n 1, []), (.iload_n 2, []), (.iadd, []), (.iaload, []), (.istore 4, []), (.aload_n 0, []), (.getfield 7, [6, 0]), (.iload_n 1, []), (.iload_n 2, []), (.iadd, []), (.iload_n 3, []), (.iastore, []), (.iload 4, []), (.ifCond .ge 8, [56]), (.bipush (-99), []), (.goto 5, [58])]
def b_M_puts_56 : List RI := [(.iload 4, []), (.nop, [58])]
def b_M_puts_58 : List RI := [(.ireturn, [0])]
def p_M_puts (L : Nat) : List RI := cond (Nat.blt L 23) (cond (Nat.blt L 21) (cond (Nat.beq L 0) b_M_puts_0 []) (cond (Nat.beq L 21) b_M_puts_21 [])) (cond (Nat.blt L 56) (cond (Nat.beq L 23) b_M_puts_23 []) (cond (Nat.blt L 58) (cond (Nat.beq L 56) b_M_puts_56 []) (cond (Nat.beq L 58) b_M_puts_58 [])))
def b_M_pin_0 : List RI := [(.aload_n 0, []), (.bipush 119, []), (.iload_n 1, []), (.iload_n 2, []), (.invokevirtual 115, [118, 4, 16]), (.ireturn, [0])]
def p_M_pin (L : Nat) : List RI := cond (Nat.beq L 0) b_M_pin_0 []
def b_M_draw_0 : List RI := [(.aload_n 0, []), (.sipush 218, []), (.iload_n 1, []), (.iload_n 2, []), (.invokevirtual 115, [118, 4, 16]), (.ireturn, [0])]
def p_M_draw (L : Nat) : List RI := cond (Nat.beq L 0) b_M_draw_0 []
def b_M_nearestTo_0 : List RI := [(.bipush (-99), []), (.istore 4, []), (.ldc 119, [1000000]), (.istore 5, []), (.iconst 0, []), (.istore 6, []), (.nop, [11])]
def b_M_nearestTo_11 : List RI := [(.iload 6, []), (.aload_n 0, []), (.getfield 7, [6, 0]), (.iconst 0, []), (.iaload, []), (.if_icmp .ge 95, [114]), (.aload_n 0, []), (.iload 6, []), (.invokevirtual 50, [94, 2, 16]), (.iload_n 1, []), (.invokestatic 54, [88, 2, 0]), (.aload_n 0, []), (.iload 6, []), (.invokevirtual 58, [95, 2, 16]), (.iload_n 2, []), (.invokestatic 54, [88, 2, 0]), (.invokestatic 61, [89, 2, 0]), (.istore 7, []), (.iload_n 3, []), (.ifCond .lt 18, [66]), (.aload_n 0, []), (.iload_n 3, []), (.iload 6, []), (.invokevirtual 120, [96, 3, 16]), (.aload_n 0, []), (.iconst 0, []), (.invokevirtual 88, [99, 2, 16]), (.if_icmp .gt 14, [77]), (.nop, [66])]
def b_M_nearestTo_66 : List RI := [(.iload 7, []), (.iload 5, []), (.if_icmp .ge 7, [77]), (.iconst 1, []), (.goto 4, [78])]
def b_M_nearestTo_77 : List RI := [(.iconst 0, []), (.nop, [78])]
def b_M_nearestTo_78 : List RI := [(.istore 8, []), (.iload 8, []), (.ifCond .eq 8, [90]), (.iload 6, []), (.goto 5, [92])]
def b_M_nearestTo_90 : List RI := [(.iload 4, []), (.nop, [92])]
def b_M_nearestTo_92 : List RI := [(.istore 4, []), (.iload 8, []), (.ifCond .eq 8, [104]), (.iload 7, []), (.goto 5, [106])]
def b_M_nearestTo_104 : List RI := [(.iload 5, []), (.nop, [106])]
def b_M_nearestTo_106 : List RI := [(.istore 5, []), (.iinc 6 1, []), (.goto (-100), [11])]
def b_M_nearestTo_114 : List RI := [(.iload 4, []), (.ireturn, [0])]
def p_M_nearestTo (L : Nat) : List RI := cond (Nat.blt L 90) (cond (Nat.blt L 66) (cond (Nat.blt L 11) (cond (Nat.beq L 0) b_M_nearestTo_0 []) (cond (Nat.beq L 11) b_M_nearestTo_11 [])) (cond (Nat.blt L 77) (cond (Nat.beq L 66) b_M_nearestTo_66 []) (cond (Nat.blt L 78) (cond (Nat.beq L 77) b_M_nearestTo_77 []) (cond (Nat.beq L 78) b_M_nearestTo_78 [])))) (cond (Nat.blt L 104) (cond (Nat.blt L 92) (cond (Nat.beq L 90) b_M_nearestTo_90 []) (cond (Nat.beq L 92) b_M_nearestTo_92 [])) (cond (Nat.blt L 106) (cond (Nat.beq L 104) b_M_nearestTo_104 []) (cond (Nat.blt L 114) (cond (Nat.beq L 106) b_M_nearestTo_106 []) (cond (Nat.beq L 114) b_M_nearestTo_114 []))))
def b_M_between_0 : List RI := [(.aload_n 0, []), (.iload_n 1, []), (.invokevirtual 112, [102, 2, 16]), (.ifCond .eq 16, [21]), (.aload_n 0, []), (.iload_n 2, []), (.invokevirtual 112, [102, 2, 16]), (.ifCond .eq 8, [21]), (.iload_n 2, []), (.iload_n 1, []), (.if_icmp .gt 5, [23]), (.nop, [21])]
def b_M_between_21 : List RI := [(.iconst (-1), []), (.ireturn, [0])]
def b_M_between_23 : List RI := [(.aload_n 0, []), (.getfield 7, [6, 0]), (.sipush 218, []), (.iload_n 1, []), (.iadd, []), (.iaload, []), (.istore_n 3, []), (.aload_n 0, []), (.getfield 7, [6, 0]), (.sipush 218, []), (.iload_n 2, []), (.iadd, []), (.iaload, []), (.istore 4, []), (.iload_n 3, []), (.ifCond .lt 8, [55]), (.iload 4, []), (.ifCond .ge 6, [58]), (.nop, [55])]
def b_M_between_55 : List RI := [(.bipush (-2), []), (.ireturn, [0])]
def b_M_between_58 : List RI := [(.aload_n 0, []), (.invokevirtual 78, [91, 1, 16]), (.iload_n 1, []), (.iconst 1, []), (.iadd, []), (.istore 5, []), (.nop, [67])]
def b_M_between_67 : List RI := [(.iload 5, []), (.iload_n 2, []), (.if_icmp .ge 99, [169]), (.aload_n 0, []), (.iload_n 3, []), (.invokevirtual 50, [94, 2, 16]), (.aload_n 0, []), (.iload 4, []), (.invokevirtual 50, [94, 2, 16]), (.aload_n 0, []), (.iload_n 3, []), (.invokevirtual 50, [94, 2, 16]), (.isub, []), (.iload 5, []), (.iload_n 1, []), (.isub, []), (.imul, []), (.iload_n 2, []), (.iload_n 1, []), (.isub, []), (.idiv, []), (.iadd, []), (.istore 6, []), (.aload_n 0, []), (.iload_n 3, []), (.invokevirtual 58, [95, 2, 16]), (.aload_n 0, []), (.iload 4, []), (.invokevirtual 58, [95, 2, 16]), (.aload_n 0, []), (.iload_n 3, []), (.invokevirtual 58, [95, 2, 16]), (.isub, []), (.iload 5, []), (.iload_n 1, []), (.isub, []), (.imul, []), (.iload_n 2, []), (.iload_n 1, []), (.isub, []), (.idiv, []), (.iadd, []), (.istore 7, []), (.aload_n 0, []), (.getfield 7, [6, 0]), (.sipush 218, []), (.iload 5, []), (.iadd, []), (.aload_n 0, []), (.iload 6, []), (.iload 7, []), (.aload_n 0, []), (.getfield 7, [6, 0]), (.sipush 218, []), (.iload 5, []), (.iadd, []), (.iconst 1, []), (.isub, []), (.iaload, []), (.invokevirtual 123, [121, 4, 16]), (.iastore, []), (.iinc 5 1, []), (.goto (-99), [67])]
def b_M_between_169 : List RI := [(.aload_n 0, []), (.aload_n 0, []), (.getfield 7, [6, 0]), (.sipush 218, []), (.iload_n 2, []), (.iadd, []), (.iconst 1, []), (.isub, []), (.iaload, []), (.iload 4, []), (.invokevirtual 120, [96, 3, 16]), (.ireturn, [0])]
def p_M_between (L : Nat) : List RI := cond (Nat.blt L 55) (cond (Nat.blt L 21) (cond (Nat.beq L 0) b_M_between_0 []) (cond (Nat.blt L 23) (cond (Nat.beq L 21) b_M_between_21 []) (cond (Nat.beq L 23) b_M_between_23 []))) (cond (Nat.blt L 67) (cond (Nat.blt L 58) (cond (Nat.beq L 55) b_M_between_55 []) (cond (Nat.beq L 58) b_M_between_58 [])) (cond (Nat.blt L 169) (cond (Nat.beq L 67) b_M_between_67 []) (cond (Nat.beq L 169) b_M_between_169 [])))
def b_M_finish_0 : List RI := [(.aload_n 0, []), (.aload_n 0, []), (.iconst 0, []), (.invokevirtual 88, [99, 2, 16]), (.bipush (-99), []), (.bipush (-99), []), (.invokevirtual 126, [141, 4, 16]), (.istore_n 1, []), (.iload_n 1, []), (.bipush (-99), []), (.if_icmp .ne 6, [23]), (.bipush (-2), []), (.ireturn, [0])]
def b_M_finish_23 : List RI := [(.aload_n 0, []), (.invokevirtual 78, [91, 1, 16]), (.aload_n 0, []), (.getfield 32, [6, 11]), (.iconst 0, []), (.aload_n 0, []), (.getfield 7, [6, 0]), (.sipush 218, []), (.aload_n 0, []), (.invokevirtual 70, [101, 1, 16]), (.invokestatic 42, [90, 5, 0]), (.iload_n 1, []), (.ireturn, [0])]
def p_M_finish (L : Nat) : List RI := cond (Nat.blt L 23) (cond (Nat.beq L 0) b_M_finish_0 []) (cond (Nat.beq L 23) b_M_finish_23 [])
def b_M_breathes_0 : List RI := [(.aload_n 1, []), (.bipush 56, []), (.iaload, []), (.istore_n 2, []), (.iconst 0, []), (.istore_n 3, []), (.bipush 99, []), (.istore 4, []), (.iconst 0, []), (.istore 5, []), (.nop, [14])]
def b_M_breathes_14 : List RI := [(.iload 5, []), (.aload_n 1, []), (.bipush 58, []), (.iaload, []), (.if_icmp .ge 173, [193]), (.aload_n 1, []), (.bipush 59, []), (.iconst 2, []), (.iload 5, []), (.imul, []), (.iadd, []), (.iaload, []), (.istore 6, []), (.iconst 0, []), (.istore 7, []), (.nop, [37])]
def b_M_breathes_37 : List RI := [(.iload 7, []), (.aload_n 1, []), (.bipush 59, []), (.iconst 2, []), (.iload 5, []), (.imul, []), (.iadd, []), (.iconst 1, []), (.iadd, []), (.iaload, []), (.if_icmp .ge 137, [187]), (.iload 6, []), (.bipush 9, []), (.if_icmp .ne 7, [64]), (.iconst 0, []), (.goto 14, [75])]
def b_M_breathes_64 : List RI := [(.aload_n 1, []), (.bipush 17, []), (.iconst 4, []), (.iload 6, []), (.imul, []), (.iadd, []), (.iconst 3, []), (.iadd, []), (.iaload, []), (.nop, [75])]
def b_M_breathes_75 : List RI := [(.istore 8, []), (.aload_n 0, []), (.getfield 25, [6, 7]), (.iload_n 3, []), (.iload_n 2, []), (.iload 8, []), (.if_icmp .ge 7, [92]), (.iconst 1, []), (.goto 4, [93])]
def b_M_breathes_92 : List RI := [(.iconst 0, []), (.nop, [93])]
def b_M_breathes_93 : List RI := [(.bastore, []), (.aload_n 0, []), (.getfield 25, [6, 7]), (.iload_n 3, []), (.baload, []), (.ifCond .eq 14, [114]), (.iload 4, []), (.bipush 99, []), (.if_icmp .ne 7, [114]), (.iload_n 3, []), (.goto 5, [116])]
def b_M_breathes_114 : List RI := [(.iload 4, []), (.nop, [116])]
def b_M_breathes_116 : List RI := [(.istore 4, []), (.aload_n 0, []), (.getfield 25, [6, 7]), (.iload_n 3, []), (.baload, []), (.ifCond .eq 7, [131]), (.iconst 0, []), (.goto 7, [135])]
def b_M_breathes_131 : List RI := [(.iload_n 2, []), (.iload 8, []), (.isub, []), (.nop, [135])]
def b_M_breathes_135 : List RI := [(.istore_n 2, []), (.iload_n 2, []), (.iload 6, []), (.bipush 9, []), (.if_icmp .ne 10, [151]), (.aload_n 1, []), (.bipush 57, []), (.iaload, []), (.goto 4, [152])]
def b_M_breathes_151 : List RI := [(.iconst 0, []), (.nop, [152])]
def b_M_breathes_152 : List RI := [(.iadd, []), (.istore_n 2, []), (.iload_n 2, []), (.aload_n 1, []), (.bipush 56, []), (.iaload, []), (.if_icmp .le 10, [169]), (.aload_n 1, []), (.bipush 56, []), (.iaload, []), (.goto 4, [170])]
def b_M_breathes_169 : List RI := [(.iload_n 2, []), (.nop, [170])]
def b_M_breathes_170 : List RI := [(.istore_n 2, []), (.aload_n 0, []), (.getfield 22, [6, 6]), (.iload_n 3, []), (.iload_n 2, []), (.iastore, []), (.iinc 3 1, []), (.iinc 7 1, []), (.goto (-147), [37])]
def b_M_breathes_187 : List RI := [(.iinc 5 1, []), (.goto (-176), [14])]
def b_M_breathes_193 : List RI := [(.iload 4, []), (.ireturn, [0])]
def p_M_breathes (L : Nat) : List RI := cond (Nat.blt L 116) (cond (Nat.blt L 75) (cond (Nat.blt L 37) (cond (Nat.blt L 14) (cond (Nat.beq L 0) b_M_breathes_0 []) (cond (Nat.beq L 14) b_M_breathes_14 [])) (cond (Nat.blt L 64) (cond (Nat.beq L 37) b_M_breathes_37 []) (cond (Nat.beq L 64) b_M_breathes_64 []))) (cond (Nat.blt L 93) (cond (Nat.blt L 92) (cond (Nat.beq L 75) b_M_breathes_75 []) (cond (Nat.beq L 92) b_M_breathes_92 [])) (cond (Nat.blt L 114) (cond (Nat.beq L 93) b_M_breathes_93 []) (cond (Nat.beq L 114) b_M_breathes_114 [])))) (cond (Nat.blt L 152) (cond (Nat.blt L 135) (cond (Nat.blt L 131) (cond (Nat.beq L 116) b_M_breathes_116 []) (cond (Nat.beq L 131) b_M_breathes_131 [])) (cond (Nat.blt L 151) (cond (Nat.beq L 135) b_M_breathes_135 []) (cond (Nat.beq L 151) b_M_breathes_151 []))) (cond (Nat.blt L 170) (cond (Nat.blt L 169) (cond (Nat.beq L 152) b_M_breathes_152 []) (cond (Nat.beq L 169) b_M_breathes_169 [])) (cond (Nat.blt L 187) (cond (Nat.beq L 170) b_M_breathes_170 []) (cond (Nat.blt L 193) (cond (Nat.beq L 187) b_M_breathes_187 []) (cond (Nat.beq L 193) b_M_breathes_193 [])))))
def b_M_segmentIn_0 : List RI := [(.iconst 0, []), (.istore_n 2, []), (.iload_n 1, []), (.istore_n 3, []), (.nop, [4])]
def b_M_segmentIn_4 : List RI := [(.iload_n 3, []), (.aload_n 0, []), (.bipush 59, []), (.iconst 2, []), (.iload_n 2, []), (.imul, []), (.iadd, []), (.iconst 1, []), (.iadd, []), (.iaload, []), (.if_icmp .lt 22, [37]), (.iload_n 3, []), (.aload_n 0, []), (.bipush 59, []), (.iconst 2, []), (.iload_n 2, []), (.imul, []), (.iadd, []), (.iconst 1, []), (.iadd, []), (.iaload, []), (.isub, []), (.istore_n 3, []), (.iinc 2 1, []), (.goto (-30), [4])]
def b_M_segmentIn_37 : List RI := [(.iload_n 2, []), (.ireturn, [0])]
def p_M_segmentIn (L : Nat) : List RI := cond (Nat.blt L 4) (cond (Nat.beq L 0) b_M_segmentIn_0 []) (cond (Nat.blt L 37) (cond (Nat.beq L 4) b_M_segmentIn_4 []) (cond (Nat.beq L 37) b_M_segmentIn_37 []))
def b_M_breathe_0 : List RI := [(.iload_n 1, []), (.iconst 1, []), (.bipush 20, []), (.invokestatic 46, [87, 3, 0]), (.ifCond .ne 5, [12]), (.iconst (-1), []), (.ireturn, [0])]
def b_M_breathe_12 : List RI := [(.aload_n 0, []), (.getfield 7, [6, 0]), (.iconst 0, []), (.aload_n 0, []), (.getfield 13, [6, 1]), (.iconst 0, []), (.sipush 953, []), (.invokestatic 42, [90, 5, 0]), (.iconst 0, []), (.istore_n 2, []), (.aload_n 0, []), (.aload_n 0, []), (.getfield 13, [6, 1]), (.invokevirtual 129, [124, 2, 16]), (.istore_n 3, []), (.nop, [39])]
def b_M_breathe_39 : List RI := [(.iload_n 3, []), (.bipush 99, []), (.if_icmp .ge 81, [123]), (.aload_n 0, []), (.getfield 13, [6, 1]), (.iload_n 3, []), (.invokestatic 132, [125, 2, 0]), (.istore 4, []), (.iload 4, []), (.ifCond .eq 22, [79]), (.aload_n 0, []), (.getfield 13, [6, 1]), (.bipush 59, []), (.iconst 2, []), (.iload 4, []), (.imul, []), (.iadd, []), (.iconst 2, []), (.isub, []), (.iaload, []), (.bipush 9, []), (.if_icmp .ne 6, [82]), (.nop, [79])]
def b_M_breathe_79 : List RI := [(.bipush (-2), []), (.ireturn, [0])]
def b_M_breathe_82 : List RI := [(.aload_n 0, []), (.getfield 13, [6, 1]), (.iload_n 1, []), (.invokestatic 99, [114, 2, 0]), (.ifCond .ne 6, [96]), (.bipush (-3), []), (.ireturn, [0])]
def b_M_breathe_96 : List RI := [(.aload_n 0, []), (.getfield 13, [6, 1]), (.iload 4, []), (.bipush 9, []), (.iload_n 1, []), (.invokestatic 103, [113, 4, 0]), (.iinc 2 1, []), (.aload_n 0, []), (.aload_n 0, []), (.getfield 13, [6, 1]), (.invokevirtual 129, [124, 2, 16]), (.istore_n 3, []), (.goto (-81), [39])]
def b_M_breathe_123 : List RI := [(.aload_n 0, []), (.invokevirtual 78, [91, 1, 16]), (.aload_n 0, []), (.getfield 13, [6, 1]), (.iconst 0, []), (.aload_n 0, []), (.getfield 7, [6, 0]), (.iconst 0, []), (.sipush 953, []), (.invokestatic 42, [90, 5, 0]), (.iload_n 2, []), (.ireturn, [0])]
def p_M_breathe (L : Nat) : List RI := cond (Nat.blt L 79) (cond (Nat.blt L 12) (cond (Nat.beq L 0) b_M_breathe_0 []) (cond (Nat.blt L 39) (cond (Nat.beq L 12) b_M_breathe_12 []) (cond (Nat.beq L 39) b_M_breathe_39 []))) (cond (Nat.blt L 96) (cond (Nat.blt L 82) (cond (Nat.beq L 79) b_M_breathe_79 []) (cond (Nat.beq L 82) b_M_breathe_82 [])) (cond (Nat.blt L 123) (cond (Nat.beq L 96) b_M_breathe_96 []) (cond (Nat.beq L 123) b_M_breathe_123 [])))
def b_M_take_0 : List RI := [(.iload_n 1, []), (.iconst 0, []), (.iconst 1, []), (.invokestatic 46, [87, 3, 0]), (.ifCond .ne 5, [11]), (.iconst (-1), []), (.ireturn, [0])]
def b_M_take_11 : List RI := [(.aload_n 0, []), (.invokevirtual 78, [91, 1, 16]), (.sipush 317, []), (.sipush 318, []), (.iload_n 1, []), (.imul, []), (.iadd, []), (.istore_n 2, []), (.aload_n 0, []), (.getfield 7, [6, 0]), (.iload_n 2, []), (.iconst 1, []), (.iastore, []), (.aload_n 0, []), (.getfield 7, [6, 0]), (.iconst 0, []), (.aload_n 0, []), (.getfield 7, [6, 0]), (.iload_n 2, []), (.iconst 1, []), (.iadd, []), (.sipush 317, []), (.invokestatic 42, [90, 5, 0]), (.aload_n 0, []), (.invokevirtual 70, [101, 1, 16]), (.ireturn, [0])]
def p_M_take (L : Nat) : List RI := cond (Nat.blt L 11) (cond (Nat.beq L 0) b_M_take_0 []) (cond (Nat.beq L 11) b_M_take_11 [])
def b_M_restore_0 : List RI := [(.iload_n 1, []), (.iconst 0, []), (.iconst 1, []), (.invokestatic 46, [87, 3, 0]), (.ifCond .ne 5, [11]), (.iconst (-1), []), (.ireturn, [0])]
def b_M_restore_11 : List RI := [(.sipush 317, []), (.sipush 318, []), (.iload_n 1, []), (.imul, []), (.iadd, []), (.istore_n 2, []), (.aload_n 0, []), (.getfield 7, [6, 0]), (.iload_n 2, []), (.iaload, []), (.ifCond .ne 6, [33]), (.bipush (-2), []), (.ireturn, [0])]
def b_M_restore_33 : List RI := [(.aload_n 0, []), (.invokevirtual 78, [91, 1, 16]), (.aload_n 0, []), (.getfield 7, [6, 0]), (.iload_n 2, []), (.iconst 1, []), (.iadd, []), (.aload_n 0, []), (.getfield 7, [6, 0]), (.iconst 0, []), (.sipush 317, []), (.invokestatic 42, [90, 5, 0]), (.aload_n 0, []), (.invokevirtual 70, [101, 1, 16]), (.ireturn, [0])]
def p_M_restore (L : Nat) : List RI := cond (Nat.blt L 11) (cond (Nat.beq L 0) b_M_restore_0 []) (cond (Nat.blt L 33) (cond (Nat.beq L 11) b_M_restore_11 []) (cond (Nat.beq L 33) b_M_restore_33 []))
def b_M_undo_0 : List RI := [(.aload_n 0, []), (.getfield 38, [6, 3]), (.ifCond .ne 6, [10]), (.bipush (-2), []), (.ireturn, [0])]
def b_M_undo_10 : List RI := [(.aload_n 0, []), (.dup, []), (.getfield 38, [6, 3]), (.iconst 1, []), (.isub, []), (.putfield 38, [6, 3]), (.aload_n 0, []), (.getfield 16, [6, 2]), (.sipush 953, []), (.aload_n 0, []), (.getfield 38, [6, 3]), (.imul, []), (.aload_n 0, []), (.getfield 7, [6, 0]), (.iconst 0, []), (.sipush 953, []), (.invokestatic 42, [90, 5, 0]), (.aload_n 0, []), (.getfield 38, [6, 3]), (.ireturn, [0])]
def p_M_undo (L : Nat) : List RI := cond (Nat.blt L 10) (cond (Nat.beq L 0) b_M_undo_0 []) (cond (Nat.beq L 10) b_M_undo_10 [])
def b_M_append_0 : List RI := [(.iload_n 1, []), (.iconst 1, []), (.sipush 255, []), (.invokestatic 46, [87, 3, 0]), (.ifCond .ne 5, [13]), (.iconst (-1), []), (.ireturn, [0])]
def b_M_append_13 : List RI := [(.aload_n 0, []), (.getfield 136, [6, 5]), (.bipush 120, []), (.if_icmp .ne 6, [25]), (.bipush (-3), []), (.ireturn, [0])]
def b_M_append_25 : List RI := [(.aload_n 0, []), (.getfield 19, [6, 4]), (.aload_n 0, []), (.getfield 136, [6, 5]), (.iload_n 1, []), (.iastore, []), (.aload_n 0, []), (.dup, []), (.getfield 136, [6, 5]), (.iconst 1, []), (.iadd, []), (.putfield 136, [6, 5]), (.aload_n 0, []), (.getfield 136, [6, 5]), (.ireturn, [0])]
def p_M_append (L : Nat) : List RI := cond (Nat.blt L 13) (cond (Nat.beq L 0) b_M_append_0 []) (cond (Nat.blt L 25) (cond (Nat.beq L 13) b_M_append_13 []) (cond (Nat.beq L 25) b_M_append_25 []))
def b_M_clearText_0 : List RI := [(.aload_n 0, []), (.getfield 136, [6, 5]), (.istore_n 1, []), (.aload_n 0, []), (.iconst 0, []), (.putfield 136, [6, 5]), (.iload_n 1, []), (.ireturn, [0])]
def p_M_clearText (L : Nat) : List RI := cond (Nat.beq L 0) b_M_clearText_0 []
def b_M_here_0 : List RI := [(.aload_n 0, []), (.getfield 139, [6, 8]), (.aload_n 0, []), (.getfield 136, [6, 5]), (.if_icmp .ge 15, [23]), (.aload_n 0, []), (.getfield 19, [6, 4]), (.aload_n 0, []), (.getfield 139, [6, 8]), (.iaload, []), (.goto 4, [24])]
def b_M_here_23 : List RI := [(.iconst 0, []), (.nop, [24])]
def b_M_here_24 : List RI := [(.ireturn, [0])]
def p_M_here (L : Nat) : List RI := cond (Nat.blt L 23) (cond (Nat.beq L 0) b_M_here_0 []) (cond (Nat.blt L 24) (cond (Nat.beq L 23) b_M_here_23 []) (cond (Nat.beq L 24) b_M_here_24 []))
def b_M_overSpaces_0 : List RI := [(.aload_n 0, []), (.invokevirtual 142, [132, 1, 16]), (.bipush 32, []), (.if_icmp .ne 16, [22]), (.aload_n 0, []), (.dup, []), (.getfield 139, [6, 8]), (.iconst 1, []), (.iadd, []), (.putfield 139, [6, 8]), (.goto (-19), [0])]
def b_M_overSpaces_22 : List RI := [(.return_, [])]
def p_M_overSpaces (L : Nat) : List RI := cond (Nat.blt L 22) (cond (Nat.beq L 0) b_M_overSpaces_0 []) (cond (Nat.beq L 22) b_M_overSpaces_22 [])
def b_M_readNumber_0 : List RI := [(.aload_n 0, []), (.invokevirtual 145, [133, 1, 16]), (.aload_n 0, []), (.getfield 139, [6, 8]), (.istore_n 3, []), (.aload_n 0, []), (.iconst 0, []), (.putfield 148, [6, 9]), (.nop, [14])]
def b_M_readNumber_14 : List RI := [(.aload_n 0, []), (.invokevirtual 142, [132, 1, 16]), (.bipush 48, []), (.bipush 57, []), (.invokestatic 46, [87, 3, 0]), (.ifCond .eq 52, [77]), (.aload_n 0, []), (.aload_n 0, []), (.getfield 148, [6, 9]), (.sipush 999, []), (.if_icmp .le 10, [46]), (.aload_n 0, []), (.getfield 148, [6, 9]), (.goto 18, [61])]
def b_M_readNumber_46 : List RI := [(.bipush 10, []), (.aload_n 0, []), (.getfield 148, [6, 9]), (.imul, []), (.aload_n 0, []), (.invokevirtual 142, [132, 1, 16]), (.iadd, []), (.bipush 48, []), (.isub, []), (.nop, [61])]
def b_M_readNumber_61 : List RI := [(.putfield 148, [6, 9]), (.aload_n 0, []), (.dup, []), (.getfield 139, [6, 8]), (.iconst 1, []), (.iadd, []), (.putfield 139, [6, 8]), (.goto (-60), [14])]
def b_M_readNumber_77 : List RI := [(.aload_n 0, []), (.getfield 139, [6, 8]), (.iload_n 3, []), (.if_icmp .le 40, [122]), (.aload_n 0, []), (.getfield 148, [6, 9]), (.iload_n 1, []), (.iload_n 2, []), (.invokestatic 46, [87, 3, 0]), (.ifCond .eq 28, [122]), (.aload_n 0, []), (.getfield 19, [6, 4]), (.iload_n 3, []), (.iaload, []), (.bipush 48, []), (.if_icmp .ne 13, [118]), (.aload_n 0, []), (.getfield 139, [6, 8]), (.iload_n 3, []), (.iconst 1, []), (.iadd, []), (.if_icmp .ne 7, [122]), (.nop, [118])]
def b_M_readNumber_118 : List RI := [(.iconst 1, []), (.goto 4, [123])]
def b_M_readNumber_122 : List RI := [(.iconst 0, []), (.nop, [123])]
def b_M_readNumber_123 : List RI := [(.istore 4, []), (.aload_n 0, []), (.iload 4, []), (.ifCond .eq 10, [138]), (.aload_n 0, []), (.getfield 139, [6, 8]), (.goto 4, [139])]
def b_M_readNumber_138 : List RI := [(.iload_n 3, []), (.nop, [139])]
def b_M_readNumber_139 : List RI := [(.putfield 139, [6, 8]), (.iload 4, []), (.ireturn, [1])]
def p_M_readNumber (L : Nat) : List RI := cond (Nat.blt L 118) (cond (Nat.blt L 46) (cond (Nat.blt L 14) (cond (Nat.beq L 0) b_M_readNumber_0 []) (cond (Nat.beq L 14) b_M_readNumber_14 [])) (cond (Nat.blt L 61) (cond (Nat.beq L 46) b_M_readNumber_46 []) (cond (Nat.blt L 77) (cond (Nat.beq L 61) b_M_readNumber_61 []) (cond (Nat.beq L 77) b_M_readNumber_77 [])))) (cond (Nat.blt L 123) (cond (Nat.blt L 122) (cond (Nat.beq L 118) b_M_readNumber_118 []) (cond (Nat.beq L 122) b_M_readNumber_122 [])) (cond (Nat.blt L 138) (cond (Nat.beq L 123) b_M_readNumber_123 []) (cond (Nat.blt L 139) (cond (Nat.beq L 138) b_M_readNumber_138 []) (cond (Nat.beq L 139) b_M_readNumber_139 []))))
def b_M_readItem_0 : List RI := [(.aload_n 0, []), (.invokevirtual 142, [132, 1, 16]), (.istore_n 1, []), (.iload_n 1, []), (.bipush 46, []), (.if_icmp .eq 14, [22]), (.iload_n 1, []), (.bipush 97, []), (.bipush 105, []), (.invokestatic 46, [87, 3, 0]), (.ifCond .eq 7, [26]), (.nop, [22])]
def b_M_readItem_22 : List RI := [(.iconst 1, []), (.goto 4, [27])]
def b_M_readItem_26 : List RI := [(.iconst 0, []), (.nop, [27])]
def b_M_readItem_27 : List RI := [(.istore_n 2, []), (.iload_n 2, []), (.ifCond .eq 15, [44]), (.aload_n 0, []), (.getfield 13, [6, 1]), (.bipush 58, []), (.iaload, []), (.bipush 30, []), (.if_icmp .ne 5, [46]), (.nop, [44])]
def b_M_readItem_44 : List RI := [(.iconst 0, []), (.ireturn, [1])]
def b_M_readItem_46 : List RI := [(.aload_n 0, []), (.dup, []), (.getfield 139, [6, 8]), (.iconst 1, []), (.iadd, []), (.putfield 139, [6, 8]), (.bipush 99, []), (.aload_n 0, []), (.getfield 13, [6, 1]), (.invokestatic 91, [112, 1, 0]), (.isub, []), (.istore_n 3, []), (.aload_n 0, []), (.iconst 1, []), (.iload_n 3, []), (.bipush 20, []), (.if_icmp .ge 7, [79]), (.iload_n 3, []), (.goto 5, [81])]
def b_M_readItem_79 : List RI := [(.bipush 20, []), (.nop, [81])]
def b_M_readItem_81 : List RI := [(.invokevirtual 151, [134, 3, 16]), (.ifCond .ne 5, [89]), (.iconst 0, []), (.ireturn, [1])]
def b_M_readItem_89 : List RI := [(.aload_n 0, []), (.getfield 13, [6, 1]), (.invokestatic 91, [112, 1, 0]), (.istore 4, []), (.aload_n 0, []), (.getfield 13, [6, 1]), (.aload_n 0, []), (.getfield 13, [6, 1]), (.bipush 58, []), (.iaload, []), (.iload_n 1, []), (.bipush 46, []), (.if_icmp .ne 8, [120]), (.bipush 9, []), (.goto 7, [124])]
def b_M_readItem_120 : List RI := [(.iload_n 1, []), (.bipush 97, []), (.isub, []), (.nop, [124])]
def b_M_readItem_124 : List RI := [(.aload_n 0, []), (.getfield 148, [6, 9]), (.invokestatic 103, [113, 4, 0]), (.aload_n 0, []), (.invokevirtual 145, [133, 1, 16]), (.aload_n 0, []), (.invokevirtual 142, [132, 1, 16]), (.bipush 33, []), (.if_icmp .eq 5, [146]), (.iconst 1, []), (.ireturn, [1])]
def b_M_readItem_146 : List RI := [(.aload_n 0, []), (.dup, []), (.getfield 139, [6, 8]), (.iconst 1, []), (.iadd, []), (.putfield 139, [6, 8]), (.aload_n 0, []), (.iconst 0, []), (.aload_n 0, []), (.getfield 13, [6, 1]), (.iconst 0, []), (.iaload, []), (.iconst 1, []), (.isub, []), (.invokevirtual 151, [134, 3, 16]), (.ifCond .ne 5, [174]), (.iconst 0, []), (.ireturn, [1])]
def b_M_readItem_174 : List RI := [(.aload_n 0, []), (.getfield 13, [6, 1]), (.bipush 119, []), (.iload 4, []), (.iadd, []), (.aload_n 0, []), (.getfield 148, [6, 9]), (.iastore, []), (.iconst 1, []), (.ireturn, [1])]
def p_M_readItem (L : Nat) : List RI := cond (Nat.blt L 79) (cond (Nat.blt L 27) (cond (Nat.blt L 22) (cond (Nat.beq L 0) b_M_readItem_0 []) (cond (Nat.blt L 26) (cond (Nat.beq L 22) b_M_readItem_22 []) (cond (Nat.beq L 26) b_M_readItem_26 []))) (cond (Nat.blt L 44) (cond (Nat.beq L 27) b_M_readItem_27 []) (cond (Nat.blt L 46) (cond (Nat.beq L 44) b_M_readItem_44 []) (cond (Nat.beq L 46) b_M_readItem_46 [])))) (cond (Nat.blt L 120) (cond (Nat.blt L 81) (cond (Nat.beq L 79) b_M_readItem_79 []) (cond (Nat.blt L 89) (cond (Nat.beq L 81) b_M_readItem_81 []) (cond (Nat.beq L 89) b_M_readItem_89 []))) (cond (Nat.blt L 146) (cond (Nat.blt L 124) (cond (Nat.beq L 120) b_M_readItem_120 []) (cond (Nat.beq L 124) b_M_readItem_124 [])) (cond (Nat.blt L 174) (cond (Nat.beq L 146) b_M_readItem_146 []) (cond (Nat.beq L 174) b_M_readItem_174 []))))
def b_M_load_0 : List RI := [(.aload_n 0, []), (.getfield 7, [6, 0]), (.iconst 0, []), (.aload_n 0, []), (.getfield 13, [6, 1]), (.iconst 0, []), (.sipush 953, []), (.invokestatic 42, [90, 5, 0]), (.aload_n 0, []), (.iconst 0, []), (.putfield 139, [6, 8]), (.iconst 0, []), (.istore_n 1, []), (.aload_n 0, []), (.invokevirtual 145, [133, 1, 16]), (.nop, [27])]
def b_M_load_27 : List RI := [(.aload_n 0, []), (.getfield 139, [6, 8]), (.aload_n 0, []), (.getfield 136, [6, 5]), (.if_icmp .ge 29, [64]), (.aload_n 0, []), (.invokevirtual 154, [135, 1, 16]), (.ifCond .ne 12, [54]), (.sipush (-1000), []), (.aload_n 0, []), (.getfield 139, [6, 8]), (.isub, []), (.ireturn, [0])]
def b_M_load_54 : List RI := [(.iinc 1 1, []), (.aload_n 0, []), (.invokevirtual 145, [133, 1, 16]), (.goto (-34), [27])]
def b_M_load_64 : List RI := [(.aload_n 0, []), (.invokevirtual 78, [91, 1, 16]), (.aload_n 0, []), (.getfield 13, [6, 1]), (.iconst 0, []), (.aload_n 0, []), (.getfield 7, [6, 0]), (.iconst 0, []), (.sipush 953, []), (.invokestatic 42, [90, 5, 0]), (.aload_n 0, []), (.iconst 0, []), (.putfield 136, [6, 5]), (.iload_n 1, []), (.ireturn, [0])]
def p_M_load (L : Nat) : List RI := cond (Nat.blt L 54) (cond (Nat.blt L 27) (cond (Nat.beq L 0) b_M_load_0 []) (cond (Nat.beq L 27) b_M_load_27 [])) (cond (Nat.blt L 64) (cond (Nat.beq L 54) b_M_load_54 []) (cond (Nat.beq L 64) b_M_load_64 []))
def b_M_layKinds_0 : List RI := [(.iconst 0, []), (.istore_n 1, []), (.iconst 0, []), (.istore_n 2, []), (.nop, [4])]
def b_M_layKinds_4 : List RI := [(.iload_n 2, []), (.aload_n 0, []), (.getfield 7, [6, 0]), (.bipush 58, []), (.iaload, []), (.if_icmp .ge 40, [52]), (.iconst 0, []), (.istore_n 3, []), (.nop, [17])]
def b_M_layKinds_17 : List RI := [(.iload_n 3, []), (.aload_n 0, []), (.iload_n 2, []), (.invokevirtual 64, [98, 2, 16]), (.if_icmp .ge 23, [46]), (.aload_n 0, []), (.getfield 35, [6, 12]), (.iload_n 1, []), (.aload_n 0, []), (.iload_n 2, []), (.invokevirtual 158, [97, 2, 16]), (.iastore, []), (.iinc 1 1, []), (.iinc 3 1, []), (.goto (-26), [17])]
def b_M_layKinds_46 : List RI := [(.iinc 2 1, []), (.goto (-45), [4])]
def b_M_layKinds_52 : List RI := [(.return_, [])]
def p_M_layKinds (L : Nat) : List RI := cond (Nat.blt L 17) (cond (Nat.blt L 4) (cond (Nat.beq L 0) b_M_layKinds_0 []) (cond (Nat.beq L 4) b_M_layKinds_4 [])) (cond (Nat.blt L 46) (cond (Nat.beq L 17) b_M_layKinds_17 []) (cond (Nat.blt L 52) (cond (Nat.beq L 46) b_M_layKinds_46 []) (cond (Nat.beq L 52) b_M_layKinds_52 [])))
def b_M_wrongBy_0 : List RI := [(.iload_n 1, []), (.bipush 9, []), (.if_icmp .ne 35, [38]), (.aload_n 0, []), (.iload_n 2, []), (.invokevirtual 50, [94, 2, 16]), (.aload_n 0, []), (.iconst 2, []), (.invokevirtual 88, [99, 2, 16]), (.if_icmp .le 7, [23]), (.iconst 0, []), (.goto 17, [37])]
def b_M_wrongBy_23 : List RI := [(.bipush 9, []), (.aload_n 0, []), (.iconst 2, []), (.invokevirtual 88, [99, 2, 16]), (.aload_n 0, []), (.iload_n 2, []), (.invokevirtual 50, [94, 2, 16]), (.isub, []), (.imul, []), (.nop, [37])]
def b_M_wrongBy_37 : List RI := [(.ireturn, [0])]
def b_M_wrongBy_38 : List RI := [(.bipush 17, []), (.iconst 4, []), (.iload_n 1, []), (.imul, []), (.iadd, []), (.istore_n 3, []), (.aload_n 0, []), (.getfield 7, [6, 0]), (.iload_n 3, []), (.iconst 2, []), (.iadd, []), (.iaload, []), (.aload_n 0, []), (.iload_n 2, []), (.invokevirtual 50, [94, 2, 16]), (.aload_n 0, []), (.getfield 7, [6, 0]), (.iload_n 3, []), (.iaload, []), (.invokestatic 54, [88, 2, 0]), (.aload_n 0, []), (.iload_n 2, []), (.invokevirtual 58, [95, 2, 16]), (.aload_n 0, []), (.getfield 7, [6, 0]), (.iload_n 3, []), (.iconst 1, []), (.iadd, []), (.iaload, []), (.invokestatic 54, [88, 2, 0]), (.iadd, []), (.imul, []), (.ireturn, [0])]
def p_M_wrongBy (L : Nat) : List RI := cond (Nat.blt L 37) (cond (Nat.blt L 23) (cond (Nat.beq L 0) b_M_wrongBy_0 []) (cond (Nat.beq L 23) b_M_wrongBy_23 [])) (cond (Nat.blt L 38) (cond (Nat.beq L 37) b_M_wrongBy_37 []) (cond (Nat.beq L 38) b_M_wrongBy_38 []))
def b_M_cellOf_0 : List RI := [(.bipush 24, []), (.iload_n 0, []), (.imul, []), (.iconst 3, []), (.iload_n 1, []), (.imul, []), (.iadd, []), (.iload_n 2, []), (.iadd, []), (.iconst 1, []), (.isub, []), (.ireturn, [0])]
def p_M_cellOf (L : Nat) : List RI := cond (Nat.beq L 0) b_M_cellOf_0 []
def b_M_behind_0 : List RI := [(.iload_n 1, []), (.iload 4, []), (.iconst 1, []), (.isub, []), (.if_icmp .ne 5, [10]), (.iconst 0, []), (.ireturn, [0])]
def b_M_behind_10 : List RI := [(.aload_n 0, []), (.iconst 1, []), (.invokevirtual 88, [99, 2, 16]), (.istore 6, []), (.aload_n 0, []), (.getfield 29, [6, 10]), (.iload_n 1, []), (.iconst 1, []), (.iadd, []), (.iload_n 2, []), (.iload_n 3, []), (.iload 6, []), (.if_icmp .ge 9, [37]), (.iload_n 3, []), (.iconst 1, []), (.iadd, []), (.goto 5, [39])]
def b_M_behind_37 : List RI := [(.iload 6, []), (.nop, [39])]
def b_M_behind_39 : List RI := [(.invokestatic 161, [139, 3, 0]), (.iaload, []), (.istore 7, []), (.iconst 0, []), (.istore 8, []), (.nop, [48])]
def b_M_behind_48 : List RI := [(.iload 8, []), (.aload_n 0, []), (.getfield 7, [6, 0]), (.iconst 0, []), (.iaload, []), (.if_icmp .ge 70, [126]), (.iload_n 3, []), (.iload 6, []), (.if_icmp .ne 64, [126]), (.iload 8, []), (.iload_n 2, []), (.if_icmp .eq 32, [100]), (.aload_n 0, []), (.iload_n 2, []), (.iload 8, []), (.invokevirtual 120, [96, 3, 16]), (.iload 5, []), (.if_icmp .gt 20, [100]), (.aload_n 0, []), (.getfield 29, [6, 10]), (.iload_n 1, []), (.iconst 1, []), (.iadd, []), (.iload 8, []), (.iconst 1, []), (.invokestatic 161, [139, 3, 0]), (.iaload, []), (.goto 5, [102])]
def b_M_behind_100 : List RI := [(.ldc 119, [1000000]), (.nop, [102])]
def b_M_behind_102 : List RI := [(.istore 9, []), (.iload 9, []), (.iload 7, []), (.if_icmp .ge 8, [116]), (.iload 9, []), (.goto 5, [118])]
def b_M_behind_116 : List RI := [(.iload 7, []), (.nop, [118])]
def b_M_behind_118 : List RI := [(.istore 7, []), (.iinc 8 1, []), (.goto (-75), [48])]
def b_M_behind_126 : List RI := [(.iload 7, []), (.ireturn, [0])]
def p_M_behind (L : Nat) : List RI := cond (Nat.blt L 100) (cond (Nat.blt L 37) (cond (Nat.blt L 10) (cond (Nat.beq L 0) b_M_behind_0 []) (cond (Nat.beq L 10) b_M_behind_10 [])) (cond (Nat.blt L 39) (cond (Nat.beq L 37) b_M_behind_37 []) (cond (Nat.blt L 48) (cond (Nat.beq L 39) b_M_behind_39 []) (cond (Nat.beq L 48) b_M_behind_48 [])))) (cond (Nat.blt L 116) (cond (Nat.blt L 102) (cond (Nat.beq L 100) b_M_behind_100 []) (cond (Nat.beq L 102) b_M_behind_102 [])) (cond (Nat.blt L 118) (cond (Nat.beq L 116) b_M_behind_116 []) (cond (Nat.blt L 126) (cond (Nat.beq L 118) b_M_behind_118 []) (cond (Nat.beq L 126) b_M_behind_126 []))))
def b_M_findPlan_0 : List RI := [(.aload_n 0, []), (.invokevirtual 164, [137, 1, 16]), (.aload_n 0, []), (.invokevirtual 70, [101, 1, 16]), (.istore 4, []), (.iload 4, []), (.iconst 1, []), (.isub, []), (.istore 5, []), (.nop, [16])]
def b_M_findPlan_16 : List RI := [(.iload 5, []), (.ifCond .lt 166, [184]), (.iconst 0, []), (.istore 6, []), (.nop, [24])]
def b_M_findPlan_24 : List RI := [(.iload 6, []), (.aload_n 0, []), (.getfield 7, [6, 0]), (.iconst 0, []), (.iaload, []), (.if_icmp .ge 146, [178]), (.aload_n 0, []), (.getfield 7, [6, 0]), (.bipush 119, []), (.iload 5, []), (.iadd, []), (.iaload, []), (.ifCond .lt 18, [63]), (.aload_n 0, []), (.getfield 7, [6, 0]), (.bipush 119, []), (.iload 5, []), (.iadd, []), (.iaload, []), (.iload 6, []), (.if_icmp .ne 19, [79]), (.nop, [63])]
def b_M_findPlan_63 : List RI := [(.iload 5, []), (.iload_n 2, []), (.if_icmp .ne 9, [75]), (.iload 6, []), (.iload_n 3, []), (.if_icmp .ne 7, [79]), (.nop, [75])]
def b_M_findPlan_75 : List RI := [(.iconst 1, []), (.goto 4, [80])]
def b_M_findPlan_79 : List RI := [(.iconst 0, []), (.nop, [80])]
def b_M_findPlan_80 : List RI := [(.istore 7, []), (.aload_n 0, []), (.aload_n 0, []), (.getfield 35, [6, 12]), (.iload 5, []), (.iaload, []), (.iload 6, []), (.invokevirtual 167, [138, 3, 16]), (.istore 8, []), (.iconst 1, []), (.istore 9, []), (.nop, [100])]
def b_M_findPlan_100 : List RI := [(.iload 9, []), (.aload_n 0, []), (.iconst 1, []), (.invokevirtual 88, [99, 2, 16]), (.if_icmp .gt 65, [172]), (.iload 7, []), (.ifCond .eq 22, [134]), (.iload 8, []), (.aload_n 0, []), (.iload 5, []), (.iload 6, []), (.iload 9, []), (.iload 4, []), (.iload_n 1, []), (.invokevirtual 170, [140, 6, 16]), (.iadd, []), (.goto 5, [136])]
def b_M_findPlan_134 : List RI := [(.ldc 119, [1000000]), (.nop, [136])]
def b_M_findPlan_136 : List RI := [(.istore 10, []), (.aload_n 0, []), (.getfield 29, [6, 10]), (.iload 5, []), (.iload 6, []), (.iload 9, []), (.invokestatic 161, [139, 3, 0]), (.iload 10, []), (.ldc 119, [1000000]), (.if_icmp .ge 8, [163]), (.iload 10, []), (.goto 5, [165])]
def b_M_findPlan_163 : List RI := [(.ldc 119, [1000000]), (.nop, [165])]
def b_M_findPlan_165 : List RI := [(.iastore, []), (.iinc 9 1, []), (.goto (-69), [100])]
def b_M_findPlan_172 : List RI := [(.iinc 6 1, []), (.goto (-151), [24])]
def b_M_findPlan_178 : List RI := [(.iinc 5 (-1), []), (.goto (-165), [16])]
def b_M_findPlan_184 : List RI := [(.iload 4, []), (.ifCond .ne 7, [193]), (.iconst 0, []), (.goto 10, [200])]
def b_M_findPlan_193 : List RI := [(.aload_n 0, []), (.iload 4, []), (.iload_n 1, []), (.invokevirtual 174, [142, 3, 16]), (.nop, [200])]
def b_M_findPlan_200 : List RI := [(.ireturn, [0])]
def p_M_findPlan (L : Nat) : List RI := cond (Nat.blt L 134) (cond (Nat.blt L 75) (cond (Nat.blt L 24) (cond (Nat.blt L 16) (cond (Nat.beq L 0) b_M_findPlan_0 []) (cond (Nat.beq L 16) b_M_findPlan_16 [])) (cond (Nat.blt L 63) (cond (Nat.beq L 24) b_M_findPlan_24 []) (cond (Nat.beq L 63) b_M_findPlan_63 []))) (cond (Nat.blt L 80) (cond (Nat.blt L 79) (cond (Nat.beq L 75) b_M_findPlan_75 []) (cond (Nat.beq L 79) b_M_findPlan_79 [])) (cond (Nat.blt L 100) (cond (Nat.beq L 80) b_M_findPlan_80 []) (cond (Nat.beq L 100) b_M_findPlan_100 [])))) (cond (Nat.blt L 172) (cond (Nat.blt L 163) (cond (Nat.blt L 136) (cond (Nat.beq L 134) b_M_findPlan_134 []) (cond (Nat.beq L 136) b_M_findPlan_136 [])) (cond (Nat.blt L 165) (cond (Nat.beq L 163) b_M_findPlan_163 []) (cond (Nat.beq L 165) b_M_findPlan_165 []))) (cond (Nat.blt L 184) (cond (Nat.blt L 178) (cond (Nat.beq L 172) b_M_findPlan_172 []) (cond (Nat.beq L 178) b_M_findPlan_178 [])) (cond (Nat.blt L 193) (cond (Nat.beq L 184) b_M_findPlan_184 []) (cond (Nat.blt L 200) (cond (Nat.beq L 193) b_M_findPlan_193 []) (cond (Nat.beq L 200) b_M_findPlan_200 [])))))
def b_M_lays_0 : List RI := [(.aload_n 0, []), (.iconst 1, []), (.invokevirtual 88, [99, 2, 16]), (.istore_n 3, []), (.ldc 119, [1000000]), (.istore 4, []), (.aload_n 0, []), (.getfield 7, [6, 0]), (.iconst 0, []), (.iaload, []), (.iconst 1, []), (.isub, []), (.istore 5, []), (.nop, [20])]
def b_M_lays_20 : List RI := [(.iload 5, []), (.ifCond .lt 63, [85]), (.aload_n 0, []), (.getfield 29, [6, 10]), (.iconst 0, []), (.iload 5, []), (.iconst 1, []), (.invokestatic 161, [139, 3, 0]), (.iaload, []), (.istore 6, []), (.aload_n 0, []), (.getfield 32, [6, 11]), (.iconst 0, []), (.iload 6, []), (.iload 4, []), (.if_icmp .gt 8, [56]), (.iload 5, []), (.goto 9, [62])]
def b_M_lays_56 : List RI := [(.aload_n 0, []), (.getfield 32, [6, 11]), (.iconst 0, []), (.iaload, []), (.nop, [62])]
def b_M_lays_62 : List RI := [(.iastore, []), (.iload 6, []), (.iload 4, []), (.if_icmp .gt 8, [75]), (.iload 6, []), (.goto 5, [77])]
def b_M_lays_75 : List RI := [(.iload 4, []), (.nop, [77])]
def b_M_lays_77 : List RI := [(.istore 4, []), (.iinc 5 (-1), []), (.goto (-62), [20])]
def b_M_lays_85 : List RI := [(.iload 4, []), (.ldc 119, [1000000]), (.if_icmp .ne 6, [95]), (.bipush (-99), []), (.ireturn, [0])]
def b_M_lays_95 : List RI := [(.iconst 1, []), (.istore 5, []), (.iconst 1, []), (.istore 6, []), (.nop, [101])]
def b_M_lays_101 : List RI := [(.iload 6, []), (.iload_n 1, []), (.if_icmp .ge 204, [308]), (.aload_n 0, []), (.getfield 32, [6, 11]), (.iload 6, []), (.iconst 1, []), (.isub, []), (.iaload, []), (.istore 7, []), (.aload_n 0, []), (.iload 6, []), (.iconst 1, []), (.isub, []), (.iload 7, []), (.iload 5, []), (.iload_n 1, []), (.iload_n 2, []), (.invokevirtual 170, [140, 6, 16]), (.istore 8, []), (.bipush (-99), []), (.istore 9, []), (.aload_n 0, []), (.getfield 7, [6, 0]), (.iconst 0, []), (.iaload, []), (.iconst 1, []), (.isub, []), (.istore 10, []), (.nop, [148])]
def b_M_lays_148 : List RI := [(.iload 10, []), (.ifCond .lt 116, [266]), (.iload 10, []), (.iload 7, []), (.if_icmp .ne 7, [164]), (.iconst 1, []), (.goto 4, [165])]
def b_M_lays_164 : List RI := [(.iconst 0, []), (.nop, [165])]
def b_M_lays_165 : List RI := [(.istore 11, []), (.iload 11, []), (.ifCond .ne 21, [190]), (.iload 5, []), (.iload_n 3, []), (.if_icmp .ne 19, [194]), (.aload_n 0, []), (.iload 7, []), (.iload 10, []), (.invokevirtual 120, [96, 3, 16]), (.iload_n 2, []), (.if_icmp .gt 7, [194]), (.nop, [190])]
def b_M_lays_190 : List RI := [(.iconst 1, []), (.goto 4, [195])]
def b_M_lays_194 : List RI := [(.iconst 0, []), (.nop, [195])]
def b_M_lays_195 : List RI := [(.istore 12, []), (.iload 11, []), (.ifCond .eq 16, [215]), (.iload 5, []), (.iload_n 3, []), (.if_icmp .ge 10, [215]), (.iload 5, []), (.iconst 1, []), (.iadd, []), (.goto 13, [225])]
def b_M_lays_215 : List RI := [(.iload 11, []), (.ifCond .eq 7, [224]), (.iload_n 3, []), (.goto 4, [225])]
def b_M_lays_224 : List RI := [(.iconst 1, []), (.nop, [225])]
def b_M_lays_225 : List RI := [(.istore 13, []), (.iload 12, []), (.ifCond .eq 27, [256]), (.aload_n 0, []), (.getfield 29, [6, 10]), (.iload 6, []), (.iload 10, []), (.iload 13, []), (.invokestatic 161, [139, 3, 0]), (.iaload, []), (.iload 8, []), (.if_icmp .ne 8, [256]), (.iload 10, []), (.goto 5, [258])]
def b_M_lays_256 : List RI := [(.iload 9, []), (.nop, [258])]
def b_M_lays_258 : List RI := [(.istore 9, []), (.iinc 10 (-1), []), (.goto (-115), [148])]
def b_M_lays_266 : List RI := [(.iload 9, []), (.iload 7, []), (.if_icmp .eq 7, [277]), (.iconst 1, []), (.goto 17, [291])]
def b_M_lays_277 : List RI := [(.iload 5, []), (.iload_n 3, []), (.if_icmp .ge 10, [290]), (.iload 5, []), (.iconst 1, []), (.iadd, []), (.goto 4, [291])]
def b_M_lays_290 : List RI := [(.iload_n 3, []), (.nop, [291])]
def b_M_lays_291 : List RI := [(.istore 5, []), (.aload_n 0, []), (.getfield 32, [6, 11]), (.iload 6, []), (.iload 9, []), (.iastore, []), (.iinc 6 1, []), (.goto (-204), [101])]
def b_M_lays_308 : List RI := [(.iload 4, []), (.ireturn, [0])]
def p_M_lays (L : Nat) : List RI := cond (Nat.blt L 190) (cond (Nat.blt L 85) (cond (Nat.blt L 62) (cond (Nat.blt L 20) (cond (Nat.beq L 0) b_M_lays_0 []) (cond (Nat.blt L 56) (cond (Nat.beq L 20) b_M_lays_20 []) (cond (Nat.beq L 56) b_M_lays_56 []))) (cond (Nat.blt L 75) (cond (Nat.beq L 62) b_M_lays_62 []) (cond (Nat.blt L 77) (cond (Nat.beq L 75) b_M_lays_75 []) (cond (Nat.beq L 77) b_M_lays_77 [])))) (cond (Nat.blt L 148) (cond (Nat.blt L 95) (cond (Nat.beq L 85) b_M_lays_85 []) (cond (Nat.blt L 101) (cond (Nat.beq L 95) b_M_lays_95 []) (cond (Nat.beq L 101) b_M_lays_101 []))) (cond (Nat.blt L 164) (cond (Nat.beq L 148) b_M_lays_148 []) (cond (Nat.blt L 165) (cond (Nat.beq L 164) b_M_lays_164 []) (cond (Nat.beq L 165) b_M_lays_165 []))))) (cond (Nat.blt L 256) (cond (Nat.blt L 215) (cond (Nat.blt L 194) (cond (Nat.beq L 190) b_M_lays_190 []) (cond (Nat.blt L 195) (cond (Nat.beq L 194) b_M_lays_194 []) (cond (Nat.beq L 195) b_M_lays_195 []))) (cond (Nat.blt L 224) (cond (Nat.beq L 215) b_M_lays_215 []) (cond (Nat.blt L 225) (cond (Nat.beq L 224) b_M_lays_224 []) (cond (Nat.beq L 225) b_M_lays_225 [])))) (cond (Nat.blt L 277) (cond (Nat.blt L 258) (cond (Nat.beq L 256) b_M_lays_256 []) (cond (Nat.blt L 266) (cond (Nat.beq L 258) b_M_lays_258 []) (cond (Nat.beq L 266) b_M_lays_266 []))) (cond (Nat.blt L 291) (cond (Nat.blt L 290) (cond (Nat.beq L 277) b_M_lays_277 []) (cond (Nat.beq L 290) b_M_lays_290 [])) (cond (Nat.blt L 308) (cond (Nat.beq L 291) b_M_lays_291 []) (cond (Nat.beq L 308) b_M_lays_308 [])))))
def b_M_manyOf_0 : List RI := [(.iconst 0, []), (.istore_n 2, []), (.iconst 0, []), (.istore_n 3, []), (.nop, [4])]
def b_M_manyOf_4 : List RI := [(.iload_n 3, []), (.aload_n 0, []), (.invokevirtual 70, [101, 1, 16]), (.if_icmp .ge 28, [37]), (.iload_n 2, []), (.aload_n 0, []), (.getfield 7, [6, 0]), (.iload_n 1, []), (.iload_n 3, []), (.iadd, []), (.iaload, []), (.ifCond .ge 7, [28]), (.iconst 0, []), (.goto 4, [29])]
def b_M_manyOf_28 : List RI := [(.iconst 1, []), (.nop, [29])]
def b_M_manyOf_29 : List RI := [(.iadd, []), (.istore_n 2, []), (.iinc 3 1, []), (.goto (-30), [4])]
def b_M_manyOf_37 : List RI := [(.iload_n 2, []), (.ireturn, [0])]
def p_M_manyOf (L : Nat) : List RI := cond (Nat.blt L 28) (cond (Nat.blt L 4) (cond (Nat.beq L 0) b_M_manyOf_0 []) (cond (Nat.beq L 4) b_M_manyOf_4 [])) (cond (Nat.blt L 29) (cond (Nat.beq L 28) b_M_manyOf_28 []) (cond (Nat.blt L 37) (cond (Nat.beq L 29) b_M_manyOf_29 []) (cond (Nat.beq L 37) b_M_manyOf_37 [])))
def b_M_manyGasps_0 : List RI := [(.aload_n 0, []), (.aload_n 0, []), (.getfield 7, [6, 0]), (.invokevirtual 129, [124, 2, 16]), (.istore_n 1, []), (.iconst 0, []), (.istore_n 2, []), (.iload_n 1, []), (.istore_n 3, []), (.nop, [13])]
def b_M_manyGasps_13 : List RI := [(.iload_n 3, []), (.aload_n 0, []), (.invokevirtual 70, [101, 1, 16]), (.if_icmp .ge 26, [44]), (.iload_n 2, []), (.aload_n 0, []), (.getfield 25, [6, 7]), (.iload_n 3, []), (.baload, []), (.ifCond .eq 7, [35]), (.iconst 1, []), (.goto 4, [36])]
def b_M_manyGasps_35 : List RI := [(.iconst 0, []), (.nop, [36])]
def b_M_manyGasps_36 : List RI := [(.iadd, []), (.istore_n 2, []), (.iinc 3 1, []), (.goto (-28), [13])]
def b_M_manyGasps_44 : List RI := [(.iload_n 2, []), (.ireturn, [0])]
def p_M_manyGasps (L : Nat) : List RI := cond (Nat.blt L 35) (cond (Nat.blt L 13) (cond (Nat.beq L 0) b_M_manyGasps_0 []) (cond (Nat.beq L 13) b_M_manyGasps_13 [])) (cond (Nat.blt L 36) (cond (Nat.beq L 35) b_M_manyGasps_35 []) (cond (Nat.blt L 44) (cond (Nat.beq L 36) b_M_manyGasps_36 []) (cond (Nat.beq L 44) b_M_manyGasps_44 [])))
def b_M_count_0 : List RI := [(.iload_n 1, []), (.tableswitch 119 0 8 #[51, 58, 66, 71, 78, 86, 91, 109, 114], [120, 52, 59, 67, 72, 79, 87, 92, 110, 115])]
def b_M_count_52 : List RI := [(.aload_n 0, []), (.getfield 7, [6, 0]), (.iconst 0, []), (.iaload, []), (.ireturn, [0])]
def b_M_count_59 : List RI := [(.aload_n 0, []), (.getfield 7, [6, 0]), (.bipush 58, []), (.iaload, []), (.ireturn, [0])]
def b_M_count_67 : List RI := [(.aload_n 0, []), (.invokevirtual 70, [101, 1, 16]), (.ireturn, [0])]
def b_M_count_72 : List RI := [(.aload_n 0, []), (.bipush 119, []), (.invokevirtual 177, [143, 2, 16]), (.ireturn, [0])]
def b_M_count_79 : List RI := [(.aload_n 0, []), (.sipush 218, []), (.invokevirtual 177, [143, 2, 16]), (.ireturn, [0])]
def b_M_count_87 : List RI := [(.aload_n 0, []), (.invokevirtual 180, [144, 1, 16]), (.ireturn, [0])]
def b_M_count_92 : List RI := [(.aload_n 0, []), (.getfield 7, [6, 0]), (.sipush 317, []), (.iaload, []), (.aload_n 0, []), (.getfield 7, [6, 0]), (.sipush 635, []), (.iaload, []), (.iadd, []), (.ireturn, [0])]
def b_M_count_110 : List RI := [(.aload_n 0, []), (.getfield 38, [6, 3]), (.ireturn, [0])]
def b_M_count_115 : List RI := [(.aload_n 0, []), (.getfield 136, [6, 5]), (.ireturn, [0])]
def b_M_count_120 : List RI := [(.iconst (-1), []), (.ireturn, [0])]
def p_M_count (L : Nat) : List RI := cond (Nat.blt L 79) (cond (Nat.blt L 59) (cond (Nat.blt L 52) (cond (Nat.beq L 0) b_M_count_0 []) (cond (Nat.beq L 52) b_M_count_52 [])) (cond (Nat.blt L 67) (cond (Nat.beq L 59) b_M_count_59 []) (cond (Nat.blt L 72) (cond (Nat.beq L 67) b_M_count_67 []) (cond (Nat.beq L 72) b_M_count_72 [])))) (cond (Nat.blt L 110) (cond (Nat.blt L 87) (cond (Nat.beq L 79) b_M_count_79 []) (cond (Nat.blt L 92) (cond (Nat.beq L 87) b_M_count_87 []) (cond (Nat.beq L 92) b_M_count_92 []))) (cond (Nat.blt L 115) (cond (Nat.beq L 110) b_M_count_110 []) (cond (Nat.blt L 120) (cond (Nat.beq L 115) b_M_count_115 []) (cond (Nat.beq L 120) b_M_count_120 []))))
def b_M_mouth_0 : List RI := [(.aload_n 0, []), (.iload_n 1, []), (.invokevirtual 81, [92, 2, 16]), (.ifCond .eq 27, [32]), (.iload_n 2, []), (.iconst 0, []), (.iconst 1, []), (.invokestatic 46, [87, 3, 0]), (.ifCond .eq 18, [32]), (.aload_n 0, []), (.getfield 7, [6, 0]), (.iconst 1, []), (.iconst 2, []), (.iload_n 1, []), (.imul, []), (.iadd, []), (.iload_n 2, []), (.iadd, []), (.iaload, []), (.goto 4, [33])]
def b_M_mouth_32 : List RI := [(.iconst (-1), []), (.nop, [33])]
def b_M_mouth_33 : List RI := [(.ireturn, [0])]
def p_M_mouth (L : Nat) : List RI := cond (Nat.blt L 32) (cond (Nat.beq L 0) b_M_mouth_0 []) (cond (Nat.blt L 33) (cond (Nat.beq L 32) b_M_mouth_32 []) (cond (Nat.beq L 33) b_M_mouth_33 []))
def b_M_jump_0 : List RI := [(.aload_n 0, []), (.iload_n 1, []), (.invokevirtual 81, [92, 2, 16]), (.ifCond .eq 20, [25]), (.aload_n 0, []), (.iload_n 2, []), (.invokevirtual 81, [92, 2, 16]), (.ifCond .eq 12, [25]), (.aload_n 0, []), (.iload_n 1, []), (.iload_n 2, []), (.invokevirtual 120, [96, 3, 16]), (.goto 4, [26])]
def b_M_jump_25 : List RI := [(.iconst (-1), []), (.nop, [26])]
def b_M_jump_26 : List RI := [(.ireturn, [0])]
def p_M_jump (L : Nat) : List RI := cond (Nat.blt L 25) (cond (Nat.beq L 0) b_M_jump_0 []) (cond (Nat.blt L 26) (cond (Nat.beq L 25) b_M_jump_25 []) (cond (Nat.beq L 26) b_M_jump_26 []))
def b_M_sound_0 : List RI := [(.iload_n 1, []), (.iconst 0, []), (.bipush 8, []), (.invokestatic 46, [87, 3, 0]), (.ifCond .eq 28, [35]), (.iload_n 2, []), (.iconst 0, []), (.iconst 3, []), (.invokestatic 46, [87, 3, 0]), (.ifCond .eq 19, [35]), (.aload_n 0, []), (.getfield 7, [6, 0]), (.bipush 17, []), (.iconst 4, []), (.iload_n 1, []), (.imul, []), (.iadd, []), (.iload_n 2, []), (.iadd, []), (.iaload, []), (.goto 4, [36])]
def b_M_sound_35 : List RI := [(.iconst (-1), []), (.nop, [36])]
def b_M_sound_36 : List RI := [(.ireturn, [0])]
def p_M_sound (L : Nat) : List RI := cond (Nat.blt L 35) (cond (Nat.beq L 0) b_M_sound_0 []) (cond (Nat.blt L 36) (cond (Nat.beq L 35) b_M_sound_35 []) (cond (Nat.beq L 36) b_M_sound_36 []))
def b_M_number_0 : List RI := [(.iload_n 1, []), (.iconst 0, []), (.iconst 4, []), (.invokestatic 46, [87, 3, 0]), (.ifCond .eq 11, [17]), (.aload_n 0, []), (.iload_n 1, []), (.invokevirtual 88, [99, 2, 16]), (.goto 4, [18])]
def b_M_number_17 : List RI := [(.iconst (-1), []), (.nop, [18])]
def b_M_number_18 : List RI := [(.ireturn, [0])]
def p_M_number (L : Nat) : List RI := cond (Nat.blt L 17) (cond (Nat.beq L 0) b_M_number_0 []) (cond (Nat.blt L 18) (cond (Nat.beq L 17) b_M_number_17 []) (cond (Nat.beq L 18) b_M_number_18 []))
def b_M_segment_0 : List RI := [(.aload_n 0, []), (.iload_n 1, []), (.invokevirtual 106, [93, 2, 16]), (.ifCond .eq 12, [17]), (.iload_n 2, []), (.iconst 0, []), (.iconst 2, []), (.invokestatic 46, [87, 3, 0]), (.ifCond .ne 5, [19]), (.nop, [17])]
def b_M_segment_17 : List RI := [(.iconst (-1), []), (.ireturn, [0])]
def b_M_segment_19 : List RI := [(.iload_n 2, []), (.ifCond .ne 11, [31]), (.aload_n 0, []), (.iload_n 1, []), (.invokevirtual 158, [97, 2, 16]), (.goto 21, [49])]
def b_M_segment_31 : List RI := [(.iload_n 2, []), (.iconst 1, []), (.if_icmp .ne 11, [44]), (.aload_n 0, []), (.iload_n 1, []), (.invokevirtual 64, [98, 2, 16]), (.goto 8, [49])]
def b_M_segment_44 : List RI := [(.aload_n 0, []), (.iload_n 1, []), (.invokevirtual 67, [100, 2, 16]), (.nop, [49])]
def b_M_segment_49 : List RI := [(.ireturn, [0])]
def p_M_segment (L : Nat) : List RI := cond (Nat.blt L 31) (cond (Nat.blt L 17) (cond (Nat.beq L 0) b_M_segment_0 []) (cond (Nat.blt L 19) (cond (Nat.beq L 17) b_M_segment_17 []) (cond (Nat.beq L 19) b_M_segment_19 []))) (cond (Nat.blt L 44) (cond (Nat.beq L 31) b_M_segment_31 []) (cond (Nat.blt L 49) (cond (Nat.beq L 44) b_M_segment_44 []) (cond (Nat.beq L 49) b_M_segment_49 [])))
def b_M_orNone_0 : List RI := [(.iload_n 0, []), (.ifCond .ge 8, [9]), (.bipush (-99), []), (.goto 4, [10])]
def b_M_orNone_9 : List RI := [(.iload_n 0, []), (.nop, [10])]
def b_M_orNone_10 : List RI := [(.ireturn, [0])]
def p_M_orNone (L : Nat) : List RI := cond (Nat.blt L 9) (cond (Nat.beq L 0) b_M_orNone_0 []) (cond (Nat.blt L 10) (cond (Nat.beq L 9) b_M_orNone_9 []) (cond (Nat.beq L 10) b_M_orNone_10 []))
def b_M_tellAir_0 : List RI := [(.aload_n 0, []), (.aload_n 0, []), (.getfield 7, [6, 0]), (.invokevirtual 129, [124, 2, 16]), (.istore_n 3, []), (.iload_n 2, []), (.iconst 4, []), (.if_icmp .ne 12, [23]), (.aload_n 0, []), (.getfield 22, [6, 6]), (.iload_n 1, []), (.iaload, []), (.goto 22, [42])]
def b_M_tellAir_23 : List RI := [(.iload_n 1, []), (.iload_n 3, []), (.if_icmp .lt 16, [41]), (.aload_n 0, []), (.getfield 25, [6, 7]), (.iload_n 1, []), (.baload, []), (.ifCond .eq 7, [41]), (.iconst 1, []), (.goto 4, [42])]
def b_M_tellAir_41 : List RI := [(.iconst 0, []), (.nop, [42])]
def b_M_tellAir_42 : List RI := [(.ireturn, [0])]
def p_M_tellAir (L : Nat) : List RI := cond (Nat.blt L 41) (cond (Nat.blt L 23) (cond (Nat.beq L 0) b_M_tellAir_0 []) (cond (Nat.beq L 23) b_M_tellAir_23 [])) (cond (Nat.blt L 42) (cond (Nat.beq L 41) b_M_tellAir_41 []) (cond (Nat.beq L 42) b_M_tellAir_42 []))
def b_M_frame_0 : List RI := [(.aload_n 0, []), (.iload_n 1, []), (.invokevirtual 112, [102, 2, 16]), (.ifCond .eq 13, [18]), (.iload_n 2, []), (.iconst 0, []), (.bipush 6, []), (.invokestatic 46, [87, 3, 0]), (.ifCond .ne 5, [20]), (.nop, [18])]
def b_M_frame_18 : List RI := [(.iconst (-1), []), (.ireturn, [0])]
def b_M_frame_20 : List RI := [(.iload_n 2, []), (.tableswitch 89 0 5 #[39, 45, 55, 68, 82, 82], [110, 60, 66, 76, 89, 103, 103])]
def b_M_frame_60 : List RI := [(.aload_n 0, []), (.iload_n 1, []), (.invokevirtual 183, [103, 2, 16]), (.ireturn, [0])]
def b_M_frame_66 : List RI := [(.aload_n 0, []), (.aload_n 0, []), (.iload_n 1, []), (.invokevirtual 183, [103, 2, 16]), (.invokevirtual 158, [97, 2, 16]), (.ireturn, [0])]
def b_M_frame_76 : List RI := [(.aload_n 0, []), (.getfield 7, [6, 0]), (.bipush 119, []), (.iload_n 1, []), (.iadd, []), (.iaload, []), (.invokestatic 186, [151, 1, 0]), (.ireturn, [0])]
def b_M_frame_89 : List RI := [(.aload_n 0, []), (.getfield 7, [6, 0]), (.sipush 218, []), (.iload_n 1, []), (.iadd, []), (.iaload, []), (.invokestatic 186, [151, 1, 0]), (.ireturn, [0])]
def b_M_frame_103 : List RI := [(.aload_n 0, []), (.iload_n 1, []), (.iload_n 2, []), (.invokevirtual 189, [152, 3, 16]), (.ireturn, [0])]
def b_M_frame_110 : List RI := [(.aload_n 0, []), (.aload_n 0, []), (.iconst 0, []), (.invokevirtual 88, [99, 2, 16]), (.bipush (-99), []), (.bipush (-99), []), (.invokevirtual 126, [141, 4, 16]), (.bipush (-99), []), (.if_icmp .ne 8, [133]), (.bipush (-99), []), (.goto 9, [139])]
def b_M_frame_133 : List RI := [(.aload_n 0, []), (.getfield 32, [6, 11]), (.iload_n 1, []), (.iaload, []), (.nop, [139])]
def b_M_frame_139 : List RI := [(.ireturn, [0])]
def p_M_frame (L : Nat) : List RI := cond (Nat.blt L 76) (cond (Nat.blt L 20) (cond (Nat.blt L 18) (cond (Nat.beq L 0) b_M_frame_0 []) (cond (Nat.beq L 18) b_M_frame_18 [])) (cond (Nat.blt L 60) (cond (Nat.beq L 20) b_M_frame_20 []) (cond (Nat.blt L 66) (cond (Nat.beq L 60) b_M_frame_60 []) (cond (Nat.beq L 66) b_M_frame_66 [])))) (cond (Nat.blt L 110) (cond (Nat.blt L 89) (cond (Nat.beq L 76) b_M_frame_76 []) (cond (Nat.blt L 103) (cond (Nat.beq L 89) b_M_frame_89 []) (cond (Nat.beq L 103) b_M_frame_103 []))) (cond (Nat.blt L 133) (cond (Nat.beq L 110) b_M_frame_110 []) (cond (Nat.blt L 139) (cond (Nat.beq L 133) b_M_frame_133 []) (cond (Nat.beq L 139) b_M_frame_139 []))))
def b_M_wrongness_0 : List RI := [(.aload_n 0, []), (.iload_n 1, []), (.invokevirtual 112, [102, 2, 16]), (.ifCond .eq 28, [33]), (.aload_n 0, []), (.iload_n 2, []), (.invokevirtual 81, [92, 2, 16]), (.ifCond .eq 20, [33]), (.aload_n 0, []), (.aload_n 0, []), (.aload_n 0, []), (.iload_n 1, []), (.invokevirtual 183, [103, 2, 16]), (.invokevirtual 158, [97, 2, 16]), (.iload_n 2, []), (.invokevirtual 167, [138, 3, 16]), (.goto 4, [34])]
def b_M_wrongness_33 : List RI := [(.iconst (-1), []), (.nop, [34])]
def b_M_wrongness_34 : List RI := [(.ireturn, [0])]
def p_M_wrongness (L : Nat) : List RI := cond (Nat.blt L 33) (cond (Nat.beq L 0) b_M_wrongness_0 []) (cond (Nat.blt L 34) (cond (Nat.beq L 33) b_M_wrongness_33 []) (cond (Nat.beq L 34) b_M_wrongness_34 []))
def b_M_least_0 : List RI := [(.iload_n 1, []), (.iconst 0, []), (.iconst 1, []), (.invokestatic 46, [87, 3, 0]), (.ifCond .eq 19, [25]), (.aload_n 0, []), (.aload_n 0, []), (.iconst 0, []), (.invokevirtual 88, [99, 2, 16]), (.bipush (-99), []), (.bipush (-99), []), (.invokevirtual 126, [141, 4, 16]), (.goto 4, [26])]
def b_M_least_25 : List RI := [(.iconst (-1), []), (.nop, [26])]
def b_M_least_26 : List RI := [(.ireturn, [0])]
def p_M_least (L : Nat) : List RI := cond (Nat.blt L 25) (cond (Nat.beq L 0) b_M_least_0 []) (cond (Nat.blt L 26) (cond (Nat.beq L 25) b_M_least_25 []) (cond (Nat.beq L 26) b_M_least_26 []))
def b_M_leastWith_0 : List RI := [(.aload_n 0, []), (.iload_n 1, []), (.invokevirtual 112, [102, 2, 16]), (.ifCond .eq 25, [30]), (.aload_n 0, []), (.iload_n 2, []), (.invokevirtual 81, [92, 2, 16]), (.ifCond .eq 17, [30]), (.aload_n 0, []), (.aload_n 0, []), (.iconst 0, []), (.invokevirtual 88, [99, 2, 16]), (.iload_n 1, []), (.iload_n 2, []), (.invokevirtual 126, [141, 4, 16]), (.goto 4, [31])]
def b_M_leastWith_30 : List RI := [(.iconst (-1), []), (.nop, [31])]
def b_M_leastWith_31 : List RI := [(.ireturn, [0])]
def p_M_leastWith (L : Nat) : List RI := cond (Nat.blt L 30) (cond (Nat.beq L 0) b_M_leastWith_0 []) (cond (Nat.blt L 31) (cond (Nat.beq L 30) b_M_leastWith_30 []) (cond (Nat.beq L 31) b_M_leastWith_31 []))
def b_M_why_0 : List RI := [(.aload_n 0, []), (.iload_n 1, []), (.invokevirtual 112, [102, 2, 16]), (.ifCond .ne 5, [10]), (.iconst (-1), []), (.ireturn, [0])]
def b_M_why_10 : List RI := [(.aload_n 0, []), (.iconst 0, []), (.invokevirtual 88, [99, 2, 16]), (.istore_n 2, []), (.aload_n 0, []), (.iload_n 2, []), (.bipush (-99), []), (.bipush (-99), []), (.invokevirtual 126, [141, 4, 16]), (.bipush (-99), []), (.if_icmp .ne 6, [33]), (.bipush (-99), []), (.ireturn, [0])]
def b_M_why_33 : List RI := [(.iconst 0, []), (.istore_n 3, []), (.iconst 1, []), (.istore 4, []), (.nop, [38])]
def b_M_why_38 : List RI := [(.iload 4, []), (.aload_n 0, []), (.getfield 7, [6, 0]), (.iconst 0, []), (.iaload, []), (.if_icmp .ge 42, [88]), (.aload_n 0, []), (.aload_n 0, []), (.getfield 35, [6, 12]), (.iload_n 1, []), (.iaload, []), (.iload 4, []), (.invokevirtual 167, [138, 3, 16]), (.aload_n 0, []), (.aload_n 0, []), (.getfield 35, [6, 12]), (.iload_n 1, []), (.iaload, []), (.iload_n 3, []), (.invokevirtual 167, [138, 3, 16]), (.if_icmp .ge 8, [80]), (.iload 4, []), (.goto 4, [81])]
def b_M_why_80 : List RI := [(.iload_n 3, []), (.nop, [81])]
def b_M_why_81 : List RI := [(.istore_n 3, []), (.iinc 4 1, []), (.goto (-47), [38])]
def b_M_why_88 : List RI := [(.aload_n 0, []), (.aload_n 0, []), (.getfield 35, [6, 12]), (.iload_n 1, []), (.iaload, []), (.aload_n 0, []), (.getfield 32, [6, 11]), (.iload_n 1, []), (.iaload, []), (.invokevirtual 167, [138, 3, 16]), (.aload_n 0, []), (.aload_n 0, []), (.getfield 35, [6, 12]), (.iload_n 1, []), (.iaload, []), (.iload_n 3, []), (.invokevirtual 167, [138, 3, 16]), (.if_icmp .ne 5, [120]), (.iconst 0, []), (.ireturn, [0])]
def b_M_why_120 : List RI := [(.aload_n 0, []), (.getfield 7, [6, 0]), (.bipush 119, []), (.iload_n 1, []), (.iadd, []), (.iaload, []), (.ifCond .lt 5, [134]), (.iconst 1, []), (.ireturn, [0])]
def b_M_why_134 : List RI := [(.iload_n 1, []), (.ifCond .le 22, [157]), (.aload_n 0, []), (.aload_n 0, []), (.getfield 32, [6, 11]), (.iload_n 1, []), (.iconst 1, []), (.isub, []), (.iaload, []), (.iload_n 3, []), (.invokevirtual 120, [96, 3, 16]), (.iload_n 2, []), (.if_icmp .le 5, [157]), (.iconst 2, []), (.ireturn, [0])]
def b_M_why_157 : List RI := [(.iload_n 1, []), (.aload_n 0, []), (.invokevirtual 70, [101, 1, 16]), (.iconst 1, []), (.isub, []), (.if_icmp .ge 24, [188]), (.aload_n 0, []), (.iload_n 3, []), (.aload_n 0, []), (.getfield 32, [6, 11]), (.iload_n 1, []), (.iconst 1, []), (.iadd, []), (.iaload, []), (.invokevirtual 120, [96, 3, 16]), (.iload_n 2, []), (.if_icmp .le 7, [188]), (.iconst 3, []), (.goto 4, [189])]
def b_M_why_188 : List RI := [(.iconst 4, []), (.nop, [189])]
def b_M_why_189 : List RI := [(.ireturn, [0])]
def p_M_why (L : Nat) : List RI := cond (Nat.blt L 88) (cond (Nat.blt L 38) (cond (Nat.blt L 10) (cond (Nat.beq L 0) b_M_why_0 []) (cond (Nat.blt L 33) (cond (Nat.beq L 10) b_M_why_10 []) (cond (Nat.beq L 33) b_M_why_33 []))) (cond (Nat.blt L 80) (cond (Nat.beq L 38) b_M_why_38 []) (cond (Nat.blt L 81) (cond (Nat.beq L 80) b_M_why_80 []) (cond (Nat.beq L 81) b_M_why_81 [])))) (cond (Nat.blt L 157) (cond (Nat.blt L 120) (cond (Nat.beq L 88) b_M_why_88 []) (cond (Nat.blt L 134) (cond (Nat.beq L 120) b_M_why_120 []) (cond (Nat.beq L 134) b_M_why_134 []))) (cond (Nat.blt L 188) (cond (Nat.beq L 157) b_M_why_157 []) (cond (Nat.blt L 189) (cond (Nat.beq L 188) b_M_why_188 []) (cond (Nat.beq L 189) b_M_why_189 []))))
def b_M_faultIn_0 : List RI := [(.aload_n 0, []), (.getfield 7, [6, 0]), (.sipush 218, []), (.iload_n 1, []), (.iadd, []), (.iaload, []), (.istore_n 2, []), (.iload_n 2, []), (.ifCond .ge 5, [17]), (.iconst 1, []), (.ireturn, [0])]
def b_M_faultIn_17 : List RI := [(.aload_n 0, []), (.getfield 7, [6, 0]), (.bipush 119, []), (.iload_n 1, []), (.iadd, []), (.iaload, []), (.ifCond .lt 18, [44]), (.aload_n 0, []), (.getfield 7, [6, 0]), (.bipush 119, []), (.iload_n 1, []), (.iadd, []), (.iaload, []), (.iload_n 2, []), (.if_icmp .eq 5, [44]), (.iconst 2, []), (.ireturn, [0])]
def b_M_faultIn_44 : List RI := [(.iload_n 1, []), (.ifCond .ne 5, [50]), (.iconst 0, []), (.ireturn, [0])]
def b_M_faultIn_50 : List RI := [(.aload_n 0, []), (.getfield 7, [6, 0]), (.sipush 218, []), (.iload_n 1, []), (.iadd, []), (.iconst 1, []), (.isub, []), (.iaload, []), (.istore_n 3, []), (.aload_n 0, []), (.iload_n 3, []), (.iload_n 2, []), (.invokevirtual 120, [96, 3, 16]), (.aload_n 0, []), (.iconst 0, []), (.invokevirtual 88, [99, 2, 16]), (.if_icmp .le 5, [79]), (.iconst 3, []), (.ireturn, [0])]
def b_M_faultIn_79 : List RI := [(.iconst 0, []), (.istore 4, []), (.iload_n 1, []), (.iconst 1, []), (.isub, []), (.istore 5, []), (.nop, [87])]
def b_M_faultIn_87 : List RI := [(.iload 5, []), (.ifCond .lt 27, [116]), (.aload_n 0, []), (.getfield 7, [6, 0]), (.sipush 218, []), (.iload 5, []), (.iadd, []), (.iaload, []), (.iload_n 3, []), (.if_icmp .ne 12, [116]), (.iinc 4 1, []), (.iinc 5 (-1), []), (.goto (-26), [87])]
def b_M_faultIn_116 : List RI := [(.iload_n 2, []), (.iload_n 3, []), (.if_icmp .eq 17, [135]), (.iload 4, []), (.aload_n 0, []), (.iconst 1, []), (.invokevirtual 88, [99, 2, 16]), (.if_icmp .ge 7, [135]), (.iconst 4, []), (.goto 4, [136])]
def b_M_faultIn_135 : List RI := [(.iconst 0, []), (.nop, [136])]
def b_M_faultIn_136 : List RI := [(.ireturn, [0])]
def p_M_faultIn (L : Nat) : List RI := cond (Nat.blt L 79) (cond (Nat.blt L 44) (cond (Nat.blt L 17) (cond (Nat.beq L 0) b_M_faultIn_0 []) (cond (Nat.beq L 17) b_M_faultIn_17 [])) (cond (Nat.blt L 50) (cond (Nat.beq L 44) b_M_faultIn_44 []) (cond (Nat.beq L 50) b_M_faultIn_50 []))) (cond (Nat.blt L 116) (cond (Nat.blt L 87) (cond (Nat.beq L 79) b_M_faultIn_79 []) (cond (Nat.beq L 87) b_M_faultIn_87 [])) (cond (Nat.blt L 135) (cond (Nat.beq L 116) b_M_faultIn_116 []) (cond (Nat.blt L 136) (cond (Nat.beq L 135) b_M_faultIn_135 []) (cond (Nat.beq L 136) b_M_faultIn_136 []))))
def b_M_fault_0 : List RI := [(.iload_n 1, []), (.iconst 0, []), (.iconst 1, []), (.invokestatic 46, [87, 3, 0]), (.ifCond .ne 5, [11]), (.iconst (-1), []), (.ireturn, [0])]
def b_M_fault_11 : List RI := [(.iconst 0, []), (.istore_n 2, []), (.nop, [13])]
def b_M_fault_13 : List RI := [(.iload_n 2, []), (.aload_n 0, []), (.invokevirtual 70, [101, 1, 16]), (.if_icmp .ge 29, [47]), (.aload_n 0, []), (.iload_n 2, []), (.invokevirtual 192, [158, 2, 16]), (.istore_n 3, []), (.iload_n 3, []), (.ifCond .le 13, [41]), (.iload_n 1, []), (.ifCond .ne 7, [39]), (.iload_n 2, []), (.goto 4, [40])]
def b_M_fault_39 : List RI := [(.iload_n 3, []), (.nop, [40])]
def b_M_fault_40 : List RI := [(.ireturn, [0])]
def b_M_fault_41 : List RI := [(.iinc 2 1, []), (.goto (-31), [13])]
def b_M_fault_47 : List RI := [(.bipush (-99), []), (.ireturn, [0])]
def p_M_fault (L : Nat) : List RI := cond (Nat.blt L 39) (cond (Nat.blt L 11) (cond (Nat.beq L 0) b_M_fault_0 []) (cond (Nat.blt L 13) (cond (Nat.beq L 11) b_M_fault_11 []) (cond (Nat.beq L 13) b_M_fault_13 []))) (cond (Nat.blt L 41) (cond (Nat.blt L 40) (cond (Nat.beq L 39) b_M_fault_39 []) (cond (Nat.beq L 40) b_M_fault_40 [])) (cond (Nat.blt L 47) (cond (Nat.beq L 41) b_M_fault_41 []) (cond (Nat.beq L 47) b_M_fault_47 [])))
def b_M_drawnSum_0 : List RI := [(.aload_n 0, []), (.invokevirtual 164, [137, 1, 16]), (.iconst 0, []), (.istore_n 1, []), (.iconst 0, []), (.istore_n 2, []), (.nop, [8])]
def b_M_drawnSum_8 : List RI := [(.iload_n 2, []), (.aload_n 0, []), (.invokevirtual 70, [101, 1, 16]), (.if_icmp .ge 48, [61]), (.aload_n 0, []), (.getfield 7, [6, 0]), (.sipush 218, []), (.iload_n 2, []), (.iadd, []), (.iaload, []), (.ifCond .ge 6, [32]), (.bipush (-99), []), (.ireturn, [0])]
def b_M_drawnSum_32 : List RI := [(.iload_n 1, []), (.aload_n 0, []), (.aload_n 0, []), (.getfield 35, [6, 12]), (.iload_n 2, []), (.iaload, []), (.aload_n 0, []), (.getfield 7, [6, 0]), (.sipush 218, []), (.iload_n 2, []), (.iadd, []), (.iaload, []), (.invokevirtual 167, [138, 3, 16]), (.iadd, []), (.istore_n 1, []), (.iinc 2 1, []), (.goto (-50), [8])]
def b_M_drawnSum_61 : List RI := [(.iload_n 1, []), (.ireturn, [0])]
def p_M_drawnSum (L : Nat) : List RI := cond (Nat.blt L 32) (cond (Nat.blt L 8) (cond (Nat.beq L 0) b_M_drawnSum_0 []) (cond (Nat.beq L 8) b_M_drawnSum_8 [])) (cond (Nat.blt L 61) (cond (Nat.beq L 32) b_M_drawnSum_32 []) (cond (Nat.beq L 61) b_M_drawnSum_61 []))
def b_M_speedFor_0 : List RI := [(.iload_n 1, []), (.iconst 0, []), (.ldc 195, [99999]), (.invokestatic 46, [87, 3, 0]), (.ifCond .ne 5, [12]), (.iconst (-1), []), (.ireturn, [0])]
def b_M_speedFor_12 : List RI := [(.iconst 1, []), (.istore_n 2, []), (.nop, [14])]
def b_M_speedFor_14 : List RI := [(.iload_n 2, []), (.bipush 9, []), (.if_icmp .gt 32, [49]), (.aload_n 0, []), (.iload_n 2, []), (.bipush (-99), []), (.bipush (-99), []), (.invokevirtual 126, [141, 4, 16]), (.istore_n 3, []), (.iload_n 3, []), (.bipush (-99), []), (.if_icmp .eq 10, [43]), (.iload_n 3, []), (.iload_n 1, []), (.if_icmp .gt 5, [43]), (.iload_n 2, []), (.ireturn, [0])]
def b_M_speedFor_43 : List RI := [(.iinc 2 1, []), (.goto (-32), [14])]
def b_M_speedFor_49 : List RI := [(.bipush (-99), []), (.ireturn, [0])]
def p_M_speedFor (L : Nat) : List RI := cond (Nat.blt L 14) (cond (Nat.blt L 12) (cond (Nat.beq L 0) b_M_speedFor_0 []) (cond (Nat.beq L 12) b_M_speedFor_12 [])) (cond (Nat.blt L 43) (cond (Nat.beq L 14) b_M_speedFor_14 []) (cond (Nat.blt L 49) (cond (Nat.beq L 43) b_M_speedFor_43 []) (cond (Nat.beq L 49) b_M_speedFor_49 [])))
def b_M_nearest_0 : List RI := [(.iload_n 1, []), (.invokestatic 74, [104, 1, 0]), (.ifCond .eq 21, [25]), (.iload_n 2, []), (.invokestatic 74, [104, 1, 0]), (.ifCond .eq 14, [25]), (.aload_n 0, []), (.iload_n 1, []), (.iload_n 2, []), (.bipush (-99), []), (.invokevirtual 123, [121, 4, 16]), (.goto 4, [26])]
def b_M_nearest_25 : List RI := [(.iconst (-1), []), (.nop, [26])]
def b_M_nearest_26 : List RI := [(.ireturn, [0])]
def p_M_nearest (L : Nat) : List RI := cond (Nat.blt L 25) (cond (Nat.beq L 0) b_M_nearest_0 []) (cond (Nat.blt L 26) (cond (Nat.beq L 25) b_M_nearest_25 []) (cond (Nat.beq L 26) b_M_nearest_26 []))
def b_W_law_0 : List RI := [(.new 7, [5]), (.dup, []), (.invokespecial 9, [48, 1, 15]), (.astore_n 1, []), (.new 10, [6]), (.dup, []), (.invokespecial 12, [86, 1, 16]), (.astore_n 2, []), (.iconst 0, []), (.istore_n 3, []), (.nop, [18])]
def b_W_law_18 : List RI := [(.iload_n 3, []), (.aload_n 0, []), (.arraylength, []), (.iconst 4, []), (.isub, []), (.if_icmp .gt 1072, [1095]), (.aload_n 0, []), (.iload_n 3, []), (.iaload, []), (.bipush 63, []), (.iand, []), (.tableswitch 1057 0 32 #[148, 181, 224, 267, 300, 343, 366, 399, 432, 465, 498, 511, 534, 557, 580, 593, 616, 629, 642, 665, 698, 731, 764, 787, 820, 853, 886, 909, 942, 965, 988, 1001, 1024], [1089, 180, 213, 256, 299, 332, 375, 398, 431, 464, 497, 530, 543, 566, 589, 612, 625, 648, 661, 674, 697, 730, 763, 796, 819, 852, 885, 918, 941, 974, 997, 1020, 1033, 1056])]
def b_W_law_180 : List RI := [(.aload_n 1, []), (.aload_n 0, []), (.iload_n 3, []), (.iconst 1, []), (.iadd, []), (.iaload, []), (.aload_n 0, []), (.iload_n 3, []), (.iconst 2, []), (.iadd, []), (.iaload, []), (.invokevirtual 13, [49, 3, 15]), (.aload_n 2, []), (.aload_n 0, []), (.iload_n 3, []), (.iconst 1, []), (.iadd, []), (.iaload, []), (.aload_n 0, []), (.iload_n 3, []), (.iconst 2, []), (.iadd, []), (.iaload, []), (.invokevirtual 17, [105, 3, 16]), (.if_icmp .eq 881, [1089]), (.iconst 0, []), (.ireturn, [1])]
def b_W_law_213 : List RI := [(.aload_n 1, []), (.aload_n 0, []), (.iload_n 3, []), (.iconst 1, []), (.iadd, []), (.iaload, []), (.aload_n 0, []), (.iload_n 3, []), (.iconst 2, []), (.iadd, []), (.iaload, []), (.aload_n 0, []), (.iload_n 3, []), (.iconst 3, []), (.iadd, []), (.iaload, []), (.invokevirtual 18, [50, 4, 15]), (.aload_n 2, []), (.aload_n 0, []), (.iload_n 3, []), (.iconst 1, []), (.iadd, []), (.iaload, []), (.aload_n 0, []), (.iload_n 3, []), (.iconst 2, []), (.iadd, []), (.iaload, []), (.aload_n 0, []), (.iload_n 3, []), (.iconst 3, []), (.iadd, []), (.iaload, []), (.invokevirtual 22, [106, 4, 16]), (.if_icmp .eq 838, [1089]), (.iconst 0, []), (.ireturn, [1])]
def b_W_law_256 : List RI := [(.aload_n 1, []), (.aload_n 0, []), (.iload_n 3, []), (.iconst 1, []), (.iadd, []), (.iaload, []), (.aload_n 0, []), (.iload_n 3, []), (.iconst 2, []), (.iadd, []), (.iaload, []), (.aload_n 0, []), (.iload_n 3, []), (.iconst 3, []), (.iadd, []), (.iaload, []), (.invokevirtual 23, [51, 4, 15]), (.aload_n 2, []), (.aload_n 0, []), (.iload_n 3, []), (.iconst 1, []), (.iadd, []), (.iaload, []), (.aload_n 0, []), (.iload_n 3, []), (.iconst 2, []), (.iadd, []), (.iaload, []), (.aload_n 0, []), (.iload_n 3, []), (.iconst 3, []), (.iadd, []), (.iaload, []), (.invokevirtual 26, [107, 4, 16]), (.if_icmp .eq 795, [1089]), (.iconst 0, []), (.ireturn, [1])]
def b_W_law_299 : List RI := [(.aload_n 1, []), (.aload_n 0, []), (.iload_n 3, []), (.iconst 1, []), (.iadd, []), (.iaload, []), (.aload_n 0, []), (.iload_n 3, []), (.iconst 2, []), (.iadd, []), (.iaload, []), (.invokevirtual 27, [52, 3, 15]), (.aload_n 2, []), (.aload_n 0, []), (.iload_n 3, []), (.iconst 1, []), (.iadd, []), (.iaload, []), (.aload_n 0, []), (.iload_n 3, []), (.iconst 2, []), (.iadd, []), (.iaload, []), (.invokevirtual 30, [109, 3, 16]), (.if_icmp .eq 762, [1089]), (.iconst 0, []), (.ireturn, [1])]
def b_W_law_332 : List RI := [(.aload_n 1, []), (.aload_n 0, []), (.iload_n 3, []), (.iconst 1, []), (.iadd, []), (.iaload, []), (.aload_n 0, []), (.iload_n 3, []), (.iconst 2, []), (.iadd, []), (.iaload, []), (.aload_n 0, []), (.iload_n 3, []), (.iconst 3, []), (.iadd, []), (.iaload, []), (.invokevirtual 31, [53, 4, 15]), (.aload_n 2, []), (.aload_n 0, []), (.iload_n 3, []), (.iconst 1, []), (.iadd, []), (.iaload, []), (.aload_n 0, []), (.iload_n 3, []), (.iconst 2, []), (.iadd, []), (.iaload, []), (.aload_n 0, []), (.iload_n 3, []), (.iconst 3, []), (.iadd, []), (.iaload, []), (.invokevirtual 34, [115, 4, 16]), (.if_icmp .eq 719, [1089]), (.iconst 0, []), (.ireturn, [1])]
def b_W_law_375 : List RI := [(.aload_n 1, []), (.aload_n 0, []), (.iload_n 3, []), (.iconst 1, []), (.iadd, []), (.iaload, []), (.invokevirtual 35, [54, 2, 15]), (.aload_n 2, []), (.aload_n 0, []), (.iload_n 3, []), (.iconst 1, []), (.iadd, []), (.iaload, []), (.invokevirtual 39, [116, 2, 16]), (.if_icmp .eq 696, [1089]), (.iconst 0, []), (.ireturn, [1])]
def b_W_law_398 : List RI := [(.aload_n 1, []), (.aload_n 0, []), (.iload_n 3, []), (.iconst 1, []), (.iadd, []), (.iaload, []), (.aload_n 0, []), (.iload_n 3, []), (.iconst 2, []), (.iadd, []), (.iaload, []), (.invokevirtual 40, [55, 3, 15]), (.aload_n 2, []), (.aload_n 0, []), (.iload_n 3, []), (.iconst 1, []), (.iadd, []), (.iaload, []), (.aload_n 0, []), (.iload_n 3, []), (.iconst 2, []), (.iadd, []), (.iaload, []), (.invokevirtual 43, [117, 3, 16]), (.if_icmp .eq 663, [1089]), (.iconst 0, []), (.ireturn, [1])]
def b_W_law_431 : List RI := [(.aload_n 1, []), (.aload_n 0, []), (.iload_n 3, []), (.iconst 1, []), (.iadd, []), (.iaload, []), (.aload_n 0, []), (.iload_n 3, []), (.iconst 2, []), (.iadd, []), (.iaload, []), (.invokevirtual 44, [56, 3, 15]), (.aload_n 2, []), (.aload_n 0, []), (.iload_n 3, []), (.iconst 1, []), (.iadd, []), (.iaload, []), (.aload_n 0, []), (.iload_n 3, []), (.iconst 2, []), (.iadd, []), (.iaload, []), (.invokevirtual 47, [119, 3, 16]), (.if_icmp .eq 630, [1089]), (.iconst 0, []), (.ireturn, [1])]
def b_W_law_464 : List RI := [(.aload_n 1, []), (.aload_n 0, []), (.iload_n 3, []), (.iconst 1, []), (.iadd, []), (.iaload, []), (.aload_n 0, []), (.iload_n 3, []), (.iconst 2, []), (.iadd, []), (.iaload, []), (.invokevirtual 48, [57, 3, 15]), (.aload_n 2, []), (.aload_n 0, []), (.iload_n 3, []), (.iconst 1, []), (.iadd, []), (.iaload, []), (.aload_n 0, []), (.iload_n 3, []), (.iconst 2, []), (.iadd, []), (.iaload, []), (.invokevirtual 51, [120, 3, 16]), (.if_icmp .eq 597, [1089]), (.iconst 0, []), (.ireturn, [1])]
def b_W_law_497 : List RI := [(.aload_n 1, []), (.aload_n 0, []), (.iload_n 3, []), (.iconst 1, []), (.iadd, []), (.iaload, []), (.aload_n 0, []), (.iload_n 3, []), (.iconst 2, []), (.iadd, []), (.iaload, []), (.invokevirtual 52, [58, 3, 15]), (.aload_n 2, []), (.aload_n 0, []), (.iload_n 3, []), (.iconst 1, []), (.iadd, []), (.iaload, []), (.aload_n 0, []), (.iload_n 3, []), (.iconst 2, []), (.iadd, []), (.iaload, []), (.invokevirtual 55, [122, 3, 16]), (.if_icmp .eq 564, [1089]), (.iconst 0, []), (.ireturn, [1])]
def b_W_law_530 : List RI := [(.aload_n 1, []), (.invokevirtual 56, [59, 1, 15]), (.aload_n 2, []), (.invokevirtual 60, [123, 1, 16]), (.if_icmp .eq 551, [1089]), (.iconst 0, []), (.ireturn, [1])]
def b_W_law_543 : List RI := [(.aload_n 1, []), (.aload_n 0, []), (.iload_n 3, []), (.iconst 1, []), (.iadd, []), (.iaload, []), (.invokevirtual 61, [60, 2, 15]), (.aload_n 2, []), (.aload_n 0, []), (.iload_n 3, []), (.iconst 1, []), (.iadd, []), (.iaload, []), (.invokevirtual 64, [126, 2, 16]), (.if_icmp .eq 528, [1089]), (.iconst 0, []), (.ireturn, [1])]
def b_W_law_566 : List RI := [(.aload_n 1, []), (.aload_n 0, []), (.iload_n 3, []), (.iconst 1, []), (.iadd, []), (.iaload, []), (.invokevirtual 65, [61, 2, 15]), (.aload_n 2, []), (.aload_n 0, []), (.iload_n 3, []), (.iconst 1, []), (.iadd, []), (.iaload, []), (.invokevirtual 68, [127, 2, 16]), (.if_icmp .eq 505, [1089]), (.iconst 0, []), (.ireturn, [1])]
def b_W_law_589 : List RI := [(.aload_n 1, []), (.aload_n 0, []), (.iload_n 3, []), (.iconst 1, []), (.iadd, []), (.iaload, []), (.invokevirtual 69, [62, 2, 15]), (.aload_n 2, []), (.aload_n 0, []), (.iload_n 3, []), (.iconst 1, []), (.iadd, []), (.iaload, []), (.invokevirtual 72, [128, 2, 16]), (.if_icmp .eq 482, [1089]), (.iconst 0, []), (.ireturn, [1])]
def b_W_law_612 : List RI := [(.aload_n 1, []), (.invokevirtual 73, [63, 1, 15]), (.aload_n 2, []), (.invokevirtual 76, [129, 1, 16]), (.if_icmp .eq 469, [1089]), (.iconst 0, []), (.ireturn, [1])]
def b_W_law_625 : List RI := [(.aload_n 1, []), (.aload_n 0, []), (.iload_n 3, []), (.iconst 1, []), (.iadd, []), (.iaload, []), (.invokevirtual 77, [64, 2, 15]), (.aload_n 2, []), (.aload_n 0, []), (.iload_n 3, []), (.iconst 1, []), (.iadd, []), (.iaload, []), (.invokevirtual 80, [130, 2, 16]), (.if_icmp .eq 446, [1089]), (.iconst 0, []), (.ireturn, [1])]
def b_W_law_648 : List RI := [(.aload_n 1, []), (.invokevirtual 81, [65, 1, 15]), (.aload_n 2, []), (.invokevirtual 84, [131, 1, 16]), (.if_icmp .eq 433, [1089]), (.iconst 0, []), (.ireturn, [1])]
def b_W_law_661 : List RI := [(.aload_n 1, []), (.invokevirtual 85, [66, 1, 15]), (.aload_n 2, []), (.invokevirtual 88, [136, 1, 16]), (.if_icmp .eq 420, [1089]), (.iconst 0, []), (.ireturn, [1])]
def b_W_law_674 : List RI := [(.aload_n 1, []), (.aload_n 0, []), (.iload_n 3, []), (.iconst 1, []), (.iadd, []), (.iaload, []), (.invokevirtual 89, [67, 2, 15]), (.aload_n 2, []), (.aload_n 0, []), (.iload_n 3, []), (.iconst 1, []), (.iadd, []), (.iaload, []), (.invokevirtual 92, [145, 2, 16]), (.if_icmp .eq 397, [1089]), (.iconst 0, []), (.ireturn, [1])]
def b_W_law_697 : List RI := [(.aload_n 1, []), (.aload_n 0, []), (.iload_n 3, []), (.iconst 1, []), (.iadd, []), (.iaload, []), (.aload_n 0, []), (.iload_n 3, []), (.iconst 2, []), (.iadd, []), (.iaload, []), (.invokevirtual 93, [68, 3, 15]), (.aload_n 2, []), (.aload_n 0, []), (.iload_n 3, []), (.iconst 1, []), (.iadd, []), (.iaload, []), (.aload_n 0, []), (.iload_n 3, []), (.iconst 2, []), (.iadd, []), (.iaload, []), (.invokevirtual 96, [146, 3, 16]), (.if_icmp .eq 364, [1089]), (.iconst 0, []), (.ireturn, [1])]
def b_W_law_730 : List RI := [(.aload_n 1, []), (.aload_n 0, []), (.iload_n 3, []), (.iconst 1, []), (.iadd, []), (.iaload, []), (.aload_n 0, []), (.iload_n 3, []), (.iconst 2, []), (.iadd, []), (.iaload, []), (.invokevirtual 97, [69, 3, 15]), (.aload_n 2, []), (.aload_n 0, []), (.iload_n 3, []), (.iconst 1, []), (.iadd, []), (.iaload, []), (.aload_n 0, []), (.iload_n 3, []), (.iconst 2, []), (.iadd, []), (.iaload, []), (.invokevirtual 100, [147, 3, 16]), (.if_icmp .eq 331, [1089]), (.iconst 0, []), (.ireturn, [1])]
def b_W_law_763 : List RI := [(.aload_n 1, []), (.aload_n 0, []), (.iload_n 3, []), (.iconst 1, []), (.iadd, []), (.iaload, []), (.aload_n 0, []), (.iload_n 3, []), (.iconst 2, []), (.iadd, []), (.iaload, []), (.invokevirtual 101, [70, 3, 15]), (.aload_n 2, []), (.aload_n 0, []), (.iload_n 3, []), (.iconst 1, []), (.iadd, []), (.iaload, []), (.aload_n 0, []), (.iload_n 3, []), (.iconst 2, []), (.iadd, []), (.iaload, []), (.invokevirtual 104, [148, 3, 16]), (.if_icmp .eq 298, [1089]), (.iconst 0, []), (.ireturn, [1])]
def b_W_law_796 : List RI := [(.aload_n 1, []), (.aload_n 0, []), (.iload_n 3, []), (.iconst 1, []), (.iadd, []), (.iaload, []), (.invokevirtual 105, [71, 2, 15]), (.aload_n 2, []), (.aload_n 0, []), (.iload_n 3, []), (.iconst 1, []), (.iadd, []), (.iaload, []), (.invokevirtual 108, [149, 2, 16]), (.if_icmp .eq 275, [1089]), (.iconst 0, []), (.ireturn, [1])]
def b_W_law_819 : List RI := [(.aload_n 1, []), (.aload_n 0, []), (.iload_n 3, []), (.iconst 1, []), (.iadd, []), (.iaload, []), (.aload_n 0, []), (.iload_n 3, []), (.iconst 2, []), (.iadd, []), (.iaload, []), (.invokevirtual 109, [72, 3, 15]), (.aload_n 2, []), (.aload_n 0, []), (.iload_n 3, []), (.iconst 1, []), (.iadd, []), (.iaload, []), (.aload_n 0, []), (.iload_n 3, []), (.iconst 2, []), (.iadd, []), (.iaload, []), (.invokevirtual 112, [150, 3, 16]), (.if_icmp .eq 242, [1089]), (.iconst 0, []), (.ireturn, [1])]
def b_W_law_852 : List RI := [(.aload_n 1, []), (.aload_n 0, []), (.iload_n 3, []), (.iconst 1, []), (.iadd, []), (.iaload, []), (.aload_n 0, []), (.iload_n 3, []), (.iconst 2, []), (.iadd, []), (.iaload, []), (.invokevirtual 113, [73, 3, 15]), (.aload_n 2, []), (.aload_n 0, []), (.iload_n 3, []), (.iconst 1, []), (.iadd, []), (.iaload, []), (.aload_n 0, []), (.iload_n 3, []), (.iconst 2, []), (.iadd, []), (.iaload, []), (.invokevirtual 116, [153, 3, 16]), (.if_icmp .eq 209, [1089]), (.iconst 0, []), (.ireturn, [1])]
def b_W_law_885 : List RI := [(.aload_n 1, []), (.aload_n 0, []), (.iload_n 3, []), (.iconst 1, []), (.iadd, []), (.iaload, []), (.aload_n 0, []), (.iload_n 3, []), (.iconst 2, []), (.iadd, []), (.iaload, []), (.invokevirtual 117, [74, 3, 15]), (.aload_n 2, []), (.aload_n 0, []), (.iload_n 3, []), (.iconst 1, []), (.iadd, []), (.iaload, []), (.aload_n 0, []), (.iload_n 3, []), (.iconst 2, []), (.iadd, []), (.iaload, []), (.invokevirtual 120, [154, 3, 16]), (.if_icmp .eq 176, [1089]), (.iconst 0, []), (.ireturn, [1])]
def b_W_law_918 : List RI := [(.aload_n 1, []), (.aload_n 0, []), (.iload_n 3, []), (.iconst 1, []), (.iadd, []), (.iaload, []), (.invokevirtual 121, [75, 2, 15]), (.aload_n 2, []), (.aload_n 0, []), (.iload_n 3, []), (.iconst 1, []), (.iadd, []), (.iaload, []), (.invokevirtual 124, [155, 2, 16]), (.if_icmp .eq 153, [1089]), (.iconst 0, []), (.ireturn, [1])]
def b_W_law_941 : List RI := [(.aload_n 1, []), (.aload_n 0, []), (.iload_n 3, []), (.iconst 1, []), (.iadd, []), (.iaload, []), (.aload_n 0, []), (.iload_n 3, []), (.iconst 2, []), (.iadd, []), (.iaload, []), (.invokevirtual 125, [76, 3, 15]), (.aload_n 2, []), (.aload_n 0, []), (.iload_n 3, []), (.iconst 1, []), (.iadd, []), (.iaload, []), (.aload_n 0, []), (.iload_n 3, []), (.iconst 2, []), (.iadd, []), (.iaload, []), (.invokevirtual 128, [156, 3, 16]), (.if_icmp .eq 120, [1089]), (.iconst 0, []), (.ireturn, [1])]
def b_W_law_974 : List RI := [(.aload_n 1, []), (.aload_n 0, []), (.iload_n 3, []), (.iconst 1, []), (.iadd, []), (.iaload, []), (.invokevirtual 129, [77, 2, 15]), (.aload_n 2, []), (.aload_n 0, []), (.iload_n 3, []), (.iconst 1, []), (.iadd, []), (.iaload, []), (.invokevirtual 132, [157, 2, 16]), (.if_icmp .eq 97, [1089]), (.iconst 0, []), (.ireturn, [1])]
def b_W_law_997 : List RI := [(.aload_n 1, []), (.aload_n 0, []), (.iload_n 3, []), (.iconst 1, []), (.iadd, []), (.iaload, []), (.invokevirtual 133, [78, 2, 15]), (.aload_n 2, []), (.aload_n 0, []), (.iload_n 3, []), (.iconst 1, []), (.iadd, []), (.iaload, []), (.invokevirtual 136, [159, 2, 16]), (.if_icmp .eq 74, [1089]), (.iconst 0, []), (.ireturn, [1])]
def b_W_law_1020 : List RI := [(.aload_n 1, []), (.invokevirtual 137, [79, 1, 15]), (.aload_n 2, []), (.invokevirtual 140, [160, 1, 16]), (.if_icmp .eq 61, [1089]), (.iconst 0, []), (.ireturn, [1])]
def b_W_law_1033 : List RI := [(.aload_n 1, []), (.aload_n 0, []), (.iload_n 3, []), (.iconst 1, []), (.iadd, []), (.iaload, []), (.invokevirtual 141, [80, 2, 15]), (.aload_n 2, []), (.aload_n 0, []), (.iload_n 3, []), (.iconst 1, []), (.iadd, []), (.iaload, []), (.invokevirtual 144, [161, 2, 16]), (.if_icmp .eq 38, [1089]), (.iconst 0, []), (.ireturn, [1])]
def b_W_law_1056 : List RI := [(.aload_n 1, []), (.aload_n 0, []), (.iload_n 3, []), (.iconst 1, []), (.iadd, []), (.iaload, []), (.aload_n 0, []), (.iload_n 3, []), (.iconst 2, []), (.iadd, []), (.iaload, []), (.invokevirtual 145, [81, 3, 15]), (.aload_n 2, []), (.aload_n 0, []), (.iload_n 3, []), (.iconst 1, []), (.iadd, []), (.iaload, []), (.aload_n 0, []), (.iload_n 3, []), (.iconst 2, []), (.iadd, []), (.iaload, []), (.invokevirtual 148, [162, 3, 16]), (.if_icmp .eq 5, [1089]), (.iconst 0, []), (.ireturn, [1])]
def b_W_law_1089 : List RI := [(.iinc 3 4, []), (.goto (-1074), [18])]
def b_W_law_1095 : List RI := [(.iconst 1, []), (.ireturn, [1])]
def p_W_law (L : Nat) : List RI := cond (Nat.blt L 648) (cond (Nat.blt L 431) (cond (Nat.blt L 256) (cond (Nat.blt L 180) (cond (Nat.blt L 18) (cond (Nat.beq L 0) b_W_law_0 []) (cond (Nat.beq L 18) b_W_law_18 [])) (cond (Nat.blt L 213) (cond (Nat.beq L 180) b_W_law_180 []) (cond (Nat.beq L 213) b_W_law_213 []))) (cond (Nat.blt L 332) (cond (Nat.blt L 299) (cond (Nat.beq L 256) b_W_law_256 []) (cond (Nat.beq L 299) b_W_law_299 [])) (cond (Nat.blt L 375) (cond (Nat.beq L 332) b_W_law_332 []) (cond (Nat.blt L 398) (cond (Nat.beq L 375) b_W_law_375 []) (cond (Nat.beq L 398) b_W_law_398 []))))) (cond (Nat.blt L 543) (cond (Nat.blt L 497) (cond (Nat.blt L 464) (cond (Nat.beq L 431) b_W_law_431 []) (cond (Nat.beq L 464) b_W_law_464 [])) (cond (Nat.blt L 530) (cond (Nat.beq L 497) b_W_law_497 []) (cond (Nat.beq L 530) b_W_law_530 []))) (cond (Nat.blt L 589) (cond (Nat.blt L 566) (cond (Nat.beq L 543) b_W_law_543 []) (cond (Nat.beq L 566) b_W_law_566 [])) (cond (Nat.blt L 612) (cond (Nat.beq L 589) b_W_law_589 []) (cond (Nat.blt L 625) (cond (Nat.beq L 612) b_W_law_612 []) (cond (Nat.beq L 625) b_W_law_625 [])))))) (cond (Nat.blt L 885) (cond (Nat.blt L 730) (cond (Nat.blt L 674) (cond (Nat.blt L 661) (cond (Nat.beq L 648) b_W_law_648 []) (cond (Nat.beq L 661) b_W_law_661 [])) (cond (Nat.blt L 697) (cond (Nat.beq L 674) b_W_law_674 []) (cond (Nat.beq L 697) b_W_law_697 []))) (cond (Nat.blt L 796) (cond (Nat.blt L 763) (cond (Nat.beq L 730) b_W_law_730 []) (cond (Nat.beq L 763) b_W_law_763 [])) (cond (Nat.blt L 819) (cond (Nat.beq L 796) b_W_law_796 []) (cond (Nat.blt L 852) (cond (Nat.beq L 819) b_W_law_819 []) (cond (Nat.beq L 852) b_W_law_852 []))))) (cond (Nat.blt L 1020) (cond (Nat.blt L 941) (cond (Nat.blt L 918) (cond (Nat.beq L 885) b_W_law_885 []) (cond (Nat.beq L 918) b_W_law_918 [])) (cond (Nat.blt L 974) (cond (Nat.beq L 941) b_W_law_941 []) (cond (Nat.blt L 997) (cond (Nat.beq L 974) b_W_law_974 []) (cond (Nat.beq L 997) b_W_law_997 [])))) (cond (Nat.blt L 1056) (cond (Nat.blt L 1033) (cond (Nat.beq L 1020) b_W_law_1020 []) (cond (Nat.beq L 1033) b_W_law_1033 [])) (cond (Nat.blt L 1089) (cond (Nat.beq L 1056) b_W_law_1056 []) (cond (Nat.blt L 1095) (cond (Nat.beq L 1089) b_W_law_1089 []) (cond (Nat.beq L 1095) b_W_law_1095 []))))))
def P (k : Nat) : Nat → List RI := cond (Nat.blt k 82) (cond (Nat.blt k 41) (cond (Nat.blt k 20) (cond (Nat.blt k 10) (cond (Nat.blt k 5) (cond (Nat.blt k 2) (cond (Nat.blt k 1) (cond (Nat.beq k 0) p_A_init (fun _ => [])) (cond (Nat.beq k 1) p_A_follow (fun _ => []))) (cond (Nat.blt k 3) (cond (Nat.beq k 2) p_A_changeIn (fun _ => [])) (cond (Nat.blt k 4) (cond (Nat.beq k 3) p_P_init (fun _ => [])) (cond (Nat.beq k 4) p_P_prepare (fun _ => []))))) (cond (Nat.blt k 7) (cond (Nat.blt k 6) (cond (Nat.beq k 5) p_P_fillCosts (fun _ => [])) (cond (Nat.beq k 6) p_P_useSpeed (fun _ => []))) (cond (Nat.blt k 8) (cond (Nat.beq k 7) p_P_barOthers (fun _ => [])) (cond (Nat.blt k 9) (cond (Nat.beq k 8) p_P_leastFromEnd (fun _ => [])) (cond (Nat.beq k 9) p_P_fillRest (fun _ => [])))))) (cond (Nat.blt k 15) (cond (Nat.blt k 12) (cond (Nat.blt k 11) (cond (Nat.beq k 10) p_P_leastOfLeaving (fun _ => [])) (cond (Nat.beq k 11) p_P_longer (fun _ => []))) (cond (Nat.blt k 13) (cond (Nat.beq k 12) p_P_leastFromStart (fun _ => [])) (cond (Nat.blt k 14) (cond (Nat.beq k 13) p_P_fillHere (fun _ => [])) (cond (Nat.beq k 14) p_P_leastOfEntering (fun _ => []))))) (cond (Nat.blt k 17) (cond (Nat.blt k 16) (cond (Nat.beq k 15) p_P_choose (fun _ => [])) (cond (Nat.beq k 16) p_P_bestFirst (fun _ => []))) (cond (Nat.blt k 18) (cond (Nat.beq k 17) p_P_bestNext (fun _ => [])) (cond (Nat.blt k 19) (cond (Nat.beq k 18) p_R_init (fun _ => [])) (cond (Nat.beq k 19) p_R_readItems (fun _ => []))))))) (cond (Nat.blt k 30) (cond (Nat.blt k 25) (cond (Nat.blt k 22) (cond (Nat.blt k 21) (cond (Nat.beq k 20) p_R_readItem (fun _ => [])) (cond (Nat.beq k 21) p_R_readNumber (fun _ => []))) (cond (Nat.blt k 23) (cond (Nat.beq k 22) p_R_skipSpaces (fun _ => [])) (cond (Nat.blt k 24) (cond (Nat.beq k 23) p_R_isDigit (fun _ => [])) (cond (Nat.beq k 24) p_R_kindOf (fun _ => []))))) (cond (Nat.blt k 27) (cond (Nat.blt k 26) (cond (Nat.beq k 25) p_S_init (fun _ => [])) (cond (Nat.beq k 26) p_S_copyFrom (fun _ => []))) (cond (Nat.blt k 28) (cond (Nat.beq k 27) p_S_hasMouth (fun _ => [])) (cond (Nat.blt k 29) (cond (Nat.beq k 28) p_S_hasSegment (fun _ => [])) (cond (Nat.beq k 29) p_S_hasFrame (fun _ => [])))))) (cond (Nat.blt k 35) (cond (Nat.blt k 32) (cond (Nat.blt k 31) (cond (Nat.beq k 30) p_S_hasRoomFor (fun _ => [])) (cond (Nat.beq k 31) p_S_distanceOf (fun _ => []))) (cond (Nat.blt k 33) (cond (Nat.beq k 32) p_S_jumpOf (fun _ => [])) (cond (Nat.blt k 34) (cond (Nat.beq k 33) p_S_nearestOfAll (fun _ => [])) (cond (Nat.beq k 34) p_S_nearestWithin (fun _ => []))))) (cond (Nat.blt k 38) (cond (Nat.blt k 36) (cond (Nat.beq k 35) p_S_wrongOf (fun _ => [])) (cond (Nat.blt k 37) (cond (Nat.beq k 36) p_S_leastWrongFor (fun _ => [])) (cond (Nat.beq k 37) p_S_countSet (fun _ => [])))) (cond (Nat.blt k 39) (cond (Nat.beq k 38) p_S_firstFrameOf (fun _ => [])) (cond (Nat.blt k 40) (cond (Nat.beq k 39) p_S_segmentAt (fun _ => [])) (cond (Nat.beq k 40) p_S_kindAt (fun _ => [])))))))) (cond (Nat.blt k 61) (cond (Nat.blt k 51) (cond (Nat.blt k 46) (cond (Nat.blt k 43) (cond (Nat.blt k 42) (cond (Nat.beq k 41) p_S_openSegment (fun _ => [])) (cond (Nat.beq k 42) p_S_closeSegment (fun _ => []))) (cond (Nat.blt k 44) (cond (Nat.beq k 43) p_S_openFrames (fun _ => [])) (cond (Nat.blt k 45) (cond (Nat.beq k 44) p_S_closeFrames (fun _ => [])) (cond (Nat.beq k 45) p_T_init (fun _ => []))))) (cond (Nat.blt k 48) (cond (Nat.blt k 47) (cond (Nat.beq k 46) p_T_copyFrom (fun _ => [])) (cond (Nat.beq k 47) p_T_countTaken (fun _ => []))) (cond (Nat.blt k 49) (cond (Nat.beq k 48) p_L_init (fun _ => [])) (cond (Nat.blt k 50) (cond (Nat.beq k 49) p_L_addMouth (fun _ => [])) (cond (Nat.beq k 50) p_L_setMouth (fun _ => [])))))) (cond (Nat.blt k 56) (cond (Nat.blt k 53) (cond (Nat.blt k 52) (cond (Nat.beq k 51) p_L_setSound (fun _ => [])) (cond (Nat.beq k 52) p_L_setNumber (fun _ => []))) (cond (Nat.blt k 54) (cond (Nat.beq k 53) p_L_insert (fun _ => [])) (cond (Nat.blt k 55) (cond (Nat.beq k 54) p_L_remove (fun _ => [])) (cond (Nat.beq k 55) p_L_stretch (fun _ => []))))) (cond (Nat.blt k 58) (cond (Nat.blt k 57) (cond (Nat.beq k 56) p_L_pin (fun _ => [])) (cond (Nat.beq k 57) p_L_draw (fun _ => []))) (cond (Nat.blt k 59) (cond (Nat.beq k 58) p_L_between (fun _ => [])) (cond (Nat.blt k 60) (cond (Nat.beq k 59) p_L_finish (fun _ => [])) (cond (Nat.beq k 60) p_L_breathe (fun _ => []))))))) (cond (Nat.blt k 71) (cond (Nat.blt k 66) (cond (Nat.blt k 63) (cond (Nat.blt k 62) (cond (Nat.beq k 61) p_L_take (fun _ => [])) (cond (Nat.beq k 62) p_L_restore (fun _ => []))) (cond (Nat.blt k 64) (cond (Nat.beq k 63) p_L_undo (fun _ => [])) (cond (Nat.blt k 65) (cond (Nat.beq k 64) p_L_append (fun _ => [])) (cond (Nat.beq k 65) p_L_clearText (fun _ => []))))) (cond (Nat.blt k 68) (cond (Nat.blt k 67) (cond (Nat.beq k 66) p_L_load (fun _ => [])) (cond (Nat.beq k 67) p_L_count (fun _ => []))) (cond (Nat.blt k 69) (cond (Nat.beq k 68) p_L_mouth (fun _ => [])) (cond (Nat.blt k 70) (cond (Nat.beq k 69) p_L_jump (fun _ => [])) (cond (Nat.beq k 70) p_L_sound (fun _ => [])))))) (cond (Nat.blt k 76) (cond (Nat.blt k 73) (cond (Nat.blt k 72) (cond (Nat.beq k 71) p_L_number (fun _ => [])) (cond (Nat.beq k 72) p_L_segment (fun _ => []))) (cond (Nat.blt k 74) (cond (Nat.beq k 73) p_L_frame (fun _ => [])) (cond (Nat.blt k 75) (cond (Nat.beq k 74) p_L_wrongness (fun _ => [])) (cond (Nat.beq k 75) p_L_least (fun _ => []))))) (cond (Nat.blt k 79) (cond (Nat.blt k 77) (cond (Nat.beq k 76) p_L_leastWith (fun _ => [])) (cond (Nat.blt k 78) (cond (Nat.beq k 77) p_L_why (fun _ => [])) (cond (Nat.beq k 78) p_L_fault (fun _ => [])))) (cond (Nat.blt k 80) (cond (Nat.beq k 79) p_L_drawnSum (fun _ => [])) (cond (Nat.blt k 81) (cond (Nat.beq k 80) p_L_speedFor (fun _ => [])) (cond (Nat.beq k 81) p_L_nearest (fun _ => []))))))))) (cond (Nat.blt k 123) (cond (Nat.blt k 102) (cond (Nat.blt k 92) (cond (Nat.blt k 87) (cond (Nat.blt k 84) (cond (Nat.blt k 83) (cond (Nat.beq k 82) p_L_isOutside (fun _ => [])) (cond (Nat.beq k 83) p_L_recordState (fun _ => []))) (cond (Nat.blt k 85) (cond (Nat.beq k 84) p_L_partWay (fun _ => [])) (cond (Nat.blt k 86) (cond (Nat.beq k 85) p_L_faultAt (fun _ => [])) (cond (Nat.beq k 86) p_M_init (fun _ => []))))) (cond (Nat.blt k 89) (cond (Nat.blt k 88) (cond (Nat.beq k 87) p_M_in (fun _ => [])) (cond (Nat.beq k 88) p_M_apart (fun _ => []))) (cond (Nat.blt k 90) (cond (Nat.beq k 89) p_M_greater (fun _ => [])) (cond (Nat.blt k 91) (cond (Nat.beq k 90) p_M_bring (fun _ => [])) (cond (Nat.beq k 91) p_M_keep (fun _ => [])))))) (cond (Nat.blt k 97) (cond (Nat.blt k 94) (cond (Nat.blt k 93) (cond (Nat.beq k 92) p_M_isMouth (fun _ => [])) (cond (Nat.beq k 93) p_M_isSegment (fun _ => []))) (cond (Nat.blt k 95) (cond (Nat.beq k 94) p_M_opening (fun _ => [])) (cond (Nat.blt k 96) (cond (Nat.beq k 95) p_M_width (fun _ => [])) (cond (Nat.beq k 96) p_M_farBetween (fun _ => []))))) (cond (Nat.blt k 99) (cond (Nat.blt k 98) (cond (Nat.beq k 97) p_M_kindOf (fun _ => [])) (cond (Nat.beq k 98) p_M_framesOf (fun _ => []))) (cond (Nat.blt k 100) (cond (Nat.beq k 99) p_M_setting (fun _ => [])) (cond (Nat.blt k 101) (cond (Nat.beq k 100) p_M_firstOf (fun _ => [])) (cond (Nat.beq k 101) p_M_frames (fun _ => []))))))) (cond (Nat.blt k 112) (cond (Nat.blt k 107) (cond (Nat.blt k 104) (cond (Nat.blt k 103) (cond (Nat.beq k 102) p_M_isFrame (fun _ => [])) (cond (Nat.beq k 103) p_M_segmentOf (fun _ => []))) (cond (Nat.blt k 105) (cond (Nat.beq k 104) p_M_isSize (fun _ => [])) (cond (Nat.blt k 106) (cond (Nat.beq k 105) p_M_addMouth (fun _ => [])) (cond (Nat.beq k 106) p_M_setMouth (fun _ => []))))) (cond (Nat.blt k 109) (cond (Nat.blt k 108) (cond (Nat.beq k 107) p_M_setSound (fun _ => [])) (cond (Nat.beq k 108) p_M_isSetting (fun _ => []))) (cond (Nat.blt k 110) (cond (Nat.beq k 109) p_M_setNumber (fun _ => [])) (cond (Nat.blt k 111) (cond (Nat.beq k 110) p_M_opens (fun _ => [])) (cond (Nat.beq k 111) p_M_closes (fun _ => [])))))) (cond (Nat.blt k 117) (cond (Nat.blt k 114) (cond (Nat.blt k 113) (cond (Nat.beq k 112) p_M_allOf (fun _ => [])) (cond (Nat.beq k 113) p_M_inserts (fun _ => []))) (cond (Nat.blt k 115) (cond (Nat.beq k 114) p_M_hasRoom (fun _ => [])) (cond (Nat.blt k 116) (cond (Nat.beq k 115) p_M_insert (fun _ => [])) (cond (Nat.beq k 116) p_M_remove (fun _ => []))))) (cond (Nat.blt k 120) (cond (Nat.blt k 118) (cond (Nat.beq k 117) p_M_stretch (fun _ => [])) (cond (Nat.blt k 119) (cond (Nat.beq k 118) p_M_puts (fun _ => [])) (cond (Nat.beq k 119) p_M_pin (fun _ => [])))) (cond (Nat.blt k 121) (cond (Nat.beq k 120) p_M_draw (fun _ => [])) (cond (Nat.blt k 122) (cond (Nat.beq k 121) p_M_nearestTo (fun _ => [])) (cond (Nat.beq k 122) p_M_between (fun _ => [])))))))) (cond (Nat.blt k 143) (cond (Nat.blt k 133) (cond (Nat.blt k 128) (cond (Nat.blt k 125) (cond (Nat.blt k 124) (cond (Nat.beq k 123) p_M_finish (fun _ => [])) (cond (Nat.beq k 124) p_M_breathes (fun _ => []))) (cond (Nat.blt k 126) (cond (Nat.beq k 125) p_M_segmentIn (fun _ => [])) (cond (Nat.blt k 127) (cond (Nat.beq k 126) p_M_breathe (fun _ => [])) (cond (Nat.beq k 127) p_M_take (fun _ => []))))) (cond (Nat.blt k 130) (cond (Nat.blt k 129) (cond (Nat.beq k 128) p_M_restore (fun _ => [])) (cond (Nat.beq k 129) p_M_undo (fun _ => []))) (cond (Nat.blt k 131) (cond (Nat.beq k 130) p_M_append (fun _ => [])) (cond (Nat.blt k 132) (cond (Nat.beq k 131) p_M_clearText (fun _ => [])) (cond (Nat.beq k 132) p_M_here (fun _ => [])))))) (cond (Nat.blt k 138) (cond (Nat.blt k 135) (cond (Nat.blt k 134) (cond (Nat.beq k 133) p_M_overSpaces (fun _ => [])) (cond (Nat.beq k 134) p_M_readNumber (fun _ => []))) (cond (Nat.blt k 136) (cond (Nat.beq k 135) p_M_readItem (fun _ => [])) (cond (Nat.blt k 137) (cond (Nat.beq k 136) p_M_load (fun _ => [])) (cond (Nat.beq k 137) p_M_layKinds (fun _ => []))))) (cond (Nat.blt k 140) (cond (Nat.blt k 139) (cond (Nat.beq k 138) p_M_wrongBy (fun _ => [])) (cond (Nat.beq k 139) p_M_cellOf (fun _ => []))) (cond (Nat.blt k 141) (cond (Nat.beq k 140) p_M_behind (fun _ => [])) (cond (Nat.blt k 142) (cond (Nat.beq k 141) p_M_findPlan (fun _ => [])) (cond (Nat.beq k 142) p_M_lays (fun _ => []))))))) (cond (Nat.blt k 153) (cond (Nat.blt k 148) (cond (Nat.blt k 145) (cond (Nat.blt k 144) (cond (Nat.beq k 143) p_M_manyOf (fun _ => [])) (cond (Nat.beq k 144) p_M_manyGasps (fun _ => []))) (cond (Nat.blt k 146) (cond (Nat.beq k 145) p_M_count (fun _ => [])) (cond (Nat.blt k 147) (cond (Nat.beq k 146) p_M_mouth (fun _ => [])) (cond (Nat.beq k 147) p_M_jump (fun _ => []))))) (cond (Nat.blt k 150) (cond (Nat.blt k 149) (cond (Nat.beq k 148) p_M_sound (fun _ => [])) (cond (Nat.beq k 149) p_M_number (fun _ => []))) (cond (Nat.blt k 151) (cond (Nat.beq k 150) p_M_segment (fun _ => [])) (cond (Nat.blt k 152) (cond (Nat.beq k 151) p_M_orNone (fun _ => [])) (cond (Nat.beq k 152) p_M_tellAir (fun _ => [])))))) (cond (Nat.blt k 158) (cond (Nat.blt k 155) (cond (Nat.blt k 154) (cond (Nat.beq k 153) p_M_frame (fun _ => [])) (cond (Nat.beq k 154) p_M_wrongness (fun _ => []))) (cond (Nat.blt k 156) (cond (Nat.beq k 155) p_M_least (fun _ => [])) (cond (Nat.blt k 157) (cond (Nat.beq k 156) p_M_leastWith (fun _ => [])) (cond (Nat.beq k 157) p_M_why (fun _ => []))))) (cond (Nat.blt k 161) (cond (Nat.blt k 159) (cond (Nat.beq k 158) p_M_faultIn (fun _ => [])) (cond (Nat.blt k 160) (cond (Nat.beq k 159) p_M_fault (fun _ => [])) (cond (Nat.beq k 160) p_M_drawnSum (fun _ => [])))) (cond (Nat.blt k 162) (cond (Nat.beq k 161) p_M_speedFor (fun _ => [])) (cond (Nat.blt k 163) (cond (Nat.beq k 162) p_M_nearest (fun _ => [])) (cond (Nat.beq k 163) p_W_law (fun _ => [])))))))))
def lbM (k : Nat) : List Nat := cond (Nat.blt k 82) (cond (Nat.blt k 41) (cond (Nat.blt k 20) (cond (Nat.blt k 10) (cond (Nat.blt k 5) (cond (Nat.blt k 2) (cond (Nat.blt k 1) (cond (Nat.beq k 0) ([0]) []) (cond (Nat.beq k 1) ([0, 22, 49, 84, 85, 108, 112, 125, 156, 162]) [])) (cond (Nat.blt k 3) (cond (Nat.beq k 2) ([0, 15, 26]) []) (cond (Nat.blt k 4) (cond (Nat.beq k 3) ([0]) []) (cond (Nat.beq k 4) ([0, 41, 66, 90, 96]) [])))) (cond (Nat.blt k 7) (cond (Nat.blt k 6) (cond (Nat.beq k 5) ([0, 3, 37, 59]) []) (cond (Nat.beq k 6) ([0, 2, 13, 48, 49, 56, 62]) [])) (cond (Nat.blt k 8) (cond (Nat.beq k 7) ([0, 2, 28, 34]) []) (cond (Nat.blt k 9) (cond (Nat.beq k 8) ([0, 9, 16, 22, 42, 48, 53, 80, 90, 92]) []) (cond (Nat.beq k 9) ([0, 23, 24, 29, 47, 63, 96, 130]) []))))) (cond (Nat.blt k 15) (cond (Nat.blt k 12) (cond (Nat.blt k 11) (cond (Nat.beq k 10) ([0, 6, 55, 61]) []) (cond (Nat.beq k 11) ([0]) [])) (cond (Nat.blt k 13) (cond (Nat.beq k 12) ([0, 9, 11, 36, 56, 62, 67, 77, 106, 112, 122, 124]) []) (cond (Nat.blt k 14) (cond (Nat.beq k 13) ([0, 7, 33, 46, 51, 60, 64, 69, 120, 123, 173]) []) (cond (Nat.beq k 14) ([0, 5, 52, 58]) [])))) (cond (Nat.blt k 17) (cond (Nat.blt k 16) (cond (Nat.beq k 15) ([0, 11, 15, 39, 53, 83, 84, 91]) []) (cond (Nat.beq k 16) ([0, 4, 33, 39]) [])) (cond (Nat.blt k 18) (cond (Nat.beq k 17) ([0, 10, 54, 95, 110, 116]) []) (cond (Nat.blt k 19) (cond (Nat.beq k 18) ([0]) []) (cond (Nat.beq k 19) ([0, 32, 73]) [])))))) (cond (Nat.blt k 30) (cond (Nat.blt k 25) (cond (Nat.blt k 22) (cond (Nat.blt k 21) (cond (Nat.beq k 20) ([0, 27, 36, 76, 155]) []) (cond (Nat.beq k 21) ([0, 12, 77, 102, 103, 130, 135]) [])) (cond (Nat.blt k 23) (cond (Nat.beq k 22) ([0, 38]) []) (cond (Nat.blt k 24) (cond (Nat.beq k 23) ([0, 16, 17]) []) (cond (Nat.beq k 24) ([0, 9, 28, 29]) [])))) (cond (Nat.blt k 27) (cond (Nat.blt k 26) (cond (Nat.beq k 25) ([0, 81, 106, 108, 130]) []) (cond (Nat.beq k 26) ([0]) [])) (cond (Nat.blt k 28) (cond (Nat.beq k 27) ([0, 16, 17]) []) (cond (Nat.blt k 29) (cond (Nat.beq k 28) ([0, 16, 17]) []) (cond (Nat.beq k 29) ([0, 16, 17]) []))))) (cond (Nat.blt k 35) (cond (Nat.blt k 32) (cond (Nat.blt k 31) (cond (Nat.beq k 30) ([0, 24, 25]) []) (cond (Nat.beq k 31) ([0]) [])) (cond (Nat.blt k 33) (cond (Nat.beq k 32) ([0]) []) (cond (Nat.blt k 34) (cond (Nat.beq k 33) ([0, 5, 35, 41]) []) (cond (Nat.beq k 34) ([0, 6, 56, 60, 66, 76, 78]) [])))) (cond (Nat.blt k 38) (cond (Nat.blt k 36) (cond (Nat.beq k 35) ([0, 27]) []) (cond (Nat.blt k 37) (cond (Nat.beq k 36) ([0, 4, 29, 35]) []) (cond (Nat.beq k 37) ([0, 4, 23, 29]) []))) (cond (Nat.blt k 39) (cond (Nat.beq k 38) ([0, 4, 24]) []) (cond (Nat.blt k 40) (cond (Nat.beq k 39) ([0, 4, 28, 34]) []) (cond (Nat.beq k 40) ([0]) []))))))) (cond (Nat.blt k 61) (cond (Nat.blt k 51) (cond (Nat.blt k 46) (cond (Nat.blt k 43) (cond (Nat.blt k 42) (cond (Nat.beq k 41) ([0, 16, 60]) []) (cond (Nat.beq k 42) ([0, 19, 61]) [])) (cond (Nat.blt k 44) (cond (Nat.beq k 43) ([0, 7, 46, 48, 77]) []) (cond (Nat.blt k 45) (cond (Nat.beq k 44) ([0, 4, 46]) []) (cond (Nat.beq k 45) ([0, 25, 49]) [])))) (cond (Nat.blt k 48) (cond (Nat.blt k 47) (cond (Nat.beq k 46) ([0, 13, 54, 60]) []) (cond (Nat.beq k 47) ([0, 4, 21, 27]) [])) (cond (Nat.blt k 49) (cond (Nat.beq k 48) ([0, 25, 49]) []) (cond (Nat.blt k 50) (cond (Nat.beq k 49) ([0, 28, 30, 42]) []) (cond (Nat.beq k 50) ([0, 38, 40]) []))))) (cond (Nat.blt k 56) (cond (Nat.blt k 53) (cond (Nat.blt k 52) (cond (Nat.beq k 51) ([0, 32, 34]) []) (cond (Nat.beq k 52) ([0, 26, 28]) [])) (cond (Nat.blt k 54) (cond (Nat.beq k 53) ([0, 42, 44, 56]) []) (cond (Nat.blt k 55) (cond (Nat.beq k 54) ([0, 18]) []) (cond (Nat.beq k 55) ([0, 26, 28, 53, 85, 98]) [])))) (cond (Nat.blt k 58) (cond (Nat.blt k 57) (cond (Nat.beq k 56) ([0, 29, 31, 58, 59]) []) (cond (Nat.beq k 57) ([0, 29, 31, 58, 59]) [])) (cond (Nat.blt k 59) (cond (Nat.beq k 58) ([0, 29, 31, 65, 68, 81, 166]) []) (cond (Nat.blt k 60) (cond (Nat.beq k 59) ([0, 31, 45, 86]) []) (cond (Nat.beq k 60) ([0, 12, 28, 61, 81, 84, 98, 115]) [])))))) (cond (Nat.blt k 71) (cond (Nat.blt k 66) (cond (Nat.blt k 63) (cond (Nat.blt k 62) (cond (Nat.beq k 61) ([0, 11]) []) (cond (Nat.beq k 62) ([0, 11, 26]) [])) (cond (Nat.blt k 64) (cond (Nat.beq k 63) ([0, 10]) []) (cond (Nat.blt k 65) (cond (Nat.beq k 64) ([0, 13, 25]) []) (cond (Nat.beq k 65) ([0]) [])))) (cond (Nat.blt k 68) (cond (Nat.blt k 67) (cond (Nat.beq k 66) ([0, 57]) []) (cond (Nat.beq k 67) ([0, 60, 65, 70, 75, 84, 93, 109, 117, 122, 127]) [])) (cond (Nat.blt k 69) (cond (Nat.beq k 68) ([0, 23, 25, 44, 56]) []) (cond (Nat.blt k 70) (cond (Nat.beq k 69) ([0, 28, 30]) []) (cond (Nat.beq k 70) ([0, 19, 21]) []))))) (cond (Nat.blt k 76) (cond (Nat.blt k 73) (cond (Nat.blt k 72) (cond (Nat.beq k 71) ([0, 11]) []) (cond (Nat.beq k 72) ([0, 18, 44, 51, 58, 64]) [])) (cond (Nat.blt k 74) (cond (Nat.beq k 73) ([0, 18, 60, 66, 72, 79, 86, 104, 128, 129, 130, 160, 162, 163]) []) (cond (Nat.blt k 75) (cond (Nat.beq k 74) ([0, 28, 30]) []) (cond (Nat.beq k 75) ([0, 11, 39, 46]) [])))) (cond (Nat.blt k 79) (cond (Nat.blt k 77) (cond (Nat.beq k 76) ([0, 28, 30]) []) (cond (Nat.blt k 78) (cond (Nat.beq k 77) ([0, 18, 39, 86, 99, 127, 161]) []) (cond (Nat.beq k 78) ([0, 11, 24, 56, 58, 59, 89, 90, 97]) []))) (cond (Nat.blt k 80) (cond (Nat.beq k 79) ([0, 12, 36, 60]) []) (cond (Nat.blt k 81) (cond (Nat.beq k 80) ([0, 12, 32, 77, 83]) []) (cond (Nat.beq k 81) ([0, 20, 22]) [])))))))) (cond (Nat.blt k 123) (cond (Nat.blt k 102) (cond (Nat.blt k 92) (cond (Nat.blt k 87) (cond (Nat.blt k 84) (cond (Nat.blt k 83) (cond (Nat.beq k 82) ([0, 10, 14, 15]) []) (cond (Nat.beq k 83) ([0, 17, 42, 54]) [])) (cond (Nat.blt k 85) (cond (Nat.beq k 84) ([0, 16, 17]) []) (cond (Nat.blt k 86) (cond (Nat.beq k 85) ([0, 17, 40, 46, 74, 94, 95]) []) (cond (Nat.beq k 86) ([0, 96, 162]) [])))) (cond (Nat.blt k 89) (cond (Nat.blt k 88) (cond (Nat.beq k 87) ([0, 14, 15]) []) (cond (Nat.beq k 88) ([0, 11, 14]) [])) (cond (Nat.blt k 90) (cond (Nat.beq k 89) ([0, 9, 10]) []) (cond (Nat.blt k 91) (cond (Nat.beq k 90) ([0, 3, 28]) []) (cond (Nat.beq k 91) ([0, 36]) []))))) (cond (Nat.blt k 97) (cond (Nat.blt k 94) (cond (Nat.blt k 93) (cond (Nat.beq k 92) ([0]) []) (cond (Nat.beq k 93) ([0]) [])) (cond (Nat.blt k 95) (cond (Nat.beq k 94) ([0]) []) (cond (Nat.blt k 96) (cond (Nat.beq k 95) ([0]) []) (cond (Nat.beq k 96) ([0]) [])))) (cond (Nat.blt k 99) (cond (Nat.blt k 98) (cond (Nat.beq k 97) ([0]) []) (cond (Nat.beq k 98) ([0]) [])) (cond (Nat.blt k 100) (cond (Nat.beq k 99) ([0]) []) (cond (Nat.blt k 101) (cond (Nat.beq k 100) ([0, 4, 23]) []) (cond (Nat.beq k 101) ([0]) [])))))) (cond (Nat.blt k 112) (cond (Nat.blt k 107) (cond (Nat.blt k 104) (cond (Nat.blt k 103) (cond (Nat.beq k 102) ([0]) []) (cond (Nat.beq k 103) ([0, 2, 19]) [])) (cond (Nat.blt k 105) (cond (Nat.beq k 104) ([0]) []) (cond (Nat.blt k 106) (cond (Nat.beq k 105) ([0, 14, 16, 30]) []) (cond (Nat.beq k 106) ([0, 22, 24]) [])))) (cond (Nat.blt k 109) (cond (Nat.blt k 108) (cond (Nat.beq k 107) ([0, 30, 32, 38, 40]) []) (cond (Nat.beq k 108) ([0, 32, 40, 47, 55, 63, 82, 83]) [])) (cond (Nat.blt k 110) (cond (Nat.beq k 109) ([0, 10]) []) (cond (Nat.blt k 111) (cond (Nat.beq k 110) ([0, 5, 51, 54, 85]) []) (cond (Nat.beq k 111) ([0, 3, 51]) []))))) (cond (Nat.blt k 117) (cond (Nat.blt k 114) (cond (Nat.blt k 113) (cond (Nat.beq k 112) ([0, 4, 31]) []) (cond (Nat.beq k 113) ([0, 12, 40, 62, 89]) [])) (cond (Nat.blt k 115) (cond (Nat.beq k 114) ([0, 24, 25]) []) (cond (Nat.blt k 116) (cond (Nat.beq k 115) ([0, 35, 37, 51]) []) (cond (Nat.beq k 116) ([0, 10, 53, 89]) [])))) (cond (Nat.blt k 120) (cond (Nat.blt k 118) (cond (Nat.beq k 117) ([0, 18, 20, 42, 79, 97]) []) (cond (Nat.blt k 119) (cond (Nat.beq k 118) ([0, 21, 23, 56, 58]) []) (cond (Nat.beq k 119) ([0]) []))) (cond (Nat.blt k 121) (cond (Nat.beq k 120) ([0]) []) (cond (Nat.blt k 122) (cond (Nat.beq k 121) ([0, 11, 66, 77, 78, 90, 92, 104, 106, 114]) []) (cond (Nat.beq k 122) ([0, 21, 23, 55, 58, 67, 169]) []))))))) (cond (Nat.blt k 143) (cond (Nat.blt k 133) (cond (Nat.blt k 128) (cond (Nat.blt k 125) (cond (Nat.blt k 124) (cond (Nat.beq k 123) ([0, 23]) []) (cond (Nat.beq k 124) ([0, 14, 37, 64, 75, 92, 93, 114, 116, 131, 135, 151, 152, 169, 170, 187, 193]) [])) (cond (Nat.blt k 126) (cond (Nat.beq k 125) ([0, 4, 37]) []) (cond (Nat.blt k 127) (cond (Nat.beq k 126) ([0, 12, 39, 79, 82, 96, 123]) []) (cond (Nat.beq k 127) ([0, 11]) [])))) (cond (Nat.blt k 130) (cond (Nat.blt k 129) (cond (Nat.beq k 128) ([0, 11, 33]) []) (cond (Nat.beq k 129) ([0, 10]) [])) (cond (Nat.blt k 131) (cond (Nat.beq k 130) ([0, 13, 25]) []) (cond (Nat.blt k 132) (cond (Nat.beq k 131) ([0]) []) (cond (Nat.beq k 132) ([0, 23, 24]) []))))) (cond (Nat.blt k 138) (cond (Nat.blt k 135) (cond (Nat.blt k 134) (cond (Nat.beq k 133) ([0, 22]) []) (cond (Nat.beq k 134) ([0, 14, 46, 61, 77, 118, 122, 123, 138, 139]) [])) (cond (Nat.blt k 136) (cond (Nat.beq k 135) ([0, 22, 26, 27, 44, 46, 79, 81, 89, 120, 124, 146, 174]) []) (cond (Nat.blt k 137) (cond (Nat.beq k 136) ([0, 27, 54, 64]) []) (cond (Nat.beq k 137) ([0, 4, 17, 46, 52]) [])))) (cond (Nat.blt k 140) (cond (Nat.blt k 139) (cond (Nat.beq k 138) ([0, 23, 37, 38]) []) (cond (Nat.beq k 139) ([0]) [])) (cond (Nat.blt k 141) (cond (Nat.beq k 140) ([0, 10, 37, 39, 48, 100, 102, 116, 118, 126]) []) (cond (Nat.blt k 142) (cond (Nat.beq k 141) ([0, 16, 24, 63, 75, 79, 80, 100, 134, 136, 163, 165, 172, 178, 184, 193, 200]) []) (cond (Nat.beq k 142) ([0, 20, 56, 62, 75, 77, 85, 95, 101, 148, 164, 165, 190, 194, 195, 215, 224, 225, 256, 258, 266, 277, 290, 291, 308]) [])))))) (cond (Nat.blt k 153) (cond (Nat.blt k 148) (cond (Nat.blt k 145) (cond (Nat.blt k 144) (cond (Nat.beq k 143) ([0, 4, 28, 29, 37]) []) (cond (Nat.beq k 144) ([0, 13, 35, 36, 44]) [])) (cond (Nat.blt k 146) (cond (Nat.beq k 145) ([0, 52, 59, 67, 72, 79, 87, 92, 110, 115, 120]) []) (cond (Nat.blt k 147) (cond (Nat.beq k 146) ([0, 32, 33]) []) (cond (Nat.beq k 147) ([0, 25, 26]) [])))) (cond (Nat.blt k 150) (cond (Nat.blt k 149) (cond (Nat.beq k 148) ([0, 35, 36]) []) (cond (Nat.beq k 149) ([0, 17, 18]) [])) (cond (Nat.blt k 151) (cond (Nat.beq k 150) ([0, 17, 19, 31, 44, 49]) []) (cond (Nat.blt k 152) (cond (Nat.beq k 151) ([0, 9, 10]) []) (cond (Nat.beq k 152) ([0, 23, 41, 42]) []))))) (cond (Nat.blt k 158) (cond (Nat.blt k 155) (cond (Nat.blt k 154) (cond (Nat.beq k 153) ([0, 18, 20, 60, 66, 76, 89, 103, 110, 133, 139]) []) (cond (Nat.beq k 154) ([0, 33, 34]) [])) (cond (Nat.blt k 156) (cond (Nat.beq k 155) ([0, 25, 26]) []) (cond (Nat.blt k 157) (cond (Nat.beq k 156) ([0, 30, 31]) []) (cond (Nat.beq k 157) ([0, 10, 33, 38, 80, 81, 88, 120, 134, 157, 188, 189]) [])))) (cond (Nat.blt k 161) (cond (Nat.blt k 159) (cond (Nat.beq k 158) ([0, 17, 44, 50, 79, 87, 116, 135, 136]) []) (cond (Nat.blt k 160) (cond (Nat.beq k 159) ([0, 11, 13, 39, 40, 41, 47]) []) (cond (Nat.beq k 160) ([0, 8, 32, 61]) []))) (cond (Nat.blt k 162) (cond (Nat.beq k 161) ([0, 12, 14, 43, 49]) []) (cond (Nat.blt k 163) (cond (Nat.beq k 162) ([0, 25, 26]) []) (cond (Nat.beq k 163) ([0, 18, 180, 213, 256, 299, 332, 375, 398, 431, 464, 497, 530, 543, 566, 589, 612, 625, 648, 661, 674, 697, 730, 763, 796, 819, 852, 885, 918, 941, 974, 997, 1020, 1033, 1056, 1089, 1095]) []))))))))
theorem P_A_init_0 : P 0 0 = b_A_init_0 := rfl
theorem P_A_follow_0 : P 1 0 = b_A_follow_0 := rfl
theorem P_A_follow_22 : P 1 22 = b_A_follow_22 := rfl
theorem P_A_follow_49 : P 1 49 = b_A_follow_49 := rfl
theorem P_A_follow_84 : P 1 84 = b_A_follow_84 := rfl
theorem P_A_follow_85 : P 1 85 = b_A_follow_85 := rfl
theorem P_A_follow_108 : P 1 108 = b_A_follow_108 := rfl
theorem P_A_follow_112 : P 1 112 = b_A_follow_112 := rfl
theorem P_A_follow_125 : P 1 125 = b_A_follow_125 := rfl
theorem P_A_follow_156 : P 1 156 = b_A_follow_156 := rfl
theorem P_A_follow_162 : P 1 162 = b_A_follow_162 := rfl
theorem P_A_changeIn_0 : P 2 0 = b_A_changeIn_0 := rfl
theorem P_A_changeIn_15 : P 2 15 = b_A_changeIn_15 := rfl
theorem P_A_changeIn_26 : P 2 26 = b_A_changeIn_26 := rfl
theorem P_P_init_0 : P 3 0 = b_P_init_0 := rfl
theorem P_P_prepare_0 : P 4 0 = b_P_prepare_0 := rfl
theorem P_P_prepare_41 : P 4 41 = b_P_prepare_41 := rfl
theorem P_P_prepare_66 : P 4 66 = b_P_prepare_66 := rfl
theorem P_P_prepare_90 : P 4 90 = b_P_prepare_90 := rfl
theorem P_P_prepare_96 : P 4 96 = b_P_prepare_96 := rfl
theorem P_P_fillCosts_0 : P 5 0 = b_P_fillCosts_0 := rfl
theorem P_P_fillCosts_3 : P 5 3 = b_P_fillCosts_3 := rfl
theorem P_P_fillCosts_37 : P 5 37 = b_P_fillCosts_37 := rfl
theorem P_P_fillCosts_59 : P 5 59 = b_P_fillCosts_59 := rfl
theorem P_P_useSpeed_0 : P 6 0 = b_P_useSpeed_0 := rfl
theorem P_P_useSpeed_2 : P 6 2 = b_P_useSpeed_2 := rfl
theorem P_P_useSpeed_13 : P 6 13 = b_P_useSpeed_13 := rfl
theorem P_P_useSpeed_48 : P 6 48 = b_P_useSpeed_48 := rfl
theorem P_P_useSpeed_49 : P 6 49 = b_P_useSpeed_49 := rfl
theorem P_P_useSpeed_56 : P 6 56 = b_P_useSpeed_56 := rfl
theorem P_P_useSpeed_62 : P 6 62 = b_P_useSpeed_62 := rfl
theorem P_P_barOthers_0 : P 7 0 = b_P_barOthers_0 := rfl
theorem P_P_barOthers_2 : P 7 2 = b_P_barOthers_2 := rfl
theorem P_P_barOthers_28 : P 7 28 = b_P_barOthers_28 := rfl
theorem P_P_barOthers_34 : P 7 34 = b_P_barOthers_34 := rfl
theorem P_P_leastFromEnd_0 : P 8 0 = b_P_leastFromEnd_0 := rfl
theorem P_P_leastFromEnd_9 : P 8 9 = b_P_leastFromEnd_9 := rfl
theorem P_P_leastFromEnd_16 : P 8 16 = b_P_leastFromEnd_16 := rfl
theorem P_P_leastFromEnd_22 : P 8 22 = b_P_leastFromEnd_22 := rfl
theorem P_P_leastFromEnd_42 : P 8 42 = b_P_leastFromEnd_42 := rfl
theorem P_P_leastFromEnd_48 : P 8 48 = b_P_leastFromEnd_48 := rfl
theorem P_P_leastFromEnd_53 : P 8 53 = b_P_leastFromEnd_53 := rfl
theorem P_P_leastFromEnd_80 : P 8 80 = b_P_leastFromEnd_80 := rfl
theorem P_P_leastFromEnd_90 : P 8 90 = b_P_leastFromEnd_90 := rfl
theorem P_P_leastFromEnd_92 : P 8 92 = b_P_leastFromEnd_92 := rfl
theorem P_P_fillRest_0 : P 9 0 = b_P_fillRest_0 := rfl
theorem P_P_fillRest_23 : P 9 23 = b_P_fillRest_23 := rfl
theorem P_P_fillRest_24 : P 9 24 = b_P_fillRest_24 := rfl
theorem P_P_fillRest_29 : P 9 29 = b_P_fillRest_29 := rfl
theorem P_P_fillRest_47 : P 9 47 = b_P_fillRest_47 := rfl
theorem P_P_fillRest_63 : P 9 63 = b_P_fillRest_63 := rfl
theorem P_P_fillRest_96 : P 9 96 = b_P_fillRest_96 := rfl
theorem P_P_fillRest_130 : P 9 130 = b_P_fillRest_130 := rfl
theorem P_P_leastOfLeaving_0 : P 10 0 = b_P_leastOfLeaving_0 := rfl
theorem P_P_leastOfLeaving_6 : P 10 6 = b_P_leastOfLeaving_6 := rfl
theorem P_P_leastOfLeaving_55 : P 10 55 = b_P_leastOfLeaving_55 := rfl
theorem P_P_leastOfLeaving_61 : P 10 61 = b_P_leastOfLeaving_61 := rfl
theorem P_P_longer_0 : P 11 0 = b_P_longer_0 := rfl
theorem P_P_leastFromStart_0 : P 12 0 = b_P_leastFromStart_0 := rfl
theorem P_P_leastFromStart_9 : P 12 9 = b_P_leastFromStart_9 := rfl
theorem P_P_leastFromStart_11 : P 12 11 = b_P_leastFromStart_11 := rfl
theorem P_P_leastFromStart_36 : P 12 36 = b_P_leastFromStart_36 := rfl
theorem P_P_leastFromStart_56 : P 12 56 = b_P_leastFromStart_56 := rfl
theorem P_P_leastFromStart_62 : P 12 62 = b_P_leastFromStart_62 := rfl
theorem P_P_leastFromStart_67 : P 12 67 = b_P_leastFromStart_67 := rfl
theorem P_P_leastFromStart_77 : P 12 77 = b_P_leastFromStart_77 := rfl
theorem P_P_leastFromStart_106 : P 12 106 = b_P_leastFromStart_106 := rfl
theorem P_P_leastFromStart_112 : P 12 112 = b_P_leastFromStart_112 := rfl
theorem P_P_leastFromStart_122 : P 12 122 = b_P_leastFromStart_122 := rfl
theorem P_P_leastFromStart_124 : P 12 124 = b_P_leastFromStart_124 := rfl
theorem P_P_fillHere_0 : P 13 0 = b_P_fillHere_0 := rfl
theorem P_P_fillHere_7 : P 13 7 = b_P_fillHere_7 := rfl
theorem P_P_fillHere_33 : P 13 33 = b_P_fillHere_33 := rfl
theorem P_P_fillHere_46 : P 13 46 = b_P_fillHere_46 := rfl
theorem P_P_fillHere_51 : P 13 51 = b_P_fillHere_51 := rfl
theorem P_P_fillHere_60 : P 13 60 = b_P_fillHere_60 := rfl
theorem P_P_fillHere_64 : P 13 64 = b_P_fillHere_64 := rfl
theorem P_P_fillHere_69 : P 13 69 = b_P_fillHere_69 := rfl
theorem P_P_fillHere_120 : P 13 120 = b_P_fillHere_120 := rfl
theorem P_P_fillHere_123 : P 13 123 = b_P_fillHere_123 := rfl
theorem P_P_fillHere_173 : P 13 173 = b_P_fillHere_173 := rfl
theorem P_P_leastOfEntering_0 : P 14 0 = b_P_leastOfEntering_0 := rfl
theorem P_P_leastOfEntering_5 : P 14 5 = b_P_leastOfEntering_5 := rfl
theorem P_P_leastOfEntering_52 : P 14 52 = b_P_leastOfEntering_52 := rfl
theorem P_P_leastOfEntering_58 : P 14 58 = b_P_leastOfEntering_58 := rfl
theorem P_P_choose_0 : P 15 0 = b_P_choose_0 := rfl
theorem P_P_choose_11 : P 15 11 = b_P_choose_11 := rfl
theorem P_P_choose_15 : P 15 15 = b_P_choose_15 := rfl
theorem P_P_choose_39 : P 15 39 = b_P_choose_39 := rfl
theorem P_P_choose_53 : P 15 53 = b_P_choose_53 := rfl
theorem P_P_choose_83 : P 15 83 = b_P_choose_83 := rfl
theorem P_P_choose_84 : P 15 84 = b_P_choose_84 := rfl
theorem P_P_choose_91 : P 15 91 = b_P_choose_91 := rfl
theorem P_P_bestFirst_0 : P 16 0 = b_P_bestFirst_0 := rfl
theorem P_P_bestFirst_4 : P 16 4 = b_P_bestFirst_4 := rfl
theorem P_P_bestFirst_33 : P 16 33 = b_P_bestFirst_33 := rfl
theorem P_P_bestFirst_39 : P 16 39 = b_P_bestFirst_39 := rfl
theorem P_P_bestNext_0 : P 17 0 = b_P_bestNext_0 := rfl
theorem P_P_bestNext_10 : P 17 10 = b_P_bestNext_10 := rfl
theorem P_P_bestNext_54 : P 17 54 = b_P_bestNext_54 := rfl
theorem P_P_bestNext_95 : P 17 95 = b_P_bestNext_95 := rfl
theorem P_P_bestNext_110 : P 17 110 = b_P_bestNext_110 := rfl
theorem P_P_bestNext_116 : P 17 116 = b_P_bestNext_116 := rfl
theorem P_R_init_0 : P 18 0 = b_R_init_0 := rfl
theorem P_R_readItems_0 : P 19 0 = b_R_readItems_0 := rfl
theorem P_R_readItems_32 : P 19 32 = b_R_readItems_32 := rfl
theorem P_R_readItems_73 : P 19 73 = b_R_readItems_73 := rfl
theorem P_R_readItem_0 : P 20 0 = b_R_readItem_0 := rfl
theorem P_R_readItem_27 : P 20 27 = b_R_readItem_27 := rfl
theorem P_R_readItem_36 : P 20 36 = b_R_readItem_36 := rfl
theorem P_R_readItem_76 : P 20 76 = b_R_readItem_76 := rfl
theorem P_R_readItem_155 : P 20 155 = b_R_readItem_155 := rfl
theorem P_R_readNumber_0 : P 21 0 = b_R_readNumber_0 := rfl
theorem P_R_readNumber_12 : P 21 12 = b_R_readNumber_12 := rfl
theorem P_R_readNumber_77 : P 21 77 = b_R_readNumber_77 := rfl
theorem P_R_readNumber_102 : P 21 102 = b_R_readNumber_102 := rfl
theorem P_R_readNumber_103 : P 21 103 = b_R_readNumber_103 := rfl
theorem P_R_readNumber_130 : P 21 130 = b_R_readNumber_130 := rfl
theorem P_R_readNumber_135 : P 21 135 = b_R_readNumber_135 := rfl
theorem P_R_skipSpaces_0 : P 22 0 = b_R_skipSpaces_0 := rfl
theorem P_R_skipSpaces_38 : P 22 38 = b_R_skipSpaces_38 := rfl
theorem P_R_isDigit_0 : P 23 0 = b_R_isDigit_0 := rfl
theorem P_R_isDigit_16 : P 23 16 = b_R_isDigit_16 := rfl
theorem P_R_isDigit_17 : P 23 17 = b_R_isDigit_17 := rfl
theorem P_R_kindOf_0 : P 24 0 = b_R_kindOf_0 := rfl
theorem P_R_kindOf_9 : P 24 9 = b_R_kindOf_9 := rfl
theorem P_R_kindOf_28 : P 24 28 = b_R_kindOf_28 := rfl
theorem P_R_kindOf_29 : P 24 29 = b_R_kindOf_29 := rfl
theorem P_S_init_0 : P 25 0 = b_S_init_0 := rfl
theorem P_S_init_81 : P 25 81 = b_S_init_81 := rfl
theorem P_S_init_106 : P 25 106 = b_S_init_106 := rfl
theorem P_S_init_108 : P 25 108 = b_S_init_108 := rfl
theorem P_S_init_130 : P 25 130 = b_S_init_130 := rfl
theorem P_S_copyFrom_0 : P 26 0 = b_S_copyFrom_0 := rfl
theorem P_S_hasMouth_0 : P 27 0 = b_S_hasMouth_0 := rfl
theorem P_S_hasMouth_16 : P 27 16 = b_S_hasMouth_16 := rfl
theorem P_S_hasMouth_17 : P 27 17 = b_S_hasMouth_17 := rfl
theorem P_S_hasSegment_0 : P 28 0 = b_S_hasSegment_0 := rfl
theorem P_S_hasSegment_16 : P 28 16 = b_S_hasSegment_16 := rfl
theorem P_S_hasSegment_17 : P 28 17 = b_S_hasSegment_17 := rfl
theorem P_S_hasFrame_0 : P 29 0 = b_S_hasFrame_0 := rfl
theorem P_S_hasFrame_16 : P 29 16 = b_S_hasFrame_16 := rfl
theorem P_S_hasFrame_17 : P 29 17 = b_S_hasFrame_17 := rfl
theorem P_S_hasRoomFor_0 : P 30 0 = b_S_hasRoomFor_0 := rfl
theorem P_S_hasRoomFor_24 : P 30 24 = b_S_hasRoomFor_24 := rfl
theorem P_S_hasRoomFor_25 : P 30 25 = b_S_hasRoomFor_25 := rfl
theorem P_S_distanceOf_0 : P 31 0 = b_S_distanceOf_0 := rfl
theorem P_S_jumpOf_0 : P 32 0 = b_S_jumpOf_0 := rfl
theorem P_S_nearestOfAll_0 : P 33 0 = b_S_nearestOfAll_0 := rfl
theorem P_S_nearestOfAll_5 : P 33 5 = b_S_nearestOfAll_5 := rfl
theorem P_S_nearestOfAll_35 : P 33 35 = b_S_nearestOfAll_35 := rfl
theorem P_S_nearestOfAll_41 : P 33 41 = b_S_nearestOfAll_41 := rfl
theorem P_S_nearestWithin_0 : P 34 0 = b_S_nearestWithin_0 := rfl
theorem P_S_nearestWithin_6 : P 34 6 = b_S_nearestWithin_6 := rfl
theorem P_S_nearestWithin_56 : P 34 56 = b_S_nearestWithin_56 := rfl
theorem P_S_nearestWithin_60 : P 34 60 = b_S_nearestWithin_60 := rfl
theorem P_S_nearestWithin_66 : P 34 66 = b_S_nearestWithin_66 := rfl
theorem P_S_nearestWithin_76 : P 34 76 = b_S_nearestWithin_76 := rfl
theorem P_S_nearestWithin_78 : P 34 78 = b_S_nearestWithin_78 := rfl
theorem P_S_wrongOf_0 : P 35 0 = b_S_wrongOf_0 := rfl
theorem P_S_wrongOf_27 : P 35 27 = b_S_wrongOf_27 := rfl
theorem P_S_leastWrongFor_0 : P 36 0 = b_S_leastWrongFor_0 := rfl
theorem P_S_leastWrongFor_4 : P 36 4 = b_S_leastWrongFor_4 := rfl
theorem P_S_leastWrongFor_29 : P 36 29 = b_S_leastWrongFor_29 := rfl
theorem P_S_leastWrongFor_35 : P 36 35 = b_S_leastWrongFor_35 := rfl
theorem P_S_countSet_0 : P 37 0 = b_S_countSet_0 := rfl
theorem P_S_countSet_4 : P 37 4 = b_S_countSet_4 := rfl
theorem P_S_countSet_23 : P 37 23 = b_S_countSet_23 := rfl
theorem P_S_countSet_29 : P 37 29 = b_S_countSet_29 := rfl
theorem P_S_firstFrameOf_0 : P 38 0 = b_S_firstFrameOf_0 := rfl
theorem P_S_firstFrameOf_4 : P 38 4 = b_S_firstFrameOf_4 := rfl
theorem P_S_firstFrameOf_24 : P 38 24 = b_S_firstFrameOf_24 := rfl
theorem P_S_segmentAt_0 : P 39 0 = b_S_segmentAt_0 := rfl
theorem P_S_segmentAt_4 : P 39 4 = b_S_segmentAt_4 := rfl
theorem P_S_segmentAt_28 : P 39 28 = b_S_segmentAt_28 := rfl
theorem P_S_segmentAt_34 : P 39 34 = b_S_segmentAt_34 := rfl
theorem P_S_kindAt_0 : P 40 0 = b_S_kindAt_0 := rfl
theorem P_S_openSegment_0 : P 41 0 = b_S_openSegment_0 := rfl
theorem P_S_openSegment_16 : P 41 16 = b_S_openSegment_16 := rfl
theorem P_S_openSegment_60 : P 41 60 = b_S_openSegment_60 := rfl
theorem P_S_closeSegment_0 : P 42 0 = b_S_closeSegment_0 := rfl
theorem P_S_closeSegment_19 : P 42 19 = b_S_closeSegment_19 := rfl
theorem P_S_closeSegment_61 : P 42 61 = b_S_closeSegment_61 := rfl
theorem P_S_openFrames_0 : P 43 0 = b_S_openFrames_0 := rfl
theorem P_S_openFrames_7 : P 43 7 = b_S_openFrames_7 := rfl
theorem P_S_openFrames_46 : P 43 46 = b_S_openFrames_46 := rfl
theorem P_S_openFrames_48 : P 43 48 = b_S_openFrames_48 := rfl
theorem P_S_openFrames_77 : P 43 77 = b_S_openFrames_77 := rfl
theorem P_S_closeFrames_0 : P 44 0 = b_S_closeFrames_0 := rfl
theorem P_S_closeFrames_4 : P 44 4 = b_S_closeFrames_4 := rfl
theorem P_S_closeFrames_46 : P 44 46 = b_S_closeFrames_46 := rfl
theorem P_T_init_0 : P 45 0 = b_T_init_0 := rfl
theorem P_T_init_25 : P 45 25 = b_T_init_25 := rfl
theorem P_T_init_49 : P 45 49 = b_T_init_49 := rfl
theorem P_T_copyFrom_0 : P 46 0 = b_T_copyFrom_0 := rfl
theorem P_T_copyFrom_13 : P 46 13 = b_T_copyFrom_13 := rfl
theorem P_T_copyFrom_54 : P 46 54 = b_T_copyFrom_54 := rfl
theorem P_T_copyFrom_60 : P 46 60 = b_T_copyFrom_60 := rfl
theorem P_T_countTaken_0 : P 47 0 = b_T_countTaken_0 := rfl
theorem P_T_countTaken_4 : P 47 4 = b_T_countTaken_4 := rfl
theorem P_T_countTaken_21 : P 47 21 = b_T_countTaken_21 := rfl
theorem P_T_countTaken_27 : P 47 27 = b_T_countTaken_27 := rfl
theorem P_L_init_0 : P 48 0 = b_L_init_0 := rfl
theorem P_L_init_25 : P 48 25 = b_L_init_25 := rfl
theorem P_L_init_49 : P 48 49 = b_L_init_49 := rfl
theorem P_L_addMouth_0 : P 49 0 = b_L_addMouth_0 := rfl
theorem P_L_addMouth_28 : P 49 28 = b_L_addMouth_28 := rfl
theorem P_L_addMouth_30 : P 49 30 = b_L_addMouth_30 := rfl
theorem P_L_addMouth_42 : P 49 42 = b_L_addMouth_42 := rfl
theorem P_L_setMouth_0 : P 50 0 = b_L_setMouth_0 := rfl
theorem P_L_setMouth_38 : P 50 38 = b_L_setMouth_38 := rfl
theorem P_L_setMouth_40 : P 50 40 = b_L_setMouth_40 := rfl
theorem P_L_setSound_0 : P 51 0 = b_L_setSound_0 := rfl
theorem P_L_setSound_32 : P 51 32 = b_L_setSound_32 := rfl
theorem P_L_setSound_34 : P 51 34 = b_L_setSound_34 := rfl
theorem P_L_setNumber_0 : P 52 0 = b_L_setNumber_0 := rfl
theorem P_L_setNumber_26 : P 52 26 = b_L_setNumber_26 := rfl
theorem P_L_setNumber_28 : P 52 28 = b_L_setNumber_28 := rfl
theorem P_L_insert_0 : P 53 0 = b_L_insert_0 := rfl
theorem P_L_insert_42 : P 53 42 = b_L_insert_42 := rfl
theorem P_L_insert_44 : P 53 44 = b_L_insert_44 := rfl
theorem P_L_insert_56 : P 53 56 = b_L_insert_56 := rfl
theorem P_L_remove_0 : P 54 0 = b_L_remove_0 := rfl
theorem P_L_remove_18 : P 54 18 = b_L_remove_18 := rfl
theorem P_L_stretch_0 : P 55 0 = b_L_stretch_0 := rfl
theorem P_L_stretch_26 : P 55 26 = b_L_stretch_26 := rfl
theorem P_L_stretch_28 : P 55 28 = b_L_stretch_28 := rfl
theorem P_L_stretch_53 : P 55 53 = b_L_stretch_53 := rfl
theorem P_L_stretch_85 : P 55 85 = b_L_stretch_85 := rfl
theorem P_L_stretch_98 : P 55 98 = b_L_stretch_98 := rfl
theorem P_L_pin_0 : P 56 0 = b_L_pin_0 := rfl
theorem P_L_pin_29 : P 56 29 = b_L_pin_29 := rfl
theorem P_L_pin_31 : P 56 31 = b_L_pin_31 := rfl
theorem P_L_pin_58 : P 56 58 = b_L_pin_58 := rfl
theorem P_L_pin_59 : P 56 59 = b_L_pin_59 := rfl
theorem P_L_draw_0 : P 57 0 = b_L_draw_0 := rfl
theorem P_L_draw_29 : P 57 29 = b_L_draw_29 := rfl
theorem P_L_draw_31 : P 57 31 = b_L_draw_31 := rfl
theorem P_L_draw_58 : P 57 58 = b_L_draw_58 := rfl
theorem P_L_draw_59 : P 57 59 = b_L_draw_59 := rfl
theorem P_L_between_0 : P 58 0 = b_L_between_0 := rfl
theorem P_L_between_29 : P 58 29 = b_L_between_29 := rfl
theorem P_L_between_31 : P 58 31 = b_L_between_31 := rfl
theorem P_L_between_65 : P 58 65 = b_L_between_65 := rfl
theorem P_L_between_68 : P 58 68 = b_L_between_68 := rfl
theorem P_L_between_81 : P 58 81 = b_L_between_81 := rfl
theorem P_L_between_166 : P 58 166 = b_L_between_166 := rfl
theorem P_L_finish_0 : P 59 0 = b_L_finish_0 := rfl
theorem P_L_finish_31 : P 59 31 = b_L_finish_31 := rfl
theorem P_L_finish_45 : P 59 45 = b_L_finish_45 := rfl
theorem P_L_finish_86 : P 59 86 = b_L_finish_86 := rfl
theorem P_L_breathe_0 : P 60 0 = b_L_breathe_0 := rfl
theorem P_L_breathe_12 : P 60 12 = b_L_breathe_12 := rfl
theorem P_L_breathe_28 : P 60 28 = b_L_breathe_28 := rfl
theorem P_L_breathe_61 : P 60 61 = b_L_breathe_61 := rfl
theorem P_L_breathe_81 : P 60 81 = b_L_breathe_81 := rfl
theorem P_L_breathe_84 : P 60 84 = b_L_breathe_84 := rfl
theorem P_L_breathe_98 : P 60 98 = b_L_breathe_98 := rfl
theorem P_L_breathe_115 : P 60 115 = b_L_breathe_115 := rfl
theorem P_L_take_0 : P 61 0 = b_L_take_0 := rfl
theorem P_L_take_11 : P 61 11 = b_L_take_11 := rfl
theorem P_L_restore_0 : P 62 0 = b_L_restore_0 := rfl
theorem P_L_restore_11 : P 62 11 = b_L_restore_11 := rfl
theorem P_L_restore_26 : P 62 26 = b_L_restore_26 := rfl
theorem P_L_undo_0 : P 63 0 = b_L_undo_0 := rfl
theorem P_L_undo_10 : P 63 10 = b_L_undo_10 := rfl
theorem P_L_append_0 : P 64 0 = b_L_append_0 := rfl
theorem P_L_append_13 : P 64 13 = b_L_append_13 := rfl
theorem P_L_append_25 : P 64 25 = b_L_append_25 := rfl
theorem P_L_clearText_0 : P 65 0 = b_L_clearText_0 := rfl
theorem P_L_load_0 : P 66 0 = b_L_load_0 := rfl
theorem P_L_load_57 : P 66 57 = b_L_load_57 := rfl
theorem P_L_count_0 : P 67 0 = b_L_count_0 := rfl
theorem P_L_count_60 : P 67 60 = b_L_count_60 := rfl
theorem P_L_count_65 : P 67 65 = b_L_count_65 := rfl
theorem P_L_count_70 : P 67 70 = b_L_count_70 := rfl
theorem P_L_count_75 : P 67 75 = b_L_count_75 := rfl
theorem P_L_count_84 : P 67 84 = b_L_count_84 := rfl
theorem P_L_count_93 : P 67 93 = b_L_count_93 := rfl
theorem P_L_count_109 : P 67 109 = b_L_count_109 := rfl
theorem P_L_count_117 : P 67 117 = b_L_count_117 := rfl
theorem P_L_count_122 : P 67 122 = b_L_count_122 := rfl
theorem P_L_count_127 : P 67 127 = b_L_count_127 := rfl
theorem P_L_mouth_0 : P 68 0 = b_L_mouth_0 := rfl
theorem P_L_mouth_23 : P 68 23 = b_L_mouth_23 := rfl
theorem P_L_mouth_25 : P 68 25 = b_L_mouth_25 := rfl
theorem P_L_mouth_44 : P 68 44 = b_L_mouth_44 := rfl
theorem P_L_mouth_56 : P 68 56 = b_L_mouth_56 := rfl
theorem P_L_jump_0 : P 69 0 = b_L_jump_0 := rfl
theorem P_L_jump_28 : P 69 28 = b_L_jump_28 := rfl
theorem P_L_jump_30 : P 69 30 = b_L_jump_30 := rfl
theorem P_L_sound_0 : P 70 0 = b_L_sound_0 := rfl
theorem P_L_sound_19 : P 70 19 = b_L_sound_19 := rfl
theorem P_L_sound_21 : P 70 21 = b_L_sound_21 := rfl
theorem P_L_number_0 : P 71 0 = b_L_number_0 := rfl
theorem P_L_number_11 : P 71 11 = b_L_number_11 := rfl
theorem P_L_segment_0 : P 72 0 = b_L_segment_0 := rfl
theorem P_L_segment_18 : P 72 18 = b_L_segment_18 := rfl
theorem P_L_segment_44 : P 72 44 = b_L_segment_44 := rfl
theorem P_L_segment_51 : P 72 51 = b_L_segment_51 := rfl
theorem P_L_segment_58 : P 72 58 = b_L_segment_58 := rfl
theorem P_L_segment_64 : P 72 64 = b_L_segment_64 := rfl
theorem P_L_frame_0 : P 73 0 = b_L_frame_0 := rfl
theorem P_L_frame_18 : P 73 18 = b_L_frame_18 := rfl
theorem P_L_frame_60 : P 73 60 = b_L_frame_60 := rfl
theorem P_L_frame_66 : P 73 66 = b_L_frame_66 := rfl
theorem P_L_frame_72 : P 73 72 = b_L_frame_72 := rfl
theorem P_L_frame_79 : P 73 79 = b_L_frame_79 := rfl
theorem P_L_frame_86 : P 73 86 = b_L_frame_86 := rfl
theorem P_L_frame_104 : P 73 104 = b_L_frame_104 := rfl
theorem P_L_frame_128 : P 73 128 = b_L_frame_128 := rfl
theorem P_L_frame_129 : P 73 129 = b_L_frame_129 := rfl
theorem P_L_frame_130 : P 73 130 = b_L_frame_130 := rfl
theorem P_L_frame_160 : P 73 160 = b_L_frame_160 := rfl
theorem P_L_frame_162 : P 73 162 = b_L_frame_162 := rfl
theorem P_L_frame_163 : P 73 163 = b_L_frame_163 := rfl
theorem P_L_wrongness_0 : P 74 0 = b_L_wrongness_0 := rfl
theorem P_L_wrongness_28 : P 74 28 = b_L_wrongness_28 := rfl
theorem P_L_wrongness_30 : P 74 30 = b_L_wrongness_30 := rfl
theorem P_L_least_0 : P 75 0 = b_L_least_0 := rfl
theorem P_L_least_11 : P 75 11 = b_L_least_11 := rfl
theorem P_L_least_39 : P 75 39 = b_L_least_39 := rfl
theorem P_L_least_46 : P 75 46 = b_L_least_46 := rfl
theorem P_L_leastWith_0 : P 76 0 = b_L_leastWith_0 := rfl
theorem P_L_leastWith_28 : P 76 28 = b_L_leastWith_28 := rfl
theorem P_L_leastWith_30 : P 76 30 = b_L_leastWith_30 := rfl
theorem P_L_why_0 : P 77 0 = b_L_why_0 := rfl
theorem P_L_why_18 : P 77 18 = b_L_why_18 := rfl
theorem P_L_why_39 : P 77 39 = b_L_why_39 := rfl
theorem P_L_why_86 : P 77 86 = b_L_why_86 := rfl
theorem P_L_why_99 : P 77 99 = b_L_why_99 := rfl
theorem P_L_why_127 : P 77 127 = b_L_why_127 := rfl
theorem P_L_why_161 : P 77 161 = b_L_why_161 := rfl
theorem P_L_fault_0 : P 78 0 = b_L_fault_0 := rfl
theorem P_L_fault_11 : P 78 11 = b_L_fault_11 := rfl
theorem P_L_fault_24 : P 78 24 = b_L_fault_24 := rfl
theorem P_L_fault_56 : P 78 56 = b_L_fault_56 := rfl
theorem P_L_fault_58 : P 78 58 = b_L_fault_58 := rfl
theorem P_L_fault_59 : P 78 59 = b_L_fault_59 := rfl
theorem P_L_fault_89 : P 78 89 = b_L_fault_89 := rfl
theorem P_L_fault_90 : P 78 90 = b_L_fault_90 := rfl
theorem P_L_fault_97 : P 78 97 = b_L_fault_97 := rfl
theorem P_L_drawnSum_0 : P 79 0 = b_L_drawnSum_0 := rfl
theorem P_L_drawnSum_12 : P 79 12 = b_L_drawnSum_12 := rfl
theorem P_L_drawnSum_36 : P 79 36 = b_L_drawnSum_36 := rfl
theorem P_L_drawnSum_60 : P 79 60 = b_L_drawnSum_60 := rfl
theorem P_L_speedFor_0 : P 80 0 = b_L_speedFor_0 := rfl
theorem P_L_speedFor_12 : P 80 12 = b_L_speedFor_12 := rfl
theorem P_L_speedFor_32 : P 80 32 = b_L_speedFor_32 := rfl
theorem P_L_speedFor_77 : P 80 77 = b_L_speedFor_77 := rfl
theorem P_L_speedFor_83 : P 80 83 = b_L_speedFor_83 := rfl
theorem P_L_nearest_0 : P 81 0 = b_L_nearest_0 := rfl
theorem P_L_nearest_20 : P 81 20 = b_L_nearest_20 := rfl
theorem P_L_nearest_22 : P 81 22 = b_L_nearest_22 := rfl
theorem P_L_isOutside_0 : P 82 0 = b_L_isOutside_0 := rfl
theorem P_L_isOutside_10 : P 82 10 = b_L_isOutside_10 := rfl
theorem P_L_isOutside_14 : P 82 14 = b_L_isOutside_14 := rfl
theorem P_L_isOutside_15 : P 82 15 = b_L_isOutside_15 := rfl
theorem P_L_recordState_0 : P 83 0 = b_L_recordState_0 := rfl
theorem P_L_recordState_17 : P 83 17 = b_L_recordState_17 := rfl
theorem P_L_recordState_42 : P 83 42 = b_L_recordState_42 := rfl
theorem P_L_recordState_54 : P 83 54 = b_L_recordState_54 := rfl
theorem P_L_partWay_0 : P 84 0 = b_L_partWay_0 := rfl
theorem P_L_partWay_16 : P 84 16 = b_L_partWay_16 := rfl
theorem P_L_partWay_17 : P 84 17 = b_L_partWay_17 := rfl
theorem P_L_faultAt_0 : P 85 0 = b_L_faultAt_0 := rfl
theorem P_L_faultAt_17 : P 85 17 = b_L_faultAt_17 := rfl
theorem P_L_faultAt_40 : P 85 40 = b_L_faultAt_40 := rfl
theorem P_L_faultAt_46 : P 85 46 = b_L_faultAt_46 := rfl
theorem P_L_faultAt_74 : P 85 74 = b_L_faultAt_74 := rfl
theorem P_L_faultAt_94 : P 85 94 = b_L_faultAt_94 := rfl
theorem P_L_faultAt_95 : P 85 95 = b_L_faultAt_95 := rfl
theorem P_M_init_0 : P 86 0 = b_M_init_0 := rfl
theorem P_M_init_96 : P 86 96 = b_M_init_96 := rfl
theorem P_M_init_162 : P 86 162 = b_M_init_162 := rfl
theorem P_M_in_0 : P 87 0 = b_M_in_0 := rfl
theorem P_M_in_14 : P 87 14 = b_M_in_14 := rfl
theorem P_M_in_15 : P 87 15 = b_M_in_15 := rfl
theorem P_M_apart_0 : P 88 0 = b_M_apart_0 := rfl
theorem P_M_apart_11 : P 88 11 = b_M_apart_11 := rfl
theorem P_M_apart_14 : P 88 14 = b_M_apart_14 := rfl
theorem P_M_greater_0 : P 89 0 = b_M_greater_0 := rfl
theorem P_M_greater_9 : P 89 9 = b_M_greater_9 := rfl
theorem P_M_greater_10 : P 89 10 = b_M_greater_10 := rfl
theorem P_M_bring_0 : P 90 0 = b_M_bring_0 := rfl
theorem P_M_bring_3 : P 90 3 = b_M_bring_3 := rfl
theorem P_M_bring_28 : P 90 28 = b_M_bring_28 := rfl
theorem P_M_keep_0 : P 91 0 = b_M_keep_0 := rfl
theorem P_M_keep_36 : P 91 36 = b_M_keep_36 := rfl
theorem P_M_isMouth_0 : P 92 0 = b_M_isMouth_0 := rfl
theorem P_M_isSegment_0 : P 93 0 = b_M_isSegment_0 := rfl
theorem P_M_opening_0 : P 94 0 = b_M_opening_0 := rfl
theorem P_M_width_0 : P 95 0 = b_M_width_0 := rfl
theorem P_M_farBetween_0 : P 96 0 = b_M_farBetween_0 := rfl
theorem P_M_kindOf_0 : P 97 0 = b_M_kindOf_0 := rfl
theorem P_M_framesOf_0 : P 98 0 = b_M_framesOf_0 := rfl
theorem P_M_setting_0 : P 99 0 = b_M_setting_0 := rfl
theorem P_M_firstOf_0 : P 100 0 = b_M_firstOf_0 := rfl
theorem P_M_firstOf_4 : P 100 4 = b_M_firstOf_4 := rfl
theorem P_M_firstOf_23 : P 100 23 = b_M_firstOf_23 := rfl
theorem P_M_frames_0 : P 101 0 = b_M_frames_0 := rfl
theorem P_M_isFrame_0 : P 102 0 = b_M_isFrame_0 := rfl
theorem P_M_segmentOf_0 : P 103 0 = b_M_segmentOf_0 := rfl
theorem P_M_segmentOf_2 : P 103 2 = b_M_segmentOf_2 := rfl
theorem P_M_segmentOf_19 : P 103 19 = b_M_segmentOf_19 := rfl
theorem P_M_isSize_0 : P 104 0 = b_M_isSize_0 := rfl
theorem P_M_addMouth_0 : P 105 0 = b_M_addMouth_0 := rfl
theorem P_M_addMouth_14 : P 105 14 = b_M_addMouth_14 := rfl
theorem P_M_addMouth_16 : P 105 16 = b_M_addMouth_16 := rfl
theorem P_M_addMouth_30 : P 105 30 = b_M_addMouth_30 := rfl
theorem P_M_setMouth_0 : P 106 0 = b_M_setMouth_0 := rfl
theorem P_M_setMouth_22 : P 106 22 = b_M_setMouth_22 := rfl
theorem P_M_setMouth_24 : P 106 24 = b_M_setMouth_24 := rfl
theorem P_M_setSound_0 : P 107 0 = b_M_setSound_0 := rfl
theorem P_M_setSound_30 : P 107 30 = b_M_setSound_30 := rfl
theorem P_M_setSound_32 : P 107 32 = b_M_setSound_32 := rfl
theorem P_M_setSound_38 : P 107 38 = b_M_setSound_38 := rfl
theorem P_M_setSound_40 : P 107 40 = b_M_setSound_40 := rfl
theorem P_M_isSetting_0 : P 108 0 = b_M_isSetting_0 := rfl
theorem P_M_isSetting_32 : P 108 32 = b_M_isSetting_32 := rfl
theorem P_M_isSetting_40 : P 108 40 = b_M_isSetting_40 := rfl
theorem P_M_isSetting_47 : P 108 47 = b_M_isSetting_47 := rfl
theorem P_M_isSetting_55 : P 108 55 = b_M_isSetting_55 := rfl
theorem P_M_isSetting_63 : P 108 63 = b_M_isSetting_63 := rfl
theorem P_M_isSetting_82 : P 108 82 = b_M_isSetting_82 := rfl
theorem P_M_isSetting_83 : P 108 83 = b_M_isSetting_83 := rfl
theorem P_M_setNumber_0 : P 109 0 = b_M_setNumber_0 := rfl
theorem P_M_setNumber_10 : P 109 10 = b_M_setNumber_10 := rfl
theorem P_M_opens_0 : P 110 0 = b_M_opens_0 := rfl
theorem P_M_opens_5 : P 110 5 = b_M_opens_5 := rfl
theorem P_M_opens_51 : P 110 51 = b_M_opens_51 := rfl
theorem P_M_opens_54 : P 110 54 = b_M_opens_54 := rfl
theorem P_M_opens_85 : P 110 85 = b_M_opens_85 := rfl
theorem P_M_closes_0 : P 111 0 = b_M_closes_0 := rfl
theorem P_M_closes_3 : P 111 3 = b_M_closes_3 := rfl
theorem P_M_closes_51 : P 111 51 = b_M_closes_51 := rfl
theorem P_M_allOf_0 : P 112 0 = b_M_allOf_0 := rfl
theorem P_M_allOf_4 : P 112 4 = b_M_allOf_4 := rfl
theorem P_M_allOf_31 : P 112 31 = b_M_allOf_31 := rfl
theorem P_M_inserts_0 : P 113 0 = b_M_inserts_0 := rfl
theorem P_M_inserts_12 : P 113 12 = b_M_inserts_12 := rfl
theorem P_M_inserts_40 : P 113 40 = b_M_inserts_40 := rfl
theorem P_M_inserts_62 : P 113 62 = b_M_inserts_62 := rfl
theorem P_M_inserts_89 : P 113 89 = b_M_inserts_89 := rfl
theorem P_M_hasRoom_0 : P 114 0 = b_M_hasRoom_0 := rfl
theorem P_M_hasRoom_24 : P 114 24 = b_M_hasRoom_24 := rfl
theorem P_M_hasRoom_25 : P 114 25 = b_M_hasRoom_25 := rfl
theorem P_M_insert_0 : P 115 0 = b_M_insert_0 := rfl
theorem P_M_insert_35 : P 115 35 = b_M_insert_35 := rfl
theorem P_M_insert_37 : P 115 37 = b_M_insert_37 := rfl
theorem P_M_insert_51 : P 115 51 = b_M_insert_51 := rfl
theorem P_M_remove_0 : P 116 0 = b_M_remove_0 := rfl
theorem P_M_remove_10 : P 116 10 = b_M_remove_10 := rfl
theorem P_M_remove_53 : P 116 53 = b_M_remove_53 := rfl
theorem P_M_remove_89 : P 116 89 = b_M_remove_89 := rfl
theorem P_M_stretch_0 : P 117 0 = b_M_stretch_0 := rfl
theorem P_M_stretch_18 : P 117 18 = b_M_stretch_18 := rfl
theorem P_M_stretch_20 : P 117 20 = b_M_stretch_20 := rfl
theorem P_M_stretch_42 : P 117 42 = b_M_stretch_42 := rfl
theorem P_M_stretch_79 : P 117 79 = b_M_stretch_79 := rfl
theorem P_M_stretch_97 : P 117 97 = b_M_stretch_97 := rfl
theorem P_M_puts_0 : P 118 0 = b_M_puts_0 := rfl
theorem P_M_puts_21 : P 118 21 = b_M_puts_21 := rfl
theorem P_M_puts_23 : P 118 23 = b_M_puts_23 := rfl
theorem P_M_puts_56 : P 118 56 = b_M_puts_56 := rfl
theorem P_M_puts_58 : P 118 58 = b_M_puts_58 := rfl
theorem P_M_pin_0 : P 119 0 = b_M_pin_0 := rfl
theorem P_M_draw_0 : P 120 0 = b_M_draw_0 := rfl
theorem P_M_nearestTo_0 : P 121 0 = b_M_nearestTo_0 := rfl
theorem P_M_nearestTo_11 : P 121 11 = b_M_nearestTo_11 := rfl
theorem P_M_nearestTo_66 : P 121 66 = b_M_nearestTo_66 := rfl
theorem P_M_nearestTo_77 : P 121 77 = b_M_nearestTo_77 := rfl
theorem P_M_nearestTo_78 : P 121 78 = b_M_nearestTo_78 := rfl
theorem P_M_nearestTo_90 : P 121 90 = b_M_nearestTo_90 := rfl
theorem P_M_nearestTo_92 : P 121 92 = b_M_nearestTo_92 := rfl
theorem P_M_nearestTo_104 : P 121 104 = b_M_nearestTo_104 := rfl
theorem P_M_nearestTo_106 : P 121 106 = b_M_nearestTo_106 := rfl
theorem P_M_nearestTo_114 : P 121 114 = b_M_nearestTo_114 := rfl
theorem P_M_between_0 : P 122 0 = b_M_between_0 := rfl
theorem P_M_between_21 : P 122 21 = b_M_between_21 := rfl
theorem P_M_between_23 : P 122 23 = b_M_between_23 := rfl
theorem P_M_between_55 : P 122 55 = b_M_between_55 := rfl
theorem P_M_between_58 : P 122 58 = b_M_between_58 := rfl
theorem P_M_between_67 : P 122 67 = b_M_between_67 := rfl
theorem P_M_between_169 : P 122 169 = b_M_between_169 := rfl
theorem P_M_finish_0 : P 123 0 = b_M_finish_0 := rfl
theorem P_M_finish_23 : P 123 23 = b_M_finish_23 := rfl
theorem P_M_breathes_0 : P 124 0 = b_M_breathes_0 := rfl
theorem P_M_breathes_14 : P 124 14 = b_M_breathes_14 := rfl
theorem P_M_breathes_37 : P 124 37 = b_M_breathes_37 := rfl
theorem P_M_breathes_64 : P 124 64 = b_M_breathes_64 := rfl
theorem P_M_breathes_75 : P 124 75 = b_M_breathes_75 := rfl
theorem P_M_breathes_92 : P 124 92 = b_M_breathes_92 := rfl
theorem P_M_breathes_93 : P 124 93 = b_M_breathes_93 := rfl
theorem P_M_breathes_114 : P 124 114 = b_M_breathes_114 := rfl
theorem P_M_breathes_116 : P 124 116 = b_M_breathes_116 := rfl
theorem P_M_breathes_131 : P 124 131 = b_M_breathes_131 := rfl
theorem P_M_breathes_135 : P 124 135 = b_M_breathes_135 := rfl
theorem P_M_breathes_151 : P 124 151 = b_M_breathes_151 := rfl
theorem P_M_breathes_152 : P 124 152 = b_M_breathes_152 := rfl
theorem P_M_breathes_169 : P 124 169 = b_M_breathes_169 := rfl
theorem P_M_breathes_170 : P 124 170 = b_M_breathes_170 := rfl
theorem P_M_breathes_187 : P 124 187 = b_M_breathes_187 := rfl
theorem P_M_breathes_193 : P 124 193 = b_M_breathes_193 := rfl
theorem P_M_segmentIn_0 : P 125 0 = b_M_segmentIn_0 := rfl
theorem P_M_segmentIn_4 : P 125 4 = b_M_segmentIn_4 := rfl
theorem P_M_segmentIn_37 : P 125 37 = b_M_segmentIn_37 := rfl
theorem P_M_breathe_0 : P 126 0 = b_M_breathe_0 := rfl
theorem P_M_breathe_12 : P 126 12 = b_M_breathe_12 := rfl
theorem P_M_breathe_39 : P 126 39 = b_M_breathe_39 := rfl
theorem P_M_breathe_79 : P 126 79 = b_M_breathe_79 := rfl
theorem P_M_breathe_82 : P 126 82 = b_M_breathe_82 := rfl
theorem P_M_breathe_96 : P 126 96 = b_M_breathe_96 := rfl
theorem P_M_breathe_123 : P 126 123 = b_M_breathe_123 := rfl
theorem P_M_take_0 : P 127 0 = b_M_take_0 := rfl
theorem P_M_take_11 : P 127 11 = b_M_take_11 := rfl
theorem P_M_restore_0 : P 128 0 = b_M_restore_0 := rfl
theorem P_M_restore_11 : P 128 11 = b_M_restore_11 := rfl
theorem P_M_restore_33 : P 128 33 = b_M_restore_33 := rfl
theorem P_M_undo_0 : P 129 0 = b_M_undo_0 := rfl
theorem P_M_undo_10 : P 129 10 = b_M_undo_10 := rfl
theorem P_M_append_0 : P 130 0 = b_M_append_0 := rfl
theorem P_M_append_13 : P 130 13 = b_M_append_13 := rfl
theorem P_M_append_25 : P 130 25 = b_M_append_25 := rfl
theorem P_M_clearText_0 : P 131 0 = b_M_clearText_0 := rfl
theorem P_M_here_0 : P 132 0 = b_M_here_0 := rfl
theorem P_M_here_23 : P 132 23 = b_M_here_23 := rfl
theorem P_M_here_24 : P 132 24 = b_M_here_24 := rfl
theorem P_M_overSpaces_0 : P 133 0 = b_M_overSpaces_0 := rfl
theorem P_M_overSpaces_22 : P 133 22 = b_M_overSpaces_22 := rfl
theorem P_M_readNumber_0 : P 134 0 = b_M_readNumber_0 := rfl
theorem P_M_readNumber_14 : P 134 14 = b_M_readNumber_14 := rfl
theorem P_M_readNumber_46 : P 134 46 = b_M_readNumber_46 := rfl
theorem P_M_readNumber_61 : P 134 61 = b_M_readNumber_61 := rfl
theorem P_M_readNumber_77 : P 134 77 = b_M_readNumber_77 := rfl
theorem P_M_readNumber_118 : P 134 118 = b_M_readNumber_118 := rfl
theorem P_M_readNumber_122 : P 134 122 = b_M_readNumber_122 := rfl
theorem P_M_readNumber_123 : P 134 123 = b_M_readNumber_123 := rfl
theorem P_M_readNumber_138 : P 134 138 = b_M_readNumber_138 := rfl
theorem P_M_readNumber_139 : P 134 139 = b_M_readNumber_139 := rfl
theorem P_M_readItem_0 : P 135 0 = b_M_readItem_0 := rfl
theorem P_M_readItem_22 : P 135 22 = b_M_readItem_22 := rfl
theorem P_M_readItem_26 : P 135 26 = b_M_readItem_26 := rfl
theorem P_M_readItem_27 : P 135 27 = b_M_readItem_27 := rfl
theorem P_M_readItem_44 : P 135 44 = b_M_readItem_44 := rfl
theorem P_M_readItem_46 : P 135 46 = b_M_readItem_46 := rfl
theorem P_M_readItem_79 : P 135 79 = b_M_readItem_79 := rfl
theorem P_M_readItem_81 : P 135 81 = b_M_readItem_81 := rfl
theorem P_M_readItem_89 : P 135 89 = b_M_readItem_89 := rfl
theorem P_M_readItem_120 : P 135 120 = b_M_readItem_120 := rfl
theorem P_M_readItem_124 : P 135 124 = b_M_readItem_124 := rfl
theorem P_M_readItem_146 : P 135 146 = b_M_readItem_146 := rfl
theorem P_M_readItem_174 : P 135 174 = b_M_readItem_174 := rfl
theorem P_M_load_0 : P 136 0 = b_M_load_0 := rfl
theorem P_M_load_27 : P 136 27 = b_M_load_27 := rfl
theorem P_M_load_54 : P 136 54 = b_M_load_54 := rfl
theorem P_M_load_64 : P 136 64 = b_M_load_64 := rfl
theorem P_M_layKinds_0 : P 137 0 = b_M_layKinds_0 := rfl
theorem P_M_layKinds_4 : P 137 4 = b_M_layKinds_4 := rfl
theorem P_M_layKinds_17 : P 137 17 = b_M_layKinds_17 := rfl
theorem P_M_layKinds_46 : P 137 46 = b_M_layKinds_46 := rfl
theorem P_M_layKinds_52 : P 137 52 = b_M_layKinds_52 := rfl
theorem P_M_wrongBy_0 : P 138 0 = b_M_wrongBy_0 := rfl
theorem P_M_wrongBy_23 : P 138 23 = b_M_wrongBy_23 := rfl
theorem P_M_wrongBy_37 : P 138 37 = b_M_wrongBy_37 := rfl
theorem P_M_wrongBy_38 : P 138 38 = b_M_wrongBy_38 := rfl
theorem P_M_cellOf_0 : P 139 0 = b_M_cellOf_0 := rfl
theorem P_M_behind_0 : P 140 0 = b_M_behind_0 := rfl
theorem P_M_behind_10 : P 140 10 = b_M_behind_10 := rfl
theorem P_M_behind_37 : P 140 37 = b_M_behind_37 := rfl
theorem P_M_behind_39 : P 140 39 = b_M_behind_39 := rfl
theorem P_M_behind_48 : P 140 48 = b_M_behind_48 := rfl
theorem P_M_behind_100 : P 140 100 = b_M_behind_100 := rfl
theorem P_M_behind_102 : P 140 102 = b_M_behind_102 := rfl
theorem P_M_behind_116 : P 140 116 = b_M_behind_116 := rfl
theorem P_M_behind_118 : P 140 118 = b_M_behind_118 := rfl
theorem P_M_behind_126 : P 140 126 = b_M_behind_126 := rfl
theorem P_M_findPlan_0 : P 141 0 = b_M_findPlan_0 := rfl
theorem P_M_findPlan_16 : P 141 16 = b_M_findPlan_16 := rfl
theorem P_M_findPlan_24 : P 141 24 = b_M_findPlan_24 := rfl
theorem P_M_findPlan_63 : P 141 63 = b_M_findPlan_63 := rfl
theorem P_M_findPlan_75 : P 141 75 = b_M_findPlan_75 := rfl
theorem P_M_findPlan_79 : P 141 79 = b_M_findPlan_79 := rfl
theorem P_M_findPlan_80 : P 141 80 = b_M_findPlan_80 := rfl
theorem P_M_findPlan_100 : P 141 100 = b_M_findPlan_100 := rfl
theorem P_M_findPlan_134 : P 141 134 = b_M_findPlan_134 := rfl
theorem P_M_findPlan_136 : P 141 136 = b_M_findPlan_136 := rfl
theorem P_M_findPlan_163 : P 141 163 = b_M_findPlan_163 := rfl
theorem P_M_findPlan_165 : P 141 165 = b_M_findPlan_165 := rfl
theorem P_M_findPlan_172 : P 141 172 = b_M_findPlan_172 := rfl
theorem P_M_findPlan_178 : P 141 178 = b_M_findPlan_178 := rfl
theorem P_M_findPlan_184 : P 141 184 = b_M_findPlan_184 := rfl
theorem P_M_findPlan_193 : P 141 193 = b_M_findPlan_193 := rfl
theorem P_M_findPlan_200 : P 141 200 = b_M_findPlan_200 := rfl
theorem P_M_lays_0 : P 142 0 = b_M_lays_0 := rfl
theorem P_M_lays_20 : P 142 20 = b_M_lays_20 := rfl
theorem P_M_lays_56 : P 142 56 = b_M_lays_56 := rfl
theorem P_M_lays_62 : P 142 62 = b_M_lays_62 := rfl
theorem P_M_lays_75 : P 142 75 = b_M_lays_75 := rfl
theorem P_M_lays_77 : P 142 77 = b_M_lays_77 := rfl
theorem P_M_lays_85 : P 142 85 = b_M_lays_85 := rfl
theorem P_M_lays_95 : P 142 95 = b_M_lays_95 := rfl
theorem P_M_lays_101 : P 142 101 = b_M_lays_101 := rfl
theorem P_M_lays_148 : P 142 148 = b_M_lays_148 := rfl
theorem P_M_lays_164 : P 142 164 = b_M_lays_164 := rfl
theorem P_M_lays_165 : P 142 165 = b_M_lays_165 := rfl
theorem P_M_lays_190 : P 142 190 = b_M_lays_190 := rfl
theorem P_M_lays_194 : P 142 194 = b_M_lays_194 := rfl
theorem P_M_lays_195 : P 142 195 = b_M_lays_195 := rfl
theorem P_M_lays_215 : P 142 215 = b_M_lays_215 := rfl
theorem P_M_lays_224 : P 142 224 = b_M_lays_224 := rfl
theorem P_M_lays_225 : P 142 225 = b_M_lays_225 := rfl
theorem P_M_lays_256 : P 142 256 = b_M_lays_256 := rfl
theorem P_M_lays_258 : P 142 258 = b_M_lays_258 := rfl
theorem P_M_lays_266 : P 142 266 = b_M_lays_266 := rfl
theorem P_M_lays_277 : P 142 277 = b_M_lays_277 := rfl
theorem P_M_lays_290 : P 142 290 = b_M_lays_290 := rfl
theorem P_M_lays_291 : P 142 291 = b_M_lays_291 := rfl
theorem P_M_lays_308 : P 142 308 = b_M_lays_308 := rfl
theorem P_M_manyOf_0 : P 143 0 = b_M_manyOf_0 := rfl
theorem P_M_manyOf_4 : P 143 4 = b_M_manyOf_4 := rfl
theorem P_M_manyOf_28 : P 143 28 = b_M_manyOf_28 := rfl
theorem P_M_manyOf_29 : P 143 29 = b_M_manyOf_29 := rfl
theorem P_M_manyOf_37 : P 143 37 = b_M_manyOf_37 := rfl
theorem P_M_manyGasps_0 : P 144 0 = b_M_manyGasps_0 := rfl
theorem P_M_manyGasps_13 : P 144 13 = b_M_manyGasps_13 := rfl
theorem P_M_manyGasps_35 : P 144 35 = b_M_manyGasps_35 := rfl
theorem P_M_manyGasps_36 : P 144 36 = b_M_manyGasps_36 := rfl
theorem P_M_manyGasps_44 : P 144 44 = b_M_manyGasps_44 := rfl
theorem P_M_count_0 : P 145 0 = b_M_count_0 := rfl
theorem P_M_count_52 : P 145 52 = b_M_count_52 := rfl
theorem P_M_count_59 : P 145 59 = b_M_count_59 := rfl
theorem P_M_count_67 : P 145 67 = b_M_count_67 := rfl
theorem P_M_count_72 : P 145 72 = b_M_count_72 := rfl
theorem P_M_count_79 : P 145 79 = b_M_count_79 := rfl
theorem P_M_count_87 : P 145 87 = b_M_count_87 := rfl
theorem P_M_count_92 : P 145 92 = b_M_count_92 := rfl
theorem P_M_count_110 : P 145 110 = b_M_count_110 := rfl
theorem P_M_count_115 : P 145 115 = b_M_count_115 := rfl
theorem P_M_count_120 : P 145 120 = b_M_count_120 := rfl
theorem P_M_mouth_0 : P 146 0 = b_M_mouth_0 := rfl
theorem P_M_mouth_32 : P 146 32 = b_M_mouth_32 := rfl
theorem P_M_mouth_33 : P 146 33 = b_M_mouth_33 := rfl
theorem P_M_jump_0 : P 147 0 = b_M_jump_0 := rfl
theorem P_M_jump_25 : P 147 25 = b_M_jump_25 := rfl
theorem P_M_jump_26 : P 147 26 = b_M_jump_26 := rfl
theorem P_M_sound_0 : P 148 0 = b_M_sound_0 := rfl
theorem P_M_sound_35 : P 148 35 = b_M_sound_35 := rfl
theorem P_M_sound_36 : P 148 36 = b_M_sound_36 := rfl
theorem P_M_number_0 : P 149 0 = b_M_number_0 := rfl
theorem P_M_number_17 : P 149 17 = b_M_number_17 := rfl
theorem P_M_number_18 : P 149 18 = b_M_number_18 := rfl
theorem P_M_segment_0 : P 150 0 = b_M_segment_0 := rfl
theorem P_M_segment_17 : P 150 17 = b_M_segment_17 := rfl
theorem P_M_segment_19 : P 150 19 = b_M_segment_19 := rfl
theorem P_M_segment_31 : P 150 31 = b_M_segment_31 := rfl
theorem P_M_segment_44 : P 150 44 = b_M_segment_44 := rfl
theorem P_M_segment_49 : P 150 49 = b_M_segment_49 := rfl
theorem P_M_orNone_0 : P 151 0 = b_M_orNone_0 := rfl
theorem P_M_orNone_9 : P 151 9 = b_M_orNone_9 := rfl
theorem P_M_orNone_10 : P 151 10 = b_M_orNone_10 := rfl
theorem P_M_tellAir_0 : P 152 0 = b_M_tellAir_0 := rfl
theorem P_M_tellAir_23 : P 152 23 = b_M_tellAir_23 := rfl
theorem P_M_tellAir_41 : P 152 41 = b_M_tellAir_41 := rfl
theorem P_M_tellAir_42 : P 152 42 = b_M_tellAir_42 := rfl
theorem P_M_frame_0 : P 153 0 = b_M_frame_0 := rfl
theorem P_M_frame_18 : P 153 18 = b_M_frame_18 := rfl
theorem P_M_frame_20 : P 153 20 = b_M_frame_20 := rfl
theorem P_M_frame_60 : P 153 60 = b_M_frame_60 := rfl
theorem P_M_frame_66 : P 153 66 = b_M_frame_66 := rfl
theorem P_M_frame_76 : P 153 76 = b_M_frame_76 := rfl
theorem P_M_frame_89 : P 153 89 = b_M_frame_89 := rfl
theorem P_M_frame_103 : P 153 103 = b_M_frame_103 := rfl
theorem P_M_frame_110 : P 153 110 = b_M_frame_110 := rfl
theorem P_M_frame_133 : P 153 133 = b_M_frame_133 := rfl
theorem P_M_frame_139 : P 153 139 = b_M_frame_139 := rfl
theorem P_M_wrongness_0 : P 154 0 = b_M_wrongness_0 := rfl
theorem P_M_wrongness_33 : P 154 33 = b_M_wrongness_33 := rfl
theorem P_M_wrongness_34 : P 154 34 = b_M_wrongness_34 := rfl
theorem P_M_least_0 : P 155 0 = b_M_least_0 := rfl
theorem P_M_least_25 : P 155 25 = b_M_least_25 := rfl
theorem P_M_least_26 : P 155 26 = b_M_least_26 := rfl
theorem P_M_leastWith_0 : P 156 0 = b_M_leastWith_0 := rfl
theorem P_M_leastWith_30 : P 156 30 = b_M_leastWith_30 := rfl
theorem P_M_leastWith_31 : P 156 31 = b_M_leastWith_31 := rfl
theorem P_M_why_0 : P 157 0 = b_M_why_0 := rfl
theorem P_M_why_10 : P 157 10 = b_M_why_10 := rfl
theorem P_M_why_33 : P 157 33 = b_M_why_33 := rfl
theorem P_M_why_38 : P 157 38 = b_M_why_38 := rfl
theorem P_M_why_80 : P 157 80 = b_M_why_80 := rfl
theorem P_M_why_81 : P 157 81 = b_M_why_81 := rfl
theorem P_M_why_88 : P 157 88 = b_M_why_88 := rfl
theorem P_M_why_120 : P 157 120 = b_M_why_120 := rfl
theorem P_M_why_134 : P 157 134 = b_M_why_134 := rfl
theorem P_M_why_157 : P 157 157 = b_M_why_157 := rfl
theorem P_M_why_188 : P 157 188 = b_M_why_188 := rfl
theorem P_M_why_189 : P 157 189 = b_M_why_189 := rfl
theorem P_M_faultIn_0 : P 158 0 = b_M_faultIn_0 := rfl
theorem P_M_faultIn_17 : P 158 17 = b_M_faultIn_17 := rfl
theorem P_M_faultIn_44 : P 158 44 = b_M_faultIn_44 := rfl
theorem P_M_faultIn_50 : P 158 50 = b_M_faultIn_50 := rfl
theorem P_M_faultIn_79 : P 158 79 = b_M_faultIn_79 := rfl
theorem P_M_faultIn_87 : P 158 87 = b_M_faultIn_87 := rfl
theorem P_M_faultIn_116 : P 158 116 = b_M_faultIn_116 := rfl
theorem P_M_faultIn_135 : P 158 135 = b_M_faultIn_135 := rfl
theorem P_M_faultIn_136 : P 158 136 = b_M_faultIn_136 := rfl
theorem P_M_fault_0 : P 159 0 = b_M_fault_0 := rfl
theorem P_M_fault_11 : P 159 11 = b_M_fault_11 := rfl
theorem P_M_fault_13 : P 159 13 = b_M_fault_13 := rfl
theorem P_M_fault_39 : P 159 39 = b_M_fault_39 := rfl
theorem P_M_fault_40 : P 159 40 = b_M_fault_40 := rfl
theorem P_M_fault_41 : P 159 41 = b_M_fault_41 := rfl
theorem P_M_fault_47 : P 159 47 = b_M_fault_47 := rfl
theorem P_M_drawnSum_0 : P 160 0 = b_M_drawnSum_0 := rfl
theorem P_M_drawnSum_8 : P 160 8 = b_M_drawnSum_8 := rfl
theorem P_M_drawnSum_32 : P 160 32 = b_M_drawnSum_32 := rfl
theorem P_M_drawnSum_61 : P 160 61 = b_M_drawnSum_61 := rfl
theorem P_M_speedFor_0 : P 161 0 = b_M_speedFor_0 := rfl
theorem P_M_speedFor_12 : P 161 12 = b_M_speedFor_12 := rfl
theorem P_M_speedFor_14 : P 161 14 = b_M_speedFor_14 := rfl
theorem P_M_speedFor_43 : P 161 43 = b_M_speedFor_43 := rfl
theorem P_M_speedFor_49 : P 161 49 = b_M_speedFor_49 := rfl
theorem P_M_nearest_0 : P 162 0 = b_M_nearest_0 := rfl
theorem P_M_nearest_25 : P 162 25 = b_M_nearest_25 := rfl
theorem P_M_nearest_26 : P 162 26 = b_M_nearest_26 := rfl
theorem P_W_law_0 : P 163 0 = b_W_law_0 := rfl
theorem P_W_law_18 : P 163 18 = b_W_law_18 := rfl
theorem P_W_law_180 : P 163 180 = b_W_law_180 := rfl
theorem P_W_law_213 : P 163 213 = b_W_law_213 := rfl
theorem P_W_law_256 : P 163 256 = b_W_law_256 := rfl
theorem P_W_law_299 : P 163 299 = b_W_law_299 := rfl
theorem P_W_law_332 : P 163 332 = b_W_law_332 := rfl
theorem P_W_law_375 : P 163 375 = b_W_law_375 := rfl
theorem P_W_law_398 : P 163 398 = b_W_law_398 := rfl
theorem P_W_law_431 : P 163 431 = b_W_law_431 := rfl
theorem P_W_law_464 : P 163 464 = b_W_law_464 := rfl
theorem P_W_law_497 : P 163 497 = b_W_law_497 := rfl
theorem P_W_law_530 : P 163 530 = b_W_law_530 := rfl
theorem P_W_law_543 : P 163 543 = b_W_law_543 := rfl
theorem P_W_law_566 : P 163 566 = b_W_law_566 := rfl
theorem P_W_law_589 : P 163 589 = b_W_law_589 := rfl
theorem P_W_law_612 : P 163 612 = b_W_law_612 := rfl
theorem P_W_law_625 : P 163 625 = b_W_law_625 := rfl
theorem P_W_law_648 : P 163 648 = b_W_law_648 := rfl
theorem P_W_law_661 : P 163 661 = b_W_law_661 := rfl
theorem P_W_law_674 : P 163 674 = b_W_law_674 := rfl
theorem P_W_law_697 : P 163 697 = b_W_law_697 := rfl
theorem P_W_law_730 : P 163 730 = b_W_law_730 := rfl
theorem P_W_law_763 : P 163 763 = b_W_law_763 := rfl
theorem P_W_law_796 : P 163 796 = b_W_law_796 := rfl
theorem P_W_law_819 : P 163 819 = b_W_law_819 := rfl
theorem P_W_law_852 : P 163 852 = b_W_law_852 := rfl
theorem P_W_law_885 : P 163 885 = b_W_law_885 := rfl
theorem P_W_law_918 : P 163 918 = b_W_law_918 := rfl
theorem P_W_law_941 : P 163 941 = b_W_law_941 := rfl
theorem P_W_law_974 : P 163 974 = b_W_law_974 := rfl
theorem P_W_law_997 : P 163 997 = b_W_law_997 := rfl
theorem P_W_law_1020 : P 163 1020 = b_W_law_1020 := rfl
theorem P_W_law_1033 : P 163 1033 = b_W_law_1033 := rfl
theorem P_W_law_1056 : P 163 1056 = b_W_law_1056 := rfl
theorem P_W_law_1089 : P 163 1089 = b_W_law_1089 := rfl
theorem P_W_law_1095 : P 163 1095 = b_W_law_1095 := rfl
end
section
/-! THE ABSTRACT MACHINE: ints are Int (their Int32 by Int32.ofInt), references are addresses; a store is (ints, (references, shapes, top, slots)) by address and slot.
Shapes: 0 int[], 1 boolean[], 2 State[], 3 Scene[], 4 an int[] that nobody writes, 10 + c an object of class c. -/
abbrev AV : Type := Int ⊕ Option Nat
abbrev Ri : Type := (Nat → Nat → Option Nat) × (Nat → Option (Nat × Nat)) × Nat × Nat
abbrev Sto : Type := (Nat → Nat → Int) × Ri
abbrev LsT : Type := List (Option AV)
abbrev AI (z : Int) : AV := .inl z
abbrev AR (a : Nat) : AV := .inr (some a)
abbrev Out : Type := (LsT × List AV × Sto) ⊕ (Nat × List AV) ⊕ (Nat × List AV × List AV) ⊕ Option AV
abbrev rng (z : Int) : Prop := -2147483648 ≤ z ∧ z < 2147483648
abbrev shp (σ : Sto) (a : Nat) : Option (Nat × Nat) := σ.2.2.1 a
abbrev topS (σ : Sto) : Nat := σ.2.2.2.1
abbrev usdS (σ : Sto) : Nat := σ.2.2.2.2
def lget : LsT → Nat → Option AV
  | [], _ => none
  | x :: _, 0 => x
  | _ :: t, i + 1 => lget t i
def lset : LsT → Nat → AV → LsT
  | [], _, _ => []
  | _ :: t, 0, v => some v :: t
  | x :: t, i + 1, v => x :: lset t i v
def wrI (f : Nat → Nat → Int) (a k : Nat) (v : Int) : Nat → Nat → Int := fun x y => if x = a ∧ y = k then v else f x y
def wrR (f : Nat → Nat → Option Nat) (a k : Nat) (v : Option Nat) : Nat → Nat → Option Nat := fun x y => if x = a ∧ y = k then v else f x y
def cpI (f : Nat → Nat → Int) (src sp dst dp n : Nat) : Nat → Nat → Int := fun x y => if x = dst ∧ dp ≤ y ∧ y < dp + n then f src (sp + (y - dp)) else f x y
def mkS (σ : Sto) (kd N : Nat) : Sto := (fun x y => if x = topS σ then 0 else σ.1 x y, fun x y => if x = topS σ then none else σ.2.1 x y, fun x => if x = topS σ then some (kd, N) else σ.2.2.1 x, topS σ + 1, usdS σ + N)
def nx (ls : LsT) (st : List AV) (σ : Sto) : Option Out := some (.inl (ls, st, σ))
def jp (L : Nat) (st : List AV) : Option Out := some (.inr (.inl (L, st)))
def ldI (ls : LsT) (i : Nat) (st : List AV) (σ : Sto) : Option Out := match lget ls i with
  | some (.inl z) => nx ls (.inl z :: st) σ
  | _ => none
def ldR (ls : LsT) (i : Nat) (st : List AV) (σ : Sto) : Option Out := match lget ls i with
  | some (.inr (some a)) => nx ls (.inr (some a) :: st) σ
  | _ => none
def stI (ls : LsT) (i : Nat) (st : List AV) (σ : Sto) : Option Out := match st with
  | .inl z :: st => nx (lset ls i (.inl z)) st σ
  | _ => none
def stR (ls : LsT) (i : Nat) (st : List AV) (σ : Sto) : Option Out := match st with
  | .inr (some a) :: st => nx (lset ls i (.inr (some a))) st σ
  | _ => none
def bin (f : Int → Int → Option Int) (ls : LsT) (st : List AV) (σ : Sto) : Option Out := match st with
  | .inl b :: .inl a :: st => match f a b with
    | some z => nx ls (.inl z :: st) σ
    | none => none
  | _ => none
def cj (c : Jvm.ClassFile.Cond) (a b : Int) (t f : Option Out) : Option Out := match c with
  | .eq => if a = b then t else if rng a ∧ rng b then f else none
  | .ne => if a = b then f else if rng a ∧ rng b then t else none
  | .lt => if rng a ∧ rng b then (if a < b then t else f) else none
  | .ge => if rng a ∧ rng b then (if b ≤ a then t else f) else none
  | .gt => if rng a ∧ rng b then (if b < a then t else f) else none
  | .le => if rng a ∧ rng b then (if a ≤ b then t else f) else none
def natC (k : Nat) (ls : LsT) (st : List AV) (σ : Sto) : Option Out :=
  if k = 1000 then (match st with
    | .inr (some _) :: st => nx ls st σ
    | _ => none)
  else if k = 1001 then (match st with
    | .inl n :: .inl dp :: .inr (some d) :: .inl sp :: .inr (some s) :: st => match shp σ s, shp σ d with
      | some (ks, n0), some (kd, n1) => if ks = 0 ∧ kd = 0 ∧ 0 ≤ n ∧ 0 ≤ dp ∧ 0 ≤ sp ∧ sp + n ≤ n0 ∧ dp + n ≤ n1 ∧ n0 < 65536 ∧ n1 < 65536 then nx ls st (cpI σ.1 s sp.toNat d dp.toNat n.toNat, σ.2) else none
      | _, _ => none
    | _ => none)
  else if k = 1002 then (match st with
    | .inl a :: st => if rng a ∧ a ≠ -2147483648 then nx ls (.inl (a.natAbs : Int) :: st) σ else none
    | _ => none)
  else if k = 1003 then bin (fun a b => if rng a ∧ rng b then some (min a b) else none) ls st σ
  else if k = 1004 then bin (fun a b => if rng a ∧ rng b then some (max a b) else none) ls st σ
  else none
def rcv (σ : Sto) (rk : Nat) (a : AV) : Prop := match a with
  | .inr (some b) => ∃ N, shp σ b = some (rk, N)
  | _ => False
def rcB (σ : Sto) (rk : Nat) (as : List AV) : Bool := rk == 0 || match as with
  | .inr (some b) :: _ => (match shp σ b with
    | some (kd, _) => kd == rk
    | none => false)
  | _ => false
def cal (x : List Nat) (st : List AV) (σ : Sto) : Option Out := match x with
  | [k, na, rk] => if na ≤ st.length ∧ st.length ≤ na + 7 ∧ rcB σ rk (st.take na).reverse = true then some (.inr (.inr (.inl (k, (st.take na).reverse, st.drop na)))) else none
  | _ => none
def x0 (x : List Nat) : Nat := match x with
  | a :: _ => a
  | [] => 0
def x1 (x : List Nat) : Nat := match x with
  | _ :: b :: _ => b
  | _ => 0
def aldI (ok : Nat → Bool) (ls : LsT) (st : List AV) (σ : Sto) : Option Out := match st with
  | .inl i :: .inr (some a) :: st => match shp σ a with
    | some (kd, N) => if ok kd = true ∧ 0 ≤ i ∧ i < N ∧ i < 65536 then nx ls (.inl (σ.1 a i.toNat) :: st) σ else none
    | none => none
  | _ => none
def eff (zt : Nat → Nat) (q : RI) (ls : LsT) (st : List AV) (σ : Sto) : Option Out := match q.1 with
  | .aload i => ldR ls i st σ
  | .aload_n i => ldR ls i.val st σ
  | .iload i => ldI ls i st σ
  | .iload_n i => ldI ls i.val st σ
  | .istore i => stI ls i st σ
  | .istore_n i => stI ls i.val st σ
  | .astore i => stR ls i st σ
  | .astore_n i => stR ls i.val st σ
  | .iconst v => nx ls (.inl v :: st) σ
  | .bipush v => nx ls (.inl v :: st) σ
  | .sipush v => nx ls (.inl v :: st) σ
  | .ldc _ => nx ls (.inl (x0 q.2 : Int) :: st) σ
  | .iadd => bin (fun a b => some (a + b)) ls st σ
  | .isub => bin (fun a b => some (a - b)) ls st σ
  | .imul => bin (fun a b => some (a * b)) ls st σ
  | .iand => bin (fun a b => if b = 63 then some (a % 64) else none) ls st σ
  | .idiv => bin (fun a b => if rng a ∧ 0 < b ∧ rng b then some (a.tdiv b) else none) ls st σ
  | .irem => bin (fun a b => if 0 ≤ a ∧ rng a ∧ 0 < b ∧ rng b then some (a % b) else none) ls st σ
  | .ineg => (match st with
    | .inl a :: st => nx ls (.inl (-a) :: st) σ
    | _ => none)
  | .iinc i d => (match lget ls i with
    | some (.inl z) => nx (lset ls i (.inl (z + d))) st σ
    | _ => none)
  | .dup => (match st with
    | a :: st => nx ls (a :: a :: st) σ
    | _ => none)
  | .dup2 => (match st with
    | b :: a :: st => nx ls (b :: a :: b :: a :: st) σ
    | _ => none)
  | .pop => (match st with
    | _ :: st => nx ls st σ
    | _ => none)
  | .nop => jp (x0 q.2) st
  | .goto _ => jp (x0 q.2) st
  | .if_icmp c _ => (match st with
    | .inl b :: .inl a :: st => cj c a b (jp (x0 q.2) st) (nx ls st σ)
    | _ => none)
  | .ifCond c _ => (match st with
    | .inl a :: st => cj c a 0 (jp (x0 q.2) st) (nx ls st σ)
    | _ => none)
  | .tableswitch _ lo hi _ => (match st, q.2 with
    | .inl a :: st, d :: ts => if rng a then (if a < lo ∨ hi < a then jp d st else match ts[(a - lo).toNat]? with
      | some L => jp L st
      | none => none) else none
    | _, _ => none)
  | .getfield _ => (match st with
    | .inr (some a) :: st => match shp σ a with
      | some (kd, _) => if kd = 10 + x0 q.2 then nx ls ((if fI (x0 q.2) (x1 q.2) = true then .inl (σ.1 a (x1 q.2)) else .inr (σ.2.1 a (x1 q.2))) :: st) σ else none
      | none => none
    | _ => none)
  | .putfield _ => (match st with
    | .inl v :: .inr (some a) :: st => (match shp σ a with
      | some (kd, _) => if kd = 10 + x0 q.2 ∧ fI (x0 q.2) (x1 q.2) = true then nx ls st (wrI σ.1 a (x1 q.2) v, σ.2) else none
      | none => none)
    | .inr (some b) :: .inr (some a) :: st => (match shp σ a with
      | some (kd, _) => if kd = 10 + x0 q.2 ∧ fI (x0 q.2) (x1 q.2) = false then nx ls st (σ.1, wrR σ.2.1 a (x1 q.2) (some b), σ.2.2) else none
      | none => none)
    | _ => none)
  | .getstatic _ => nx ls (.inr (some (zt (x0 q.2))) :: st) σ
  | .iaload => aldI (fun kd => kd == 0 || kd == 4) ls st σ
  | .baload => aldI (fun kd => kd == 1) ls st σ
  | .iastore => (match st with
    | .inl v :: .inl i :: .inr (some a) :: st => match shp σ a with
      | some (kd, N) => if kd = 0 ∧ 0 ≤ i ∧ i < N ∧ i < 65536 then nx ls st (wrI σ.1 a i.toNat v, σ.2) else none
      | none => none
    | _ => none)
  | .bastore => (match st with
    | .inl v :: .inl i :: .inr (some a) :: st => match shp σ a with
      | some (kd, N) => if kd = 1 ∧ 0 ≤ i ∧ i < N ∧ i < 65536 ∧ (v = 0 ∨ v = 1) then nx ls st (wrI σ.1 a i.toNat v, σ.2) else none
      | none => none
    | _ => none)
  | .aaload => (match st with
    | .inl i :: .inr (some a) :: st => match shp σ a with
      | some (kd, N) => if (kd = 2 ∨ kd = 3) ∧ 0 ≤ i ∧ i < N ∧ i < 65536 then nx ls (.inr (σ.2.1 a i.toNat) :: st) σ else none
      | none => none
    | _ => none)
  | .aastore => (match st with
    | .inr (some b) :: .inl i :: .inr (some a) :: st => match shp σ a, shp σ b with
      | some (kd, N), some (kb, _) => if (kd = 2 ∧ kb = 14 ∨ kd = 3 ∧ kb = 13) ∧ 0 ≤ i ∧ i < N ∧ i < 65536 then nx ls st (σ.1, wrR σ.2.1 a i.toNat (some b), σ.2.2) else none
      | _, _ => none
    | _ => none)
  | .arraylength => (match st with
    | .inr (some a) :: st => match shp σ a with
      | some (kd, N) => if kd ≤ 4 then nx ls (.inl (N : Int) :: st) σ else none
      | none => none
    | _ => none)
  | .newarray _ => (match st with
    | .inl n :: st => if 0 ≤ n ∧ n < 65536 then nx ls (.inr (some (topS σ)) :: st) (mkS σ (x0 q.2) n.toNat) else none
    | _ => none)
  | .anewarray _ => (match st with
    | .inl n :: st => if 0 ≤ n ∧ n < 65536 then nx ls (.inr (some (topS σ)) :: st) (mkS σ (x0 q.2) n.toNat) else none
    | _ => none)
  | .new _ => nx ls (.inr (some (topS σ)) :: st) (mkS σ (10 + x0 q.2) (NF (x0 q.2)))
  | .invokevirtual _ => cal q.2 st σ
  | .invokestatic _ => if 1000 ≤ x0 q.2 then (if st.length ≤ 8 then natC (x0 q.2) ls st σ else none) else cal q.2 st σ
  | .invokespecial _ => if 1000 ≤ x0 q.2 then (if st.length ≤ 8 then natC (x0 q.2) ls st σ else none) else cal q.2 st σ
  | .ireturn => (match st with
    | [.inl z] => if x0 q.2 = 0 ∨ z = 0 ∨ z = 1 then some (.inr (.inr (.inr (some (.inl z))))) else none
    | _ => none)
  | .return_ => (match st with
    | [] => some (.inr (.inr (.inr none)))
    | _ => none)
  | _ => none
def ent (k : Nat) (as : List AV) : LsT := as.map some ++ List.replicate (mxM k - as.length) none
def run (zt : Nat → Nat) : Nat → Nat → List RI → LsT → List AV → Sto → Option (Option AV × Sto)
  | 0, _, _, _, _, _ => none
  | n + 1, k, c, ls, st, σ => match c with
    | [] => none
    | q :: c => match eff zt q ls st σ with
      | none => none
      | some (.inl (ls', st', σ')) => run zt n k c ls' st' σ'
      | some (.inr (.inl (L, st'))) => run zt n k (P k L) ls st' σ
      | some (.inr (.inr (.inl (k', as, rest)))) => (match run zt n k' (P k' 0) (ent k' as) [] σ with
        | some (v, σ') => run zt n k c ls (v.toList ++ rest) σ'
        | none => none)
      | some (.inr (.inr (.inr v))) => some (v, σ)
def Wp (zt : Nat → Nat) (k : Nat) (c : List RI) (ls : LsT) (st : List AV) (σ : Sto) (Q : Option AV → Sto → Prop) : Prop := ∃ n v σ', run zt n k c ls st σ = some (v, σ') ∧ Q v σ'
def WpM (zt : Nat → Nat) (k : Nat) (as : List AV) (σ : Sto) (Q : Option AV → Sto → Prop) : Prop := Wp zt k (P k 0) (ent k as) [] σ Q
end
section
/-! RULES: what a step asks of the steps behind it (rewriting rules) -/
section WPR
variable {zt : Nat → Nat} {k : Nat} {q : RI} {c : List RI} {ls ls' : LsT} {st st' : List AV} {σ σ' : Sto} {Q : Option AV → Sto → Prop}
theorem run_le : ∀ (n k : Nat) (c : List RI) (ls : LsT) (st : List AV) (σ : Sto) (r : Option AV × Sto), run zt n k c ls st σ = some r → run zt (n + 1) k c ls st σ = some r
  | 0, _, _, _, _, _, _, h => by cases h
  | n + 1, k, [], _, _, _, _, h => by cases h
  | n + 1, k, q :: c, ls, st, σ, r, h => by
    rw [run] at h ⊢
    cases he : eff zt q ls st σ with
    | none => rw [he] at h; cases h
    | some o =>
      rw [he] at h
      match o, h with
      | .inl (ls', st', σ'), h => exact run_le n _ _ _ _ _ _ h
      | .inr (.inl (L, st')), h => exact run_le n _ _ _ _ _ _ h
      | .inr (.inr (.inl (k', as, rest))), h =>
        dsimp only at h ⊢
        cases hc : run zt n k' (P k' 0) (ent k' as) [] σ with
        | none => rw [hc] at h; cases h
        | some r1 =>
          rw [hc] at h
          rw [run_le n _ _ _ _ _ _ hc]
          exact run_le n _ _ _ _ _ _ h
      | .inr (.inr (.inr v)), h => exact h
theorem run_add {n : Nat} (d : Nat) {k : Nat} {c : List RI} {ls : LsT} {st : List AV} {σ : Sto} {r : Option AV × Sto} (h : run zt n k c ls st σ = some r) : run zt (n + d) k c ls st σ = some r := by
  induction d with
  | zero => exact h
  | succ d ih => exact run_le _ _ _ _ _ _ _ ih
theorem run_det {n m k : Nat} {c : List RI} {ls : LsT} {st : List AV} {σ : Sto} {r r2 : Option AV × Sto} (h : run zt n k c ls st σ = some r) (h2 : run zt m k c ls st σ = some r2) : r = r2 := by
  have e1 := run_add m h
  have e2 := run_add n h2
  rw [Nat.add_comm] at e2
  rw [e1] at e2
  exact Option.some.inj e2
theorem wp_nx (h : eff zt q ls st σ = some (.inl (ls', st', σ'))) : Wp zt k (q :: c) ls st σ Q ↔ Wp zt k c ls' st' σ' Q := by
  constructor
  · rintro ⟨n, v, σ1, hr, hq⟩
    cases n with
    | zero => cases hr
    | succ n =>
      rw [run, h] at hr
      exact ⟨n, v, σ1, hr, hq⟩
  · rintro ⟨n, v, σ1, hr, hq⟩
    exact ⟨n + 1, v, σ1, by rw [run, h]; exact hr, hq⟩
theorem wp_jp {L : Nat} (h : eff zt q ls st σ = some (.inr (.inl (L, st')))) : Wp zt k (q :: c) ls st σ Q ↔ Wp zt k (P k L) ls st' σ Q := by
  constructor
  · rintro ⟨n, v, σ1, hr, hq⟩
    cases n with
    | zero => cases hr
    | succ n =>
      rw [run, h] at hr
      exact ⟨n, v, σ1, hr, hq⟩
  · rintro ⟨n, v, σ1, hr, hq⟩
    exact ⟨n + 1, v, σ1, by rw [run, h]; exact hr, hq⟩
theorem wp_rt {v : Option AV} (h : eff zt q ls st σ = some (.inr (.inr (.inr v)))) : Wp zt k (q :: c) ls st σ Q ↔ Q v σ := by
  constructor
  · rintro ⟨n, v, σ1, hr, hq⟩
    cases n with
    | zero => cases hr
    | succ n =>
      rw [run, h] at hr
      cases hr
      exact hq
  · intro hq
    exact ⟨1, v, σ, by rw [run, h], hq⟩
theorem wp_cl {k' : Nat} {as rest : List AV} (h : eff zt q ls st σ = some (.inr (.inr (.inl (k', as, rest))))) : Wp zt k (q :: c) ls st σ Q ↔ WpM zt k' as σ (fun v σ' => Wp zt k c ls (v.toList ++ rest) σ' Q) := by
  constructor
  · rintro ⟨n, v, σ1, hr, hq⟩
    cases n with
    | zero => cases hr
    | succ n =>
      rw [run, h] at hr
      dsimp only at hr
      split at hr
      · next v1 σ2 hc => exact ⟨n, v1, σ2, hc, n, v, σ1, hr, hq⟩
      · cases hr
  · rintro ⟨n, v1, σ2, hc, m, v, σ1, hr, hq⟩
    refine ⟨n + m + 1, v, σ1, ?_, hq⟩
    rw [run, h]
    dsimp only
    rw [run_add m hc]
    dsimp only
    rw [Nat.add_comm n m]
    exact run_add n hr
theorem wp_no (h : eff zt q ls st σ = none) : ¬ Wp zt k (q :: c) ls st σ Q := by
  rintro ⟨n, v, σ1, hr, hq⟩
  cases n with
  | zero => cases hr
  | succ n =>
    rw [run, h] at hr
    cases hr
/-- what holds whatever is asked behind is an equivalence -/
theorem wpm_iff {k' : Nat} {as : List AV} {v0 : Option AV} {σ0 : Sto} (h : ∀ Q : Option AV → Sto → Prop, Q v0 σ0 → WpM zt k' as σ Q) (Q : Option AV → Sto → Prop) : WpM zt k' as σ Q ↔ Q v0 σ0 := by
  refine ⟨fun hw => ?_, h Q⟩
  obtain ⟨n, v, σ1, hr, hq⟩ := hw
  obtain ⟨m, v2, σ2, hr2, hq2⟩ := h (fun v s => v = v0 ∧ s = σ0) ⟨rfl, rfl⟩
  have e := run_det hr hr2
  cases e
  rw [hq2.1, hq2.2] at hq
  exact hq
theorem wpm_mono {k' : Nat} {as : List AV} {Q Q2 : Option AV → Sto → Prop} (h : WpM zt k' as σ Q) (hq : ∀ v s, Q v s → Q2 v s) : WpM zt k' as σ Q2 := by
  obtain ⟨n, v, σ1, hr, h2⟩ := h
  exact ⟨n, v, σ1, hr, hq _ _ h2⟩
theorem wp_mono {Q Q2 : Option AV → Sto → Prop} (h : Wp zt k c ls st σ Q) (hq : ∀ v s, Q v s → Q2 v s) : Wp zt k c ls st σ Q2 := by
  obtain ⟨n, v, σ1, hr, h2⟩ := h
  exact ⟨n, v, σ1, hr, hq _ _ h2⟩
end WPR
def kdI (ρ : Ri) (a kd : Nat) : Prop := ∃ N, ρ.2.1 a = some (kd, N)
def lnA (ρ : Ri) (a : Nat) : Nat := match ρ.2.1 a with
  | some (_, N) => N
  | none => 0
theorem kdI_of {ρ : Ri} {a kd N : Nat} (h : ρ.2.1 a = some (kd, N)) : kdI ρ a kd := ⟨N, h⟩
theorem lnA_of {ρ : Ri} {a kd N : Nat} (h : ρ.2.1 a = some (kd, N)) : lnA ρ a = N := by unfold lnA; rw [h]
theorem kdI_ln {ρ : Ri} {a kd : Nat} (h : kdI ρ a kd) : ρ.2.1 a = some (kd, lnA ρ a) := by
  obtain ⟨N, h⟩ := h
  rw [lnA_of h, h]
def b2 (p : Prop) [Decidable p] : Int := if p then 1 else 0
theorem b2_0 {p : Prop} [Decidable p] : b2 p = 0 ↔ ¬ p := by unfold b2; split <;> simp_all
theorem b2_1 {p : Prop} [Decidable p] : b2 p = 1 ↔ p := by unfold b2; split <;> simp_all
theorem b2_t {p : Prop} [Decidable p] (h : p) : b2 p = 1 := if_pos h
theorem b2_f {p : Prop} [Decidable p] (h : ¬ p) : b2 p = 0 := if_neg h
section WPS
variable {zt : Nat → Nat} {k : Nat} {c : List RI} {ls : LsT} {st : List AV} {g : Nat → Nat → Int} {ρ : Ri} {Q : Option AV → Sto → Prop} {x : List Nat}
theorem wp_il0 {l : LsT} {z : Int} : Wp zt k ((.iload 0, x) :: c) (some (.inl z) :: l) st (g, ρ) Q ↔ Wp zt k c (some (.inl z) :: l) (.inl z :: st) (g, ρ) Q := wp_nx rfl
theorem wp_al0 {l : LsT} {a : Nat} : Wp zt k ((.aload 0, x) :: c) (some (.inr (some a)) :: l) st (g, ρ) Q ↔ Wp zt k c (some (.inr (some a)) :: l) (.inr (some a) :: st) (g, ρ) Q := wp_nx rfl
theorem wp_iln0 {l : LsT} {z : Int} : Wp zt k ((.iload_n 0, x) :: c) (some (.inl z) :: l) st (g, ρ) Q ↔ Wp zt k c (some (.inl z) :: l) (.inl z :: st) (g, ρ) Q := wp_nx rfl
theorem wp_aln0 {l : LsT} {a : Nat} : Wp zt k ((.aload_n 0, x) :: c) (some (.inr (some a)) :: l) st (g, ρ) Q ↔ Wp zt k c (some (.inr (some a)) :: l) (.inr (some a) :: st) (g, ρ) Q := wp_nx rfl
theorem wp_is0 {l : LsT} {o : Option AV} {z : Int} : Wp zt k ((.istore 0, x) :: c) (o :: l) (.inl z :: st) (g, ρ) Q ↔ Wp zt k c (some (.inl z) :: l) st (g, ρ) Q := wp_nx rfl
theorem wp_as0 {l : LsT} {o : Option AV} {a : Nat} : Wp zt k ((.astore 0, x) :: c) (o :: l) (.inr (some a) :: st) (g, ρ) Q ↔ Wp zt k c (some (.inr (some a)) :: l) st (g, ρ) Q := wp_nx rfl
theorem wp_isn0 {l : LsT} {o : Option AV} {z : Int} : Wp zt k ((.istore_n 0, x) :: c) (o :: l) (.inl z :: st) (g, ρ) Q ↔ Wp zt k c (some (.inl z) :: l) st (g, ρ) Q := wp_nx rfl
theorem wp_asn0 {l : LsT} {o : Option AV} {a : Nat} : Wp zt k ((.astore_n 0, x) :: c) (o :: l) (.inr (some a) :: st) (g, ρ) Q ↔ Wp zt k c (some (.inr (some a)) :: l) st (g, ρ) Q := wp_nx rfl
theorem wp_inc0 {l : LsT} {z d : Int} : Wp zt k ((.iinc 0 d, x) :: c) (some (.inl z) :: l) st (g, ρ) Q ↔ Wp zt k c (some (.inl (z + d)) :: l) st (g, ρ) Q := wp_nx rfl
theorem wp_il1 {l0 : Option AV} {l : LsT} {z : Int} : Wp zt k ((.iload 1, x) :: c) (l0 :: some (.inl z) :: l) st (g, ρ) Q ↔ Wp zt k c (l0 :: some (.inl z) :: l) (.inl z :: st) (g, ρ) Q := wp_nx rfl
theorem wp_al1 {l0 : Option AV} {l : LsT} {a : Nat} : Wp zt k ((.aload 1, x) :: c) (l0 :: some (.inr (some a)) :: l) st (g, ρ) Q ↔ Wp zt k c (l0 :: some (.inr (some a)) :: l) (.inr (some a) :: st) (g, ρ) Q := wp_nx rfl
theorem wp_iln1 {l0 : Option AV} {l : LsT} {z : Int} : Wp zt k ((.iload_n 1, x) :: c) (l0 :: some (.inl z) :: l) st (g, ρ) Q ↔ Wp zt k c (l0 :: some (.inl z) :: l) (.inl z :: st) (g, ρ) Q := wp_nx rfl
theorem wp_aln1 {l0 : Option AV} {l : LsT} {a : Nat} : Wp zt k ((.aload_n 1, x) :: c) (l0 :: some (.inr (some a)) :: l) st (g, ρ) Q ↔ Wp zt k c (l0 :: some (.inr (some a)) :: l) (.inr (some a) :: st) (g, ρ) Q := wp_nx rfl
theorem wp_is1 {l0 : Option AV} {l : LsT} {o : Option AV} {z : Int} : Wp zt k ((.istore 1, x) :: c) (l0 :: o :: l) (.inl z :: st) (g, ρ) Q ↔ Wp zt k c (l0 :: some (.inl z) :: l) st (g, ρ) Q := wp_nx rfl
theorem wp_as1 {l0 : Option AV} {l : LsT} {o : Option AV} {a : Nat} : Wp zt k ((.astore 1, x) :: c) (l0 :: o :: l) (.inr (some a) :: st) (g, ρ) Q ↔ Wp zt k c (l0 :: some (.inr (some a)) :: l) st (g, ρ) Q := wp_nx rfl
theorem wp_isn1 {l0 : Option AV} {l : LsT} {o : Option AV} {z : Int} : Wp zt k ((.istore_n 1, x) :: c) (l0 :: o :: l) (.inl z :: st) (g, ρ) Q ↔ Wp zt k c (l0 :: some (.inl z) :: l) st (g, ρ) Q := wp_nx rfl
theorem wp_asn1 {l0 : Option AV} {l : LsT} {o : Option AV} {a : Nat} : Wp zt k ((.astore_n 1, x) :: c) (l0 :: o :: l) (.inr (some a) :: st) (g, ρ) Q ↔ Wp zt k c (l0 :: some (.inr (some a)) :: l) st (g, ρ) Q := wp_nx rfl
theorem wp_inc1 {l0 : Option AV} {l : LsT} {z d : Int} : Wp zt k ((.iinc 1 d, x) :: c) (l0 :: some (.inl z) :: l) st (g, ρ) Q ↔ Wp zt k c (l0 :: some (.inl (z + d)) :: l) st (g, ρ) Q := wp_nx rfl
theorem wp_il2 {l0 l1 : Option AV} {l : LsT} {z : Int} : Wp zt k ((.iload 2, x) :: c) (l0 :: l1 :: some (.inl z) :: l) st (g, ρ) Q ↔ Wp zt k c (l0 :: l1 :: some (.inl z) :: l) (.inl z :: st) (g, ρ) Q := wp_nx rfl
theorem wp_al2 {l0 l1 : Option AV} {l : LsT} {a : Nat} : Wp zt k ((.aload 2, x) :: c) (l0 :: l1 :: some (.inr (some a)) :: l) st (g, ρ) Q ↔ Wp zt k c (l0 :: l1 :: some (.inr (some a)) :: l) (.inr (some a) :: st) (g, ρ) Q := wp_nx rfl
theorem wp_iln2 {l0 l1 : Option AV} {l : LsT} {z : Int} : Wp zt k ((.iload_n 2, x) :: c) (l0 :: l1 :: some (.inl z) :: l) st (g, ρ) Q ↔ Wp zt k c (l0 :: l1 :: some (.inl z) :: l) (.inl z :: st) (g, ρ) Q := wp_nx rfl
theorem wp_aln2 {l0 l1 : Option AV} {l : LsT} {a : Nat} : Wp zt k ((.aload_n 2, x) :: c) (l0 :: l1 :: some (.inr (some a)) :: l) st (g, ρ) Q ↔ Wp zt k c (l0 :: l1 :: some (.inr (some a)) :: l) (.inr (some a) :: st) (g, ρ) Q := wp_nx rfl
theorem wp_is2 {l0 l1 : Option AV} {l : LsT} {o : Option AV} {z : Int} : Wp zt k ((.istore 2, x) :: c) (l0 :: l1 :: o :: l) (.inl z :: st) (g, ρ) Q ↔ Wp zt k c (l0 :: l1 :: some (.inl z) :: l) st (g, ρ) Q := wp_nx rfl
theorem wp_as2 {l0 l1 : Option AV} {l : LsT} {o : Option AV} {a : Nat} : Wp zt k ((.astore 2, x) :: c) (l0 :: l1 :: o :: l) (.inr (some a) :: st) (g, ρ) Q ↔ Wp zt k c (l0 :: l1 :: some (.inr (some a)) :: l) st (g, ρ) Q := wp_nx rfl
theorem wp_isn2 {l0 l1 : Option AV} {l : LsT} {o : Option AV} {z : Int} : Wp zt k ((.istore_n 2, x) :: c) (l0 :: l1 :: o :: l) (.inl z :: st) (g, ρ) Q ↔ Wp zt k c (l0 :: l1 :: some (.inl z) :: l) st (g, ρ) Q := wp_nx rfl
theorem wp_asn2 {l0 l1 : Option AV} {l : LsT} {o : Option AV} {a : Nat} : Wp zt k ((.astore_n 2, x) :: c) (l0 :: l1 :: o :: l) (.inr (some a) :: st) (g, ρ) Q ↔ Wp zt k c (l0 :: l1 :: some (.inr (some a)) :: l) st (g, ρ) Q := wp_nx rfl
theorem wp_inc2 {l0 l1 : Option AV} {l : LsT} {z d : Int} : Wp zt k ((.iinc 2 d, x) :: c) (l0 :: l1 :: some (.inl z) :: l) st (g, ρ) Q ↔ Wp zt k c (l0 :: l1 :: some (.inl (z + d)) :: l) st (g, ρ) Q := wp_nx rfl
theorem wp_il3 {l0 l1 l2 : Option AV} {l : LsT} {z : Int} : Wp zt k ((.iload 3, x) :: c) (l0 :: l1 :: l2 :: some (.inl z) :: l) st (g, ρ) Q ↔ Wp zt k c (l0 :: l1 :: l2 :: some (.inl z) :: l) (.inl z :: st) (g, ρ) Q := wp_nx rfl
theorem wp_al3 {l0 l1 l2 : Option AV} {l : LsT} {a : Nat} : Wp zt k ((.aload 3, x) :: c) (l0 :: l1 :: l2 :: some (.inr (some a)) :: l) st (g, ρ) Q ↔ Wp zt k c (l0 :: l1 :: l2 :: some (.inr (some a)) :: l) (.inr (some a) :: st) (g, ρ) Q := wp_nx rfl
theorem wp_iln3 {l0 l1 l2 : Option AV} {l : LsT} {z : Int} : Wp zt k ((.iload_n 3, x) :: c) (l0 :: l1 :: l2 :: some (.inl z) :: l) st (g, ρ) Q ↔ Wp zt k c (l0 :: l1 :: l2 :: some (.inl z) :: l) (.inl z :: st) (g, ρ) Q := wp_nx rfl
theorem wp_aln3 {l0 l1 l2 : Option AV} {l : LsT} {a : Nat} : Wp zt k ((.aload_n 3, x) :: c) (l0 :: l1 :: l2 :: some (.inr (some a)) :: l) st (g, ρ) Q ↔ Wp zt k c (l0 :: l1 :: l2 :: some (.inr (some a)) :: l) (.inr (some a) :: st) (g, ρ) Q := wp_nx rfl
theorem wp_is3 {l0 l1 l2 : Option AV} {l : LsT} {o : Option AV} {z : Int} : Wp zt k ((.istore 3, x) :: c) (l0 :: l1 :: l2 :: o :: l) (.inl z :: st) (g, ρ) Q ↔ Wp zt k c (l0 :: l1 :: l2 :: some (.inl z) :: l) st (g, ρ) Q := wp_nx rfl
theorem wp_as3 {l0 l1 l2 : Option AV} {l : LsT} {o : Option AV} {a : Nat} : Wp zt k ((.astore 3, x) :: c) (l0 :: l1 :: l2 :: o :: l) (.inr (some a) :: st) (g, ρ) Q ↔ Wp zt k c (l0 :: l1 :: l2 :: some (.inr (some a)) :: l) st (g, ρ) Q := wp_nx rfl
theorem wp_isn3 {l0 l1 l2 : Option AV} {l : LsT} {o : Option AV} {z : Int} : Wp zt k ((.istore_n 3, x) :: c) (l0 :: l1 :: l2 :: o :: l) (.inl z :: st) (g, ρ) Q ↔ Wp zt k c (l0 :: l1 :: l2 :: some (.inl z) :: l) st (g, ρ) Q := wp_nx rfl
theorem wp_asn3 {l0 l1 l2 : Option AV} {l : LsT} {o : Option AV} {a : Nat} : Wp zt k ((.astore_n 3, x) :: c) (l0 :: l1 :: l2 :: o :: l) (.inr (some a) :: st) (g, ρ) Q ↔ Wp zt k c (l0 :: l1 :: l2 :: some (.inr (some a)) :: l) st (g, ρ) Q := wp_nx rfl
theorem wp_inc3 {l0 l1 l2 : Option AV} {l : LsT} {z d : Int} : Wp zt k ((.iinc 3 d, x) :: c) (l0 :: l1 :: l2 :: some (.inl z) :: l) st (g, ρ) Q ↔ Wp zt k c (l0 :: l1 :: l2 :: some (.inl (z + d)) :: l) st (g, ρ) Q := wp_nx rfl
theorem wp_il4 {l0 l1 l2 l3 : Option AV} {l : LsT} {z : Int} : Wp zt k ((.iload 4, x) :: c) (l0 :: l1 :: l2 :: l3 :: some (.inl z) :: l) st (g, ρ) Q ↔ Wp zt k c (l0 :: l1 :: l2 :: l3 :: some (.inl z) :: l) (.inl z :: st) (g, ρ) Q := wp_nx rfl
theorem wp_al4 {l0 l1 l2 l3 : Option AV} {l : LsT} {a : Nat} : Wp zt k ((.aload 4, x) :: c) (l0 :: l1 :: l2 :: l3 :: some (.inr (some a)) :: l) st (g, ρ) Q ↔ Wp zt k c (l0 :: l1 :: l2 :: l3 :: some (.inr (some a)) :: l) (.inr (some a) :: st) (g, ρ) Q := wp_nx rfl
theorem wp_is4 {l0 l1 l2 l3 : Option AV} {l : LsT} {o : Option AV} {z : Int} : Wp zt k ((.istore 4, x) :: c) (l0 :: l1 :: l2 :: l3 :: o :: l) (.inl z :: st) (g, ρ) Q ↔ Wp zt k c (l0 :: l1 :: l2 :: l3 :: some (.inl z) :: l) st (g, ρ) Q := wp_nx rfl
theorem wp_as4 {l0 l1 l2 l3 : Option AV} {l : LsT} {o : Option AV} {a : Nat} : Wp zt k ((.astore 4, x) :: c) (l0 :: l1 :: l2 :: l3 :: o :: l) (.inr (some a) :: st) (g, ρ) Q ↔ Wp zt k c (l0 :: l1 :: l2 :: l3 :: some (.inr (some a)) :: l) st (g, ρ) Q := wp_nx rfl
theorem wp_inc4 {l0 l1 l2 l3 : Option AV} {l : LsT} {z d : Int} : Wp zt k ((.iinc 4 d, x) :: c) (l0 :: l1 :: l2 :: l3 :: some (.inl z) :: l) st (g, ρ) Q ↔ Wp zt k c (l0 :: l1 :: l2 :: l3 :: some (.inl (z + d)) :: l) st (g, ρ) Q := wp_nx rfl
theorem wp_il5 {l0 l1 l2 l3 l4 : Option AV} {l : LsT} {z : Int} : Wp zt k ((.iload 5, x) :: c) (l0 :: l1 :: l2 :: l3 :: l4 :: some (.inl z) :: l) st (g, ρ) Q ↔ Wp zt k c (l0 :: l1 :: l2 :: l3 :: l4 :: some (.inl z) :: l) (.inl z :: st) (g, ρ) Q := wp_nx rfl
theorem wp_al5 {l0 l1 l2 l3 l4 : Option AV} {l : LsT} {a : Nat} : Wp zt k ((.aload 5, x) :: c) (l0 :: l1 :: l2 :: l3 :: l4 :: some (.inr (some a)) :: l) st (g, ρ) Q ↔ Wp zt k c (l0 :: l1 :: l2 :: l3 :: l4 :: some (.inr (some a)) :: l) (.inr (some a) :: st) (g, ρ) Q := wp_nx rfl
theorem wp_is5 {l0 l1 l2 l3 l4 : Option AV} {l : LsT} {o : Option AV} {z : Int} : Wp zt k ((.istore 5, x) :: c) (l0 :: l1 :: l2 :: l3 :: l4 :: o :: l) (.inl z :: st) (g, ρ) Q ↔ Wp zt k c (l0 :: l1 :: l2 :: l3 :: l4 :: some (.inl z) :: l) st (g, ρ) Q := wp_nx rfl
theorem wp_as5 {l0 l1 l2 l3 l4 : Option AV} {l : LsT} {o : Option AV} {a : Nat} : Wp zt k ((.astore 5, x) :: c) (l0 :: l1 :: l2 :: l3 :: l4 :: o :: l) (.inr (some a) :: st) (g, ρ) Q ↔ Wp zt k c (l0 :: l1 :: l2 :: l3 :: l4 :: some (.inr (some a)) :: l) st (g, ρ) Q := wp_nx rfl
theorem wp_inc5 {l0 l1 l2 l3 l4 : Option AV} {l : LsT} {z d : Int} : Wp zt k ((.iinc 5 d, x) :: c) (l0 :: l1 :: l2 :: l3 :: l4 :: some (.inl z) :: l) st (g, ρ) Q ↔ Wp zt k c (l0 :: l1 :: l2 :: l3 :: l4 :: some (.inl (z + d)) :: l) st (g, ρ) Q := wp_nx rfl
theorem wp_il6 {l0 l1 l2 l3 l4 l5 : Option AV} {l : LsT} {z : Int} : Wp zt k ((.iload 6, x) :: c) (l0 :: l1 :: l2 :: l3 :: l4 :: l5 :: some (.inl z) :: l) st (g, ρ) Q ↔ Wp zt k c (l0 :: l1 :: l2 :: l3 :: l4 :: l5 :: some (.inl z) :: l) (.inl z :: st) (g, ρ) Q := wp_nx rfl
theorem wp_al6 {l0 l1 l2 l3 l4 l5 : Option AV} {l : LsT} {a : Nat} : Wp zt k ((.aload 6, x) :: c) (l0 :: l1 :: l2 :: l3 :: l4 :: l5 :: some (.inr (some a)) :: l) st (g, ρ) Q ↔ Wp zt k c (l0 :: l1 :: l2 :: l3 :: l4 :: l5 :: some (.inr (some a)) :: l) (.inr (some a) :: st) (g, ρ) Q := wp_nx rfl
theorem wp_is6 {l0 l1 l2 l3 l4 l5 : Option AV} {l : LsT} {o : Option AV} {z : Int} : Wp zt k ((.istore 6, x) :: c) (l0 :: l1 :: l2 :: l3 :: l4 :: l5 :: o :: l) (.inl z :: st) (g, ρ) Q ↔ Wp zt k c (l0 :: l1 :: l2 :: l3 :: l4 :: l5 :: some (.inl z) :: l) st (g, ρ) Q := wp_nx rfl
theorem wp_as6 {l0 l1 l2 l3 l4 l5 : Option AV} {l : LsT} {o : Option AV} {a : Nat} : Wp zt k ((.astore 6, x) :: c) (l0 :: l1 :: l2 :: l3 :: l4 :: l5 :: o :: l) (.inr (some a) :: st) (g, ρ) Q ↔ Wp zt k c (l0 :: l1 :: l2 :: l3 :: l4 :: l5 :: some (.inr (some a)) :: l) st (g, ρ) Q := wp_nx rfl
theorem wp_inc6 {l0 l1 l2 l3 l4 l5 : Option AV} {l : LsT} {z d : Int} : Wp zt k ((.iinc 6 d, x) :: c) (l0 :: l1 :: l2 :: l3 :: l4 :: l5 :: some (.inl z) :: l) st (g, ρ) Q ↔ Wp zt k c (l0 :: l1 :: l2 :: l3 :: l4 :: l5 :: some (.inl (z + d)) :: l) st (g, ρ) Q := wp_nx rfl
theorem wp_il7 {l0 l1 l2 l3 l4 l5 l6 : Option AV} {l : LsT} {z : Int} : Wp zt k ((.iload 7, x) :: c) (l0 :: l1 :: l2 :: l3 :: l4 :: l5 :: l6 :: some (.inl z) :: l) st (g, ρ) Q ↔ Wp zt k c (l0 :: l1 :: l2 :: l3 :: l4 :: l5 :: l6 :: some (.inl z) :: l) (.inl z :: st) (g, ρ) Q := wp_nx rfl
theorem wp_al7 {l0 l1 l2 l3 l4 l5 l6 : Option AV} {l : LsT} {a : Nat} : Wp zt k ((.aload 7, x) :: c) (l0 :: l1 :: l2 :: l3 :: l4 :: l5 :: l6 :: some (.inr (some a)) :: l) st (g, ρ) Q ↔ Wp zt k c (l0 :: l1 :: l2 :: l3 :: l4 :: l5 :: l6 :: some (.inr (some a)) :: l) (.inr (some a) :: st) (g, ρ) Q := wp_nx rfl
theorem wp_is7 {l0 l1 l2 l3 l4 l5 l6 : Option AV} {l : LsT} {o : Option AV} {z : Int} : Wp zt k ((.istore 7, x) :: c) (l0 :: l1 :: l2 :: l3 :: l4 :: l5 :: l6 :: o :: l) (.inl z :: st) (g, ρ) Q ↔ Wp zt k c (l0 :: l1 :: l2 :: l3 :: l4 :: l5 :: l6 :: some (.inl z) :: l) st (g, ρ) Q := wp_nx rfl
theorem wp_as7 {l0 l1 l2 l3 l4 l5 l6 : Option AV} {l : LsT} {o : Option AV} {a : Nat} : Wp zt k ((.astore 7, x) :: c) (l0 :: l1 :: l2 :: l3 :: l4 :: l5 :: l6 :: o :: l) (.inr (some a) :: st) (g, ρ) Q ↔ Wp zt k c (l0 :: l1 :: l2 :: l3 :: l4 :: l5 :: l6 :: some (.inr (some a)) :: l) st (g, ρ) Q := wp_nx rfl
theorem wp_inc7 {l0 l1 l2 l3 l4 l5 l6 : Option AV} {l : LsT} {z d : Int} : Wp zt k ((.iinc 7 d, x) :: c) (l0 :: l1 :: l2 :: l3 :: l4 :: l5 :: l6 :: some (.inl z) :: l) st (g, ρ) Q ↔ Wp zt k c (l0 :: l1 :: l2 :: l3 :: l4 :: l5 :: l6 :: some (.inl (z + d)) :: l) st (g, ρ) Q := wp_nx rfl
theorem wp_il8 {l0 l1 l2 l3 l4 l5 l6 l7 : Option AV} {l : LsT} {z : Int} : Wp zt k ((.iload 8, x) :: c) (l0 :: l1 :: l2 :: l3 :: l4 :: l5 :: l6 :: l7 :: some (.inl z) :: l) st (g, ρ) Q ↔ Wp zt k c (l0 :: l1 :: l2 :: l3 :: l4 :: l5 :: l6 :: l7 :: some (.inl z) :: l) (.inl z :: st) (g, ρ) Q := wp_nx rfl
theorem wp_al8 {l0 l1 l2 l3 l4 l5 l6 l7 : Option AV} {l : LsT} {a : Nat} : Wp zt k ((.aload 8, x) :: c) (l0 :: l1 :: l2 :: l3 :: l4 :: l5 :: l6 :: l7 :: some (.inr (some a)) :: l) st (g, ρ) Q ↔ Wp zt k c (l0 :: l1 :: l2 :: l3 :: l4 :: l5 :: l6 :: l7 :: some (.inr (some a)) :: l) (.inr (some a) :: st) (g, ρ) Q := wp_nx rfl
theorem wp_is8 {l0 l1 l2 l3 l4 l5 l6 l7 : Option AV} {l : LsT} {o : Option AV} {z : Int} : Wp zt k ((.istore 8, x) :: c) (l0 :: l1 :: l2 :: l3 :: l4 :: l5 :: l6 :: l7 :: o :: l) (.inl z :: st) (g, ρ) Q ↔ Wp zt k c (l0 :: l1 :: l2 :: l3 :: l4 :: l5 :: l6 :: l7 :: some (.inl z) :: l) st (g, ρ) Q := wp_nx rfl
theorem wp_as8 {l0 l1 l2 l3 l4 l5 l6 l7 : Option AV} {l : LsT} {o : Option AV} {a : Nat} : Wp zt k ((.astore 8, x) :: c) (l0 :: l1 :: l2 :: l3 :: l4 :: l5 :: l6 :: l7 :: o :: l) (.inr (some a) :: st) (g, ρ) Q ↔ Wp zt k c (l0 :: l1 :: l2 :: l3 :: l4 :: l5 :: l6 :: l7 :: some (.inr (some a)) :: l) st (g, ρ) Q := wp_nx rfl
theorem wp_inc8 {l0 l1 l2 l3 l4 l5 l6 l7 : Option AV} {l : LsT} {z d : Int} : Wp zt k ((.iinc 8 d, x) :: c) (l0 :: l1 :: l2 :: l3 :: l4 :: l5 :: l6 :: l7 :: some (.inl z) :: l) st (g, ρ) Q ↔ Wp zt k c (l0 :: l1 :: l2 :: l3 :: l4 :: l5 :: l6 :: l7 :: some (.inl (z + d)) :: l) st (g, ρ) Q := wp_nx rfl
theorem wp_il9 {l0 l1 l2 l3 l4 l5 l6 l7 l8 : Option AV} {l : LsT} {z : Int} : Wp zt k ((.iload 9, x) :: c) (l0 :: l1 :: l2 :: l3 :: l4 :: l5 :: l6 :: l7 :: l8 :: some (.inl z) :: l) st (g, ρ) Q ↔ Wp zt k c (l0 :: l1 :: l2 :: l3 :: l4 :: l5 :: l6 :: l7 :: l8 :: some (.inl z) :: l) (.inl z :: st) (g, ρ) Q := wp_nx rfl
theorem wp_al9 {l0 l1 l2 l3 l4 l5 l6 l7 l8 : Option AV} {l : LsT} {a : Nat} : Wp zt k ((.aload 9, x) :: c) (l0 :: l1 :: l2 :: l3 :: l4 :: l5 :: l6 :: l7 :: l8 :: some (.inr (some a)) :: l) st (g, ρ) Q ↔ Wp zt k c (l0 :: l1 :: l2 :: l3 :: l4 :: l5 :: l6 :: l7 :: l8 :: some (.inr (some a)) :: l) (.inr (some a) :: st) (g, ρ) Q := wp_nx rfl
theorem wp_is9 {l0 l1 l2 l3 l4 l5 l6 l7 l8 : Option AV} {l : LsT} {o : Option AV} {z : Int} : Wp zt k ((.istore 9, x) :: c) (l0 :: l1 :: l2 :: l3 :: l4 :: l5 :: l6 :: l7 :: l8 :: o :: l) (.inl z :: st) (g, ρ) Q ↔ Wp zt k c (l0 :: l1 :: l2 :: l3 :: l4 :: l5 :: l6 :: l7 :: l8 :: some (.inl z) :: l) st (g, ρ) Q := wp_nx rfl
theorem wp_as9 {l0 l1 l2 l3 l4 l5 l6 l7 l8 : Option AV} {l : LsT} {o : Option AV} {a : Nat} : Wp zt k ((.astore 9, x) :: c) (l0 :: l1 :: l2 :: l3 :: l4 :: l5 :: l6 :: l7 :: l8 :: o :: l) (.inr (some a) :: st) (g, ρ) Q ↔ Wp zt k c (l0 :: l1 :: l2 :: l3 :: l4 :: l5 :: l6 :: l7 :: l8 :: some (.inr (some a)) :: l) st (g, ρ) Q := wp_nx rfl
theorem wp_inc9 {l0 l1 l2 l3 l4 l5 l6 l7 l8 : Option AV} {l : LsT} {z d : Int} : Wp zt k ((.iinc 9 d, x) :: c) (l0 :: l1 :: l2 :: l3 :: l4 :: l5 :: l6 :: l7 :: l8 :: some (.inl z) :: l) st (g, ρ) Q ↔ Wp zt k c (l0 :: l1 :: l2 :: l3 :: l4 :: l5 :: l6 :: l7 :: l8 :: some (.inl (z + d)) :: l) st (g, ρ) Q := wp_nx rfl
theorem wp_il10 {l0 l1 l2 l3 l4 l5 l6 l7 l8 l9 : Option AV} {l : LsT} {z : Int} : Wp zt k ((.iload 10, x) :: c) (l0 :: l1 :: l2 :: l3 :: l4 :: l5 :: l6 :: l7 :: l8 :: l9 :: some (.inl z) :: l) st (g, ρ) Q ↔ Wp zt k c (l0 :: l1 :: l2 :: l3 :: l4 :: l5 :: l6 :: l7 :: l8 :: l9 :: some (.inl z) :: l) (.inl z :: st) (g, ρ) Q := wp_nx rfl
theorem wp_al10 {l0 l1 l2 l3 l4 l5 l6 l7 l8 l9 : Option AV} {l : LsT} {a : Nat} : Wp zt k ((.aload 10, x) :: c) (l0 :: l1 :: l2 :: l3 :: l4 :: l5 :: l6 :: l7 :: l8 :: l9 :: some (.inr (some a)) :: l) st (g, ρ) Q ↔ Wp zt k c (l0 :: l1 :: l2 :: l3 :: l4 :: l5 :: l6 :: l7 :: l8 :: l9 :: some (.inr (some a)) :: l) (.inr (some a) :: st) (g, ρ) Q := wp_nx rfl
theorem wp_is10 {l0 l1 l2 l3 l4 l5 l6 l7 l8 l9 : Option AV} {l : LsT} {o : Option AV} {z : Int} : Wp zt k ((.istore 10, x) :: c) (l0 :: l1 :: l2 :: l3 :: l4 :: l5 :: l6 :: l7 :: l8 :: l9 :: o :: l) (.inl z :: st) (g, ρ) Q ↔ Wp zt k c (l0 :: l1 :: l2 :: l3 :: l4 :: l5 :: l6 :: l7 :: l8 :: l9 :: some (.inl z) :: l) st (g, ρ) Q := wp_nx rfl
theorem wp_as10 {l0 l1 l2 l3 l4 l5 l6 l7 l8 l9 : Option AV} {l : LsT} {o : Option AV} {a : Nat} : Wp zt k ((.astore 10, x) :: c) (l0 :: l1 :: l2 :: l3 :: l4 :: l5 :: l6 :: l7 :: l8 :: l9 :: o :: l) (.inr (some a) :: st) (g, ρ) Q ↔ Wp zt k c (l0 :: l1 :: l2 :: l3 :: l4 :: l5 :: l6 :: l7 :: l8 :: l9 :: some (.inr (some a)) :: l) st (g, ρ) Q := wp_nx rfl
theorem wp_inc10 {l0 l1 l2 l3 l4 l5 l6 l7 l8 l9 : Option AV} {l : LsT} {z d : Int} : Wp zt k ((.iinc 10 d, x) :: c) (l0 :: l1 :: l2 :: l3 :: l4 :: l5 :: l6 :: l7 :: l8 :: l9 :: some (.inl z) :: l) st (g, ρ) Q ↔ Wp zt k c (l0 :: l1 :: l2 :: l3 :: l4 :: l5 :: l6 :: l7 :: l8 :: l9 :: some (.inl (z + d)) :: l) st (g, ρ) Q := wp_nx rfl
theorem wp_iconst {v : Int} : Wp zt k ((.iconst v, x) :: c) ls st (g, ρ) Q ↔ Wp zt k c ls (.inl v :: st) (g, ρ) Q := wp_nx rfl
theorem wp_bipush {v : Int} : Wp zt k ((.bipush v, x) :: c) ls st (g, ρ) Q ↔ Wp zt k c ls (.inl v :: st) (g, ρ) Q := wp_nx rfl
theorem wp_sipush {v : Int} : Wp zt k ((.sipush v, x) :: c) ls st (g, ρ) Q ↔ Wp zt k c ls (.inl v :: st) (g, ρ) Q := wp_nx rfl
theorem wp_ldc {i v : Nat} : Wp zt k ((.ldc i, [v]) :: c) ls st (g, ρ) Q ↔ Wp zt k c ls (.inl (v : Int) :: st) (g, ρ) Q := wp_nx rfl
theorem wp_iadd {a b : Int} : Wp zt k ((.iadd, x) :: c) ls (.inl b :: .inl a :: st) (g, ρ) Q ↔ Wp zt k c ls (.inl (a + b) :: st) (g, ρ) Q := wp_nx rfl
theorem wp_isub {a b : Int} : Wp zt k ((.isub, x) :: c) ls (.inl b :: .inl a :: st) (g, ρ) Q ↔ Wp zt k c ls (.inl (a - b) :: st) (g, ρ) Q := wp_nx rfl
theorem wp_imul {a b : Int} : Wp zt k ((.imul, x) :: c) ls (.inl b :: .inl a :: st) (g, ρ) Q ↔ Wp zt k c ls (.inl (a * b) :: st) (g, ρ) Q := wp_nx rfl
theorem wp_iand63 {a : Int} : Wp zt k ((.iand, x) :: c) ls (.inl 63 :: .inl a :: st) (g, ρ) Q ↔ Wp zt k c ls (.inl (a % 64) :: st) (g, ρ) Q := wp_nx rfl
theorem wp_ineg {a : Int} : Wp zt k ((.ineg, x) :: c) ls (.inl a :: st) (g, ρ) Q ↔ Wp zt k c ls (.inl (-a) :: st) (g, ρ) Q := wp_nx rfl
theorem wp_dup {a : AV} : Wp zt k ((.dup, x) :: c) ls (a :: st) (g, ρ) Q ↔ Wp zt k c ls (a :: a :: st) (g, ρ) Q := wp_nx rfl
theorem wp_dup2 {a b : AV} : Wp zt k ((.dup2, x) :: c) ls (b :: a :: st) (g, ρ) Q ↔ Wp zt k c ls (b :: a :: b :: a :: st) (g, ρ) Q := wp_nx rfl
theorem wp_pop {a : AV} : Wp zt k ((.pop, x) :: c) ls (a :: st) (g, ρ) Q ↔ Wp zt k c ls st (g, ρ) Q := wp_nx rfl
theorem wp_goto {o : Int} {L : Nat} : Wp zt k ((.goto o, [L]) :: c) ls st (g, ρ) Q ↔ Wp zt k (P k L) ls st (g, ρ) Q := wp_jp rfl
theorem wp_nop {L : Nat} : Wp zt k ((.nop, [L]) :: c) ls st (g, ρ) Q ↔ Wp zt k (P k L) ls st (g, ρ) Q := wp_jp rfl
theorem wp_iceq {a b : Int} {o : Int} {L : Nat} : Wp zt k ((.if_icmp .eq o, [L]) :: c) ls (.inl b :: .inl a :: st) (g, ρ) Q ↔ (a = b ∨ ((-2147483648 ≤ a ∧ a < 2147483648) ∧ (-2147483648 ≤ b ∧ b < 2147483648))) ∧ (if a = b then Wp zt k (P k L) ls st (g, ρ) Q else Wp zt k c ls st (g, ρ) Q) := by
  by_cases h : a = b
  · rw [if_pos h]
    exact ⟨fun q => ⟨Or.inl h, (wp_jp (by simp only [eff, cj]; rw [if_pos h]; rfl)).mp q⟩, fun q => (wp_jp (by simp only [eff, cj]; rw [if_pos h]; rfl)).mpr q.2⟩
  · rw [if_neg h]
    by_cases hr : rng a ∧ rng b
    · exact ⟨fun q => ⟨Or.inr hr, (wp_nx (by simp only [eff, cj]; rw [if_neg h, if_pos hr]; rfl)).mp q⟩, fun q => (wp_nx (by simp only [eff, cj]; rw [if_neg h, if_pos hr]; rfl)).mpr q.2⟩
    · exact ⟨fun q => absurd q (wp_no (by simp only [eff, cj]; rw [if_neg h, if_neg hr])), fun q => absurd (q.1.resolve_left h) (fun z => hr z)⟩
theorem wp_izeq {a : Int} {o : Int} {L : Nat} : Wp zt k ((.ifCond .eq o, [L]) :: c) ls (.inl a :: st) (g, ρ) Q ↔ (a = 0 ∨ (-2147483648 ≤ a ∧ a < 2147483648)) ∧ (if a = 0 then Wp zt k (P k L) ls st (g, ρ) Q else Wp zt k c ls st (g, ρ) Q) := by
  by_cases h : a = 0
  · rw [if_pos h]
    exact ⟨fun q => ⟨Or.inl h, (wp_jp (by simp only [eff, cj]; rw [if_pos h]; rfl)).mp q⟩, fun q => (wp_jp (by simp only [eff, cj]; rw [if_pos h]; rfl)).mpr q.2⟩
  · rw [if_neg h]
    by_cases hr : rng a ∧ rng 0
    · exact ⟨fun q => ⟨Or.inr hr.1, (wp_nx (by simp only [eff, cj]; rw [if_neg h, if_pos hr]; rfl)).mp q⟩, fun q => (wp_nx (by simp only [eff, cj]; rw [if_neg h, if_pos hr]; rfl)).mpr q.2⟩
    · exact ⟨fun q => absurd q (wp_no (by simp only [eff, cj]; rw [if_neg h, if_neg hr])), fun q => absurd (q.1.resolve_left h) (fun z => hr ⟨z, by decide⟩)⟩
theorem wp_icne {a b : Int} {o : Int} {L : Nat} : Wp zt k ((.if_icmp .ne o, [L]) :: c) ls (.inl b :: .inl a :: st) (g, ρ) Q ↔ (a = b ∨ ((-2147483648 ≤ a ∧ a < 2147483648) ∧ (-2147483648 ≤ b ∧ b < 2147483648))) ∧ (if ¬ a = b then Wp zt k (P k L) ls st (g, ρ) Q else Wp zt k c ls st (g, ρ) Q) := by
  by_cases h : a = b
  · rw [if_neg (not_not_intro h)]
    exact ⟨fun q => ⟨Or.inl h, (wp_nx (by simp only [eff, cj]; rw [if_pos h]; rfl)).mp q⟩, fun q => (wp_nx (by simp only [eff, cj]; rw [if_pos h]; rfl)).mpr q.2⟩
  · rw [if_pos h]
    by_cases hr : rng a ∧ rng b
    · exact ⟨fun q => ⟨Or.inr hr, (wp_jp (by simp only [eff, cj]; rw [if_neg h, if_pos hr]; rfl)).mp q⟩, fun q => (wp_jp (by simp only [eff, cj]; rw [if_neg h, if_pos hr]; rfl)).mpr q.2⟩
    · exact ⟨fun q => absurd q (wp_no (by simp only [eff, cj]; rw [if_neg h, if_neg hr])), fun q => absurd (q.1.resolve_left h) (fun z => hr z)⟩
theorem wp_izne {a : Int} {o : Int} {L : Nat} : Wp zt k ((.ifCond .ne o, [L]) :: c) ls (.inl a :: st) (g, ρ) Q ↔ (a = 0 ∨ (-2147483648 ≤ a ∧ a < 2147483648)) ∧ (if ¬ a = 0 then Wp zt k (P k L) ls st (g, ρ) Q else Wp zt k c ls st (g, ρ) Q) := by
  by_cases h : a = 0
  · rw [if_neg (not_not_intro h)]
    exact ⟨fun q => ⟨Or.inl h, (wp_nx (by simp only [eff, cj]; rw [if_pos h]; rfl)).mp q⟩, fun q => (wp_nx (by simp only [eff, cj]; rw [if_pos h]; rfl)).mpr q.2⟩
  · rw [if_pos h]
    by_cases hr : rng a ∧ rng 0
    · exact ⟨fun q => ⟨Or.inr hr.1, (wp_jp (by simp only [eff, cj]; rw [if_neg h, if_pos hr]; rfl)).mp q⟩, fun q => (wp_jp (by simp only [eff, cj]; rw [if_neg h, if_pos hr]; rfl)).mpr q.2⟩
    · exact ⟨fun q => absurd q (wp_no (by simp only [eff, cj]; rw [if_neg h, if_neg hr])), fun q => absurd (q.1.resolve_left h) (fun z => hr ⟨z, by decide⟩)⟩
theorem wp_iclt {a b : Int} {o : Int} {L : Nat} : Wp zt k ((.if_icmp .lt o, [L]) :: c) ls (.inl b :: .inl a :: st) (g, ρ) Q ↔ ((-2147483648 ≤ a ∧ a < 2147483648) ∧ (-2147483648 ≤ b ∧ b < 2147483648)) ∧ (if a < b then Wp zt k (P k L) ls st (g, ρ) Q else Wp zt k c ls st (g, ρ) Q) := by
  by_cases hr : rng a ∧ rng b
  · by_cases h : a < b
    · rw [if_pos h]
      exact ⟨fun q => ⟨hr, (wp_jp (by simp only [eff, cj]; rw [if_pos hr, if_pos h]; rfl)).mp q⟩, fun q => (wp_jp (by simp only [eff, cj]; rw [if_pos hr, if_pos h]; rfl)).mpr q.2⟩
    · rw [if_neg h]
      exact ⟨fun q => ⟨hr, (wp_nx (by simp only [eff, cj]; rw [if_pos hr, if_neg h]; rfl)).mp q⟩, fun q => (wp_nx (by simp only [eff, cj]; rw [if_pos hr, if_neg h]; rfl)).mpr q.2⟩
  · exact ⟨fun q => absurd q (wp_no (by simp only [eff, cj]; rw [if_neg hr])), fun q => absurd q.1 (fun z => hr z)⟩
theorem wp_izlt {a : Int} {o : Int} {L : Nat} : Wp zt k ((.ifCond .lt o, [L]) :: c) ls (.inl a :: st) (g, ρ) Q ↔ (-2147483648 ≤ a ∧ a < 2147483648) ∧ (if a < 0 then Wp zt k (P k L) ls st (g, ρ) Q else Wp zt k c ls st (g, ρ) Q) := by
  by_cases hr : rng a ∧ rng 0
  · by_cases h : a < 0
    · rw [if_pos h]
      exact ⟨fun q => ⟨hr.1, (wp_jp (by simp only [eff, cj]; rw [if_pos hr, if_pos h]; rfl)).mp q⟩, fun q => (wp_jp (by simp only [eff, cj]; rw [if_pos hr, if_pos h]; rfl)).mpr q.2⟩
    · rw [if_neg h]
      exact ⟨fun q => ⟨hr.1, (wp_nx (by simp only [eff, cj]; rw [if_pos hr, if_neg h]; rfl)).mp q⟩, fun q => (wp_nx (by simp only [eff, cj]; rw [if_pos hr, if_neg h]; rfl)).mpr q.2⟩
  · exact ⟨fun q => absurd q (wp_no (by simp only [eff, cj]; rw [if_neg hr])), fun q => absurd q.1 (fun z => hr ⟨z, by decide⟩)⟩
theorem wp_icge {a b : Int} {o : Int} {L : Nat} : Wp zt k ((.if_icmp .ge o, [L]) :: c) ls (.inl b :: .inl a :: st) (g, ρ) Q ↔ ((-2147483648 ≤ a ∧ a < 2147483648) ∧ (-2147483648 ≤ b ∧ b < 2147483648)) ∧ (if b ≤ a then Wp zt k (P k L) ls st (g, ρ) Q else Wp zt k c ls st (g, ρ) Q) := by
  by_cases hr : rng a ∧ rng b
  · by_cases h : b ≤ a
    · rw [if_pos h]
      exact ⟨fun q => ⟨hr, (wp_jp (by simp only [eff, cj]; rw [if_pos hr, if_pos h]; rfl)).mp q⟩, fun q => (wp_jp (by simp only [eff, cj]; rw [if_pos hr, if_pos h]; rfl)).mpr q.2⟩
    · rw [if_neg h]
      exact ⟨fun q => ⟨hr, (wp_nx (by simp only [eff, cj]; rw [if_pos hr, if_neg h]; rfl)).mp q⟩, fun q => (wp_nx (by simp only [eff, cj]; rw [if_pos hr, if_neg h]; rfl)).mpr q.2⟩
  · exact ⟨fun q => absurd q (wp_no (by simp only [eff, cj]; rw [if_neg hr])), fun q => absurd q.1 (fun z => hr z)⟩
theorem wp_izge {a : Int} {o : Int} {L : Nat} : Wp zt k ((.ifCond .ge o, [L]) :: c) ls (.inl a :: st) (g, ρ) Q ↔ (-2147483648 ≤ a ∧ a < 2147483648) ∧ (if 0 ≤ a then Wp zt k (P k L) ls st (g, ρ) Q else Wp zt k c ls st (g, ρ) Q) := by
  by_cases hr : rng a ∧ rng 0
  · by_cases h : 0 ≤ a
    · rw [if_pos h]
      exact ⟨fun q => ⟨hr.1, (wp_jp (by simp only [eff, cj]; rw [if_pos hr, if_pos h]; rfl)).mp q⟩, fun q => (wp_jp (by simp only [eff, cj]; rw [if_pos hr, if_pos h]; rfl)).mpr q.2⟩
    · rw [if_neg h]
      exact ⟨fun q => ⟨hr.1, (wp_nx (by simp only [eff, cj]; rw [if_pos hr, if_neg h]; rfl)).mp q⟩, fun q => (wp_nx (by simp only [eff, cj]; rw [if_pos hr, if_neg h]; rfl)).mpr q.2⟩
  · exact ⟨fun q => absurd q (wp_no (by simp only [eff, cj]; rw [if_neg hr])), fun q => absurd q.1 (fun z => hr ⟨z, by decide⟩)⟩
theorem wp_icgt {a b : Int} {o : Int} {L : Nat} : Wp zt k ((.if_icmp .gt o, [L]) :: c) ls (.inl b :: .inl a :: st) (g, ρ) Q ↔ ((-2147483648 ≤ a ∧ a < 2147483648) ∧ (-2147483648 ≤ b ∧ b < 2147483648)) ∧ (if b < a then Wp zt k (P k L) ls st (g, ρ) Q else Wp zt k c ls st (g, ρ) Q) := by
  by_cases hr : rng a ∧ rng b
  · by_cases h : b < a
    · rw [if_pos h]
      exact ⟨fun q => ⟨hr, (wp_jp (by simp only [eff, cj]; rw [if_pos hr, if_pos h]; rfl)).mp q⟩, fun q => (wp_jp (by simp only [eff, cj]; rw [if_pos hr, if_pos h]; rfl)).mpr q.2⟩
    · rw [if_neg h]
      exact ⟨fun q => ⟨hr, (wp_nx (by simp only [eff, cj]; rw [if_pos hr, if_neg h]; rfl)).mp q⟩, fun q => (wp_nx (by simp only [eff, cj]; rw [if_pos hr, if_neg h]; rfl)).mpr q.2⟩
  · exact ⟨fun q => absurd q (wp_no (by simp only [eff, cj]; rw [if_neg hr])), fun q => absurd q.1 (fun z => hr z)⟩
theorem wp_izgt {a : Int} {o : Int} {L : Nat} : Wp zt k ((.ifCond .gt o, [L]) :: c) ls (.inl a :: st) (g, ρ) Q ↔ (-2147483648 ≤ a ∧ a < 2147483648) ∧ (if 0 < a then Wp zt k (P k L) ls st (g, ρ) Q else Wp zt k c ls st (g, ρ) Q) := by
  by_cases hr : rng a ∧ rng 0
  · by_cases h : 0 < a
    · rw [if_pos h]
      exact ⟨fun q => ⟨hr.1, (wp_jp (by simp only [eff, cj]; rw [if_pos hr, if_pos h]; rfl)).mp q⟩, fun q => (wp_jp (by simp only [eff, cj]; rw [if_pos hr, if_pos h]; rfl)).mpr q.2⟩
    · rw [if_neg h]
      exact ⟨fun q => ⟨hr.1, (wp_nx (by simp only [eff, cj]; rw [if_pos hr, if_neg h]; rfl)).mp q⟩, fun q => (wp_nx (by simp only [eff, cj]; rw [if_pos hr, if_neg h]; rfl)).mpr q.2⟩
  · exact ⟨fun q => absurd q (wp_no (by simp only [eff, cj]; rw [if_neg hr])), fun q => absurd q.1 (fun z => hr ⟨z, by decide⟩)⟩
theorem wp_icle {a b : Int} {o : Int} {L : Nat} : Wp zt k ((.if_icmp .le o, [L]) :: c) ls (.inl b :: .inl a :: st) (g, ρ) Q ↔ ((-2147483648 ≤ a ∧ a < 2147483648) ∧ (-2147483648 ≤ b ∧ b < 2147483648)) ∧ (if a ≤ b then Wp zt k (P k L) ls st (g, ρ) Q else Wp zt k c ls st (g, ρ) Q) := by
  by_cases hr : rng a ∧ rng b
  · by_cases h : a ≤ b
    · rw [if_pos h]
      exact ⟨fun q => ⟨hr, (wp_jp (by simp only [eff, cj]; rw [if_pos hr, if_pos h]; rfl)).mp q⟩, fun q => (wp_jp (by simp only [eff, cj]; rw [if_pos hr, if_pos h]; rfl)).mpr q.2⟩
    · rw [if_neg h]
      exact ⟨fun q => ⟨hr, (wp_nx (by simp only [eff, cj]; rw [if_pos hr, if_neg h]; rfl)).mp q⟩, fun q => (wp_nx (by simp only [eff, cj]; rw [if_pos hr, if_neg h]; rfl)).mpr q.2⟩
  · exact ⟨fun q => absurd q (wp_no (by simp only [eff, cj]; rw [if_neg hr])), fun q => absurd q.1 (fun z => hr z)⟩
theorem wp_izle {a : Int} {o : Int} {L : Nat} : Wp zt k ((.ifCond .le o, [L]) :: c) ls (.inl a :: st) (g, ρ) Q ↔ (-2147483648 ≤ a ∧ a < 2147483648) ∧ (if a ≤ 0 then Wp zt k (P k L) ls st (g, ρ) Q else Wp zt k c ls st (g, ρ) Q) := by
  by_cases hr : rng a ∧ rng 0
  · by_cases h : a ≤ 0
    · rw [if_pos h]
      exact ⟨fun q => ⟨hr.1, (wp_jp (by simp only [eff, cj]; rw [if_pos hr, if_pos h]; rfl)).mp q⟩, fun q => (wp_jp (by simp only [eff, cj]; rw [if_pos hr, if_pos h]; rfl)).mpr q.2⟩
    · rw [if_neg h]
      exact ⟨fun q => ⟨hr.1, (wp_nx (by simp only [eff, cj]; rw [if_pos hr, if_neg h]; rfl)).mp q⟩, fun q => (wp_nx (by simp only [eff, cj]; rw [if_pos hr, if_neg h]; rfl)).mpr q.2⟩
  · exact ⟨fun q => absurd q (wp_no (by simp only [eff, cj]; rw [if_neg hr])), fun q => absurd q.1 (fun z => hr ⟨z, by decide⟩)⟩
theorem wp_idiv {a b : Int} : Wp zt k ((.idiv, x) :: c) ls (.inl b :: .inl a :: st) (g, ρ) Q ↔ ((-2147483648 ≤ a ∧ a < 2147483648) ∧ 0 < b ∧ (-2147483648 ≤ b ∧ b < 2147483648)) ∧ Wp zt k c ls (.inl (a.tdiv b) :: st) (g, ρ) Q := by
  by_cases hr : (-2147483648 ≤ a ∧ a < 2147483648) ∧ 0 < b ∧ (-2147483648 ≤ b ∧ b < 2147483648)
  · exact ⟨fun q => ⟨hr, (wp_nx (by simp only [eff, bin]; rw [if_pos hr]; rfl)).mp q⟩, fun q => (wp_nx (by simp only [eff, bin]; rw [if_pos hr]; rfl)).mpr q.2⟩
  · exact ⟨fun q => absurd q (wp_no (by simp only [eff, bin]; rw [if_neg hr])), fun q => absurd q.1 hr⟩
theorem wp_irem {a b : Int} : Wp zt k ((.irem, x) :: c) ls (.inl b :: .inl a :: st) (g, ρ) Q ↔ (0 ≤ a ∧ (-2147483648 ≤ a ∧ a < 2147483648) ∧ 0 < b ∧ (-2147483648 ≤ b ∧ b < 2147483648)) ∧ Wp zt k c ls (.inl (a % b) :: st) (g, ρ) Q := by
  by_cases hr : 0 ≤ a ∧ (-2147483648 ≤ a ∧ a < 2147483648) ∧ 0 < b ∧ (-2147483648 ≤ b ∧ b < 2147483648)
  · exact ⟨fun q => ⟨hr, (wp_nx (by simp only [eff, bin]; rw [if_pos hr]; rfl)).mp q⟩, fun q => (wp_nx (by simp only [eff, bin]; rw [if_pos hr]; rfl)).mpr q.2⟩
  · exact ⟨fun q => absurd q (wp_no (by simp only [eff, bin]; rw [if_neg hr])), fun q => absurd q.1 hr⟩
theorem wp_abs {a : Int} {i : Nat} (hs : st.length ≤ 7) : Wp zt k ((.invokestatic i, [1002, 1, 0]) :: c) ls (.inl a :: st) (g, ρ) Q ↔ ((-2147483648 ≤ a ∧ a < 2147483648) ∧ a ≠ -2147483648) ∧ Wp zt k c ls (.inl (a.natAbs : Int) :: st) (g, ρ) Q := by
  by_cases hr : rng a ∧ a ≠ -2147483648
  · have he : eff zt (.invokestatic i, [1002, 1, 0]) ls (.inl a :: st) (g, ρ) = some (.inl (ls, .inl (a.natAbs : Int) :: st, (g, ρ))) := by
      simp only [eff, x0, natC]
      rw [if_pos (by decide), if_pos (by simp only [List.length_cons]; omega), if_neg (by decide), if_neg (by decide), if_pos (by decide), if_pos hr]; rfl
    exact ⟨fun q => ⟨hr, (wp_nx he).mp q⟩, fun q => (wp_nx he).mpr q.2⟩
  · refine ⟨fun q => absurd q (wp_no ?_), fun q => absurd q.1 hr⟩
    simp only [eff, x0, natC]
    rw [if_pos (by decide), if_pos (by simp only [List.length_cons]; omega), if_neg (by decide), if_neg (by decide), if_pos (by decide), if_neg hr]
theorem wp_min {a b : Int} {i : Nat} (hs : st.length ≤ 6) : Wp zt k ((.invokestatic i, [1003, 2, 0]) :: c) ls (.inl b :: .inl a :: st) (g, ρ) Q ↔ ((-2147483648 ≤ a ∧ a < 2147483648) ∧ (-2147483648 ≤ b ∧ b < 2147483648)) ∧ Wp zt k c ls (.inl (min a b) :: st) (g, ρ) Q := by
  by_cases hr : rng a ∧ rng b
  · have he : eff zt (.invokestatic i, [1003, 2, 0]) ls (.inl b :: .inl a :: st) (g, ρ) = some (.inl (ls, .inl (min a b) :: st, (g, ρ))) := by
      simp only [eff, x0, natC, bin]
      rw [if_pos (by decide), if_pos (by simp only [List.length_cons]; omega), if_neg (by decide), if_neg (by decide), if_neg (by decide), if_pos (by decide), if_pos hr]; rfl
    exact ⟨fun q => ⟨hr, (wp_nx he).mp q⟩, fun q => (wp_nx he).mpr q.2⟩
  · refine ⟨fun q => absurd q (wp_no ?_), fun q => absurd q.1 hr⟩
    simp only [eff, x0, natC, bin]
    rw [if_pos (by decide), if_pos (by simp only [List.length_cons]; omega), if_neg (by decide), if_neg (by decide), if_neg (by decide), if_pos (by decide), if_neg hr]
theorem wp_max {a b : Int} {i : Nat} (hs : st.length ≤ 6) : Wp zt k ((.invokestatic i, [1004, 2, 0]) :: c) ls (.inl b :: .inl a :: st) (g, ρ) Q ↔ ((-2147483648 ≤ a ∧ a < 2147483648) ∧ (-2147483648 ≤ b ∧ b < 2147483648)) ∧ Wp zt k c ls (.inl (max a b) :: st) (g, ρ) Q := by
  by_cases hr : rng a ∧ rng b
  · have he : eff zt (.invokestatic i, [1004, 2, 0]) ls (.inl b :: .inl a :: st) (g, ρ) = some (.inl (ls, .inl (max a b) :: st, (g, ρ))) := by
      simp only [eff, x0, natC, bin]
      rw [if_pos (by decide), if_pos (by simp only [List.length_cons]; omega), if_neg (by decide), if_neg (by decide), if_neg (by decide), if_neg (by decide), if_pos (by decide), if_pos hr]; rfl
    exact ⟨fun q => ⟨hr, (wp_nx he).mp q⟩, fun q => (wp_nx he).mpr q.2⟩
  · refine ⟨fun q => absurd q (wp_no ?_), fun q => absurd q.1 hr⟩
    simp only [eff, x0, natC, bin]
    rw [if_pos (by decide), if_pos (by simp only [List.length_cons]; omega), if_neg (by decide), if_neg (by decide), if_neg (by decide), if_neg (by decide), if_pos (by decide), if_neg hr]
theorem wp_ret : Wp zt k ((.return_, x) :: c) ls [] (g, ρ) Q ↔ Q none (g, ρ) := wp_rt rfl
theorem wp_iret {z : Int} : Wp zt k ((.ireturn, [0]) :: c) ls [.inl z] (g, ρ) Q ↔ Q (some (.inl z)) (g, ρ) := wp_rt rfl
theorem wp_zret {z : Int} : Wp zt k ((.ireturn, [1]) :: c) ls [.inl z] (g, ρ) Q ↔ (z = 0 ∨ z = 1) ∧ Q (some (.inl z)) (g, ρ) := by
  have he : eff zt (.ireturn, [1]) ls [.inl z] (g, ρ) = if (1 : Nat) = 0 ∨ z = 0 ∨ z = 1 then some (.inr (.inr (.inr (some (.inl z))))) else none := rfl
  by_cases h : z = 0 ∨ z = 1
  · rw [if_pos (Or.inr h)] at he
    exact ⟨fun q => ⟨h, (wp_rt he).mp q⟩, fun q => (wp_rt he).mpr q.2⟩
  · rw [if_neg (fun (w : (1 : Nat) = 0 ∨ z = 0 ∨ z = 1) => w.elim (by decide) h)] at he
    exact ⟨fun q => absurd q (wp_no he), fun q => absurd q.1 h⟩
theorem gf_0_0 {i a b : Nat} (h : kdI ρ a 10) (hb : ρ.1 a 0 = some b) : Wp zt k ((.getfield i, [0, 0]) :: c) ls (.inr (some a) :: st) (g, ρ) Q ↔ Wp zt k c ls (.inr (some b) :: st) (g, ρ) Q := by
  obtain ⟨N, h⟩ := h
  exact wp_nx (by simp only [eff, shp, h]; rw [← hb]; rfl)
theorem pf_0_0 {i a b : Nat} (h : kdI ρ a 10) : Wp zt k ((.putfield i, [0, 0]) :: c) ls (.inr (some b) :: .inr (some a) :: st) (g, ρ) Q ↔ Wp zt k c ls st (g, wrR ρ.1 a 0 (some b), ρ.2) Q := by
  obtain ⟨N, h⟩ := h
  exact wp_nx (by simp only [eff, shp, h]; rfl)
theorem gf_0_1 {i a b : Nat} (h : kdI ρ a 10) (hb : ρ.1 a 1 = some b) : Wp zt k ((.getfield i, [0, 1]) :: c) ls (.inr (some a) :: st) (g, ρ) Q ↔ Wp zt k c ls (.inr (some b) :: st) (g, ρ) Q := by
  obtain ⟨N, h⟩ := h
  exact wp_nx (by simp only [eff, shp, h]; rw [← hb]; rfl)
theorem pf_0_1 {i a b : Nat} (h : kdI ρ a 10) : Wp zt k ((.putfield i, [0, 1]) :: c) ls (.inr (some b) :: .inr (some a) :: st) (g, ρ) Q ↔ Wp zt k c ls st (g, wrR ρ.1 a 1 (some b), ρ.2) Q := by
  obtain ⟨N, h⟩ := h
  exact wp_nx (by simp only [eff, shp, h]; rfl)
theorem gf_0_2 {i a : Nat} (h : kdI ρ a 10) : Wp zt k ((.getfield i, [0, 2]) :: c) ls (.inr (some a) :: st) (g, ρ) Q ↔ Wp zt k c ls (.inl (g a 2) :: st) (g, ρ) Q := by
  obtain ⟨N, h⟩ := h
  exact wp_nx (by simp only [eff, shp, h]; rfl)
theorem pf_0_2 {i a : Nat} {v : Int} (h : kdI ρ a 10) : Wp zt k ((.putfield i, [0, 2]) :: c) ls (.inl v :: .inr (some a) :: st) (g, ρ) Q ↔ Wp zt k c ls st (wrI g a 2 v, ρ) Q := by
  obtain ⟨N, h⟩ := h
  exact wp_nx (by simp only [eff, shp, h]; rfl)
theorem gf_0_3 {i a : Nat} (h : kdI ρ a 10) : Wp zt k ((.getfield i, [0, 3]) :: c) ls (.inr (some a) :: st) (g, ρ) Q ↔ Wp zt k c ls (.inl (g a 3) :: st) (g, ρ) Q := by
  obtain ⟨N, h⟩ := h
  exact wp_nx (by simp only [eff, shp, h]; rfl)
theorem pf_0_3 {i a : Nat} {v : Int} (h : kdI ρ a 10) : Wp zt k ((.putfield i, [0, 3]) :: c) ls (.inl v :: .inr (some a) :: st) (g, ρ) Q ↔ Wp zt k c ls st (wrI g a 3 v, ρ) Q := by
  obtain ⟨N, h⟩ := h
  exact wp_nx (by simp only [eff, shp, h]; rfl)
theorem gf_1_0 {i a b : Nat} (h : kdI ρ a 11) (hb : ρ.1 a 0 = some b) : Wp zt k ((.getfield i, [1, 0]) :: c) ls (.inr (some a) :: st) (g, ρ) Q ↔ Wp zt k c ls (.inr (some b) :: st) (g, ρ) Q := by
  obtain ⟨N, h⟩ := h
  exact wp_nx (by simp only [eff, shp, h]; rw [← hb]; rfl)
theorem pf_1_0 {i a b : Nat} (h : kdI ρ a 11) : Wp zt k ((.putfield i, [1, 0]) :: c) ls (.inr (some b) :: .inr (some a) :: st) (g, ρ) Q ↔ Wp zt k c ls st (g, wrR ρ.1 a 0 (some b), ρ.2) Q := by
  obtain ⟨N, h⟩ := h
  exact wp_nx (by simp only [eff, shp, h]; rfl)
theorem gf_1_1 {i a b : Nat} (h : kdI ρ a 11) (hb : ρ.1 a 1 = some b) : Wp zt k ((.getfield i, [1, 1]) :: c) ls (.inr (some a) :: st) (g, ρ) Q ↔ Wp zt k c ls (.inr (some b) :: st) (g, ρ) Q := by
  obtain ⟨N, h⟩ := h
  exact wp_nx (by simp only [eff, shp, h]; rw [← hb]; rfl)
theorem pf_1_1 {i a b : Nat} (h : kdI ρ a 11) : Wp zt k ((.putfield i, [1, 1]) :: c) ls (.inr (some b) :: .inr (some a) :: st) (g, ρ) Q ↔ Wp zt k c ls st (g, wrR ρ.1 a 1 (some b), ρ.2) Q := by
  obtain ⟨N, h⟩ := h
  exact wp_nx (by simp only [eff, shp, h]; rfl)
theorem gf_1_2 {i a b : Nat} (h : kdI ρ a 11) (hb : ρ.1 a 2 = some b) : Wp zt k ((.getfield i, [1, 2]) :: c) ls (.inr (some a) :: st) (g, ρ) Q ↔ Wp zt k c ls (.inr (some b) :: st) (g, ρ) Q := by
  obtain ⟨N, h⟩ := h
  exact wp_nx (by simp only [eff, shp, h]; rw [← hb]; rfl)
theorem pf_1_2 {i a b : Nat} (h : kdI ρ a 11) : Wp zt k ((.putfield i, [1, 2]) :: c) ls (.inr (some b) :: .inr (some a) :: st) (g, ρ) Q ↔ Wp zt k c ls st (g, wrR ρ.1 a 2 (some b), ρ.2) Q := by
  obtain ⟨N, h⟩ := h
  exact wp_nx (by simp only [eff, shp, h]; rfl)
theorem gf_1_3 {i a b : Nat} (h : kdI ρ a 11) (hb : ρ.1 a 3 = some b) : Wp zt k ((.getfield i, [1, 3]) :: c) ls (.inr (some a) :: st) (g, ρ) Q ↔ Wp zt k c ls (.inr (some b) :: st) (g, ρ) Q := by
  obtain ⟨N, h⟩ := h
  exact wp_nx (by simp only [eff, shp, h]; rw [← hb]; rfl)
theorem pf_1_3 {i a b : Nat} (h : kdI ρ a 11) : Wp zt k ((.putfield i, [1, 3]) :: c) ls (.inr (some b) :: .inr (some a) :: st) (g, ρ) Q ↔ Wp zt k c ls st (g, wrR ρ.1 a 3 (some b), ρ.2) Q := by
  obtain ⟨N, h⟩ := h
  exact wp_nx (by simp only [eff, shp, h]; rfl)
theorem gf_1_4 {i a b : Nat} (h : kdI ρ a 11) (hb : ρ.1 a 4 = some b) : Wp zt k ((.getfield i, [1, 4]) :: c) ls (.inr (some a) :: st) (g, ρ) Q ↔ Wp zt k c ls (.inr (some b) :: st) (g, ρ) Q := by
  obtain ⟨N, h⟩ := h
  exact wp_nx (by simp only [eff, shp, h]; rw [← hb]; rfl)
theorem pf_1_4 {i a b : Nat} (h : kdI ρ a 11) : Wp zt k ((.putfield i, [1, 4]) :: c) ls (.inr (some b) :: .inr (some a) :: st) (g, ρ) Q ↔ Wp zt k c ls st (g, wrR ρ.1 a 4 (some b), ρ.2) Q := by
  obtain ⟨N, h⟩ := h
  exact wp_nx (by simp only [eff, shp, h]; rfl)
theorem gf_1_5 {i a b : Nat} (h : kdI ρ a 11) (hb : ρ.1 a 5 = some b) : Wp zt k ((.getfield i, [1, 5]) :: c) ls (.inr (some a) :: st) (g, ρ) Q ↔ Wp zt k c ls (.inr (some b) :: st) (g, ρ) Q := by
  obtain ⟨N, h⟩ := h
  exact wp_nx (by simp only [eff, shp, h]; rw [← hb]; rfl)
theorem pf_1_5 {i a b : Nat} (h : kdI ρ a 11) : Wp zt k ((.putfield i, [1, 5]) :: c) ls (.inr (some b) :: .inr (some a) :: st) (g, ρ) Q ↔ Wp zt k c ls st (g, wrR ρ.1 a 5 (some b), ρ.2) Q := by
  obtain ⟨N, h⟩ := h
  exact wp_nx (by simp only [eff, shp, h]; rfl)
theorem gf_1_6 {i a : Nat} (h : kdI ρ a 11) : Wp zt k ((.getfield i, [1, 6]) :: c) ls (.inr (some a) :: st) (g, ρ) Q ↔ Wp zt k c ls (.inl (g a 6) :: st) (g, ρ) Q := by
  obtain ⟨N, h⟩ := h
  exact wp_nx (by simp only [eff, shp, h]; rfl)
theorem pf_1_6 {i a : Nat} {v : Int} (h : kdI ρ a 11) : Wp zt k ((.putfield i, [1, 6]) :: c) ls (.inl v :: .inr (some a) :: st) (g, ρ) Q ↔ Wp zt k c ls st (wrI g a 6 v, ρ) Q := by
  obtain ⟨N, h⟩ := h
  exact wp_nx (by simp only [eff, shp, h]; rfl)
theorem gf_1_7 {i a : Nat} (h : kdI ρ a 11) : Wp zt k ((.getfield i, [1, 7]) :: c) ls (.inr (some a) :: st) (g, ρ) Q ↔ Wp zt k c ls (.inl (g a 7) :: st) (g, ρ) Q := by
  obtain ⟨N, h⟩ := h
  exact wp_nx (by simp only [eff, shp, h]; rfl)
theorem pf_1_7 {i a : Nat} {v : Int} (h : kdI ρ a 11) : Wp zt k ((.putfield i, [1, 7]) :: c) ls (.inl v :: .inr (some a) :: st) (g, ρ) Q ↔ Wp zt k c ls st (wrI g a 7 v, ρ) Q := by
  obtain ⟨N, h⟩ := h
  exact wp_nx (by simp only [eff, shp, h]; rfl)
theorem gf_1_8 {i a : Nat} (h : kdI ρ a 11) : Wp zt k ((.getfield i, [1, 8]) :: c) ls (.inr (some a) :: st) (g, ρ) Q ↔ Wp zt k c ls (.inl (g a 8) :: st) (g, ρ) Q := by
  obtain ⟨N, h⟩ := h
  exact wp_nx (by simp only [eff, shp, h]; rfl)
theorem pf_1_8 {i a : Nat} {v : Int} (h : kdI ρ a 11) : Wp zt k ((.putfield i, [1, 8]) :: c) ls (.inl v :: .inr (some a) :: st) (g, ρ) Q ↔ Wp zt k c ls st (wrI g a 8 v, ρ) Q := by
  obtain ⟨N, h⟩ := h
  exact wp_nx (by simp only [eff, shp, h]; rfl)
theorem gf_2_0 {i a : Nat} (h : kdI ρ a 12) : Wp zt k ((.getfield i, [2, 0]) :: c) ls (.inr (some a) :: st) (g, ρ) Q ↔ Wp zt k c ls (.inl (g a 0) :: st) (g, ρ) Q := by
  obtain ⟨N, h⟩ := h
  exact wp_nx (by simp only [eff, shp, h]; rfl)
theorem pf_2_0 {i a : Nat} {v : Int} (h : kdI ρ a 12) : Wp zt k ((.putfield i, [2, 0]) :: c) ls (.inl v :: .inr (some a) :: st) (g, ρ) Q ↔ Wp zt k c ls st (wrI g a 0 v, ρ) Q := by
  obtain ⟨N, h⟩ := h
  exact wp_nx (by simp only [eff, shp, h]; rfl)
theorem gf_2_1 {i a b : Nat} (h : kdI ρ a 12) (hb : ρ.1 a 1 = some b) : Wp zt k ((.getfield i, [2, 1]) :: c) ls (.inr (some a) :: st) (g, ρ) Q ↔ Wp zt k c ls (.inr (some b) :: st) (g, ρ) Q := by
  obtain ⟨N, h⟩ := h
  exact wp_nx (by simp only [eff, shp, h]; rw [← hb]; rfl)
theorem pf_2_1 {i a b : Nat} (h : kdI ρ a 12) : Wp zt k ((.putfield i, [2, 1]) :: c) ls (.inr (some b) :: .inr (some a) :: st) (g, ρ) Q ↔ Wp zt k c ls st (g, wrR ρ.1 a 1 (some b), ρ.2) Q := by
  obtain ⟨N, h⟩ := h
  exact wp_nx (by simp only [eff, shp, h]; rfl)
theorem gf_2_2 {i a : Nat} (h : kdI ρ a 12) : Wp zt k ((.getfield i, [2, 2]) :: c) ls (.inr (some a) :: st) (g, ρ) Q ↔ Wp zt k c ls (.inl (g a 2) :: st) (g, ρ) Q := by
  obtain ⟨N, h⟩ := h
  exact wp_nx (by simp only [eff, shp, h]; rfl)
theorem pf_2_2 {i a : Nat} {v : Int} (h : kdI ρ a 12) : Wp zt k ((.putfield i, [2, 2]) :: c) ls (.inl v :: .inr (some a) :: st) (g, ρ) Q ↔ Wp zt k c ls st (wrI g a 2 v, ρ) Q := by
  obtain ⟨N, h⟩ := h
  exact wp_nx (by simp only [eff, shp, h]; rfl)
theorem gf_2_3 {i a : Nat} (h : kdI ρ a 12) : Wp zt k ((.getfield i, [2, 3]) :: c) ls (.inr (some a) :: st) (g, ρ) Q ↔ Wp zt k c ls (.inl (g a 3) :: st) (g, ρ) Q := by
  obtain ⟨N, h⟩ := h
  exact wp_nx (by simp only [eff, shp, h]; rfl)
theorem pf_2_3 {i a : Nat} {v : Int} (h : kdI ρ a 12) : Wp zt k ((.putfield i, [2, 3]) :: c) ls (.inl v :: .inr (some a) :: st) (g, ρ) Q ↔ Wp zt k c ls st (wrI g a 3 v, ρ) Q := by
  obtain ⟨N, h⟩ := h
  exact wp_nx (by simp only [eff, shp, h]; rfl)
theorem gf_3_0 {i a : Nat} (h : kdI ρ a 13) : Wp zt k ((.getfield i, [3, 0]) :: c) ls (.inr (some a) :: st) (g, ρ) Q ↔ Wp zt k c ls (.inl (g a 0) :: st) (g, ρ) Q := by
  obtain ⟨N, h⟩ := h
  exact wp_nx (by simp only [eff, shp, h]; rfl)
theorem pf_3_0 {i a : Nat} {v : Int} (h : kdI ρ a 13) : Wp zt k ((.putfield i, [3, 0]) :: c) ls (.inl v :: .inr (some a) :: st) (g, ρ) Q ↔ Wp zt k c ls st (wrI g a 0 v, ρ) Q := by
  obtain ⟨N, h⟩ := h
  exact wp_nx (by simp only [eff, shp, h]; rfl)
theorem gf_3_1 {i a b : Nat} (h : kdI ρ a 13) (hb : ρ.1 a 1 = some b) : Wp zt k ((.getfield i, [3, 1]) :: c) ls (.inr (some a) :: st) (g, ρ) Q ↔ Wp zt k c ls (.inr (some b) :: st) (g, ρ) Q := by
  obtain ⟨N, h⟩ := h
  exact wp_nx (by simp only [eff, shp, h]; rw [← hb]; rfl)
theorem pf_3_1 {i a b : Nat} (h : kdI ρ a 13) : Wp zt k ((.putfield i, [3, 1]) :: c) ls (.inr (some b) :: .inr (some a) :: st) (g, ρ) Q ↔ Wp zt k c ls st (g, wrR ρ.1 a 1 (some b), ρ.2) Q := by
  obtain ⟨N, h⟩ := h
  exact wp_nx (by simp only [eff, shp, h]; rfl)
theorem gf_3_2 {i a b : Nat} (h : kdI ρ a 13) (hb : ρ.1 a 2 = some b) : Wp zt k ((.getfield i, [3, 2]) :: c) ls (.inr (some a) :: st) (g, ρ) Q ↔ Wp zt k c ls (.inr (some b) :: st) (g, ρ) Q := by
  obtain ⟨N, h⟩ := h
  exact wp_nx (by simp only [eff, shp, h]; rw [← hb]; rfl)
theorem pf_3_2 {i a b : Nat} (h : kdI ρ a 13) : Wp zt k ((.putfield i, [3, 2]) :: c) ls (.inr (some b) :: .inr (some a) :: st) (g, ρ) Q ↔ Wp zt k c ls st (g, wrR ρ.1 a 2 (some b), ρ.2) Q := by
  obtain ⟨N, h⟩ := h
  exact wp_nx (by simp only [eff, shp, h]; rfl)
theorem gf_3_3 {i a b : Nat} (h : kdI ρ a 13) (hb : ρ.1 a 3 = some b) : Wp zt k ((.getfield i, [3, 3]) :: c) ls (.inr (some a) :: st) (g, ρ) Q ↔ Wp zt k c ls (.inr (some b) :: st) (g, ρ) Q := by
  obtain ⟨N, h⟩ := h
  exact wp_nx (by simp only [eff, shp, h]; rw [← hb]; rfl)
theorem pf_3_3 {i a b : Nat} (h : kdI ρ a 13) : Wp zt k ((.putfield i, [3, 3]) :: c) ls (.inr (some b) :: .inr (some a) :: st) (g, ρ) Q ↔ Wp zt k c ls st (g, wrR ρ.1 a 3 (some b), ρ.2) Q := by
  obtain ⟨N, h⟩ := h
  exact wp_nx (by simp only [eff, shp, h]; rfl)
theorem gf_3_4 {i a b : Nat} (h : kdI ρ a 13) (hb : ρ.1 a 4 = some b) : Wp zt k ((.getfield i, [3, 4]) :: c) ls (.inr (some a) :: st) (g, ρ) Q ↔ Wp zt k c ls (.inr (some b) :: st) (g, ρ) Q := by
  obtain ⟨N, h⟩ := h
  exact wp_nx (by simp only [eff, shp, h]; rw [← hb]; rfl)
theorem pf_3_4 {i a b : Nat} (h : kdI ρ a 13) : Wp zt k ((.putfield i, [3, 4]) :: c) ls (.inr (some b) :: .inr (some a) :: st) (g, ρ) Q ↔ Wp zt k c ls st (g, wrR ρ.1 a 4 (some b), ρ.2) Q := by
  obtain ⟨N, h⟩ := h
  exact wp_nx (by simp only [eff, shp, h]; rfl)
theorem gf_3_5 {i a : Nat} (h : kdI ρ a 13) : Wp zt k ((.getfield i, [3, 5]) :: c) ls (.inr (some a) :: st) (g, ρ) Q ↔ Wp zt k c ls (.inl (g a 5) :: st) (g, ρ) Q := by
  obtain ⟨N, h⟩ := h
  exact wp_nx (by simp only [eff, shp, h]; rfl)
theorem pf_3_5 {i a : Nat} {v : Int} (h : kdI ρ a 13) : Wp zt k ((.putfield i, [3, 5]) :: c) ls (.inl v :: .inr (some a) :: st) (g, ρ) Q ↔ Wp zt k c ls st (wrI g a 5 v, ρ) Q := by
  obtain ⟨N, h⟩ := h
  exact wp_nx (by simp only [eff, shp, h]; rfl)
theorem gf_3_6 {i a b : Nat} (h : kdI ρ a 13) (hb : ρ.1 a 6 = some b) : Wp zt k ((.getfield i, [3, 6]) :: c) ls (.inr (some a) :: st) (g, ρ) Q ↔ Wp zt k c ls (.inr (some b) :: st) (g, ρ) Q := by
  obtain ⟨N, h⟩ := h
  exact wp_nx (by simp only [eff, shp, h]; rw [← hb]; rfl)
theorem pf_3_6 {i a b : Nat} (h : kdI ρ a 13) : Wp zt k ((.putfield i, [3, 6]) :: c) ls (.inr (some b) :: .inr (some a) :: st) (g, ρ) Q ↔ Wp zt k c ls st (g, wrR ρ.1 a 6 (some b), ρ.2) Q := by
  obtain ⟨N, h⟩ := h
  exact wp_nx (by simp only [eff, shp, h]; rfl)
theorem gf_3_7 {i a b : Nat} (h : kdI ρ a 13) (hb : ρ.1 a 7 = some b) : Wp zt k ((.getfield i, [3, 7]) :: c) ls (.inr (some a) :: st) (g, ρ) Q ↔ Wp zt k c ls (.inr (some b) :: st) (g, ρ) Q := by
  obtain ⟨N, h⟩ := h
  exact wp_nx (by simp only [eff, shp, h]; rw [← hb]; rfl)
theorem pf_3_7 {i a b : Nat} (h : kdI ρ a 13) : Wp zt k ((.putfield i, [3, 7]) :: c) ls (.inr (some b) :: .inr (some a) :: st) (g, ρ) Q ↔ Wp zt k c ls st (g, wrR ρ.1 a 7 (some b), ρ.2) Q := by
  obtain ⟨N, h⟩ := h
  exact wp_nx (by simp only [eff, shp, h]; rfl)
theorem gf_3_8 {i a : Nat} (h : kdI ρ a 13) : Wp zt k ((.getfield i, [3, 8]) :: c) ls (.inr (some a) :: st) (g, ρ) Q ↔ Wp zt k c ls (.inl (g a 8) :: st) (g, ρ) Q := by
  obtain ⟨N, h⟩ := h
  exact wp_nx (by simp only [eff, shp, h]; rfl)
theorem pf_3_8 {i a : Nat} {v : Int} (h : kdI ρ a 13) : Wp zt k ((.putfield i, [3, 8]) :: c) ls (.inl v :: .inr (some a) :: st) (g, ρ) Q ↔ Wp zt k c ls st (wrI g a 8 v, ρ) Q := by
  obtain ⟨N, h⟩ := h
  exact wp_nx (by simp only [eff, shp, h]; rfl)
theorem gf_3_9 {i a b : Nat} (h : kdI ρ a 13) (hb : ρ.1 a 9 = some b) : Wp zt k ((.getfield i, [3, 9]) :: c) ls (.inr (some a) :: st) (g, ρ) Q ↔ Wp zt k c ls (.inr (some b) :: st) (g, ρ) Q := by
  obtain ⟨N, h⟩ := h
  exact wp_nx (by simp only [eff, shp, h]; rw [← hb]; rfl)
theorem pf_3_9 {i a b : Nat} (h : kdI ρ a 13) : Wp zt k ((.putfield i, [3, 9]) :: c) ls (.inr (some b) :: .inr (some a) :: st) (g, ρ) Q ↔ Wp zt k c ls st (g, wrR ρ.1 a 9 (some b), ρ.2) Q := by
  obtain ⟨N, h⟩ := h
  exact wp_nx (by simp only [eff, shp, h]; rfl)
theorem gf_3_10 {i a b : Nat} (h : kdI ρ a 13) (hb : ρ.1 a 10 = some b) : Wp zt k ((.getfield i, [3, 10]) :: c) ls (.inr (some a) :: st) (g, ρ) Q ↔ Wp zt k c ls (.inr (some b) :: st) (g, ρ) Q := by
  obtain ⟨N, h⟩ := h
  exact wp_nx (by simp only [eff, shp, h]; rw [← hb]; rfl)
theorem pf_3_10 {i a b : Nat} (h : kdI ρ a 13) : Wp zt k ((.putfield i, [3, 10]) :: c) ls (.inr (some b) :: .inr (some a) :: st) (g, ρ) Q ↔ Wp zt k c ls st (g, wrR ρ.1 a 10 (some b), ρ.2) Q := by
  obtain ⟨N, h⟩ := h
  exact wp_nx (by simp only [eff, shp, h]; rfl)
theorem gf_4_0 {i a b : Nat} (h : kdI ρ a 14) (hb : ρ.1 a 0 = some b) : Wp zt k ((.getfield i, [4, 0]) :: c) ls (.inr (some a) :: st) (g, ρ) Q ↔ Wp zt k c ls (.inr (some b) :: st) (g, ρ) Q := by
  obtain ⟨N, h⟩ := h
  exact wp_nx (by simp only [eff, shp, h]; rw [← hb]; rfl)
theorem pf_4_0 {i a b : Nat} (h : kdI ρ a 14) : Wp zt k ((.putfield i, [4, 0]) :: c) ls (.inr (some b) :: .inr (some a) :: st) (g, ρ) Q ↔ Wp zt k c ls st (g, wrR ρ.1 a 0 (some b), ρ.2) Q := by
  obtain ⟨N, h⟩ := h
  exact wp_nx (by simp only [eff, shp, h]; rfl)
theorem gf_4_1 {i a b : Nat} (h : kdI ρ a 14) (hb : ρ.1 a 1 = some b) : Wp zt k ((.getfield i, [4, 1]) :: c) ls (.inr (some a) :: st) (g, ρ) Q ↔ Wp zt k c ls (.inr (some b) :: st) (g, ρ) Q := by
  obtain ⟨N, h⟩ := h
  exact wp_nx (by simp only [eff, shp, h]; rw [← hb]; rfl)
theorem pf_4_1 {i a b : Nat} (h : kdI ρ a 14) : Wp zt k ((.putfield i, [4, 1]) :: c) ls (.inr (some b) :: .inr (some a) :: st) (g, ρ) Q ↔ Wp zt k c ls st (g, wrR ρ.1 a 1 (some b), ρ.2) Q := by
  obtain ⟨N, h⟩ := h
  exact wp_nx (by simp only [eff, shp, h]; rfl)
theorem gf_4_2 {i a b : Nat} (h : kdI ρ a 14) (hb : ρ.1 a 2 = some b) : Wp zt k ((.getfield i, [4, 2]) :: c) ls (.inr (some a) :: st) (g, ρ) Q ↔ Wp zt k c ls (.inr (some b) :: st) (g, ρ) Q := by
  obtain ⟨N, h⟩ := h
  exact wp_nx (by simp only [eff, shp, h]; rw [← hb]; rfl)
theorem pf_4_2 {i a b : Nat} (h : kdI ρ a 14) : Wp zt k ((.putfield i, [4, 2]) :: c) ls (.inr (some b) :: .inr (some a) :: st) (g, ρ) Q ↔ Wp zt k c ls st (g, wrR ρ.1 a 2 (some b), ρ.2) Q := by
  obtain ⟨N, h⟩ := h
  exact wp_nx (by simp only [eff, shp, h]; rfl)
theorem gf_5_0 {i a b : Nat} (h : kdI ρ a 15) (hb : ρ.1 a 0 = some b) : Wp zt k ((.getfield i, [5, 0]) :: c) ls (.inr (some a) :: st) (g, ρ) Q ↔ Wp zt k c ls (.inr (some b) :: st) (g, ρ) Q := by
  obtain ⟨N, h⟩ := h
  exact wp_nx (by simp only [eff, shp, h]; rw [← hb]; rfl)
theorem pf_5_0 {i a b : Nat} (h : kdI ρ a 15) : Wp zt k ((.putfield i, [5, 0]) :: c) ls (.inr (some b) :: .inr (some a) :: st) (g, ρ) Q ↔ Wp zt k c ls st (g, wrR ρ.1 a 0 (some b), ρ.2) Q := by
  obtain ⟨N, h⟩ := h
  exact wp_nx (by simp only [eff, shp, h]; rfl)
theorem gf_5_1 {i a b : Nat} (h : kdI ρ a 15) (hb : ρ.1 a 1 = some b) : Wp zt k ((.getfield i, [5, 1]) :: c) ls (.inr (some a) :: st) (g, ρ) Q ↔ Wp zt k c ls (.inr (some b) :: st) (g, ρ) Q := by
  obtain ⟨N, h⟩ := h
  exact wp_nx (by simp only [eff, shp, h]; rw [← hb]; rfl)
theorem pf_5_1 {i a b : Nat} (h : kdI ρ a 15) : Wp zt k ((.putfield i, [5, 1]) :: c) ls (.inr (some b) :: .inr (some a) :: st) (g, ρ) Q ↔ Wp zt k c ls st (g, wrR ρ.1 a 1 (some b), ρ.2) Q := by
  obtain ⟨N, h⟩ := h
  exact wp_nx (by simp only [eff, shp, h]; rfl)
theorem gf_5_2 {i a : Nat} (h : kdI ρ a 15) : Wp zt k ((.getfield i, [5, 2]) :: c) ls (.inr (some a) :: st) (g, ρ) Q ↔ Wp zt k c ls (.inl (g a 2) :: st) (g, ρ) Q := by
  obtain ⟨N, h⟩ := h
  exact wp_nx (by simp only [eff, shp, h]; rfl)
theorem pf_5_2 {i a : Nat} {v : Int} (h : kdI ρ a 15) : Wp zt k ((.putfield i, [5, 2]) :: c) ls (.inl v :: .inr (some a) :: st) (g, ρ) Q ↔ Wp zt k c ls st (wrI g a 2 v, ρ) Q := by
  obtain ⟨N, h⟩ := h
  exact wp_nx (by simp only [eff, shp, h]; rfl)
theorem gf_5_3 {i a b : Nat} (h : kdI ρ a 15) (hb : ρ.1 a 3 = some b) : Wp zt k ((.getfield i, [5, 3]) :: c) ls (.inr (some a) :: st) (g, ρ) Q ↔ Wp zt k c ls (.inr (some b) :: st) (g, ρ) Q := by
  obtain ⟨N, h⟩ := h
  exact wp_nx (by simp only [eff, shp, h]; rw [← hb]; rfl)
theorem pf_5_3 {i a b : Nat} (h : kdI ρ a 15) : Wp zt k ((.putfield i, [5, 3]) :: c) ls (.inr (some b) :: .inr (some a) :: st) (g, ρ) Q ↔ Wp zt k c ls st (g, wrR ρ.1 a 3 (some b), ρ.2) Q := by
  obtain ⟨N, h⟩ := h
  exact wp_nx (by simp only [eff, shp, h]; rfl)
theorem gf_5_4 {i a b : Nat} (h : kdI ρ a 15) (hb : ρ.1 a 4 = some b) : Wp zt k ((.getfield i, [5, 4]) :: c) ls (.inr (some a) :: st) (g, ρ) Q ↔ Wp zt k c ls (.inr (some b) :: st) (g, ρ) Q := by
  obtain ⟨N, h⟩ := h
  exact wp_nx (by simp only [eff, shp, h]; rw [← hb]; rfl)
theorem pf_5_4 {i a b : Nat} (h : kdI ρ a 15) : Wp zt k ((.putfield i, [5, 4]) :: c) ls (.inr (some b) :: .inr (some a) :: st) (g, ρ) Q ↔ Wp zt k c ls st (g, wrR ρ.1 a 4 (some b), ρ.2) Q := by
  obtain ⟨N, h⟩ := h
  exact wp_nx (by simp only [eff, shp, h]; rfl)
theorem gf_5_5 {i a b : Nat} (h : kdI ρ a 15) (hb : ρ.1 a 5 = some b) : Wp zt k ((.getfield i, [5, 5]) :: c) ls (.inr (some a) :: st) (g, ρ) Q ↔ Wp zt k c ls (.inr (some b) :: st) (g, ρ) Q := by
  obtain ⟨N, h⟩ := h
  exact wp_nx (by simp only [eff, shp, h]; rw [← hb]; rfl)
theorem pf_5_5 {i a b : Nat} (h : kdI ρ a 15) : Wp zt k ((.putfield i, [5, 5]) :: c) ls (.inr (some b) :: .inr (some a) :: st) (g, ρ) Q ↔ Wp zt k c ls st (g, wrR ρ.1 a 5 (some b), ρ.2) Q := by
  obtain ⟨N, h⟩ := h
  exact wp_nx (by simp only [eff, shp, h]; rfl)
theorem gf_5_6 {i a b : Nat} (h : kdI ρ a 15) (hb : ρ.1 a 6 = some b) : Wp zt k ((.getfield i, [5, 6]) :: c) ls (.inr (some a) :: st) (g, ρ) Q ↔ Wp zt k c ls (.inr (some b) :: st) (g, ρ) Q := by
  obtain ⟨N, h⟩ := h
  exact wp_nx (by simp only [eff, shp, h]; rw [← hb]; rfl)
theorem pf_5_6 {i a b : Nat} (h : kdI ρ a 15) : Wp zt k ((.putfield i, [5, 6]) :: c) ls (.inr (some b) :: .inr (some a) :: st) (g, ρ) Q ↔ Wp zt k c ls st (g, wrR ρ.1 a 6 (some b), ρ.2) Q := by
  obtain ⟨N, h⟩ := h
  exact wp_nx (by simp only [eff, shp, h]; rfl)
theorem gf_5_7 {i a b : Nat} (h : kdI ρ a 15) (hb : ρ.1 a 7 = some b) : Wp zt k ((.getfield i, [5, 7]) :: c) ls (.inr (some a) :: st) (g, ρ) Q ↔ Wp zt k c ls (.inr (some b) :: st) (g, ρ) Q := by
  obtain ⟨N, h⟩ := h
  exact wp_nx (by simp only [eff, shp, h]; rw [← hb]; rfl)
theorem pf_5_7 {i a b : Nat} (h : kdI ρ a 15) : Wp zt k ((.putfield i, [5, 7]) :: c) ls (.inr (some b) :: .inr (some a) :: st) (g, ρ) Q ↔ Wp zt k c ls st (g, wrR ρ.1 a 7 (some b), ρ.2) Q := by
  obtain ⟨N, h⟩ := h
  exact wp_nx (by simp only [eff, shp, h]; rfl)
theorem gf_5_8 {i a : Nat} (h : kdI ρ a 15) : Wp zt k ((.getfield i, [5, 8]) :: c) ls (.inr (some a) :: st) (g, ρ) Q ↔ Wp zt k c ls (.inl (g a 8) :: st) (g, ρ) Q := by
  obtain ⟨N, h⟩ := h
  exact wp_nx (by simp only [eff, shp, h]; rfl)
theorem pf_5_8 {i a : Nat} {v : Int} (h : kdI ρ a 15) : Wp zt k ((.putfield i, [5, 8]) :: c) ls (.inl v :: .inr (some a) :: st) (g, ρ) Q ↔ Wp zt k c ls st (wrI g a 8 v, ρ) Q := by
  obtain ⟨N, h⟩ := h
  exact wp_nx (by simp only [eff, shp, h]; rfl)
theorem gf_6_0 {i a b : Nat} (h : kdI ρ a 16) (hb : ρ.1 a 0 = some b) : Wp zt k ((.getfield i, [6, 0]) :: c) ls (.inr (some a) :: st) (g, ρ) Q ↔ Wp zt k c ls (.inr (some b) :: st) (g, ρ) Q := by
  obtain ⟨N, h⟩ := h
  exact wp_nx (by simp only [eff, shp, h]; rw [← hb]; rfl)
theorem pf_6_0 {i a b : Nat} (h : kdI ρ a 16) : Wp zt k ((.putfield i, [6, 0]) :: c) ls (.inr (some b) :: .inr (some a) :: st) (g, ρ) Q ↔ Wp zt k c ls st (g, wrR ρ.1 a 0 (some b), ρ.2) Q := by
  obtain ⟨N, h⟩ := h
  exact wp_nx (by simp only [eff, shp, h]; rfl)
theorem gf_6_1 {i a b : Nat} (h : kdI ρ a 16) (hb : ρ.1 a 1 = some b) : Wp zt k ((.getfield i, [6, 1]) :: c) ls (.inr (some a) :: st) (g, ρ) Q ↔ Wp zt k c ls (.inr (some b) :: st) (g, ρ) Q := by
  obtain ⟨N, h⟩ := h
  exact wp_nx (by simp only [eff, shp, h]; rw [← hb]; rfl)
theorem pf_6_1 {i a b : Nat} (h : kdI ρ a 16) : Wp zt k ((.putfield i, [6, 1]) :: c) ls (.inr (some b) :: .inr (some a) :: st) (g, ρ) Q ↔ Wp zt k c ls st (g, wrR ρ.1 a 1 (some b), ρ.2) Q := by
  obtain ⟨N, h⟩ := h
  exact wp_nx (by simp only [eff, shp, h]; rfl)
theorem gf_6_2 {i a b : Nat} (h : kdI ρ a 16) (hb : ρ.1 a 2 = some b) : Wp zt k ((.getfield i, [6, 2]) :: c) ls (.inr (some a) :: st) (g, ρ) Q ↔ Wp zt k c ls (.inr (some b) :: st) (g, ρ) Q := by
  obtain ⟨N, h⟩ := h
  exact wp_nx (by simp only [eff, shp, h]; rw [← hb]; rfl)
theorem pf_6_2 {i a b : Nat} (h : kdI ρ a 16) : Wp zt k ((.putfield i, [6, 2]) :: c) ls (.inr (some b) :: .inr (some a) :: st) (g, ρ) Q ↔ Wp zt k c ls st (g, wrR ρ.1 a 2 (some b), ρ.2) Q := by
  obtain ⟨N, h⟩ := h
  exact wp_nx (by simp only [eff, shp, h]; rfl)
theorem gf_6_3 {i a : Nat} (h : kdI ρ a 16) : Wp zt k ((.getfield i, [6, 3]) :: c) ls (.inr (some a) :: st) (g, ρ) Q ↔ Wp zt k c ls (.inl (g a 3) :: st) (g, ρ) Q := by
  obtain ⟨N, h⟩ := h
  exact wp_nx (by simp only [eff, shp, h]; rfl)
theorem pf_6_3 {i a : Nat} {v : Int} (h : kdI ρ a 16) : Wp zt k ((.putfield i, [6, 3]) :: c) ls (.inl v :: .inr (some a) :: st) (g, ρ) Q ↔ Wp zt k c ls st (wrI g a 3 v, ρ) Q := by
  obtain ⟨N, h⟩ := h
  exact wp_nx (by simp only [eff, shp, h]; rfl)
theorem gf_6_4 {i a b : Nat} (h : kdI ρ a 16) (hb : ρ.1 a 4 = some b) : Wp zt k ((.getfield i, [6, 4]) :: c) ls (.inr (some a) :: st) (g, ρ) Q ↔ Wp zt k c ls (.inr (some b) :: st) (g, ρ) Q := by
  obtain ⟨N, h⟩ := h
  exact wp_nx (by simp only [eff, shp, h]; rw [← hb]; rfl)
theorem pf_6_4 {i a b : Nat} (h : kdI ρ a 16) : Wp zt k ((.putfield i, [6, 4]) :: c) ls (.inr (some b) :: .inr (some a) :: st) (g, ρ) Q ↔ Wp zt k c ls st (g, wrR ρ.1 a 4 (some b), ρ.2) Q := by
  obtain ⟨N, h⟩ := h
  exact wp_nx (by simp only [eff, shp, h]; rfl)
theorem gf_6_5 {i a : Nat} (h : kdI ρ a 16) : Wp zt k ((.getfield i, [6, 5]) :: c) ls (.inr (some a) :: st) (g, ρ) Q ↔ Wp zt k c ls (.inl (g a 5) :: st) (g, ρ) Q := by
  obtain ⟨N, h⟩ := h
  exact wp_nx (by simp only [eff, shp, h]; rfl)
theorem pf_6_5 {i a : Nat} {v : Int} (h : kdI ρ a 16) : Wp zt k ((.putfield i, [6, 5]) :: c) ls (.inl v :: .inr (some a) :: st) (g, ρ) Q ↔ Wp zt k c ls st (wrI g a 5 v, ρ) Q := by
  obtain ⟨N, h⟩ := h
  exact wp_nx (by simp only [eff, shp, h]; rfl)
theorem gf_6_6 {i a b : Nat} (h : kdI ρ a 16) (hb : ρ.1 a 6 = some b) : Wp zt k ((.getfield i, [6, 6]) :: c) ls (.inr (some a) :: st) (g, ρ) Q ↔ Wp zt k c ls (.inr (some b) :: st) (g, ρ) Q := by
  obtain ⟨N, h⟩ := h
  exact wp_nx (by simp only [eff, shp, h]; rw [← hb]; rfl)
theorem pf_6_6 {i a b : Nat} (h : kdI ρ a 16) : Wp zt k ((.putfield i, [6, 6]) :: c) ls (.inr (some b) :: .inr (some a) :: st) (g, ρ) Q ↔ Wp zt k c ls st (g, wrR ρ.1 a 6 (some b), ρ.2) Q := by
  obtain ⟨N, h⟩ := h
  exact wp_nx (by simp only [eff, shp, h]; rfl)
theorem gf_6_7 {i a b : Nat} (h : kdI ρ a 16) (hb : ρ.1 a 7 = some b) : Wp zt k ((.getfield i, [6, 7]) :: c) ls (.inr (some a) :: st) (g, ρ) Q ↔ Wp zt k c ls (.inr (some b) :: st) (g, ρ) Q := by
  obtain ⟨N, h⟩ := h
  exact wp_nx (by simp only [eff, shp, h]; rw [← hb]; rfl)
theorem pf_6_7 {i a b : Nat} (h : kdI ρ a 16) : Wp zt k ((.putfield i, [6, 7]) :: c) ls (.inr (some b) :: .inr (some a) :: st) (g, ρ) Q ↔ Wp zt k c ls st (g, wrR ρ.1 a 7 (some b), ρ.2) Q := by
  obtain ⟨N, h⟩ := h
  exact wp_nx (by simp only [eff, shp, h]; rfl)
theorem gf_6_8 {i a : Nat} (h : kdI ρ a 16) : Wp zt k ((.getfield i, [6, 8]) :: c) ls (.inr (some a) :: st) (g, ρ) Q ↔ Wp zt k c ls (.inl (g a 8) :: st) (g, ρ) Q := by
  obtain ⟨N, h⟩ := h
  exact wp_nx (by simp only [eff, shp, h]; rfl)
theorem pf_6_8 {i a : Nat} {v : Int} (h : kdI ρ a 16) : Wp zt k ((.putfield i, [6, 8]) :: c) ls (.inl v :: .inr (some a) :: st) (g, ρ) Q ↔ Wp zt k c ls st (wrI g a 8 v, ρ) Q := by
  obtain ⟨N, h⟩ := h
  exact wp_nx (by simp only [eff, shp, h]; rfl)
theorem gf_6_9 {i a : Nat} (h : kdI ρ a 16) : Wp zt k ((.getfield i, [6, 9]) :: c) ls (.inr (some a) :: st) (g, ρ) Q ↔ Wp zt k c ls (.inl (g a 9) :: st) (g, ρ) Q := by
  obtain ⟨N, h⟩ := h
  exact wp_nx (by simp only [eff, shp, h]; rfl)
theorem pf_6_9 {i a : Nat} {v : Int} (h : kdI ρ a 16) : Wp zt k ((.putfield i, [6, 9]) :: c) ls (.inl v :: .inr (some a) :: st) (g, ρ) Q ↔ Wp zt k c ls st (wrI g a 9 v, ρ) Q := by
  obtain ⟨N, h⟩ := h
  exact wp_nx (by simp only [eff, shp, h]; rfl)
theorem gf_6_10 {i a b : Nat} (h : kdI ρ a 16) (hb : ρ.1 a 10 = some b) : Wp zt k ((.getfield i, [6, 10]) :: c) ls (.inr (some a) :: st) (g, ρ) Q ↔ Wp zt k c ls (.inr (some b) :: st) (g, ρ) Q := by
  obtain ⟨N, h⟩ := h
  exact wp_nx (by simp only [eff, shp, h]; rw [← hb]; rfl)
theorem pf_6_10 {i a b : Nat} (h : kdI ρ a 16) : Wp zt k ((.putfield i, [6, 10]) :: c) ls (.inr (some b) :: .inr (some a) :: st) (g, ρ) Q ↔ Wp zt k c ls st (g, wrR ρ.1 a 10 (some b), ρ.2) Q := by
  obtain ⟨N, h⟩ := h
  exact wp_nx (by simp only [eff, shp, h]; rfl)
theorem gf_6_11 {i a b : Nat} (h : kdI ρ a 16) (hb : ρ.1 a 11 = some b) : Wp zt k ((.getfield i, [6, 11]) :: c) ls (.inr (some a) :: st) (g, ρ) Q ↔ Wp zt k c ls (.inr (some b) :: st) (g, ρ) Q := by
  obtain ⟨N, h⟩ := h
  exact wp_nx (by simp only [eff, shp, h]; rw [← hb]; rfl)
theorem pf_6_11 {i a b : Nat} (h : kdI ρ a 16) : Wp zt k ((.putfield i, [6, 11]) :: c) ls (.inr (some b) :: .inr (some a) :: st) (g, ρ) Q ↔ Wp zt k c ls st (g, wrR ρ.1 a 11 (some b), ρ.2) Q := by
  obtain ⟨N, h⟩ := h
  exact wp_nx (by simp only [eff, shp, h]; rfl)
theorem gf_6_12 {i a b : Nat} (h : kdI ρ a 16) (hb : ρ.1 a 12 = some b) : Wp zt k ((.getfield i, [6, 12]) :: c) ls (.inr (some a) :: st) (g, ρ) Q ↔ Wp zt k c ls (.inr (some b) :: st) (g, ρ) Q := by
  obtain ⟨N, h⟩ := h
  exact wp_nx (by simp only [eff, shp, h]; rw [← hb]; rfl)
theorem pf_6_12 {i a b : Nat} (h : kdI ρ a 16) : Wp zt k ((.putfield i, [6, 12]) :: c) ls (.inr (some b) :: .inr (some a) :: st) (g, ρ) Q ↔ Wp zt k c ls st (g, wrR ρ.1 a 12 (some b), ρ.2) Q := by
  obtain ⟨N, h⟩ := h
  exact wp_nx (by simp only [eff, shp, h]; rfl)
theorem wp_iald {i : Int} {b : Nat} (h : kdI ρ b 0) : Wp zt k ((.iaload, x) :: c) ls (.inl i :: .inr (some b) :: st) (g, ρ) Q ↔ (0 ≤ i ∧ i < (lnA ρ b : Int) ∧ i < 65536) ∧ Wp zt k c ls (.inl (g b i.toNat) :: st) (g, ρ) Q := by
  have hl := kdI_ln h
  by_cases hr : (0 ≤ i ∧ i < (lnA ρ b : Int) ∧ i < 65536)
  · have he : eff zt (.iaload, x) ls (.inl i :: .inr (some b) :: st) (g, ρ) = some (.inl (ls, (.inl (g b i.toNat) :: st), (g, ρ))) := by
      simp only [eff, aldI, shp, hl]
      rw [if_pos (by simpa using hr)]; rfl
    exact ⟨fun q => ⟨hr, (wp_nx he).mp q⟩, fun q => (wp_nx he).mpr q.2⟩
  · refine ⟨fun q => absurd q (wp_no ?_), fun q => absurd q.1 hr⟩
    simp only [eff, aldI, shp, hl]
    rw [if_neg (fun z => hr (by simpa using z))]
theorem wp_iald4 {i : Int} {b : Nat} (h : kdI ρ b 4) : Wp zt k ((.iaload, x) :: c) ls (.inl i :: .inr (some b) :: st) (g, ρ) Q ↔ (0 ≤ i ∧ i < (lnA ρ b : Int) ∧ i < 65536) ∧ Wp zt k c ls (.inl (g b i.toNat) :: st) (g, ρ) Q := by
  have hl := kdI_ln h
  by_cases hr : (0 ≤ i ∧ i < (lnA ρ b : Int) ∧ i < 65536)
  · have he : eff zt (.iaload, x) ls (.inl i :: .inr (some b) :: st) (g, ρ) = some (.inl (ls, (.inl (g b i.toNat) :: st), (g, ρ))) := by
      simp only [eff, aldI, shp, hl]
      rw [if_pos (by simpa using hr)]; rfl
    exact ⟨fun q => ⟨hr, (wp_nx he).mp q⟩, fun q => (wp_nx he).mpr q.2⟩
  · refine ⟨fun q => absurd q (wp_no ?_), fun q => absurd q.1 hr⟩
    simp only [eff, aldI, shp, hl]
    rw [if_neg (fun z => hr (by simpa using z))]
theorem wp_bald {i : Int} {b : Nat} (h : kdI ρ b 1) : Wp zt k ((.baload, x) :: c) ls (.inl i :: .inr (some b) :: st) (g, ρ) Q ↔ (0 ≤ i ∧ i < (lnA ρ b : Int) ∧ i < 65536) ∧ Wp zt k c ls (.inl (g b i.toNat) :: st) (g, ρ) Q := by
  have hl := kdI_ln h
  by_cases hr : (0 ≤ i ∧ i < (lnA ρ b : Int) ∧ i < 65536)
  · have he : eff zt (.baload, x) ls (.inl i :: .inr (some b) :: st) (g, ρ) = some (.inl (ls, (.inl (g b i.toNat) :: st), (g, ρ))) := by
      simp only [eff, aldI, shp, hl]
      rw [if_pos (by simpa using hr)]; rfl
    exact ⟨fun q => ⟨hr, (wp_nx he).mp q⟩, fun q => (wp_nx he).mpr q.2⟩
  · refine ⟨fun q => absurd q (wp_no ?_), fun q => absurd q.1 hr⟩
    simp only [eff, aldI, shp, hl]
    rw [if_neg (fun z => hr (by simpa using z))]
theorem wp_iast {i v : Int} {b : Nat} (h : kdI ρ b 0) : Wp zt k ((.iastore, x) :: c) ls (.inl v :: .inl i :: .inr (some b) :: st) (g, ρ) Q ↔ (0 ≤ i ∧ i < (lnA ρ b : Int) ∧ i < 65536) ∧ Wp zt k c ls st (wrI g b i.toNat v, ρ) Q := by
  have hl := kdI_ln h
  by_cases hr : (0 ≤ i ∧ i < (lnA ρ b : Int) ∧ i < 65536)
  · have he : eff zt (.iastore, x) ls (.inl v :: .inl i :: .inr (some b) :: st) (g, ρ) = some (.inl (ls, st, (wrI g b i.toNat v, ρ))) := by
      simp only [eff, aldI, shp, hl]
      rw [if_pos (by simpa using hr)]; rfl
    exact ⟨fun q => ⟨hr, (wp_nx he).mp q⟩, fun q => (wp_nx he).mpr q.2⟩
  · refine ⟨fun q => absurd q (wp_no ?_), fun q => absurd q.1 hr⟩
    simp only [eff, aldI, shp, hl]
    rw [if_neg (fun z => hr (by simpa using z))]
theorem wp_bast {i v : Int} {b : Nat} (h : kdI ρ b 1) : Wp zt k ((.bastore, x) :: c) ls (.inl v :: .inl i :: .inr (some b) :: st) (g, ρ) Q ↔ (0 ≤ i ∧ i < (lnA ρ b : Int) ∧ i < 65536 ∧ (v = 0 ∨ v = 1)) ∧ Wp zt k c ls st (wrI g b i.toNat v, ρ) Q := by
  have hl := kdI_ln h
  by_cases hr : (0 ≤ i ∧ i < (lnA ρ b : Int) ∧ i < 65536 ∧ (v = 0 ∨ v = 1))
  · have he : eff zt (.bastore, x) ls (.inl v :: .inl i :: .inr (some b) :: st) (g, ρ) = some (.inl (ls, st, (wrI g b i.toNat v, ρ))) := by
      simp only [eff, aldI, shp, hl]
      rw [if_pos (by simpa using hr)]; rfl
    exact ⟨fun q => ⟨hr, (wp_nx he).mp q⟩, fun q => (wp_nx he).mpr q.2⟩
  · refine ⟨fun q => absurd q (wp_no ?_), fun q => absurd q.1 hr⟩
    simp only [eff, aldI, shp, hl]
    rw [if_neg (fun z => hr (by simpa using z))]
theorem wp_qald2 {i : Int} {b : Nat} (h : kdI ρ b 2) : Wp zt k ((.aaload, x) :: c) ls (.inl i :: .inr (some b) :: st) (g, ρ) Q ↔ (0 ≤ i ∧ i < (lnA ρ b : Int) ∧ i < 65536) ∧ Wp zt k c ls (.inr (ρ.1 b i.toNat) :: st) (g, ρ) Q := by
  have hl := kdI_ln h
  by_cases hr : (0 ≤ i ∧ i < (lnA ρ b : Int) ∧ i < 65536)
  · have he : eff zt (.aaload, x) ls (.inl i :: .inr (some b) :: st) (g, ρ) = some (.inl (ls, (.inr (ρ.1 b i.toNat) :: st), (g, ρ))) := by
      simp only [eff, aldI, shp, hl]
      rw [if_pos (by simpa using hr)]; rfl
    exact ⟨fun q => ⟨hr, (wp_nx he).mp q⟩, fun q => (wp_nx he).mpr q.2⟩
  · refine ⟨fun q => absurd q (wp_no ?_), fun q => absurd q.1 hr⟩
    simp only [eff, aldI, shp, hl]
    rw [if_neg (fun z => hr (by simpa using z))]
theorem wp_qald3 {i : Int} {b : Nat} (h : kdI ρ b 3) : Wp zt k ((.aaload, x) :: c) ls (.inl i :: .inr (some b) :: st) (g, ρ) Q ↔ (0 ≤ i ∧ i < (lnA ρ b : Int) ∧ i < 65536) ∧ Wp zt k c ls (.inr (ρ.1 b i.toNat) :: st) (g, ρ) Q := by
  have hl := kdI_ln h
  by_cases hr : (0 ≤ i ∧ i < (lnA ρ b : Int) ∧ i < 65536)
  · have he : eff zt (.aaload, x) ls (.inl i :: .inr (some b) :: st) (g, ρ) = some (.inl (ls, (.inr (ρ.1 b i.toNat) :: st), (g, ρ))) := by
      simp only [eff, aldI, shp, hl]
      rw [if_pos (by simpa using hr)]; rfl
    exact ⟨fun q => ⟨hr, (wp_nx he).mp q⟩, fun q => (wp_nx he).mpr q.2⟩
  · refine ⟨fun q => absurd q (wp_no ?_), fun q => absurd q.1 hr⟩
    simp only [eff, aldI, shp, hl]
    rw [if_neg (fun z => hr (by simpa using z))]
theorem wp_alen {b kd : Nat} (h : kdI ρ b kd) (hk : kd ≤ 4) : Wp zt k ((.arraylength, x) :: c) ls (.inr (some b) :: st) (g, ρ) Q ↔ Wp zt k c ls (.inl (lnA ρ b : Int) :: st) (g, ρ) Q := by
  have hl := kdI_ln h
  exact wp_nx (by simp only [eff, shp, hl]; rw [if_pos hk]; rfl)
theorem wp_cs1 {i k2 : Nat} {v0 : AV} (hk : k2 < 1000) (hs : st.length ≤ 7) : Wp zt k ((.invokestatic i, [k2, 1, 0]) :: c) ls (v0 :: st) (g, ρ) Q ↔ WpM zt k2 [v0] (g, ρ) (fun v s => Wp zt k c ls (v.toList ++ st) s Q) := wp_cl (by show (if 1000 ≤ k2 then _ else cal _ _ _) = _; rw [if_neg (show ¬ 1000 ≤ k2 by omega)]; simp only [cal]; rw [if_pos ⟨by simp only [List.length_cons]; omega, by simp only [List.length_cons]; omega, rfl⟩]; rfl)
theorem wp_cv1 {i k2 rk b : Nat} (hk : k2 < 1000) (hb : kdI ρ b rk) (hs : st.length ≤ 7) : Wp zt k ((.invokevirtual i, [k2, 1, rk]) :: c) ls (.inr (some b) :: st) (g, ρ) Q ↔ WpM zt k2 [.inr (some b)] (g, ρ) (fun v s => Wp zt k c ls (v.toList ++ st) s Q) := wp_cl (by obtain ⟨N, hN⟩ := hb; simp only [eff]; simp only [cal]; rw [if_pos ⟨by simp only [List.length_cons]; omega, by simp only [List.length_cons]; omega, by show rcB (g, ρ) rk (.inr (some b) :: _) = true; simp only [rcB, shp, hN, beq_self_eq_true, Bool.or_true]⟩]; rfl)
theorem wp_ci1 {i k2 rk b : Nat} (hk : k2 < 1000) (hb : kdI ρ b rk) (hs : st.length ≤ 7) : Wp zt k ((.invokespecial i, [k2, 1, rk]) :: c) ls (.inr (some b) :: st) (g, ρ) Q ↔ WpM zt k2 [.inr (some b)] (g, ρ) (fun v s => Wp zt k c ls (v.toList ++ st) s Q) := wp_cl (by obtain ⟨N, hN⟩ := hb; show (if 1000 ≤ k2 then _ else cal _ _ _) = _; rw [if_neg (show ¬ 1000 ≤ k2 by omega)]; simp only [cal]; rw [if_pos ⟨by simp only [List.length_cons]; omega, by simp only [List.length_cons]; omega, by show rcB (g, ρ) rk (.inr (some b) :: _) = true; simp only [rcB, shp, hN, beq_self_eq_true, Bool.or_true]⟩]; rfl)
theorem wp_cs2 {i k2 : Nat} {v0 v1 : AV} (hk : k2 < 1000) (hs : st.length ≤ 7) : Wp zt k ((.invokestatic i, [k2, 2, 0]) :: c) ls (v1 :: v0 :: st) (g, ρ) Q ↔ WpM zt k2 [v0, v1] (g, ρ) (fun v s => Wp zt k c ls (v.toList ++ st) s Q) := wp_cl (by show (if 1000 ≤ k2 then _ else cal _ _ _) = _; rw [if_neg (show ¬ 1000 ≤ k2 by omega)]; simp only [cal]; rw [if_pos ⟨by simp only [List.length_cons]; omega, by simp only [List.length_cons]; omega, rfl⟩]; rfl)
theorem wp_cv2 {i k2 rk b : Nat} {v1 : AV} (hk : k2 < 1000) (hb : kdI ρ b rk) (hs : st.length ≤ 7) : Wp zt k ((.invokevirtual i, [k2, 2, rk]) :: c) ls (v1 :: .inr (some b) :: st) (g, ρ) Q ↔ WpM zt k2 [.inr (some b), v1] (g, ρ) (fun v s => Wp zt k c ls (v.toList ++ st) s Q) := wp_cl (by obtain ⟨N, hN⟩ := hb; simp only [eff]; simp only [cal]; rw [if_pos ⟨by simp only [List.length_cons]; omega, by simp only [List.length_cons]; omega, by show rcB (g, ρ) rk (.inr (some b) :: _) = true; simp only [rcB, shp, hN, beq_self_eq_true, Bool.or_true]⟩]; rfl)
theorem wp_ci2 {i k2 rk b : Nat} {v1 : AV} (hk : k2 < 1000) (hb : kdI ρ b rk) (hs : st.length ≤ 7) : Wp zt k ((.invokespecial i, [k2, 2, rk]) :: c) ls (v1 :: .inr (some b) :: st) (g, ρ) Q ↔ WpM zt k2 [.inr (some b), v1] (g, ρ) (fun v s => Wp zt k c ls (v.toList ++ st) s Q) := wp_cl (by obtain ⟨N, hN⟩ := hb; show (if 1000 ≤ k2 then _ else cal _ _ _) = _; rw [if_neg (show ¬ 1000 ≤ k2 by omega)]; simp only [cal]; rw [if_pos ⟨by simp only [List.length_cons]; omega, by simp only [List.length_cons]; omega, by show rcB (g, ρ) rk (.inr (some b) :: _) = true; simp only [rcB, shp, hN, beq_self_eq_true, Bool.or_true]⟩]; rfl)
theorem wp_cs3 {i k2 : Nat} {v0 v1 v2 : AV} (hk : k2 < 1000) (hs : st.length ≤ 7) : Wp zt k ((.invokestatic i, [k2, 3, 0]) :: c) ls (v2 :: v1 :: v0 :: st) (g, ρ) Q ↔ WpM zt k2 [v0, v1, v2] (g, ρ) (fun v s => Wp zt k c ls (v.toList ++ st) s Q) := wp_cl (by show (if 1000 ≤ k2 then _ else cal _ _ _) = _; rw [if_neg (show ¬ 1000 ≤ k2 by omega)]; simp only [cal]; rw [if_pos ⟨by simp only [List.length_cons]; omega, by simp only [List.length_cons]; omega, rfl⟩]; rfl)
theorem wp_cv3 {i k2 rk b : Nat} {v1 v2 : AV} (hk : k2 < 1000) (hb : kdI ρ b rk) (hs : st.length ≤ 7) : Wp zt k ((.invokevirtual i, [k2, 3, rk]) :: c) ls (v2 :: v1 :: .inr (some b) :: st) (g, ρ) Q ↔ WpM zt k2 [.inr (some b), v1, v2] (g, ρ) (fun v s => Wp zt k c ls (v.toList ++ st) s Q) := wp_cl (by obtain ⟨N, hN⟩ := hb; simp only [eff]; simp only [cal]; rw [if_pos ⟨by simp only [List.length_cons]; omega, by simp only [List.length_cons]; omega, by show rcB (g, ρ) rk (.inr (some b) :: _) = true; simp only [rcB, shp, hN, beq_self_eq_true, Bool.or_true]⟩]; rfl)
theorem wp_ci3 {i k2 rk b : Nat} {v1 v2 : AV} (hk : k2 < 1000) (hb : kdI ρ b rk) (hs : st.length ≤ 7) : Wp zt k ((.invokespecial i, [k2, 3, rk]) :: c) ls (v2 :: v1 :: .inr (some b) :: st) (g, ρ) Q ↔ WpM zt k2 [.inr (some b), v1, v2] (g, ρ) (fun v s => Wp zt k c ls (v.toList ++ st) s Q) := wp_cl (by obtain ⟨N, hN⟩ := hb; show (if 1000 ≤ k2 then _ else cal _ _ _) = _; rw [if_neg (show ¬ 1000 ≤ k2 by omega)]; simp only [cal]; rw [if_pos ⟨by simp only [List.length_cons]; omega, by simp only [List.length_cons]; omega, by show rcB (g, ρ) rk (.inr (some b) :: _) = true; simp only [rcB, shp, hN, beq_self_eq_true, Bool.or_true]⟩]; rfl)
theorem wp_cs4 {i k2 : Nat} {v0 v1 v2 v3 : AV} (hk : k2 < 1000) (hs : st.length ≤ 7) : Wp zt k ((.invokestatic i, [k2, 4, 0]) :: c) ls (v3 :: v2 :: v1 :: v0 :: st) (g, ρ) Q ↔ WpM zt k2 [v0, v1, v2, v3] (g, ρ) (fun v s => Wp zt k c ls (v.toList ++ st) s Q) := wp_cl (by show (if 1000 ≤ k2 then _ else cal _ _ _) = _; rw [if_neg (show ¬ 1000 ≤ k2 by omega)]; simp only [cal]; rw [if_pos ⟨by simp only [List.length_cons]; omega, by simp only [List.length_cons]; omega, rfl⟩]; rfl)
theorem wp_cv4 {i k2 rk b : Nat} {v1 v2 v3 : AV} (hk : k2 < 1000) (hb : kdI ρ b rk) (hs : st.length ≤ 7) : Wp zt k ((.invokevirtual i, [k2, 4, rk]) :: c) ls (v3 :: v2 :: v1 :: .inr (some b) :: st) (g, ρ) Q ↔ WpM zt k2 [.inr (some b), v1, v2, v3] (g, ρ) (fun v s => Wp zt k c ls (v.toList ++ st) s Q) := wp_cl (by obtain ⟨N, hN⟩ := hb; simp only [eff]; simp only [cal]; rw [if_pos ⟨by simp only [List.length_cons]; omega, by simp only [List.length_cons]; omega, by show rcB (g, ρ) rk (.inr (some b) :: _) = true; simp only [rcB, shp, hN, beq_self_eq_true, Bool.or_true]⟩]; rfl)
theorem wp_ci4 {i k2 rk b : Nat} {v1 v2 v3 : AV} (hk : k2 < 1000) (hb : kdI ρ b rk) (hs : st.length ≤ 7) : Wp zt k ((.invokespecial i, [k2, 4, rk]) :: c) ls (v3 :: v2 :: v1 :: .inr (some b) :: st) (g, ρ) Q ↔ WpM zt k2 [.inr (some b), v1, v2, v3] (g, ρ) (fun v s => Wp zt k c ls (v.toList ++ st) s Q) := wp_cl (by obtain ⟨N, hN⟩ := hb; show (if 1000 ≤ k2 then _ else cal _ _ _) = _; rw [if_neg (show ¬ 1000 ≤ k2 by omega)]; simp only [cal]; rw [if_pos ⟨by simp only [List.length_cons]; omega, by simp only [List.length_cons]; omega, by show rcB (g, ρ) rk (.inr (some b) :: _) = true; simp only [rcB, shp, hN, beq_self_eq_true, Bool.or_true]⟩]; rfl)
theorem wp_cs5 {i k2 : Nat} {v0 v1 v2 v3 v4 : AV} (hk : k2 < 1000) (hs : st.length ≤ 7) : Wp zt k ((.invokestatic i, [k2, 5, 0]) :: c) ls (v4 :: v3 :: v2 :: v1 :: v0 :: st) (g, ρ) Q ↔ WpM zt k2 [v0, v1, v2, v3, v4] (g, ρ) (fun v s => Wp zt k c ls (v.toList ++ st) s Q) := wp_cl (by show (if 1000 ≤ k2 then _ else cal _ _ _) = _; rw [if_neg (show ¬ 1000 ≤ k2 by omega)]; simp only [cal]; rw [if_pos ⟨by simp only [List.length_cons]; omega, by simp only [List.length_cons]; omega, rfl⟩]; rfl)
theorem wp_cv5 {i k2 rk b : Nat} {v1 v2 v3 v4 : AV} (hk : k2 < 1000) (hb : kdI ρ b rk) (hs : st.length ≤ 7) : Wp zt k ((.invokevirtual i, [k2, 5, rk]) :: c) ls (v4 :: v3 :: v2 :: v1 :: .inr (some b) :: st) (g, ρ) Q ↔ WpM zt k2 [.inr (some b), v1, v2, v3, v4] (g, ρ) (fun v s => Wp zt k c ls (v.toList ++ st) s Q) := wp_cl (by obtain ⟨N, hN⟩ := hb; simp only [eff]; simp only [cal]; rw [if_pos ⟨by simp only [List.length_cons]; omega, by simp only [List.length_cons]; omega, by show rcB (g, ρ) rk (.inr (some b) :: _) = true; simp only [rcB, shp, hN, beq_self_eq_true, Bool.or_true]⟩]; rfl)
theorem wp_ci5 {i k2 rk b : Nat} {v1 v2 v3 v4 : AV} (hk : k2 < 1000) (hb : kdI ρ b rk) (hs : st.length ≤ 7) : Wp zt k ((.invokespecial i, [k2, 5, rk]) :: c) ls (v4 :: v3 :: v2 :: v1 :: .inr (some b) :: st) (g, ρ) Q ↔ WpM zt k2 [.inr (some b), v1, v2, v3, v4] (g, ρ) (fun v s => Wp zt k c ls (v.toList ++ st) s Q) := wp_cl (by obtain ⟨N, hN⟩ := hb; show (if 1000 ≤ k2 then _ else cal _ _ _) = _; rw [if_neg (show ¬ 1000 ≤ k2 by omega)]; simp only [cal]; rw [if_pos ⟨by simp only [List.length_cons]; omega, by simp only [List.length_cons]; omega, by show rcB (g, ρ) rk (.inr (some b) :: _) = true; simp only [rcB, shp, hN, beq_self_eq_true, Bool.or_true]⟩]; rfl)
theorem wp_cs6 {i k2 : Nat} {v0 v1 v2 v3 v4 v5 : AV} (hk : k2 < 1000) (hs : st.length ≤ 7) : Wp zt k ((.invokestatic i, [k2, 6, 0]) :: c) ls (v5 :: v4 :: v3 :: v2 :: v1 :: v0 :: st) (g, ρ) Q ↔ WpM zt k2 [v0, v1, v2, v3, v4, v5] (g, ρ) (fun v s => Wp zt k c ls (v.toList ++ st) s Q) := wp_cl (by show (if 1000 ≤ k2 then _ else cal _ _ _) = _; rw [if_neg (show ¬ 1000 ≤ k2 by omega)]; simp only [cal]; rw [if_pos ⟨by simp only [List.length_cons]; omega, by simp only [List.length_cons]; omega, rfl⟩]; rfl)
theorem wp_cv6 {i k2 rk b : Nat} {v1 v2 v3 v4 v5 : AV} (hk : k2 < 1000) (hb : kdI ρ b rk) (hs : st.length ≤ 7) : Wp zt k ((.invokevirtual i, [k2, 6, rk]) :: c) ls (v5 :: v4 :: v3 :: v2 :: v1 :: .inr (some b) :: st) (g, ρ) Q ↔ WpM zt k2 [.inr (some b), v1, v2, v3, v4, v5] (g, ρ) (fun v s => Wp zt k c ls (v.toList ++ st) s Q) := wp_cl (by obtain ⟨N, hN⟩ := hb; simp only [eff]; simp only [cal]; rw [if_pos ⟨by simp only [List.length_cons]; omega, by simp only [List.length_cons]; omega, by show rcB (g, ρ) rk (.inr (some b) :: _) = true; simp only [rcB, shp, hN, beq_self_eq_true, Bool.or_true]⟩]; rfl)
theorem wp_ci6 {i k2 rk b : Nat} {v1 v2 v3 v4 v5 : AV} (hk : k2 < 1000) (hb : kdI ρ b rk) (hs : st.length ≤ 7) : Wp zt k ((.invokespecial i, [k2, 6, rk]) :: c) ls (v5 :: v4 :: v3 :: v2 :: v1 :: .inr (some b) :: st) (g, ρ) Q ↔ WpM zt k2 [.inr (some b), v1, v2, v3, v4, v5] (g, ρ) (fun v s => Wp zt k c ls (v.toList ++ st) s Q) := wp_cl (by obtain ⟨N, hN⟩ := hb; show (if 1000 ≤ k2 then _ else cal _ _ _) = _; rw [if_neg (show ¬ 1000 ≤ k2 by omega)]; simp only [cal]; rw [if_pos ⟨by simp only [List.length_cons]; omega, by simp only [List.length_cons]; omega, by show rcB (g, ρ) rk (.inr (some b) :: _) = true; simp only [rcB, shp, hN, beq_self_eq_true, Bool.or_true]⟩]; rfl)
theorem wp_cs7 {i k2 : Nat} {v0 v1 v2 v3 v4 v5 v6 : AV} (hk : k2 < 1000) (hs : st.length ≤ 7) : Wp zt k ((.invokestatic i, [k2, 7, 0]) :: c) ls (v6 :: v5 :: v4 :: v3 :: v2 :: v1 :: v0 :: st) (g, ρ) Q ↔ WpM zt k2 [v0, v1, v2, v3, v4, v5, v6] (g, ρ) (fun v s => Wp zt k c ls (v.toList ++ st) s Q) := wp_cl (by show (if 1000 ≤ k2 then _ else cal _ _ _) = _; rw [if_neg (show ¬ 1000 ≤ k2 by omega)]; simp only [cal]; rw [if_pos ⟨by simp only [List.length_cons]; omega, by simp only [List.length_cons]; omega, rfl⟩]; rfl)
theorem wp_cv7 {i k2 rk b : Nat} {v1 v2 v3 v4 v5 v6 : AV} (hk : k2 < 1000) (hb : kdI ρ b rk) (hs : st.length ≤ 7) : Wp zt k ((.invokevirtual i, [k2, 7, rk]) :: c) ls (v6 :: v5 :: v4 :: v3 :: v2 :: v1 :: .inr (some b) :: st) (g, ρ) Q ↔ WpM zt k2 [.inr (some b), v1, v2, v3, v4, v5, v6] (g, ρ) (fun v s => Wp zt k c ls (v.toList ++ st) s Q) := wp_cl (by obtain ⟨N, hN⟩ := hb; simp only [eff]; simp only [cal]; rw [if_pos ⟨by simp only [List.length_cons]; omega, by simp only [List.length_cons]; omega, by show rcB (g, ρ) rk (.inr (some b) :: _) = true; simp only [rcB, shp, hN, beq_self_eq_true, Bool.or_true]⟩]; rfl)
theorem wp_ci7 {i k2 rk b : Nat} {v1 v2 v3 v4 v5 v6 : AV} (hk : k2 < 1000) (hb : kdI ρ b rk) (hs : st.length ≤ 7) : Wp zt k ((.invokespecial i, [k2, 7, rk]) :: c) ls (v6 :: v5 :: v4 :: v3 :: v2 :: v1 :: .inr (some b) :: st) (g, ρ) Q ↔ WpM zt k2 [.inr (some b), v1, v2, v3, v4, v5, v6] (g, ρ) (fun v s => Wp zt k c ls (v.toList ++ st) s Q) := wp_cl (by obtain ⟨N, hN⟩ := hb; show (if 1000 ≤ k2 then _ else cal _ _ _) = _; rw [if_neg (show ¬ 1000 ≤ k2 by omega)]; simp only [cal]; rw [if_pos ⟨by simp only [List.length_cons]; omega, by simp only [List.length_cons]; omega, by show rcB (g, ρ) rk (.inr (some b) :: _) = true; simp only [rcB, shp, hN, beq_self_eq_true, Bool.or_true]⟩]; rfl)
end WPS
end
section
/-! LAYOUT: where the cells of an object lie (ad a j is the j-th cell behind a), as rewriting rules -/
def ad (a j : Nat) : Nat := a + j
def isSc (ρ : Ri) (a : Nat) : Prop := ρ.2.1 a = some (13, 11) ∧ ρ.2.1 (ad a 1) = some (0, 8) ∧ ρ.1 a 1 = some (ad a 1) ∧ ρ.2.1 (ad a 2) = some (0, 8) ∧ ρ.1 a 2 = some (ad a 2) ∧ ρ.2.1 (ad a 3) = some (0, 36) ∧ ρ.1 a 3 = some (ad a 3) ∧ ρ.2.1 (ad a 4) = some (0, 5) ∧ ρ.1 a 4 = some (ad a 4) ∧ ρ.2.1 (ad a 5) = some (0, 30) ∧ ρ.1 a 6 = some (ad a 5) ∧ ρ.2.1 (ad a 6) = some (0, 30) ∧ ρ.1 a 7 = some (ad a 6) ∧ ρ.2.1 (ad a 7) = some (0, 99) ∧ ρ.1 a 9 = some (ad a 7) ∧ ρ.2.1 (ad a 8) = some (0, 99) ∧ ρ.1 a 10 = some (ad a 8)
section LAYSc
variable {zt : Nat → Nat} {k : Nat} {c : List RI} {ls : LsT} {st : List AV} {g : Nat → Nat → Int} {ρ : Ri} {Q : Option AV → Sto → Prop} {x : List Nat} {a : Nat}
theorem qsc_f0 (h : isSc ρ a) : ρ.2.1 a = some (13, 11) := h.1
theorem qsc_kd (h : isSc ρ a) : kdI ρ a 13 := kdI_of (qsc_f0 h)
theorem qsc_f1 (h : isSc ρ a) : ρ.2.1 (ad a 1) = some (0, 8) := h.2.1
theorem qsc_k1 (h : isSc ρ a) : kdI ρ (ad a 1) 0 := kdI_of (qsc_f1 h)
theorem qsc_l1 (h : isSc ρ a) : lnA ρ (ad a 1) = 8 := lnA_of (qsc_f1 h)
theorem qsc_f2 (h : isSc ρ a) : ρ.1 a 1 = some (ad a 1) := h.2.2.1
theorem qsc_gf1 {i : Nat} (h : isSc ρ a) : Wp zt k ((.getfield i, [3, 1]) :: c) ls (.inr (some a) :: st) (g, ρ) Q ↔ Wp zt k c ls (.inr (some (ad a 1)) :: st) (g, ρ) Q := gf_3_1 (qsc_kd h) (qsc_f2 h)
theorem qsc_f3 (h : isSc ρ a) : ρ.2.1 (ad a 2) = some (0, 8) := h.2.2.2.1
theorem qsc_k2 (h : isSc ρ a) : kdI ρ (ad a 2) 0 := kdI_of (qsc_f3 h)
theorem qsc_l2 (h : isSc ρ a) : lnA ρ (ad a 2) = 8 := lnA_of (qsc_f3 h)
theorem qsc_f4 (h : isSc ρ a) : ρ.1 a 2 = some (ad a 2) := h.2.2.2.2.1
theorem qsc_gf2 {i : Nat} (h : isSc ρ a) : Wp zt k ((.getfield i, [3, 2]) :: c) ls (.inr (some a) :: st) (g, ρ) Q ↔ Wp zt k c ls (.inr (some (ad a 2)) :: st) (g, ρ) Q := gf_3_2 (qsc_kd h) (qsc_f4 h)
theorem qsc_f5 (h : isSc ρ a) : ρ.2.1 (ad a 3) = some (0, 36) := h.2.2.2.2.2.1
theorem qsc_k3 (h : isSc ρ a) : kdI ρ (ad a 3) 0 := kdI_of (qsc_f5 h)
theorem qsc_l3 (h : isSc ρ a) : lnA ρ (ad a 3) = 36 := lnA_of (qsc_f5 h)
theorem qsc_f6 (h : isSc ρ a) : ρ.1 a 3 = some (ad a 3) := h.2.2.2.2.2.2.1
theorem qsc_gf3 {i : Nat} (h : isSc ρ a) : Wp zt k ((.getfield i, [3, 3]) :: c) ls (.inr (some a) :: st) (g, ρ) Q ↔ Wp zt k c ls (.inr (some (ad a 3)) :: st) (g, ρ) Q := gf_3_3 (qsc_kd h) (qsc_f6 h)
theorem qsc_f7 (h : isSc ρ a) : ρ.2.1 (ad a 4) = some (0, 5) := h.2.2.2.2.2.2.2.1
theorem qsc_k4 (h : isSc ρ a) : kdI ρ (ad a 4) 0 := kdI_of (qsc_f7 h)
theorem qsc_l4 (h : isSc ρ a) : lnA ρ (ad a 4) = 5 := lnA_of (qsc_f7 h)
theorem qsc_f8 (h : isSc ρ a) : ρ.1 a 4 = some (ad a 4) := h.2.2.2.2.2.2.2.2.1
theorem qsc_gf4 {i : Nat} (h : isSc ρ a) : Wp zt k ((.getfield i, [3, 4]) :: c) ls (.inr (some a) :: st) (g, ρ) Q ↔ Wp zt k c ls (.inr (some (ad a 4)) :: st) (g, ρ) Q := gf_3_4 (qsc_kd h) (qsc_f8 h)
theorem qsc_f9 (h : isSc ρ a) : ρ.2.1 (ad a 5) = some (0, 30) := h.2.2.2.2.2.2.2.2.2.1
theorem qsc_k5 (h : isSc ρ a) : kdI ρ (ad a 5) 0 := kdI_of (qsc_f9 h)
theorem qsc_l5 (h : isSc ρ a) : lnA ρ (ad a 5) = 30 := lnA_of (qsc_f9 h)
theorem qsc_f10 (h : isSc ρ a) : ρ.1 a 6 = some (ad a 5) := h.2.2.2.2.2.2.2.2.2.2.1
theorem qsc_gf6 {i : Nat} (h : isSc ρ a) : Wp zt k ((.getfield i, [3, 6]) :: c) ls (.inr (some a) :: st) (g, ρ) Q ↔ Wp zt k c ls (.inr (some (ad a 5)) :: st) (g, ρ) Q := gf_3_6 (qsc_kd h) (qsc_f10 h)
theorem qsc_f11 (h : isSc ρ a) : ρ.2.1 (ad a 6) = some (0, 30) := h.2.2.2.2.2.2.2.2.2.2.2.1
theorem qsc_k6 (h : isSc ρ a) : kdI ρ (ad a 6) 0 := kdI_of (qsc_f11 h)
theorem qsc_l6 (h : isSc ρ a) : lnA ρ (ad a 6) = 30 := lnA_of (qsc_f11 h)
theorem qsc_f12 (h : isSc ρ a) : ρ.1 a 7 = some (ad a 6) := h.2.2.2.2.2.2.2.2.2.2.2.2.1
theorem qsc_gf7 {i : Nat} (h : isSc ρ a) : Wp zt k ((.getfield i, [3, 7]) :: c) ls (.inr (some a) :: st) (g, ρ) Q ↔ Wp zt k c ls (.inr (some (ad a 6)) :: st) (g, ρ) Q := gf_3_7 (qsc_kd h) (qsc_f12 h)
theorem qsc_f13 (h : isSc ρ a) : ρ.2.1 (ad a 7) = some (0, 99) := h.2.2.2.2.2.2.2.2.2.2.2.2.2.1
theorem qsc_k7 (h : isSc ρ a) : kdI ρ (ad a 7) 0 := kdI_of (qsc_f13 h)
theorem qsc_l7 (h : isSc ρ a) : lnA ρ (ad a 7) = 99 := lnA_of (qsc_f13 h)
theorem qsc_f14 (h : isSc ρ a) : ρ.1 a 9 = some (ad a 7) := h.2.2.2.2.2.2.2.2.2.2.2.2.2.2.1
theorem qsc_gf9 {i : Nat} (h : isSc ρ a) : Wp zt k ((.getfield i, [3, 9]) :: c) ls (.inr (some a) :: st) (g, ρ) Q ↔ Wp zt k c ls (.inr (some (ad a 7)) :: st) (g, ρ) Q := gf_3_9 (qsc_kd h) (qsc_f14 h)
theorem qsc_f15 (h : isSc ρ a) : ρ.2.1 (ad a 8) = some (0, 99) := h.2.2.2.2.2.2.2.2.2.2.2.2.2.2.2.1
theorem qsc_k8 (h : isSc ρ a) : kdI ρ (ad a 8) 0 := kdI_of (qsc_f15 h)
theorem qsc_l8 (h : isSc ρ a) : lnA ρ (ad a 8) = 99 := lnA_of (qsc_f15 h)
theorem qsc_f16 (h : isSc ρ a) : ρ.1 a 10 = some (ad a 8) := h.2.2.2.2.2.2.2.2.2.2.2.2.2.2.2.2
theorem qsc_gf10 {i : Nat} (h : isSc ρ a) : Wp zt k ((.getfield i, [3, 10]) :: c) ls (.inr (some a) :: st) (g, ρ) Q ↔ Wp zt k c ls (.inr (some (ad a 8)) :: st) (g, ρ) Q := gf_3_10 (qsc_kd h) (qsc_f16 h)
theorem qsc_gf0 {i : Nat} (h : isSc ρ a) : Wp zt k ((.getfield i, [3, 0]) :: c) ls (.inr (some a) :: st) (g, ρ) Q ↔ Wp zt k c ls (.inl (g a 0) :: st) (g, ρ) Q := gf_3_0 (qsc_kd h)
theorem qsc_pf0 {i : Nat} {v : Int} (h : isSc ρ a) : Wp zt k ((.putfield i, [3, 0]) :: c) ls (.inl v :: .inr (some a) :: st) (g, ρ) Q ↔ Wp zt k c ls st (wrI g a 0 v, ρ) Q := pf_3_0 (qsc_kd h)
theorem qsc_gf5 {i : Nat} (h : isSc ρ a) : Wp zt k ((.getfield i, [3, 5]) :: c) ls (.inr (some a) :: st) (g, ρ) Q ↔ Wp zt k c ls (.inl (g a 5) :: st) (g, ρ) Q := gf_3_5 (qsc_kd h)
theorem qsc_pf5 {i : Nat} {v : Int} (h : isSc ρ a) : Wp zt k ((.putfield i, [3, 5]) :: c) ls (.inl v :: .inr (some a) :: st) (g, ρ) Q ↔ Wp zt k c ls st (wrI g a 5 v, ρ) Q := pf_3_5 (qsc_kd h)
theorem qsc_gf8 {i : Nat} (h : isSc ρ a) : Wp zt k ((.getfield i, [3, 8]) :: c) ls (.inr (some a) :: st) (g, ρ) Q ↔ Wp zt k c ls (.inl (g a 8) :: st) (g, ρ) Q := gf_3_8 (qsc_kd h)
theorem qsc_pf8 {i : Nat} {v : Int} (h : isSc ρ a) : Wp zt k ((.putfield i, [3, 8]) :: c) ls (.inl v :: .inr (some a) :: st) (g, ρ) Q ↔ Wp zt k c ls st (wrI g a 8 v, ρ) Q := pf_3_8 (qsc_kd h)
end LAYSc
def isAr (ρ : Ri) (a : Nat) : Prop := ρ.2.1 a = some (10, 4) ∧ ρ.2.1 (ad a 1) = some (0, 99) ∧ ρ.1 a 0 = some (ad a 1) ∧ ρ.2.1 (ad a 2) = some (1, 99) ∧ ρ.1 a 1 = some (ad a 2)
section LAYAr
variable {zt : Nat → Nat} {k : Nat} {c : List RI} {ls : LsT} {st : List AV} {g : Nat → Nat → Int} {ρ : Ri} {Q : Option AV → Sto → Prop} {x : List Nat} {a : Nat}
theorem qar_f0 (h : isAr ρ a) : ρ.2.1 a = some (10, 4) := h.1
theorem qar_kd (h : isAr ρ a) : kdI ρ a 10 := kdI_of (qar_f0 h)
theorem qar_f1 (h : isAr ρ a) : ρ.2.1 (ad a 1) = some (0, 99) := h.2.1
theorem qar_k1 (h : isAr ρ a) : kdI ρ (ad a 1) 0 := kdI_of (qar_f1 h)
theorem qar_l1 (h : isAr ρ a) : lnA ρ (ad a 1) = 99 := lnA_of (qar_f1 h)
theorem qar_f2 (h : isAr ρ a) : ρ.1 a 0 = some (ad a 1) := h.2.2.1
theorem qar_gf0 {i : Nat} (h : isAr ρ a) : Wp zt k ((.getfield i, [0, 0]) :: c) ls (.inr (some a) :: st) (g, ρ) Q ↔ Wp zt k c ls (.inr (some (ad a 1)) :: st) (g, ρ) Q := gf_0_0 (qar_kd h) (qar_f2 h)
theorem qar_f3 (h : isAr ρ a) : ρ.2.1 (ad a 2) = some (1, 99) := h.2.2.2.1
theorem qar_k2 (h : isAr ρ a) : kdI ρ (ad a 2) 1 := kdI_of (qar_f3 h)
theorem qar_l2 (h : isAr ρ a) : lnA ρ (ad a 2) = 99 := lnA_of (qar_f3 h)
theorem qar_f4 (h : isAr ρ a) : ρ.1 a 1 = some (ad a 2) := h.2.2.2.2
theorem qar_gf1 {i : Nat} (h : isAr ρ a) : Wp zt k ((.getfield i, [0, 1]) :: c) ls (.inr (some a) :: st) (g, ρ) Q ↔ Wp zt k c ls (.inr (some (ad a 2)) :: st) (g, ρ) Q := gf_0_1 (qar_kd h) (qar_f4 h)
theorem qar_gf2 {i : Nat} (h : isAr ρ a) : Wp zt k ((.getfield i, [0, 2]) :: c) ls (.inr (some a) :: st) (g, ρ) Q ↔ Wp zt k c ls (.inl (g a 2) :: st) (g, ρ) Q := gf_0_2 (qar_kd h)
theorem qar_pf2 {i : Nat} {v : Int} (h : isAr ρ a) : Wp zt k ((.putfield i, [0, 2]) :: c) ls (.inl v :: .inr (some a) :: st) (g, ρ) Q ↔ Wp zt k c ls st (wrI g a 2 v, ρ) Q := pf_0_2 (qar_kd h)
theorem qar_gf3 {i : Nat} (h : isAr ρ a) : Wp zt k ((.getfield i, [0, 3]) :: c) ls (.inr (some a) :: st) (g, ρ) Q ↔ Wp zt k c ls (.inl (g a 3) :: st) (g, ρ) Q := gf_0_3 (qar_kd h)
theorem qar_pf3 {i : Nat} {v : Int} (h : isAr ρ a) : Wp zt k ((.putfield i, [0, 3]) :: c) ls (.inl v :: .inr (some a) :: st) (g, ρ) Q ↔ Wp zt k c ls st (wrI g a 3 v, ρ) Q := pf_0_3 (qar_kd h)
end LAYAr
def isPl (ρ : Ri) (a : Nat) : Prop := ρ.2.1 a = some (11, 9) ∧ ρ.2.1 (ad a 1) = some (0, 99) ∧ ρ.1 a 0 = some (ad a 1) ∧ ρ.2.1 (ad a 2) = some (0, 792) ∧ ρ.1 a 1 = some (ad a 2) ∧ ρ.2.1 (ad a 3) = some (1, 64) ∧ ρ.1 a 2 = some (ad a 3) ∧ ρ.2.1 (ad a 4) = some (0, 2376) ∧ ρ.1 a 3 = some (ad a 4) ∧ ρ.2.1 (ad a 5) = some (0, 24) ∧ ρ.1 a 4 = some (ad a 5) ∧ ρ.2.1 (ad a 6) = some (0, 24) ∧ ρ.1 a 5 = some (ad a 6)
section LAYPl
variable {zt : Nat → Nat} {k : Nat} {c : List RI} {ls : LsT} {st : List AV} {g : Nat → Nat → Int} {ρ : Ri} {Q : Option AV → Sto → Prop} {x : List Nat} {a : Nat}
theorem qpl_f0 (h : isPl ρ a) : ρ.2.1 a = some (11, 9) := h.1
theorem qpl_kd (h : isPl ρ a) : kdI ρ a 11 := kdI_of (qpl_f0 h)
theorem qpl_f1 (h : isPl ρ a) : ρ.2.1 (ad a 1) = some (0, 99) := h.2.1
theorem qpl_k1 (h : isPl ρ a) : kdI ρ (ad a 1) 0 := kdI_of (qpl_f1 h)
theorem qpl_l1 (h : isPl ρ a) : lnA ρ (ad a 1) = 99 := lnA_of (qpl_f1 h)
theorem qpl_f2 (h : isPl ρ a) : ρ.1 a 0 = some (ad a 1) := h.2.2.1
theorem qpl_gf0 {i : Nat} (h : isPl ρ a) : Wp zt k ((.getfield i, [1, 0]) :: c) ls (.inr (some a) :: st) (g, ρ) Q ↔ Wp zt k c ls (.inr (some (ad a 1)) :: st) (g, ρ) Q := gf_1_0 (qpl_kd h) (qpl_f2 h)
theorem qpl_f3 (h : isPl ρ a) : ρ.2.1 (ad a 2) = some (0, 792) := h.2.2.2.1
theorem qpl_k2 (h : isPl ρ a) : kdI ρ (ad a 2) 0 := kdI_of (qpl_f3 h)
theorem qpl_l2 (h : isPl ρ a) : lnA ρ (ad a 2) = 792 := lnA_of (qpl_f3 h)
theorem qpl_f4 (h : isPl ρ a) : ρ.1 a 1 = some (ad a 2) := h.2.2.2.2.1
theorem qpl_gf1 {i : Nat} (h : isPl ρ a) : Wp zt k ((.getfield i, [1, 1]) :: c) ls (.inr (some a) :: st) (g, ρ) Q ↔ Wp zt k c ls (.inr (some (ad a 2)) :: st) (g, ρ) Q := gf_1_1 (qpl_kd h) (qpl_f4 h)
theorem qpl_f5 (h : isPl ρ a) : ρ.2.1 (ad a 3) = some (1, 64) := h.2.2.2.2.2.1
theorem qpl_k3 (h : isPl ρ a) : kdI ρ (ad a 3) 1 := kdI_of (qpl_f5 h)
theorem qpl_l3 (h : isPl ρ a) : lnA ρ (ad a 3) = 64 := lnA_of (qpl_f5 h)
theorem qpl_f6 (h : isPl ρ a) : ρ.1 a 2 = some (ad a 3) := h.2.2.2.2.2.2.1
theorem qpl_gf2 {i : Nat} (h : isPl ρ a) : Wp zt k ((.getfield i, [1, 2]) :: c) ls (.inr (some a) :: st) (g, ρ) Q ↔ Wp zt k c ls (.inr (some (ad a 3)) :: st) (g, ρ) Q := gf_1_2 (qpl_kd h) (qpl_f6 h)
theorem qpl_f7 (h : isPl ρ a) : ρ.2.1 (ad a 4) = some (0, 2376) := h.2.2.2.2.2.2.2.1
theorem qpl_k4 (h : isPl ρ a) : kdI ρ (ad a 4) 0 := kdI_of (qpl_f7 h)
theorem qpl_l4 (h : isPl ρ a) : lnA ρ (ad a 4) = 2376 := lnA_of (qpl_f7 h)
theorem qpl_f8 (h : isPl ρ a) : ρ.1 a 3 = some (ad a 4) := h.2.2.2.2.2.2.2.2.1
theorem qpl_gf3 {i : Nat} (h : isPl ρ a) : Wp zt k ((.getfield i, [1, 3]) :: c) ls (.inr (some a) :: st) (g, ρ) Q ↔ Wp zt k c ls (.inr (some (ad a 4)) :: st) (g, ρ) Q := gf_1_3 (qpl_kd h) (qpl_f8 h)
theorem qpl_f9 (h : isPl ρ a) : ρ.2.1 (ad a 5) = some (0, 24) := h.2.2.2.2.2.2.2.2.2.1
theorem qpl_k5 (h : isPl ρ a) : kdI ρ (ad a 5) 0 := kdI_of (qpl_f9 h)
theorem qpl_l5 (h : isPl ρ a) : lnA ρ (ad a 5) = 24 := lnA_of (qpl_f9 h)
theorem qpl_f10 (h : isPl ρ a) : ρ.1 a 4 = some (ad a 5) := h.2.2.2.2.2.2.2.2.2.2.1
theorem qpl_gf4 {i : Nat} (h : isPl ρ a) : Wp zt k ((.getfield i, [1, 4]) :: c) ls (.inr (some a) :: st) (g, ρ) Q ↔ Wp zt k c ls (.inr (some (ad a 5)) :: st) (g, ρ) Q := gf_1_4 (qpl_kd h) (qpl_f10 h)
theorem qpl_f11 (h : isPl ρ a) : ρ.2.1 (ad a 6) = some (0, 24) := h.2.2.2.2.2.2.2.2.2.2.2.1
theorem qpl_k6 (h : isPl ρ a) : kdI ρ (ad a 6) 0 := kdI_of (qpl_f11 h)
theorem qpl_l6 (h : isPl ρ a) : lnA ρ (ad a 6) = 24 := lnA_of (qpl_f11 h)
theorem qpl_f12 (h : isPl ρ a) : ρ.1 a 5 = some (ad a 6) := h.2.2.2.2.2.2.2.2.2.2.2.2
theorem qpl_gf5 {i : Nat} (h : isPl ρ a) : Wp zt k ((.getfield i, [1, 5]) :: c) ls (.inr (some a) :: st) (g, ρ) Q ↔ Wp zt k c ls (.inr (some (ad a 6)) :: st) (g, ρ) Q := gf_1_5 (qpl_kd h) (qpl_f12 h)
theorem qpl_gf6 {i : Nat} (h : isPl ρ a) : Wp zt k ((.getfield i, [1, 6]) :: c) ls (.inr (some a) :: st) (g, ρ) Q ↔ Wp zt k c ls (.inl (g a 6) :: st) (g, ρ) Q := gf_1_6 (qpl_kd h)
theorem qpl_pf6 {i : Nat} {v : Int} (h : isPl ρ a) : Wp zt k ((.putfield i, [1, 6]) :: c) ls (.inl v :: .inr (some a) :: st) (g, ρ) Q ↔ Wp zt k c ls st (wrI g a 6 v, ρ) Q := pf_1_6 (qpl_kd h)
theorem qpl_gf7 {i : Nat} (h : isPl ρ a) : Wp zt k ((.getfield i, [1, 7]) :: c) ls (.inr (some a) :: st) (g, ρ) Q ↔ Wp zt k c ls (.inl (g a 7) :: st) (g, ρ) Q := gf_1_7 (qpl_kd h)
theorem qpl_pf7 {i : Nat} {v : Int} (h : isPl ρ a) : Wp zt k ((.putfield i, [1, 7]) :: c) ls (.inl v :: .inr (some a) :: st) (g, ρ) Q ↔ Wp zt k c ls st (wrI g a 7 v, ρ) Q := pf_1_7 (qpl_kd h)
theorem qpl_gf8 {i : Nat} (h : isPl ρ a) : Wp zt k ((.getfield i, [1, 8]) :: c) ls (.inr (some a) :: st) (g, ρ) Q ↔ Wp zt k c ls (.inl (g a 8) :: st) (g, ρ) Q := gf_1_8 (qpl_kd h)
theorem qpl_pf8 {i : Nat} {v : Int} (h : isPl ρ a) : Wp zt k ((.putfield i, [1, 8]) :: c) ls (.inl v :: .inr (some a) :: st) (g, ρ) Q ↔ Wp zt k c ls st (wrI g a 8 v, ρ) Q := pf_1_8 (qpl_kd h)
end LAYPl
def isRd (ρ : Ri) (a : Nat) : Prop := ρ.2.1 a = some (12, 4)
section LAYRd
variable {zt : Nat → Nat} {k : Nat} {c : List RI} {ls : LsT} {st : List AV} {g : Nat → Nat → Int} {ρ : Ri} {Q : Option AV → Sto → Prop} {x : List Nat} {a : Nat}
theorem qrd_f0 (h : isRd ρ a) : ρ.2.1 a = some (12, 4) := h
theorem qrd_kd (h : isRd ρ a) : kdI ρ a 12 := kdI_of (qrd_f0 h)
theorem qrd_gf0 {i : Nat} (h : isRd ρ a) : Wp zt k ((.getfield i, [2, 0]) :: c) ls (.inr (some a) :: st) (g, ρ) Q ↔ Wp zt k c ls (.inl (g a 0) :: st) (g, ρ) Q := gf_2_0 (qrd_kd h)
theorem qrd_pf0 {i : Nat} {v : Int} (h : isRd ρ a) : Wp zt k ((.putfield i, [2, 0]) :: c) ls (.inl v :: .inr (some a) :: st) (g, ρ) Q ↔ Wp zt k c ls st (wrI g a 0 v, ρ) Q := pf_2_0 (qrd_kd h)
theorem qrd_gf2 {i : Nat} (h : isRd ρ a) : Wp zt k ((.getfield i, [2, 2]) :: c) ls (.inr (some a) :: st) (g, ρ) Q ↔ Wp zt k c ls (.inl (g a 2) :: st) (g, ρ) Q := gf_2_2 (qrd_kd h)
theorem qrd_pf2 {i : Nat} {v : Int} (h : isRd ρ a) : Wp zt k ((.putfield i, [2, 2]) :: c) ls (.inl v :: .inr (some a) :: st) (g, ρ) Q ↔ Wp zt k c ls st (wrI g a 2 v, ρ) Q := pf_2_2 (qrd_kd h)
theorem qrd_gf3 {i : Nat} (h : isRd ρ a) : Wp zt k ((.getfield i, [2, 3]) :: c) ls (.inr (some a) :: st) (g, ρ) Q ↔ Wp zt k c ls (.inl (g a 3) :: st) (g, ρ) Q := gf_2_3 (qrd_kd h)
theorem qrd_pf3 {i : Nat} {v : Int} (h : isRd ρ a) : Wp zt k ((.putfield i, [2, 3]) :: c) ls (.inl v :: .inr (some a) :: st) (g, ρ) Q ↔ Wp zt k c ls st (wrI g a 3 v, ρ) Q := pf_2_3 (qrd_kd h)
end LAYRd
def isSt (ρ : Ri) (a : Nat) : Prop := ρ.2.1 a = some (14, 3) ∧ ρ.1 a 0 = some (ad a 1) ∧ ρ.2.1 (ad a 10) = some (3, 2) ∧ ρ.1 a 1 = some (ad a 10) ∧ ρ.2.1 (ad a 29) = some (1, 2) ∧ ρ.1 a 2 = some (ad a 29)
section LAYSt
variable {zt : Nat → Nat} {k : Nat} {c : List RI} {ls : LsT} {st : List AV} {g : Nat → Nat → Int} {ρ : Ri} {Q : Option AV → Sto → Prop} {x : List Nat} {a : Nat}
theorem qst_f0 (h : isSt ρ a) : ρ.2.1 a = some (14, 3) := h.1
theorem qst_kd (h : isSt ρ a) : kdI ρ a 14 := kdI_of (qst_f0 h)
theorem qst_f1 (h : isSt ρ a) : ρ.1 a 0 = some (ad a 1) := h.2.1
theorem qst_gf0 {i : Nat} (h : isSt ρ a) : Wp zt k ((.getfield i, [4, 0]) :: c) ls (.inr (some a) :: st) (g, ρ) Q ↔ Wp zt k c ls (.inr (some (ad a 1)) :: st) (g, ρ) Q := gf_4_0 (qst_kd h) (qst_f1 h)
theorem qst_f2 (h : isSt ρ a) : ρ.2.1 (ad a 10) = some (3, 2) := h.2.2.1
theorem qst_k10 (h : isSt ρ a) : kdI ρ (ad a 10) 3 := kdI_of (qst_f2 h)
theorem qst_l10 (h : isSt ρ a) : lnA ρ (ad a 10) = 2 := lnA_of (qst_f2 h)
theorem qst_f3 (h : isSt ρ a) : ρ.1 a 1 = some (ad a 10) := h.2.2.2.1
theorem qst_gf1 {i : Nat} (h : isSt ρ a) : Wp zt k ((.getfield i, [4, 1]) :: c) ls (.inr (some a) :: st) (g, ρ) Q ↔ Wp zt k c ls (.inr (some (ad a 10)) :: st) (g, ρ) Q := gf_4_1 (qst_kd h) (qst_f3 h)
theorem qst_f4 (h : isSt ρ a) : ρ.2.1 (ad a 29) = some (1, 2) := h.2.2.2.2.1
theorem qst_k29 (h : isSt ρ a) : kdI ρ (ad a 29) 1 := kdI_of (qst_f4 h)
theorem qst_l29 (h : isSt ρ a) : lnA ρ (ad a 29) = 2 := lnA_of (qst_f4 h)
theorem qst_f5 (h : isSt ρ a) : ρ.1 a 2 = some (ad a 29) := h.2.2.2.2.2
theorem qst_gf2 {i : Nat} (h : isSt ρ a) : Wp zt k ((.getfield i, [4, 2]) :: c) ls (.inr (some a) :: st) (g, ρ) Q ↔ Wp zt k c ls (.inr (some (ad a 29)) :: st) (g, ρ) Q := gf_4_2 (qst_kd h) (qst_f5 h)
end LAYSt
def isLf (ρ : Ri) (a : Nat) : Prop := ρ.2.1 a = some (15, 9) ∧ ρ.1 a 0 = some (ad a 1) ∧ ρ.2.1 (ad a 31) = some (2, 5) ∧ ρ.1 a 1 = some (ad a 31) ∧ ρ.1 a 3 = some (ad a 182) ∧ ρ.1 a 4 = some (ad a 191) ∧ ρ.1 a 5 = some (ad a 194) ∧ ρ.1 a 6 = some (ad a 201) ∧ ρ.2.1 (ad a 203) = some (0, 120) ∧ ρ.1 a 7 = some (ad a 203)
section LAYLf
variable {zt : Nat → Nat} {k : Nat} {c : List RI} {ls : LsT} {st : List AV} {g : Nat → Nat → Int} {ρ : Ri} {Q : Option AV → Sto → Prop} {x : List Nat} {a : Nat}
theorem qlf_f0 (h : isLf ρ a) : ρ.2.1 a = some (15, 9) := h.1
theorem qlf_kd (h : isLf ρ a) : kdI ρ a 15 := kdI_of (qlf_f0 h)
theorem qlf_f1 (h : isLf ρ a) : ρ.1 a 0 = some (ad a 1) := h.2.1
theorem qlf_gf0 {i : Nat} (h : isLf ρ a) : Wp zt k ((.getfield i, [5, 0]) :: c) ls (.inr (some a) :: st) (g, ρ) Q ↔ Wp zt k c ls (.inr (some (ad a 1)) :: st) (g, ρ) Q := gf_5_0 (qlf_kd h) (qlf_f1 h)
theorem qlf_f2 (h : isLf ρ a) : ρ.2.1 (ad a 31) = some (2, 5) := h.2.2.1
theorem qlf_k31 (h : isLf ρ a) : kdI ρ (ad a 31) 2 := kdI_of (qlf_f2 h)
theorem qlf_l31 (h : isLf ρ a) : lnA ρ (ad a 31) = 5 := lnA_of (qlf_f2 h)
theorem qlf_f3 (h : isLf ρ a) : ρ.1 a 1 = some (ad a 31) := h.2.2.2.1
theorem qlf_gf1 {i : Nat} (h : isLf ρ a) : Wp zt k ((.getfield i, [5, 1]) :: c) ls (.inr (some a) :: st) (g, ρ) Q ↔ Wp zt k c ls (.inr (some (ad a 31)) :: st) (g, ρ) Q := gf_5_1 (qlf_kd h) (qlf_f3 h)
theorem qlf_f4 (h : isLf ρ a) : ρ.1 a 3 = some (ad a 182) := h.2.2.2.2.1
theorem qlf_gf3 {i : Nat} (h : isLf ρ a) : Wp zt k ((.getfield i, [5, 3]) :: c) ls (.inr (some a) :: st) (g, ρ) Q ↔ Wp zt k c ls (.inr (some (ad a 182)) :: st) (g, ρ) Q := gf_5_3 (qlf_kd h) (qlf_f4 h)
theorem qlf_f5 (h : isLf ρ a) : ρ.1 a 4 = some (ad a 191) := h.2.2.2.2.2.1
theorem qlf_gf4 {i : Nat} (h : isLf ρ a) : Wp zt k ((.getfield i, [5, 4]) :: c) ls (.inr (some a) :: st) (g, ρ) Q ↔ Wp zt k c ls (.inr (some (ad a 191)) :: st) (g, ρ) Q := gf_5_4 (qlf_kd h) (qlf_f5 h)
theorem qlf_f6 (h : isLf ρ a) : ρ.1 a 5 = some (ad a 194) := h.2.2.2.2.2.2.1
theorem qlf_gf5 {i : Nat} (h : isLf ρ a) : Wp zt k ((.getfield i, [5, 5]) :: c) ls (.inr (some a) :: st) (g, ρ) Q ↔ Wp zt k c ls (.inr (some (ad a 194)) :: st) (g, ρ) Q := gf_5_5 (qlf_kd h) (qlf_f6 h)
theorem qlf_f7 (h : isLf ρ a) : ρ.1 a 6 = some (ad a 201) := h.2.2.2.2.2.2.2.1
theorem qlf_gf6 {i : Nat} (h : isLf ρ a) : Wp zt k ((.getfield i, [5, 6]) :: c) ls (.inr (some a) :: st) (g, ρ) Q ↔ Wp zt k c ls (.inr (some (ad a 201)) :: st) (g, ρ) Q := gf_5_6 (qlf_kd h) (qlf_f7 h)
theorem qlf_f8 (h : isLf ρ a) : ρ.2.1 (ad a 203) = some (0, 120) := h.2.2.2.2.2.2.2.2.1
theorem qlf_k203 (h : isLf ρ a) : kdI ρ (ad a 203) 0 := kdI_of (qlf_f8 h)
theorem qlf_l203 (h : isLf ρ a) : lnA ρ (ad a 203) = 120 := lnA_of (qlf_f8 h)
theorem qlf_f9 (h : isLf ρ a) : ρ.1 a 7 = some (ad a 203) := h.2.2.2.2.2.2.2.2.2
theorem qlf_gf7 {i : Nat} (h : isLf ρ a) : Wp zt k ((.getfield i, [5, 7]) :: c) ls (.inr (some a) :: st) (g, ρ) Q ↔ Wp zt k c ls (.inr (some (ad a 203)) :: st) (g, ρ) Q := gf_5_7 (qlf_kd h) (qlf_f9 h)
theorem qlf_gf2 {i : Nat} (h : isLf ρ a) : Wp zt k ((.getfield i, [5, 2]) :: c) ls (.inr (some a) :: st) (g, ρ) Q ↔ Wp zt k c ls (.inl (g a 2) :: st) (g, ρ) Q := gf_5_2 (qlf_kd h)
theorem qlf_pf2 {i : Nat} {v : Int} (h : isLf ρ a) : Wp zt k ((.putfield i, [5, 2]) :: c) ls (.inl v :: .inr (some a) :: st) (g, ρ) Q ↔ Wp zt k c ls st (wrI g a 2 v, ρ) Q := pf_5_2 (qlf_kd h)
theorem qlf_gf8 {i : Nat} (h : isLf ρ a) : Wp zt k ((.getfield i, [5, 8]) :: c) ls (.inr (some a) :: st) (g, ρ) Q ↔ Wp zt k c ls (.inl (g a 8) :: st) (g, ρ) Q := gf_5_8 (qlf_kd h)
theorem qlf_pf8 {i : Nat} {v : Int} (h : isLf ρ a) : Wp zt k ((.putfield i, [5, 8]) :: c) ls (.inl v :: .inr (some a) :: st) (g, ρ) Q ↔ Wp zt k c ls st (wrI g a 8 v, ρ) Q := pf_5_8 (qlf_kd h)
end LAYLf
def isMd (ρ : Ri) (a : Nat) : Prop := ρ.2.1 a = some (16, 13) ∧ ρ.2.1 (ad a 1) = some (0, 953) ∧ ρ.1 a 0 = some (ad a 1) ∧ ρ.2.1 (ad a 2) = some (0, 953) ∧ ρ.1 a 1 = some (ad a 2) ∧ ρ.2.1 (ad a 3) = some (0, 4765) ∧ ρ.1 a 2 = some (ad a 3) ∧ ρ.2.1 (ad a 4) = some (0, 120) ∧ ρ.1 a 4 = some (ad a 4) ∧ ρ.2.1 (ad a 5) = some (0, 99) ∧ ρ.1 a 6 = some (ad a 5) ∧ ρ.2.1 (ad a 6) = some (1, 99) ∧ ρ.1 a 7 = some (ad a 6) ∧ ρ.2.1 (ad a 7) = some (0, 2376) ∧ ρ.1 a 10 = some (ad a 7) ∧ ρ.2.1 (ad a 8) = some (0, 99) ∧ ρ.1 a 11 = some (ad a 8) ∧ ρ.2.1 (ad a 9) = some (0, 99) ∧ ρ.1 a 12 = some (ad a 9)
section LAYMd
variable {zt : Nat → Nat} {k : Nat} {c : List RI} {ls : LsT} {st : List AV} {g : Nat → Nat → Int} {ρ : Ri} {Q : Option AV → Sto → Prop} {x : List Nat} {a : Nat}
theorem qmd_f0 (h : isMd ρ a) : ρ.2.1 a = some (16, 13) := h.1
theorem qmd_kd (h : isMd ρ a) : kdI ρ a 16 := kdI_of (qmd_f0 h)
theorem qmd_f1 (h : isMd ρ a) : ρ.2.1 (ad a 1) = some (0, 953) := h.2.1
theorem qmd_k1 (h : isMd ρ a) : kdI ρ (ad a 1) 0 := kdI_of (qmd_f1 h)
theorem qmd_l1 (h : isMd ρ a) : lnA ρ (ad a 1) = 953 := lnA_of (qmd_f1 h)
theorem qmd_f2 (h : isMd ρ a) : ρ.1 a 0 = some (ad a 1) := h.2.2.1
theorem qmd_gf0 {i : Nat} (h : isMd ρ a) : Wp zt k ((.getfield i, [6, 0]) :: c) ls (.inr (some a) :: st) (g, ρ) Q ↔ Wp zt k c ls (.inr (some (ad a 1)) :: st) (g, ρ) Q := gf_6_0 (qmd_kd h) (qmd_f2 h)
theorem qmd_f3 (h : isMd ρ a) : ρ.2.1 (ad a 2) = some (0, 953) := h.2.2.2.1
theorem qmd_k2 (h : isMd ρ a) : kdI ρ (ad a 2) 0 := kdI_of (qmd_f3 h)
theorem qmd_l2 (h : isMd ρ a) : lnA ρ (ad a 2) = 953 := lnA_of (qmd_f3 h)
theorem qmd_f4 (h : isMd ρ a) : ρ.1 a 1 = some (ad a 2) := h.2.2.2.2.1
theorem qmd_gf1 {i : Nat} (h : isMd ρ a) : Wp zt k ((.getfield i, [6, 1]) :: c) ls (.inr (some a) :: st) (g, ρ) Q ↔ Wp zt k c ls (.inr (some (ad a 2)) :: st) (g, ρ) Q := gf_6_1 (qmd_kd h) (qmd_f4 h)
theorem qmd_f5 (h : isMd ρ a) : ρ.2.1 (ad a 3) = some (0, 4765) := h.2.2.2.2.2.1
theorem qmd_k3 (h : isMd ρ a) : kdI ρ (ad a 3) 0 := kdI_of (qmd_f5 h)
theorem qmd_l3 (h : isMd ρ a) : lnA ρ (ad a 3) = 4765 := lnA_of (qmd_f5 h)
theorem qmd_f6 (h : isMd ρ a) : ρ.1 a 2 = some (ad a 3) := h.2.2.2.2.2.2.1
theorem qmd_gf2 {i : Nat} (h : isMd ρ a) : Wp zt k ((.getfield i, [6, 2]) :: c) ls (.inr (some a) :: st) (g, ρ) Q ↔ Wp zt k c ls (.inr (some (ad a 3)) :: st) (g, ρ) Q := gf_6_2 (qmd_kd h) (qmd_f6 h)
theorem qmd_f7 (h : isMd ρ a) : ρ.2.1 (ad a 4) = some (0, 120) := h.2.2.2.2.2.2.2.1
theorem qmd_k4 (h : isMd ρ a) : kdI ρ (ad a 4) 0 := kdI_of (qmd_f7 h)
theorem qmd_l4 (h : isMd ρ a) : lnA ρ (ad a 4) = 120 := lnA_of (qmd_f7 h)
theorem qmd_f8 (h : isMd ρ a) : ρ.1 a 4 = some (ad a 4) := h.2.2.2.2.2.2.2.2.1
theorem qmd_gf4 {i : Nat} (h : isMd ρ a) : Wp zt k ((.getfield i, [6, 4]) :: c) ls (.inr (some a) :: st) (g, ρ) Q ↔ Wp zt k c ls (.inr (some (ad a 4)) :: st) (g, ρ) Q := gf_6_4 (qmd_kd h) (qmd_f8 h)
theorem qmd_f9 (h : isMd ρ a) : ρ.2.1 (ad a 5) = some (0, 99) := h.2.2.2.2.2.2.2.2.2.1
theorem qmd_k5 (h : isMd ρ a) : kdI ρ (ad a 5) 0 := kdI_of (qmd_f9 h)
theorem qmd_l5 (h : isMd ρ a) : lnA ρ (ad a 5) = 99 := lnA_of (qmd_f9 h)
theorem qmd_f10 (h : isMd ρ a) : ρ.1 a 6 = some (ad a 5) := h.2.2.2.2.2.2.2.2.2.2.1
theorem qmd_gf6 {i : Nat} (h : isMd ρ a) : Wp zt k ((.getfield i, [6, 6]) :: c) ls (.inr (some a) :: st) (g, ρ) Q ↔ Wp zt k c ls (.inr (some (ad a 5)) :: st) (g, ρ) Q := gf_6_6 (qmd_kd h) (qmd_f10 h)
theorem qmd_f11 (h : isMd ρ a) : ρ.2.1 (ad a 6) = some (1, 99) := h.2.2.2.2.2.2.2.2.2.2.2.1
theorem qmd_k6 (h : isMd ρ a) : kdI ρ (ad a 6) 1 := kdI_of (qmd_f11 h)
theorem qmd_l6 (h : isMd ρ a) : lnA ρ (ad a 6) = 99 := lnA_of (qmd_f11 h)
theorem qmd_f12 (h : isMd ρ a) : ρ.1 a 7 = some (ad a 6) := h.2.2.2.2.2.2.2.2.2.2.2.2.1
theorem qmd_gf7 {i : Nat} (h : isMd ρ a) : Wp zt k ((.getfield i, [6, 7]) :: c) ls (.inr (some a) :: st) (g, ρ) Q ↔ Wp zt k c ls (.inr (some (ad a 6)) :: st) (g, ρ) Q := gf_6_7 (qmd_kd h) (qmd_f12 h)
theorem qmd_f13 (h : isMd ρ a) : ρ.2.1 (ad a 7) = some (0, 2376) := h.2.2.2.2.2.2.2.2.2.2.2.2.2.1
theorem qmd_k7 (h : isMd ρ a) : kdI ρ (ad a 7) 0 := kdI_of (qmd_f13 h)
theorem qmd_l7 (h : isMd ρ a) : lnA ρ (ad a 7) = 2376 := lnA_of (qmd_f13 h)
theorem qmd_f14 (h : isMd ρ a) : ρ.1 a 10 = some (ad a 7) := h.2.2.2.2.2.2.2.2.2.2.2.2.2.2.1
theorem qmd_gf10 {i : Nat} (h : isMd ρ a) : Wp zt k ((.getfield i, [6, 10]) :: c) ls (.inr (some a) :: st) (g, ρ) Q ↔ Wp zt k c ls (.inr (some (ad a 7)) :: st) (g, ρ) Q := gf_6_10 (qmd_kd h) (qmd_f14 h)
theorem qmd_f15 (h : isMd ρ a) : ρ.2.1 (ad a 8) = some (0, 99) := h.2.2.2.2.2.2.2.2.2.2.2.2.2.2.2.1
theorem qmd_k8 (h : isMd ρ a) : kdI ρ (ad a 8) 0 := kdI_of (qmd_f15 h)
theorem qmd_l8 (h : isMd ρ a) : lnA ρ (ad a 8) = 99 := lnA_of (qmd_f15 h)
theorem qmd_f16 (h : isMd ρ a) : ρ.1 a 11 = some (ad a 8) := h.2.2.2.2.2.2.2.2.2.2.2.2.2.2.2.2.1
theorem qmd_gf11 {i : Nat} (h : isMd ρ a) : Wp zt k ((.getfield i, [6, 11]) :: c) ls (.inr (some a) :: st) (g, ρ) Q ↔ Wp zt k c ls (.inr (some (ad a 8)) :: st) (g, ρ) Q := gf_6_11 (qmd_kd h) (qmd_f16 h)
theorem qmd_f17 (h : isMd ρ a) : ρ.2.1 (ad a 9) = some (0, 99) := h.2.2.2.2.2.2.2.2.2.2.2.2.2.2.2.2.2.1
theorem qmd_k9 (h : isMd ρ a) : kdI ρ (ad a 9) 0 := kdI_of (qmd_f17 h)
theorem qmd_l9 (h : isMd ρ a) : lnA ρ (ad a 9) = 99 := lnA_of (qmd_f17 h)
theorem qmd_f18 (h : isMd ρ a) : ρ.1 a 12 = some (ad a 9) := h.2.2.2.2.2.2.2.2.2.2.2.2.2.2.2.2.2.2
theorem qmd_gf12 {i : Nat} (h : isMd ρ a) : Wp zt k ((.getfield i, [6, 12]) :: c) ls (.inr (some a) :: st) (g, ρ) Q ↔ Wp zt k c ls (.inr (some (ad a 9)) :: st) (g, ρ) Q := gf_6_12 (qmd_kd h) (qmd_f18 h)
theorem qmd_gf3 {i : Nat} (h : isMd ρ a) : Wp zt k ((.getfield i, [6, 3]) :: c) ls (.inr (some a) :: st) (g, ρ) Q ↔ Wp zt k c ls (.inl (g a 3) :: st) (g, ρ) Q := gf_6_3 (qmd_kd h)
theorem qmd_pf3 {i : Nat} {v : Int} (h : isMd ρ a) : Wp zt k ((.putfield i, [6, 3]) :: c) ls (.inl v :: .inr (some a) :: st) (g, ρ) Q ↔ Wp zt k c ls st (wrI g a 3 v, ρ) Q := pf_6_3 (qmd_kd h)
theorem qmd_gf5 {i : Nat} (h : isMd ρ a) : Wp zt k ((.getfield i, [6, 5]) :: c) ls (.inr (some a) :: st) (g, ρ) Q ↔ Wp zt k c ls (.inl (g a 5) :: st) (g, ρ) Q := gf_6_5 (qmd_kd h)
theorem qmd_pf5 {i : Nat} {v : Int} (h : isMd ρ a) : Wp zt k ((.putfield i, [6, 5]) :: c) ls (.inl v :: .inr (some a) :: st) (g, ρ) Q ↔ Wp zt k c ls st (wrI g a 5 v, ρ) Q := pf_6_5 (qmd_kd h)
theorem qmd_gf8 {i : Nat} (h : isMd ρ a) : Wp zt k ((.getfield i, [6, 8]) :: c) ls (.inr (some a) :: st) (g, ρ) Q ↔ Wp zt k c ls (.inl (g a 8) :: st) (g, ρ) Q := gf_6_8 (qmd_kd h)
theorem qmd_pf8 {i : Nat} {v : Int} (h : isMd ρ a) : Wp zt k ((.putfield i, [6, 8]) :: c) ls (.inl v :: .inr (some a) :: st) (g, ρ) Q ↔ Wp zt k c ls st (wrI g a 8 v, ρ) Q := pf_6_8 (qmd_kd h)
theorem qmd_gf9 {i : Nat} (h : isMd ρ a) : Wp zt k ((.getfield i, [6, 9]) :: c) ls (.inr (some a) :: st) (g, ρ) Q ↔ Wp zt k c ls (.inl (g a 9) :: st) (g, ρ) Q := gf_6_9 (qmd_kd h)
theorem qmd_pf9 {i : Nat} {v : Int} (h : isMd ρ a) : Wp zt k ((.putfield i, [6, 9]) :: c) ls (.inl v :: .inr (some a) :: st) (g, ρ) Q ↔ Wp zt k c ls st (wrI g a 9 v, ρ) Q := pf_6_9 (qmd_kd h)
end LAYMd
end
section
/-! ENTRIES -/
section ENT
variable {zt : Nat → Nat} {σ : Sto} {Q : Option AV → Sto → Prop}
theorem m_A_init {v0 : AV} : WpM zt 0 [v0] σ Q ↔ Wp zt 0 b_A_init_0 [some v0] [] σ Q := Iff.rfl
theorem m_A_follow {v0 v1 : AV} : WpM zt 1 [v0, v1] σ Q ↔ Wp zt 1 b_A_follow_0 [some v0, some v1, none, none, none, none, none] [] σ Q := Iff.rfl
theorem m_A_changeIn {v0 v1 : AV} : WpM zt 2 [v0, v1] σ Q ↔ Wp zt 2 b_A_changeIn_0 [some v0, some v1] [] σ Q := Iff.rfl
theorem m_P_init {v0 : AV} : WpM zt 3 [v0] σ Q ↔ Wp zt 3 b_P_init_0 [some v0] [] σ Q := Iff.rfl
theorem m_P_prepare {v0 v1 : AV} : WpM zt 4 [v0, v1] σ Q ↔ Wp zt 4 b_P_prepare_0 [some v0, some v1, none, none, none] [] σ Q := Iff.rfl
theorem m_P_fillCosts {v0 v1 v2 v3 : AV} : WpM zt 5 [v0, v1, v2, v3] σ Q ↔ Wp zt 5 b_P_fillCosts_0 [some v0, some v1, some v2, some v3, none] [] σ Q := Iff.rfl
theorem m_P_useSpeed {v0 v1 v2 : AV} : WpM zt 6 [v0, v1, v2] σ Q ↔ Wp zt 6 b_P_useSpeed_0 [some v0, some v1, some v2, none, none] [] σ Q := Iff.rfl
theorem m_P_barOthers {v0 v1 v2 : AV} : WpM zt 7 [v0, v1, v2] σ Q ↔ Wp zt 7 b_P_barOthers_0 [some v0, some v1, some v2, none] [] σ Q := Iff.rfl
theorem m_P_leastFromEnd {v0 : AV} : WpM zt 8 [v0] σ Q ↔ Wp zt 8 b_P_leastFromEnd_0 [some v0, none, none] [] σ Q := Iff.rfl
theorem m_P_fillRest {v0 v1 v2 : AV} : WpM zt 9 [v0, v1, v2] σ Q ↔ Wp zt 9 b_P_fillRest_0 [some v0, some v1, some v2, none, none, none, none] [] σ Q := Iff.rfl
theorem m_P_leastOfLeaving {v0 v1 v2 : AV} : WpM zt 10 [v0, v1, v2] σ Q ↔ Wp zt 10 b_P_leastOfLeaving_0 [some v0, some v1, some v2, none, none] [] σ Q := Iff.rfl
theorem m_P_longer {v0 v1 : AV} : WpM zt 11 [v0, v1] σ Q ↔ Wp zt 11 b_P_longer_0 [some v0, some v1] [] σ Q := Iff.rfl
theorem m_P_leastFromStart {v0 : AV} : WpM zt 12 [v0] σ Q ↔ Wp zt 12 b_P_leastFromStart_0 [some v0, none, none, none] [] σ Q := Iff.rfl
theorem m_P_fillHere {v0 v1 v2 : AV} : WpM zt 13 [v0, v1, v2] σ Q ↔ Wp zt 13 b_P_fillHere_0 [some v0, some v1, some v2, none, none, none] [] σ Q := Iff.rfl
theorem m_P_leastOfEntering {v0 v1 : AV} : WpM zt 14 [v0, v1] σ Q ↔ Wp zt 14 b_P_leastOfEntering_0 [some v0, some v1, none, none] [] σ Q := Iff.rfl
theorem m_P_choose {v0 : AV} : WpM zt 15 [v0] σ Q ↔ Wp zt 15 b_P_choose_0 [some v0, none, none] [] σ Q := Iff.rfl
theorem m_P_bestFirst {v0 : AV} : WpM zt 16 [v0] σ Q ↔ Wp zt 16 b_P_bestFirst_0 [some v0, none, none] [] σ Q := Iff.rfl
theorem m_P_bestNext {v0 v1 v2 v3 : AV} : WpM zt 17 [v0, v1, v2, v3] σ Q ↔ Wp zt 17 b_P_bestNext_0 [some v0, some v1, some v2, some v3, none, none, none, none] [] σ Q := Iff.rfl
theorem m_R_init {v0 : AV} : WpM zt 18 [v0] σ Q ↔ Wp zt 18 b_R_init_0 [some v0] [] σ Q := Iff.rfl
theorem m_R_readItems {v0 v1 v2 v3 : AV} : WpM zt 19 [v0, v1, v2, v3] σ Q ↔ Wp zt 19 b_R_readItems_0 [some v0, some v1, some v2, some v3, none] [] σ Q := Iff.rfl
theorem m_R_readItem {v0 v1 : AV} : WpM zt 20 [v0, v1] σ Q ↔ Wp zt 20 b_R_readItem_0 [some v0, some v1, none, none, none, none] [] σ Q := Iff.rfl
theorem m_R_readNumber {v0 v1 v2 : AV} : WpM zt 21 [v0, v1, v2] σ Q ↔ Wp zt 21 b_R_readNumber_0 [some v0, some v1, some v2, none, none, none] [] σ Q := Iff.rfl
theorem m_R_skipSpaces {v0 : AV} : WpM zt 22 [v0] σ Q ↔ Wp zt 22 b_R_skipSpaces_0 [some v0] [] σ Q := Iff.rfl
theorem m_R_isDigit {v0 : AV} : WpM zt 23 [v0] σ Q ↔ Wp zt 23 b_R_isDigit_0 [some v0] [] σ Q := Iff.rfl
theorem m_R_kindOf {v0 : AV} : WpM zt 24 [v0] σ Q ↔ Wp zt 24 b_R_kindOf_0 [some v0] [] σ Q := Iff.rfl
theorem m_S_init {v0 : AV} : WpM zt 25 [v0] σ Q ↔ Wp zt 25 b_S_init_0 [some v0, none] [] σ Q := Iff.rfl
theorem m_S_copyFrom {v0 v1 : AV} : WpM zt 26 [v0, v1] σ Q ↔ Wp zt 26 b_S_copyFrom_0 [some v0, some v1] [] σ Q := Iff.rfl
theorem m_S_hasMouth {v0 v1 : AV} : WpM zt 27 [v0, v1] σ Q ↔ Wp zt 27 b_S_hasMouth_0 [some v0, some v1] [] σ Q := Iff.rfl
theorem m_S_hasSegment {v0 v1 : AV} : WpM zt 28 [v0, v1] σ Q ↔ Wp zt 28 b_S_hasSegment_0 [some v0, some v1] [] σ Q := Iff.rfl
theorem m_S_hasFrame {v0 v1 : AV} : WpM zt 29 [v0, v1] σ Q ↔ Wp zt 29 b_S_hasFrame_0 [some v0, some v1] [] σ Q := Iff.rfl
theorem m_S_hasRoomFor {v0 v1 : AV} : WpM zt 30 [v0, v1] σ Q ↔ Wp zt 30 b_S_hasRoomFor_0 [some v0, some v1] [] σ Q := Iff.rfl
theorem m_S_distanceOf {v0 v1 v2 v3 : AV} : WpM zt 31 [v0, v1, v2, v3] σ Q ↔ Wp zt 31 b_S_distanceOf_0 [some v0, some v1, some v2, some v3] [] σ Q := Iff.rfl
theorem m_S_jumpOf {v0 v1 v2 : AV} : WpM zt 32 [v0, v1, v2] σ Q ↔ Wp zt 32 b_S_jumpOf_0 [some v0, some v1, some v2] [] σ Q := Iff.rfl
theorem m_S_nearestOfAll {v0 v1 v2 : AV} : WpM zt 33 [v0, v1, v2] σ Q ↔ Wp zt 33 b_S_nearestOfAll_0 [some v0, some v1, some v2, none, none] [] σ Q := Iff.rfl
theorem m_S_nearestWithin {v0 v1 v2 v3 : AV} : WpM zt 34 [v0, v1, v2, v3] σ Q ↔ Wp zt 34 b_S_nearestWithin_0 [some v0, some v1, some v2, some v3, none, none] [] σ Q := Iff.rfl
theorem m_S_wrongOf {v0 v1 v2 : AV} : WpM zt 35 [v0, v1, v2] σ Q ↔ Wp zt 35 b_S_wrongOf_0 [some v0, some v1, some v2, none] [] σ Q := Iff.rfl
theorem m_S_leastWrongFor {v0 v1 : AV} : WpM zt 36 [v0, v1] σ Q ↔ Wp zt 36 b_S_leastWrongFor_0 [some v0, some v1, none, none] [] σ Q := Iff.rfl
theorem m_S_countSet {v0 v1 : AV} : WpM zt 37 [v0, v1] σ Q ↔ Wp zt 37 b_S_countSet_0 [some v0, some v1, none, none] [] σ Q := Iff.rfl
theorem m_S_firstFrameOf {v0 v1 : AV} : WpM zt 38 [v0, v1] σ Q ↔ Wp zt 38 b_S_firstFrameOf_0 [some v0, some v1, none, none] [] σ Q := Iff.rfl
theorem m_S_segmentAt {v0 v1 : AV} : WpM zt 39 [v0, v1] σ Q ↔ Wp zt 39 b_S_segmentAt_0 [some v0, some v1, none, none] [] σ Q := Iff.rfl
theorem m_S_kindAt {v0 v1 : AV} : WpM zt 40 [v0, v1] σ Q ↔ Wp zt 40 b_S_kindAt_0 [some v0, some v1] [] σ Q := Iff.rfl
theorem m_S_openSegment {v0 v1 v2 v3 : AV} : WpM zt 41 [v0, v1, v2, v3] σ Q ↔ Wp zt 41 b_S_openSegment_0 [some v0, some v1, some v2, some v3, none] [] σ Q := Iff.rfl
theorem m_S_closeSegment {v0 v1 : AV} : WpM zt 42 [v0, v1] σ Q ↔ Wp zt 42 b_S_closeSegment_0 [some v0, some v1, none] [] σ Q := Iff.rfl
theorem m_S_openFrames {v0 v1 v2 : AV} : WpM zt 43 [v0, v1, v2] σ Q ↔ Wp zt 43 b_S_openFrames_0 [some v0, some v1, some v2, none] [] σ Q := Iff.rfl
theorem m_S_closeFrames {v0 v1 v2 : AV} : WpM zt 44 [v0, v1, v2] σ Q ↔ Wp zt 44 b_S_closeFrames_0 [some v0, some v1, some v2, none] [] σ Q := Iff.rfl
theorem m_T_init {v0 : AV} : WpM zt 45 [v0] σ Q ↔ Wp zt 45 b_T_init_0 [some v0, none] [] σ Q := Iff.rfl
theorem m_T_copyFrom {v0 v1 : AV} : WpM zt 46 [v0, v1] σ Q ↔ Wp zt 46 b_T_copyFrom_0 [some v0, some v1, none] [] σ Q := Iff.rfl
theorem m_T_countTaken {v0 : AV} : WpM zt 47 [v0] σ Q ↔ Wp zt 47 b_T_countTaken_0 [some v0, none, none] [] σ Q := Iff.rfl
theorem m_L_init {v0 : AV} : WpM zt 48 [v0] σ Q ↔ Wp zt 48 b_L_init_0 [some v0, none] [] σ Q := Iff.rfl
theorem m_L_addMouth {v0 v1 v2 : AV} : WpM zt 49 [v0, v1, v2] σ Q ↔ Wp zt 49 b_L_addMouth_0 [some v0, some v1, some v2, none] [] σ Q := Iff.rfl
theorem m_L_setMouth {v0 v1 v2 v3 : AV} : WpM zt 50 [v0, v1, v2, v3] σ Q ↔ Wp zt 50 b_L_setMouth_0 [some v0, some v1, some v2, some v3, none, none] [] σ Q := Iff.rfl
theorem m_L_setSound {v0 v1 v2 v3 : AV} : WpM zt 51 [v0, v1, v2, v3] σ Q ↔ Wp zt 51 b_L_setSound_0 [some v0, some v1, some v2, some v3, none, none] [] σ Q := Iff.rfl
theorem m_L_setNumber {v0 v1 v2 : AV} : WpM zt 52 [v0, v1, v2] σ Q ↔ Wp zt 52 b_L_setNumber_0 [some v0, some v1, some v2, none] [] σ Q := Iff.rfl
theorem m_L_insert {v0 v1 v2 v3 : AV} : WpM zt 53 [v0, v1, v2, v3] σ Q ↔ Wp zt 53 b_L_insert_0 [some v0, some v1, some v2, some v3, none] [] σ Q := Iff.rfl
theorem m_L_remove {v0 v1 : AV} : WpM zt 54 [v0, v1] σ Q ↔ Wp zt 54 b_L_remove_0 [some v0, some v1, none] [] σ Q := Iff.rfl
theorem m_L_stretch {v0 v1 v2 : AV} : WpM zt 55 [v0, v1, v2] σ Q ↔ Wp zt 55 b_L_stretch_0 [some v0, some v1, some v2, none, none, none] [] σ Q := Iff.rfl
theorem m_L_pin {v0 v1 v2 : AV} : WpM zt 56 [v0, v1, v2] σ Q ↔ Wp zt 56 b_L_pin_0 [some v0, some v1, some v2, none, none] [] σ Q := Iff.rfl
theorem m_L_draw {v0 v1 v2 : AV} : WpM zt 57 [v0, v1, v2] σ Q ↔ Wp zt 57 b_L_draw_0 [some v0, some v1, some v2, none, none] [] σ Q := Iff.rfl
theorem m_L_between {v0 v1 v2 : AV} : WpM zt 58 [v0, v1, v2] σ Q ↔ Wp zt 58 b_L_between_0 [some v0, some v1, some v2, none, none, none, none, none, none, none] [] σ Q := Iff.rfl
theorem m_L_finish {v0 : AV} : WpM zt 59 [v0] σ Q ↔ Wp zt 59 b_L_finish_0 [some v0, none, none] [] σ Q := Iff.rfl
theorem m_L_breathe {v0 v1 : AV} : WpM zt 60 [v0, v1] σ Q ↔ Wp zt 60 b_L_breathe_0 [some v0, some v1, none, none] [] σ Q := Iff.rfl
theorem m_L_take {v0 v1 : AV} : WpM zt 61 [v0, v1] σ Q ↔ Wp zt 61 b_L_take_0 [some v0, some v1] [] σ Q := Iff.rfl
theorem m_L_restore {v0 v1 : AV} : WpM zt 62 [v0, v1] σ Q ↔ Wp zt 62 b_L_restore_0 [some v0, some v1] [] σ Q := Iff.rfl
theorem m_L_undo {v0 : AV} : WpM zt 63 [v0] σ Q ↔ Wp zt 63 b_L_undo_0 [some v0] [] σ Q := Iff.rfl
theorem m_L_append {v0 v1 : AV} : WpM zt 64 [v0, v1] σ Q ↔ Wp zt 64 b_L_append_0 [some v0, some v1] [] σ Q := Iff.rfl
theorem m_L_clearText {v0 : AV} : WpM zt 65 [v0] σ Q ↔ Wp zt 65 b_L_clearText_0 [some v0, none] [] σ Q := Iff.rfl
theorem m_L_load {v0 : AV} : WpM zt 66 [v0] σ Q ↔ Wp zt 66 b_L_load_0 [some v0, none] [] σ Q := Iff.rfl
theorem m_L_count {v0 v1 : AV} : WpM zt 67 [v0, v1] σ Q ↔ Wp zt 67 b_L_count_0 [some v0, some v1, none] [] σ Q := Iff.rfl
theorem m_L_mouth {v0 v1 v2 : AV} : WpM zt 68 [v0, v1, v2] σ Q ↔ Wp zt 68 b_L_mouth_0 [some v0, some v1, some v2] [] σ Q := Iff.rfl
theorem m_L_jump {v0 v1 v2 : AV} : WpM zt 69 [v0, v1, v2] σ Q ↔ Wp zt 69 b_L_jump_0 [some v0, some v1, some v2] [] σ Q := Iff.rfl
theorem m_L_sound {v0 v1 v2 : AV} : WpM zt 70 [v0, v1, v2] σ Q ↔ Wp zt 70 b_L_sound_0 [some v0, some v1, some v2] [] σ Q := Iff.rfl
theorem m_L_number {v0 v1 : AV} : WpM zt 71 [v0, v1] σ Q ↔ Wp zt 71 b_L_number_0 [some v0, some v1] [] σ Q := Iff.rfl
theorem m_L_segment {v0 v1 v2 : AV} : WpM zt 72 [v0, v1, v2] σ Q ↔ Wp zt 72 b_L_segment_0 [some v0, some v1, some v2, none] [] σ Q := Iff.rfl
theorem m_L_frame {v0 v1 v2 : AV} : WpM zt 73 [v0, v1, v2] σ Q ↔ Wp zt 73 b_L_frame_0 [some v0, some v1, some v2, none] [] σ Q := Iff.rfl
theorem m_L_wrongness {v0 v1 v2 : AV} : WpM zt 74 [v0, v1, v2] σ Q ↔ Wp zt 74 b_L_wrongness_0 [some v0, some v1, some v2] [] σ Q := Iff.rfl
theorem m_L_least {v0 v1 : AV} : WpM zt 75 [v0, v1] σ Q ↔ Wp zt 75 b_L_least_0 [some v0, some v1] [] σ Q := Iff.rfl
theorem m_L_leastWith {v0 v1 v2 : AV} : WpM zt 76 [v0, v1, v2] σ Q ↔ Wp zt 76 b_L_leastWith_0 [some v0, some v1, some v2] [] σ Q := Iff.rfl
theorem m_L_why {v0 v1 : AV} : WpM zt 77 [v0, v1] σ Q ↔ Wp zt 77 b_L_why_0 [some v0, some v1, none, none, none, none] [] σ Q := Iff.rfl
theorem m_L_fault {v0 v1 : AV} : WpM zt 78 [v0, v1] σ Q ↔ Wp zt 78 b_L_fault_0 [some v0, some v1, none, none, none, none] [] σ Q := Iff.rfl
theorem m_L_drawnSum {v0 : AV} : WpM zt 79 [v0] σ Q ↔ Wp zt 79 b_L_drawnSum_0 [some v0, none, none, none] [] σ Q := Iff.rfl
theorem m_L_speedFor {v0 v1 : AV} : WpM zt 80 [v0, v1] σ Q ↔ Wp zt 80 b_L_speedFor_0 [some v0, some v1, none, none] [] σ Q := Iff.rfl
theorem m_L_nearest {v0 v1 v2 : AV} : WpM zt 81 [v0, v1, v2] σ Q ↔ Wp zt 81 b_L_nearest_0 [some v0, some v1, some v2] [] σ Q := Iff.rfl
theorem m_L_isOutside {v0 v1 v2 : AV} : WpM zt 82 [v0, v1, v2] σ Q ↔ Wp zt 82 b_L_isOutside_0 [some v0, some v1, some v2] [] σ Q := Iff.rfl
theorem m_L_recordState {v0 : AV} : WpM zt 83 [v0] σ Q ↔ Wp zt 83 b_L_recordState_0 [some v0, none, none] [] σ Q := Iff.rfl
theorem m_L_partWay {v0 v1 v2 v3 : AV} : WpM zt 84 [v0, v1, v2, v3] σ Q ↔ Wp zt 84 b_L_partWay_0 [some v0, some v1, some v2, some v3] [] σ Q := Iff.rfl
theorem m_L_faultAt {v0 v1 v2 : AV} : WpM zt 85 [v0, v1, v2] σ Q ↔ Wp zt 85 b_L_faultAt_0 [some v0, some v1, some v2, none, none] [] σ Q := Iff.rfl
theorem m_M_init {v0 : AV} : WpM zt 86 [v0] σ Q ↔ Wp zt 86 b_M_init_0 [some v0, none] [] σ Q := Iff.rfl
theorem m_M_in {v0 v1 v2 : AV} : WpM zt 87 [v0, v1, v2] σ Q ↔ Wp zt 87 b_M_in_0 [some v0, some v1, some v2] [] σ Q := Iff.rfl
theorem m_M_apart {v0 v1 : AV} : WpM zt 88 [v0, v1] σ Q ↔ Wp zt 88 b_M_apart_0 [some v0, some v1] [] σ Q := Iff.rfl
theorem m_M_greater {v0 v1 : AV} : WpM zt 89 [v0, v1] σ Q ↔ Wp zt 89 b_M_greater_0 [some v0, some v1] [] σ Q := Iff.rfl
theorem m_M_bring {v0 v1 v2 v3 v4 : AV} : WpM zt 90 [v0, v1, v2, v3, v4] σ Q ↔ Wp zt 90 b_M_bring_0 [some v0, some v1, some v2, some v3, some v4, none] [] σ Q := Iff.rfl
theorem m_M_keep {v0 : AV} : WpM zt 91 [v0] σ Q ↔ Wp zt 91 b_M_keep_0 [some v0] [] σ Q := Iff.rfl
theorem m_M_isMouth {v0 v1 : AV} : WpM zt 92 [v0, v1] σ Q ↔ Wp zt 92 b_M_isMouth_0 [some v0, some v1] [] σ Q := Iff.rfl
theorem m_M_isSegment {v0 v1 : AV} : WpM zt 93 [v0, v1] σ Q ↔ Wp zt 93 b_M_isSegment_0 [some v0, some v1] [] σ Q := Iff.rfl
theorem m_M_opening {v0 v1 : AV} : WpM zt 94 [v0, v1] σ Q ↔ Wp zt 94 b_M_opening_0 [some v0, some v1] [] σ Q := Iff.rfl
theorem m_M_width {v0 v1 : AV} : WpM zt 95 [v0, v1] σ Q ↔ Wp zt 95 b_M_width_0 [some v0, some v1] [] σ Q := Iff.rfl
theorem m_M_farBetween {v0 v1 v2 : AV} : WpM zt 96 [v0, v1, v2] σ Q ↔ Wp zt 96 b_M_farBetween_0 [some v0, some v1, some v2] [] σ Q := Iff.rfl
theorem m_M_kindOf {v0 v1 : AV} : WpM zt 97 [v0, v1] σ Q ↔ Wp zt 97 b_M_kindOf_0 [some v0, some v1] [] σ Q := Iff.rfl
theorem m_M_framesOf {v0 v1 : AV} : WpM zt 98 [v0, v1] σ Q ↔ Wp zt 98 b_M_framesOf_0 [some v0, some v1] [] σ Q := Iff.rfl
theorem m_M_setting {v0 v1 : AV} : WpM zt 99 [v0, v1] σ Q ↔ Wp zt 99 b_M_setting_0 [some v0, some v1] [] σ Q := Iff.rfl
theorem m_M_firstOf {v0 v1 : AV} : WpM zt 100 [v0, v1] σ Q ↔ Wp zt 100 b_M_firstOf_0 [some v0, some v1, none, none] [] σ Q := Iff.rfl
theorem m_M_frames {v0 : AV} : WpM zt 101 [v0] σ Q ↔ Wp zt 101 b_M_frames_0 [some v0] [] σ Q := Iff.rfl
theorem m_M_isFrame {v0 v1 : AV} : WpM zt 102 [v0, v1] σ Q ↔ Wp zt 102 b_M_isFrame_0 [some v0, some v1] [] σ Q := Iff.rfl
theorem m_M_segmentOf {v0 v1 : AV} : WpM zt 103 [v0, v1] σ Q ↔ Wp zt 103 b_M_segmentOf_0 [some v0, some v1, none] [] σ Q := Iff.rfl
theorem m_M_isSize {v0 : AV} : WpM zt 104 [v0] σ Q ↔ Wp zt 104 b_M_isSize_0 [some v0] [] σ Q := Iff.rfl
theorem m_M_addMouth {v0 v1 v2 : AV} : WpM zt 105 [v0, v1, v2] σ Q ↔ Wp zt 105 b_M_addMouth_0 [some v0, some v1, some v2] [] σ Q := Iff.rfl
theorem m_M_setMouth {v0 v1 v2 v3 : AV} : WpM zt 106 [v0, v1, v2, v3] σ Q ↔ Wp zt 106 b_M_setMouth_0 [some v0, some v1, some v2, some v3, none] [] σ Q := Iff.rfl
theorem m_M_setSound {v0 v1 v2 v3 : AV} : WpM zt 107 [v0, v1, v2, v3] σ Q ↔ Wp zt 107 b_M_setSound_0 [some v0, some v1, some v2, some v3, none] [] σ Q := Iff.rfl
theorem m_M_isSetting {v0 v1 : AV} : WpM zt 108 [v0, v1] σ Q ↔ Wp zt 108 b_M_isSetting_0 [some v0, some v1] [] σ Q := Iff.rfl
theorem m_M_setNumber {v0 v1 v2 : AV} : WpM zt 109 [v0, v1, v2] σ Q ↔ Wp zt 109 b_M_setNumber_0 [some v0, some v1, some v2, none] [] σ Q := Iff.rfl
theorem m_M_opens {v0 v1 v2 v3 : AV} : WpM zt 110 [v0, v1, v2, v3] σ Q ↔ Wp zt 110 b_M_opens_0 [some v0, some v1, some v2, some v3, none] [] σ Q := Iff.rfl
theorem m_M_closes {v0 v1 v2 v3 : AV} : WpM zt 111 [v0, v1, v2, v3] σ Q ↔ Wp zt 111 b_M_closes_0 [some v0, some v1, some v2, some v3, none] [] σ Q := Iff.rfl
theorem m_M_allOf {v0 : AV} : WpM zt 112 [v0] σ Q ↔ Wp zt 112 b_M_allOf_0 [some v0, none, none] [] σ Q := Iff.rfl
theorem m_M_inserts {v0 v1 v2 v3 : AV} : WpM zt 113 [v0, v1, v2, v3] σ Q ↔ Wp zt 113 b_M_inserts_0 [some v0, some v1, some v2, some v3, none, none, none] [] σ Q := Iff.rfl
theorem m_M_hasRoom {v0 v1 : AV} : WpM zt 114 [v0, v1] σ Q ↔ Wp zt 114 b_M_hasRoom_0 [some v0, some v1] [] σ Q := Iff.rfl
theorem m_M_insert {v0 v1 v2 v3 : AV} : WpM zt 115 [v0, v1, v2, v3] σ Q ↔ Wp zt 115 b_M_insert_0 [some v0, some v1, some v2, some v3] [] σ Q := Iff.rfl
theorem m_M_remove {v0 v1 : AV} : WpM zt 116 [v0, v1] σ Q ↔ Wp zt 116 b_M_remove_0 [some v0, some v1, none] [] σ Q := Iff.rfl
theorem m_M_stretch {v0 v1 v2 : AV} : WpM zt 117 [v0, v1, v2] σ Q ↔ Wp zt 117 b_M_stretch_0 [some v0, some v1, some v2, none, none] [] σ Q := Iff.rfl
theorem m_M_puts {v0 v1 v2 v3 : AV} : WpM zt 118 [v0, v1, v2, v3] σ Q ↔ Wp zt 118 b_M_puts_0 [some v0, some v1, some v2, some v3, none] [] σ Q := Iff.rfl
theorem m_M_pin {v0 v1 v2 : AV} : WpM zt 119 [v0, v1, v2] σ Q ↔ Wp zt 119 b_M_pin_0 [some v0, some v1, some v2] [] σ Q := Iff.rfl
theorem m_M_draw {v0 v1 v2 : AV} : WpM zt 120 [v0, v1, v2] σ Q ↔ Wp zt 120 b_M_draw_0 [some v0, some v1, some v2] [] σ Q := Iff.rfl
theorem m_M_nearestTo {v0 v1 v2 v3 : AV} : WpM zt 121 [v0, v1, v2, v3] σ Q ↔ Wp zt 121 b_M_nearestTo_0 [some v0, some v1, some v2, some v3, none, none, none, none, none] [] σ Q := Iff.rfl
theorem m_M_between {v0 v1 v2 : AV} : WpM zt 122 [v0, v1, v2] σ Q ↔ Wp zt 122 b_M_between_0 [some v0, some v1, some v2, none, none, none, none, none] [] σ Q := Iff.rfl
theorem m_M_finish {v0 : AV} : WpM zt 123 [v0] σ Q ↔ Wp zt 123 b_M_finish_0 [some v0, none] [] σ Q := Iff.rfl
theorem m_M_breathes {v0 v1 : AV} : WpM zt 124 [v0, v1] σ Q ↔ Wp zt 124 b_M_breathes_0 [some v0, some v1, none, none, none, none, none, none, none] [] σ Q := Iff.rfl
theorem m_M_segmentIn {v0 v1 : AV} : WpM zt 125 [v0, v1] σ Q ↔ Wp zt 125 b_M_segmentIn_0 [some v0, some v1, none, none] [] σ Q := Iff.rfl
theorem m_M_breathe {v0 v1 : AV} : WpM zt 126 [v0, v1] σ Q ↔ Wp zt 126 b_M_breathe_0 [some v0, some v1, none, none, none] [] σ Q := Iff.rfl
theorem m_M_take {v0 v1 : AV} : WpM zt 127 [v0, v1] σ Q ↔ Wp zt 127 b_M_take_0 [some v0, some v1, none] [] σ Q := Iff.rfl
theorem m_M_restore {v0 v1 : AV} : WpM zt 128 [v0, v1] σ Q ↔ Wp zt 128 b_M_restore_0 [some v0, some v1, none] [] σ Q := Iff.rfl
theorem m_M_undo {v0 : AV} : WpM zt 129 [v0] σ Q ↔ Wp zt 129 b_M_undo_0 [some v0] [] σ Q := Iff.rfl
theorem m_M_append {v0 v1 : AV} : WpM zt 130 [v0, v1] σ Q ↔ Wp zt 130 b_M_append_0 [some v0, some v1] [] σ Q := Iff.rfl
theorem m_M_clearText {v0 : AV} : WpM zt 131 [v0] σ Q ↔ Wp zt 131 b_M_clearText_0 [some v0, none] [] σ Q := Iff.rfl
theorem m_M_here {v0 : AV} : WpM zt 132 [v0] σ Q ↔ Wp zt 132 b_M_here_0 [some v0] [] σ Q := Iff.rfl
theorem m_M_overSpaces {v0 : AV} : WpM zt 133 [v0] σ Q ↔ Wp zt 133 b_M_overSpaces_0 [some v0] [] σ Q := Iff.rfl
theorem m_M_readNumber {v0 v1 v2 : AV} : WpM zt 134 [v0, v1, v2] σ Q ↔ Wp zt 134 b_M_readNumber_0 [some v0, some v1, some v2, none, none] [] σ Q := Iff.rfl
theorem m_M_readItem {v0 : AV} : WpM zt 135 [v0] σ Q ↔ Wp zt 135 b_M_readItem_0 [some v0, none, none, none, none] [] σ Q := Iff.rfl
theorem m_M_load {v0 : AV} : WpM zt 136 [v0] σ Q ↔ Wp zt 136 b_M_load_0 [some v0, none] [] σ Q := Iff.rfl
theorem m_M_layKinds {v0 : AV} : WpM zt 137 [v0] σ Q ↔ Wp zt 137 b_M_layKinds_0 [some v0, none, none, none] [] σ Q := Iff.rfl
theorem m_M_wrongBy {v0 v1 v2 : AV} : WpM zt 138 [v0, v1, v2] σ Q ↔ Wp zt 138 b_M_wrongBy_0 [some v0, some v1, some v2, none] [] σ Q := Iff.rfl
theorem m_M_cellOf {v0 v1 v2 : AV} : WpM zt 139 [v0, v1, v2] σ Q ↔ Wp zt 139 b_M_cellOf_0 [some v0, some v1, some v2] [] σ Q := Iff.rfl
theorem m_M_behind {v0 v1 v2 v3 v4 v5 : AV} : WpM zt 140 [v0, v1, v2, v3, v4, v5] σ Q ↔ Wp zt 140 b_M_behind_0 [some v0, some v1, some v2, some v3, some v4, some v5, none, none, none, none] [] σ Q := Iff.rfl
theorem m_M_findPlan {v0 v1 v2 v3 : AV} : WpM zt 141 [v0, v1, v2, v3] σ Q ↔ Wp zt 141 b_M_findPlan_0 [some v0, some v1, some v2, some v3, none, none, none, none, none, none, none] [] σ Q := Iff.rfl
theorem m_M_lays {v0 v1 v2 : AV} : WpM zt 142 [v0, v1, v2] σ Q ↔ Wp zt 142 b_M_lays_0 [some v0, some v1, some v2, none, none, none, none, none, none, none, none, none, none, none] [] σ Q := Iff.rfl
theorem m_M_manyOf {v0 v1 : AV} : WpM zt 143 [v0, v1] σ Q ↔ Wp zt 143 b_M_manyOf_0 [some v0, some v1, none, none] [] σ Q := Iff.rfl
theorem m_M_manyGasps {v0 : AV} : WpM zt 144 [v0] σ Q ↔ Wp zt 144 b_M_manyGasps_0 [some v0, none, none, none] [] σ Q := Iff.rfl
theorem m_M_count {v0 v1 : AV} : WpM zt 145 [v0, v1] σ Q ↔ Wp zt 145 b_M_count_0 [some v0, some v1] [] σ Q := Iff.rfl
theorem m_M_mouth {v0 v1 v2 : AV} : WpM zt 146 [v0, v1, v2] σ Q ↔ Wp zt 146 b_M_mouth_0 [some v0, some v1, some v2] [] σ Q := Iff.rfl
theorem m_M_jump {v0 v1 v2 : AV} : WpM zt 147 [v0, v1, v2] σ Q ↔ Wp zt 147 b_M_jump_0 [some v0, some v1, some v2] [] σ Q := Iff.rfl
theorem m_M_sound {v0 v1 v2 : AV} : WpM zt 148 [v0, v1, v2] σ Q ↔ Wp zt 148 b_M_sound_0 [some v0, some v1, some v2] [] σ Q := Iff.rfl
theorem m_M_number {v0 v1 : AV} : WpM zt 149 [v0, v1] σ Q ↔ Wp zt 149 b_M_number_0 [some v0, some v1] [] σ Q := Iff.rfl
theorem m_M_segment {v0 v1 v2 : AV} : WpM zt 150 [v0, v1, v2] σ Q ↔ Wp zt 150 b_M_segment_0 [some v0, some v1, some v2] [] σ Q := Iff.rfl
theorem m_M_orNone {v0 : AV} : WpM zt 151 [v0] σ Q ↔ Wp zt 151 b_M_orNone_0 [some v0] [] σ Q := Iff.rfl
theorem m_M_tellAir {v0 v1 v2 : AV} : WpM zt 152 [v0, v1, v2] σ Q ↔ Wp zt 152 b_M_tellAir_0 [some v0, some v1, some v2, none] [] σ Q := Iff.rfl
theorem m_M_frame {v0 v1 v2 : AV} : WpM zt 153 [v0, v1, v2] σ Q ↔ Wp zt 153 b_M_frame_0 [some v0, some v1, some v2] [] σ Q := Iff.rfl
theorem m_M_wrongness {v0 v1 v2 : AV} : WpM zt 154 [v0, v1, v2] σ Q ↔ Wp zt 154 b_M_wrongness_0 [some v0, some v1, some v2] [] σ Q := Iff.rfl
theorem m_M_least {v0 v1 : AV} : WpM zt 155 [v0, v1] σ Q ↔ Wp zt 155 b_M_least_0 [some v0, some v1] [] σ Q := Iff.rfl
theorem m_M_leastWith {v0 v1 v2 : AV} : WpM zt 156 [v0, v1, v2] σ Q ↔ Wp zt 156 b_M_leastWith_0 [some v0, some v1, some v2] [] σ Q := Iff.rfl
theorem m_M_why {v0 v1 : AV} : WpM zt 157 [v0, v1] σ Q ↔ Wp zt 157 b_M_why_0 [some v0, some v1, none, none, none] [] σ Q := Iff.rfl
theorem m_M_faultIn {v0 v1 : AV} : WpM zt 158 [v0, v1] σ Q ↔ Wp zt 158 b_M_faultIn_0 [some v0, some v1, none, none, none, none] [] σ Q := Iff.rfl
theorem m_M_fault {v0 v1 : AV} : WpM zt 159 [v0, v1] σ Q ↔ Wp zt 159 b_M_fault_0 [some v0, some v1, none, none] [] σ Q := Iff.rfl
theorem m_M_drawnSum {v0 : AV} : WpM zt 160 [v0] σ Q ↔ Wp zt 160 b_M_drawnSum_0 [some v0, none, none] [] σ Q := Iff.rfl
theorem m_M_speedFor {v0 v1 : AV} : WpM zt 161 [v0, v1] σ Q ↔ Wp zt 161 b_M_speedFor_0 [some v0, some v1, none, none] [] σ Q := Iff.rfl
theorem m_M_nearest {v0 v1 v2 : AV} : WpM zt 162 [v0, v1, v2] σ Q ↔ Wp zt 162 b_M_nearest_0 [some v0, some v1, some v2] [] σ Q := Iff.rfl
theorem m_W_law {v0 : AV} : WpM zt 163 [v0] σ Q ↔ Wp zt 163 b_W_law_0 [some v0, none, none, none] [] σ Q := Iff.rfl
end ENT
end
section
/-! THE SPECIFICATION's words: a view V of a scene (or of the reference's page): V 0 0 the mouths, V 1, V 2 their openings and widths, V 3 the sounds' numbers, V 4 the settings, V 5 0 the segments, V 6, V 7 their kinds and lengths, V 8 0 the frames, V 9, V 10 what is pinned and drawn -/
abbrev Vw : Type := Nat → Nat → Int
def vwC (g : Nat → Nat → Int) (a : Nat) : Vw := fun k j => match k with
  | 0 => g a 0
  | 1 => g (ad a 1) j
  | 2 => g (ad a 2) j
  | 3 => g (ad a 3) j
  | 4 => g (ad a 4) j
  | 5 => g a 5
  | 6 => g (ad a 5) j
  | 7 => g (ad a 6) j
  | 8 => g a 8
  | 9 => g (ad a 7) j
  | 10 => g (ad a 8) j
  | _ => 0
def sumL (V : Vw) : Nat → Int
  | 0 => 0
  | s + 1 => sumL V s + V 7 s
/-- a view in its bounds; n stands for none -/
def WFV (n : Int) (V : Vw) : Prop :=
  (1 ≤ V 0 0 ∧ V 0 0 ≤ 8) ∧
  (∀ j : Nat, (j : Int) < V 0 0 → (0 ≤ V 1 j ∧ V 1 j ≤ 9) ∧ (0 ≤ V 2 j ∧ V 2 j ≤ 9)) ∧
  (∀ j : Nat, j < 36 → 0 ≤ V 3 j ∧ V 3 j ≤ 9) ∧
  ((1 ≤ V 4 0 ∧ V 4 0 ≤ 9) ∧ (1 ≤ V 4 1 ∧ V 4 1 ≤ 3) ∧ (0 ≤ V 4 2 ∧ V 4 2 ≤ 9) ∧ (1 ≤ V 4 3 ∧ V 4 3 ≤ 99) ∧ (1 ≤ V 4 4 ∧ V 4 4 ≤ 20)) ∧
  (0 ≤ V 5 0 ∧ V 5 0 ≤ 30) ∧
  (∀ j : Nat, (j : Int) < V 5 0 → (0 ≤ V 6 j ∧ V 6 j ≤ 9) ∧ (1 ≤ V 7 j ∧ V 7 j ≤ 20)) ∧
  (0 ≤ V 8 0 ∧ V 8 0 ≤ 99) ∧ sumL V (V 5 0).toNat = V 8 0 ∧
  (∀ j : Nat, (j : Int) < V 8 0 → (V 9 j = n ∨ (0 ≤ V 9 j ∧ V 9 j < V 0 0)) ∧ (V 10 j = n ∨ (0 ≤ V 10 j ∧ V 10 j < V 0 0)))
def dstV (V : Vw) (m : Nat) (o w : Int) : Int := max ((V 1 m - o).natAbs : Int) ((V 2 m - w).natAbs : Int)
def jmpV (V : Vw) (x y : Nat) : Int := dstV V x (V 1 y) (V 2 y)
def wrgV (V : Vw) (kind : Int) (m : Nat) : Int := if kind = 9 then 9 * max 0 (V 4 2 - V 1 m) else V 3 (kind * 4 + 2).toNat * (((V 1 m - V 3 (kind * 4 + 0).toNat).natAbs : Int) + ((V 2 m - V 3 (kind * 4 + 1).toNat).natAbs : Int))
/-- the first place of the least value among the first n -/
def amin (f : Nat → Int) : Nat → Nat
  | 0 => 0
  | n + 1 => if f n < f (amin f n) then n else amin f n
/-- the same among those that p tells; -1 where there is none -/
def aminP (p : Nat → Bool) (f : Nat → Int) : Nat → Int
  | 0 => -1
  | n + 1 => if p n = true ∧ (aminP p f n = -1 ∨ f n < f (aminP p f n).toNat) then (n : Int) else aminP p f n
def cntS (n : Int) (row : Nat → Int) : Nat → Int
  | 0 => 0
  | j + 1 => if row j = n then cntS n row j else cntS n row j + 1
/-- the segment of a frame, looked for from s on among d ones -/
def segF (V : Vw) (f : Int) : Nat → Nat → Int
  | 0, _ => 0
  | d + 1, s => if f < sumL V (s + 1) then (s : Int) else segF V f d (s + 1)
def segV (V : Vw) (f : Int) : Int := segF V f (V 5 0).toNat 0
def kndV (V : Vw) (f : Int) : Int := V 6 (segV V f).toNat
section WFA
variable {n : Int} {g : Nat → Nat → Int} {a : Nat}
theorem w_M (h : WFV n (vwC g a)) : 1 ≤ g a 0 ∧ g a 0 ≤ 8 := h.1
theorem w_op (h : WFV n (vwC g a)) {j : Nat} (hj : (j : Int) < g a 0) : 0 ≤ g (ad a 1) j ∧ g (ad a 1) j ≤ 9 := (h.2.1 j hj).1
theorem w_wd (h : WFV n (vwC g a)) {j : Nat} (hj : (j : Int) < g a 0) : 0 ≤ g (ad a 2) j ∧ g (ad a 2) j ≤ 9 := (h.2.1 j hj).2
theorem w_sn (h : WFV n (vwC g a)) {j : Nat} (hj : j < 36) : 0 ≤ g (ad a 3) j ∧ g (ad a 3) j ≤ 9 := h.2.2.1 j hj
theorem w_nm (h : WFV n (vwC g a)) : (1 ≤ g (ad a 4) 0 ∧ g (ad a 4) 0 ≤ 9) ∧ (1 ≤ g (ad a 4) 1 ∧ g (ad a 4) 1 ≤ 3) ∧ (0 ≤ g (ad a 4) 2 ∧ g (ad a 4) 2 ≤ 9) ∧ (1 ≤ g (ad a 4) 3 ∧ g (ad a 4) 3 ≤ 99) ∧ (1 ≤ g (ad a 4) 4 ∧ g (ad a 4) 4 ≤ 20) := h.2.2.2.1
theorem w_G (h : WFV n (vwC g a)) : 0 ≤ g a 5 ∧ g a 5 ≤ 30 := h.2.2.2.2.1
theorem w_kd (h : WFV n (vwC g a)) {j : Nat} (hj : (j : Int) < g a 5) : 0 ≤ g (ad a 5) j ∧ g (ad a 5) j ≤ 9 := (h.2.2.2.2.2.1 j hj).1
theorem w_ln (h : WFV n (vwC g a)) {j : Nat} (hj : (j : Int) < g a 5) : 1 ≤ g (ad a 6) j ∧ g (ad a 6) j ≤ 20 := (h.2.2.2.2.2.1 j hj).2
theorem w_F (h : WFV n (vwC g a)) : 0 ≤ g a 8 ∧ g a 8 ≤ 99 := h.2.2.2.2.2.2.1
theorem w_sum (h : WFV n (vwC g a)) : sumL (vwC g a) (g a 5).toNat = g a 8 := h.2.2.2.2.2.2.2.1
theorem w_pn (h : WFV n (vwC g a)) {j : Nat} (hj : (j : Int) < g a 8) : g (ad a 7) j = n ∨ (0 ≤ g (ad a 7) j ∧ g (ad a 7) j < g a 0) := (h.2.2.2.2.2.2.2.2 j hj).1
theorem w_dr (h : WFV n (vwC g a)) {j : Nat} (hj : (j : Int) < g a 8) : g (ad a 8) j = n ∨ (0 ≤ g (ad a 8) j ∧ g (ad a 8) j < g a 0) := (h.2.2.2.2.2.2.2.2 j hj).2
end WFA
theorem sumL_mono {V : Vw} {m : Int} (h : ∀ j : Nat, (j : Int) < m → 1 ≤ V 7 j ∧ V 7 j ≤ 20) : ∀ s : Nat, (s : Int) ≤ m → (s : Int) ≤ sumL V s ∧ sumL V s ≤ 20 * s
  | 0, _ => ⟨Int.le_refl _, Int.le_refl _⟩
  | s + 1, hs => by
    have h1 := sumL_mono h s (by omega)
    have h2 := h s (by omega)
    simp only [sumL]
    omega
theorem sumL_le {V : Vw} {m : Int} (h : ∀ j : Nat, (j : Int) < m → 1 ≤ V 7 j ∧ V 7 j ≤ 20) {s : Nat} : ∀ d : Nat, ((s + d : Nat) : Int) ≤ m → sumL V s + d ≤ sumL V (s + d)
  | 0, _ => by simp
  | d + 1, hs => by
    have h1 := sumL_le h (s := s) d (by omega)
    have h2 := h (s + d) (by omega)
    show _ ≤ sumL V (s + d) + V 7 (s + d)
    omega
theorem amin_lt {f : Nat → Int} : ∀ n : Nat, 0 < n → amin f n < n
  | 1, _ => by
    show (if f 0 < f 0 then 0 else 0) < 1
    split <;> omega
  | n + 2, _ => by
    have h := amin_lt (f := f) (n + 1) (by omega)
    show (if f (n + 1) < f (amin f (n + 1)) then n + 1 else amin f (n + 1)) < n + 2
    split <;> omega
end
section
/-! ROWS: a store as it stands but for some rows -/
def setRow (g : Nat → Nat → Int) (x : Nat) (R : Nat → Int) : Nat → Nat → Int := fun y => if y = x then R else g y
def upd1 (R : Nat → Int) (k : Nat) (v : Int) : Nat → Int := fun y => if y = k then v else R y
def cpR (f r : Nat → Int) (sp dp n : Nat) : Nat → Int := fun y => if dp ≤ y ∧ y < dp + n then f (sp + (y - dp)) else r y
theorem wrI_row {g : Nat → Nat → Int} {x k : Nat} {v : Int} : wrI g x k v = setRow g x (upd1 (g x) k v) := by
  funext y z
  unfold wrI setRow upd1
  by_cases h : y = x
  · subst h; simp
  · simp [h]
theorem cpI_row {g : Nat → Nat → Int} {s sp d dp n : Nat} : cpI g s sp d dp n = setRow g d (cpR (g s) (g d) sp dp n) := by
  funext y z
  unfold cpI setRow cpR
  by_cases h : y = d
  · subst h; simp
  · simp [h]
theorem row_s {g : Nat → Nat → Int} {x : Nat} {R : Nat → Int} : setRow g x R x = R := if_pos rfl
theorem row_n {g : Nat → Nat → Int} {x y : Nat} {R : Nat → Int} (h : ¬ y = x) : setRow g x R y = g y := if_neg h
theorem row_ss {g : Nat → Nat → Int} {x : Nat} {R S : Nat → Int} : setRow (setRow g x R) x S = setRow g x S := by
  funext y
  unfold setRow
  split <;> rfl
theorem row_sw {g : Nat → Nat → Int} {x y : Nat} {R S T : Nat → Int} (h : ¬ y = x) : setRow (setRow (setRow g x R) y S) x T = setRow (setRow g x T) y S := by
  funext z
  unfold setRow
  by_cases h1 : z = x
  · subst h1
    simp [Ne.symm h]
  · simp [h1]
theorem row_id {g : Nat → Nat → Int} {x : Nat} : setRow g x (g x) = g := by
  funext y
  unfold setRow
  split
  · next h => rw [h]
  · rfl
theorem upd_s {R : Nat → Int} {k : Nat} {v : Int} : upd1 R k v k = v := if_pos rfl
theorem upd_n {R : Nat → Int} {k j : Nat} {v : Int} (h : ¬ j = k) : upd1 R k v j = R j := if_neg h
theorem ad_inj {a i j : Nat} : (ad a i = ad a j) ↔ i = j := by unfold ad; omega
theorem ad_z {a i : Nat} : (ad a i = a) ↔ i = 0 := by unfold ad; omega
theorem ad_z2 {a i : Nat} : (a = ad a i) ↔ i = 0 := by unfold ad; omega
theorem ad_ad {a i j : Nat} : ad (ad a i) j = ad a (i + j) := by unfold ad; omega
section CPY
variable {zt : Nat → Nat} {k : Nat} {c : List RI} {ls : LsT} {st : List AV} {g : Nat → Nat → Int} {ρ : Ri} {Q : Option AV → Sto → Prop}
theorem wp_copy {n dp sp : Int} {d s i : Nat} (hs : kdI ρ s 0) (hd : kdI ρ d 0) (hl : st.length ≤ 3) : Wp zt k ((.invokestatic i, [1001, 5, 0]) :: c) ls (.inl n :: .inl dp :: .inr (some d) :: .inl sp :: .inr (some s) :: st) (g, ρ) Q ↔ (0 ≤ n ∧ 0 ≤ dp ∧ 0 ≤ sp ∧ sp + n ≤ (lnA ρ s : Int) ∧ dp + n ≤ (lnA ρ d : Int) ∧ lnA ρ s < 65536 ∧ lnA ρ d < 65536) ∧ Wp zt k c ls st (cpI g s sp.toNat d dp.toNat n.toNat, ρ) Q := by
  have h1 := kdI_ln hs
  have h2 := kdI_ln hd
  have key : eff zt (.invokestatic i, [1001, 5, 0]) ls (.inl n :: .inl dp :: .inr (some d) :: .inl sp :: .inr (some s) :: st) (g, ρ) = if (0 : Nat) = 0 ∧ (0 : Nat) = 0 ∧ 0 ≤ n ∧ 0 ≤ dp ∧ 0 ≤ sp ∧ sp + n ≤ (lnA ρ s : Int) ∧ dp + n ≤ (lnA ρ d : Int) ∧ lnA ρ s < 65536 ∧ lnA ρ d < 65536 then some (.inl (ls, st, (cpI g s sp.toNat d dp.toNat n.toNat, ρ))) else none := by
    have e0 : eff zt (.invokestatic i, [1001, 5, 0]) ls (.inl n :: .inl dp :: .inr (some d) :: .inl sp :: .inr (some s) :: st) (g, ρ) = if st.length + 1 + 1 + 1 + 1 + 1 ≤ 8 then natC 1001 ls (.inl n :: .inl dp :: .inr (some d) :: .inl sp :: .inr (some s) :: st) (g, ρ) else none := rfl
    rw [e0, if_pos (by omega)]
    simp only [natC, shp, h1, h2]
    rw [if_neg (by decide), if_pos (by decide)]
    rfl
  by_cases hr : 0 ≤ n ∧ 0 ≤ dp ∧ 0 ≤ sp ∧ sp + n ≤ (lnA ρ s : Int) ∧ dp + n ≤ (lnA ρ d : Int) ∧ lnA ρ s < 65536 ∧ lnA ρ d < 65536
  · rw [if_pos ⟨rfl, rfl, hr⟩] at key
    exact ⟨fun q => ⟨hr, (wp_nx key).mp q⟩, fun q => (wp_nx key).mpr q.2⟩
  · rw [if_neg (fun q => hr q.2.2)] at key
    exact ⟨fun q => absurd q (wp_no key), fun q => absurd q.1 hr⟩
end CPY
end
section
/-! THE SCENE'S READING METHODS -/
section SCN
variable {zt : Nat → Nat} {g : Nat → Nat → Int} {ρ : Ri} {a : Nat}
theorem hasMouth_ok (hS : isSc ρ a) (hW : WFV (-99) (vwC g a)) {m : Int} (hm0 : -2147483648 ≤ m) (hm1 : m < 2147483648) (Q : Option AV → Sto → Prop) : WpM zt 27 [AR a, AI m] (g, ρ) Q ↔ Q (some (AI (b2 (0 ≤ m ∧ m < g a 0)))) (g, ρ) := by
  refine wpm_iff (fun Q hQ => ?_) Q
  have hM := w_M hW
  simp only [m_S_hasMouth, b_S_hasMouth_0, P_S_hasMouth_16, b_S_hasMouth_16, P_S_hasMouth_17, b_S_hasMouth_17, wp_aln0, wp_goto, wp_icge, wp_iconst, wp_iln1, wp_iret, wp_izlt, wp_nop, wp_zret, qsc_kd, qsc_k1, qsc_l1, qsc_gf1, qsc_k2, qsc_l2, qsc_gf2, qsc_k3, qsc_l3, qsc_gf3, qsc_k4, qsc_l4, qsc_gf4, qsc_k5, qsc_l5, qsc_gf6, qsc_k6, qsc_l6, qsc_gf7, qsc_k7, qsc_l7, qsc_gf9, qsc_k8, qsc_l8, qsc_gf10, qsc_gf0, qsc_pf0, qsc_gf5, qsc_pf5, qsc_gf8, qsc_pf8, wrI_row, cpI_row, row_s, row_n, row_ss, row_sw, upd_s, upd_n, ad_inj, ad_z, ad_z2, Nat.reduceEqDiff, reduceCtorEq, List.cons_append, List.nil_append, Option.toList_some, Option.toList_none, Int.toNat_natCast, List.length_cons, List.length_nil, Int.cast_ofNat_Int, Nat.reduceAdd, Nat.reduceLeDiff, Nat.reduceLT, Nat.reduceMul, Int.reduceAdd, Int.reduceSub, Int.reduceMul, Int.reduceNeg, Int.reduceLT, Int.reduceLE, Int.reduceEq, Int.reduceToNat, eq_self, true_and, and_true, true_or, or_true, false_or, or_false, if_true, if_false, not_true_eq_false, not_false_eq_true, and_self, ne_eq, hS]
  (repeat' (first | apply And.intro | split)) <;> first | omega | exact hQ | (rw [b2_t (by omega)] at hQ; exact hQ) | (rw [b2_f (by omega)] at hQ; exact hQ)
theorem hasSegment_ok (hS : isSc ρ a) (hW : WFV (-99) (vwC g a)) {m : Int} (hm0 : -2147483648 ≤ m) (hm1 : m < 2147483648) (Q : Option AV → Sto → Prop) : WpM zt 28 [AR a, AI m] (g, ρ) Q ↔ Q (some (AI (b2 (0 ≤ m ∧ m < g a 5)))) (g, ρ) := by
  refine wpm_iff (fun Q hQ => ?_) Q
  have hM := w_G hW
  simp only [m_S_hasSegment, b_S_hasSegment_0, P_S_hasSegment_16, b_S_hasSegment_16, P_S_hasSegment_17, b_S_hasSegment_17, wp_aln0, wp_goto, wp_icge, wp_iconst, wp_iln1, wp_iret, wp_izlt, wp_nop, wp_zret, qsc_kd, qsc_k1, qsc_l1, qsc_gf1, qsc_k2, qsc_l2, qsc_gf2, qsc_k3, qsc_l3, qsc_gf3, qsc_k4, qsc_l4, qsc_gf4, qsc_k5, qsc_l5, qsc_gf6, qsc_k6, qsc_l6, qsc_gf7, qsc_k7, qsc_l7, qsc_gf9, qsc_k8, qsc_l8, qsc_gf10, qsc_gf0, qsc_pf0, qsc_gf5, qsc_pf5, qsc_gf8, qsc_pf8, wrI_row, cpI_row, row_s, row_n, row_ss, row_sw, upd_s, upd_n, ad_inj, ad_z, ad_z2, Nat.reduceEqDiff, reduceCtorEq, List.cons_append, List.nil_append, Option.toList_some, Option.toList_none, Int.toNat_natCast, List.length_cons, List.length_nil, Int.cast_ofNat_Int, Nat.reduceAdd, Nat.reduceLeDiff, Nat.reduceLT, Nat.reduceMul, Int.reduceAdd, Int.reduceSub, Int.reduceMul, Int.reduceNeg, Int.reduceLT, Int.reduceLE, Int.reduceEq, Int.reduceToNat, eq_self, true_and, and_true, true_or, or_true, false_or, or_false, if_true, if_false, not_true_eq_false, not_false_eq_true, and_self, ne_eq, hS]
  (repeat' (first | apply And.intro | split)) <;> first | omega | exact hQ | (rw [b2_t (by omega)] at hQ; exact hQ) | (rw [b2_f (by omega)] at hQ; exact hQ)
theorem hasFrame_ok (hS : isSc ρ a) (hW : WFV (-99) (vwC g a)) {m : Int} (hm0 : -2147483648 ≤ m) (hm1 : m < 2147483648) (Q : Option AV → Sto → Prop) : WpM zt 29 [AR a, AI m] (g, ρ) Q ↔ Q (some (AI (b2 (0 ≤ m ∧ m < g a 8)))) (g, ρ) := by
  refine wpm_iff (fun Q hQ => ?_) Q
  have hM := w_F hW
  simp only [m_S_hasFrame, b_S_hasFrame_0, P_S_hasFrame_16, b_S_hasFrame_16, P_S_hasFrame_17, b_S_hasFrame_17, wp_aln0, wp_goto, wp_icge, wp_iconst, wp_iln1, wp_iret, wp_izlt, wp_nop, wp_zret, qsc_kd, qsc_k1, qsc_l1, qsc_gf1, qsc_k2, qsc_l2, qsc_gf2, qsc_k3, qsc_l3, qsc_gf3, qsc_k4, qsc_l4, qsc_gf4, qsc_k5, qsc_l5, qsc_gf6, qsc_k6, qsc_l6, qsc_gf7, qsc_k7, qsc_l7, qsc_gf9, qsc_k8, qsc_l8, qsc_gf10, qsc_gf0, qsc_pf0, qsc_gf5, qsc_pf5, qsc_gf8, qsc_pf8, wrI_row, cpI_row, row_s, row_n, row_ss, row_sw, upd_s, upd_n, ad_inj, ad_z, ad_z2, Nat.reduceEqDiff, reduceCtorEq, List.cons_append, List.nil_append, Option.toList_some, Option.toList_none, Int.toNat_natCast, List.length_cons, List.length_nil, Int.cast_ofNat_Int, Nat.reduceAdd, Nat.reduceLeDiff, Nat.reduceLT, Nat.reduceMul, Int.reduceAdd, Int.reduceSub, Int.reduceMul, Int.reduceNeg, Int.reduceLT, Int.reduceLE, Int.reduceEq, Int.reduceToNat, eq_self, true_and, and_true, true_or, or_true, false_or, or_false, if_true, if_false, not_true_eq_false, not_false_eq_true, and_self, ne_eq, hS]
  (repeat' (first | apply And.intro | split)) <;> first | omega | exact hQ | (rw [b2_t (by omega)] at hQ; exact hQ) | (rw [b2_f (by omega)] at hQ; exact hQ)
theorem hasRoomFor_ok (hS : isSc ρ a) (hW : WFV (-99) (vwC g a)) {m : Int} (hm0 : 0 ≤ m) (hm1 : m ≤ 1000) (Q : Option AV → Sto → Prop) : WpM zt 30 [AR a, AI m] (g, ρ) Q ↔ Q (some (AI (b2 (g a 5 < 30 ∧ g a 8 + m ≤ 99)))) (g, ρ) := by
  refine wpm_iff (fun Q hQ => ?_) Q
  have hM := w_F hW
  have hG := w_G hW
  simp only [m_S_hasRoomFor, b_S_hasRoomFor_0, P_S_hasRoomFor_24, b_S_hasRoomFor_24, P_S_hasRoomFor_25, b_S_hasRoomFor_25, wp_aln0, wp_bipush, wp_goto, wp_iadd, wp_icge, wp_icgt, wp_iconst, wp_iln1, wp_iret, wp_nop, wp_zret, qsc_kd, qsc_k1, qsc_l1, qsc_gf1, qsc_k2, qsc_l2, qsc_gf2, qsc_k3, qsc_l3, qsc_gf3, qsc_k4, qsc_l4, qsc_gf4, qsc_k5, qsc_l5, qsc_gf6, qsc_k6, qsc_l6, qsc_gf7, qsc_k7, qsc_l7, qsc_gf9, qsc_k8, qsc_l8, qsc_gf10, qsc_gf0, qsc_pf0, qsc_gf5, qsc_pf5, qsc_gf8, qsc_pf8, wrI_row, cpI_row, row_s, row_n, row_ss, row_sw, upd_s, upd_n, ad_inj, ad_z, ad_z2, Nat.reduceEqDiff, reduceCtorEq, List.cons_append, List.nil_append, Option.toList_some, Option.toList_none, Int.toNat_natCast, List.length_cons, List.length_nil, Int.cast_ofNat_Int, Nat.reduceAdd, Nat.reduceLeDiff, Nat.reduceLT, Nat.reduceMul, Int.reduceAdd, Int.reduceSub, Int.reduceMul, Int.reduceNeg, Int.reduceLT, Int.reduceLE, Int.reduceEq, Int.reduceToNat, eq_self, true_and, and_true, true_or, or_true, false_or, or_false, if_true, if_false, not_true_eq_false, not_false_eq_true, and_self, ne_eq, hS]
  (repeat' (first | apply And.intro | split)) <;> first | omega | exact hQ | (rw [b2_t (by omega)] at hQ; exact hQ) | (rw [b2_f (by omega)] at hQ; exact hQ)
theorem distanceOf_ok (hS : isSc ρ a) (hW : WFV (-99) (vwC g a)) {m o w : Int} (hm0 : 0 ≤ m) (hm1 : m < g a 0) (ho : -1000 ≤ o ∧ o ≤ 1000) (hw : -1000 ≤ w ∧ w ≤ 1000) (Q : Option AV → Sto → Prop) : WpM zt 31 [AR a, AI m, AI o, AI w] (g, ρ) Q ↔ Q (some (AI (dstV (vwC g a) m.toNat o w))) (g, ρ) := by
  refine wpm_iff (fun Q hQ => ?_) Q
  have hM := w_M hW
  have h1 := w_op hW (j := m.toNat) (by omega)
  have h2 := w_wd hW (j := m.toNat) (by omega)
  simp only [m_S_distanceOf, b_S_distanceOf_0, wp_abs, wp_aln0, wp_copy, wp_cs1, wp_cs2, wp_cs3, wp_cs4, wp_cs5, wp_cs6, wp_cs7, wp_iald, wp_iln1, wp_iln2, wp_iln3, wp_iret, wp_isub, wp_max, wp_min, wp_zret, qsc_kd, qsc_k1, qsc_l1, qsc_gf1, qsc_k2, qsc_l2, qsc_gf2, qsc_k3, qsc_l3, qsc_gf3, qsc_k4, qsc_l4, qsc_gf4, qsc_k5, qsc_l5, qsc_gf6, qsc_k6, qsc_l6, qsc_gf7, qsc_k7, qsc_l7, qsc_gf9, qsc_k8, qsc_l8, qsc_gf10, qsc_gf0, qsc_pf0, qsc_gf5, qsc_pf5, qsc_gf8, qsc_pf8, wrI_row, cpI_row, row_s, row_n, row_ss, row_sw, upd_s, upd_n, ad_inj, ad_z, ad_z2, Nat.reduceEqDiff, reduceCtorEq, List.cons_append, List.nil_append, Option.toList_some, Option.toList_none, Int.toNat_natCast, List.length_cons, List.length_nil, Int.cast_ofNat_Int, Nat.reduceAdd, Nat.reduceLeDiff, Nat.reduceLT, Nat.reduceMul, Int.reduceAdd, Int.reduceSub, Int.reduceMul, Int.reduceNeg, Int.reduceLT, Int.reduceLE, Int.reduceEq, Int.reduceToNat, eq_self, true_and, and_true, true_or, or_true, false_or, or_false, if_true, if_false, not_true_eq_false, not_false_eq_true, and_self, ne_eq, hS]
  (repeat' (first | apply And.intro | split)) <;> first | omega | exact hQ | (rw [b2_t (by omega)] at hQ; exact hQ) | (rw [b2_f (by omega)] at hQ; exact hQ)
theorem dstV_b (hW : WFV (-99) (vwC g a)) {m : Nat} (hm : (m : Int) < g a 0) {o w : Int} (ho : -1000 ≤ o ∧ o ≤ 1000) (hw : -1000 ≤ w ∧ w ≤ 1000) : 0 ≤ dstV (vwC g a) m o w ∧ dstV (vwC g a) m o w ≤ 2000 := by
  have h1 := w_op hW hm
  have h2 := w_wd hW hm
  show 0 ≤ max ((g (ad a 1) m - o).natAbs : Int) ((g (ad a 2) m - w).natAbs : Int) ∧ max ((g (ad a 1) m - o).natAbs : Int) ((g (ad a 2) m - w).natAbs : Int) ≤ 2000
  omega
theorem jumpOf_ok (hS : isSc ρ a) (hW : WFV (-99) (vwC g a)) {x y : Int} (hx0 : 0 ≤ x) (hx1 : x < g a 0) (hy0 : 0 ≤ y) (hy1 : y < g a 0) (Q : Option AV → Sto → Prop) : WpM zt 32 [AR a, AI x, AI y] (g, ρ) Q ↔ Q (some (AI (jmpV (vwC g a) x.toNat y.toNat))) (g, ρ) := by
  refine wpm_iff (fun Q hQ => ?_) Q
  have hM := w_M hW
  have h1 := w_op hW (j := y.toNat) (by omega)
  have h2 := w_wd hW (j := y.toNat) (by omega)
  have e1 : -1000 ≤ g (ad a 1) y.toNat ∧ g (ad a 1) y.toNat ≤ 1000 := by omega
  have e2 : -1000 ≤ g (ad a 2) y.toNat ∧ g (ad a 2) y.toNat ≤ 1000 := by omega
  simp only [m_S_jumpOf, b_S_jumpOf_0, wp_aln0, wp_cv1, wp_cv2, wp_cv3, wp_cv4, wp_cv5, wp_cv6, wp_cv7, wp_iald, wp_iln1, wp_iln2, wp_iret, wp_zret, qsc_kd, qsc_k1, qsc_l1, qsc_gf1, qsc_k2, qsc_l2, qsc_gf2, qsc_k3, qsc_l3, qsc_gf3, qsc_k4, qsc_l4, qsc_gf4, qsc_k5, qsc_l5, qsc_gf6, qsc_k6, qsc_l6, qsc_gf7, qsc_k7, qsc_l7, qsc_gf9, qsc_k8, qsc_l8, qsc_gf10, qsc_gf0, qsc_pf0, qsc_gf5, qsc_pf5, qsc_gf8, qsc_pf8, wrI_row, cpI_row, row_s, row_n, row_ss, row_sw, upd_s, upd_n, ad_inj, ad_z, ad_z2, Nat.reduceEqDiff, reduceCtorEq, List.cons_append, List.nil_append, Option.toList_some, Option.toList_none, Int.toNat_natCast, List.length_cons, List.length_nil, Int.cast_ofNat_Int, Nat.reduceAdd, Nat.reduceLeDiff, Nat.reduceLT, Nat.reduceMul, Int.reduceAdd, Int.reduceSub, Int.reduceMul, Int.reduceNeg, Int.reduceLT, Int.reduceLE, Int.reduceEq, Int.reduceToNat, eq_self, true_and, and_true, true_or, or_true, false_or, or_false, if_true, if_false, not_true_eq_false, not_false_eq_true, and_self, ne_eq, hS, distanceOf_ok hS hW hx0 hx1 e1 e2]
  (repeat' (first | apply And.intro | split)) <;> first | omega | exact hQ | (rw [b2_t (by omega)] at hQ; exact hQ) | (rw [b2_f (by omega)] at hQ; exact hQ)
theorem amin_1 {f : Nat → Int} : amin f 1 = 0 := by simp [amin]
theorem nearestOfAll_loop (hS : isSc ρ a) (hW : WFV (-99) (vwC g a)) {o w : Int} (ho : -1000 ≤ o ∧ o ≤ 1000) (hw : -1000 ≤ w ∧ w ≤ 1000) {Q : Option AV → Sto → Prop} (hQ : Q (some (AI (amin (fun m => dstV (vwC g a) m o w) (g a 0).toNat : Nat))) (g, ρ)) :
    ∀ (d m : Nat), (m : Int) + d = g a 0 → 1 ≤ m → Wp zt 33 (P 33 5) [some (AR a), some (AI o), some (AI w), some (AI (amin (fun m => dstV (vwC g a) m o w) m : Nat)), some (AI m)] [] (g, ρ) Q := by
  have hM := w_M hW
  intro d
  induction d with
  | zero =>
    intro m hm h1
    have e : (g a 0).toNat = m := by omega
    rw [e] at hQ
    rw [P_S_nearestOfAll_5]
    simp only [m_S_nearestOfAll, b_S_nearestOfAll_0, P_S_nearestOfAll_35, b_S_nearestOfAll_35, P_S_nearestOfAll_41, b_S_nearestOfAll_41, wp_aln0, wp_cv1, wp_cv2, wp_cv3, wp_cv4, wp_cv5, wp_cv6, wp_cv7, wp_goto, wp_icge, wp_iconst, wp_il4, wp_iln1, wp_iln2, wp_iln3, wp_inc4, wp_iret, wp_is4, wp_isn3, wp_nop, wp_zret, qsc_kd, qsc_k1, qsc_l1, qsc_gf1, qsc_k2, qsc_l2, qsc_gf2, qsc_k3, qsc_l3, qsc_gf3, qsc_k4, qsc_l4, qsc_gf4, qsc_k5, qsc_l5, qsc_gf6, qsc_k6, qsc_l6, qsc_gf7, qsc_k7, qsc_l7, qsc_gf9, qsc_k8, qsc_l8, qsc_gf10, qsc_gf0, qsc_pf0, qsc_gf5, qsc_pf5, qsc_gf8, qsc_pf8, wrI_row, cpI_row, row_s, row_n, row_ss, row_sw, upd_s, upd_n, ad_inj, ad_z, ad_z2, Nat.reduceEqDiff, reduceCtorEq, List.cons_append, List.nil_append, Option.toList_some, Option.toList_none, Int.toNat_natCast, List.length_cons, List.length_nil, Int.cast_ofNat_Int, Nat.reduceAdd, Nat.reduceLeDiff, Nat.reduceLT, Nat.reduceMul, Int.reduceAdd, Int.reduceSub, Int.reduceMul, Int.reduceNeg, Int.reduceLT, Int.reduceLE, Int.reduceEq, Int.reduceToNat, eq_self, true_and, and_true, true_or, or_true, false_or, or_false, if_true, if_false, not_true_eq_false, not_false_eq_true, and_self, ne_eq, b_S_nearestOfAll_5, hS]
    (repeat' (first | apply And.intro | split)) <;> first | omega | exact hQ | (rw [b2_t (by omega)] at hQ; exact hQ) | (rw [b2_f (by omega)] at hQ; exact hQ)
  | succ d ih =>
    intro m hm h1
    have hb := amin_lt (f := fun m => dstV (vwC g a) m o w) m h1
    have hb2 : ((amin (fun m => dstV (vwC g a) m o w) m : Nat) : Int) < g a 0 := by omega
    have k1 := dstV_b hW (m := m) (by omega) ho hw
    have k2 := dstV_b hW hb2 ho hw
    have i1 := ih (m + 1) (by omega) (by omega)
    simp only [amin] at i1
    rw [P_S_nearestOfAll_5]
    simp only [m_S_nearestOfAll, b_S_nearestOfAll_0, P_S_nearestOfAll_35, b_S_nearestOfAll_35, P_S_nearestOfAll_41, b_S_nearestOfAll_41, wp_aln0, wp_cv1, wp_cv2, wp_cv3, wp_cv4, wp_cv5, wp_cv6, wp_cv7, wp_goto, wp_icge, wp_iconst, wp_il4, wp_iln1, wp_iln2, wp_iln3, wp_inc4, wp_iret, wp_is4, wp_isn3, wp_nop, wp_zret, qsc_kd, qsc_k1, qsc_l1, qsc_gf1, qsc_k2, qsc_l2, qsc_gf2, qsc_k3, qsc_l3, qsc_gf3, qsc_k4, qsc_l4, qsc_gf4, qsc_k5, qsc_l5, qsc_gf6, qsc_k6, qsc_l6, qsc_gf7, qsc_k7, qsc_l7, qsc_gf9, qsc_k8, qsc_l8, qsc_gf10, qsc_gf0, qsc_pf0, qsc_gf5, qsc_pf5, qsc_gf8, qsc_pf8, wrI_row, cpI_row, row_s, row_n, row_ss, row_sw, upd_s, upd_n, ad_inj, ad_z, ad_z2, Nat.reduceEqDiff, reduceCtorEq, List.cons_append, List.nil_append, Option.toList_some, Option.toList_none, Int.toNat_natCast, List.length_cons, List.length_nil, Int.cast_ofNat_Int, Nat.reduceAdd, Nat.reduceLeDiff, Nat.reduceLT, Nat.reduceMul, Int.reduceAdd, Int.reduceSub, Int.reduceMul, Int.reduceNeg, Int.reduceLT, Int.reduceLE, Int.reduceEq, Int.reduceToNat, eq_self, true_and, and_true, true_or, or_true, false_or, or_false, if_true, if_false, not_true_eq_false, not_false_eq_true, and_self, ne_eq, b_S_nearestOfAll_5, hS, distanceOf_ok hS hW (show (0 : Int) ≤ (m : Int) by omega) (by omega) ho hw, distanceOf_ok hS hW (show (0 : Int) ≤ ((amin (fun m => dstV (vwC g a) m o w) m : Nat) : Int) by omega) hb2 ho hw]
    refine ⟨by omega, ?_⟩
    rw [if_neg (by omega)]
    refine ⟨by omega, ?_⟩
    by_cases hc : dstV (vwC g a) m o w < dstV (vwC g a) (amin (fun m => dstV (vwC g a) m o w) m) o w
    · rw [if_pos hc] at i1
      rw [if_neg (by omega)]
      exact i1
    · rw [if_neg hc] at i1
      rw [if_pos (by omega)]
      exact i1
theorem nearestOfAll_ok (hS : isSc ρ a) (hW : WFV (-99) (vwC g a)) {o w : Int} (ho : -1000 ≤ o ∧ o ≤ 1000) (hw : -1000 ≤ w ∧ w ≤ 1000) (Q : Option AV → Sto → Prop) : WpM zt 33 [AR a, AI o, AI w] (g, ρ) Q ↔ Q (some (AI (amin (fun m => dstV (vwC g a) m o w) (g a 0).toNat : Nat))) (g, ρ) := by
  refine wpm_iff (fun Q hQ => ?_) Q
  have hM := w_M hW
  have h1 := nearestOfAll_loop (zt := zt) hS hW ho hw hQ ((g a 0).toNat - 1) 1 (by omega) (Nat.le_refl _)
  simp only [m_S_nearestOfAll, b_S_nearestOfAll_0, P_S_nearestOfAll_35, b_S_nearestOfAll_35, P_S_nearestOfAll_41, b_S_nearestOfAll_41, wp_aln0, wp_cv1, wp_cv2, wp_cv3, wp_cv4, wp_cv5, wp_cv6, wp_cv7, wp_goto, wp_icge, wp_iconst, wp_il4, wp_iln1, wp_iln2, wp_iln3, wp_inc4, wp_iret, wp_is4, wp_isn3, wp_nop, wp_zret, wrI_row, cpI_row, row_s, row_n, row_ss, row_sw, upd_s, upd_n, ad_inj, ad_z, ad_z2, Nat.reduceEqDiff, reduceCtorEq, List.cons_append, List.nil_append, Option.toList_some, Option.toList_none, Int.toNat_natCast, List.length_cons, List.length_nil, Int.cast_ofNat_Int, Nat.reduceAdd, Nat.reduceLeDiff, Nat.reduceLT, Nat.reduceMul, Int.reduceAdd, Int.reduceSub, Int.reduceMul, Int.reduceNeg, Int.reduceLT, Int.reduceLE, Int.reduceEq, Int.reduceToNat, eq_self, true_and, and_true, true_or, or_true, false_or, or_false, if_true, if_false, not_true_eq_false, not_false_eq_true, and_self, ne_eq, hS]
  rw [amin_1] at h1
  exact h1
theorem aminP_b {p : Nat → Bool} {f : Nat → Int} : ∀ n : Nat, aminP p f n = -1 ∨ (0 ≤ aminP p f n ∧ aminP p f n < n)
  | 0 => Or.inl rfl
  | n + 1 => by
    have h := aminP_b (p := p) (f := f) n
    simp only [aminP]
    split <;> omega
theorem nearestWithin_loop (hS : isSc ρ a) (hW : WFV (-99) (vwC g a)) {x o w : Int} (hx0 : 0 ≤ x) (hx1 : x < g a 0) (ho : -1000 ≤ o ∧ o ≤ 1000) (hw : -1000 ≤ w ∧ w ≤ 1000) {Q : Option AV → Sto → Prop} (hQ : Q (some (AI (if aminP (fun m => decide (jmpV (vwC g a) x.toNat m ≤ g (ad a 4) 0)) (fun m => dstV (vwC g a) m o w) (g a 0).toNat = -1 then x else aminP (fun m => decide (jmpV (vwC g a) x.toNat m ≤ g (ad a 4) 0)) (fun m => dstV (vwC g a) m o w) (g a 0).toNat))) (g, ρ)) :
    ∀ (d m : Nat), (m : Int) + d = g a 0 → Wp zt 34 (P 34 6) [some (AR a), some (AI x), some (AI o), some (AI w), some (AI (aminP (fun m => decide (jmpV (vwC g a) x.toNat m ≤ g (ad a 4) 0)) (fun m => dstV (vwC g a) m o w) m)), some (AI m)] [] (g, ρ) Q := by
  have hM := w_M hW
  have hN := w_nm hW
  intro d
  induction d with
  | zero =>
    intro m hm
    have e : (g a 0).toNat = m := by omega
    rw [e] at hQ
    have hb := aminP_b (p := fun m => decide (jmpV (vwC g a) x.toNat m ≤ g (ad a 4) 0)) (f := fun m => dstV (vwC g a) m o w) m
    generalize aminP (fun m => decide (jmpV (vwC g a) x.toNat m ≤ g (ad a 4) 0)) (fun m => dstV (vwC g a) m o w) m = best at *
    by_cases hc : best = -1
    · rw [if_pos hc] at hQ
      rw [P_S_nearestWithin_6]
      simp only [m_S_nearestWithin, b_S_nearestWithin_0, P_S_nearestWithin_56, b_S_nearestWithin_56, P_S_nearestWithin_60, b_S_nearestWithin_60, P_S_nearestWithin_66, b_S_nearestWithin_66, P_S_nearestWithin_76, b_S_nearestWithin_76, P_S_nearestWithin_78, b_S_nearestWithin_78, wp_aln0, wp_cv1, wp_cv2, wp_cv3, wp_cv4, wp_cv5, wp_cv6, wp_cv7, wp_goto, wp_iald, wp_iceq, wp_icge, wp_icgt, wp_icne, wp_iconst, wp_il4, wp_il5, wp_iln1, wp_iln2, wp_iln3, wp_inc5, wp_iret, wp_is4, wp_is5, wp_nop, wp_zret, qsc_kd, qsc_k1, qsc_l1, qsc_gf1, qsc_k2, qsc_l2, qsc_gf2, qsc_k3, qsc_l3, qsc_gf3, qsc_k4, qsc_l4, qsc_gf4, qsc_k5, qsc_l5, qsc_gf6, qsc_k6, qsc_l6, qsc_gf7, qsc_k7, qsc_l7, qsc_gf9, qsc_k8, qsc_l8, qsc_gf10, qsc_gf0, qsc_pf0, qsc_gf5, qsc_pf5, qsc_gf8, qsc_pf8, wrI_row, cpI_row, row_s, row_n, row_ss, row_sw, upd_s, upd_n, ad_inj, ad_z, ad_z2, Nat.reduceEqDiff, reduceCtorEq, List.cons_append, List.nil_append, Option.toList_some, Option.toList_none, Int.toNat_natCast, List.length_cons, List.length_nil, Int.cast_ofNat_Int, Nat.reduceAdd, Nat.reduceLeDiff, Nat.reduceLT, Nat.reduceMul, Int.reduceAdd, Int.reduceSub, Int.reduceMul, Int.reduceNeg, Int.reduceLT, Int.reduceLE, Int.reduceEq, Int.reduceToNat, eq_self, true_and, and_true, true_or, or_true, false_or, or_false, if_true, if_false, not_true_eq_false, not_false_eq_true, and_self, ne_eq, b_S_nearestWithin_6, hS]
      (repeat' (first | apply And.intro | split)) <;> first | omega | exact hQ | (rw [b2_t (by omega)] at hQ; exact hQ) | (rw [b2_f (by omega)] at hQ; exact hQ)
    · rw [if_neg hc] at hQ
      rw [P_S_nearestWithin_6]
      simp only [m_S_nearestWithin, b_S_nearestWithin_0, P_S_nearestWithin_56, b_S_nearestWithin_56, P_S_nearestWithin_60, b_S_nearestWithin_60, P_S_nearestWithin_66, b_S_nearestWithin_66, P_S_nearestWithin_76, b_S_nearestWithin_76, P_S_nearestWithin_78, b_S_nearestWithin_78, wp_aln0, wp_cv1, wp_cv2, wp_cv3, wp_cv4, wp_cv5, wp_cv6, wp_cv7, wp_goto, wp_iald, wp_iceq, wp_icge, wp_icgt, wp_icne, wp_iconst, wp_il4, wp_il5, wp_iln1, wp_iln2, wp_iln3, wp_inc5, wp_iret, wp_is4, wp_is5, wp_nop, wp_zret, qsc_kd, qsc_k1, qsc_l1, qsc_gf1, qsc_k2, qsc_l2, qsc_gf2, qsc_k3, qsc_l3, qsc_gf3, qsc_k4, qsc_l4, qsc_gf4, qsc_k5, qsc_l5, qsc_gf6, qsc_k6, qsc_l6, qsc_gf7, qsc_k7, qsc_l7, qsc_gf9, qsc_k8, qsc_l8, qsc_gf10, qsc_gf0, qsc_pf0, qsc_gf5, qsc_pf5, qsc_gf8, qsc_pf8, wrI_row, cpI_row, row_s, row_n, row_ss, row_sw, upd_s, upd_n, ad_inj, ad_z, ad_z2, Nat.reduceEqDiff, reduceCtorEq, List.cons_append, List.nil_append, Option.toList_some, Option.toList_none, Int.toNat_natCast, List.length_cons, List.length_nil, Int.cast_ofNat_Int, Nat.reduceAdd, Nat.reduceLeDiff, Nat.reduceLT, Nat.reduceMul, Int.reduceAdd, Int.reduceSub, Int.reduceMul, Int.reduceNeg, Int.reduceLT, Int.reduceLE, Int.reduceEq, Int.reduceToNat, eq_self, true_and, and_true, true_or, or_true, false_or, or_false, if_true, if_false, not_true_eq_false, not_false_eq_true, and_self, ne_eq, b_S_nearestWithin_6, hS]
      (repeat' (first | apply And.intro | split)) <;> first | omega | exact hQ | (rw [b2_t (by omega)] at hQ; exact hQ) | (rw [b2_f (by omega)] at hQ; exact hQ)
  | succ d ih =>
    intro m hm
    have hb := aminP_b (p := fun m => decide (jmpV (vwC g a) x.toNat m ≤ g (ad a 4) 0)) (f := fun m => dstV (vwC g a) m o w) m
    have i1 := ih (m + 1) (by omega)
    simp only [aminP, decide_eq_true_eq] at i1
    have k0 : -1000 ≤ g (ad a 1) m ∧ g (ad a 1) m ≤ 1000 := by have := w_op hW (j := m) (by omega); omega
    have k00 : -1000 ≤ g (ad a 2) m ∧ g (ad a 2) m ≤ 1000 := by have := w_wd hW (j := m) (by omega); omega
    have k1 : 0 ≤ jmpV (vwC g a) x.toNat m ∧ jmpV (vwC g a) x.toNat m ≤ 2000 := dstV_b hW (m := x.toNat) (by omega) k0 k00
    have k2 := dstV_b hW (m := m) (by omega) ho hw
    generalize hbe : aminP (fun m => decide (jmpV (vwC g a) x.toNat m ≤ g (ad a 4) 0)) (fun m => dstV (vwC g a) m o w) m = best at *
    have hj := jumpOf_ok (zt := zt) hS hW hx0 hx1 (show (0 : Int) ≤ (m : Int) by omega) (show (m : Int) < g a 0 by omega)
    have hd := distanceOf_ok (zt := zt) hS hW (show (0 : Int) ≤ (m : Int) by omega) (show (m : Int) < g a 0 by omega) ho hw
    by_cases hbb : best = -1
    · subst hbb
      simp only [true_or, and_true] at i1
      rw [P_S_nearestWithin_6]
      simp only [m_S_nearestWithin, b_S_nearestWithin_0, P_S_nearestWithin_56, b_S_nearestWithin_56, P_S_nearestWithin_60, b_S_nearestWithin_60, P_S_nearestWithin_66, b_S_nearestWithin_66, P_S_nearestWithin_76, b_S_nearestWithin_76, P_S_nearestWithin_78, b_S_nearestWithin_78, wp_aln0, wp_cv1, wp_cv2, wp_cv3, wp_cv4, wp_cv5, wp_cv6, wp_cv7, wp_goto, wp_iald, wp_iceq, wp_icge, wp_icgt, wp_icne, wp_iconst, wp_il4, wp_il5, wp_iln1, wp_iln2, wp_iln3, wp_inc5, wp_iret, wp_is4, wp_is5, wp_nop, wp_zret, qsc_kd, qsc_k1, qsc_l1, qsc_gf1, qsc_k2, qsc_l2, qsc_gf2, qsc_k3, qsc_l3, qsc_gf3, qsc_k4, qsc_l4, qsc_gf4, qsc_k5, qsc_l5, qsc_gf6, qsc_k6, qsc_l6, qsc_gf7, qsc_k7, qsc_l7, qsc_gf9, qsc_k8, qsc_l8, qsc_gf10, qsc_gf0, qsc_pf0, qsc_gf5, qsc_pf5, qsc_gf8, qsc_pf8, wrI_row, cpI_row, row_s, row_n, row_ss, row_sw, upd_s, upd_n, ad_inj, ad_z, ad_z2, Nat.reduceEqDiff, reduceCtorEq, List.cons_append, List.nil_append, Option.toList_some, Option.toList_none, Int.toNat_natCast, List.length_cons, List.length_nil, Int.cast_ofNat_Int, Nat.reduceAdd, Nat.reduceLeDiff, Nat.reduceLT, Nat.reduceMul, Int.reduceAdd, Int.reduceSub, Int.reduceMul, Int.reduceNeg, Int.reduceLT, Int.reduceLE, Int.reduceEq, Int.reduceToNat, eq_self, true_and, and_true, true_or, or_true, false_or, or_false, if_true, if_false, not_true_eq_false, not_false_eq_true, and_self, ne_eq, b_S_nearestWithin_6, hS, hj, hd]
      split at i1 <;> (repeat' (first | apply And.intro | split)) <;> first | omega | exact i1 | (rw [b2_t (by omega)] at i1; exact i1) | (rw [b2_f (by omega)] at i1; exact i1)
    · have hd2 := distanceOf_ok (zt := zt) hS hW (show (0 : Int) ≤ best by omega) (show best < g a 0 by omega) ho hw
      have k3 := dstV_b hW (m := best.toNat) (by omega) ho hw
      simp only [hbb, false_or] at i1
      rw [P_S_nearestWithin_6]
      simp only [m_S_nearestWithin, b_S_nearestWithin_0, P_S_nearestWithin_56, b_S_nearestWithin_56, P_S_nearestWithin_60, b_S_nearestWithin_60, P_S_nearestWithin_66, b_S_nearestWithin_66, P_S_nearestWithin_76, b_S_nearestWithin_76, P_S_nearestWithin_78, b_S_nearestWithin_78, wp_aln0, wp_cv1, wp_cv2, wp_cv3, wp_cv4, wp_cv5, wp_cv6, wp_cv7, wp_goto, wp_iald, wp_iceq, wp_icge, wp_icgt, wp_icne, wp_iconst, wp_il4, wp_il5, wp_iln1, wp_iln2, wp_iln3, wp_inc5, wp_iret, wp_is4, wp_is5, wp_nop, wp_zret, qsc_kd, qsc_k1, qsc_l1, qsc_gf1, qsc_k2, qsc_l2, qsc_gf2, qsc_k3, qsc_l3, qsc_gf3, qsc_k4, qsc_l4, qsc_gf4, qsc_k5, qsc_l5, qsc_gf6, qsc_k6, qsc_l6, qsc_gf7, qsc_k7, qsc_l7, qsc_gf9, qsc_k8, qsc_l8, qsc_gf10, qsc_gf0, qsc_pf0, qsc_gf5, qsc_pf5, qsc_gf8, qsc_pf8, wrI_row, cpI_row, row_s, row_n, row_ss, row_sw, upd_s, upd_n, ad_inj, ad_z, ad_z2, Nat.reduceEqDiff, reduceCtorEq, List.cons_append, List.nil_append, Option.toList_some, Option.toList_none, Int.toNat_natCast, List.length_cons, List.length_nil, Int.cast_ofNat_Int, Nat.reduceAdd, Nat.reduceLeDiff, Nat.reduceLT, Nat.reduceMul, Int.reduceAdd, Int.reduceSub, Int.reduceMul, Int.reduceNeg, Int.reduceLT, Int.reduceLE, Int.reduceEq, Int.reduceToNat, eq_self, true_and, and_true, true_or, or_true, false_or, or_false, if_true, if_false, not_true_eq_false, not_false_eq_true, and_self, ne_eq, b_S_nearestWithin_6, hS, hj, hd, hd2, hbb]
      split at i1 <;> (repeat' (first | apply And.intro | split)) <;> first | omega | exact i1 | (rw [b2_t (by omega)] at i1; exact i1) | (rw [b2_f (by omega)] at i1; exact i1)
theorem nearestWithin_ok (hS : isSc ρ a) (hW : WFV (-99) (vwC g a)) {x o w : Int} (hx0 : 0 ≤ x) (hx1 : x < g a 0) (ho : -1000 ≤ o ∧ o ≤ 1000) (hw : -1000 ≤ w ∧ w ≤ 1000) (Q : Option AV → Sto → Prop) : WpM zt 34 [AR a, AI x, AI o, AI w] (g, ρ) Q ↔ Q (some (AI (if aminP (fun m => decide (jmpV (vwC g a) x.toNat m ≤ g (ad a 4) 0)) (fun m => dstV (vwC g a) m o w) (g a 0).toNat = -1 then x else aminP (fun m => decide (jmpV (vwC g a) x.toNat m ≤ g (ad a 4) 0)) (fun m => dstV (vwC g a) m o w) (g a 0).toNat))) (g, ρ) := by
  refine wpm_iff (fun Q hQ => ?_) Q
  have hM := w_M hW
  have h1 := nearestWithin_loop (zt := zt) hS hW hx0 hx1 ho hw hQ (g a 0).toNat 0 (by omega)
  simp only [m_S_nearestWithin, b_S_nearestWithin_0, P_S_nearestWithin_56, b_S_nearestWithin_56, P_S_nearestWithin_60, b_S_nearestWithin_60, P_S_nearestWithin_66, b_S_nearestWithin_66, P_S_nearestWithin_76, b_S_nearestWithin_76, P_S_nearestWithin_78, b_S_nearestWithin_78, wp_aln0, wp_cv1, wp_cv2, wp_cv3, wp_cv4, wp_cv5, wp_cv6, wp_cv7, wp_goto, wp_iald, wp_iceq, wp_icge, wp_icgt, wp_icne, wp_iconst, wp_il4, wp_il5, wp_iln1, wp_iln2, wp_iln3, wp_inc5, wp_iret, wp_is4, wp_is5, wp_nop, wp_zret, wrI_row, cpI_row, row_s, row_n, row_ss, row_sw, upd_s, upd_n, ad_inj, ad_z, ad_z2, Nat.reduceEqDiff, reduceCtorEq, List.cons_append, List.nil_append, Option.toList_some, Option.toList_none, Int.toNat_natCast, List.length_cons, List.length_nil, Int.cast_ofNat_Int, Nat.reduceAdd, Nat.reduceLeDiff, Nat.reduceLT, Nat.reduceMul, Int.reduceAdd, Int.reduceSub, Int.reduceMul, Int.reduceNeg, Int.reduceLT, Int.reduceLE, Int.reduceEq, Int.reduceToNat, eq_self, true_and, and_true, true_or, or_true, false_or, or_false, if_true, if_false, not_true_eq_false, not_false_eq_true, and_self, ne_eq, hS]
  exact h1
theorem wrongOf_ok (hS : isSc ρ a) (hW : WFV (-99) (vwC g a)) {kd m : Int} (hk0 : 0 ≤ kd) (hk1 : kd ≤ 9) (hm0 : 0 ≤ m) (hm1 : m < g a 0) (Q : Option AV → Sto → Prop) : WpM zt 35 [AR a, AI kd, AI m] (g, ρ) Q ↔ Q (some (AI (wrgV (vwC g a) kd m.toNat))) (g, ρ) := by
  refine wpm_iff (fun Q hQ => ?_) Q
  have hM := w_M hW
  have hN := w_nm hW
  have h1 := w_op hW (j := m.toNat) (by omega)
  have h2 := w_wd hW (j := m.toNat) (by omega)
  unfold wrgV at hQ
  by_cases hc : kd = 9
  · rw [if_pos hc] at hQ
    subst hc
    simp only [m_S_wrongOf, b_S_wrongOf_0, P_S_wrongOf_27, b_S_wrongOf_27, wp_abs, wp_aln0, wp_bipush, wp_copy, wp_cs1, wp_cs2, wp_cs3, wp_cs4, wp_cs5, wp_cs6, wp_cs7, wp_iadd, wp_iald, wp_icne, wp_iconst, wp_iln1, wp_iln2, wp_iln3, wp_imul, wp_iret, wp_isn3, wp_isub, wp_max, wp_min, wp_zret, qsc_kd, qsc_k1, qsc_l1, qsc_gf1, qsc_k2, qsc_l2, qsc_gf2, qsc_k3, qsc_l3, qsc_gf3, qsc_k4, qsc_l4, qsc_gf4, qsc_k5, qsc_l5, qsc_gf6, qsc_k6, qsc_l6, qsc_gf7, qsc_k7, qsc_l7, qsc_gf9, qsc_k8, qsc_l8, qsc_gf10, qsc_gf0, qsc_pf0, qsc_gf5, qsc_pf5, qsc_gf8, qsc_pf8, wrI_row, cpI_row, row_s, row_n, row_ss, row_sw, upd_s, upd_n, ad_inj, ad_z, ad_z2, Nat.reduceEqDiff, reduceCtorEq, List.cons_append, List.nil_append, Option.toList_some, Option.toList_none, Int.toNat_natCast, List.length_cons, List.length_nil, Int.cast_ofNat_Int, Nat.reduceAdd, Nat.reduceLeDiff, Nat.reduceLT, Nat.reduceMul, Int.reduceAdd, Int.reduceSub, Int.reduceMul, Int.reduceNeg, Int.reduceLT, Int.reduceLE, Int.reduceEq, Int.reduceToNat, eq_self, true_and, and_true, true_or, or_true, false_or, or_false, if_true, if_false, not_true_eq_false, not_false_eq_true, and_self, ne_eq, hS]
    (repeat' (first | apply And.intro | split)) <;> first | omega | exact hQ | (rw [b2_t (by omega)] at hQ; exact hQ) | (rw [b2_f (by omega)] at hQ; exact hQ)
  · rw [if_neg hc] at hQ
    have h3 := w_sn hW (j := (kd * 4 + 2).toNat) (by omega)
    have h4 := w_sn hW (j := (kd * 4 + 0).toNat) (by omega)
    have h5 := w_sn hW (j := (kd * 4 + 1).toNat) (by omega)
    simp only [m_S_wrongOf, b_S_wrongOf_0, P_S_wrongOf_27, b_S_wrongOf_27, wp_abs, wp_aln0, wp_bipush, wp_copy, wp_cs1, wp_cs2, wp_cs3, wp_cs4, wp_cs5, wp_cs6, wp_cs7, wp_iadd, wp_iald, wp_icne, wp_iconst, wp_iln1, wp_iln2, wp_iln3, wp_imul, wp_iret, wp_isn3, wp_isub, wp_max, wp_min, wp_zret, qsc_kd, qsc_k1, qsc_l1, qsc_gf1, qsc_k2, qsc_l2, qsc_gf2, qsc_k3, qsc_l3, qsc_gf3, qsc_k4, qsc_l4, qsc_gf4, qsc_k5, qsc_l5, qsc_gf6, qsc_k6, qsc_l6, qsc_gf7, qsc_k7, qsc_l7, qsc_gf9, qsc_k8, qsc_l8, qsc_gf10, qsc_gf0, qsc_pf0, qsc_gf5, qsc_pf5, qsc_gf8, qsc_pf8, wrI_row, cpI_row, row_s, row_n, row_ss, row_sw, upd_s, upd_n, ad_inj, ad_z, ad_z2, Nat.reduceEqDiff, reduceCtorEq, List.cons_append, List.nil_append, Option.toList_some, Option.toList_none, Int.toNat_natCast, List.length_cons, List.length_nil, Int.cast_ofNat_Int, Nat.reduceAdd, Nat.reduceLeDiff, Nat.reduceLT, Nat.reduceMul, Int.reduceAdd, Int.reduceSub, Int.reduceMul, Int.reduceNeg, Int.reduceLT, Int.reduceLE, Int.reduceEq, Int.reduceToNat, eq_self, true_and, and_true, true_or, or_true, false_or, or_false, if_true, if_false, not_true_eq_false, not_false_eq_true, and_self, ne_eq, hS, hc]
    (repeat' (first | apply And.intro | split)) <;> first | omega | exact hQ | (rw [b2_t (by omega)] at hQ; exact hQ) | (rw [b2_f (by omega)] at hQ; exact hQ)
theorem wrgV_b (hW : WFV (-99) (vwC g a)) {kd : Int} (hk0 : 0 ≤ kd) (hk1 : kd ≤ 9) {m : Nat} (hm1 : (m : Int) < g a 0) : 0 ≤ wrgV (vwC g a) kd m ∧ wrgV (vwC g a) kd m ≤ 162 := by
  have hN := w_nm hW
  have h1 := w_op hW (j := m) (by omega)
  have h2 := w_wd hW (j := m) (by omega)
  unfold wrgV
  by_cases hc : kd = 9
  · rw [if_pos hc]
    show 0 ≤ 9 * max 0 (g (ad a 4) 2 - g (ad a 1) m) ∧ 9 * max 0 (g (ad a 4) 2 - g (ad a 1) m) ≤ 162
    omega
  · rw [if_neg hc]
    have h3 := w_sn hW (j := (kd * 4 + 2).toNat) (by omega)
    have h4 := w_sn hW (j := (kd * 4 + 0).toNat) (by omega)
    have h5 := w_sn hW (j := (kd * 4 + 1).toNat) (by omega)
    show 0 ≤ g (ad a 3) (kd * 4 + 2).toNat * (((g (ad a 1) m - g (ad a 3) (kd * 4 + 0).toNat).natAbs : Int) + ((g (ad a 2) m - g (ad a 3) (kd * 4 + 1).toNat).natAbs : Int)) ∧ g (ad a 3) (kd * 4 + 2).toNat * (((g (ad a 1) m - g (ad a 3) (kd * 4 + 0).toNat).natAbs : Int) + ((g (ad a 2) m - g (ad a 3) (kd * 4 + 1).toNat).natAbs : Int)) ≤ 162
    generalize hd : ((g (ad a 1) m - g (ad a 3) (kd * 4 + 0).toNat).natAbs : Int) + ((g (ad a 2) m - g (ad a 3) (kd * 4 + 1).toNat).natAbs : Int) = D
    have hD : 0 ≤ D ∧ D ≤ 18 := by omega
    generalize g (ad a 3) (kd * 4 + 2).toNat = E at *
    refine ⟨Int.mul_nonneg h3.1 hD.1, ?_⟩
    have := Int.mul_le_mul h3.2 hD.2 hD.1 (by omega : (0 : Int) ≤ 9)
    omega
theorem leastWrongFor_loop (hS : isSc ρ a) (hW : WFV (-99) (vwC g a)) {kd : Int} (hk0 : 0 ≤ kd) (hk1 : kd ≤ 9) {Q : Option AV → Sto → Prop} (hQ : Q (some (AI (amin (fun m => wrgV (vwC g a) kd m) (g a 0).toNat : Nat))) (g, ρ)) :
    ∀ (d m : Nat), (m : Int) + d = g a 0 → 1 ≤ m → Wp zt 36 (P 36 4) [some (AR a), some (AI kd), some (AI (amin (fun m => wrgV (vwC g a) kd m) m : Nat)), some (AI m)] [] (g, ρ) Q := by
  have hM := w_M hW
  intro d
  induction d with
  | zero =>
    intro m hm h1
    have e : (g a 0).toNat = m := by omega
    rw [e] at hQ
    rw [P_S_leastWrongFor_4]
    simp only [m_S_leastWrongFor, b_S_leastWrongFor_0, P_S_leastWrongFor_29, b_S_leastWrongFor_29, P_S_leastWrongFor_35, b_S_leastWrongFor_35, wp_aln0, wp_cv1, wp_cv2, wp_cv3, wp_cv4, wp_cv5, wp_cv6, wp_cv7, wp_goto, wp_icge, wp_iconst, wp_iln1, wp_iln2, wp_iln3, wp_inc3, wp_iret, wp_isn2, wp_isn3, wp_nop, wp_zret, qsc_kd, qsc_k1, qsc_l1, qsc_gf1, qsc_k2, qsc_l2, qsc_gf2, qsc_k3, qsc_l3, qsc_gf3, qsc_k4, qsc_l4, qsc_gf4, qsc_k5, qsc_l5, qsc_gf6, qsc_k6, qsc_l6, qsc_gf7, qsc_k7, qsc_l7, qsc_gf9, qsc_k8, qsc_l8, qsc_gf10, qsc_gf0, qsc_pf0, qsc_gf5, qsc_pf5, qsc_gf8, qsc_pf8, wrI_row, cpI_row, row_s, row_n, row_ss, row_sw, upd_s, upd_n, ad_inj, ad_z, ad_z2, Nat.reduceEqDiff, reduceCtorEq, List.cons_append, List.nil_append, Option.toList_some, Option.toList_none, Int.toNat_natCast, List.length_cons, List.length_nil, Int.cast_ofNat_Int, Nat.reduceAdd, Nat.reduceLeDiff, Nat.reduceLT, Nat.reduceMul, Int.reduceAdd, Int.reduceSub, Int.reduceMul, Int.reduceNeg, Int.reduceLT, Int.reduceLE, Int.reduceEq, Int.reduceToNat, eq_self, true_and, and_true, true_or, or_true, false_or, or_false, if_true, if_false, not_true_eq_false, not_false_eq_true, and_self, ne_eq, b_S_leastWrongFor_4, hS]
    (repeat' (first | apply And.intro | split)) <;> first | omega | exact hQ | (rw [b2_t (by omega)] at hQ; exact hQ) | (rw [b2_f (by omega)] at hQ; exact hQ)
  | succ d ih =>
    intro m hm h1
    have hb := amin_lt (f := fun m => wrgV (vwC g a) kd m) m h1
    have hb2 : ((amin (fun m => wrgV (vwC g a) kd m) m : Nat) : Int) < g a 0 := by omega
    have k1 := wrgV_b hW hk0 hk1 (m := m) (by omega)
    have k2 := wrgV_b hW hk0 hk1 hb2
    have i1 := ih (m + 1) (by omega) (by omega)
    simp only [amin] at i1
    have w1 := wrongOf_ok (zt := zt) hS hW hk0 hk1 (show (0 : Int) ≤ (m : Int) by omega) (show (m : Int) < g a 0 by omega)
    have w2 := wrongOf_ok (zt := zt) hS hW hk0 hk1 (show (0 : Int) ≤ ((amin (fun m => wrgV (vwC g a) kd m) m : Nat) : Int) by omega) hb2
    rw [P_S_leastWrongFor_4]
    simp only [m_S_leastWrongFor, b_S_leastWrongFor_0, P_S_leastWrongFor_29, b_S_leastWrongFor_29, P_S_leastWrongFor_35, b_S_leastWrongFor_35, wp_aln0, wp_cv1, wp_cv2, wp_cv3, wp_cv4, wp_cv5, wp_cv6, wp_cv7, wp_goto, wp_icge, wp_iconst, wp_iln1, wp_iln2, wp_iln3, wp_inc3, wp_iret, wp_isn2, wp_isn3, wp_nop, wp_zret, qsc_kd, qsc_k1, qsc_l1, qsc_gf1, qsc_k2, qsc_l2, qsc_gf2, qsc_k3, qsc_l3, qsc_gf3, qsc_k4, qsc_l4, qsc_gf4, qsc_k5, qsc_l5, qsc_gf6, qsc_k6, qsc_l6, qsc_gf7, qsc_k7, qsc_l7, qsc_gf9, qsc_k8, qsc_l8, qsc_gf10, qsc_gf0, qsc_pf0, qsc_gf5, qsc_pf5, qsc_gf8, qsc_pf8, wrI_row, cpI_row, row_s, row_n, row_ss, row_sw, upd_s, upd_n, ad_inj, ad_z, ad_z2, Nat.reduceEqDiff, reduceCtorEq, List.cons_append, List.nil_append, Option.toList_some, Option.toList_none, Int.toNat_natCast, List.length_cons, List.length_nil, Int.cast_ofNat_Int, Nat.reduceAdd, Nat.reduceLeDiff, Nat.reduceLT, Nat.reduceMul, Int.reduceAdd, Int.reduceSub, Int.reduceMul, Int.reduceNeg, Int.reduceLT, Int.reduceLE, Int.reduceEq, Int.reduceToNat, eq_self, true_and, and_true, true_or, or_true, false_or, or_false, if_true, if_false, not_true_eq_false, not_false_eq_true, and_self, ne_eq, b_S_leastWrongFor_4, hS, w1, w2]
    split at i1 <;> (repeat' (first | apply And.intro | split)) <;> first | omega | exact i1 | (rw [b2_t (by omega)] at i1; exact i1) | (rw [b2_f (by omega)] at i1; exact i1)
theorem leastWrongFor_ok (hS : isSc ρ a) (hW : WFV (-99) (vwC g a)) {kd : Int} (hk0 : 0 ≤ kd) (hk1 : kd ≤ 9) (Q : Option AV → Sto → Prop) : WpM zt 36 [AR a, AI kd] (g, ρ) Q ↔ Q (some (AI (amin (fun m => wrgV (vwC g a) kd m) (g a 0).toNat : Nat))) (g, ρ) := by
  refine wpm_iff (fun Q hQ => ?_) Q
  have hM := w_M hW
  have h1 := leastWrongFor_loop (zt := zt) hS hW hk0 hk1 hQ ((g a 0).toNat - 1) 1 (by omega) (Nat.le_refl _)
  simp only [m_S_leastWrongFor, b_S_leastWrongFor_0, P_S_leastWrongFor_29, b_S_leastWrongFor_29, P_S_leastWrongFor_35, b_S_leastWrongFor_35, wp_aln0, wp_cv1, wp_cv2, wp_cv3, wp_cv4, wp_cv5, wp_cv6, wp_cv7, wp_goto, wp_icge, wp_iconst, wp_iln1, wp_iln2, wp_iln3, wp_inc3, wp_iret, wp_isn2, wp_isn3, wp_nop, wp_zret, wrI_row, cpI_row, row_s, row_n, row_ss, row_sw, upd_s, upd_n, ad_inj, ad_z, ad_z2, Nat.reduceEqDiff, reduceCtorEq, List.cons_append, List.nil_append, Option.toList_some, Option.toList_none, Int.toNat_natCast, List.length_cons, List.length_nil, Int.cast_ofNat_Int, Nat.reduceAdd, Nat.reduceLeDiff, Nat.reduceLT, Nat.reduceMul, Int.reduceAdd, Int.reduceSub, Int.reduceMul, Int.reduceNeg, Int.reduceLT, Int.reduceLE, Int.reduceEq, Int.reduceToNat, eq_self, true_and, and_true, true_or, or_true, false_or, or_false, if_true, if_false, not_true_eq_false, not_false_eq_true, and_self, ne_eq, hS]
  rw [amin_1] at h1
  exact h1
theorem countSet_loop (hS : isSc ρ a) (hW : WFV (-99) (vwC g a)) {b : Nat} (hb : kdI ρ b 0) (hl : lnA ρ b = 99) (hr : ∀ j : Nat, (j : Int) < g a 8 → -2147483648 ≤ g b j ∧ g b j < 2147483648) {Q : Option AV → Sto → Prop} (hQ : Q (some (AI (cntS (-99) (g b) (g a 8).toNat))) (g, ρ)) :
    ∀ (d m : Nat), (m : Int) + d = g a 8 → Wp zt 37 (P 37 4) [some (AR a), some (AR b), some (AI (cntS (-99) (g b) m)), some (AI m)] [] (g, ρ) Q := by
  have hF := w_F hW
  intro d
  induction d with
  | zero =>
    intro m hm
    have e : (g a 8).toNat = m := by omega
    rw [e] at hQ
    rw [P_S_countSet_4]
    simp only [m_S_countSet, b_S_countSet_0, P_S_countSet_23, b_S_countSet_23, P_S_countSet_29, b_S_countSet_29, wp_aln0, wp_aln1, wp_bipush, wp_goto, wp_iald, wp_iceq, wp_icge, wp_iconst, wp_iln2, wp_iln3, wp_inc2, wp_inc3, wp_iret, wp_isn2, wp_isn3, wp_nop, wp_zret, qsc_kd, qsc_k1, qsc_l1, qsc_gf1, qsc_k2, qsc_l2, qsc_gf2, qsc_k3, qsc_l3, qsc_gf3, qsc_k4, qsc_l4, qsc_gf4, qsc_k5, qsc_l5, qsc_gf6, qsc_k6, qsc_l6, qsc_gf7, qsc_k7, qsc_l7, qsc_gf9, qsc_k8, qsc_l8, qsc_gf10, qsc_gf0, qsc_pf0, qsc_gf5, qsc_pf5, qsc_gf8, qsc_pf8, wrI_row, cpI_row, row_s, row_n, row_ss, row_sw, upd_s, upd_n, ad_inj, ad_z, ad_z2, Nat.reduceEqDiff, reduceCtorEq, List.cons_append, List.nil_append, Option.toList_some, Option.toList_none, Int.toNat_natCast, List.length_cons, List.length_nil, Int.cast_ofNat_Int, Nat.reduceAdd, Nat.reduceLeDiff, Nat.reduceLT, Nat.reduceMul, Int.reduceAdd, Int.reduceSub, Int.reduceMul, Int.reduceNeg, Int.reduceLT, Int.reduceLE, Int.reduceEq, Int.reduceToNat, eq_self, true_and, and_true, true_or, or_true, false_or, or_false, if_true, if_false, not_true_eq_false, not_false_eq_true, and_self, ne_eq, b_S_countSet_4, hS, hb, hl]
    (repeat' (first | apply And.intro | split)) <;> first | omega | exact hQ | (rw [b2_t (by omega)] at hQ; exact hQ) | (rw [b2_f (by omega)] at hQ; exact hQ)
  | succ d ih =>
    intro m hm
    have i1 := ih (m + 1) (by omega)
    have h1 := hr m (by omega)
    simp only [cntS] at i1
    rw [P_S_countSet_4]
    simp only [m_S_countSet, b_S_countSet_0, P_S_countSet_23, b_S_countSet_23, P_S_countSet_29, b_S_countSet_29, wp_aln0, wp_aln1, wp_bipush, wp_goto, wp_iald, wp_iceq, wp_icge, wp_iconst, wp_iln2, wp_iln3, wp_inc2, wp_inc3, wp_iret, wp_isn2, wp_isn3, wp_nop, wp_zret, qsc_kd, qsc_k1, qsc_l1, qsc_gf1, qsc_k2, qsc_l2, qsc_gf2, qsc_k3, qsc_l3, qsc_gf3, qsc_k4, qsc_l4, qsc_gf4, qsc_k5, qsc_l5, qsc_gf6, qsc_k6, qsc_l6, qsc_gf7, qsc_k7, qsc_l7, qsc_gf9, qsc_k8, qsc_l8, qsc_gf10, qsc_gf0, qsc_pf0, qsc_gf5, qsc_pf5, qsc_gf8, qsc_pf8, wrI_row, cpI_row, row_s, row_n, row_ss, row_sw, upd_s, upd_n, ad_inj, ad_z, ad_z2, Nat.reduceEqDiff, reduceCtorEq, List.cons_append, List.nil_append, Option.toList_some, Option.toList_none, Int.toNat_natCast, List.length_cons, List.length_nil, Int.cast_ofNat_Int, Nat.reduceAdd, Nat.reduceLeDiff, Nat.reduceLT, Nat.reduceMul, Int.reduceAdd, Int.reduceSub, Int.reduceMul, Int.reduceNeg, Int.reduceLT, Int.reduceLE, Int.reduceEq, Int.reduceToNat, eq_self, true_and, and_true, true_or, or_true, false_or, or_false, if_true, if_false, not_true_eq_false, not_false_eq_true, and_self, ne_eq, b_S_countSet_4, hS, hb, hl]
    split at i1 <;> (repeat' (first | apply And.intro | split)) <;> first | omega | exact i1 | (rw [b2_t (by omega)] at i1; exact i1) | (rw [b2_f (by omega)] at i1; exact i1)
theorem countSet_ok (hS : isSc ρ a) (hW : WFV (-99) (vwC g a)) {b : Nat} (hb : kdI ρ b 0) (hl : lnA ρ b = 99) (hr : ∀ j : Nat, (j : Int) < g a 8 → -2147483648 ≤ g b j ∧ g b j < 2147483648) (Q : Option AV → Sto → Prop) : WpM zt 37 [AR a, AR b] (g, ρ) Q ↔ Q (some (AI (cntS (-99) (g b) (g a 8).toNat))) (g, ρ) := by
  refine wpm_iff (fun Q hQ => ?_) Q
  have hF := w_F hW
  have h1 := countSet_loop (zt := zt) hS hW hb hl hr hQ (g a 8).toNat 0 (by omega)
  simp only [m_S_countSet, b_S_countSet_0, P_S_countSet_23, b_S_countSet_23, P_S_countSet_29, b_S_countSet_29, wp_aln0, wp_aln1, wp_bipush, wp_goto, wp_iald, wp_iceq, wp_icge, wp_iconst, wp_iln2, wp_iln3, wp_inc2, wp_inc3, wp_iret, wp_isn2, wp_isn3, wp_nop, wp_zret, wrI_row, cpI_row, row_s, row_n, row_ss, row_sw, upd_s, upd_n, ad_inj, ad_z, ad_z2, Nat.reduceEqDiff, reduceCtorEq, List.cons_append, List.nil_append, Option.toList_some, Option.toList_none, Int.toNat_natCast, List.length_cons, List.length_nil, Int.cast_ofNat_Int, Nat.reduceAdd, Nat.reduceLeDiff, Nat.reduceLT, Nat.reduceMul, Int.reduceAdd, Int.reduceSub, Int.reduceMul, Int.reduceNeg, Int.reduceLT, Int.reduceLE, Int.reduceEq, Int.reduceToNat, eq_self, true_and, and_true, true_or, or_true, false_or, or_false, if_true, if_false, not_true_eq_false, not_false_eq_true, and_self, ne_eq, hS]
  exact h1
theorem firstFrameOf_loop (hS : isSc ρ a) (hW : WFV (-99) (vwC g a)) {s : Nat} (hs : (s : Int) ≤ g a 5) {Q : Option AV → Sto → Prop} (hQ : Q (some (AI (sumL (vwC g a) s))) (g, ρ)) :
    ∀ (d m : Nat), m + d = s → Wp zt 38 (P 38 4) [some (AR a), some (AI s), some (AI (sumL (vwC g a) m)), some (AI m)] [] (g, ρ) Q := by
  have hG := w_G hW
  intro d
  induction d with
  | zero =>
    intro m hm
    have e : s = m := by omega
    subst e
    rw [P_S_firstFrameOf_4]
    simp only [m_S_firstFrameOf, b_S_firstFrameOf_0, P_S_firstFrameOf_24, b_S_firstFrameOf_24, wp_aln0, wp_goto, wp_iadd, wp_iald, wp_icge, wp_iconst, wp_iln1, wp_iln2, wp_iln3, wp_inc3, wp_iret, wp_isn2, wp_isn3, wp_nop, wp_zret, qsc_kd, qsc_k1, qsc_l1, qsc_gf1, qsc_k2, qsc_l2, qsc_gf2, qsc_k3, qsc_l3, qsc_gf3, qsc_k4, qsc_l4, qsc_gf4, qsc_k5, qsc_l5, qsc_gf6, qsc_k6, qsc_l6, qsc_gf7, qsc_k7, qsc_l7, qsc_gf9, qsc_k8, qsc_l8, qsc_gf10, qsc_gf0, qsc_pf0, qsc_gf5, qsc_pf5, qsc_gf8, qsc_pf8, wrI_row, cpI_row, row_s, row_n, row_ss, row_sw, upd_s, upd_n, ad_inj, ad_z, ad_z2, Nat.reduceEqDiff, reduceCtorEq, List.cons_append, List.nil_append, Option.toList_some, Option.toList_none, Int.toNat_natCast, List.length_cons, List.length_nil, Int.cast_ofNat_Int, Nat.reduceAdd, Nat.reduceLeDiff, Nat.reduceLT, Nat.reduceMul, Int.reduceAdd, Int.reduceSub, Int.reduceMul, Int.reduceNeg, Int.reduceLT, Int.reduceLE, Int.reduceEq, Int.reduceToNat, eq_self, true_and, and_true, true_or, or_true, false_or, or_false, if_true, if_false, not_true_eq_false, not_false_eq_true, and_self, ne_eq, b_S_firstFrameOf_4, hS]
    (repeat' (first | apply And.intro | split)) <;> first | omega | exact hQ | (rw [b2_t (by omega)] at hQ; exact hQ) | (rw [b2_f (by omega)] at hQ; exact hQ)
  | succ d ih =>
    intro m hm
    have i1 := ih (m + 1) (by omega)
    simp only [sumL] at i1
    rw [P_S_firstFrameOf_4]
    simp only [m_S_firstFrameOf, b_S_firstFrameOf_0, P_S_firstFrameOf_24, b_S_firstFrameOf_24, wp_aln0, wp_goto, wp_iadd, wp_iald, wp_icge, wp_iconst, wp_iln1, wp_iln2, wp_iln3, wp_inc3, wp_iret, wp_isn2, wp_isn3, wp_nop, wp_zret, qsc_kd, qsc_k1, qsc_l1, qsc_gf1, qsc_k2, qsc_l2, qsc_gf2, qsc_k3, qsc_l3, qsc_gf3, qsc_k4, qsc_l4, qsc_gf4, qsc_k5, qsc_l5, qsc_gf6, qsc_k6, qsc_l6, qsc_gf7, qsc_k7, qsc_l7, qsc_gf9, qsc_k8, qsc_l8, qsc_gf10, qsc_gf0, qsc_pf0, qsc_gf5, qsc_pf5, qsc_gf8, qsc_pf8, wrI_row, cpI_row, row_s, row_n, row_ss, row_sw, upd_s, upd_n, ad_inj, ad_z, ad_z2, Nat.reduceEqDiff, reduceCtorEq, List.cons_append, List.nil_append, Option.toList_some, Option.toList_none, Int.toNat_natCast, List.length_cons, List.length_nil, Int.cast_ofNat_Int, Nat.reduceAdd, Nat.reduceLeDiff, Nat.reduceLT, Nat.reduceMul, Int.reduceAdd, Int.reduceSub, Int.reduceMul, Int.reduceNeg, Int.reduceLT, Int.reduceLE, Int.reduceEq, Int.reduceToNat, eq_self, true_and, and_true, true_or, or_true, false_or, or_false, if_true, if_false, not_true_eq_false, not_false_eq_true, and_self, ne_eq, b_S_firstFrameOf_4, hS]
    (repeat' (first | apply And.intro | split)) <;> first | omega | exact i1 | (rw [b2_t (by omega)] at i1; exact i1) | (rw [b2_f (by omega)] at i1; exact i1)
theorem firstFrameOf_ok (hS : isSc ρ a) (hW : WFV (-99) (vwC g a)) {s : Int} (h0 : 0 ≤ s) (hs : s ≤ g a 5) (Q : Option AV → Sto → Prop) : WpM zt 38 [AR a, AI s] (g, ρ) Q ↔ Q (some (AI (sumL (vwC g a) s.toNat))) (g, ρ) := by
  refine wpm_iff (fun Q hQ => ?_) Q
  obtain ⟨n, rfl⟩ := Int.eq_ofNat_of_zero_le h0
  have h1 := firstFrameOf_loop (zt := zt) hS hW (s := n) hs (by simpa using hQ) n 0 (by omega)
  simp only [m_S_firstFrameOf, b_S_firstFrameOf_0, P_S_firstFrameOf_24, b_S_firstFrameOf_24, wp_aln0, wp_goto, wp_iadd, wp_iald, wp_icge, wp_iconst, wp_iln1, wp_iln2, wp_iln3, wp_inc3, wp_iret, wp_isn2, wp_isn3, wp_nop, wp_zret, wrI_row, cpI_row, row_s, row_n, row_ss, row_sw, upd_s, upd_n, ad_inj, ad_z, ad_z2, Nat.reduceEqDiff, reduceCtorEq, List.cons_append, List.nil_append, Option.toList_some, Option.toList_none, Int.toNat_natCast, List.length_cons, List.length_nil, Int.cast_ofNat_Int, Nat.reduceAdd, Nat.reduceLeDiff, Nat.reduceLT, Nat.reduceMul, Int.reduceAdd, Int.reduceSub, Int.reduceMul, Int.reduceNeg, Int.reduceLT, Int.reduceLE, Int.reduceEq, Int.reduceToNat, eq_self, true_and, and_true, true_or, or_true, false_or, or_false, if_true, if_false, not_true_eq_false, not_false_eq_true, and_self, ne_eq, hS]
  exact h1
theorem segmentAt_loop (hS : isSc ρ a) (hW : WFV (-99) (vwC g a)) {f : Int} (hf0 : -1000 ≤ f) (hf : f ≤ 1000) {Q : Option AV → Sto → Prop} :
    ∀ (d s : Nat), (s : Int) + d = g a 5 → Q (some (AI (segF (vwC g a) f d s))) (g, ρ) → Wp zt 39 (P 39 4) [some (AR a), some (AI f), some (AI (sumL (vwC g a) s)), some (AI s)] [] (g, ρ) Q := by
  have hG := w_G hW
  intro d
  induction d with
  | zero =>
    intro s hs hQ
    rw [P_S_segmentAt_4]
    simp only [m_S_segmentAt, b_S_segmentAt_0, P_S_segmentAt_28, b_S_segmentAt_28, P_S_segmentAt_34, b_S_segmentAt_34, wp_aln0, wp_goto, wp_iadd, wp_iald, wp_icge, wp_iconst, wp_iln1, wp_iln2, wp_iln3, wp_inc3, wp_iret, wp_isn2, wp_isn3, wp_nop, wp_zret, qsc_kd, qsc_k1, qsc_l1, qsc_gf1, qsc_k2, qsc_l2, qsc_gf2, qsc_k3, qsc_l3, qsc_gf3, qsc_k4, qsc_l4, qsc_gf4, qsc_k5, qsc_l5, qsc_gf6, qsc_k6, qsc_l6, qsc_gf7, qsc_k7, qsc_l7, qsc_gf9, qsc_k8, qsc_l8, qsc_gf10, qsc_gf0, qsc_pf0, qsc_gf5, qsc_pf5, qsc_gf8, qsc_pf8, wrI_row, cpI_row, row_s, row_n, row_ss, row_sw, upd_s, upd_n, ad_inj, ad_z, ad_z2, Nat.reduceEqDiff, reduceCtorEq, List.cons_append, List.nil_append, Option.toList_some, Option.toList_none, Int.toNat_natCast, List.length_cons, List.length_nil, Int.cast_ofNat_Int, Nat.reduceAdd, Nat.reduceLeDiff, Nat.reduceLT, Nat.reduceMul, Int.reduceAdd, Int.reduceSub, Int.reduceMul, Int.reduceNeg, Int.reduceLT, Int.reduceLE, Int.reduceEq, Int.reduceToNat, eq_self, true_and, and_true, true_or, or_true, false_or, or_false, if_true, if_false, not_true_eq_false, not_false_eq_true, and_self, ne_eq, b_S_segmentAt_4, hS]
    (repeat' (first | apply And.intro | split)) <;> first | omega | exact hQ | (rw [b2_t (by omega)] at hQ; exact hQ) | (rw [b2_f (by omega)] at hQ; exact hQ)
  | succ d ih =>
    intro s hs hQ
    have i1 := ih (s + 1) (by omega)
    have hb := sumL_mono (V := vwC g a) (m := g a 5) (fun j hj => w_ln hW hj) (s + 1) (by omega)
    simp only [sumL] at i1 hb
    simp only [segF] at hQ
    rw [P_S_segmentAt_4]
    simp only [m_S_segmentAt, b_S_segmentAt_0, P_S_segmentAt_28, b_S_segmentAt_28, P_S_segmentAt_34, b_S_segmentAt_34, wp_aln0, wp_goto, wp_iadd, wp_iald, wp_icge, wp_iconst, wp_iln1, wp_iln2, wp_iln3, wp_inc3, wp_iret, wp_isn2, wp_isn3, wp_nop, wp_zret, qsc_kd, qsc_k1, qsc_l1, qsc_gf1, qsc_k2, qsc_l2, qsc_gf2, qsc_k3, qsc_l3, qsc_gf3, qsc_k4, qsc_l4, qsc_gf4, qsc_k5, qsc_l5, qsc_gf6, qsc_k6, qsc_l6, qsc_gf7, qsc_k7, qsc_l7, qsc_gf9, qsc_k8, qsc_l8, qsc_gf10, qsc_gf0, qsc_pf0, qsc_gf5, qsc_pf5, qsc_gf8, qsc_pf8, wrI_row, cpI_row, row_s, row_n, row_ss, row_sw, upd_s, upd_n, ad_inj, ad_z, ad_z2, Nat.reduceEqDiff, reduceCtorEq, List.cons_append, List.nil_append, Option.toList_some, Option.toList_none, Int.toNat_natCast, List.length_cons, List.length_nil, Int.cast_ofNat_Int, Nat.reduceAdd, Nat.reduceLeDiff, Nat.reduceLT, Nat.reduceMul, Int.reduceAdd, Int.reduceSub, Int.reduceMul, Int.reduceNeg, Int.reduceLT, Int.reduceLE, Int.reduceEq, Int.reduceToNat, eq_self, true_and, and_true, true_or, or_true, false_or, or_false, if_true, if_false, not_true_eq_false, not_false_eq_true, and_self, ne_eq, b_S_segmentAt_4, hS]
    by_cases hc : f < sumL (vwC g a) (s + 1)
    · rw [if_pos hc] at hQ
      have hc2 : f < sumL (vwC g a) s + g (ad a 6) s := hc
      have hb2 : ((s + 1 : Nat) : Int) ≤ sumL (vwC g a) s + g (ad a 6) s ∧ sumL (vwC g a) s + g (ad a 6) s ≤ 20 * ((s + 1 : Nat) : Int) := hb
      (repeat' (first | apply And.intro | split)) <;> first | omega | exact hQ | (rw [b2_t (by omega)] at hQ; exact hQ) | (rw [b2_f (by omega)] at hQ; exact hQ)
    · rw [if_neg hc] at hQ
      have hc2 : ¬ f < sumL (vwC g a) s + g (ad a 6) s := hc
      have hb2 : ((s + 1 : Nat) : Int) ≤ sumL (vwC g a) s + g (ad a 6) s ∧ sumL (vwC g a) s + g (ad a 6) s ≤ 20 * ((s + 1 : Nat) : Int) := hb
      have i2 := i1 hQ
      (repeat' (first | apply And.intro | split)) <;> first | omega | exact i2 | (rw [b2_t (by omega)] at i2; exact i2) | (rw [b2_f (by omega)] at i2; exact i2)
theorem segmentAt_ok (hS : isSc ρ a) (hW : WFV (-99) (vwC g a)) {f : Int} (hf0 : -1000 ≤ f) (hf : f ≤ 1000) (Q : Option AV → Sto → Prop) : WpM zt 39 [AR a, AI f] (g, ρ) Q ↔ Q (some (AI (segV (vwC g a) f))) (g, ρ) := by
  refine wpm_iff (fun Q hQ => ?_) Q
  have hG := w_G hW
  have h1 := segmentAt_loop (zt := zt) (Q := Q) hS hW hf0 hf (g a 5).toNat 0 (by omega) hQ
  simp only [m_S_segmentAt, b_S_segmentAt_0, P_S_segmentAt_28, b_S_segmentAt_28, P_S_segmentAt_34, b_S_segmentAt_34, wp_aln0, wp_goto, wp_iadd, wp_iald, wp_icge, wp_iconst, wp_iln1, wp_iln2, wp_iln3, wp_inc3, wp_iret, wp_isn2, wp_isn3, wp_nop, wp_zret, wrI_row, cpI_row, row_s, row_n, row_ss, row_sw, upd_s, upd_n, ad_inj, ad_z, ad_z2, Nat.reduceEqDiff, reduceCtorEq, List.cons_append, List.nil_append, Option.toList_some, Option.toList_none, Int.toNat_natCast, List.length_cons, List.length_nil, Int.cast_ofNat_Int, Nat.reduceAdd, Nat.reduceLeDiff, Nat.reduceLT, Nat.reduceMul, Int.reduceAdd, Int.reduceSub, Int.reduceMul, Int.reduceNeg, Int.reduceLT, Int.reduceLE, Int.reduceEq, Int.reduceToNat, eq_self, true_and, and_true, true_or, or_true, false_or, or_false, if_true, if_false, not_true_eq_false, not_false_eq_true, and_self, ne_eq, hS]
  exact h1
theorem segF_b {V : Vw} {f : Int} : ∀ (d s : Nat), 0 ≤ segF V f d s ∧ (segF V f d s = 0 ∨ segF V f d s < ((s + d : Nat) : Int))
  | 0, s => ⟨Int.le_refl _, Or.inl rfl⟩
  | d + 1, s => by
    have h := segF_b (V := V) (f := f) d (s + 1)
    simp only [segF]
    split <;> omega
theorem segV_b (hW : WFV (-99) (vwC g a)) {f : Int} : 0 ≤ segV (vwC g a) f ∧ segV (vwC g a) f < 30 ∧ (segV (vwC g a) f = 0 ∨ segV (vwC g a) f < g a 5) := by
  have hG := w_G hW
  have h := segF_b (V := vwC g a) (f := f) (g a 5).toNat 0
  have e : segV (vwC g a) f = segF (vwC g a) f (g a 5).toNat 0 := rfl
  rw [e]
  omega
theorem kindAt_ok (hS : isSc ρ a) (hW : WFV (-99) (vwC g a)) {f : Int} (hf0 : -1000 ≤ f) (hf : f ≤ 1000) (Q : Option AV → Sto → Prop) : WpM zt 40 [AR a, AI f] (g, ρ) Q ↔ Q (some (AI (kndV (vwC g a) f))) (g, ρ) := by
  refine wpm_iff (fun Q hQ => ?_) Q
  have hb := segV_b hW (f := f)
  simp only [m_S_kindAt, b_S_kindAt_0, wp_aln0, wp_cv1, wp_cv2, wp_cv3, wp_cv4, wp_cv5, wp_cv6, wp_cv7, wp_iald, wp_iln1, wp_iret, wp_zret, qsc_kd, qsc_k1, qsc_l1, qsc_gf1, qsc_k2, qsc_l2, qsc_gf2, qsc_k3, qsc_l3, qsc_gf3, qsc_k4, qsc_l4, qsc_gf4, qsc_k5, qsc_l5, qsc_gf6, qsc_k6, qsc_l6, qsc_gf7, qsc_k7, qsc_l7, qsc_gf9, qsc_k8, qsc_l8, qsc_gf10, qsc_gf0, qsc_pf0, qsc_gf5, qsc_pf5, qsc_gf8, qsc_pf8, wrI_row, cpI_row, row_s, row_n, row_ss, row_sw, upd_s, upd_n, ad_inj, ad_z, ad_z2, Nat.reduceEqDiff, reduceCtorEq, List.cons_append, List.nil_append, Option.toList_some, Option.toList_none, Int.toNat_natCast, List.length_cons, List.length_nil, Int.cast_ofNat_Int, Nat.reduceAdd, Nat.reduceLeDiff, Nat.reduceLT, Nat.reduceMul, Int.reduceAdd, Int.reduceSub, Int.reduceMul, Int.reduceNeg, Int.reduceLT, Int.reduceLE, Int.reduceEq, Int.reduceToNat, eq_self, true_and, and_true, true_or, or_true, false_or, or_false, if_true, if_false, not_true_eq_false, not_false_eq_true, and_self, ne_eq, hS, segmentAt_ok hS hW hf0 hf]
  (repeat' (first | apply And.intro | split)) <;> first | omega | exact hQ | (rw [b2_t (by omega)] at hQ; exact hQ) | (rw [b2_f (by omega)] at hQ; exact hQ)
end SCN
end
section
/-! THE SCENE'S WRITING METHODS -/
/-- what lay from f on lies m further -/
def mvR (r : Nat → Int) (f m F : Nat) : Nat → Int := fun y => if f + m ≤ y ∧ y < F + m then r (y - m) else r y
def flR (r : Nat → Int) (s t : Nat) : Nat → Int := fun y => if s ≤ y ∧ y < t then -99 else r y
def opR (r : Nat → Int) (f m F : Nat) : Nat → Int := flR (mvR r f m F) f (f + m)
def clR (r : Nat → Int) (f m t : Nat) : Nat → Int := fun y => if f ≤ y ∧ y + m < t then r (y + m) else r y
def shR (r : Nat → Int) (s G : Nat) : Nat → Int := fun y => if s < y ∧ y ≤ G then r (y - 1) else r y
theorem mvR_0 {r : Nat → Int} {m F : Nat} : mvR r F m F = r := by
  funext y
  unfold mvR
  rw [if_neg (by omega)]
theorem mvR_st {r : Nat → Int} {f m F : Nat} (h : f < F) : upd1 (mvR r (f + 1) m F) (f + m) (mvR r (f + 1) m F f) = mvR r f m F := by
  funext y
  unfold mvR upd1
  rw [if_neg (show ¬ (f + 1 + m ≤ f ∧ f < F + m) by omega)]
  by_cases h1 : y = f + m
  · rw [if_pos h1, if_pos (by omega)]
    congr 1
    omega
  · rw [if_neg h1]
    dsimp only
    by_cases h2 : f + 1 + m ≤ y ∧ y < F + m
    · rw [if_pos h2, if_pos (by omega)]
    · rw [if_neg h2, if_neg (by omega)]
theorem flR_0 {r : Nat → Int} {s : Nat} : flR r s s = r := by
  funext y
  unfold flR
  rw [if_neg (by omega)]
theorem flR_st {r : Nat → Int} {s t : Nat} (h : s ≤ t) : upd1 (flR r s t) t (-99) = flR r s (t + 1) := by
  funext y
  unfold flR upd1
  by_cases h1 : y = t
  · rw [if_pos h1, if_pos (by omega)]
  · rw [if_neg h1]
    dsimp only
    by_cases h2 : s ≤ y ∧ y < t
    · rw [if_pos h2, if_pos (by omega)]
    · rw [if_neg h2, if_neg (by omega)]
theorem clR_0 {r : Nat → Int} {f m : Nat} : clR r f m (f + m) = r := by
  funext y
  unfold clR
  rw [if_neg (by omega)]
theorem clR_st {r : Nat → Int} {f m t : Nat} (h : f + m ≤ t) : upd1 (clR r f m t) (t - m) (clR r f m t t) = clR r f m (t + 1) := by
  funext y
  unfold clR upd1
  rw [if_neg (show ¬ (f ≤ t ∧ t + m < t) by omega)]
  by_cases h1 : y = t - m
  · rw [if_pos h1, if_pos (by omega)]
    congr 1
    omega
  · rw [if_neg h1]
    dsimp only
    by_cases h2 : f ≤ y ∧ y + m < t
    · rw [if_pos h2, if_pos (by omega)]
    · rw [if_neg h2, if_neg (by omega)]
theorem shR_0 {r : Nat → Int} {G : Nat} : shR r G G = r := by
  funext y
  unfold shR
  rw [if_neg (by omega)]
theorem shR_st {r : Nat → Int} {s G : Nat} (h : s + 1 ≤ G) : upd1 (shR r (s + 1) G) (s + 1) (shR r (s + 1) G s) = shR r s G := by
  funext y
  unfold shR upd1
  rw [if_neg (show ¬ (s + 1 < s ∧ s ≤ G) by omega)]
  by_cases h1 : y = s + 1
  · rw [if_pos h1, if_pos (by omega)]
    congr 1
    omega
  · rw [if_neg h1]
    dsimp only
    by_cases h2 : s + 1 < y ∧ y ≤ G
    · rw [if_pos h2, if_pos (by omega)]
    · rw [if_neg h2, if_neg (by omega)]
/-- a scene with m new frames from f on -/
def openF (g : Nat → Nat → Int) (a f m : Nat) : Nat → Nat → Int := setRow (setRow (setRow g (ad a 7) (opR (g (ad a 7)) f m (g a 8).toNat)) (ad a 8) (opR (g (ad a 8)) f m (g a 8).toNat)) a (upd1 (g a) 8 (g a 8 + m))
def closeF (g : Nat → Nat → Int) (a f m : Nat) : Nat → Nat → Int := setRow (setRow (setRow g (ad a 7) (clR (g (ad a 7)) f m (g a 8).toNat)) (ad a 8) (clR (g (ad a 8)) f m (g a 8).toNat)) a (upd1 (g a) 8 (g a 8 - m))
section SCW
variable {zt : Nat → Nat} {g : Nat → Nat → Int} {ρ : Ri} {a : Nat}
theorem openFrames_fill (hS : isSc ρ a) {f m : Nat} (hm : f + m ≤ 99) {R S : Nat → Int} {g0 : Nat → Nat → Int} {Q : Option AV → Sto → Prop} (hQ : Q none (setRow (setRow (setRow g0 (ad a 7) (flR R f (f + m))) (ad a 8) (flR S f (f + m))) a (upd1 (g0 a) 8 (g0 a 8 + m)), ρ)) :
    ∀ (d t : Nat), t + d = f + m → f ≤ t → Wp zt 43 (P 43 48) [some (AR a), some (AI f), some (AI m), some (AI t)] [] (setRow (setRow g0 (ad a 7) (flR R f t)) (ad a 8) (flR S f t), ρ) Q := by
  intro d
  induction d with
  | zero =>
    intro t ht hf
    have e : t = f + m := by omega
    subst e
    rw [P_S_openFrames_48]
    simp only [m_S_openFrames, b_S_openFrames_0, P_S_openFrames_46, b_S_openFrames_46, P_S_openFrames_77, b_S_openFrames_77, wp_aln0, wp_bipush, wp_dup, wp_goto, wp_iadd, wp_iald, wp_iast, wp_icge, wp_iclt, wp_iconst, wp_iln1, wp_iln2, wp_iln3, wp_inc3, wp_isn3, wp_isub, wp_nop, wp_ret, qsc_kd, qsc_k1, qsc_l1, qsc_gf1, qsc_k2, qsc_l2, qsc_gf2, qsc_k3, qsc_l3, qsc_gf3, qsc_k4, qsc_l4, qsc_gf4, qsc_k5, qsc_l5, qsc_gf6, qsc_k6, qsc_l6, qsc_gf7, qsc_k7, qsc_l7, qsc_gf9, qsc_k8, qsc_l8, qsc_gf10, qsc_gf0, qsc_pf0, qsc_gf5, qsc_pf5, qsc_gf8, qsc_pf8, wrI_row, cpI_row, row_s, row_n, row_ss, row_sw, upd_s, upd_n, ad_inj, ad_z, ad_z2, Nat.reduceEqDiff, reduceCtorEq, List.cons_append, List.nil_append, Option.toList_some, Option.toList_none, Int.toNat_natCast, List.length_cons, List.length_nil, Int.cast_ofNat_Int, Nat.reduceAdd, Nat.reduceLeDiff, Nat.reduceLT, Nat.reduceMul, Int.reduceAdd, Int.reduceSub, Int.reduceMul, Int.reduceNeg, Int.reduceLT, Int.reduceLE, Int.reduceEq, Int.reduceToNat, eq_self, true_and, and_true, true_or, or_true, false_or, or_false, if_true, if_false, not_true_eq_false, not_false_eq_true, and_self, ne_eq, b_S_openFrames_48, hS]
    (repeat' (first | apply And.intro | split)) <;> first | omega | exact hQ | (rw [b2_t (by omega)] at hQ; exact hQ) | (rw [b2_f (by omega)] at hQ; exact hQ)
  | succ d ih =>
    intro t ht hf
    have i1 := ih (t + 1) (by omega) (by omega)
    rw [← flR_st hf, ← flR_st hf] at i1
    rw [P_S_openFrames_48]
    simp only [m_S_openFrames, b_S_openFrames_0, P_S_openFrames_46, b_S_openFrames_46, P_S_openFrames_77, b_S_openFrames_77, wp_aln0, wp_bipush, wp_dup, wp_goto, wp_iadd, wp_iald, wp_iast, wp_icge, wp_iclt, wp_iconst, wp_iln1, wp_iln2, wp_iln3, wp_inc3, wp_isn3, wp_isub, wp_nop, wp_ret, qsc_kd, qsc_k1, qsc_l1, qsc_gf1, qsc_k2, qsc_l2, qsc_gf2, qsc_k3, qsc_l3, qsc_gf3, qsc_k4, qsc_l4, qsc_gf4, qsc_k5, qsc_l5, qsc_gf6, qsc_k6, qsc_l6, qsc_gf7, qsc_k7, qsc_l7, qsc_gf9, qsc_k8, qsc_l8, qsc_gf10, qsc_gf0, qsc_pf0, qsc_gf5, qsc_pf5, qsc_gf8, qsc_pf8, wrI_row, cpI_row, row_s, row_n, row_ss, row_sw, upd_s, upd_n, ad_inj, ad_z, ad_z2, Nat.reduceEqDiff, reduceCtorEq, List.cons_append, List.nil_append, Option.toList_some, Option.toList_none, Int.toNat_natCast, List.length_cons, List.length_nil, Int.cast_ofNat_Int, Nat.reduceAdd, Nat.reduceLeDiff, Nat.reduceLT, Nat.reduceMul, Int.reduceAdd, Int.reduceSub, Int.reduceMul, Int.reduceNeg, Int.reduceLT, Int.reduceLE, Int.reduceEq, Int.reduceToNat, eq_self, true_and, and_true, true_or, or_true, false_or, or_false, if_true, if_false, not_true_eq_false, not_false_eq_true, and_self, ne_eq, b_S_openFrames_48, hS]
    (repeat' (first | apply And.intro | split)) <;> first | omega | exact i1 | (rw [b2_t (by omega)] at i1; exact i1) | (rw [b2_f (by omega)] at i1; exact i1)
theorem openFrames_loop (hS : isSc ρ a) {f m : Nat} (hF0 : 0 ≤ g a 8) (hF : g a 8 + m ≤ 99) (hf : (f : Int) ≤ g a 8) {Q : Option AV → Sto → Prop} (hQ : Q none (openF g a f m, ρ)) :
    ∀ (d f1 : Nat), f1 = f + d → (f1 : Int) ≤ g a 8 → Wp zt 43 (P 43 7) [some (AR a), some (AI f), some (AI m), some (AI ((f1 : Int) - 1))] [] (setRow (setRow g (ad a 7) (mvR (g (ad a 7)) f1 m (g a 8).toNat)) (ad a 8) (mvR (g (ad a 8)) f1 m (g a 8).toNat), ρ) Q := by
  intro d
  induction d with
  | zero =>
    intro f1 h1 h2
    have e : f1 = f := by omega
    subst e
    have i1 := openFrames_fill (zt := zt) (g0 := g) hS (f := f1) (m := m) (by omega) (R := mvR (g (ad a 7)) f1 m (g a 8).toNat) (S := mvR (g (ad a 8)) f1 m (g a 8).toNat) hQ m f1 (by omega) (Nat.le_refl _)
    rw [flR_0, flR_0] at i1
    rw [P_S_openFrames_7]
    simp only [m_S_openFrames, b_S_openFrames_0, P_S_openFrames_46, b_S_openFrames_46, P_S_openFrames_77, b_S_openFrames_77, wp_aln0, wp_bipush, wp_dup, wp_goto, wp_iadd, wp_iald, wp_iast, wp_icge, wp_iclt, wp_iconst, wp_iln1, wp_iln2, wp_iln3, wp_inc3, wp_isn3, wp_isub, wp_nop, wp_ret, qsc_kd, qsc_k1, qsc_l1, qsc_gf1, qsc_k2, qsc_l2, qsc_gf2, qsc_k3, qsc_l3, qsc_gf3, qsc_k4, qsc_l4, qsc_gf4, qsc_k5, qsc_l5, qsc_gf6, qsc_k6, qsc_l6, qsc_gf7, qsc_k7, qsc_l7, qsc_gf9, qsc_k8, qsc_l8, qsc_gf10, qsc_gf0, qsc_pf0, qsc_gf5, qsc_pf5, qsc_gf8, qsc_pf8, wrI_row, cpI_row, row_s, row_n, row_ss, row_sw, upd_s, upd_n, ad_inj, ad_z, ad_z2, Nat.reduceEqDiff, reduceCtorEq, List.cons_append, List.nil_append, Option.toList_some, Option.toList_none, Int.toNat_natCast, List.length_cons, List.length_nil, Int.cast_ofNat_Int, Nat.reduceAdd, Nat.reduceLeDiff, Nat.reduceLT, Nat.reduceMul, Int.reduceAdd, Int.reduceSub, Int.reduceMul, Int.reduceNeg, Int.reduceLT, Int.reduceLE, Int.reduceEq, Int.reduceToNat, eq_self, true_and, and_true, true_or, or_true, false_or, or_false, if_true, if_false, not_true_eq_false, not_false_eq_true, and_self, ne_eq, b_S_openFrames_7, hS]
    (repeat' (first | apply And.intro | split)) <;> first | omega | exact i1 | (rw [b2_t (by omega)] at i1; exact i1) | (rw [b2_f (by omega)] at i1; exact i1)
  | succ d ih =>
    intro f1 h1 h2
    obtain ⟨f2, rfl⟩ : ∃ f2, f1 = f2 + 1 := ⟨f1 - 1, by omega⟩
    have i1 := ih f2 (by omega) (by omega)
    rw [← mvR_st (show f2 < (g a 8).toNat by omega), ← mvR_st (show f2 < (g a 8).toNat by omega)] at i1
    have e1 : ((f2 + 1 : Nat) : Int) - 1 = (f2 : Int) := by omega
    have e2 : ((f2 : Int) + (m : Int)).toNat = f2 + m := by omega
    rw [P_S_openFrames_7, e1]
    simp only [m_S_openFrames, b_S_openFrames_0, P_S_openFrames_46, b_S_openFrames_46, P_S_openFrames_77, b_S_openFrames_77, wp_aln0, wp_bipush, wp_dup, wp_goto, wp_iadd, wp_iald, wp_iast, wp_icge, wp_iclt, wp_iconst, wp_iln1, wp_iln2, wp_iln3, wp_inc3, wp_isn3, wp_isub, wp_nop, wp_ret, qsc_kd, qsc_k1, qsc_l1, qsc_gf1, qsc_k2, qsc_l2, qsc_gf2, qsc_k3, qsc_l3, qsc_gf3, qsc_k4, qsc_l4, qsc_gf4, qsc_k5, qsc_l5, qsc_gf6, qsc_k6, qsc_l6, qsc_gf7, qsc_k7, qsc_l7, qsc_gf9, qsc_k8, qsc_l8, qsc_gf10, qsc_gf0, qsc_pf0, qsc_gf5, qsc_pf5, qsc_gf8, qsc_pf8, wrI_row, cpI_row, row_s, row_n, row_ss, row_sw, upd_s, upd_n, ad_inj, ad_z, ad_z2, Nat.reduceEqDiff, reduceCtorEq, List.cons_append, List.nil_append, Option.toList_some, Option.toList_none, Int.toNat_natCast, List.length_cons, List.length_nil, Int.cast_ofNat_Int, Nat.reduceAdd, Nat.reduceLeDiff, Nat.reduceLT, Nat.reduceMul, Int.reduceAdd, Int.reduceSub, Int.reduceMul, Int.reduceNeg, Int.reduceLT, Int.reduceLE, Int.reduceEq, Int.reduceToNat, eq_self, true_and, and_true, true_or, or_true, false_or, or_false, if_true, if_false, not_true_eq_false, not_false_eq_true, and_self, ne_eq, b_S_openFrames_7, hS, e2]
    (repeat' (first | apply And.intro | split)) <;> first | omega | exact i1 | (rw [b2_t (by omega)] at i1; exact i1) | (rw [b2_f (by omega)] at i1; exact i1)
theorem openFrames_ok (hS : isSc ρ a) {f m : Nat} (hF0 : 0 ≤ g a 8) (hF : g a 8 + m ≤ 99) (hf : (f : Int) ≤ g a 8) (Q : Option AV → Sto → Prop) : WpM zt 43 [AR a, AI f, AI m] (g, ρ) Q ↔ Q none (openF g a f m, ρ) := by
  refine wpm_iff (fun Q hQ => ?_) Q
  obtain ⟨F, hFe⟩ := Int.eq_ofNat_of_zero_le hF0
  have h1 := openFrames_loop (zt := zt) hS hF0 hF hf hQ (F - f) F (by omega) (by omega)
  have e : (g a 8).toNat = F := by omega
  rw [e, mvR_0, mvR_0, row_id, row_id] at h1
  simp only [m_S_openFrames, b_S_openFrames_0, P_S_openFrames_46, b_S_openFrames_46, P_S_openFrames_48, b_S_openFrames_48, P_S_openFrames_77, b_S_openFrames_77, wp_aln0, wp_bipush, wp_dup, wp_goto, wp_iadd, wp_iald, wp_iast, wp_icge, wp_iclt, wp_iconst, wp_iln1, wp_iln2, wp_iln3, wp_inc3, wp_isn3, wp_isub, wp_nop, wp_ret, qsc_kd, qsc_k1, qsc_l1, qsc_gf1, qsc_k2, qsc_l2, qsc_gf2, qsc_k3, qsc_l3, qsc_gf3, qsc_k4, qsc_l4, qsc_gf4, qsc_k5, qsc_l5, qsc_gf6, qsc_k6, qsc_l6, qsc_gf7, qsc_k7, qsc_l7, qsc_gf9, qsc_k8, qsc_l8, qsc_gf10, qsc_gf0, qsc_pf0, qsc_gf5, qsc_pf5, qsc_gf8, qsc_pf8, wrI_row, cpI_row, row_s, row_n, row_ss, row_sw, upd_s, upd_n, ad_inj, ad_z, ad_z2, Nat.reduceEqDiff, reduceCtorEq, List.cons_append, List.nil_append, Option.toList_some, Option.toList_none, Int.toNat_natCast, List.length_cons, List.length_nil, Int.cast_ofNat_Int, Nat.reduceAdd, Nat.reduceLeDiff, Nat.reduceLT, Nat.reduceMul, Int.reduceAdd, Int.reduceSub, Int.reduceMul, Int.reduceNeg, Int.reduceLT, Int.reduceLE, Int.reduceEq, Int.reduceToNat, eq_self, true_and, and_true, true_or, or_true, false_or, or_false, if_true, if_false, not_true_eq_false, not_false_eq_true, and_self, ne_eq, hS, hFe]
  exact h1
theorem closeFrames_loop (hS : isSc ρ a) {f m : Nat} (hF : g a 8 ≤ 99) {Q : Option AV → Sto → Prop} (hQ : Q none (closeF g a f m, ρ)) :
    ∀ (d t : Nat), (t : Int) + d = g a 8 → f + m ≤ t → Wp zt 44 (P 44 4) [some (AR a), some (AI f), some (AI m), some (AI t)] [] (setRow (setRow g (ad a 7) (clR (g (ad a 7)) f m t)) (ad a 8) (clR (g (ad a 8)) f m t), ρ) Q := by
  intro d
  induction d with
  | zero =>
    intro t h1 h2
    have e : (g a 8).toNat = t := by omega
    unfold closeF at hQ
    rw [e] at hQ
    rw [P_S_closeFrames_4]
    simp only [m_S_closeFrames, b_S_closeFrames_0, P_S_closeFrames_46, b_S_closeFrames_46, wp_aln0, wp_dup, wp_goto, wp_iadd, wp_iald, wp_iast, wp_icge, wp_iln1, wp_iln2, wp_iln3, wp_inc3, wp_isn3, wp_isub, wp_nop, wp_ret, qsc_kd, qsc_k1, qsc_l1, qsc_gf1, qsc_k2, qsc_l2, qsc_gf2, qsc_k3, qsc_l3, qsc_gf3, qsc_k4, qsc_l4, qsc_gf4, qsc_k5, qsc_l5, qsc_gf6, qsc_k6, qsc_l6, qsc_gf7, qsc_k7, qsc_l7, qsc_gf9, qsc_k8, qsc_l8, qsc_gf10, qsc_gf0, qsc_pf0, qsc_gf5, qsc_pf5, qsc_gf8, qsc_pf8, wrI_row, cpI_row, row_s, row_n, row_ss, row_sw, upd_s, upd_n, ad_inj, ad_z, ad_z2, Nat.reduceEqDiff, reduceCtorEq, List.cons_append, List.nil_append, Option.toList_some, Option.toList_none, Int.toNat_natCast, List.length_cons, List.length_nil, Int.cast_ofNat_Int, Nat.reduceAdd, Nat.reduceLeDiff, Nat.reduceLT, Nat.reduceMul, Int.reduceAdd, Int.reduceSub, Int.reduceMul, Int.reduceNeg, Int.reduceLT, Int.reduceLE, Int.reduceEq, Int.reduceToNat, eq_self, true_and, and_true, true_or, or_true, false_or, or_false, if_true, if_false, not_true_eq_false, not_false_eq_true, and_self, ne_eq, b_S_closeFrames_4, hS]
    (repeat' (first | apply And.intro | split)) <;> first | omega | exact hQ | (rw [b2_t (by omega)] at hQ; exact hQ) | (rw [b2_f (by omega)] at hQ; exact hQ)
  | succ d ih =>
    intro t h1 h2
    have i1 := ih (t + 1) (by omega) (by omega)
    rw [← clR_st h2, ← clR_st h2] at i1
    have e2 : ((t : Int) - (m : Int)).toNat = t - m := by omega
    rw [P_S_closeFrames_4]
    simp only [m_S_closeFrames, b_S_closeFrames_0, P_S_closeFrames_46, b_S_closeFrames_46, wp_aln0, wp_dup, wp_goto, wp_iadd, wp_iald, wp_iast, wp_icge, wp_iln1, wp_iln2, wp_iln3, wp_inc3, wp_isn3, wp_isub, wp_nop, wp_ret, qsc_kd, qsc_k1, qsc_l1, qsc_gf1, qsc_k2, qsc_l2, qsc_gf2, qsc_k3, qsc_l3, qsc_gf3, qsc_k4, qsc_l4, qsc_gf4, qsc_k5, qsc_l5, qsc_gf6, qsc_k6, qsc_l6, qsc_gf7, qsc_k7, qsc_l7, qsc_gf9, qsc_k8, qsc_l8, qsc_gf10, qsc_gf0, qsc_pf0, qsc_gf5, qsc_pf5, qsc_gf8, qsc_pf8, wrI_row, cpI_row, row_s, row_n, row_ss, row_sw, upd_s, upd_n, ad_inj, ad_z, ad_z2, Nat.reduceEqDiff, reduceCtorEq, List.cons_append, List.nil_append, Option.toList_some, Option.toList_none, Int.toNat_natCast, List.length_cons, List.length_nil, Int.cast_ofNat_Int, Nat.reduceAdd, Nat.reduceLeDiff, Nat.reduceLT, Nat.reduceMul, Int.reduceAdd, Int.reduceSub, Int.reduceMul, Int.reduceNeg, Int.reduceLT, Int.reduceLE, Int.reduceEq, Int.reduceToNat, eq_self, true_and, and_true, true_or, or_true, false_or, or_false, if_true, if_false, not_true_eq_false, not_false_eq_true, and_self, ne_eq, b_S_closeFrames_4, hS, e2]
    (repeat' (first | apply And.intro | split)) <;> first | omega | exact i1 | (rw [b2_t (by omega)] at i1; exact i1) | (rw [b2_f (by omega)] at i1; exact i1)
theorem closeFrames_ok (hS : isSc ρ a) {f m : Nat} (hF : g a 8 ≤ 99) (hf : (f : Int) + m ≤ g a 8) (Q : Option AV → Sto → Prop) : WpM zt 44 [AR a, AI f, AI m] (g, ρ) Q ↔ Q none (closeF g a f m, ρ) := by
  refine wpm_iff (fun Q hQ => ?_) Q
  have h1 := closeFrames_loop (zt := zt) hS hF hQ (g a 8 - f - m).toNat (f + m) (by omega) (Nat.le_refl _)
  rw [clR_0, clR_0, row_id, row_id] at h1
  simp only [m_S_closeFrames, b_S_closeFrames_0, P_S_closeFrames_46, b_S_closeFrames_46, wp_aln0, wp_dup, wp_goto, wp_iadd, wp_iald, wp_iast, wp_icge, wp_iln1, wp_iln2, wp_iln3, wp_inc3, wp_isn3, wp_isub, wp_nop, wp_ret, qsc_kd, qsc_k1, qsc_l1, qsc_gf1, qsc_k2, qsc_l2, qsc_gf2, qsc_k3, qsc_l3, qsc_gf3, qsc_k4, qsc_l4, qsc_gf4, qsc_k5, qsc_l5, qsc_gf6, qsc_k6, qsc_l6, qsc_gf7, qsc_k7, qsc_l7, qsc_gf9, qsc_k8, qsc_l8, qsc_gf10, qsc_gf0, qsc_pf0, qsc_gf5, qsc_pf5, qsc_gf8, qsc_pf8, wrI_row, cpI_row, row_s, row_n, row_ss, row_sw, upd_s, upd_n, ad_inj, ad_z, ad_z2, Nat.reduceEqDiff, reduceCtorEq, List.cons_append, List.nil_append, Option.toList_some, Option.toList_none, Int.toNat_natCast, List.length_cons, List.length_nil, Int.cast_ofNat_Int, Nat.reduceAdd, Nat.reduceLeDiff, Nat.reduceLT, Nat.reduceMul, Int.reduceAdd, Int.reduceSub, Int.reduceMul, Int.reduceNeg, Int.reduceLT, Int.reduceLE, Int.reduceEq, Int.reduceToNat, eq_self, true_and, and_true, true_or, or_true, false_or, or_false, if_true, if_false, not_true_eq_false, not_false_eq_true, and_self, ne_eq, hS]
  exact h1
theorem openF_5 {f m : Nat} : openF g a f m a 5 = g a 5 := by
  simp only [openF, row_s, upd1]
  rfl
theorem openF_r {f m j : Nat} (h : j ≠ 7) (h2 : j ≠ 8) (h3 : j ≠ 0) : openF g a f m (ad a j) = g (ad a j) := by
  unfold openF
  rw [row_n (by rw [ad_z]; exact h3), row_n (by rw [ad_inj]; exact h2), row_n (by rw [ad_inj]; exact h)]
theorem closeF_5 {f m : Nat} : closeF g a f m a 5 = g a 5 := by
  simp only [closeF, row_s, upd1]
  rfl
theorem closeF_r {f m j : Nat} (h : j ≠ 7) (h2 : j ≠ 8) (h3 : j ≠ 0) : closeF g a f m (ad a j) = g (ad a j) := by
  unfold closeF
  rw [row_n (by rw [ad_z]; exact h3), row_n (by rw [ad_inj]; exact h2), row_n (by rw [ad_inj]; exact h)]
/-- a scene with a new segment of m frames at s -/
def openS (g : Nat → Nat → Int) (a s : Nat) (kd : Int) (m : Nat) : Nat → Nat → Int := setRow (setRow (setRow (openF g a (sumL (vwC g a) s).toNat m) (ad a 5) (upd1 (shR (g (ad a 5)) s (g a 5).toNat) s kd)) (ad a 6) (upd1 (shR (g (ad a 6)) s (g a 5).toNat) s m)) a (upd1 (openF g a (sumL (vwC g a) s).toNat m a) 5 (g a 5 + 1))
theorem openSegment_loop (hS : isSc ρ a) {s m : Nat} {kd : Int} (hG0 : 0 ≤ g a 5) (hG : g a 5 ≤ 29) (hs : (s : Int) ≤ g a 5) {Q : Option AV → Sto → Prop} {g0 : Nat → Nat → Int} (h5 : g0 a 5 = g a 5) (hQ : Q none (setRow (setRow (setRow g0 (ad a 5) (upd1 (shR (g0 (ad a 5)) s (g a 5).toNat) s kd)) (ad a 6) (upd1 (shR (g0 (ad a 6)) s (g a 5).toNat) s m)) a (upd1 (g0 a) 5 (g a 5 + 1)), ρ)) :
    ∀ (d t : Nat), t = s + d → (t : Int) ≤ g a 5 → Wp zt 41 (P 41 16) [some (AR a), some (AI s), some (AI kd), some (AI m), some (AI t)] [] (setRow (setRow g0 (ad a 5) (shR (g0 (ad a 5)) t (g a 5).toNat)) (ad a 6) (shR (g0 (ad a 6)) t (g a 5).toNat), ρ) Q := by
  intro d
  induction d with
  | zero =>
    intro t h1 h2
    have e : t = s := by omega
    subst e
    rw [P_S_openSegment_16]
    simp only [m_S_openSegment, b_S_openSegment_0, P_S_openSegment_60, b_S_openSegment_60, wp_aln0, wp_cv1, wp_cv2, wp_cv3, wp_cv4, wp_cv5, wp_cv6, wp_cv7, wp_dup, wp_goto, wp_iadd, wp_iald, wp_iast, wp_icle, wp_iconst, wp_il4, wp_iln1, wp_iln2, wp_iln3, wp_inc4, wp_is4, wp_isub, wp_nop, wp_ret, qsc_kd, qsc_k1, qsc_l1, qsc_gf1, qsc_k2, qsc_l2, qsc_gf2, qsc_k3, qsc_l3, qsc_gf3, qsc_k4, qsc_l4, qsc_gf4, qsc_k5, qsc_l5, qsc_gf6, qsc_k6, qsc_l6, qsc_gf7, qsc_k7, qsc_l7, qsc_gf9, qsc_k8, qsc_l8, qsc_gf10, qsc_gf0, qsc_pf0, qsc_gf5, qsc_pf5, qsc_gf8, qsc_pf8, wrI_row, cpI_row, row_s, row_n, row_ss, row_sw, upd_s, upd_n, ad_inj, ad_z, ad_z2, Nat.reduceEqDiff, reduceCtorEq, List.cons_append, List.nil_append, Option.toList_some, Option.toList_none, Int.toNat_natCast, List.length_cons, List.length_nil, Int.cast_ofNat_Int, Nat.reduceAdd, Nat.reduceLeDiff, Nat.reduceLT, Nat.reduceMul, Int.reduceAdd, Int.reduceSub, Int.reduceMul, Int.reduceNeg, Int.reduceLT, Int.reduceLE, Int.reduceEq, Int.reduceToNat, eq_self, true_and, and_true, true_or, or_true, false_or, or_false, if_true, if_false, not_true_eq_false, not_false_eq_true, and_self, ne_eq, b_S_openSegment_16, hS, h5]
    (repeat' (first | apply And.intro | split)) <;> first | omega | exact hQ | (rw [b2_t (by omega)] at hQ; exact hQ) | (rw [b2_f (by omega)] at hQ; exact hQ)
  | succ d ih =>
    intro t h1 h2
    obtain ⟨t2, rfl⟩ : ∃ t2, t = t2 + 1 := ⟨t - 1, by omega⟩
    have i1 := ih t2 (by omega) (by omega)
    rw [← shR_st (show t2 + 1 ≤ (g a 5).toNat by omega), ← shR_st (show t2 + 1 ≤ (g a 5).toNat by omega)] at i1
    have e1 : (((t2 + 1 : Nat) : Int) + -1) = (t2 : Int) := by omega
    have e2 : (((t2 + 1 : Nat) : Int) - 1).toNat = t2 := by omega
    rw [P_S_openSegment_16]
    simp only [m_S_openSegment, b_S_openSegment_0, P_S_openSegment_60, b_S_openSegment_60, wp_aln0, wp_cv1, wp_cv2, wp_cv3, wp_cv4, wp_cv5, wp_cv6, wp_cv7, wp_dup, wp_goto, wp_iadd, wp_iald, wp_iast, wp_icle, wp_iconst, wp_il4, wp_iln1, wp_iln2, wp_iln3, wp_inc4, wp_is4, wp_isub, wp_nop, wp_ret, qsc_kd, qsc_k1, qsc_l1, qsc_gf1, qsc_k2, qsc_l2, qsc_gf2, qsc_k3, qsc_l3, qsc_gf3, qsc_k4, qsc_l4, qsc_gf4, qsc_k5, qsc_l5, qsc_gf6, qsc_k6, qsc_l6, qsc_gf7, qsc_k7, qsc_l7, qsc_gf9, qsc_k8, qsc_l8, qsc_gf10, qsc_gf0, qsc_pf0, qsc_gf5, qsc_pf5, qsc_gf8, qsc_pf8, wrI_row, cpI_row, row_s, row_n, row_ss, row_sw, upd_s, upd_n, ad_inj, ad_z, ad_z2, Nat.reduceEqDiff, reduceCtorEq, List.cons_append, List.nil_append, Option.toList_some, Option.toList_none, Int.toNat_natCast, List.length_cons, List.length_nil, Int.cast_ofNat_Int, Nat.reduceAdd, Nat.reduceLeDiff, Nat.reduceLT, Nat.reduceMul, Int.reduceAdd, Int.reduceSub, Int.reduceMul, Int.reduceNeg, Int.reduceLT, Int.reduceLE, Int.reduceEq, Int.reduceToNat, eq_self, true_and, and_true, true_or, or_true, false_or, or_false, if_true, if_false, not_true_eq_false, not_false_eq_true, and_self, ne_eq, b_S_openSegment_16, hS, e1, e2]
    (repeat' (first | apply And.intro | split)) <;> first | omega | exact i1 | (rw [b2_t (by omega)] at i1; exact i1) | (rw [b2_f (by omega)] at i1; exact i1)
theorem openSegment_ok (hS : isSc ρ a) (hW : WFV (-99) (vwC g a)) {s m : Nat} {kd : Int} (hG : g a 5 ≤ 29) (hs : (s : Int) ≤ g a 5) (hF : g a 8 + m ≤ 99) (Q : Option AV → Sto → Prop) : WpM zt 41 [AR a, AI s, AI kd, AI m] (g, ρ) Q ↔ Q none (openS g a s kd m, ρ) := by
  refine wpm_iff (fun Q hQ => ?_) Q
  have hG0 := w_G hW
  have hF0 := w_F hW
  have hb := sumL_mono (V := vwC g a) (m := g a 5) (fun j hj => w_ln hW hj) s hs
  obtain ⟨F, hFe⟩ := Int.eq_ofNat_of_zero_le (show 0 ≤ sumL (vwC g a) s by omega)
  have hle : sumL (vwC g a) s ≤ g a 8 := by
    have h1 := sumL_le (V := vwC g a) (m := g a 5) (fun j hj => w_ln hW hj) (s := s) ((g a 5).toNat - s) (by omega)
    rw [show s + ((g a 5).toNat - s) = (g a 5).toNat by omega, w_sum hW] at h1
    omega
  obtain ⟨G, hGe⟩ := Int.eq_ofNat_of_zero_le hG0.1
  have eF : (sumL (vwC g a) s).toNat = F := by omega
  unfold openS at hQ
  rw [eF, ← openF_r (g := g) (a := a) (f := F) (m := m) (j := 5) (by decide) (by decide) (by decide), ← openF_r (g := g) (a := a) (f := F) (m := m) (j := 6) (by decide) (by decide) (by decide)] at hQ
  have h1 := openSegment_loop (zt := zt) hS hG0.1 hG hs (g0 := openF g a F m) openF_5 hQ (G - s) G (by omega) (by omega)
  have eG : (g a 5).toNat = G := by omega
  rw [eG, shR_0, shR_0, row_id, row_id] at h1
  have o1 := openFrames_ok (zt := zt) (g := g) hS (f := F) (m := m) hF0.1 hF (by omega)
  have f1 := firstFrameOf_ok (zt := zt) hS hW (s := (s : Int)) (by omega) hs
  simp only [m_S_openSegment, b_S_openSegment_0, P_S_openSegment_60, b_S_openSegment_60, wp_aln0, wp_cv1, wp_cv2, wp_cv3, wp_cv4, wp_cv5, wp_cv6, wp_cv7, wp_dup, wp_goto, wp_iadd, wp_iald, wp_iast, wp_icle, wp_iconst, wp_il4, wp_iln1, wp_iln2, wp_iln3, wp_inc4, wp_is4, wp_isub, wp_nop, wp_ret, qsc_kd, qsc_k1, qsc_l1, qsc_gf1, qsc_k2, qsc_l2, qsc_gf2, qsc_k3, qsc_l3, qsc_gf3, qsc_k4, qsc_l4, qsc_gf4, qsc_k5, qsc_l5, qsc_gf6, qsc_k6, qsc_l6, qsc_gf7, qsc_k7, qsc_l7, qsc_gf9, qsc_k8, qsc_l8, qsc_gf10, qsc_gf0, qsc_pf0, qsc_gf5, qsc_pf5, qsc_gf8, qsc_pf8, wrI_row, cpI_row, row_s, row_n, row_ss, row_sw, upd_s, upd_n, ad_inj, ad_z, ad_z2, Nat.reduceEqDiff, reduceCtorEq, List.cons_append, List.nil_append, Option.toList_some, Option.toList_none, Int.toNat_natCast, List.length_cons, List.length_nil, Int.cast_ofNat_Int, Nat.reduceAdd, Nat.reduceLeDiff, Nat.reduceLT, Nat.reduceMul, Int.reduceAdd, Int.reduceSub, Int.reduceMul, Int.reduceNeg, Int.reduceLT, Int.reduceLE, Int.reduceEq, Int.reduceToNat, eq_self, true_and, and_true, true_or, or_true, false_or, or_false, if_true, if_false, not_true_eq_false, not_false_eq_true, and_self, ne_eq, hS, f1, hFe, o1, openF_5, hGe]
  exact h1
def csR (r : Nat → Int) (s i : Nat) : Nat → Int := fun y => if s ≤ y ∧ y + 1 < i then r (y + 1) else r y
theorem csR_0 {r : Nat → Int} {s : Nat} : csR r s (s + 1) = r := by
  funext y
  unfold csR
  rw [if_neg (by omega)]
theorem csR_st {r : Nat → Int} {s i : Nat} (h : s + 1 ≤ i) : upd1 (csR r s i) (i - 1) (csR r s i i) = csR r s (i + 1) := by
  funext y
  unfold csR upd1
  rw [if_neg (show ¬ (s ≤ i ∧ i + 1 < i) by omega)]
  by_cases h1 : y = i - 1
  · rw [if_pos h1, if_pos (by omega)]
    congr 1
    omega
  · rw [if_neg h1]
    dsimp only
    by_cases h2 : s ≤ y ∧ y + 1 < i
    · rw [if_pos h2, if_pos (by omega)]
    · rw [if_neg h2, if_neg (by omega)]
/-- a scene without its segment s -/
def closeS (g : Nat → Nat → Int) (a s : Nat) : Nat → Nat → Int := setRow (setRow (setRow (closeF g a (sumL (vwC g a) s).toNat (g (ad a 6) s).toNat) (ad a 5) (csR (g (ad a 5)) s (g a 5).toNat)) (ad a 6) (csR (g (ad a 6)) s (g a 5).toNat)) a (upd1 (closeF g a (sumL (vwC g a) s).toNat (g (ad a 6) s).toNat a) 5 (g a 5 - 1))
theorem closeSegment_loop (hS : isSc ρ a) {s : Nat} (hG : g a 5 ≤ 30) {Q : Option AV → Sto → Prop} {g0 : Nat → Nat → Int} (h5 : g0 a 5 = g a 5) (hQ : Q none (setRow (setRow (setRow g0 (ad a 5) (csR (g0 (ad a 5)) s (g a 5).toNat)) (ad a 6) (csR (g0 (ad a 6)) s (g a 5).toNat)) a (upd1 (g0 a) 5 (g a 5 - 1)), ρ)) :
    ∀ (d t : Nat), (t : Int) + d = g a 5 → s + 1 ≤ t → Wp zt 42 (P 42 19) [some (AR a), some (AI s), some (AI t)] [] (setRow (setRow g0 (ad a 5) (csR (g0 (ad a 5)) s t)) (ad a 6) (csR (g0 (ad a 6)) s t), ρ) Q := by
  intro d
  induction d with
  | zero =>
    intro t h1 h2
    have e : (g a 5).toNat = t := by omega
    rw [e] at hQ
    rw [P_S_closeSegment_19]
    simp only [m_S_closeSegment, b_S_closeSegment_0, P_S_closeSegment_61, b_S_closeSegment_61, wp_aln0, wp_cv1, wp_cv2, wp_cv3, wp_cv4, wp_cv5, wp_cv6, wp_cv7, wp_dup, wp_goto, wp_iadd, wp_iald, wp_iast, wp_icge, wp_iconst, wp_iln1, wp_iln2, wp_inc2, wp_isn2, wp_isub, wp_nop, wp_ret, qsc_kd, qsc_k1, qsc_l1, qsc_gf1, qsc_k2, qsc_l2, qsc_gf2, qsc_k3, qsc_l3, qsc_gf3, qsc_k4, qsc_l4, qsc_gf4, qsc_k5, qsc_l5, qsc_gf6, qsc_k6, qsc_l6, qsc_gf7, qsc_k7, qsc_l7, qsc_gf9, qsc_k8, qsc_l8, qsc_gf10, qsc_gf0, qsc_pf0, qsc_gf5, qsc_pf5, qsc_gf8, qsc_pf8, wrI_row, cpI_row, row_s, row_n, row_ss, row_sw, upd_s, upd_n, ad_inj, ad_z, ad_z2, Nat.reduceEqDiff, reduceCtorEq, List.cons_append, List.nil_append, Option.toList_some, Option.toList_none, Int.toNat_natCast, List.length_cons, List.length_nil, Int.cast_ofNat_Int, Nat.reduceAdd, Nat.reduceLeDiff, Nat.reduceLT, Nat.reduceMul, Int.reduceAdd, Int.reduceSub, Int.reduceMul, Int.reduceNeg, Int.reduceLT, Int.reduceLE, Int.reduceEq, Int.reduceToNat, eq_self, true_and, and_true, true_or, or_true, false_or, or_false, if_true, if_false, not_true_eq_false, not_false_eq_true, and_self, ne_eq, b_S_closeSegment_19, hS, h5]
    (repeat' (first | apply And.intro | split)) <;> first | omega | exact hQ | (rw [b2_t (by omega)] at hQ; exact hQ) | (rw [b2_f (by omega)] at hQ; exact hQ)
  | succ d ih =>
    intro t h1 h2
    have i1 := ih (t + 1) (by omega) (by omega)
    rw [← csR_st h2, ← csR_st h2] at i1
    have e2 : ((t : Int) - 1).toNat = t - 1 := by omega
    rw [P_S_closeSegment_19]
    simp only [m_S_closeSegment, b_S_closeSegment_0, P_S_closeSegment_61, b_S_closeSegment_61, wp_aln0, wp_cv1, wp_cv2, wp_cv3, wp_cv4, wp_cv5, wp_cv6, wp_cv7, wp_dup, wp_goto, wp_iadd, wp_iald, wp_iast, wp_icge, wp_iconst, wp_iln1, wp_iln2, wp_inc2, wp_isn2, wp_isub, wp_nop, wp_ret, qsc_kd, qsc_k1, qsc_l1, qsc_gf1, qsc_k2, qsc_l2, qsc_gf2, qsc_k3, qsc_l3, qsc_gf3, qsc_k4, qsc_l4, qsc_gf4, qsc_k5, qsc_l5, qsc_gf6, qsc_k6, qsc_l6, qsc_gf7, qsc_k7, qsc_l7, qsc_gf9, qsc_k8, qsc_l8, qsc_gf10, qsc_gf0, qsc_pf0, qsc_gf5, qsc_pf5, qsc_gf8, qsc_pf8, wrI_row, cpI_row, row_s, row_n, row_ss, row_sw, upd_s, upd_n, ad_inj, ad_z, ad_z2, Nat.reduceEqDiff, reduceCtorEq, List.cons_append, List.nil_append, Option.toList_some, Option.toList_none, Int.toNat_natCast, List.length_cons, List.length_nil, Int.cast_ofNat_Int, Nat.reduceAdd, Nat.reduceLeDiff, Nat.reduceLT, Nat.reduceMul, Int.reduceAdd, Int.reduceSub, Int.reduceMul, Int.reduceNeg, Int.reduceLT, Int.reduceLE, Int.reduceEq, Int.reduceToNat, eq_self, true_and, and_true, true_or, or_true, false_or, or_false, if_true, if_false, not_true_eq_false, not_false_eq_true, and_self, ne_eq, b_S_closeSegment_19, hS, e2, h5]
    (repeat' (first | apply And.intro | split)) <;> first | omega | exact i1 | (rw [b2_t (by omega)] at i1; exact i1) | (rw [b2_f (by omega)] at i1; exact i1)
theorem closeSegment_ok (hS : isSc ρ a) (hW : WFV (-99) (vwC g a)) {s : Nat} (hs : (s : Int) < g a 5) (Q : Option AV → Sto → Prop) : WpM zt 42 [AR a, AI s] (g, ρ) Q ↔ Q none (closeS g a s, ρ) := by
  refine wpm_iff (fun Q hQ => ?_) Q
  have hG0 := w_G hW
  have hF0 := w_F hW
  have hln := w_ln hW hs
  have hb := sumL_mono (V := vwC g a) (m := g a 5) (fun j hj => w_ln hW hj) s (by omega)
  obtain ⟨F, hFe⟩ := Int.eq_ofNat_of_zero_le (show 0 ≤ sumL (vwC g a) s by omega)
  obtain ⟨m, hme⟩ := Int.eq_ofNat_of_zero_le (show 0 ≤ g (ad a 6) s by omega)
  have hle : sumL (vwC g a) s + g (ad a 6) s ≤ g a 8 := by
    have h1 := sumL_le (V := vwC g a) (m := g a 5) (fun j hj => w_ln hW hj) (s := s + 1) ((g a 5).toNat - (s + 1)) (by omega)
    rw [show s + 1 + ((g a 5).toNat - (s + 1)) = (g a 5).toNat by omega, w_sum hW] at h1
    have h2 : sumL (vwC g a) (s + 1) = sumL (vwC g a) s + g (ad a 6) s := rfl
    omega
  have eF : (sumL (vwC g a) s).toNat = F := by omega
  have em : (g (ad a 6) s).toNat = m := by omega
  unfold closeS at hQ
  rw [eF, em, ← closeF_r (g := g) (a := a) (f := F) (m := m) (j := 5) (by decide) (by decide) (by decide), ← closeF_r (g := g) (a := a) (f := F) (m := m) (j := 6) (by decide) (by decide) (by decide)] at hQ
  have h1 := closeSegment_loop (zt := zt) hS hG0.2 (g0 := closeF g a F m) closeF_5 hQ ((g a 5).toNat - (s + 1)) (s + 1) (by omega) (Nat.le_refl _)
  rw [csR_0, csR_0, row_id, row_id] at h1
  have o1 := closeFrames_ok (zt := zt) (g := g) hS (f := F) (m := m) hF0.2 (by omega)
  have f1 := firstFrameOf_ok (zt := zt) hS hW (s := (s : Int)) (by omega) (by omega)
  simp only [m_S_closeSegment, b_S_closeSegment_0, P_S_closeSegment_61, b_S_closeSegment_61, wp_aln0, wp_cv1, wp_cv2, wp_cv3, wp_cv4, wp_cv5, wp_cv6, wp_cv7, wp_dup, wp_goto, wp_iadd, wp_iald, wp_iast, wp_icge, wp_iconst, wp_iln1, wp_iln2, wp_inc2, wp_isn2, wp_isub, wp_nop, wp_ret, qsc_kd, qsc_k1, qsc_l1, qsc_gf1, qsc_k2, qsc_l2, qsc_gf2, qsc_k3, qsc_l3, qsc_gf3, qsc_k4, qsc_l4, qsc_gf4, qsc_k5, qsc_l5, qsc_gf6, qsc_k6, qsc_l6, qsc_gf7, qsc_k7, qsc_l7, qsc_gf9, qsc_k8, qsc_l8, qsc_gf10, qsc_gf0, qsc_pf0, qsc_gf5, qsc_pf5, qsc_gf8, qsc_pf8, wrI_row, cpI_row, row_s, row_n, row_ss, row_sw, upd_s, upd_n, ad_inj, ad_z, ad_z2, Nat.reduceEqDiff, reduceCtorEq, List.cons_append, List.nil_append, Option.toList_some, Option.toList_none, Int.toNat_natCast, List.length_cons, List.length_nil, Int.cast_ofNat_Int, Nat.reduceAdd, Nat.reduceLeDiff, Nat.reduceLT, Nat.reduceMul, Int.reduceAdd, Int.reduceSub, Int.reduceMul, Int.reduceNeg, Int.reduceLT, Int.reduceLE, Int.reduceEq, Int.reduceToNat, eq_self, true_and, and_true, true_or, or_true, false_or, or_false, if_true, if_false, not_true_eq_false, not_false_eq_true, and_self, ne_eq, hS, f1, hFe, hme, o1, closeF_5]
  (repeat' (first | apply And.intro | split)) <;> first | omega | exact h1 | (rw [b2_t (by omega)] at h1; exact h1) | (rw [b2_f (by omega)] at h1; exact h1)
end SCW
end
section
/-! COPIES OF SCENES AND STATES, the record of states -/
/-- two views alike as far as the rows reach -/
def vwEq (V U : Vw) : Prop := V 0 0 = U 0 0 ∧ V 5 0 = U 5 0 ∧ V 8 0 = U 8 0 ∧ (∀ j, j < 8 → V 1 j = U 1 j ∧ V 2 j = U 2 j) ∧ (∀ j, j < 36 → V 3 j = U 3 j) ∧ (∀ j, j < 5 → V 4 j = U 4 j) ∧ (∀ j, j < 30 → V 6 j = U 6 j ∧ V 7 j = U 7 j) ∧ ∀ j, j < 99 → V 9 j = U 9 j ∧ V 10 j = U 10 j
theorem vwEq.refl {V : Vw} : vwEq V V := ⟨rfl, rfl, rfl, fun _ _ => ⟨rfl, rfl⟩, fun _ _ => rfl, fun _ _ => rfl, fun _ _ => ⟨rfl, rfl⟩, fun _ _ => ⟨rfl, rfl⟩⟩
theorem vwEq.trans {V U T : Vw} (h : vwEq V U) (h2 : vwEq U T) : vwEq V T := by
  obtain ⟨a1, a2, a3, a4, a5, a6, a7, a8⟩ := h
  obtain ⟨b1, b2, b3, b4, b5, b6, b7, b8⟩ := h2
  exact ⟨a1.trans b1, a2.trans b2, a3.trans b3, fun j hj => ⟨(a4 j hj).1.trans (b4 j hj).1, (a4 j hj).2.trans (b4 j hj).2⟩, fun j hj => (a5 j hj).trans (b5 j hj), fun j hj => (a6 j hj).trans (b6 j hj), fun j hj => ⟨(a7 j hj).1.trans (b7 j hj).1, (a7 j hj).2.trans (b7 j hj).2⟩, fun j hj => ⟨(a8 j hj).1.trans (b8 j hj).1, (a8 j hj).2.trans (b8 j hj).2⟩⟩
/-- a scene's cells are all that its view reads -/
theorem vwC_kept {g g' : Nat → Nat → Int} {a : Nat} (h : ∀ x, a ≤ x → x < a + 9 → g' x = g x) : vwC g' a = vwC g a := by
  have e : ∀ j, j < 9 → g' (ad a j) = g (ad a j) := fun j hj => h _ (by unfold ad; omega) (by unfold ad; omega)
  have e0 : g' a = g a := h a (Nat.le_refl _) (by omega)
  funext k j
  unfold vwC
  split <;> first | rw [e0] | rw [e _ (by decide)] | rfl
theorem dj_1 {a b i j : Nat} (h : a + 9 ≤ b ∨ b + 9 ≤ a) (hi : i ≤ 8) (hj : j ≤ 8) : (ad b i = ad a j) ↔ False := iff_false_intro (by unfold ad; omega)
theorem dj_2 {a b i : Nat} (h : a + 9 ≤ b ∨ b + 9 ≤ a) (hi : i ≤ 8) : (ad b i = a) ↔ False := iff_false_intro (by unfold ad; omega)
theorem dj_3 {a b j : Nat} (h : a + 9 ≤ b ∨ b + 9 ≤ a) (hj : j ≤ 8) : (b = ad a j) ↔ False := iff_false_intro (by unfold ad; omega)
theorem dj_4 {a b : Nat} (h : a + 9 ≤ b ∨ b + 9 ≤ a) : (b = a) ↔ False := iff_false_intro (by omega)
theorem cpR_0 {f r : Nat → Int} {n y : Nat} (h : y < n) : cpR f r 0 0 n y = f y := by
  unfold cpR
  rw [if_pos (by omega)]
  congr 1
  omega
section CPS
variable {zt : Nat → Nat} {g : Nat → Nat → Int} {ρ : Ri} {a b : Nat}
theorem copyFrom_ok (hS : isSc ρ a) (hB : isSc ρ b) (hd : a + 9 ≤ b ∨ b + 9 ≤ a) {Q : Option AV → Sto → Prop} (hQ : ∀ g' : Nat → Nat → Int, vwEq (vwC g' a) (vwC g b) → (∀ x, (x < a ∨ a + 9 ≤ x) → g' x = g x) → Q none (g', ρ)) : WpM zt 26 [AR a, AR b] (g, ρ) Q := by
  simp only [m_S_copyFrom, b_S_copyFrom_0, wp_abs, wp_aln0, wp_aln1, wp_bipush, wp_copy, wp_cs1, wp_cs2, wp_cs3, wp_cs4, wp_cs5, wp_cs6, wp_cs7, wp_iconst, wp_max, wp_min, wp_ret, qsc_kd, qsc_k1, qsc_l1, qsc_gf1, qsc_k2, qsc_l2, qsc_gf2, qsc_k3, qsc_l3, qsc_gf3, qsc_k4, qsc_l4, qsc_gf4, qsc_k5, qsc_l5, qsc_gf6, qsc_k6, qsc_l6, qsc_gf7, qsc_k7, qsc_l7, qsc_gf9, qsc_k8, qsc_l8, qsc_gf10, qsc_gf0, qsc_pf0, qsc_gf5, qsc_pf5, qsc_gf8, qsc_pf8, wrI_row, cpI_row, row_s, row_n, row_ss, row_sw, upd_s, upd_n, ad_inj, ad_z, ad_z2, Nat.reduceEqDiff, reduceCtorEq, List.cons_append, List.nil_append, Option.toList_some, Option.toList_none, Int.toNat_natCast, List.length_cons, List.length_nil, Int.cast_ofNat_Int, Nat.reduceAdd, Nat.reduceLeDiff, Nat.reduceLT, Nat.reduceMul, Int.reduceAdd, Int.reduceSub, Int.reduceMul, Int.reduceNeg, Int.reduceLT, Int.reduceLE, Int.reduceEq, Int.reduceToNat, eq_self, true_and, and_true, true_or, or_true, false_or, or_false, if_true, if_false, not_true_eq_false, not_false_eq_true, and_self, ne_eq, hS, hB, dj_1 hd, dj_2 hd, dj_3 hd, dj_4 hd]
  refine hQ _ ?_ ?_
  · refine ⟨?_, ?_, ?_, fun j hj => ?_, fun j hj => ?_, fun j hj => ?_, fun j hj => ?_, fun j hj => ?_⟩
    all_goals simp only [vwC, row_s, row_n, ad_inj, ad_z, ad_z2, Nat.reduceEqDiff, not_false_eq_true, upd_s, upd_n]
    all_goals first | exact ⟨cpR_0 hj, cpR_0 hj⟩ | exact cpR_0 hj | rfl
  · intro x hx
    have e : ∀ j, j ≤ 8 → ¬ x = ad a j := fun j hj => by unfold ad; omega
    have e0 : ¬ x = a := by omega
    rw [row_n (e 8 (by decide)), row_n (e 7 (by decide)), row_n (e 6 (by decide)), row_n (e 5 (by decide)), row_n (e 4 (by decide)), row_n (e 3 (by decide)), row_n (e 2 (by decide)), row_n (e 1 (by decide)), row_n e0]
end CPS
/-- a state: its scene, its slots' scenes, and which are taken -/
def isStX (ρ : Ri) (t : Nat) : Prop := isSt ρ t ∧ isSc ρ (ad t 1) ∧ isSc ρ (ad t 11) ∧ isSc ρ (ad t 20) ∧ ρ.1 (ad t 10) 0 = some (ad t 11) ∧ ρ.1 (ad t 10) 1 = some (ad t 20)
/-- a state's value: the scene and the slots that are taken -/
def stEq (g' : Nat → Nat → Int) (t : Nat) (g : Nat → Nat → Int) (o : Nat) : Prop := vwEq (vwC g' (ad t 1)) (vwC g (ad o 1)) ∧ (g' (ad t 29) 0 = g (ad o 29) 0 ∧ g' (ad t 29) 1 = g (ad o 29) 1) ∧ (g (ad o 29) 0 = 1 → vwEq (vwC g' (ad t 11)) (vwC g (ad o 11))) ∧ (g (ad o 29) 1 = 1 → vwEq (vwC g' (ad t 20)) (vwC g (ad o 20)))
def tkB (g : Nat → Nat → Int) (t : Nat) : Prop := (g (ad t 29) 0 = 0 ∨ g (ad t 29) 0 = 1) ∧ (g (ad t 29) 1 = 0 ∨ g (ad t 29) 1 = 1)
section CPT
variable {zt : Nat → Nat} {g : Nat → Nat → Int} {ρ : Ri} {t o : Nat}
theorem countTaken_ok (hT : isStX ρ t) (hk : tkB g t) (Q : Option AV → Sto → Prop) : WpM zt 47 [AR t] (g, ρ) Q ↔ Q (some (AI (g (ad t 29) 0 + g (ad t 29) 1))) (g, ρ) := by
  refine wpm_iff (fun Q hQ => ?_) Q
  obtain ⟨h0, h1⟩ := hk
  have hT1 := hT.1
  have h2 : ∀ n : Int, n = g (ad t 29) 0 + g (ad t 29) 1 → Wp zt 47 (P 47 4) [some (AR t), some (AI n), some (AI 2)] [] (g, ρ) Q := fun n hn => by
    rw [P_T_countTaken_4]
    simp only [m_T_countTaken, b_T_countTaken_0, P_T_countTaken_27, b_T_countTaken_27, wp_aln0, wp_bald, wp_goto, wp_icge, wp_iconst, wp_iln1, wp_iln2, wp_inc1, wp_inc2, wp_iret, wp_isn1, wp_isn2, wp_izeq, wp_nop, wp_zret, qst_kd, qst_gf0, qst_k10, qst_l10, qst_gf1, qst_k29, qst_l29, qst_gf2, wrI_row, cpI_row, row_s, row_n, row_ss, row_sw, upd_s, upd_n, ad_inj, ad_z, ad_z2, Nat.reduceEqDiff, reduceCtorEq, List.cons_append, List.nil_append, Option.toList_some, Option.toList_none, Int.toNat_natCast, List.length_cons, List.length_nil, Int.cast_ofNat_Int, Nat.reduceAdd, Nat.reduceLeDiff, Nat.reduceLT, Nat.reduceMul, Int.reduceAdd, Int.reduceSub, Int.reduceMul, Int.reduceNeg, Int.reduceLT, Int.reduceLE, Int.reduceEq, Int.reduceToNat, eq_self, true_and, and_true, true_or, or_true, false_or, or_false, if_true, if_false, not_true_eq_false, not_false_eq_true, and_self, ne_eq, b_T_countTaken_4, hT1]
    rw [hn]
    exact hQ
  have h3 : ∀ n : Int, n = g (ad t 29) 0 → Wp zt 47 (P 47 4) [some (AR t), some (AI n), some (AI 1)] [] (g, ρ) Q := fun n hn => by
    rw [P_T_countTaken_4]
    rcases h1 with h1 | h1
    · simp only [m_T_countTaken, b_T_countTaken_0, P_T_countTaken_27, b_T_countTaken_27, wp_aln0, wp_bald, wp_goto, wp_icge, wp_iconst, wp_iln1, wp_iln2, wp_inc1, wp_inc2, wp_iret, wp_isn1, wp_isn2, wp_izeq, wp_nop, wp_zret, qst_kd, qst_gf0, qst_k10, qst_l10, qst_gf1, qst_k29, qst_l29, qst_gf2, wrI_row, cpI_row, row_s, row_n, row_ss, row_sw, upd_s, upd_n, ad_inj, ad_z, ad_z2, Nat.reduceEqDiff, reduceCtorEq, List.cons_append, List.nil_append, Option.toList_some, Option.toList_none, Int.toNat_natCast, List.length_cons, List.length_nil, Int.cast_ofNat_Int, Nat.reduceAdd, Nat.reduceLeDiff, Nat.reduceLT, Nat.reduceMul, Int.reduceAdd, Int.reduceSub, Int.reduceMul, Int.reduceNeg, Int.reduceLT, Int.reduceLE, Int.reduceEq, Int.reduceToNat, eq_self, true_and, and_true, true_or, or_true, false_or, or_false, if_true, if_false, not_true_eq_false, not_false_eq_true, and_self, ne_eq, b_T_countTaken_4, hT1, h1]
      rw [P_T_countTaken_21]
      simp only [m_T_countTaken, b_T_countTaken_0, P_T_countTaken_27, b_T_countTaken_27, wp_aln0, wp_bald, wp_goto, wp_icge, wp_iconst, wp_iln1, wp_iln2, wp_inc1, wp_inc2, wp_iret, wp_isn1, wp_isn2, wp_izeq, wp_nop, wp_zret, qst_kd, qst_gf0, qst_k10, qst_l10, qst_gf1, qst_k29, qst_l29, qst_gf2, wrI_row, cpI_row, row_s, row_n, row_ss, row_sw, upd_s, upd_n, ad_inj, ad_z, ad_z2, Nat.reduceEqDiff, reduceCtorEq, List.cons_append, List.nil_append, Option.toList_some, Option.toList_none, Int.toNat_natCast, List.length_cons, List.length_nil, Int.cast_ofNat_Int, Nat.reduceAdd, Nat.reduceLeDiff, Nat.reduceLT, Nat.reduceMul, Int.reduceAdd, Int.reduceSub, Int.reduceMul, Int.reduceNeg, Int.reduceLT, Int.reduceLE, Int.reduceEq, Int.reduceToNat, eq_self, true_and, and_true, true_or, or_true, false_or, or_false, if_true, if_false, not_true_eq_false, not_false_eq_true, and_self, ne_eq, b_T_countTaken_21, hT1, h1]
      exact h2 _ (by omega)
    · simp only [m_T_countTaken, b_T_countTaken_0, P_T_countTaken_27, b_T_countTaken_27, wp_aln0, wp_bald, wp_goto, wp_icge, wp_iconst, wp_iln1, wp_iln2, wp_inc1, wp_inc2, wp_iret, wp_isn1, wp_isn2, wp_izeq, wp_nop, wp_zret, qst_kd, qst_gf0, qst_k10, qst_l10, qst_gf1, qst_k29, qst_l29, qst_gf2, wrI_row, cpI_row, row_s, row_n, row_ss, row_sw, upd_s, upd_n, ad_inj, ad_z, ad_z2, Nat.reduceEqDiff, reduceCtorEq, List.cons_append, List.nil_append, Option.toList_some, Option.toList_none, Int.toNat_natCast, List.length_cons, List.length_nil, Int.cast_ofNat_Int, Nat.reduceAdd, Nat.reduceLeDiff, Nat.reduceLT, Nat.reduceMul, Int.reduceAdd, Int.reduceSub, Int.reduceMul, Int.reduceNeg, Int.reduceLT, Int.reduceLE, Int.reduceEq, Int.reduceToNat, eq_self, true_and, and_true, true_or, or_true, false_or, or_false, if_true, if_false, not_true_eq_false, not_false_eq_true, and_self, ne_eq, b_T_countTaken_4, hT1, h1]
      rw [P_T_countTaken_21]
      simp only [m_T_countTaken, b_T_countTaken_0, P_T_countTaken_27, b_T_countTaken_27, wp_aln0, wp_bald, wp_goto, wp_icge, wp_iconst, wp_iln1, wp_iln2, wp_inc1, wp_inc2, wp_iret, wp_isn1, wp_isn2, wp_izeq, wp_nop, wp_zret, qst_kd, qst_gf0, qst_k10, qst_l10, qst_gf1, qst_k29, qst_l29, qst_gf2, wrI_row, cpI_row, row_s, row_n, row_ss, row_sw, upd_s, upd_n, ad_inj, ad_z, ad_z2, Nat.reduceEqDiff, reduceCtorEq, List.cons_append, List.nil_append, Option.toList_some, Option.toList_none, Int.toNat_natCast, List.length_cons, List.length_nil, Int.cast_ofNat_Int, Nat.reduceAdd, Nat.reduceLeDiff, Nat.reduceLT, Nat.reduceMul, Int.reduceAdd, Int.reduceSub, Int.reduceMul, Int.reduceNeg, Int.reduceLT, Int.reduceLE, Int.reduceEq, Int.reduceToNat, eq_self, true_and, and_true, true_or, or_true, false_or, or_false, if_true, if_false, not_true_eq_false, not_false_eq_true, and_self, ne_eq, b_T_countTaken_21, hT1, h1]
      exact h2 _ (by omega)
  simp only [m_T_countTaken, b_T_countTaken_0, P_T_countTaken_27, b_T_countTaken_27, wp_aln0, wp_bald, wp_goto, wp_icge, wp_iconst, wp_iln1, wp_iln2, wp_inc1, wp_inc2, wp_iret, wp_isn1, wp_isn2, wp_izeq, wp_nop, wp_zret, qst_kd, qst_gf0, qst_k10, qst_l10, qst_gf1, qst_k29, qst_l29, qst_gf2, wrI_row, cpI_row, row_s, row_n, row_ss, row_sw, upd_s, upd_n, ad_inj, ad_z, ad_z2, Nat.reduceEqDiff, reduceCtorEq, List.cons_append, List.nil_append, Option.toList_some, Option.toList_none, Int.toNat_natCast, List.length_cons, List.length_nil, Int.cast_ofNat_Int, Nat.reduceAdd, Nat.reduceLeDiff, Nat.reduceLT, Nat.reduceMul, Int.reduceAdd, Int.reduceSub, Int.reduceMul, Int.reduceNeg, Int.reduceLT, Int.reduceLE, Int.reduceEq, Int.reduceToNat, eq_self, true_and, and_true, true_or, or_true, false_or, or_false, if_true, if_false, not_true_eq_false, not_false_eq_true, and_self, ne_eq, hT1]
  rw [P_T_countTaken_4]
  rcases h0 with h0 | h0
  · simp only [m_T_countTaken, b_T_countTaken_0, P_T_countTaken_27, b_T_countTaken_27, wp_aln0, wp_bald, wp_goto, wp_icge, wp_iconst, wp_iln1, wp_iln2, wp_inc1, wp_inc2, wp_iret, wp_isn1, wp_isn2, wp_izeq, wp_nop, wp_zret, qst_kd, qst_gf0, qst_k10, qst_l10, qst_gf1, qst_k29, qst_l29, qst_gf2, wrI_row, cpI_row, row_s, row_n, row_ss, row_sw, upd_s, upd_n, ad_inj, ad_z, ad_z2, Nat.reduceEqDiff, reduceCtorEq, List.cons_append, List.nil_append, Option.toList_some, Option.toList_none, Int.toNat_natCast, List.length_cons, List.length_nil, Int.cast_ofNat_Int, Nat.reduceAdd, Nat.reduceLeDiff, Nat.reduceLT, Nat.reduceMul, Int.reduceAdd, Int.reduceSub, Int.reduceMul, Int.reduceNeg, Int.reduceLT, Int.reduceLE, Int.reduceEq, Int.reduceToNat, eq_self, true_and, and_true, true_or, or_true, false_or, or_false, if_true, if_false, not_true_eq_false, not_false_eq_true, and_self, ne_eq, b_T_countTaken_4, hT1, h0]
    rw [P_T_countTaken_21]
    simp only [m_T_countTaken, b_T_countTaken_0, P_T_countTaken_27, b_T_countTaken_27, wp_aln0, wp_bald, wp_goto, wp_icge, wp_iconst, wp_iln1, wp_iln2, wp_inc1, wp_inc2, wp_iret, wp_isn1, wp_isn2, wp_izeq, wp_nop, wp_zret, qst_kd, qst_gf0, qst_k10, qst_l10, qst_gf1, qst_k29, qst_l29, qst_gf2, wrI_row, cpI_row, row_s, row_n, row_ss, row_sw, upd_s, upd_n, ad_inj, ad_z, ad_z2, Nat.reduceEqDiff, reduceCtorEq, List.cons_append, List.nil_append, Option.toList_some, Option.toList_none, Int.toNat_natCast, List.length_cons, List.length_nil, Int.cast_ofNat_Int, Nat.reduceAdd, Nat.reduceLeDiff, Nat.reduceLT, Nat.reduceMul, Int.reduceAdd, Int.reduceSub, Int.reduceMul, Int.reduceNeg, Int.reduceLT, Int.reduceLE, Int.reduceEq, Int.reduceToNat, eq_self, true_and, and_true, true_or, or_true, false_or, or_false, if_true, if_false, not_true_eq_false, not_false_eq_true, and_self, ne_eq, b_T_countTaken_21, hT1, h0]
    exact h3 _ (by omega)
  · simp only [m_T_countTaken, b_T_countTaken_0, P_T_countTaken_27, b_T_countTaken_27, wp_aln0, wp_bald, wp_goto, wp_icge, wp_iconst, wp_iln1, wp_iln2, wp_inc1, wp_inc2, wp_iret, wp_isn1, wp_isn2, wp_izeq, wp_nop, wp_zret, qst_kd, qst_gf0, qst_k10, qst_l10, qst_gf1, qst_k29, qst_l29, qst_gf2, wrI_row, cpI_row, row_s, row_n, row_ss, row_sw, upd_s, upd_n, ad_inj, ad_z, ad_z2, Nat.reduceEqDiff, reduceCtorEq, List.cons_append, List.nil_append, Option.toList_some, Option.toList_none, Int.toNat_natCast, List.length_cons, List.length_nil, Int.cast_ofNat_Int, Nat.reduceAdd, Nat.reduceLeDiff, Nat.reduceLT, Nat.reduceMul, Int.reduceAdd, Int.reduceSub, Int.reduceMul, Int.reduceNeg, Int.reduceLT, Int.reduceLE, Int.reduceEq, Int.reduceToNat, eq_self, true_and, and_true, true_or, or_true, false_or, or_false, if_true, if_false, not_true_eq_false, not_false_eq_true, and_self, ne_eq, b_T_countTaken_4, hT1, h0]
    rw [P_T_countTaken_21]
    simp only [m_T_countTaken, b_T_countTaken_0, P_T_countTaken_27, b_T_countTaken_27, wp_aln0, wp_bald, wp_goto, wp_icge, wp_iconst, wp_iln1, wp_iln2, wp_inc1, wp_inc2, wp_iret, wp_isn1, wp_isn2, wp_izeq, wp_nop, wp_zret, qst_kd, qst_gf0, qst_k10, qst_l10, qst_gf1, qst_k29, qst_l29, qst_gf2, wrI_row, cpI_row, row_s, row_n, row_ss, row_sw, upd_s, upd_n, ad_inj, ad_z, ad_z2, Nat.reduceEqDiff, reduceCtorEq, List.cons_append, List.nil_append, Option.toList_some, Option.toList_none, Int.toNat_natCast, List.length_cons, List.length_nil, Int.cast_ofNat_Int, Nat.reduceAdd, Nat.reduceLeDiff, Nat.reduceLT, Nat.reduceMul, Int.reduceAdd, Int.reduceSub, Int.reduceMul, Int.reduceNeg, Int.reduceLT, Int.reduceLE, Int.reduceEq, Int.reduceToNat, eq_self, true_and, and_true, true_or, or_true, false_or, or_false, if_true, if_false, not_true_eq_false, not_false_eq_true, and_self, ne_eq, b_T_countTaken_21, hT1, h0]
    exact h3 _ (by omega)
/-- one round of the copying of slots: slot i, whose scenes are u and v -/
theorem stateCopy_slot (hT : isStX ρ t) (hO : isStX ρ o) (hd : t + 30 ≤ o ∨ o + 30 ≤ t) {i u v : Nat} (hi : (i = 0 ∧ u = 11 ∧ v = 11) ∨ (i = 1 ∧ u = 20 ∧ v = 20)) (hk : g (ad o 29) i = 0 ∨ g (ad o 29) i = 1) {Q : Option AV → Sto → Prop} {g1 : Nat → Nat → Int} (h2 : ∀ x, (x < t ∨ t + 30 ≤ x) → g1 x = g x)
    (kk : ∀ g2 : Nat → Nat → Int, (∀ x, ¬ x = ad t 29 → (x < ad t u ∨ ad t u + 9 ≤ x) → g2 x = g1 x) → g2 (ad t 29) = upd1 (g1 (ad t 29)) i (g (ad o 29) i) → (g (ad o 29) i = 1 → vwEq (vwC g2 (ad t u)) (vwC g (ad o u))) → Wp zt 46 (P 46 13) [some (AR t), some (AR o), some (AI ((i : Int) + 1))] [] (g2, ρ) Q) :
    Wp zt 46 (P 46 13) [some (AR t), some (AR o), some (AI i)] [] (g1, ρ) Q := by
  obtain ⟨hT1, hT2, hT3, hT4, hT5, hT6⟩ := hT
  obtain ⟨hO1, hO2, hO3, hO4, hO5, hO6⟩ := hO
  have e1 : g1 (ad o 29) = g (ad o 29) := h2 _ (by unfold ad; omega)
  have n1 : (ad o 29 = ad t 29) ↔ False := iff_false_intro (by unfold ad; omega)
  have c3 : ∀ w, w = 11 ∨ w = 20 → ∀ gg : Nat → Nat → Int, (∀ x, ¬ x = ad t 29 → gg x = g1 x) → vwC gg (ad o w) = vwC g (ad o w) := fun w hw gg hg => vwC_kept (fun x q1 q2 => (hg x (by unfold ad at *; omega)).trans (h2 x (by unfold ad at *; omega)))
  rcases hi with ⟨rfl, rfl, rfl⟩ | ⟨rfl, rfl, rfl⟩ <;> rcases hk with k1 | k1
  · rw [P_T_copyFrom_13]
    simp only [m_T_copyFrom, b_T_copyFrom_0, P_T_copyFrom_60, b_T_copyFrom_60, wp_aln0, wp_aln1, wp_bald, wp_bast, wp_cv1, wp_cv2, wp_cv3, wp_cv4, wp_cv5, wp_cv6, wp_cv7, wp_goto, wp_icge, wp_iconst, wp_iln2, wp_inc2, wp_isn2, wp_izeq, wp_nop, wp_qald2, wp_qald3, wp_ret, qst_kd, qst_gf0, qst_k10, qst_l10, qst_gf1, qst_k29, qst_l29, qst_gf2, wrI_row, cpI_row, row_s, row_n, row_ss, row_sw, upd_s, upd_n, ad_inj, ad_z, ad_z2, Nat.reduceEqDiff, reduceCtorEq, List.cons_append, List.nil_append, Option.toList_some, Option.toList_none, Int.toNat_natCast, List.length_cons, List.length_nil, Int.cast_ofNat_Int, Nat.reduceAdd, Nat.reduceLeDiff, Nat.reduceLT, Nat.reduceMul, Int.reduceAdd, Int.reduceSub, Int.reduceMul, Int.reduceNeg, Int.reduceLT, Int.reduceLE, Int.reduceEq, Int.reduceToNat, eq_self, true_and, and_true, true_or, or_true, false_or, or_false, if_true, if_false, not_true_eq_false, not_false_eq_true, and_self, ne_eq, b_T_copyFrom_13, hT1, hO1, e1, n1, k1]
    rw [P_T_copyFrom_54]
    simp only [m_T_copyFrom, b_T_copyFrom_0, P_T_copyFrom_60, b_T_copyFrom_60, wp_aln0, wp_aln1, wp_bald, wp_bast, wp_cv1, wp_cv2, wp_cv3, wp_cv4, wp_cv5, wp_cv6, wp_cv7, wp_goto, wp_icge, wp_iconst, wp_iln2, wp_inc2, wp_isn2, wp_izeq, wp_nop, wp_qald2, wp_qald3, wp_ret, qst_kd, qst_gf0, qst_k10, qst_l10, qst_gf1, qst_k29, qst_l29, qst_gf2, wrI_row, cpI_row, row_s, row_n, row_ss, row_sw, upd_s, upd_n, ad_inj, ad_z, ad_z2, Nat.reduceEqDiff, reduceCtorEq, List.cons_append, List.nil_append, Option.toList_some, Option.toList_none, Int.toNat_natCast, List.length_cons, List.length_nil, Int.cast_ofNat_Int, Nat.reduceAdd, Nat.reduceLeDiff, Nat.reduceLT, Nat.reduceMul, Int.reduceAdd, Int.reduceSub, Int.reduceMul, Int.reduceNeg, Int.reduceLT, Int.reduceLE, Int.reduceEq, Int.reduceToNat, eq_self, true_and, and_true, true_or, or_true, false_or, or_false, if_true, if_false, not_true_eq_false, not_false_eq_true, and_self, ne_eq, b_T_copyFrom_54, hT1, hO1]
    exact kk _ (fun x q1 _ => row_n q1) (by rw [k1]; exact row_s) (fun q => by omega)
  · rw [P_T_copyFrom_13]
    simp only [m_T_copyFrom, b_T_copyFrom_0, P_T_copyFrom_60, b_T_copyFrom_60, wp_aln0, wp_aln1, wp_bald, wp_bast, wp_cv1, wp_cv2, wp_cv3, wp_cv4, wp_cv5, wp_cv6, wp_cv7, wp_goto, wp_icge, wp_iconst, wp_iln2, wp_inc2, wp_isn2, wp_izeq, wp_nop, wp_qald2, wp_qald3, wp_ret, qsc_kd, qsc_k1, qsc_l1, qsc_gf1, qsc_k2, qsc_l2, qsc_gf2, qsc_k3, qsc_l3, qsc_gf3, qsc_k4, qsc_l4, qsc_gf4, qsc_k5, qsc_l5, qsc_gf6, qsc_k6, qsc_l6, qsc_gf7, qsc_k7, qsc_l7, qsc_gf9, qsc_k8, qsc_l8, qsc_gf10, qsc_gf0, qsc_pf0, qsc_gf5, qsc_pf5, qsc_gf8, qsc_pf8, qst_kd, qst_gf0, qst_k10, qst_l10, qst_gf1, qst_k29, qst_l29, qst_gf2, wrI_row, cpI_row, row_s, row_n, row_ss, row_sw, upd_s, upd_n, ad_inj, ad_z, ad_z2, Nat.reduceEqDiff, reduceCtorEq, List.cons_append, List.nil_append, Option.toList_some, Option.toList_none, Int.toNat_natCast, List.length_cons, List.length_nil, Int.cast_ofNat_Int, Nat.reduceAdd, Nat.reduceLeDiff, Nat.reduceLT, Nat.reduceMul, Int.reduceAdd, Int.reduceSub, Int.reduceMul, Int.reduceNeg, Int.reduceLT, Int.reduceLE, Int.reduceEq, Int.reduceToNat, eq_self, true_and, and_true, true_or, or_true, false_or, or_false, if_true, if_false, not_true_eq_false, not_false_eq_true, and_self, ne_eq, b_T_copyFrom_13, hT1, hO1, e1, n1, k1, hT5, hO5, hT3, hO3]
    refine copyFrom_ok hT3 hO3 (by unfold ad; omega) (fun g3 d1 d2 => ?_)
    simp only [m_T_copyFrom, b_T_copyFrom_0, P_T_copyFrom_60, b_T_copyFrom_60, wp_aln0, wp_aln1, wp_bald, wp_bast, wp_cv1, wp_cv2, wp_cv3, wp_cv4, wp_cv5, wp_cv6, wp_cv7, wp_goto, wp_icge, wp_iconst, wp_iln2, wp_inc2, wp_isn2, wp_izeq, wp_nop, wp_qald2, wp_qald3, wp_ret, qst_kd, qst_gf0, qst_k10, qst_l10, qst_gf1, qst_k29, qst_l29, qst_gf2, wrI_row, cpI_row, row_s, row_n, row_ss, row_sw, upd_s, upd_n, ad_inj, ad_z, ad_z2, Nat.reduceEqDiff, reduceCtorEq, List.cons_append, List.nil_append, Option.toList_some, Option.toList_none, Int.toNat_natCast, List.length_cons, List.length_nil, Int.cast_ofNat_Int, Nat.reduceAdd, Nat.reduceLeDiff, Nat.reduceLT, Nat.reduceMul, Int.reduceAdd, Int.reduceSub, Int.reduceMul, Int.reduceNeg, Int.reduceLT, Int.reduceLE, Int.reduceEq, Int.reduceToNat, eq_self, true_and, and_true, true_or, or_true, false_or, or_false, if_true, if_false, not_true_eq_false, not_false_eq_true, and_self, ne_eq, hT1, hO1]
    rw [P_T_copyFrom_54]
    simp only [m_T_copyFrom, b_T_copyFrom_0, P_T_copyFrom_60, b_T_copyFrom_60, wp_aln0, wp_aln1, wp_bald, wp_bast, wp_cv1, wp_cv2, wp_cv3, wp_cv4, wp_cv5, wp_cv6, wp_cv7, wp_goto, wp_icge, wp_iconst, wp_iln2, wp_inc2, wp_isn2, wp_izeq, wp_nop, wp_qald2, wp_qald3, wp_ret, qst_kd, qst_gf0, qst_k10, qst_l10, qst_gf1, qst_k29, qst_l29, qst_gf2, wrI_row, cpI_row, row_s, row_n, row_ss, row_sw, upd_s, upd_n, ad_inj, ad_z, ad_z2, Nat.reduceEqDiff, reduceCtorEq, List.cons_append, List.nil_append, Option.toList_some, Option.toList_none, Int.toNat_natCast, List.length_cons, List.length_nil, Int.cast_ofNat_Int, Nat.reduceAdd, Nat.reduceLeDiff, Nat.reduceLT, Nat.reduceMul, Int.reduceAdd, Int.reduceSub, Int.reduceMul, Int.reduceNeg, Int.reduceLT, Int.reduceLE, Int.reduceEq, Int.reduceToNat, eq_self, true_and, and_true, true_or, or_true, false_or, or_false, if_true, if_false, not_true_eq_false, not_false_eq_true, and_self, ne_eq, b_T_copyFrom_54, hT1, hO1]
    refine kk _ (fun x q1 q2 => (d2 x q2).trans (row_n q1)) (by rw [k1]; exact (d2 _ (by unfold ad; omega)).trans row_s) (fun q => ?_)
    rw [← c3 11 (Or.inl rfl) _ (fun x hx => row_n hx)]
    exact d1
  · rw [P_T_copyFrom_13]
    simp only [m_T_copyFrom, b_T_copyFrom_0, P_T_copyFrom_60, b_T_copyFrom_60, wp_aln0, wp_aln1, wp_bald, wp_bast, wp_cv1, wp_cv2, wp_cv3, wp_cv4, wp_cv5, wp_cv6, wp_cv7, wp_goto, wp_icge, wp_iconst, wp_iln2, wp_inc2, wp_isn2, wp_izeq, wp_nop, wp_qald2, wp_qald3, wp_ret, qst_kd, qst_gf0, qst_k10, qst_l10, qst_gf1, qst_k29, qst_l29, qst_gf2, wrI_row, cpI_row, row_s, row_n, row_ss, row_sw, upd_s, upd_n, ad_inj, ad_z, ad_z2, Nat.reduceEqDiff, reduceCtorEq, List.cons_append, List.nil_append, Option.toList_some, Option.toList_none, Int.toNat_natCast, List.length_cons, List.length_nil, Int.cast_ofNat_Int, Nat.reduceAdd, Nat.reduceLeDiff, Nat.reduceLT, Nat.reduceMul, Int.reduceAdd, Int.reduceSub, Int.reduceMul, Int.reduceNeg, Int.reduceLT, Int.reduceLE, Int.reduceEq, Int.reduceToNat, eq_self, true_and, and_true, true_or, or_true, false_or, or_false, if_true, if_false, not_true_eq_false, not_false_eq_true, and_self, ne_eq, b_T_copyFrom_13, hT1, hO1, e1, n1, k1]
    rw [P_T_copyFrom_54]
    simp only [m_T_copyFrom, b_T_copyFrom_0, P_T_copyFrom_60, b_T_copyFrom_60, wp_aln0, wp_aln1, wp_bald, wp_bast, wp_cv1, wp_cv2, wp_cv3, wp_cv4, wp_cv5, wp_cv6, wp_cv7, wp_goto, wp_icge, wp_iconst, wp_iln2, wp_inc2, wp_isn2, wp_izeq, wp_nop, wp_qald2, wp_qald3, wp_ret, qst_kd, qst_gf0, qst_k10, qst_l10, qst_gf1, qst_k29, qst_l29, qst_gf2, wrI_row, cpI_row, row_s, row_n, row_ss, row_sw, upd_s, upd_n, ad_inj, ad_z, ad_z2, Nat.reduceEqDiff, reduceCtorEq, List.cons_append, List.nil_append, Option.toList_some, Option.toList_none, Int.toNat_natCast, List.length_cons, List.length_nil, Int.cast_ofNat_Int, Nat.reduceAdd, Nat.reduceLeDiff, Nat.reduceLT, Nat.reduceMul, Int.reduceAdd, Int.reduceSub, Int.reduceMul, Int.reduceNeg, Int.reduceLT, Int.reduceLE, Int.reduceEq, Int.reduceToNat, eq_self, true_and, and_true, true_or, or_true, false_or, or_false, if_true, if_false, not_true_eq_false, not_false_eq_true, and_self, ne_eq, b_T_copyFrom_54, hT1, hO1]
    exact kk _ (fun x q1 _ => row_n q1) (by rw [k1]; exact row_s) (fun q => by omega)
  · rw [P_T_copyFrom_13]
    simp only [m_T_copyFrom, b_T_copyFrom_0, P_T_copyFrom_60, b_T_copyFrom_60, wp_aln0, wp_aln1, wp_bald, wp_bast, wp_cv1, wp_cv2, wp_cv3, wp_cv4, wp_cv5, wp_cv6, wp_cv7, wp_goto, wp_icge, wp_iconst, wp_iln2, wp_inc2, wp_isn2, wp_izeq, wp_nop, wp_qald2, wp_qald3, wp_ret, qsc_kd, qsc_k1, qsc_l1, qsc_gf1, qsc_k2, qsc_l2, qsc_gf2, qsc_k3, qsc_l3, qsc_gf3, qsc_k4, qsc_l4, qsc_gf4, qsc_k5, qsc_l5, qsc_gf6, qsc_k6, qsc_l6, qsc_gf7, qsc_k7, qsc_l7, qsc_gf9, qsc_k8, qsc_l8, qsc_gf10, qsc_gf0, qsc_pf0, qsc_gf5, qsc_pf5, qsc_gf8, qsc_pf8, qst_kd, qst_gf0, qst_k10, qst_l10, qst_gf1, qst_k29, qst_l29, qst_gf2, wrI_row, cpI_row, row_s, row_n, row_ss, row_sw, upd_s, upd_n, ad_inj, ad_z, ad_z2, Nat.reduceEqDiff, reduceCtorEq, List.cons_append, List.nil_append, Option.toList_some, Option.toList_none, Int.toNat_natCast, List.length_cons, List.length_nil, Int.cast_ofNat_Int, Nat.reduceAdd, Nat.reduceLeDiff, Nat.reduceLT, Nat.reduceMul, Int.reduceAdd, Int.reduceSub, Int.reduceMul, Int.reduceNeg, Int.reduceLT, Int.reduceLE, Int.reduceEq, Int.reduceToNat, eq_self, true_and, and_true, true_or, or_true, false_or, or_false, if_true, if_false, not_true_eq_false, not_false_eq_true, and_self, ne_eq, b_T_copyFrom_13, hT1, hO1, e1, n1, k1, hT6, hO6, hT4, hO4]
    refine copyFrom_ok hT4 hO4 (by unfold ad; omega) (fun g3 d1 d2 => ?_)
    simp only [m_T_copyFrom, b_T_copyFrom_0, P_T_copyFrom_60, b_T_copyFrom_60, wp_aln0, wp_aln1, wp_bald, wp_bast, wp_cv1, wp_cv2, wp_cv3, wp_cv4, wp_cv5, wp_cv6, wp_cv7, wp_goto, wp_icge, wp_iconst, wp_iln2, wp_inc2, wp_isn2, wp_izeq, wp_nop, wp_qald2, wp_qald3, wp_ret, qst_kd, qst_gf0, qst_k10, qst_l10, qst_gf1, qst_k29, qst_l29, qst_gf2, wrI_row, cpI_row, row_s, row_n, row_ss, row_sw, upd_s, upd_n, ad_inj, ad_z, ad_z2, Nat.reduceEqDiff, reduceCtorEq, List.cons_append, List.nil_append, Option.toList_some, Option.toList_none, Int.toNat_natCast, List.length_cons, List.length_nil, Int.cast_ofNat_Int, Nat.reduceAdd, Nat.reduceLeDiff, Nat.reduceLT, Nat.reduceMul, Int.reduceAdd, Int.reduceSub, Int.reduceMul, Int.reduceNeg, Int.reduceLT, Int.reduceLE, Int.reduceEq, Int.reduceToNat, eq_self, true_and, and_true, true_or, or_true, false_or, or_false, if_true, if_false, not_true_eq_false, not_false_eq_true, and_self, ne_eq, hT1, hO1]
    rw [P_T_copyFrom_54]
    simp only [m_T_copyFrom, b_T_copyFrom_0, P_T_copyFrom_60, b_T_copyFrom_60, wp_aln0, wp_aln1, wp_bald, wp_bast, wp_cv1, wp_cv2, wp_cv3, wp_cv4, wp_cv5, wp_cv6, wp_cv7, wp_goto, wp_icge, wp_iconst, wp_iln2, wp_inc2, wp_isn2, wp_izeq, wp_nop, wp_qald2, wp_qald3, wp_ret, qst_kd, qst_gf0, qst_k10, qst_l10, qst_gf1, qst_k29, qst_l29, qst_gf2, wrI_row, cpI_row, row_s, row_n, row_ss, row_sw, upd_s, upd_n, ad_inj, ad_z, ad_z2, Nat.reduceEqDiff, reduceCtorEq, List.cons_append, List.nil_append, Option.toList_some, Option.toList_none, Int.toNat_natCast, List.length_cons, List.length_nil, Int.cast_ofNat_Int, Nat.reduceAdd, Nat.reduceLeDiff, Nat.reduceLT, Nat.reduceMul, Int.reduceAdd, Int.reduceSub, Int.reduceMul, Int.reduceNeg, Int.reduceLT, Int.reduceLE, Int.reduceEq, Int.reduceToNat, eq_self, true_and, and_true, true_or, or_true, false_or, or_false, if_true, if_false, not_true_eq_false, not_false_eq_true, and_self, ne_eq, b_T_copyFrom_54, hT1, hO1]
    refine kk _ (fun x q1 q2 => (d2 x q2).trans (row_n q1)) (by rw [k1]; exact (d2 _ (by unfold ad; omega)).trans row_s) (fun q => ?_)
    rw [← c3 20 (Or.inr rfl) _ (fun x hx => row_n hx)]
    exact d1
theorem stateCopy_ok (hT : isStX ρ t) (hO : isStX ρ o) (hd : t + 30 ≤ o ∨ o + 30 ≤ t) (hk : tkB g o) {Q : Option AV → Sto → Prop} (hQ : ∀ g' : Nat → Nat → Int, stEq g' t g o → (∀ x, (x < t ∨ t + 30 ≤ x) → g' x = g x) → Q none (g', ρ)) : WpM zt 46 [AR t, AR o] (g, ρ) Q := by
  have hT1 := hT.1
  have hO1 := hO.1
  have hT2 := hT.2.1
  have hO2 := hO.2.1
  simp only [m_T_copyFrom, b_T_copyFrom_0, P_T_copyFrom_60, b_T_copyFrom_60, wp_aln0, wp_aln1, wp_bald, wp_bast, wp_cv1, wp_cv2, wp_cv3, wp_cv4, wp_cv5, wp_cv6, wp_cv7, wp_goto, wp_icge, wp_iconst, wp_iln2, wp_inc2, wp_isn2, wp_izeq, wp_nop, wp_qald2, wp_qald3, wp_ret, qsc_kd, qsc_k1, qsc_l1, qsc_gf1, qsc_k2, qsc_l2, qsc_gf2, qsc_k3, qsc_l3, qsc_gf3, qsc_k4, qsc_l4, qsc_gf4, qsc_k5, qsc_l5, qsc_gf6, qsc_k6, qsc_l6, qsc_gf7, qsc_k7, qsc_l7, qsc_gf9, qsc_k8, qsc_l8, qsc_gf10, qsc_gf0, qsc_pf0, qsc_gf5, qsc_pf5, qsc_gf8, qsc_pf8, qst_kd, qst_gf0, qst_k10, qst_l10, qst_gf1, qst_k29, qst_l29, qst_gf2, wrI_row, cpI_row, row_s, row_n, row_ss, row_sw, upd_s, upd_n, ad_inj, ad_z, ad_z2, Nat.reduceEqDiff, reduceCtorEq, List.cons_append, List.nil_append, Option.toList_some, Option.toList_none, Int.toNat_natCast, List.length_cons, List.length_nil, Int.cast_ofNat_Int, Nat.reduceAdd, Nat.reduceLeDiff, Nat.reduceLT, Nat.reduceMul, Int.reduceAdd, Int.reduceSub, Int.reduceMul, Int.reduceNeg, Int.reduceLT, Int.reduceLE, Int.reduceEq, Int.reduceToNat, eq_self, true_and, and_true, true_or, or_true, false_or, or_false, if_true, if_false, not_true_eq_false, not_false_eq_true, and_self, ne_eq, hT1, hO1, hT2]
  refine copyFrom_ok hT2 hO2 (by unfold ad; omega) (fun g1 d1 d2 => ?_)
  simp only [m_T_copyFrom, b_T_copyFrom_0, P_T_copyFrom_60, b_T_copyFrom_60, wp_aln0, wp_aln1, wp_bald, wp_bast, wp_cv1, wp_cv2, wp_cv3, wp_cv4, wp_cv5, wp_cv6, wp_cv7, wp_goto, wp_icge, wp_iconst, wp_iln2, wp_inc2, wp_isn2, wp_izeq, wp_nop, wp_qald2, wp_qald3, wp_ret, qst_kd, qst_gf0, qst_k10, qst_l10, qst_gf1, qst_k29, qst_l29, qst_gf2, wrI_row, cpI_row, row_s, row_n, row_ss, row_sw, upd_s, upd_n, ad_inj, ad_z, ad_z2, Nat.reduceEqDiff, reduceCtorEq, List.cons_append, List.nil_append, Option.toList_some, Option.toList_none, Int.toNat_natCast, List.length_cons, List.length_nil, Int.cast_ofNat_Int, Nat.reduceAdd, Nat.reduceLeDiff, Nat.reduceLT, Nat.reduceMul, Int.reduceAdd, Int.reduceSub, Int.reduceMul, Int.reduceNeg, Int.reduceLT, Int.reduceLE, Int.reduceEq, Int.reduceToNat, eq_self, true_and, and_true, true_or, or_true, false_or, or_false, if_true, if_false, not_true_eq_false, not_false_eq_true, and_self, ne_eq, hT1, hO1]
  refine stateCopy_slot hT hO hd (i := 0) (Or.inl ⟨rfl, rfl, rfl⟩) hk.1 (fun x hx => d2 x (by unfold ad; omega)) (fun g2 a1 a2 a3 => ?_)
  refine stateCopy_slot hT hO hd (i := 1) (Or.inr ⟨rfl, rfl, rfl⟩) hk.2 (fun x hx => (a1 x (by unfold ad; omega) (by unfold ad; omega)).trans (d2 x (by unfold ad; omega))) (fun g3 b1 b2 b3 => ?_)
  rw [P_T_copyFrom_13]
  simp only [m_T_copyFrom, b_T_copyFrom_0, P_T_copyFrom_60, b_T_copyFrom_60, wp_aln0, wp_aln1, wp_bald, wp_bast, wp_cv1, wp_cv2, wp_cv3, wp_cv4, wp_cv5, wp_cv6, wp_cv7, wp_goto, wp_icge, wp_iconst, wp_iln2, wp_inc2, wp_isn2, wp_izeq, wp_nop, wp_qald2, wp_qald3, wp_ret, qst_kd, qst_gf0, qst_k10, qst_l10, qst_gf1, qst_k29, qst_l29, qst_gf2, wrI_row, cpI_row, row_s, row_n, row_ss, row_sw, upd_s, upd_n, ad_inj, ad_z, ad_z2, Nat.reduceEqDiff, reduceCtorEq, List.cons_append, List.nil_append, Option.toList_some, Option.toList_none, Int.toNat_natCast, List.length_cons, List.length_nil, Int.cast_ofNat_Int, Nat.reduceAdd, Nat.reduceLeDiff, Nat.reduceLT, Nat.reduceMul, Int.reduceAdd, Int.reduceSub, Int.reduceMul, Int.reduceNeg, Int.reduceLT, Int.reduceLE, Int.reduceEq, Int.reduceToNat, eq_self, true_and, and_true, true_or, or_true, false_or, or_false, if_true, if_false, not_true_eq_false, not_false_eq_true, and_self, ne_eq, b_T_copyFrom_13, hT1, hO1]
  have f1 : vwC g3 (ad t 1) = vwC g1 (ad t 1) := (vwC_kept (fun x q1 q2 => b1 x (by unfold ad at *; omega) (by unfold ad at *; omega))).trans (vwC_kept (fun x q1 q2 => a1 x (by unfold ad at *; omega) (by unfold ad at *; omega)))
  have f2 : vwC g3 (ad t 11) = vwC g2 (ad t 11) := vwC_kept (fun x q1 q2 => b1 x (by unfold ad at *; omega) (by unfold ad at *; omega))
  refine hQ g3 ⟨by rw [f1]; exact d1, ⟨?_, ?_⟩, fun q => by rw [f2]; exact a3 q, b3⟩ (fun x hx => (b1 x (by unfold ad; omega) (by unfold ad; omega)).trans ((a1 x (by unfold ad; omega) (by unfold ad; omega)).trans (d2 x (by unfold ad; omega))))
  · rw [b2, upd_n (by decide), a2, upd_s]
  · rw [b2, upd_s]
end CPT
end
section
/-! AIR -/
def chgV (V : Vw) (kd : Int) : Int := if kd = 9 then V 4 4 else -V 3 (kd * 4 + 3).toNat
/-- the air ahead of a frame -/
def airV (V : Vw) : Nat → Int
  | 0 => V 4 3
  | f + 1 => min (max (airV V f + chgV V (kndV V f)) 0) (V 4 3)
def gspV (V : Vw) (f : Nat) : Prop := airV V f + chgV V (kndV V f) < 0
theorem gspV_or (V : Vw) (f : Nat) : gspV V f ∨ ¬ gspV V f := Classical.em _
/-- how many gasps ahead of a frame -/
noncomputable def gcnV (V : Vw) : Nat → Int
  | 0 => 0
  | f + 1 => if airV V f + chgV V (kndV V f) < 0 then gcnV V f + 1 else gcnV V f
/-- the segment of the first gasp ahead of a frame; -1 where there is none -/
noncomputable def gsgV (V : Vw) : Nat → Int
  | 0 => -1
  | f + 1 => if airV V f + chgV V (kndV V f) < 0 ∧ gcnV V f = 0 then segV V f else gsgV V f
theorem gcnV_b (V : Vw) : ∀ f : Nat, 0 ≤ gcnV V f ∧ gcnV V f ≤ f
  | 0 => ⟨Int.le_refl _, Int.le_refl _⟩
  | f + 1 => by
    have h := gcnV_b V f
    simp only [gcnV]
    split <;> omega
theorem airV_b {V : Vw} (h : 1 ≤ V 4 3 ∧ V 4 3 ≤ 99) : ∀ f : Nat, 0 ≤ airV V f ∧ airV V f ≤ V 4 3
  | 0 => ⟨by simp only [airV]; omega, by simp only [airV]; omega⟩
  | f + 1 => by simp only [airV]; omega
/-- the segment of a frame of the segment s -/
theorem segF_at {V : Vw} {m : Int} (h : ∀ j : Nat, (j : Int) < m → 1 ≤ V 7 j ∧ V 7 j ≤ 20) {s : Nat} (hs : (s : Int) < m) {f : Int} (h1 : sumL V s ≤ f) (h2 : f < sumL V (s + 1)) : ∀ (d t : Nat), t ≤ s → s < t + d → segF V f d t = s
  | 0, t, q1, q2 => by omega
  | d + 1, t, q1, q2 => by
    simp only [segF]
    by_cases e : t = s
    · subst e
      rw [if_pos h2]
    · have hle := sumL_le h (s := t + 1) (s - (t + 1)) (by omega)
      rw [show t + 1 + (s - (t + 1)) = s by omega] at hle
      rw [if_neg (by omega)]
      exact segF_at h hs h1 h2 d (t + 1) (by omega) (by omega)
theorem segV_at {g : Nat → Nat → Int} {a : Nat} (hW : WFV (-99) (vwC g a)) {s : Nat} (hs : (s : Int) < g a 5) {f : Int} (h1 : sumL (vwC g a) s ≤ f) (h2 : f < sumL (vwC g a) (s + 1)) : segV (vwC g a) f = s :=
  segF_at (V := vwC g a) (m := g a 5) (fun j hj => w_ln hW hj) hs h1 h2 (g a 5).toNat 0 (Nat.zero_le _) (by omega)
theorem da_1 {a w i j : Nat} (h : a + 9 ≤ w ∨ w + 9 ≤ a) (hi : i ≤ 8) (hj : j ≤ 8) : (ad a i = ad w j) ↔ False := iff_false_intro (by unfold ad; omega)
section AIR
variable {zt : Nat → Nat} {g : Nat → Nat → Int} {ρ : Ri} {a w : Nat}
theorem changeIn_ok (hS : isSc ρ a) (hW : WFV (-99) (vwC g a)) {kd : Int} (hk0 : 0 ≤ kd) (hk1 : kd ≤ 9) (Q : Option AV → Sto → Prop) : WpM zt 2 [AR a, AI kd] (g, ρ) Q ↔ Q (some (AI (chgV (vwC g a) kd))) (g, ρ) := by
  refine wpm_iff (fun Q hQ => ?_) Q
  unfold chgV at hQ
  by_cases hc : kd = 9
  · rw [if_pos hc] at hQ
    subst hc
    simp only [m_A_changeIn, b_A_changeIn_0, P_A_changeIn_15, b_A_changeIn_15, P_A_changeIn_26, b_A_changeIn_26, wp_aln0, wp_bipush, wp_goto, wp_iadd, wp_iald, wp_icne, wp_iconst, wp_iln1, wp_imul, wp_ineg, wp_iret, wp_nop, wp_zret, qsc_kd, qsc_k1, qsc_l1, qsc_gf1, qsc_k2, qsc_l2, qsc_gf2, qsc_k3, qsc_l3, qsc_gf3, qsc_k4, qsc_l4, qsc_gf4, qsc_k5, qsc_l5, qsc_gf6, qsc_k6, qsc_l6, qsc_gf7, qsc_k7, qsc_l7, qsc_gf9, qsc_k8, qsc_l8, qsc_gf10, qsc_gf0, qsc_pf0, qsc_gf5, qsc_pf5, qsc_gf8, qsc_pf8, wrI_row, cpI_row, row_s, row_n, row_ss, row_sw, upd_s, upd_n, ad_inj, ad_z, ad_z2, Nat.reduceEqDiff, reduceCtorEq, List.cons_append, List.nil_append, Option.toList_some, Option.toList_none, Int.toNat_natCast, List.length_cons, List.length_nil, Int.cast_ofNat_Int, Nat.reduceAdd, Nat.reduceLeDiff, Nat.reduceLT, Nat.reduceMul, Int.reduceAdd, Int.reduceSub, Int.reduceMul, Int.reduceNeg, Int.reduceLT, Int.reduceLE, Int.reduceEq, Int.reduceToNat, eq_self, true_and, and_true, true_or, or_true, false_or, or_false, if_true, if_false, not_true_eq_false, not_false_eq_true, and_self, ne_eq, hS]
    (repeat' (first | apply And.intro | split)) <;> first | omega | exact hQ | (rw [b2_t (by omega)] at hQ; exact hQ) | (rw [b2_f (by omega)] at hQ; exact hQ)
  · rw [if_neg hc] at hQ
    simp only [m_A_changeIn, b_A_changeIn_0, P_A_changeIn_15, b_A_changeIn_15, P_A_changeIn_26, b_A_changeIn_26, wp_aln0, wp_bipush, wp_goto, wp_iadd, wp_iald, wp_icne, wp_iconst, wp_iln1, wp_imul, wp_ineg, wp_iret, wp_nop, wp_zret, qsc_kd, qsc_k1, qsc_l1, qsc_gf1, qsc_k2, qsc_l2, qsc_gf2, qsc_k3, qsc_l3, qsc_gf3, qsc_k4, qsc_l4, qsc_gf4, qsc_k5, qsc_l5, qsc_gf6, qsc_k6, qsc_l6, qsc_gf7, qsc_k7, qsc_l7, qsc_gf9, qsc_k8, qsc_l8, qsc_gf10, qsc_gf0, qsc_pf0, qsc_gf5, qsc_pf5, qsc_gf8, qsc_pf8, wrI_row, cpI_row, row_s, row_n, row_ss, row_sw, upd_s, upd_n, ad_inj, ad_z, ad_z2, Nat.reduceEqDiff, reduceCtorEq, List.cons_append, List.nil_append, Option.toList_some, Option.toList_none, Int.toNat_natCast, List.length_cons, List.length_nil, Int.cast_ofNat_Int, Nat.reduceAdd, Nat.reduceLeDiff, Nat.reduceLT, Nat.reduceMul, Int.reduceAdd, Int.reduceSub, Int.reduceMul, Int.reduceNeg, Int.reduceLT, Int.reduceLE, Int.reduceEq, Int.reduceToNat, eq_self, true_and, and_true, true_or, or_true, false_or, or_false, if_true, if_false, not_true_eq_false, not_false_eq_true, and_self, ne_eq, hS, hc]
    (repeat' (first | apply And.intro | split)) <;> first | omega | exact hQ | (rw [b2_t (by omega)] at hQ; exact hQ) | (rw [b2_f (by omega)] at hQ; exact hQ)
theorem chgV_b (hW : WFV (-99) (vwC g a)) {kd : Int} (hk0 : 0 ≤ kd) (hk1 : kd ≤ 9) : -9 ≤ chgV (vwC g a) kd ∧ chgV (vwC g a) kd ≤ 20 := by
  have hN := w_nm hW
  unfold chgV
  by_cases hc : kd = 9
  · rw [if_pos hc]
    show -9 ≤ g (ad a 4) 4 ∧ g (ad a 4) 4 ≤ 20
    omega
  · rw [if_neg hc]
    have h3 := w_sn hW (j := (kd * 4 + 3).toNat) (by omega)
    show -9 ≤ -g (ad a 3) (kd * 4 + 3).toNat ∧ -g (ad a 3) (kd * 4 + 3).toNat ≤ 20
    omega
/-- the air object's rows as far as frame f -/
def airI (g : Nat → Nat → Int) (a w : Nat) (f : Nat) (g1 : Nat → Nat → Int) : Prop :=
  (∀ j, j < f → g1 (ad w 1) j = airV (vwC g a) (j + 1)) ∧ (∀ j, j < f → (gspV (vwC g a) j → g1 (ad w 2) j = 1) ∧ (¬ gspV (vwC g a) j → g1 (ad w 2) j = 0)) ∧ g1 w 2 = gcnV (vwC g a) f ∧ g1 w 3 = gsgV (vwC g a) f ∧ ∀ x, ¬ x = w → ¬ x = ad w 1 → ¬ x = ad w 2 → g1 x = g x
theorem follow_body (hS : isSc ρ a) (hA : isAr ρ w) (hd : a + 9 ≤ w ∨ w + 9 ≤ a) (hW : WFV (-99) (vwC g a)) {s f : Nat} (hs : (s : Int) < g a 5) (hf1 : sumL (vwC g a) s ≤ f) (hf2 : (f : Int) < sumL (vwC g a) (s + 1)) (hf3 : (f : Int) < g a 8) {o6 : Option AV} {g1 : Nat → Nat → Int} (hI : airI g a w f g1) {Q : Option AV → Sto → Prop}
    (kk : ∀ (g2 : Nat → Nat → Int) (o : Option AV), airI g a w (f + 1) g2 → Wp zt 1 (P 1 49) [some (AR w), some (AR a), some (AI (airV (vwC g a) (f + 1))), some (AI ((f : Int) + 1)), some (AI s), some (AI (sumL (vwC g a) (s + 1))), o] [] (g2, ρ) Q) :
    Wp zt 1 (P 1 49) [some (AR w), some (AR a), some (AI (airV (vwC g a) f)), some (AI f), some (AI s), some (AI (sumL (vwC g a) (s + 1))), o6] [] (g1, ρ) Q := by
  have hN := w_nm hW
  have hF := w_F hW
  have hG := w_G hW
  have hkd := w_kd hW hs
  obtain ⟨i1, i2, i3, i4, i5⟩ := hI
  have hair := airV_b (V := vwC g a) hN.2.2.2.1 f
  have hair3 : airV (vwC g a) f ≤ 99 := by
    have h1 := hair.2
    have h2 : vwC g a 4 3 = g (ad a 4) 3 := rfl
    omega
  have hsum := sumL_mono (V := vwC g a) (m := g a 5) (fun j hj => w_ln hW hj) (s + 1) (by omega)
  have hseg := segV_at hW hs hf1 hf2
  have hknd : kndV (vwC g a) f = g (ad a 5) s := by unfold kndV; rw [hseg]; simp [vwC]
  have ea : ∀ j, j ≤ 8 → g1 (ad a j) = g (ad a j) := fun j hj => i5 _ (by unfold ad; omega) (by unfold ad; omega) (by unfold ad; omega)
  have e0 : g1 a = g a := i5 _ (by omega) (by unfold ad; omega) (by unfold ad; omega)
  have ev : vwC g1 a = vwC g a := vwC_kept (fun x q1 q2 => i5 x (by omega) (by unfold ad; omega) (by unfold ad; omega))
  have hch := chgV_b hW hkd.1 hkd.2
  have hcn := gcnV_b (vwC g a) f
  have e4 := ea 4 (by decide)
  have e5 := ea 5 (by decide)
  have e6 := ea 6 (by decide)
  have hci := changeIn_ok (zt := zt) (g := g1) hS (by rw [ev]; exact hW) (kd := g (ad a 5) s) hkd.1 hkd.2
  rw [ev] at hci
  have hair1 : airV (vwC g a) (f + 1) = min (max (airV (vwC g a) f + chgV (vwC g a) (g (ad a 5) s)) 0) (g (ad a 4) 3) := by
    simp only [airV, hknd]
    rfl
  have c1 : (ad a 4 = ad w 1) ↔ False := da_1 hd (by decide) (by decide)
  have c2 : (ad a 4 = ad w 2) ↔ False := da_1 hd (by decide) (by decide)
  have c3 : (ad a 4 = w) ↔ False := iff_false_intro (by unfold ad; omega)
  have cw : (airV (vwC g a) f + chgV (vwC g a) (g (ad a 5) s) < 0) ∨ ¬ (airV (vwC g a) f + chgV (vwC g a) (g (ad a 5) s) < 0) := Decidable.em _
  have key : ∀ (g2 : Nat → Nat → Int), g2 (ad w 1) = upd1 (g1 (ad w 1)) f (airV (vwC g a) (f + 1)) → (gspV (vwC g a) f → g2 (ad w 2) = upd1 (g1 (ad w 2)) f 1) → (¬ gspV (vwC g a) f → g2 (ad w 2) = upd1 (g1 (ad w 2)) f 0) → g2 w 2 = gcnV (vwC g a) (f + 1) → g2 w 3 = gsgV (vwC g a) (f + 1) → (∀ x, ¬ x = w → ¬ x = ad w 1 → ¬ x = ad w 2 → g2 x = g1 x) → airI g a w (f + 1) g2 := by
    intro g2 b1 b2' b3 b4 b5 b6
    refine ⟨fun j hj => ?_, fun j hj => ?_, b4, b5, fun x q1 q2 q3 => (b6 x q1 q2 q3).trans (i5 x q1 q2 q3)⟩
    · rw [b1]
      by_cases e : j = f
      · subst e; exact upd_s
      · rw [upd_n e]; exact i1 j (by omega)
    · by_cases e : j = f
      · subst e
        exact ⟨fun q => by rw [b2' q]; exact upd_s, fun q => by rw [b3 q]; exact upd_s⟩
      · refine ⟨fun q => ?_, fun q => ?_⟩
        · rcases gspV_or (vwC g a) f with z | z
          · rw [b2' z, upd_n e]; exact (i2 j (by omega)).1 q
          · rw [b3 z, upd_n e]; exact (i2 j (by omega)).1 q
        · rcases gspV_or (vwC g a) f with z | z
          · rw [b2' z, upd_n e]; exact (i2 j (by omega)).2 q
          · rw [b3 z, upd_n e]; exact (i2 j (by omega)).2 q
  have egs : gspV (vwC g a) f ↔ airV (vwC g a) f + chgV (vwC g a) (g (ad a 5) s) < 0 := by unfold gspV; rw [hknd]
  have hgc1 : airV (vwC g a) f + chgV (vwC g a) (g (ad a 5) s) < 0 → gcnV (vwC g a) (f + 1) = gcnV (vwC g a) f + 1 := fun q => by simp only [gcnV, hknd]; rw [if_pos q]
  have hgc0 : ¬ airV (vwC g a) f + chgV (vwC g a) (g (ad a 5) s) < 0 → gcnV (vwC g a) (f + 1) = gcnV (vwC g a) f := fun q => by simp only [gcnV, hknd]; rw [if_neg q]
  have hgs1 : airV (vwC g a) f + chgV (vwC g a) (g (ad a 5) s) < 0 ∧ gcnV (vwC g a) f = 0 → gsgV (vwC g a) (f + 1) = s := fun q => by simp only [gsgV, hknd, hseg]; rw [if_pos q]
  have hgs0 : ¬ (airV (vwC g a) f + chgV (vwC g a) (g (ad a 5) s) < 0 ∧ gcnV (vwC g a) f = 0) → gsgV (vwC g a) (f + 1) = gsgV (vwC g a) f := fun q => by simp only [gsgV, hknd]; rw [if_neg q]
  rcases cw with hg | hg
  · have hng : ¬ (0 ≤ airV (vwC g a) f + chgV (vwC g a) (g (ad a 5) s)) := by omega
    by_cases hc0 : gcnV (vwC g a) f = 0
    · rw [P_A_follow_49]
      simp only [m_A_follow, b_A_follow_0, P_A_follow_84, b_A_follow_84, P_A_follow_85, b_A_follow_85, P_A_follow_108, b_A_follow_108, P_A_follow_112, b_A_follow_112, P_A_follow_125, b_A_follow_125, P_A_follow_156, b_A_follow_156, P_A_follow_162, b_A_follow_162, wp_abs, wp_aln0, wp_aln1, wp_bald, wp_bast, wp_copy, wp_cs1, wp_cs2, wp_cs3, wp_cs4, wp_cs5, wp_cs6, wp_cs7, wp_dup, wp_goto, wp_iadd, wp_iald, wp_iast, wp_icge, wp_iconst, wp_il4, wp_il5, wp_il6, wp_iln2, wp_iln3, wp_inc3, wp_inc4, wp_is4, wp_is5, wp_is6, wp_isn2, wp_isn3, wp_izeq, wp_izge, wp_izne, wp_max, wp_min, wp_nop, wp_ret, qsc_kd, qsc_k1, qsc_l1, qsc_gf1, qsc_k2, qsc_l2, qsc_gf2, qsc_k3, qsc_l3, qsc_gf3, qsc_k4, qsc_l4, qsc_gf4, qsc_k5, qsc_l5, qsc_gf6, qsc_k6, qsc_l6, qsc_gf7, qsc_k7, qsc_l7, qsc_gf9, qsc_k8, qsc_l8, qsc_gf10, qsc_gf0, qsc_pf0, qsc_gf5, qsc_pf5, qsc_gf8, qsc_pf8, qar_kd, qar_k1, qar_l1, qar_gf0, qar_k2, qar_l2, qar_gf1, qar_gf2, qar_pf2, qar_gf3, qar_pf3, wrI_row, cpI_row, row_s, row_n, row_ss, row_sw, upd_s, upd_n, ad_inj, ad_z, ad_z2, Nat.reduceEqDiff, reduceCtorEq, List.cons_append, List.nil_append, Option.toList_some, Option.toList_none, Int.toNat_natCast, List.length_cons, List.length_nil, Int.cast_ofNat_Int, Nat.reduceAdd, Nat.reduceLeDiff, Nat.reduceLT, Nat.reduceMul, Int.reduceAdd, Int.reduceSub, Int.reduceMul, Int.reduceNeg, Int.reduceLT, Int.reduceLE, Int.reduceEq, Int.reduceToNat, eq_self, true_and, and_true, true_or, or_true, false_or, or_false, if_true, if_false, not_true_eq_false, not_false_eq_true, and_self, ne_eq, b_A_follow_49, hS, hA, e4, e5, e6, e0, hci, hng, c1, c2, c3, i3, hc0]
      (repeat' (first | apply And.intro | split)) <;> first | omega | skip
      rw [← hair1]
      refine kk _ _ (key _ ?_ (fun _ => ?_) (fun q => absurd (egs.mpr hg) q) ?_ ?_ (fun x q1 q2 q3 => ?_))
      · simp only [row_s, row_n, ad_inj, ad_z, ad_z2, Nat.reduceEqDiff, not_false_eq_true]
      · simp only [row_s, row_n, ad_inj, ad_z, ad_z2, Nat.reduceEqDiff, not_false_eq_true]
      · simp only [row_s, row_n, ad_inj, ad_z, ad_z2, Nat.reduceEqDiff, not_false_eq_true, upd_s, upd_n]
        rw [hgc1 hg, hc0]; rfl
      · simp only [row_s, row_n, ad_inj, ad_z, ad_z2, Nat.reduceEqDiff, not_false_eq_true, upd_s, upd_n]
        rw [hgs1 ⟨hg, hc0⟩]
      · rw [row_n q2, row_n q1, row_n q3]
    · rw [P_A_follow_49]
      simp only [m_A_follow, b_A_follow_0, P_A_follow_84, b_A_follow_84, P_A_follow_85, b_A_follow_85, P_A_follow_108, b_A_follow_108, P_A_follow_112, b_A_follow_112, P_A_follow_125, b_A_follow_125, P_A_follow_156, b_A_follow_156, P_A_follow_162, b_A_follow_162, wp_abs, wp_aln0, wp_aln1, wp_bald, wp_bast, wp_copy, wp_cs1, wp_cs2, wp_cs3, wp_cs4, wp_cs5, wp_cs6, wp_cs7, wp_dup, wp_goto, wp_iadd, wp_iald, wp_iast, wp_icge, wp_iconst, wp_il4, wp_il5, wp_il6, wp_iln2, wp_iln3, wp_inc3, wp_inc4, wp_is4, wp_is5, wp_is6, wp_isn2, wp_isn3, wp_izeq, wp_izge, wp_izne, wp_max, wp_min, wp_nop, wp_ret, qsc_kd, qsc_k1, qsc_l1, qsc_gf1, qsc_k2, qsc_l2, qsc_gf2, qsc_k3, qsc_l3, qsc_gf3, qsc_k4, qsc_l4, qsc_gf4, qsc_k5, qsc_l5, qsc_gf6, qsc_k6, qsc_l6, qsc_gf7, qsc_k7, qsc_l7, qsc_gf9, qsc_k8, qsc_l8, qsc_gf10, qsc_gf0, qsc_pf0, qsc_gf5, qsc_pf5, qsc_gf8, qsc_pf8, qar_kd, qar_k1, qar_l1, qar_gf0, qar_k2, qar_l2, qar_gf1, qar_gf2, qar_pf2, qar_gf3, qar_pf3, wrI_row, cpI_row, row_s, row_n, row_ss, row_sw, upd_s, upd_n, ad_inj, ad_z, ad_z2, Nat.reduceEqDiff, reduceCtorEq, List.cons_append, List.nil_append, Option.toList_some, Option.toList_none, Int.toNat_natCast, List.length_cons, List.length_nil, Int.cast_ofNat_Int, Nat.reduceAdd, Nat.reduceLeDiff, Nat.reduceLT, Nat.reduceMul, Int.reduceAdd, Int.reduceSub, Int.reduceMul, Int.reduceNeg, Int.reduceLT, Int.reduceLE, Int.reduceEq, Int.reduceToNat, eq_self, true_and, and_true, true_or, or_true, false_or, or_false, if_true, if_false, not_true_eq_false, not_false_eq_true, and_self, ne_eq, b_A_follow_49, hS, hA, e4, e5, e6, e0, hci, hng, c1, c2, c3, i3, hc0]
      (repeat' (first | apply And.intro | split)) <;> first | omega | skip
      rw [← hair1]
      refine kk _ _ (key _ ?_ (fun _ => ?_) (fun q => absurd (egs.mpr hg) q) ?_ ?_ (fun x q1 q2 q3 => ?_))
      · simp only [row_s, row_n, ad_inj, ad_z, ad_z2, Nat.reduceEqDiff, not_false_eq_true]
      · simp only [row_s, row_n, ad_inj, ad_z, ad_z2, Nat.reduceEqDiff, not_false_eq_true]
      · simp only [row_s, row_n, ad_inj, ad_z, ad_z2, Nat.reduceEqDiff, not_false_eq_true, upd_s, upd_n]
        rw [hgc1 hg]
      · simp only [row_s, row_n, ad_inj, ad_z, ad_z2, Nat.reduceEqDiff, not_false_eq_true, upd_s, upd_n]
        rw [hgs0 (fun q => hc0 q.2)]
        exact i4
      · rw [row_n q2, row_n q1, row_n q3]
  · have hng : 0 ≤ airV (vwC g a) f + chgV (vwC g a) (g (ad a 5) s) := by omega
    rw [P_A_follow_49]
    simp only [m_A_follow, b_A_follow_0, P_A_follow_84, b_A_follow_84, P_A_follow_85, b_A_follow_85, P_A_follow_108, b_A_follow_108, P_A_follow_112, b_A_follow_112, P_A_follow_125, b_A_follow_125, P_A_follow_156, b_A_follow_156, P_A_follow_162, b_A_follow_162, wp_abs, wp_aln0, wp_aln1, wp_bald, wp_bast, wp_copy, wp_cs1, wp_cs2, wp_cs3, wp_cs4, wp_cs5, wp_cs6, wp_cs7, wp_dup, wp_goto, wp_iadd, wp_iald, wp_iast, wp_icge, wp_iconst, wp_il4, wp_il5, wp_il6, wp_iln2, wp_iln3, wp_inc3, wp_inc4, wp_is4, wp_is5, wp_is6, wp_isn2, wp_isn3, wp_izeq, wp_izge, wp_izne, wp_max, wp_min, wp_nop, wp_ret, qsc_kd, qsc_k1, qsc_l1, qsc_gf1, qsc_k2, qsc_l2, qsc_gf2, qsc_k3, qsc_l3, qsc_gf3, qsc_k4, qsc_l4, qsc_gf4, qsc_k5, qsc_l5, qsc_gf6, qsc_k6, qsc_l6, qsc_gf7, qsc_k7, qsc_l7, qsc_gf9, qsc_k8, qsc_l8, qsc_gf10, qsc_gf0, qsc_pf0, qsc_gf5, qsc_pf5, qsc_gf8, qsc_pf8, qar_kd, qar_k1, qar_l1, qar_gf0, qar_k2, qar_l2, qar_gf1, qar_gf2, qar_pf2, qar_gf3, qar_pf3, wrI_row, cpI_row, row_s, row_n, row_ss, row_sw, upd_s, upd_n, ad_inj, ad_z, ad_z2, Nat.reduceEqDiff, reduceCtorEq, List.cons_append, List.nil_append, Option.toList_some, Option.toList_none, Int.toNat_natCast, List.length_cons, List.length_nil, Int.cast_ofNat_Int, Nat.reduceAdd, Nat.reduceLeDiff, Nat.reduceLT, Nat.reduceMul, Int.reduceAdd, Int.reduceSub, Int.reduceMul, Int.reduceNeg, Int.reduceLT, Int.reduceLE, Int.reduceEq, Int.reduceToNat, eq_self, true_and, and_true, true_or, or_true, false_or, or_false, if_true, if_false, not_true_eq_false, not_false_eq_true, and_self, ne_eq, b_A_follow_49, hS, hA, e4, e5, e6, e0, hci, hng, c1, c2, c3, i3]
    (repeat' (first | apply And.intro | split)) <;> first | omega | skip
    rw [← hair1]
    refine kk _ _ (key _ ?_ (fun q => absurd (egs.mp q) hg) (fun _ => ?_) ?_ ?_ (fun x q1 q2 q3 => ?_))
    · simp only [row_s, row_n, ad_inj, ad_z, ad_z2, Nat.reduceEqDiff, not_false_eq_true]
    · simp only [row_s, row_n, ad_inj, ad_z, ad_z2, Nat.reduceEqDiff, not_false_eq_true]
    · simp only [row_s, row_n, ad_inj, ad_z, ad_z2, Nat.reduceEqDiff, not_false_eq_true]
      rw [hgc0 hg]
      exact i3
    · simp only [row_s, row_n, ad_inj, ad_z, ad_z2, Nat.reduceEqDiff, not_false_eq_true]
      rw [hgs0 (fun q => hg q.1)]
      exact i4
    · rw [row_n q2, row_n q3]
theorem follow_inner (hS : isSc ρ a) (hA : isAr ρ w) (hd : a + 9 ≤ w ∨ w + 9 ≤ a) (hW : WFV (-99) (vwC g a)) {s : Nat} (hs : (s : Int) < g a 5) (hle : sumL (vwC g a) (s + 1) ≤ g a 8) {Q : Option AV → Sto → Prop}
    (kk : ∀ (g2 : Nat → Nat → Int) (o5 o6 : Option AV) (f : Nat), (f : Int) = sumL (vwC g a) (s + 1) → airI g a w f g2 → Wp zt 1 (P 1 22) [some (AR w), some (AR a), some (AI (airV (vwC g a) f)), some (AI f), some (AI ((s : Int) + 1)), o5, o6] [] (g2, ρ) Q) :
    ∀ (d f : Nat) (g1 : Nat → Nat → Int) (o6 : Option AV), (f : Int) + d = sumL (vwC g a) (s + 1) → sumL (vwC g a) s ≤ f → airI g a w f g1 → Wp zt 1 (P 1 49) [some (AR w), some (AR a), some (AI (airV (vwC g a) f)), some (AI f), some (AI s), some (AI (sumL (vwC g a) (s + 1))), o6] [] (g1, ρ) Q := by
  have hF := w_F hW
  intro d
  induction d with
  | zero =>
    intro f g1 o6 h1 h2 hI
    have k1 := kk g1 (some (AI (sumL (vwC g a) (s + 1)))) o6 f (by omega) hI
    rw [P_A_follow_49]
    simp only [m_A_follow, b_A_follow_0, P_A_follow_84, b_A_follow_84, P_A_follow_85, b_A_follow_85, P_A_follow_108, b_A_follow_108, P_A_follow_112, b_A_follow_112, P_A_follow_125, b_A_follow_125, P_A_follow_156, b_A_follow_156, P_A_follow_162, b_A_follow_162, wp_abs, wp_aln0, wp_aln1, wp_bald, wp_bast, wp_copy, wp_cs1, wp_cs2, wp_cs3, wp_cs4, wp_cs5, wp_cs6, wp_cs7, wp_dup, wp_goto, wp_iadd, wp_iald, wp_iast, wp_icge, wp_iconst, wp_il4, wp_il5, wp_il6, wp_iln2, wp_iln3, wp_inc3, wp_inc4, wp_is4, wp_is5, wp_is6, wp_isn2, wp_isn3, wp_izeq, wp_izge, wp_izne, wp_max, wp_min, wp_nop, wp_ret, qsc_kd, qsc_k1, qsc_l1, qsc_gf1, qsc_k2, qsc_l2, qsc_gf2, qsc_k3, qsc_l3, qsc_gf3, qsc_k4, qsc_l4, qsc_gf4, qsc_k5, qsc_l5, qsc_gf6, qsc_k6, qsc_l6, qsc_gf7, qsc_k7, qsc_l7, qsc_gf9, qsc_k8, qsc_l8, qsc_gf10, qsc_gf0, qsc_pf0, qsc_gf5, qsc_pf5, qsc_gf8, qsc_pf8, qar_kd, qar_k1, qar_l1, qar_gf0, qar_k2, qar_l2, qar_gf1, qar_gf2, qar_pf2, qar_gf3, qar_pf3, wrI_row, cpI_row, row_s, row_n, row_ss, row_sw, upd_s, upd_n, ad_inj, ad_z, ad_z2, Nat.reduceEqDiff, reduceCtorEq, List.cons_append, List.nil_append, Option.toList_some, Option.toList_none, Int.toNat_natCast, List.length_cons, List.length_nil, Int.cast_ofNat_Int, Nat.reduceAdd, Nat.reduceLeDiff, Nat.reduceLT, Nat.reduceMul, Int.reduceAdd, Int.reduceSub, Int.reduceMul, Int.reduceNeg, Int.reduceLT, Int.reduceLE, Int.reduceEq, Int.reduceToNat, eq_self, true_and, and_true, true_or, or_true, false_or, or_false, if_true, if_false, not_true_eq_false, not_false_eq_true, and_self, ne_eq, b_A_follow_49, hS, hA]
    (repeat' (first | apply And.intro | split)) <;> first | omega | exact k1
  | succ d ih =>
    intro f g1 o6 h1 h2 hI
    refine follow_body hS hA hd hW hs h2 (by omega) (by omega) hI (fun g2 o hI2 => ?_)
    exact ih (f + 1) g2 o (by omega) (by omega) hI2
theorem follow_loop (hS : isSc ρ a) (hA : isAr ρ w) (hd : a + 9 ≤ w ∨ w + 9 ≤ a) (hW : WFV (-99) (vwC g a)) {Q : Option AV → Sto → Prop} (hQ : ∀ g2 : Nat → Nat → Int, airI g a w (g a 8).toNat g2 → Q none (g2, ρ)) :
    ∀ (d s f : Nat) (g1 : Nat → Nat → Int) (o5 o6 : Option AV), (s : Int) + d = g a 5 → (f : Int) = sumL (vwC g a) s → airI g a w f g1 → Wp zt 1 (P 1 22) [some (AR w), some (AR a), some (AI (airV (vwC g a) f)), some (AI f), some (AI s), o5, o6] [] (g1, ρ) Q := by
  have hF := w_F hW
  have hG := w_G hW
  intro d
  induction d with
  | zero =>
    intro s f g1 o5 o6 h1 h2 hI
    have e : (g a 8).toNat = f := by
      have := w_sum hW
      rw [show (g a 5).toNat = s by omega] at this
      omega
    rw [e] at hQ
    have k1 := hQ g1 hI
    have e0 : g1 a = g a := hI.2.2.2.2 _ (by omega) (by unfold ad; omega) (by unfold ad; omega)
    rw [P_A_follow_22]
    simp only [m_A_follow, b_A_follow_0, P_A_follow_84, b_A_follow_84, P_A_follow_85, b_A_follow_85, P_A_follow_108, b_A_follow_108, P_A_follow_112, b_A_follow_112, P_A_follow_125, b_A_follow_125, P_A_follow_156, b_A_follow_156, P_A_follow_162, b_A_follow_162, wp_abs, wp_aln0, wp_aln1, wp_bald, wp_bast, wp_copy, wp_cs1, wp_cs2, wp_cs3, wp_cs4, wp_cs5, wp_cs6, wp_cs7, wp_dup, wp_goto, wp_iadd, wp_iald, wp_iast, wp_icge, wp_iconst, wp_il4, wp_il5, wp_il6, wp_iln2, wp_iln3, wp_inc3, wp_inc4, wp_is4, wp_is5, wp_is6, wp_isn2, wp_isn3, wp_izeq, wp_izge, wp_izne, wp_max, wp_min, wp_nop, wp_ret, qsc_kd, qsc_k1, qsc_l1, qsc_gf1, qsc_k2, qsc_l2, qsc_gf2, qsc_k3, qsc_l3, qsc_gf3, qsc_k4, qsc_l4, qsc_gf4, qsc_k5, qsc_l5, qsc_gf6, qsc_k6, qsc_l6, qsc_gf7, qsc_k7, qsc_l7, qsc_gf9, qsc_k8, qsc_l8, qsc_gf10, qsc_gf0, qsc_pf0, qsc_gf5, qsc_pf5, qsc_gf8, qsc_pf8, qar_kd, qar_k1, qar_l1, qar_gf0, qar_k2, qar_l2, qar_gf1, qar_gf2, qar_pf2, qar_gf3, qar_pf3, wrI_row, cpI_row, row_s, row_n, row_ss, row_sw, upd_s, upd_n, ad_inj, ad_z, ad_z2, Nat.reduceEqDiff, reduceCtorEq, List.cons_append, List.nil_append, Option.toList_some, Option.toList_none, Int.toNat_natCast, List.length_cons, List.length_nil, Int.cast_ofNat_Int, Nat.reduceAdd, Nat.reduceLeDiff, Nat.reduceLT, Nat.reduceMul, Int.reduceAdd, Int.reduceSub, Int.reduceMul, Int.reduceNeg, Int.reduceLT, Int.reduceLE, Int.reduceEq, Int.reduceToNat, eq_self, true_and, and_true, true_or, or_true, false_or, or_false, if_true, if_false, not_true_eq_false, not_false_eq_true, and_self, ne_eq, b_A_follow_22, hS, hA, e0]
    (repeat' (first | apply And.intro | split)) <;> first | omega | exact k1
  | succ d ih =>
    intro s f g1 o5 o6 h1 h2 hI
    have e0 : g1 a = g a := hI.2.2.2.2 _ (by omega) (by unfold ad; omega) (by unfold ad; omega)
    have e6 : g1 (ad a 6) = g (ad a 6) := hI.2.2.2.2 _ (by unfold ad; omega) (by unfold ad; omega) (by unfold ad; omega)
    have hs : (s : Int) < g a 5 := by omega
    have hln := w_ln hW hs
    have hle : sumL (vwC g a) (s + 1) ≤ g a 8 := by
      have h1 := sumL_le (V := vwC g a) (m := g a 5) (fun j hj => w_ln hW hj) (s := s + 1) ((g a 5).toNat - (s + 1)) (by omega)
      rw [show s + 1 + ((g a 5).toNat - (s + 1)) = (g a 5).toNat by omega, w_sum hW] at h1
      omega
    have hsu : sumL (vwC g a) (s + 1) = sumL (vwC g a) s + g (ad a 6) s := rfl
    have hmin : min ((f : Int) + g (ad a 6) s) (g a 8) = sumL (vwC g a) (s + 1) := by omega
    have k1 := follow_inner (zt := zt) hS hA hd hW hs hle (Q := Q) (fun g2 o5 o6 f2 q1 q2 => ih (s + 1) f2 g2 o5 o6 (by omega) q1 q2) (sumL (vwC g a) (s + 1) - f).toNat f g1 o6 (by omega) (by omega) hI
    rw [P_A_follow_22]
    simp only [m_A_follow, b_A_follow_0, P_A_follow_84, b_A_follow_84, P_A_follow_85, b_A_follow_85, P_A_follow_108, b_A_follow_108, P_A_follow_112, b_A_follow_112, P_A_follow_125, b_A_follow_125, P_A_follow_156, b_A_follow_156, P_A_follow_162, b_A_follow_162, wp_abs, wp_aln0, wp_aln1, wp_bald, wp_bast, wp_copy, wp_cs1, wp_cs2, wp_cs3, wp_cs4, wp_cs5, wp_cs6, wp_cs7, wp_dup, wp_goto, wp_iadd, wp_iald, wp_iast, wp_icge, wp_iconst, wp_il4, wp_il5, wp_il6, wp_iln2, wp_iln3, wp_inc3, wp_inc4, wp_is4, wp_is5, wp_is6, wp_isn2, wp_isn3, wp_izeq, wp_izge, wp_izne, wp_max, wp_min, wp_nop, wp_ret, qsc_kd, qsc_k1, qsc_l1, qsc_gf1, qsc_k2, qsc_l2, qsc_gf2, qsc_k3, qsc_l3, qsc_gf3, qsc_k4, qsc_l4, qsc_gf4, qsc_k5, qsc_l5, qsc_gf6, qsc_k6, qsc_l6, qsc_gf7, qsc_k7, qsc_l7, qsc_gf9, qsc_k8, qsc_l8, qsc_gf10, qsc_gf0, qsc_pf0, qsc_gf5, qsc_pf5, qsc_gf8, qsc_pf8, qar_kd, qar_k1, qar_l1, qar_gf0, qar_k2, qar_l2, qar_gf1, qar_gf2, qar_pf2, qar_gf3, qar_pf3, wrI_row, cpI_row, row_s, row_n, row_ss, row_sw, upd_s, upd_n, ad_inj, ad_z, ad_z2, Nat.reduceEqDiff, reduceCtorEq, List.cons_append, List.nil_append, Option.toList_some, Option.toList_none, Int.toNat_natCast, List.length_cons, List.length_nil, Int.cast_ofNat_Int, Nat.reduceAdd, Nat.reduceLeDiff, Nat.reduceLT, Nat.reduceMul, Int.reduceAdd, Int.reduceSub, Int.reduceMul, Int.reduceNeg, Int.reduceLT, Int.reduceLE, Int.reduceEq, Int.reduceToNat, eq_self, true_and, and_true, true_or, or_true, false_or, or_false, if_true, if_false, not_true_eq_false, not_false_eq_true, and_self, ne_eq, b_A_follow_22, hS, hA, e0, e6, hmin]
    (repeat' (first | apply And.intro | split)) <;> first | omega | exact k1
theorem follow_ok (hS : isSc ρ a) (hA : isAr ρ w) (hd : a + 9 ≤ w ∨ w + 9 ≤ a) (hW : WFV (-99) (vwC g a)) {Q : Option AV → Sto → Prop} (hQ : ∀ g2 : Nat → Nat → Int, airI g a w (g a 8).toNat g2 → Q none (g2, ρ)) : WpM zt 1 [AR w, AR a] (g, ρ) Q := by
  have hG := w_G hW
  have c4 : (ad a 4 = w) ↔ False := iff_false_intro (by unfold ad; omega)
  simp only [m_A_follow, b_A_follow_0, P_A_follow_84, b_A_follow_84, P_A_follow_85, b_A_follow_85, P_A_follow_108, b_A_follow_108, P_A_follow_112, b_A_follow_112, P_A_follow_125, b_A_follow_125, P_A_follow_156, b_A_follow_156, P_A_follow_162, b_A_follow_162, wp_abs, wp_aln0, wp_aln1, wp_bald, wp_bast, wp_copy, wp_cs1, wp_cs2, wp_cs3, wp_cs4, wp_cs5, wp_cs6, wp_cs7, wp_dup, wp_goto, wp_iadd, wp_iald, wp_iast, wp_icge, wp_iconst, wp_il4, wp_il5, wp_il6, wp_iln2, wp_iln3, wp_inc3, wp_inc4, wp_is4, wp_is5, wp_is6, wp_isn2, wp_isn3, wp_izeq, wp_izge, wp_izne, wp_max, wp_min, wp_nop, wp_ret, qsc_kd, qsc_k1, qsc_l1, qsc_gf1, qsc_k2, qsc_l2, qsc_gf2, qsc_k3, qsc_l3, qsc_gf3, qsc_k4, qsc_l4, qsc_gf4, qsc_k5, qsc_l5, qsc_gf6, qsc_k6, qsc_l6, qsc_gf7, qsc_k7, qsc_l7, qsc_gf9, qsc_k8, qsc_l8, qsc_gf10, qsc_gf0, qsc_pf0, qsc_gf5, qsc_pf5, qsc_gf8, qsc_pf8, qar_kd, qar_k1, qar_l1, qar_gf0, qar_k2, qar_l2, qar_gf1, qar_gf2, qar_pf2, qar_gf3, qar_pf3, wrI_row, cpI_row, row_s, row_n, row_ss, row_sw, upd_s, upd_n, ad_inj, ad_z, ad_z2, Nat.reduceEqDiff, reduceCtorEq, List.cons_append, List.nil_append, Option.toList_some, Option.toList_none, Int.toNat_natCast, List.length_cons, List.length_nil, Int.cast_ofNat_Int, Nat.reduceAdd, Nat.reduceLeDiff, Nat.reduceLT, Nat.reduceMul, Int.reduceAdd, Int.reduceSub, Int.reduceMul, Int.reduceNeg, Int.reduceLT, Int.reduceLE, Int.reduceEq, Int.reduceToNat, eq_self, true_and, and_true, true_or, or_true, false_or, or_false, if_true, if_false, not_true_eq_false, not_false_eq_true, and_self, ne_eq, hS, hA, c4]
  refine follow_loop hS hA hd hW hQ (g a 5).toNat 0 0 _ _ _ (by omega) rfl ⟨fun j hj => by omega, fun j hj => by omega, ?_, ?_, fun x q1 q2 q3 => row_n q1⟩
  · simp only [row_s, upd_s, upd_n, Nat.reduceEqDiff, not_false_eq_true]
    rfl
  · simp only [row_s, upd_s, upd_n, Nat.reduceEqDiff, not_false_eq_true]
    rfl
end AIR
end
section
/-! THE PLANS' LEAST SUMS, the specification: F frames, M mouths, the hold h, the costs c f m (1000000: barred), close mouths cl -/
def minB (p : Nat → Bool) (v : Nat → Int) : Nat → Int
  | 0 => 1000000
  | n + 1 => if p n = true then min (minB p v n) (v n) else minB p v n
theorem minB_b {p : Nat → Bool} {v : Nat → Int} (h : ∀ j, 0 ≤ v j) : ∀ n, 0 ≤ minB p v n ∧ minB p v n ≤ 1000000
  | 0 => by simp only [minB]; omega
  | n + 1 => by
    have h1 := minB_b (p := p) h n
    have h2 := h n
    simp only [minB]
    split <;> omega
/-- what d frames at the end cost at least, in the mouth m with its run r at the first of them -/
def Rv (F M h : Nat) (c : Nat → Nat → Int) (cl : Nat → Nat → Bool) : Nat → Nat → Nat → Int
  | 0 => fun _ _ => 0
  | d + 1 => fun m r => min 1000000 (c (F - (d + 1)) m + (if d = 0 then 0 else if r = h - 1 then min (Rv F M h c cl d m (min (r + 1) (h - 1))) (minB (fun o => !(o == m) && cl m o) (fun o => Rv F M h c cl d o 0) M) else Rv F M h c cl d m (min (r + 1) (h - 1))))
theorem Rv_b {F M h : Nat} {c : Nat → Nat → Int} {cl : Nat → Nat → Bool} (hc : ∀ f m, 0 ≤ c f m) : ∀ d m r, 0 ≤ Rv F M h c cl d m r ∧ Rv F M h c cl d m r ≤ 1000000
  | 0, m, r => by simp only [Rv]; omega
  | d + 1, m, r => by
    have h1 := hc (F - (d + 1)) m
    have h2 := fun m r => Rv_b (F := F) (M := M) (h := h) (cl := cl) hc d m r
    have h3 := minB_b (p := fun o => !(o == m) && cl m o) (v := fun o => Rv F M h c cl d o 0) (fun o => (h2 o 0).1) M
    have h4 := h2 m (min (r + 1) (h - 1))
    simp only [Rv]
    split
    · omega
    · split <;> omega
/-- the least sum of all: 1000000 where there is no plan -/
def totV (F M h : Nat) (c : Nat → Nat → Int) (cl : Nat → Nat → Bool) : Int := minB (fun _ => true) (fun m => Rv F M h c cl F m 0) M
/-- the least sum as it is told -/
def lstV (F M h : Nat) (c : Nat → Nat → Int) (cl : Nat → Nat → Bool) : Int := if F = 0 then 0 else if totV F M h c cl < 1000000 then totV F M h c cl else -99
def blkR (r : Nat → Int) (p : Nat) (v : Nat → Int) (n : Nat) : Nat → Int := fun y => if p ≤ y ∧ y < p + n then v (y - p) else r y
theorem blkR_0 {r v : Nat → Int} {p : Nat} : blkR r p v 0 = r := by
  funext y
  unfold blkR
  rw [if_neg (by omega)]
theorem blkR_st {r v : Nat → Int} {p n : Nat} {x : Int} (h : x = v n) : upd1 (blkR r p v n) (p + n) x = blkR r p v (n + 1) := by
  funext y
  unfold blkR upd1
  by_cases h1 : y = p + n
  · rw [if_pos h1, if_pos (by omega), h]
    congr 1
    omega
  · rw [if_neg h1]
    dsimp only
    by_cases h2 : p ≤ y ∧ y < p + n
    · rw [if_pos h2, if_pos (by omega)]
    · rw [if_neg h2, if_neg (by omega)]
theorem blkR_in {r v : Nat → Int} {p n j : Nat} (h : j < n) : blkR r p v n (p + j) = v j := by
  unfold blkR
  rw [if_pos (by omega)]
  congr 1
  omega
theorem blkR_out {r v : Nat → Int} {p n y : Nat} (h : ¬ (p ≤ y ∧ y < p + n)) : blkR r p v n y = r y := if_neg h
def barR (r : Nat → Int) (f : Nat) (x : Int) (n : Nat) : Nat → Int := fun y => if f * 8 ≤ y ∧ y < f * 8 + n ∧ ¬ (y : Int) = (f * 8 : Nat) + x then 1000000 else r y
/-- the planner's numbers, costs and close mouths -/
def plI (g : Nat → Nat → Int) (w F M h : Nat) (c : Nat → Nat → Int) (cl : Nat → Nat → Bool) : Prop := g w 6 = F ∧ g w 7 = M ∧ g w 8 = h ∧ (∀ f m, f < F → m < M → g (ad w 2) (f * 8 + m) = c f m) ∧ ∀ x y, x < M → y < M → g (ad w 3) (x * 8 + y) = if cl x y = true then 1 else 0
/-- the rest row from frame f on -/
def rsI (R : Nat → Int) (F M h : Nat) (c : Nat → Nat → Int) (cl : Nat → Nat → Bool) (f : Nat) : Prop := ∀ f' m r, f ≤ f' → f' < F → m < M → r < h → R ((f' * 8 + m) * 3 + r) = Rv F M h c cl (F - f') m r
section PLN
variable {zt : Nat → Nat} {g : Nat → Nat → Int} {ρ : Ri} {w F M h : Nat} {c : Nat → Nat → Int} {cl : Nat → Nat → Bool}
theorem longer_ok (hA : isPl ρ w) (hh : g w 8 = h) (h1 : 1 ≤ h) (h3 : h ≤ 3) {r : Nat} (hr : r < h) (Q : Option AV → Sto → Prop) : WpM zt 11 [AR w, AI r] (g, ρ) Q ↔ Q (some (AI (min (r + 1) (h - 1) : Nat))) (g, ρ) := by
  refine wpm_iff (fun Q hQ => ?_) Q
  have e : ((min (r + 1) (h - 1) : Nat) : Int) = min ((r : Int) + 1) ((h : Int) - 1) := by omega
  rw [e] at hQ
  simp only [m_P_longer, b_P_longer_0, wp_abs, wp_aln0, wp_copy, wp_cs1, wp_cs2, wp_cs3, wp_cs4, wp_cs5, wp_cs6, wp_cs7, wp_iadd, wp_iconst, wp_iln1, wp_iret, wp_isub, wp_max, wp_min, wp_zret, qpl_kd, qpl_k1, qpl_l1, qpl_gf0, qpl_k2, qpl_l2, qpl_gf1, qpl_k3, qpl_l3, qpl_gf2, qpl_k4, qpl_l4, qpl_gf3, qpl_k5, qpl_l5, qpl_gf4, qpl_k6, qpl_l6, qpl_gf5, qpl_gf6, qpl_pf6, qpl_gf7, qpl_pf7, qpl_gf8, qpl_pf8, wrI_row, cpI_row, row_s, row_n, row_ss, row_sw, upd_s, upd_n, ad_inj, ad_z, ad_z2, Nat.reduceEqDiff, reduceCtorEq, List.cons_append, List.nil_append, Option.toList_some, Option.toList_none, Int.toNat_natCast, List.length_cons, List.length_nil, Int.cast_ofNat_Int, Nat.reduceAdd, Nat.reduceLeDiff, Nat.reduceLT, Nat.reduceMul, Int.reduceAdd, Int.reduceSub, Int.reduceMul, Int.reduceNeg, Int.reduceLT, Int.reduceLE, Int.reduceEq, Int.reduceToNat, eq_self, true_and, and_true, true_or, or_true, false_or, or_false, if_true, if_false, not_true_eq_false, not_false_eq_true, and_self, ne_eq, hA, hh]
  (repeat' (first | apply And.intro | split)) <;> first | omega | exact hQ | (rw [b2_t (by omega)] at hQ; exact hQ) | (rw [b2_f (by omega)] at hQ; exact hQ)
theorem barOthers_loop (hA : isPl ρ w) (hM : g w 7 = M) (hM8 : M ≤ 8) {f : Nat} (hf : f < 99) {x : Int} (hx : -1000 ≤ x ∧ x ≤ 1000) {Q : Option AV → Sto → Prop} (hQ : Q none (setRow g (ad w 2) (barR (g (ad w 2)) f x M), ρ)) :
    ∀ (d m : Nat), m + d = M → Wp zt 7 (P 7 2) [some (AR w), some (AI f), some (AI x), some (AI m)] [] (setRow g (ad w 2) (barR (g (ad w 2)) f x m), ρ) Q := by
  intro d
  induction d with
  | zero =>
    intro m hm
    have e : M = m := by omega
    subst e
    rw [P_P_barOthers_2]
    simp only [m_P_barOthers, b_P_barOthers_0, P_P_barOthers_28, b_P_barOthers_28, P_P_barOthers_34, b_P_barOthers_34, wp_aln0, wp_bipush, wp_goto, wp_iadd, wp_iast, wp_iceq, wp_icge, wp_iconst, wp_iln1, wp_iln2, wp_iln3, wp_imul, wp_inc3, wp_isn3, wp_ldc, wp_nop, wp_ret, qpl_kd, qpl_k1, qpl_l1, qpl_gf0, qpl_k2, qpl_l2, qpl_gf1, qpl_k3, qpl_l3, qpl_gf2, qpl_k4, qpl_l4, qpl_gf3, qpl_k5, qpl_l5, qpl_gf4, qpl_k6, qpl_l6, qpl_gf5, qpl_gf6, qpl_pf6, qpl_gf7, qpl_pf7, qpl_gf8, qpl_pf8, wrI_row, cpI_row, row_s, row_n, row_ss, row_sw, upd_s, upd_n, ad_inj, ad_z, ad_z2, Nat.reduceEqDiff, reduceCtorEq, List.cons_append, List.nil_append, Option.toList_some, Option.toList_none, Int.toNat_natCast, List.length_cons, List.length_nil, Int.cast_ofNat_Int, Nat.reduceAdd, Nat.reduceLeDiff, Nat.reduceLT, Nat.reduceMul, Int.reduceAdd, Int.reduceSub, Int.reduceMul, Int.reduceNeg, Int.reduceLT, Int.reduceLE, Int.reduceEq, Int.reduceToNat, eq_self, true_and, and_true, true_or, or_true, false_or, or_false, if_true, if_false, not_true_eq_false, not_false_eq_true, and_self, ne_eq, b_P_barOthers_2, hA, hM]
    (repeat' (first | apply And.intro | split)) <;> first | omega | exact hQ | (rw [b2_t (by omega)] at hQ; exact hQ) | (rw [b2_f (by omega)] at hQ; exact hQ)
  | succ d ih =>
    intro m hm
    have i1 := ih (m + 1) (by omega)
    have e2 : ((f : Int) * 8 + (m : Int)).toNat = f * 8 + m := by omega
    by_cases hc : (m : Int) = x
    · have e1 : barR (g (ad w 2)) f x (m + 1) = barR (g (ad w 2)) f x m := by
        funext y
        unfold barR
        by_cases h1 : f * 8 ≤ y ∧ y < f * 8 + m ∧ ¬ (y : Int) = (f * 8 : Nat) + x
        · rw [if_pos h1, if_pos (by omega)]
        · rw [if_neg h1, if_neg (by omega)]
      rw [e1] at i1
      rw [P_P_barOthers_2]
      simp only [m_P_barOthers, b_P_barOthers_0, P_P_barOthers_28, b_P_barOthers_28, P_P_barOthers_34, b_P_barOthers_34, wp_aln0, wp_bipush, wp_goto, wp_iadd, wp_iast, wp_iceq, wp_icge, wp_iconst, wp_iln1, wp_iln2, wp_iln3, wp_imul, wp_inc3, wp_isn3, wp_ldc, wp_nop, wp_ret, qpl_kd, qpl_k1, qpl_l1, qpl_gf0, qpl_k2, qpl_l2, qpl_gf1, qpl_k3, qpl_l3, qpl_gf2, qpl_k4, qpl_l4, qpl_gf3, qpl_k5, qpl_l5, qpl_gf4, qpl_k6, qpl_l6, qpl_gf5, qpl_gf6, qpl_pf6, qpl_gf7, qpl_pf7, qpl_gf8, qpl_pf8, wrI_row, cpI_row, row_s, row_n, row_ss, row_sw, upd_s, upd_n, ad_inj, ad_z, ad_z2, Nat.reduceEqDiff, reduceCtorEq, List.cons_append, List.nil_append, Option.toList_some, Option.toList_none, Int.toNat_natCast, List.length_cons, List.length_nil, Int.cast_ofNat_Int, Nat.reduceAdd, Nat.reduceLeDiff, Nat.reduceLT, Nat.reduceMul, Int.reduceAdd, Int.reduceSub, Int.reduceMul, Int.reduceNeg, Int.reduceLT, Int.reduceLE, Int.reduceEq, Int.reduceToNat, eq_self, true_and, and_true, true_or, or_true, false_or, or_false, if_true, if_false, not_true_eq_false, not_false_eq_true, and_self, ne_eq, b_P_barOthers_2, hA, hM, hc]
      rw [show ((m + 1 : Nat) : Int) = x + 1 by omega] at i1
      (repeat' (first | apply And.intro | split)) <;> first | omega | exact i1 | (rw [b2_t (by omega)] at i1; exact i1) | (rw [b2_f (by omega)] at i1; exact i1)
    · have e1 : barR (g (ad w 2)) f x (m + 1) = upd1 (barR (g (ad w 2)) f x m) (f * 8 + m) 1000000 := by
        funext y
        unfold barR upd1
        by_cases h0 : y = f * 8 + m
        · rw [if_pos h0, if_pos (by omega)]
        · rw [if_neg h0]
          dsimp only
          by_cases h1 : f * 8 ≤ y ∧ y < f * 8 + m ∧ ¬ (y : Int) = (f * 8 : Nat) + x
          · rw [if_pos h1, if_pos (by omega)]
          · rw [if_neg h1, if_neg (by omega)]
      rw [e1] at i1
      rw [P_P_barOthers_2]
      simp only [m_P_barOthers, b_P_barOthers_0, P_P_barOthers_28, b_P_barOthers_28, P_P_barOthers_34, b_P_barOthers_34, wp_aln0, wp_bipush, wp_goto, wp_iadd, wp_iast, wp_iceq, wp_icge, wp_iconst, wp_iln1, wp_iln2, wp_iln3, wp_imul, wp_inc3, wp_isn3, wp_ldc, wp_nop, wp_ret, qpl_kd, qpl_k1, qpl_l1, qpl_gf0, qpl_k2, qpl_l2, qpl_gf1, qpl_k3, qpl_l3, qpl_gf2, qpl_k4, qpl_l4, qpl_gf3, qpl_k5, qpl_l5, qpl_gf4, qpl_k6, qpl_l6, qpl_gf5, qpl_gf6, qpl_pf6, qpl_gf7, qpl_pf7, qpl_gf8, qpl_pf8, wrI_row, cpI_row, row_s, row_n, row_ss, row_sw, upd_s, upd_n, ad_inj, ad_z, ad_z2, Nat.reduceEqDiff, reduceCtorEq, List.cons_append, List.nil_append, Option.toList_some, Option.toList_none, Int.toNat_natCast, List.length_cons, List.length_nil, Int.cast_ofNat_Int, Nat.reduceAdd, Nat.reduceLeDiff, Nat.reduceLT, Nat.reduceMul, Int.reduceAdd, Int.reduceSub, Int.reduceMul, Int.reduceNeg, Int.reduceLT, Int.reduceLE, Int.reduceEq, Int.reduceToNat, eq_self, true_and, and_true, true_or, or_true, false_or, or_false, if_true, if_false, not_true_eq_false, not_false_eq_true, and_self, ne_eq, b_P_barOthers_2, hA, hM, hc, e2]
      (repeat' (first | apply And.intro | split)) <;> first | omega | exact i1 | (rw [b2_t (by omega)] at i1; exact i1) | (rw [b2_f (by omega)] at i1; exact i1)
theorem barOthers_ok (hA : isPl ρ w) (hM : g w 7 = M) (hM8 : M ≤ 8) {f : Nat} (hf : f < 99) {x : Int} (hx : -1000 ≤ x ∧ x ≤ 1000) (Q : Option AV → Sto → Prop) : WpM zt 7 [AR w, AI f, AI x] (g, ρ) Q ↔ Q none (setRow g (ad w 2) (barR (g (ad w 2)) f x M), ρ) := by
  refine wpm_iff (fun Q hQ => ?_) Q
  have h1 := barOthers_loop (zt := zt) hA hM hM8 hf hx hQ M 0 (by omega)
  have e : barR (g (ad w 2)) f x 0 = g (ad w 2) := by
    funext y
    unfold barR
    rw [if_neg (by omega)]
  rw [e, row_id] at h1
  simp only [m_P_barOthers, b_P_barOthers_0, P_P_barOthers_28, b_P_barOthers_28, P_P_barOthers_34, b_P_barOthers_34, wp_aln0, wp_bipush, wp_goto, wp_iadd, wp_iast, wp_iceq, wp_icge, wp_iconst, wp_iln1, wp_iln2, wp_iln3, wp_imul, wp_inc3, wp_isn3, wp_ldc, wp_nop, wp_ret, qpl_kd, qpl_k1, qpl_l1, qpl_gf0, qpl_k2, qpl_l2, qpl_gf1, qpl_k3, qpl_l3, qpl_gf2, qpl_k4, qpl_l4, qpl_gf3, qpl_k5, qpl_l5, qpl_gf4, qpl_k6, qpl_l6, qpl_gf5, qpl_gf6, qpl_pf6, qpl_gf7, qpl_pf7, qpl_gf8, qpl_pf8, wrI_row, cpI_row, row_s, row_n, row_ss, row_sw, upd_s, upd_n, ad_inj, ad_z, ad_z2, Nat.reduceEqDiff, reduceCtorEq, List.cons_append, List.nil_append, Option.toList_some, Option.toList_none, Int.toNat_natCast, List.length_cons, List.length_nil, Int.cast_ofNat_Int, Nat.reduceAdd, Nat.reduceLeDiff, Nat.reduceLT, Nat.reduceMul, Int.reduceAdd, Int.reduceSub, Int.reduceMul, Int.reduceNeg, Int.reduceLT, Int.reduceLE, Int.reduceEq, Int.reduceToNat, eq_self, true_and, and_true, true_or, or_true, false_or, or_false, if_true, if_false, not_true_eq_false, not_false_eq_true, and_self, ne_eq, hA]
  exact h1
theorem leastOfLeaving_loop (hA : isPl ρ w) (hP : plI g w F M h c cl) (hM8 : M ≤ 8) {m f : Nat} (hm : m < M) (hf : f < 99) {v : Nat → Int} (hv : ∀ j, 0 ≤ v j ∧ v j ≤ 1000000) (hR : ∀ o, o < M → g (ad w 4) ((f * 8 + o) * 3) = v o) {Q : Option AV → Sto → Prop} (hQ : Q (some (AI (minB (fun o => !(o == m) && cl m o) v M))) (g, ρ)) :
    ∀ (d n : Nat), n + d = M → Wp zt 10 (P 10 6) [some (AR w), some (AI m), some (AI f), some (AI (minB (fun o => !(o == m) && cl m o) v n)), some (AI n)] [] (g, ρ) Q := by
  obtain ⟨p1, p2, p3, p4, p5⟩ := hP
  intro d
  induction d with
  | zero =>
    intro n hn
    have e : M = n := by omega
    subst e
    rw [P_P_leastOfLeaving_6]
    simp only [m_P_leastOfLeaving, b_P_leastOfLeaving_0, P_P_leastOfLeaving_55, b_P_leastOfLeaving_55, P_P_leastOfLeaving_61, b_P_leastOfLeaving_61, wp_abs, wp_aln0, wp_bald, wp_bipush, wp_copy, wp_cs1, wp_cs2, wp_cs3, wp_cs4, wp_cs5, wp_cs6, wp_cs7, wp_goto, wp_iadd, wp_iald, wp_iceq, wp_icge, wp_iconst, wp_il4, wp_iln1, wp_iln2, wp_iln3, wp_imul, wp_inc4, wp_iret, wp_is4, wp_isn3, wp_izeq, wp_ldc, wp_max, wp_min, wp_nop, wp_zret, qpl_kd, qpl_k1, qpl_l1, qpl_gf0, qpl_k2, qpl_l2, qpl_gf1, qpl_k3, qpl_l3, qpl_gf2, qpl_k4, qpl_l4, qpl_gf3, qpl_k5, qpl_l5, qpl_gf4, qpl_k6, qpl_l6, qpl_gf5, qpl_gf6, qpl_pf6, qpl_gf7, qpl_pf7, qpl_gf8, qpl_pf8, wrI_row, cpI_row, row_s, row_n, row_ss, row_sw, upd_s, upd_n, ad_inj, ad_z, ad_z2, Nat.reduceEqDiff, reduceCtorEq, List.cons_append, List.nil_append, Option.toList_some, Option.toList_none, Int.toNat_natCast, List.length_cons, List.length_nil, Int.cast_ofNat_Int, Nat.reduceAdd, Nat.reduceLeDiff, Nat.reduceLT, Nat.reduceMul, Int.reduceAdd, Int.reduceSub, Int.reduceMul, Int.reduceNeg, Int.reduceLT, Int.reduceLE, Int.reduceEq, Int.reduceToNat, eq_self, true_and, and_true, true_or, or_true, false_or, or_false, if_true, if_false, not_true_eq_false, not_false_eq_true, and_self, ne_eq, b_P_leastOfLeaving_6, hA, p2]
    (repeat' (first | apply And.intro | split)) <;> first | omega | exact hQ | (rw [b2_t (by omega)] at hQ; exact hQ) | (rw [b2_f (by omega)] at hQ; exact hQ)
  | succ d ih =>
    intro n hn
    have i1 := ih (n + 1) (by omega)
    have hb := minB_b (p := fun o => !(o == m) && cl m o) (v := v) (fun j => (hv j).1) n
    have hvn := hv n
    have e2 : ((m : Int) * 8 + (n : Int)).toNat = m * 8 + n := by omega
    have e3 : (((f : Int) * 8 + (n : Int)) * 3).toNat = (f * 8 + n) * 3 := by omega
    have r1 := hR n (by omega)
    have r2 := p5 m n hm (by omega)
    simp only [minB] at i1
    by_cases hc : n = m
    · rw [if_neg (by simp [hc])] at i1
      have hc2 : (n : Int) = (m : Int) := by omega
      rw [P_P_leastOfLeaving_6]
      simp only [m_P_leastOfLeaving, b_P_leastOfLeaving_0, P_P_leastOfLeaving_55, b_P_leastOfLeaving_55, P_P_leastOfLeaving_61, b_P_leastOfLeaving_61, wp_abs, wp_aln0, wp_bald, wp_bipush, wp_copy, wp_cs1, wp_cs2, wp_cs3, wp_cs4, wp_cs5, wp_cs6, wp_cs7, wp_goto, wp_iadd, wp_iald, wp_iceq, wp_icge, wp_iconst, wp_il4, wp_iln1, wp_iln2, wp_iln3, wp_imul, wp_inc4, wp_iret, wp_is4, wp_isn3, wp_izeq, wp_ldc, wp_max, wp_min, wp_nop, wp_zret, qpl_kd, qpl_k1, qpl_l1, qpl_gf0, qpl_k2, qpl_l2, qpl_gf1, qpl_k3, qpl_l3, qpl_gf2, qpl_k4, qpl_l4, qpl_gf3, qpl_k5, qpl_l5, qpl_gf4, qpl_k6, qpl_l6, qpl_gf5, qpl_gf6, qpl_pf6, qpl_gf7, qpl_pf7, qpl_gf8, qpl_pf8, wrI_row, cpI_row, row_s, row_n, row_ss, row_sw, upd_s, upd_n, ad_inj, ad_z, ad_z2, Nat.reduceEqDiff, reduceCtorEq, List.cons_append, List.nil_append, Option.toList_some, Option.toList_none, Int.toNat_natCast, List.length_cons, List.length_nil, Int.cast_ofNat_Int, Nat.reduceAdd, Nat.reduceLeDiff, Nat.reduceLT, Nat.reduceMul, Int.reduceAdd, Int.reduceSub, Int.reduceMul, Int.reduceNeg, Int.reduceLT, Int.reduceLE, Int.reduceEq, Int.reduceToNat, eq_self, true_and, and_true, true_or, or_true, false_or, or_false, if_true, if_false, not_true_eq_false, not_false_eq_true, and_self, ne_eq, b_P_leastOfLeaving_6, hA, p2, hc2]
      rw [show ((n + 1 : Nat) : Int) = (m : Int) + 1 by omega] at i1
      (repeat' (first | apply And.intro | split)) <;> first | omega | exact i1 | (rw [b2_t (by omega)] at i1; exact i1) | (rw [b2_f (by omega)] at i1; exact i1)
    · have hc2 : ¬ (n : Int) = (m : Int) := by omega
      by_cases hcl : cl m n = true
      · rw [if_pos (by simp [hc, hcl])] at i1
        rw [if_pos hcl] at r2
        rw [P_P_leastOfLeaving_6]
        simp only [m_P_leastOfLeaving, b_P_leastOfLeaving_0, P_P_leastOfLeaving_55, b_P_leastOfLeaving_55, P_P_leastOfLeaving_61, b_P_leastOfLeaving_61, wp_abs, wp_aln0, wp_bald, wp_bipush, wp_copy, wp_cs1, wp_cs2, wp_cs3, wp_cs4, wp_cs5, wp_cs6, wp_cs7, wp_goto, wp_iadd, wp_iald, wp_iceq, wp_icge, wp_iconst, wp_il4, wp_iln1, wp_iln2, wp_iln3, wp_imul, wp_inc4, wp_iret, wp_is4, wp_isn3, wp_izeq, wp_ldc, wp_max, wp_min, wp_nop, wp_zret, qpl_kd, qpl_k1, qpl_l1, qpl_gf0, qpl_k2, qpl_l2, qpl_gf1, qpl_k3, qpl_l3, qpl_gf2, qpl_k4, qpl_l4, qpl_gf3, qpl_k5, qpl_l5, qpl_gf4, qpl_k6, qpl_l6, qpl_gf5, qpl_gf6, qpl_pf6, qpl_gf7, qpl_pf7, qpl_gf8, qpl_pf8, wrI_row, cpI_row, row_s, row_n, row_ss, row_sw, upd_s, upd_n, ad_inj, ad_z, ad_z2, Nat.reduceEqDiff, reduceCtorEq, List.cons_append, List.nil_append, Option.toList_some, Option.toList_none, Int.toNat_natCast, List.length_cons, List.length_nil, Int.cast_ofNat_Int, Nat.reduceAdd, Nat.reduceLeDiff, Nat.reduceLT, Nat.reduceMul, Int.reduceAdd, Int.reduceSub, Int.reduceMul, Int.reduceNeg, Int.reduceLT, Int.reduceLE, Int.reduceEq, Int.reduceToNat, eq_self, true_and, and_true, true_or, or_true, false_or, or_false, if_true, if_false, not_true_eq_false, not_false_eq_true, and_self, ne_eq, b_P_leastOfLeaving_6, hA, p2, hc2, e2, e3, r1, r2]
        (repeat' (first | apply And.intro | split)) <;> first | omega | exact i1 | (rw [b2_t (by omega)] at i1; exact i1) | (rw [b2_f (by omega)] at i1; exact i1)
      · rw [if_neg (by simp [hc, hcl])] at i1
        rw [if_neg hcl] at r2
        rw [P_P_leastOfLeaving_6]
        simp only [m_P_leastOfLeaving, b_P_leastOfLeaving_0, P_P_leastOfLeaving_55, b_P_leastOfLeaving_55, P_P_leastOfLeaving_61, b_P_leastOfLeaving_61, wp_abs, wp_aln0, wp_bald, wp_bipush, wp_copy, wp_cs1, wp_cs2, wp_cs3, wp_cs4, wp_cs5, wp_cs6, wp_cs7, wp_goto, wp_iadd, wp_iald, wp_iceq, wp_icge, wp_iconst, wp_il4, wp_iln1, wp_iln2, wp_iln3, wp_imul, wp_inc4, wp_iret, wp_is4, wp_isn3, wp_izeq, wp_ldc, wp_max, wp_min, wp_nop, wp_zret, qpl_kd, qpl_k1, qpl_l1, qpl_gf0, qpl_k2, qpl_l2, qpl_gf1, qpl_k3, qpl_l3, qpl_gf2, qpl_k4, qpl_l4, qpl_gf3, qpl_k5, qpl_l5, qpl_gf4, qpl_k6, qpl_l6, qpl_gf5, qpl_gf6, qpl_pf6, qpl_gf7, qpl_pf7, qpl_gf8, qpl_pf8, wrI_row, cpI_row, row_s, row_n, row_ss, row_sw, upd_s, upd_n, ad_inj, ad_z, ad_z2, Nat.reduceEqDiff, reduceCtorEq, List.cons_append, List.nil_append, Option.toList_some, Option.toList_none, Int.toNat_natCast, List.length_cons, List.length_nil, Int.cast_ofNat_Int, Nat.reduceAdd, Nat.reduceLeDiff, Nat.reduceLT, Nat.reduceMul, Int.reduceAdd, Int.reduceSub, Int.reduceMul, Int.reduceNeg, Int.reduceLT, Int.reduceLE, Int.reduceEq, Int.reduceToNat, eq_self, true_and, and_true, true_or, or_true, false_or, or_false, if_true, if_false, not_true_eq_false, not_false_eq_true, and_self, ne_eq, b_P_leastOfLeaving_6, hA, p2, hc2, e2, e3, r1, r2]
        (repeat' (first | apply And.intro | split)) <;> first | omega | exact i1 | (rw [b2_t (by omega)] at i1; exact i1) | (rw [b2_f (by omega)] at i1; exact i1)
theorem leastOfLeaving_ok (hA : isPl ρ w) (hP : plI g w F M h c cl) (hM8 : M ≤ 8) {m f : Nat} (hm : m < M) (hf : f < 99) {v : Nat → Int} (hv : ∀ j, 0 ≤ v j ∧ v j ≤ 1000000) (hR : ∀ o, o < M → g (ad w 4) ((f * 8 + o) * 3) = v o) (Q : Option AV → Sto → Prop) : WpM zt 10 [AR w, AI m, AI f] (g, ρ) Q ↔ Q (some (AI (minB (fun o => !(o == m) && cl m o) v M))) (g, ρ) := by
  refine wpm_iff (fun Q hQ => ?_) Q
  have h1 := leastOfLeaving_loop (zt := zt) hA hP hM8 hm hf hv hR hQ M 0 (by omega)
  simp only [m_P_leastOfLeaving, b_P_leastOfLeaving_0, P_P_leastOfLeaving_55, b_P_leastOfLeaving_55, P_P_leastOfLeaving_61, b_P_leastOfLeaving_61, wp_abs, wp_aln0, wp_bald, wp_bipush, wp_copy, wp_cs1, wp_cs2, wp_cs3, wp_cs4, wp_cs5, wp_cs6, wp_cs7, wp_goto, wp_iadd, wp_iald, wp_iceq, wp_icge, wp_iconst, wp_il4, wp_iln1, wp_iln2, wp_iln3, wp_imul, wp_inc4, wp_iret, wp_is4, wp_isn3, wp_izeq, wp_ldc, wp_max, wp_min, wp_nop, wp_zret, qpl_kd, qpl_k1, qpl_l1, qpl_gf0, qpl_k2, qpl_l2, qpl_gf1, qpl_k3, qpl_l3, qpl_gf2, qpl_k4, qpl_l4, qpl_gf3, qpl_k5, qpl_l5, qpl_gf4, qpl_k6, qpl_l6, qpl_gf5, qpl_gf6, qpl_pf6, qpl_gf7, qpl_pf7, qpl_gf8, qpl_pf8, wrI_row, cpI_row, row_s, row_n, row_ss, row_sw, upd_s, upd_n, ad_inj, ad_z, ad_z2, Nat.reduceEqDiff, reduceCtorEq, List.cons_append, List.nil_append, Option.toList_some, Option.toList_none, Int.toNat_natCast, List.length_cons, List.length_nil, Int.cast_ofNat_Int, Nat.reduceAdd, Nat.reduceLeDiff, Nat.reduceLT, Nat.reduceMul, Int.reduceAdd, Int.reduceSub, Int.reduceMul, Int.reduceNeg, Int.reduceLT, Int.reduceLE, Int.reduceEq, Int.reduceToNat, eq_self, true_and, and_true, true_or, or_true, false_or, or_false, if_true, if_false, not_true_eq_false, not_false_eq_true, and_self, ne_eq, hA]
  exact h1
end PLN
end
section
/-! THE PLANNER FROM THE END -/
theorem plI_row4 {g : Nat → Nat → Int} {w F M h : Nat} {c : Nat → Nat → Int} {cl : Nat → Nat → Bool} (hP : plI g w F M h c cl) (R : Nat → Int) : plI (setRow g (ad w 4) R) w F M h c cl := by
  obtain ⟨p1, p2, p3, p4, p5⟩ := hP
  have e0 : setRow g (ad w 4) R w = g w := row_n (by rw [ad_z2]; decide)
  have e2 : setRow g (ad w 4) R (ad w 2) = g (ad w 2) := row_n (by rw [ad_inj]; decide)
  have e3 : setRow g (ad w 4) R (ad w 3) = g (ad w 3) := row_n (by rw [ad_inj]; decide)
  unfold plI
  rw [e0, e2, e3]
  exact ⟨p1, p2, p3, p4, p5⟩
section PLE
variable {zt : Nat → Nat} {g : Nat → Nat → Int} {ρ : Ri} {w F M h : Nat} {c : Nat → Nat → Int} {cl : Nat → Nat → Bool}
theorem fillRest_loop (hA : isPl ρ w) (hP : plI g w F M h c cl) (hM8 : M ≤ 8) (h1 : 1 ≤ h) (h3 : h ≤ 3) (hF : F ≤ 99) (hc : ∀ f m, 0 ≤ c f m ∧ c f m ≤ 1000000) {f m : Nat} (hf : f < F) (hm : m < M) (hR : rsI (g (ad w 4)) F M h c cl (f + 1)) {Q : Option AV → Sto → Prop} (hQ : Q none (setRow g (ad w 4) (blkR (g (ad w 4)) ((f * 8 + m) * 3) (fun r => Rv F M h c cl (F - f) m r) h), ρ)) :
    ∀ (d n : Nat) (o6 : Option AV), n + d = h → Wp zt 9 (P 9 29) [some (AR w), some (AI f), some (AI m), some (AI (((f : Int) * 8 + m) * 3)), some (AI (if f + 1 = F then 1 else 0)), some (AI n), o6] [] (setRow g (ad w 4) (blkR (g (ad w 4)) ((f * 8 + m) * 3) (fun r => Rv F M h c cl (F - f) m r) n), ρ) Q := by
  obtain ⟨p1, p2, p3, p4, p5⟩ := id hP
  obtain ⟨k, hk⟩ : ∃ k, F - f = k + 1 := ⟨F - f - 1, by omega⟩
  have hc0 : ∀ f m, 0 ≤ c f m := fun f m => (hc f m).1
  intro d
  induction d with
  | zero =>
    intro n o6 hn
    have e : n = h := by omega
    subst e
    rw [P_P_fillRest_29]
    simp only [m_P_fillRest, b_P_fillRest_0, P_P_fillRest_23, b_P_fillRest_23, P_P_fillRest_24, b_P_fillRest_24, P_P_fillRest_47, b_P_fillRest_47, P_P_fillRest_63, b_P_fillRest_63, P_P_fillRest_96, b_P_fillRest_96, P_P_fillRest_130, b_P_fillRest_130, wp_abs, wp_aln0, wp_bipush, wp_copy, wp_cs1, wp_cs2, wp_cs3, wp_cs4, wp_cs5, wp_cs6, wp_cs7, wp_cv1, wp_cv2, wp_cv3, wp_cv4, wp_cv5, wp_cv6, wp_cv7, wp_goto, wp_iadd, wp_iald, wp_iast, wp_icge, wp_icne, wp_iconst, wp_il4, wp_il5, wp_il6, wp_iln1, wp_iln2, wp_iln3, wp_imul, wp_inc5, wp_is4, wp_is5, wp_is6, wp_isn3, wp_isub, wp_izeq, wp_izne, wp_ldc, wp_max, wp_min, wp_nop, wp_ret, qpl_kd, qpl_k1, qpl_l1, qpl_gf0, qpl_k2, qpl_l2, qpl_gf1, qpl_k3, qpl_l3, qpl_gf2, qpl_k4, qpl_l4, qpl_gf3, qpl_k5, qpl_l5, qpl_gf4, qpl_k6, qpl_l6, qpl_gf5, qpl_gf6, qpl_pf6, qpl_gf7, qpl_pf7, qpl_gf8, qpl_pf8, wrI_row, cpI_row, row_s, row_n, row_ss, row_sw, upd_s, upd_n, ad_inj, ad_z, ad_z2, Nat.reduceEqDiff, reduceCtorEq, List.cons_append, List.nil_append, Option.toList_some, Option.toList_none, Int.toNat_natCast, List.length_cons, List.length_nil, Int.cast_ofNat_Int, Nat.reduceAdd, Nat.reduceLeDiff, Nat.reduceLT, Nat.reduceMul, Int.reduceAdd, Int.reduceSub, Int.reduceMul, Int.reduceNeg, Int.reduceLT, Int.reduceLE, Int.reduceEq, Int.reduceToNat, eq_self, true_and, and_true, true_or, or_true, false_or, or_false, if_true, if_false, not_true_eq_false, not_false_eq_true, and_self, ne_eq, b_P_fillRest_29, hA, p3]
    (repeat' (first | apply And.intro | split)) <;> first | omega | exact hQ | (rw [b2_t (by omega)] at hQ; exact hQ) | (rw [b2_f (by omega)] at hQ; exact hQ)
  | succ d ih =>
    intro n o6 hn
    have e2 : ((f : Int) * 8 + (m : Int)).toNat = f * 8 + m := by omega
    have e3 : (((f : Int) * 8 + (m : Int)) * 3 + (n : Int)).toNat = (f * 8 + m) * 3 + n := by omega
    have e5 : (((f : Int) * 8 + (m : Int)) * 3 + 24 + ((min (n + 1) (h - 1) : Nat) : Int)).toNat = ((f + 1) * 8 + m) * 3 + min (n + 1) (h - 1) := by omega
    have q4 := p4 f m hf hm
    have hcf := hc f m
    have hRv : Rv F M h c cl (F - f) m n = min 1000000 (c f m + (if k = 0 then 0 else if n = h - 1 then min (Rv F M h c cl k m (min (n + 1) (h - 1))) (minB (fun o => !(o == m) && cl m o) (fun o => Rv F M h c cl k o 0) M) else Rv F M h c cl k m (min (n + 1) (h - 1)))) := by
      rw [hk]
      simp only [Rv]
      rw [show F - (k + 1) = f by omega]
    by_cases hl : f + 1 = F
    · have i1 := ih (n + 1) (some (AI 0)) (by omega)
      rw [← blkR_st rfl] at i1
      rw [hRv, if_pos (show k = 0 by omega)] at i1
      rw [if_pos hl] at i1 ⊢
      rw [P_P_fillRest_29]
      simp only [m_P_fillRest, b_P_fillRest_0, P_P_fillRest_23, b_P_fillRest_23, P_P_fillRest_24, b_P_fillRest_24, P_P_fillRest_47, b_P_fillRest_47, P_P_fillRest_63, b_P_fillRest_63, P_P_fillRest_96, b_P_fillRest_96, P_P_fillRest_130, b_P_fillRest_130, wp_abs, wp_aln0, wp_bipush, wp_copy, wp_cs1, wp_cs2, wp_cs3, wp_cs4, wp_cs5, wp_cs6, wp_cs7, wp_cv1, wp_cv2, wp_cv3, wp_cv4, wp_cv5, wp_cv6, wp_cv7, wp_goto, wp_iadd, wp_iald, wp_iast, wp_icge, wp_icne, wp_iconst, wp_il4, wp_il5, wp_il6, wp_iln1, wp_iln2, wp_iln3, wp_imul, wp_inc5, wp_is4, wp_is5, wp_is6, wp_isn3, wp_isub, wp_izeq, wp_izne, wp_ldc, wp_max, wp_min, wp_nop, wp_ret, qpl_kd, qpl_k1, qpl_l1, qpl_gf0, qpl_k2, qpl_l2, qpl_gf1, qpl_k3, qpl_l3, qpl_gf2, qpl_k4, qpl_l4, qpl_gf3, qpl_k5, qpl_l5, qpl_gf4, qpl_k6, qpl_l6, qpl_gf5, qpl_gf6, qpl_pf6, qpl_gf7, qpl_pf7, qpl_gf8, qpl_pf8, wrI_row, cpI_row, row_s, row_n, row_ss, row_sw, upd_s, upd_n, ad_inj, ad_z, ad_z2, Nat.reduceEqDiff, reduceCtorEq, List.cons_append, List.nil_append, Option.toList_some, Option.toList_none, Int.toNat_natCast, List.length_cons, List.length_nil, Int.cast_ofNat_Int, Nat.reduceAdd, Nat.reduceLeDiff, Nat.reduceLT, Nat.reduceMul, Int.reduceAdd, Int.reduceSub, Int.reduceMul, Int.reduceNeg, Int.reduceLT, Int.reduceLE, Int.reduceEq, Int.reduceToNat, eq_self, true_and, and_true, true_or, or_true, false_or, or_false, if_true, if_false, not_true_eq_false, not_false_eq_true, and_self, ne_eq, b_P_fillRest_29, hA, p3, e2, e3, q4]
      (repeat' (first | apply And.intro | split)) <;> first | omega | exact i1 | (rw [b2_t (by omega)] at i1; exact i1) | (rw [b2_f (by omega)] at i1; exact i1)
    · have hlg := longer_ok (zt := zt) (ρ := ρ) (w := w) (h := h) (g := setRow g (ad w 4) (blkR (g (ad w 4)) ((f * 8 + m) * 3) (fun r => Rv F M h c cl (F - f) m r) n)) hA ((congrFun (row_n (by rw [ad_z2]; decide)) 8).trans p3) h1 h3 (r := n) (by omega)
      have hb1 := Rv_b (F := F) (M := M) (h := h) (cl := cl) hc0 k m (min (n + 1) (h - 1))
      have r1 : blkR (g (ad w 4)) ((f * 8 + m) * 3) (fun r => Rv F M h c cl (F - f) m r) n (((f + 1) * 8 + m) * 3 + min (n + 1) (h - 1)) = Rv F M h c cl k m (min (n + 1) (h - 1)) := by
        rw [blkR_out (by omega), hR (f + 1) m (min (n + 1) (h - 1)) (Nat.le_refl _) (by omega) hm (by omega), show F - (f + 1) = k by omega]
      by_cases hh : n + 1 = h
      · have hlv := leastOfLeaving_ok (zt := zt) hA (plI_row4 hP (blkR (g (ad w 4)) ((f * 8 + m) * 3) (fun r => Rv F M h c cl (F - f) m r) n)) hM8 hm (f := f + 1) (by omega) (v := fun o => Rv F M h c cl k o 0) (fun j => Rv_b hc0 k j 0) (fun o ho => by
          rw [row_s, blkR_out (by omega)]
          have := hR (f + 1) o 0 (Nat.le_refl _) (by omega) ho (by omega)
          rw [show F - (f + 1) = k by omega] at this
          exact this)
        rw [show ((f + 1 : Nat) : Int) = (f : Int) + 1 by omega] at hlv
        have hb2 := minB_b (p := fun o => !(o == m) && cl m o) (v := fun o => Rv F M h c cl k o 0) (fun o => (Rv_b hc0 k o 0).1) M
        have i1 := ih (n + 1) (some (AI (min (Rv F M h c cl k m (min (n + 1) (h - 1))) (minB (fun o => !(o == m) && cl m o) (fun o => Rv F M h c cl k o 0) M)))) (by omega)
        rw [← blkR_st rfl] at i1
        rw [hRv, if_neg (show ¬ k = 0 by omega), if_pos (show n = h - 1 by omega)] at i1
        rw [if_neg hl] at i1 ⊢
        have hh2 : (n : Int) = (h : Int) - 1 := by omega
        rw [P_P_fillRest_29]
        simp only [m_P_fillRest, b_P_fillRest_0, P_P_fillRest_23, b_P_fillRest_23, P_P_fillRest_24, b_P_fillRest_24, P_P_fillRest_47, b_P_fillRest_47, P_P_fillRest_63, b_P_fillRest_63, P_P_fillRest_96, b_P_fillRest_96, P_P_fillRest_130, b_P_fillRest_130, wp_abs, wp_aln0, wp_bipush, wp_copy, wp_cs1, wp_cs2, wp_cs3, wp_cs4, wp_cs5, wp_cs6, wp_cs7, wp_cv1, wp_cv2, wp_cv3, wp_cv4, wp_cv5, wp_cv6, wp_cv7, wp_goto, wp_iadd, wp_iald, wp_iast, wp_icge, wp_icne, wp_iconst, wp_il4, wp_il5, wp_il6, wp_iln1, wp_iln2, wp_iln3, wp_imul, wp_inc5, wp_is4, wp_is5, wp_is6, wp_isn3, wp_isub, wp_izeq, wp_izne, wp_ldc, wp_max, wp_min, wp_nop, wp_ret, qpl_kd, qpl_k1, qpl_l1, qpl_gf0, qpl_k2, qpl_l2, qpl_gf1, qpl_k3, qpl_l3, qpl_gf2, qpl_k4, qpl_l4, qpl_gf3, qpl_k5, qpl_l5, qpl_gf4, qpl_k6, qpl_l6, qpl_gf5, qpl_gf6, qpl_pf6, qpl_gf7, qpl_pf7, qpl_gf8, qpl_pf8, wrI_row, cpI_row, row_s, row_n, row_ss, row_sw, upd_s, upd_n, ad_inj, ad_z, ad_z2, Nat.reduceEqDiff, reduceCtorEq, List.cons_append, List.nil_append, Option.toList_some, Option.toList_none, Int.toNat_natCast, List.length_cons, List.length_nil, Int.cast_ofNat_Int, Nat.reduceAdd, Nat.reduceLeDiff, Nat.reduceLT, Nat.reduceMul, Int.reduceAdd, Int.reduceSub, Int.reduceMul, Int.reduceNeg, Int.reduceLT, Int.reduceLE, Int.reduceEq, Int.reduceToNat, eq_self, true_and, and_true, true_or, or_true, false_or, or_false, if_true, if_false, not_true_eq_false, not_false_eq_true, and_self, ne_eq, b_P_fillRest_29, hA, p3, e2, e3, e5, q4, hlg, r1, hlv]
        (repeat' (first | apply And.intro | split)) <;> first | omega | exact i1
      · have i1 := ih (n + 1) (some (AI (Rv F M h c cl k m (min (n + 1) (h - 1))))) (by omega)
        rw [← blkR_st rfl] at i1
        rw [hRv, if_neg (show ¬ k = 0 by omega), if_neg (show ¬ n = h - 1 by omega)] at i1
        rw [if_neg hl] at i1 ⊢
        have hh2 : ¬ (n : Int) = (h : Int) - 1 := by omega
        rw [P_P_fillRest_29]
        simp only [m_P_fillRest, b_P_fillRest_0, P_P_fillRest_23, b_P_fillRest_23, P_P_fillRest_24, b_P_fillRest_24, P_P_fillRest_47, b_P_fillRest_47, P_P_fillRest_63, b_P_fillRest_63, P_P_fillRest_96, b_P_fillRest_96, P_P_fillRest_130, b_P_fillRest_130, wp_abs, wp_aln0, wp_bipush, wp_copy, wp_cs1, wp_cs2, wp_cs3, wp_cs4, wp_cs5, wp_cs6, wp_cs7, wp_cv1, wp_cv2, wp_cv3, wp_cv4, wp_cv5, wp_cv6, wp_cv7, wp_goto, wp_iadd, wp_iald, wp_iast, wp_icge, wp_icne, wp_iconst, wp_il4, wp_il5, wp_il6, wp_iln1, wp_iln2, wp_iln3, wp_imul, wp_inc5, wp_is4, wp_is5, wp_is6, wp_isn3, wp_isub, wp_izeq, wp_izne, wp_ldc, wp_max, wp_min, wp_nop, wp_ret, qpl_kd, qpl_k1, qpl_l1, qpl_gf0, qpl_k2, qpl_l2, qpl_gf1, qpl_k3, qpl_l3, qpl_gf2, qpl_k4, qpl_l4, qpl_gf3, qpl_k5, qpl_l5, qpl_gf4, qpl_k6, qpl_l6, qpl_gf5, qpl_gf6, qpl_pf6, qpl_gf7, qpl_pf7, qpl_gf8, qpl_pf8, wrI_row, cpI_row, row_s, row_n, row_ss, row_sw, upd_s, upd_n, ad_inj, ad_z, ad_z2, Nat.reduceEqDiff, reduceCtorEq, List.cons_append, List.nil_append, Option.toList_some, Option.toList_none, Int.toNat_natCast, List.length_cons, List.length_nil, Int.cast_ofNat_Int, Nat.reduceAdd, Nat.reduceLeDiff, Nat.reduceLT, Nat.reduceMul, Int.reduceAdd, Int.reduceSub, Int.reduceMul, Int.reduceNeg, Int.reduceLT, Int.reduceLE, Int.reduceEq, Int.reduceToNat, eq_self, true_and, and_true, true_or, or_true, false_or, or_false, if_true, if_false, not_true_eq_false, not_false_eq_true, and_self, ne_eq, b_P_fillRest_29, hA, p3, e2, e3, e5, q4, hlg, r1, hh2]
        (repeat' (first | apply And.intro | split)) <;> first | omega | exact i1
theorem fillRest_ok (hA : isPl ρ w) (hP : plI g w F M h c cl) (hM8 : M ≤ 8) (h1 : 1 ≤ h) (h3 : h ≤ 3) (hF : F ≤ 99) (hc : ∀ f m, 0 ≤ c f m ∧ c f m ≤ 1000000) {f m : Nat} (hf : f < F) (hm : m < M) (hR : rsI (g (ad w 4)) F M h c cl (f + 1)) (Q : Option AV → Sto → Prop) : WpM zt 9 [AR w, AI f, AI m] (g, ρ) Q ↔ Q none (setRow g (ad w 4) (blkR (g (ad w 4)) ((f * 8 + m) * 3) (fun r => Rv F M h c cl (F - f) m r) h), ρ) := by
  refine wpm_iff (fun Q hQ => ?_) Q
  obtain ⟨p1, p2, p3, p4, p5⟩ := id hP
  have k1 := fillRest_loop (zt := zt) hA hP hM8 h1 h3 hF hc hf hm hR hQ h 0 none (by omega)
  rw [blkR_0, row_id] at k1
  by_cases hl : f + 1 = F
  · have hl2 : (f : Int) = (F : Int) - 1 := by omega
    rw [if_pos hl] at k1
    simp only [m_P_fillRest, b_P_fillRest_0, P_P_fillRest_23, b_P_fillRest_23, P_P_fillRest_24, b_P_fillRest_24, P_P_fillRest_47, b_P_fillRest_47, P_P_fillRest_63, b_P_fillRest_63, P_P_fillRest_96, b_P_fillRest_96, P_P_fillRest_130, b_P_fillRest_130, wp_abs, wp_aln0, wp_bipush, wp_copy, wp_cs1, wp_cs2, wp_cs3, wp_cs4, wp_cs5, wp_cs6, wp_cs7, wp_cv1, wp_cv2, wp_cv3, wp_cv4, wp_cv5, wp_cv6, wp_cv7, wp_goto, wp_iadd, wp_iald, wp_iast, wp_icge, wp_icne, wp_iconst, wp_il4, wp_il5, wp_il6, wp_iln1, wp_iln2, wp_iln3, wp_imul, wp_inc5, wp_is4, wp_is5, wp_is6, wp_isn3, wp_isub, wp_izeq, wp_izne, wp_ldc, wp_max, wp_min, wp_nop, wp_ret, qpl_kd, qpl_k1, qpl_l1, qpl_gf0, qpl_k2, qpl_l2, qpl_gf1, qpl_k3, qpl_l3, qpl_gf2, qpl_k4, qpl_l4, qpl_gf3, qpl_k5, qpl_l5, qpl_gf4, qpl_k6, qpl_l6, qpl_gf5, qpl_gf6, qpl_pf6, qpl_gf7, qpl_pf7, qpl_gf8, qpl_pf8, wrI_row, cpI_row, row_s, row_n, row_ss, row_sw, upd_s, upd_n, ad_inj, ad_z, ad_z2, Nat.reduceEqDiff, reduceCtorEq, List.cons_append, List.nil_append, Option.toList_some, Option.toList_none, Int.toNat_natCast, List.length_cons, List.length_nil, Int.cast_ofNat_Int, Nat.reduceAdd, Nat.reduceLeDiff, Nat.reduceLT, Nat.reduceMul, Int.reduceAdd, Int.reduceSub, Int.reduceMul, Int.reduceNeg, Int.reduceLT, Int.reduceLE, Int.reduceEq, Int.reduceToNat, eq_self, true_and, and_true, true_or, or_true, false_or, or_false, if_true, if_false, not_true_eq_false, not_false_eq_true, and_self, ne_eq, hA, p1]
    (repeat' (first | apply And.intro | split)) <;> first | omega | exact k1
  · have hl2 : ¬ (f : Int) = (F : Int) - 1 := by omega
    rw [if_neg hl] at k1
    simp only [m_P_fillRest, b_P_fillRest_0, P_P_fillRest_23, b_P_fillRest_23, P_P_fillRest_24, b_P_fillRest_24, P_P_fillRest_47, b_P_fillRest_47, P_P_fillRest_63, b_P_fillRest_63, P_P_fillRest_96, b_P_fillRest_96, P_P_fillRest_130, b_P_fillRest_130, wp_abs, wp_aln0, wp_bipush, wp_copy, wp_cs1, wp_cs2, wp_cs3, wp_cs4, wp_cs5, wp_cs6, wp_cs7, wp_cv1, wp_cv2, wp_cv3, wp_cv4, wp_cv5, wp_cv6, wp_cv7, wp_goto, wp_iadd, wp_iald, wp_iast, wp_icge, wp_icne, wp_iconst, wp_il4, wp_il5, wp_il6, wp_iln1, wp_iln2, wp_iln3, wp_imul, wp_inc5, wp_is4, wp_is5, wp_is6, wp_isn3, wp_isub, wp_izeq, wp_izne, wp_ldc, wp_max, wp_min, wp_nop, wp_ret, qpl_kd, qpl_k1, qpl_l1, qpl_gf0, qpl_k2, qpl_l2, qpl_gf1, qpl_k3, qpl_l3, qpl_gf2, qpl_k4, qpl_l4, qpl_gf3, qpl_k5, qpl_l5, qpl_gf4, qpl_k6, qpl_l6, qpl_gf5, qpl_gf6, qpl_pf6, qpl_gf7, qpl_pf7, qpl_gf8, qpl_pf8, wrI_row, cpI_row, row_s, row_n, row_ss, row_sw, upd_s, upd_n, ad_inj, ad_z, ad_z2, Nat.reduceEqDiff, reduceCtorEq, List.cons_append, List.nil_append, Option.toList_some, Option.toList_none, Int.toNat_natCast, List.length_cons, List.length_nil, Int.cast_ofNat_Int, Nat.reduceAdd, Nat.reduceLeDiff, Nat.reduceLT, Nat.reduceMul, Int.reduceAdd, Int.reduceSub, Int.reduceMul, Int.reduceNeg, Int.reduceLT, Int.reduceLE, Int.reduceEq, Int.reduceToNat, eq_self, true_and, and_true, true_or, or_true, false_or, or_false, if_true, if_false, not_true_eq_false, not_false_eq_true, and_self, ne_eq, hA, p1]
    (repeat' (first | apply And.intro | split)) <;> first | omega | exact k1
theorem leastFromEnd_inner (hA : isPl ρ w) (hP : plI g w F M h c cl) (hM8 : M ≤ 8) (h1 : 1 ≤ h) (h3 : h ≤ 3) (hF : F ≤ 99) (hc : ∀ f m, 0 ≤ c f m ∧ c f m ≤ 1000000) {f : Nat} (hf : f < F) {Q : Option AV → Sto → Prop}
    (kk : ∀ (R : Nat → Int) (o2 : Option AV), rsI R F M h c cl f → Wp zt 8 (P 8 16) [some (AR w), some (AI ((f : Int) - 1)), o2] [] (setRow g (ad w 4) R, ρ) Q) :
    ∀ (d n : Nat) (R : Nat → Int), n + d = M → rsI R F M h c cl (f + 1) → (∀ m r, m < n → r < h → R ((f * 8 + m) * 3 + r) = Rv F M h c cl (F - f) m r) → Wp zt 8 (P 8 22) [some (AR w), some (AI f), some (AI n)] [] (setRow g (ad w 4) R, ρ) Q := by
  obtain ⟨p1, p2, p3, p4, p5⟩ := id hP
  intro d
  induction d with
  | zero =>
    intro n R hn hR hr
    have e : n = M := by omega
    subst e
    have k1 := kk R (some (AI n)) (fun f' m r q1 q2 q3 q4 => by
      by_cases e : f' = f
      · subst e; exact hr m r q3 q4
      · exact hR f' m r (by omega) q2 q3 q4)
    rw [show (f : Int) - 1 = (f : Int) + -1 by omega] at k1
    rw [P_P_leastFromEnd_22]
    simp only [m_P_leastFromEnd, b_P_leastFromEnd_0, P_P_leastFromEnd_9, b_P_leastFromEnd_9, P_P_leastFromEnd_42, b_P_leastFromEnd_42, P_P_leastFromEnd_48, b_P_leastFromEnd_48, P_P_leastFromEnd_53, b_P_leastFromEnd_53, P_P_leastFromEnd_80, b_P_leastFromEnd_80, P_P_leastFromEnd_90, b_P_leastFromEnd_90, P_P_leastFromEnd_92, b_P_leastFromEnd_92, wp_abs, wp_aln0, wp_bipush, wp_copy, wp_cs1, wp_cs2, wp_cs3, wp_cs4, wp_cs5, wp_cs6, wp_cs7, wp_cv1, wp_cv2, wp_cv3, wp_cv4, wp_cv5, wp_cv6, wp_cv7, wp_goto, wp_iald, wp_icge, wp_iconst, wp_iln1, wp_iln2, wp_imul, wp_inc1, wp_inc2, wp_iret, wp_isn1, wp_isn2, wp_isub, wp_izlt, wp_izne, wp_ldc, wp_max, wp_min, wp_nop, wp_zret, qpl_kd, qpl_k1, qpl_l1, qpl_gf0, qpl_k2, qpl_l2, qpl_gf1, qpl_k3, qpl_l3, qpl_gf2, qpl_k4, qpl_l4, qpl_gf3, qpl_k5, qpl_l5, qpl_gf4, qpl_k6, qpl_l6, qpl_gf5, qpl_gf6, qpl_pf6, qpl_gf7, qpl_pf7, qpl_gf8, qpl_pf8, wrI_row, cpI_row, row_s, row_n, row_ss, row_sw, upd_s, upd_n, ad_inj, ad_z, ad_z2, Nat.reduceEqDiff, reduceCtorEq, List.cons_append, List.nil_append, Option.toList_some, Option.toList_none, Int.toNat_natCast, List.length_cons, List.length_nil, Int.cast_ofNat_Int, Nat.reduceAdd, Nat.reduceLeDiff, Nat.reduceLT, Nat.reduceMul, Int.reduceAdd, Int.reduceSub, Int.reduceMul, Int.reduceNeg, Int.reduceLT, Int.reduceLE, Int.reduceEq, Int.reduceToNat, eq_self, true_and, and_true, true_or, or_true, false_or, or_false, if_true, if_false, not_true_eq_false, not_false_eq_true, and_self, ne_eq, b_P_leastFromEnd_22, hA, p2]
    (repeat' (first | apply And.intro | split)) <;> first | omega | exact k1
  | succ d ih =>
    intro n R hn hR hr
    have hfr := fillRest_ok (zt := zt) (ρ := ρ) hA (plI_row4 hP R) hM8 h1 h3 hF hc hf (m := n) (by omega) (by rw [row_s]; exact hR)
    rw [row_s, row_ss] at hfr
    have i1 := ih (n + 1) (blkR R ((f * 8 + n) * 3) (fun r => Rv F M h c cl (F - f) n r) h) (by omega) (fun f' m r q1 q2 q3 q4 => by
        rw [blkR_out (by omega)]
        exact hR f' m r q1 q2 q3 q4) (fun m r q1 q2 => by
        by_cases e : m = n
        · subst e; exact blkR_in q2
        · rw [blkR_out (by omega)]
          exact hr m r (by omega) q2)
    rw [P_P_leastFromEnd_22]
    simp only [m_P_leastFromEnd, b_P_leastFromEnd_0, P_P_leastFromEnd_9, b_P_leastFromEnd_9, P_P_leastFromEnd_42, b_P_leastFromEnd_42, P_P_leastFromEnd_48, b_P_leastFromEnd_48, P_P_leastFromEnd_53, b_P_leastFromEnd_53, P_P_leastFromEnd_80, b_P_leastFromEnd_80, P_P_leastFromEnd_90, b_P_leastFromEnd_90, P_P_leastFromEnd_92, b_P_leastFromEnd_92, wp_abs, wp_aln0, wp_bipush, wp_copy, wp_cs1, wp_cs2, wp_cs3, wp_cs4, wp_cs5, wp_cs6, wp_cs7, wp_cv1, wp_cv2, wp_cv3, wp_cv4, wp_cv5, wp_cv6, wp_cv7, wp_goto, wp_iald, wp_icge, wp_iconst, wp_iln1, wp_iln2, wp_imul, wp_inc1, wp_inc2, wp_iret, wp_isn1, wp_isn2, wp_isub, wp_izlt, wp_izne, wp_ldc, wp_max, wp_min, wp_nop, wp_zret, qpl_kd, qpl_k1, qpl_l1, qpl_gf0, qpl_k2, qpl_l2, qpl_gf1, qpl_k3, qpl_l3, qpl_gf2, qpl_k4, qpl_l4, qpl_gf3, qpl_k5, qpl_l5, qpl_gf4, qpl_k6, qpl_l6, qpl_gf5, qpl_gf6, qpl_pf6, qpl_gf7, qpl_pf7, qpl_gf8, qpl_pf8, wrI_row, cpI_row, row_s, row_n, row_ss, row_sw, upd_s, upd_n, ad_inj, ad_z, ad_z2, Nat.reduceEqDiff, reduceCtorEq, List.cons_append, List.nil_append, Option.toList_some, Option.toList_none, Int.toNat_natCast, List.length_cons, List.length_nil, Int.cast_ofNat_Int, Nat.reduceAdd, Nat.reduceLeDiff, Nat.reduceLT, Nat.reduceMul, Int.reduceAdd, Int.reduceSub, Int.reduceMul, Int.reduceNeg, Int.reduceLT, Int.reduceLE, Int.reduceEq, Int.reduceToNat, eq_self, true_and, and_true, true_or, or_true, false_or, or_false, if_true, if_false, not_true_eq_false, not_false_eq_true, and_self, ne_eq, b_P_leastFromEnd_22, hA, p2, hfr]
    (repeat' (first | apply And.intro | split)) <;> first | omega | exact i1
theorem leastFromEnd_min (hA : isPl ρ w) (hM : g w 7 = M) (hM8 : M ≤ 8) {v : Nat → Int} (hv : ∀ j, 0 ≤ v j ∧ v j ≤ 1000000) (hR : ∀ m, m < M → g (ad w 4) (m * 3) = v m) {Q : Option AV → Sto → Prop} (hQ : Q (some (AI (if minB (fun _ => true) v M < 1000000 then minB (fun _ => true) v M else -99))) (g, ρ)) :
    ∀ (d n : Nat), n + d = M → Wp zt 8 (P 8 53) [some (AR w), some (AI (minB (fun _ => true) v n)), some (AI n)] [] (g, ρ) Q := by
  intro d
  induction d with
  | zero =>
    intro n hn
    have e : n = M := by omega
    subst e
    have hb := minB_b (p := fun _ => true) (v := v) (fun j => (hv j).1) n
    rw [P_P_leastFromEnd_53]
    by_cases hc : minB (fun _ => true) v n < 1000000
    · rw [if_pos hc] at hQ
      simp only [m_P_leastFromEnd, b_P_leastFromEnd_0, P_P_leastFromEnd_9, b_P_leastFromEnd_9, P_P_leastFromEnd_42, b_P_leastFromEnd_42, P_P_leastFromEnd_48, b_P_leastFromEnd_48, P_P_leastFromEnd_80, b_P_leastFromEnd_80, P_P_leastFromEnd_90, b_P_leastFromEnd_90, P_P_leastFromEnd_92, b_P_leastFromEnd_92, wp_abs, wp_aln0, wp_bipush, wp_copy, wp_cs1, wp_cs2, wp_cs3, wp_cs4, wp_cs5, wp_cs6, wp_cs7, wp_cv1, wp_cv2, wp_cv3, wp_cv4, wp_cv5, wp_cv6, wp_cv7, wp_goto, wp_iald, wp_icge, wp_iconst, wp_iln1, wp_iln2, wp_imul, wp_inc1, wp_inc2, wp_iret, wp_isn1, wp_isn2, wp_isub, wp_izlt, wp_izne, wp_ldc, wp_max, wp_min, wp_nop, wp_zret, qpl_kd, qpl_k1, qpl_l1, qpl_gf0, qpl_k2, qpl_l2, qpl_gf1, qpl_k3, qpl_l3, qpl_gf2, qpl_k4, qpl_l4, qpl_gf3, qpl_k5, qpl_l5, qpl_gf4, qpl_k6, qpl_l6, qpl_gf5, qpl_gf6, qpl_pf6, qpl_gf7, qpl_pf7, qpl_gf8, qpl_pf8, wrI_row, cpI_row, row_s, row_n, row_ss, row_sw, upd_s, upd_n, ad_inj, ad_z, ad_z2, Nat.reduceEqDiff, reduceCtorEq, List.cons_append, List.nil_append, Option.toList_some, Option.toList_none, Int.toNat_natCast, List.length_cons, List.length_nil, Int.cast_ofNat_Int, Nat.reduceAdd, Nat.reduceLeDiff, Nat.reduceLT, Nat.reduceMul, Int.reduceAdd, Int.reduceSub, Int.reduceMul, Int.reduceNeg, Int.reduceLT, Int.reduceLE, Int.reduceEq, Int.reduceToNat, eq_self, true_and, and_true, true_or, or_true, false_or, or_false, if_true, if_false, not_true_eq_false, not_false_eq_true, and_self, ne_eq, b_P_leastFromEnd_53, hA, hM]
      (repeat' (first | apply And.intro | split)) <;> first | omega | exact hQ
    · rw [if_neg hc] at hQ
      simp only [m_P_leastFromEnd, b_P_leastFromEnd_0, P_P_leastFromEnd_9, b_P_leastFromEnd_9, P_P_leastFromEnd_42, b_P_leastFromEnd_42, P_P_leastFromEnd_48, b_P_leastFromEnd_48, P_P_leastFromEnd_80, b_P_leastFromEnd_80, P_P_leastFromEnd_90, b_P_leastFromEnd_90, P_P_leastFromEnd_92, b_P_leastFromEnd_92, wp_abs, wp_aln0, wp_bipush, wp_copy, wp_cs1, wp_cs2, wp_cs3, wp_cs4, wp_cs5, wp_cs6, wp_cs7, wp_cv1, wp_cv2, wp_cv3, wp_cv4, wp_cv5, wp_cv6, wp_cv7, wp_goto, wp_iald, wp_icge, wp_iconst, wp_iln1, wp_iln2, wp_imul, wp_inc1, wp_inc2, wp_iret, wp_isn1, wp_isn2, wp_isub, wp_izlt, wp_izne, wp_ldc, wp_max, wp_min, wp_nop, wp_zret, qpl_kd, qpl_k1, qpl_l1, qpl_gf0, qpl_k2, qpl_l2, qpl_gf1, qpl_k3, qpl_l3, qpl_gf2, qpl_k4, qpl_l4, qpl_gf3, qpl_k5, qpl_l5, qpl_gf4, qpl_k6, qpl_l6, qpl_gf5, qpl_gf6, qpl_pf6, qpl_gf7, qpl_pf7, qpl_gf8, qpl_pf8, wrI_row, cpI_row, row_s, row_n, row_ss, row_sw, upd_s, upd_n, ad_inj, ad_z, ad_z2, Nat.reduceEqDiff, reduceCtorEq, List.cons_append, List.nil_append, Option.toList_some, Option.toList_none, Int.toNat_natCast, List.length_cons, List.length_nil, Int.cast_ofNat_Int, Nat.reduceAdd, Nat.reduceLeDiff, Nat.reduceLT, Nat.reduceMul, Int.reduceAdd, Int.reduceSub, Int.reduceMul, Int.reduceNeg, Int.reduceLT, Int.reduceLE, Int.reduceEq, Int.reduceToNat, eq_self, true_and, and_true, true_or, or_true, false_or, or_false, if_true, if_false, not_true_eq_false, not_false_eq_true, and_self, ne_eq, b_P_leastFromEnd_53, hA, hM]
      (repeat' (first | apply And.intro | split)) <;> first | omega | exact hQ
  | succ d ih =>
    intro n hn
    have i1 := ih (n + 1) (by omega)
    have hb := minB_b (p := fun _ => true) (v := v) (fun j => (hv j).1) n
    have hvn := hv n
    have r1 := hR n (by omega)
    have e3 : ((n : Int) * 3).toNat = n * 3 := by omega
    simp only [minB, if_true] at i1
    rw [P_P_leastFromEnd_53]
    simp only [m_P_leastFromEnd, b_P_leastFromEnd_0, P_P_leastFromEnd_9, b_P_leastFromEnd_9, P_P_leastFromEnd_42, b_P_leastFromEnd_42, P_P_leastFromEnd_48, b_P_leastFromEnd_48, P_P_leastFromEnd_80, b_P_leastFromEnd_80, P_P_leastFromEnd_90, b_P_leastFromEnd_90, P_P_leastFromEnd_92, b_P_leastFromEnd_92, wp_abs, wp_aln0, wp_bipush, wp_copy, wp_cs1, wp_cs2, wp_cs3, wp_cs4, wp_cs5, wp_cs6, wp_cs7, wp_cv1, wp_cv2, wp_cv3, wp_cv4, wp_cv5, wp_cv6, wp_cv7, wp_goto, wp_iald, wp_icge, wp_iconst, wp_iln1, wp_iln2, wp_imul, wp_inc1, wp_inc2, wp_iret, wp_isn1, wp_isn2, wp_isub, wp_izlt, wp_izne, wp_ldc, wp_max, wp_min, wp_nop, wp_zret, qpl_kd, qpl_k1, qpl_l1, qpl_gf0, qpl_k2, qpl_l2, qpl_gf1, qpl_k3, qpl_l3, qpl_gf2, qpl_k4, qpl_l4, qpl_gf3, qpl_k5, qpl_l5, qpl_gf4, qpl_k6, qpl_l6, qpl_gf5, qpl_gf6, qpl_pf6, qpl_gf7, qpl_pf7, qpl_gf8, qpl_pf8, wrI_row, cpI_row, row_s, row_n, row_ss, row_sw, upd_s, upd_n, ad_inj, ad_z, ad_z2, Nat.reduceEqDiff, reduceCtorEq, List.cons_append, List.nil_append, Option.toList_some, Option.toList_none, Int.toNat_natCast, List.length_cons, List.length_nil, Int.cast_ofNat_Int, Nat.reduceAdd, Nat.reduceLeDiff, Nat.reduceLT, Nat.reduceMul, Int.reduceAdd, Int.reduceSub, Int.reduceMul, Int.reduceNeg, Int.reduceLT, Int.reduceLE, Int.reduceEq, Int.reduceToNat, eq_self, true_and, and_true, true_or, or_true, false_or, or_false, if_true, if_false, not_true_eq_false, not_false_eq_true, and_self, ne_eq, b_P_leastFromEnd_53, hA, hM, r1, e3]
    (repeat' (first | apply And.intro | split)) <;> first | omega | exact i1
theorem leastFromEnd_loop (hA : isPl ρ w) (hP : plI g w F M h c cl) (hM8 : M ≤ 8) (h1 : 1 ≤ h) (h3 : h ≤ 3) (hF : F ≤ 99) (hF0 : F ≠ 0) (hc : ∀ f m, 0 ≤ c f m ∧ c f m ≤ 1000000) {Q : Option AV → Sto → Prop} (hQ : ∀ R : Nat → Int, rsI R F M h c cl 0 → Q (some (AI (lstV F M h c cl))) (setRow g (ad w 4) R, ρ)) :
    ∀ (f1 : Nat) (R : Nat → Int) (o2 : Option AV), f1 ≤ F → rsI R F M h c cl f1 → Wp zt 8 (P 8 16) [some (AR w), some (AI ((f1 : Int) - 1)), o2] [] (setRow g (ad w 4) R, ρ) Q := by
  obtain ⟨p1, p2, p3, p4, p5⟩ := id hP
  intro f1
  induction f1 with
  | zero =>
    intro R o2 hf hR
    have hq := hQ R hR
    unfold lstV totV at hq
    rw [if_neg hF0] at hq
    have k1 := leastFromEnd_min (zt := zt) (g := setRow g (ad w 4) R) (ρ := ρ) hA (M := M) ((congrFun (row_n (by rw [ad_z2]; decide)) 7).trans p2) hM8 (v := fun m => Rv F M h c cl F m 0) (fun j => Rv_b (fun f m => (hc f m).1) F j 0) (fun m hm => by
      rw [row_s]
      have := hR 0 m 0 (Nat.le_refl _) (by omega) hm (by omega)
      simpa using this) hq M 0 (by omega)
    rw [P_P_leastFromEnd_16]
    simp only [m_P_leastFromEnd, b_P_leastFromEnd_0, P_P_leastFromEnd_9, b_P_leastFromEnd_9, P_P_leastFromEnd_42, b_P_leastFromEnd_42, P_P_leastFromEnd_48, b_P_leastFromEnd_48, P_P_leastFromEnd_80, b_P_leastFromEnd_80, P_P_leastFromEnd_90, b_P_leastFromEnd_90, P_P_leastFromEnd_92, b_P_leastFromEnd_92, wp_abs, wp_aln0, wp_bipush, wp_copy, wp_cs1, wp_cs2, wp_cs3, wp_cs4, wp_cs5, wp_cs6, wp_cs7, wp_cv1, wp_cv2, wp_cv3, wp_cv4, wp_cv5, wp_cv6, wp_cv7, wp_goto, wp_iald, wp_icge, wp_iconst, wp_iln1, wp_iln2, wp_imul, wp_inc1, wp_inc2, wp_iret, wp_isn1, wp_isn2, wp_isub, wp_izlt, wp_izne, wp_ldc, wp_max, wp_min, wp_nop, wp_zret, qpl_kd, qpl_k1, qpl_l1, qpl_gf0, qpl_k2, qpl_l2, qpl_gf1, qpl_k3, qpl_l3, qpl_gf2, qpl_k4, qpl_l4, qpl_gf3, qpl_k5, qpl_l5, qpl_gf4, qpl_k6, qpl_l6, qpl_gf5, qpl_gf6, qpl_pf6, qpl_gf7, qpl_pf7, qpl_gf8, qpl_pf8, wrI_row, cpI_row, row_s, row_n, row_ss, row_sw, upd_s, upd_n, ad_inj, ad_z, ad_z2, Nat.reduceEqDiff, reduceCtorEq, List.cons_append, List.nil_append, Option.toList_some, Option.toList_none, Int.toNat_natCast, List.length_cons, List.length_nil, Int.cast_ofNat_Int, Nat.reduceAdd, Nat.reduceLeDiff, Nat.reduceLT, Nat.reduceMul, Int.reduceAdd, Int.reduceSub, Int.reduceMul, Int.reduceNeg, Int.reduceLT, Int.reduceLE, Int.reduceEq, Int.reduceToNat, eq_self, true_and, and_true, true_or, or_true, false_or, or_false, if_true, if_false, not_true_eq_false, not_false_eq_true, and_self, ne_eq, b_P_leastFromEnd_16, hA]
    (repeat' (first | apply And.intro | split)) <;> first | omega | exact k1
  | succ f ih =>
    intro R o2 hf hR
    have e1 : ((f + 1 : Nat) : Int) - 1 = (f : Int) := by omega
    have k1 := leastFromEnd_inner (zt := zt) (Q := Q) hA hP hM8 h1 h3 hF hc (f := f) (by omega) (fun R' o q => ih R' o (by omega) q) M 0 R (by omega) hR (fun m r q1 q2 => by omega)
    rw [P_P_leastFromEnd_16, e1]
    simp only [m_P_leastFromEnd, b_P_leastFromEnd_0, P_P_leastFromEnd_9, b_P_leastFromEnd_9, P_P_leastFromEnd_42, b_P_leastFromEnd_42, P_P_leastFromEnd_48, b_P_leastFromEnd_48, P_P_leastFromEnd_80, b_P_leastFromEnd_80, P_P_leastFromEnd_90, b_P_leastFromEnd_90, P_P_leastFromEnd_92, b_P_leastFromEnd_92, wp_abs, wp_aln0, wp_bipush, wp_copy, wp_cs1, wp_cs2, wp_cs3, wp_cs4, wp_cs5, wp_cs6, wp_cs7, wp_cv1, wp_cv2, wp_cv3, wp_cv4, wp_cv5, wp_cv6, wp_cv7, wp_goto, wp_iald, wp_icge, wp_iconst, wp_iln1, wp_iln2, wp_imul, wp_inc1, wp_inc2, wp_iret, wp_isn1, wp_isn2, wp_isub, wp_izlt, wp_izne, wp_ldc, wp_max, wp_min, wp_nop, wp_zret, qpl_kd, qpl_k1, qpl_l1, qpl_gf0, qpl_k2, qpl_l2, qpl_gf1, qpl_k3, qpl_l3, qpl_gf2, qpl_k4, qpl_l4, qpl_gf3, qpl_k5, qpl_l5, qpl_gf4, qpl_k6, qpl_l6, qpl_gf5, qpl_gf6, qpl_pf6, qpl_gf7, qpl_pf7, qpl_gf8, qpl_pf8, wrI_row, cpI_row, row_s, row_n, row_ss, row_sw, upd_s, upd_n, ad_inj, ad_z, ad_z2, Nat.reduceEqDiff, reduceCtorEq, List.cons_append, List.nil_append, Option.toList_some, Option.toList_none, Int.toNat_natCast, List.length_cons, List.length_nil, Int.cast_ofNat_Int, Nat.reduceAdd, Nat.reduceLeDiff, Nat.reduceLT, Nat.reduceMul, Int.reduceAdd, Int.reduceSub, Int.reduceMul, Int.reduceNeg, Int.reduceLT, Int.reduceLE, Int.reduceEq, Int.reduceToNat, eq_self, true_and, and_true, true_or, or_true, false_or, or_false, if_true, if_false, not_true_eq_false, not_false_eq_true, and_self, ne_eq, b_P_leastFromEnd_16, hA]
    (repeat' (first | apply And.intro | split)) <;> first | omega | exact k1
theorem leastFromEnd_ok (hA : isPl ρ w) (hP : plI g w F M h c cl) (hM8 : M ≤ 8) (h1 : 1 ≤ h) (h3 : h ≤ 3) (hF : F ≤ 99) (hc : ∀ f m, 0 ≤ c f m ∧ c f m ≤ 1000000) {Q : Option AV → Sto → Prop} (hQ : ∀ R : Nat → Int, rsI R F M h c cl 0 → Q (some (AI (lstV F M h c cl))) (setRow g (ad w 4) R, ρ)) : WpM zt 8 [AR w] (g, ρ) Q := by
  obtain ⟨p1, p2, p3, p4, p5⟩ := id hP
  by_cases hF0 : F = 0
  · have hq := hQ (g (ad w 4)) (fun f' m r q1 q2 q3 q4 => by omega)
    rw [row_id] at hq
    unfold lstV at hq
    rw [if_pos hF0] at hq
    subst hF0
    simp only [m_P_leastFromEnd, b_P_leastFromEnd_0, P_P_leastFromEnd_9, b_P_leastFromEnd_9, P_P_leastFromEnd_42, b_P_leastFromEnd_42, P_P_leastFromEnd_48, b_P_leastFromEnd_48, P_P_leastFromEnd_80, b_P_leastFromEnd_80, P_P_leastFromEnd_90, b_P_leastFromEnd_90, P_P_leastFromEnd_92, b_P_leastFromEnd_92, wp_abs, wp_aln0, wp_bipush, wp_copy, wp_cs1, wp_cs2, wp_cs3, wp_cs4, wp_cs5, wp_cs6, wp_cs7, wp_cv1, wp_cv2, wp_cv3, wp_cv4, wp_cv5, wp_cv6, wp_cv7, wp_goto, wp_iald, wp_icge, wp_iconst, wp_iln1, wp_iln2, wp_imul, wp_inc1, wp_inc2, wp_iret, wp_isn1, wp_isn2, wp_isub, wp_izlt, wp_izne, wp_ldc, wp_max, wp_min, wp_nop, wp_zret, qpl_kd, qpl_k1, qpl_l1, qpl_gf0, qpl_k2, qpl_l2, qpl_gf1, qpl_k3, qpl_l3, qpl_gf2, qpl_k4, qpl_l4, qpl_gf3, qpl_k5, qpl_l5, qpl_gf4, qpl_k6, qpl_l6, qpl_gf5, qpl_gf6, qpl_pf6, qpl_gf7, qpl_pf7, qpl_gf8, qpl_pf8, wrI_row, cpI_row, row_s, row_n, row_ss, row_sw, upd_s, upd_n, ad_inj, ad_z, ad_z2, Nat.reduceEqDiff, reduceCtorEq, List.cons_append, List.nil_append, Option.toList_some, Option.toList_none, Int.toNat_natCast, List.length_cons, List.length_nil, Int.cast_ofNat_Int, Nat.reduceAdd, Nat.reduceLeDiff, Nat.reduceLT, Nat.reduceMul, Int.reduceAdd, Int.reduceSub, Int.reduceMul, Int.reduceNeg, Int.reduceLT, Int.reduceLE, Int.reduceEq, Int.reduceToNat, eq_self, true_and, and_true, true_or, or_true, false_or, or_false, if_true, if_false, not_true_eq_false, not_false_eq_true, and_self, ne_eq, hA, p1]
    exact hq
  · have k1 := leastFromEnd_loop (zt := zt) (Q := Q) hA hP hM8 h1 h3 hF hF0 hc hQ F (g (ad w 4)) none (Nat.le_refl _) (fun f' m r q1 q2 q3 q4 => by omega)
    rw [row_id] at k1
    have hF1 : ¬ (F : Int) = 0 := by omega
    simp only [m_P_leastFromEnd, b_P_leastFromEnd_0, P_P_leastFromEnd_9, b_P_leastFromEnd_9, P_P_leastFromEnd_42, b_P_leastFromEnd_42, P_P_leastFromEnd_48, b_P_leastFromEnd_48, P_P_leastFromEnd_80, b_P_leastFromEnd_80, P_P_leastFromEnd_90, b_P_leastFromEnd_90, P_P_leastFromEnd_92, b_P_leastFromEnd_92, wp_abs, wp_aln0, wp_bipush, wp_copy, wp_cs1, wp_cs2, wp_cs3, wp_cs4, wp_cs5, wp_cs6, wp_cs7, wp_cv1, wp_cv2, wp_cv3, wp_cv4, wp_cv5, wp_cv6, wp_cv7, wp_goto, wp_iald, wp_icge, wp_iconst, wp_iln1, wp_iln2, wp_imul, wp_inc1, wp_inc2, wp_iret, wp_isn1, wp_isn2, wp_isub, wp_izlt, wp_izne, wp_ldc, wp_max, wp_min, wp_nop, wp_zret, qpl_kd, qpl_k1, qpl_l1, qpl_gf0, qpl_k2, qpl_l2, qpl_gf1, qpl_k3, qpl_l3, qpl_gf2, qpl_k4, qpl_l4, qpl_gf3, qpl_k5, qpl_l5, qpl_gf4, qpl_k6, qpl_l6, qpl_gf5, qpl_gf6, qpl_pf6, qpl_gf7, qpl_pf7, qpl_gf8, qpl_pf8, wrI_row, cpI_row, row_s, row_n, row_ss, row_sw, upd_s, upd_n, ad_inj, ad_z, ad_z2, Nat.reduceEqDiff, reduceCtorEq, List.cons_append, List.nil_append, Option.toList_some, Option.toList_none, Int.toNat_natCast, List.length_cons, List.length_nil, Int.cast_ofNat_Int, Nat.reduceAdd, Nat.reduceLeDiff, Nat.reduceLT, Nat.reduceMul, Int.reduceAdd, Int.reduceSub, Int.reduceMul, Int.reduceNeg, Int.reduceLT, Int.reduceLE, Int.reduceEq, Int.reduceToNat, eq_self, true_and, and_true, true_or, or_true, false_or, or_false, if_true, if_false, not_true_eq_false, not_false_eq_true, and_self, ne_eq, hA, p1, hF1]
    (repeat' (first | apply And.intro | split)) <;> first | omega | exact k1
end PLE
end
section
/-! THE BEST PLAN -/
/-- the place of the least value below 1000000 among the first n, else the one given -/
def nbV (s : Nat → Int) (last : Nat) : Nat → Nat
  | 0 => last
  | n + 1 => if s n < minB (fun _ => true) s n then n else nbV s last n
/-- what it costs from frame f on to go on with m behind last, whose run is r -/
def sNV (F M h : Nat) (c : Nat → Nat → Int) (cl : Nat → Nat → Bool) (f last r m : Nat) : Int := if m = last then Rv F M h c cl (F - f) m (min (r + 1) (h - 1)) else if r = h - 1 ∧ cl last m = true then Rv F M h c cl (F - f) m 0 else 1000000
/-- the best plan's mouth and run in a frame -/
def plnV (F M h : Nat) (c : Nat → Nat → Int) (cl : Nat → Nat → Bool) : Nat → Nat × Nat
  | 0 => (amin (fun m => Rv F M h c cl F m 0) M, 0)
  | f + 1 => (nbV (sNV F M h c cl (f + 1) (plnV F M h c cl f).1 (plnV F M h c cl f).2) (plnV F M h c cl f).1 M, if nbV (sNV F M h c cl (f + 1) (plnV F M h c cl f).1 (plnV F M h c cl f).2) (plnV F M h c cl f).1 M = (plnV F M h c cl f).1 then min ((plnV F M h c cl f).2 + 1) (h - 1) else 0)
theorem nbV_lt {s : Nat → Int} {last M : Nat} (hl : last < M) : ∀ n, n ≤ M → nbV s last n < M
  | 0, _ => hl
  | n + 1, hn => by
    have h1 := nbV_lt (s := s) hl n (by omega)
    simp only [nbV]
    split <;> omega
theorem plnV_b {F M h : Nat} {c : Nat → Nat → Int} {cl : Nat → Nat → Bool} (hM : 0 < M) (hh : 0 < h) : ∀ f, (plnV F M h c cl f).1 < M ∧ (plnV F M h c cl f).2 < h
  | 0 => ⟨amin_lt M hM, hh⟩
  | f + 1 => by
    have h1 := plnV_b (F := F) (c := c) (cl := cl) hM hh f
    refine ⟨nbV_lt h1.1 M (Nat.le_refl _), ?_⟩
    simp only [plnV]
    split <;> omega
theorem sNV_b {F M h : Nat} {c : Nat → Nat → Int} {cl : Nat → Nat → Bool} (hc : ∀ f m, 0 ≤ c f m) (f last r m : Nat) : 0 ≤ sNV F M h c cl f last r m ∧ sNV F M h c cl f last r m ≤ 1000000 := by
  unfold sNV
  split
  · exact Rv_b hc _ _ _
  · split
    · exact Rv_b hc _ _ _
    · omega
section PLC
variable {zt : Nat → Nat} {g : Nat → Nat → Int} {ρ : Ri} {w F M h : Nat} {c : Nat → Nat → Int} {cl : Nat → Nat → Bool}
theorem bestFirst_loop (hA : isPl ρ w) (hM : g w 7 = M) (hM8 : M ≤ 8) {v : Nat → Int} (hv : ∀ j, 0 ≤ v j ∧ v j ≤ 1000000) (hR : ∀ m, m < M → g (ad w 4) (m * 3) = v m) {Q : Option AV → Sto → Prop} (hQ : Q (some (AI (amin v M : Nat))) (g, ρ)) :
    ∀ (d n : Nat), n + d = M → 1 ≤ n → Wp zt 16 (P 16 4) [some (AR w), some (AI (amin v n : Nat)), some (AI n)] [] (g, ρ) Q := by
  intro d
  induction d with
  | zero =>
    intro n hn h1
    have e : n = M := by omega
    subst e
    rw [P_P_bestFirst_4]
    simp only [m_P_bestFirst, b_P_bestFirst_0, P_P_bestFirst_33, b_P_bestFirst_33, P_P_bestFirst_39, b_P_bestFirst_39, wp_aln0, wp_goto, wp_iald, wp_icge, wp_iconst, wp_iln1, wp_iln2, wp_imul, wp_inc2, wp_iret, wp_isn1, wp_isn2, wp_nop, wp_zret, qpl_kd, qpl_k1, qpl_l1, qpl_gf0, qpl_k2, qpl_l2, qpl_gf1, qpl_k3, qpl_l3, qpl_gf2, qpl_k4, qpl_l4, qpl_gf3, qpl_k5, qpl_l5, qpl_gf4, qpl_k6, qpl_l6, qpl_gf5, qpl_gf6, qpl_pf6, qpl_gf7, qpl_pf7, qpl_gf8, qpl_pf8, wrI_row, cpI_row, row_s, row_n, row_ss, row_sw, upd_s, upd_n, ad_inj, ad_z, ad_z2, Nat.reduceEqDiff, reduceCtorEq, List.cons_append, List.nil_append, Option.toList_some, Option.toList_none, Int.toNat_natCast, List.length_cons, List.length_nil, Int.cast_ofNat_Int, Nat.reduceAdd, Nat.reduceLeDiff, Nat.reduceLT, Nat.reduceMul, Int.reduceAdd, Int.reduceSub, Int.reduceMul, Int.reduceNeg, Int.reduceLT, Int.reduceLE, Int.reduceEq, Int.reduceToNat, eq_self, true_and, and_true, true_or, or_true, false_or, or_false, if_true, if_false, not_true_eq_false, not_false_eq_true, and_self, ne_eq, b_P_bestFirst_4, hA, hM]
    (repeat' (first | apply And.intro | split)) <;> first | omega | exact hQ
  | succ d ih =>
    intro n hn h1
    have i1 := ih (n + 1) (by omega) (by omega)
    have hb := amin_lt (f := v) n h1
    have r1 := hR n (by omega)
    have r2 := hR (amin v n) (by omega)
    have e3 : ((n : Int) * 3).toNat = n * 3 := by omega
    have e4 : (((amin v n : Nat) : Int) * 3).toNat = amin v n * 3 := by omega
    have q1 := hv n
    have q2 := hv (amin v n)
    simp only [amin] at i1
    rw [P_P_bestFirst_4]
    simp only [m_P_bestFirst, b_P_bestFirst_0, P_P_bestFirst_33, b_P_bestFirst_33, P_P_bestFirst_39, b_P_bestFirst_39, wp_aln0, wp_goto, wp_iald, wp_icge, wp_iconst, wp_iln1, wp_iln2, wp_imul, wp_inc2, wp_iret, wp_isn1, wp_isn2, wp_nop, wp_zret, qpl_kd, qpl_k1, qpl_l1, qpl_gf0, qpl_k2, qpl_l2, qpl_gf1, qpl_k3, qpl_l3, qpl_gf2, qpl_k4, qpl_l4, qpl_gf3, qpl_k5, qpl_l5, qpl_gf4, qpl_k6, qpl_l6, qpl_gf5, qpl_gf6, qpl_pf6, qpl_gf7, qpl_pf7, qpl_gf8, qpl_pf8, wrI_row, cpI_row, row_s, row_n, row_ss, row_sw, upd_s, upd_n, ad_inj, ad_z, ad_z2, Nat.reduceEqDiff, reduceCtorEq, List.cons_append, List.nil_append, Option.toList_some, Option.toList_none, Int.toNat_natCast, List.length_cons, List.length_nil, Int.cast_ofNat_Int, Nat.reduceAdd, Nat.reduceLeDiff, Nat.reduceLT, Nat.reduceMul, Int.reduceAdd, Int.reduceSub, Int.reduceMul, Int.reduceNeg, Int.reduceLT, Int.reduceLE, Int.reduceEq, Int.reduceToNat, eq_self, true_and, and_true, true_or, or_true, false_or, or_false, if_true, if_false, not_true_eq_false, not_false_eq_true, and_self, ne_eq, b_P_bestFirst_4, hA, hM, r1, r2, e3, e4]
    split at i1 <;> (repeat' (first | apply And.intro | split)) <;> first | omega | exact i1
theorem bestFirst_ok (hA : isPl ρ w) (hM : g w 7 = M) (hM8 : M ≤ 8) (hM1 : 1 ≤ M) {v : Nat → Int} (hv : ∀ j, 0 ≤ v j ∧ v j ≤ 1000000) (hR : ∀ m, m < M → g (ad w 4) (m * 3) = v m) (Q : Option AV → Sto → Prop) : WpM zt 16 [AR w] (g, ρ) Q ↔ Q (some (AI (amin v M : Nat))) (g, ρ) := by
  refine wpm_iff (fun Q hQ => ?_) Q
  have k1 := bestFirst_loop (zt := zt) hA hM hM8 hv hR hQ (M - 1) 1 (by omega) (Nat.le_refl _)
  rw [amin_1] at k1
  simp only [m_P_bestFirst, b_P_bestFirst_0, P_P_bestFirst_33, b_P_bestFirst_33, P_P_bestFirst_39, b_P_bestFirst_39, wp_aln0, wp_goto, wp_iald, wp_icge, wp_iconst, wp_iln1, wp_iln2, wp_imul, wp_inc2, wp_iret, wp_isn1, wp_isn2, wp_nop, wp_zret, qpl_kd, qpl_k1, qpl_l1, qpl_gf0, qpl_k2, qpl_l2, qpl_gf1, qpl_k3, qpl_l3, qpl_gf2, qpl_k4, qpl_l4, qpl_gf3, qpl_k5, qpl_l5, qpl_gf4, qpl_k6, qpl_l6, qpl_gf5, qpl_gf6, qpl_pf6, qpl_gf7, qpl_pf7, qpl_gf8, qpl_pf8, wrI_row, cpI_row, row_s, row_n, row_ss, row_sw, upd_s, upd_n, ad_inj, ad_z, ad_z2, Nat.reduceEqDiff, reduceCtorEq, List.cons_append, List.nil_append, Option.toList_some, Option.toList_none, Int.toNat_natCast, List.length_cons, List.length_nil, Int.cast_ofNat_Int, Nat.reduceAdd, Nat.reduceLeDiff, Nat.reduceLT, Nat.reduceMul, Int.reduceAdd, Int.reduceSub, Int.reduceMul, Int.reduceNeg, Int.reduceLT, Int.reduceLE, Int.reduceEq, Int.reduceToNat, eq_self, true_and, and_true, true_or, or_true, false_or, or_false, if_true, if_false, not_true_eq_false, not_false_eq_true, and_self, ne_eq, hA]
  exact k1
theorem bestNext_loop (hA : isPl ρ w) (hP : plI g w F M h c cl) (hM8 : M ≤ 8) (h1 : 1 ≤ h) (h3 : h ≤ 3) (hF : F ≤ 99) (hc : ∀ f m, 0 ≤ c f m ∧ c f m ≤ 1000000) (hR : rsI (g (ad w 4)) F M h c cl 0) {f last r : Nat} (hf : f < F) (hl : last < M) (hr : r < h) {Q : Option AV → Sto → Prop} (hQ : Q (some (AI (nbV (sNV F M h c cl f last r) last M : Nat))) (g, ρ)) :
    ∀ (d n : Nat) (o7 : Option AV), n + d = M → Wp zt 17 (P 17 10) [some (AR w), some (AI f), some (AI last), some (AI r), some (AI (nbV (sNV F M h c cl f last r) last n : Nat)), some (AI (minB (fun _ => true) (sNV F M h c cl f last r) n)), some (AI n), o7] [] (g, ρ) Q := by
  obtain ⟨p1, p2, p3, p4, p5⟩ := id hP
  intro d
  induction d with
  | zero =>
    intro n o7 hn
    have e : n = M := by omega
    subst e
    rw [P_P_bestNext_10]
    simp only [m_P_bestNext, b_P_bestNext_0, P_P_bestNext_54, b_P_bestNext_54, P_P_bestNext_95, b_P_bestNext_95, P_P_bestNext_110, b_P_bestNext_110, P_P_bestNext_116, b_P_bestNext_116, wp_aln0, wp_bald, wp_bipush, wp_cv1, wp_cv2, wp_cv3, wp_cv4, wp_cv5, wp_cv6, wp_cv7, wp_goto, wp_iadd, wp_iald, wp_icge, wp_icne, wp_iconst, wp_il4, wp_il5, wp_il6, wp_il7, wp_iln1, wp_iln2, wp_iln3, wp_imul, wp_inc6, wp_iret, wp_is4, wp_is5, wp_is6, wp_is7, wp_isub, wp_izeq, wp_ldc, wp_nop, wp_zret, qpl_kd, qpl_k1, qpl_l1, qpl_gf0, qpl_k2, qpl_l2, qpl_gf1, qpl_k3, qpl_l3, qpl_gf2, qpl_k4, qpl_l4, qpl_gf3, qpl_k5, qpl_l5, qpl_gf4, qpl_k6, qpl_l6, qpl_gf5, qpl_gf6, qpl_pf6, qpl_gf7, qpl_pf7, qpl_gf8, qpl_pf8, wrI_row, cpI_row, row_s, row_n, row_ss, row_sw, upd_s, upd_n, ad_inj, ad_z, ad_z2, Nat.reduceEqDiff, reduceCtorEq, List.cons_append, List.nil_append, Option.toList_some, Option.toList_none, Int.toNat_natCast, List.length_cons, List.length_nil, Int.cast_ofNat_Int, Nat.reduceAdd, Nat.reduceLeDiff, Nat.reduceLT, Nat.reduceMul, Int.reduceAdd, Int.reduceSub, Int.reduceMul, Int.reduceNeg, Int.reduceLT, Int.reduceLE, Int.reduceEq, Int.reduceToNat, eq_self, true_and, and_true, true_or, or_true, false_or, or_false, if_true, if_false, not_true_eq_false, not_false_eq_true, and_self, ne_eq, b_P_bestNext_10, hA, p2]
    (repeat' (first | apply And.intro | split)) <;> first | omega | exact hQ
  | succ d ih =>
    intro n o7 hn
    have i1 := ih (n + 1) (some (AI (sNV F M h c cl f last r n))) (by omega)
    have hb := minB_b (p := fun _ => true) (v := sNV F M h c cl f last r) (fun j => (sNV_b (fun f m => (hc f m).1) f last r j).1) n
    have hs := sNV_b (F := F) (M := M) (h := h) (c := c) (cl := cl) (fun f m => (hc f m).1) f last r n
    simp only [nbV, minB, if_true] at i1
    have e1 : (((f : Int) * 8 + (n : Int)) * 3 + ((min (r + 1) (h - 1) : Nat) : Int)).toNat = (f * 8 + n) * 3 + min (r + 1) (h - 1) := by omega
    have e2 : (((f : Int) * 8 + (n : Int)) * 3).toNat = (f * 8 + n) * 3 := by omega
    have e3 : ((last : Int) * 8 + (n : Int)).toNat = last * 8 + n := by omega
    have hlg := longer_ok (zt := zt) (ρ := ρ) hA p3 h1 h3 hr
    have r0 := hR f n 0 (Nat.zero_le _) hf (by omega) (by omega)
    rw [Nat.add_zero] at r0
    have r1 := hR f n (min (r + 1) (h - 1)) (Nat.zero_le _) hf (by omega) (by omega)
    have r5 := p5 last n hl (by omega)
    generalize hsn : sNV F M h c cl f last r n = sn at *
    unfold sNV at hsn
    have fin1 : ∀ X : Int, X = sn → (if X < minB (fun _ => true) (sNV F M h c cl f last r) n then Wp zt 17 (P 17 10) [some (AR w), some (AI f), some (AI last), some (AI r), some (AI n), some (AI X), some (AI ((n : Int) + 1)), some (AI X)] [] (g, ρ) Q else Wp zt 17 (P 17 10) [some (AR w), some (AI f), some (AI last), some (AI r), some (AI (nbV (sNV F M h c cl f last r) last n : Nat)), some (AI (minB (fun _ => true) (sNV F M h c cl f last r) n)), some (AI ((n : Int) + 1)), some (AI X)] [] (g, ρ) Q) := by
      intro X hX
      subst hX
      by_cases hcc : X < minB (fun _ => true) (sNV F M h c cl f last r) n
      · rw [if_pos hcc]
        rw [if_pos hcc, show min (minB (fun _ => true) (sNV F M h c cl f last r) n) X = X by omega] at i1
        exact i1
      · rw [if_neg hcc]
        rw [if_neg hcc, show min (minB (fun _ => true) (sNV F M h c cl f last r) n) X = minB (fun _ => true) (sNV F M h c cl f last r) n by omega] at i1
        exact i1
    by_cases hnl : n = last
    · rw [if_pos hnl] at hsn
      have k1 := fin1 _ hsn
      rw [P_P_bestNext_10]
      subst hnl
      simp only [m_P_bestNext, b_P_bestNext_0, P_P_bestNext_54, b_P_bestNext_54, P_P_bestNext_95, b_P_bestNext_95, P_P_bestNext_110, b_P_bestNext_110, P_P_bestNext_116, b_P_bestNext_116, wp_aln0, wp_bald, wp_bipush, wp_cv1, wp_cv2, wp_cv3, wp_cv4, wp_cv5, wp_cv6, wp_cv7, wp_goto, wp_iadd, wp_iald, wp_icge, wp_icne, wp_iconst, wp_il4, wp_il5, wp_il6, wp_il7, wp_iln1, wp_iln2, wp_iln3, wp_imul, wp_inc6, wp_iret, wp_is4, wp_is5, wp_is6, wp_is7, wp_isub, wp_izeq, wp_ldc, wp_nop, wp_zret, qpl_kd, qpl_k1, qpl_l1, qpl_gf0, qpl_k2, qpl_l2, qpl_gf1, qpl_k3, qpl_l3, qpl_gf2, qpl_k4, qpl_l4, qpl_gf3, qpl_k5, qpl_l5, qpl_gf4, qpl_k6, qpl_l6, qpl_gf5, qpl_gf6, qpl_pf6, qpl_gf7, qpl_pf7, qpl_gf8, qpl_pf8, wrI_row, cpI_row, row_s, row_n, row_ss, row_sw, upd_s, upd_n, ad_inj, ad_z, ad_z2, Nat.reduceEqDiff, reduceCtorEq, List.cons_append, List.nil_append, Option.toList_some, Option.toList_none, Int.toNat_natCast, List.length_cons, List.length_nil, Int.cast_ofNat_Int, Nat.reduceAdd, Nat.reduceLeDiff, Nat.reduceLT, Nat.reduceMul, Int.reduceAdd, Int.reduceSub, Int.reduceMul, Int.reduceNeg, Int.reduceLT, Int.reduceLE, Int.reduceEq, Int.reduceToNat, eq_self, true_and, and_true, true_or, or_true, false_or, or_false, if_true, if_false, not_true_eq_false, not_false_eq_true, and_self, ne_eq, b_P_bestNext_10, hA, p2, p3, hlg, e1, r1]
      split at k1 <;> (repeat' (first | apply And.intro | split)) <;> first | omega | exact k1
    · rw [if_neg hnl] at hsn
      have hnl2 : ¬ (n : Int) = (last : Int) := by omega
      by_cases hr2 : r = h - 1
      · have hr3 : (r : Int) = (h : Int) - 1 := by omega
        by_cases hcl : cl last n = true
        · rw [if_pos ⟨hr2, hcl⟩] at hsn
          rw [if_pos hcl] at r5
          have k1 := fin1 _ hsn
          rw [P_P_bestNext_10]
          simp only [m_P_bestNext, b_P_bestNext_0, P_P_bestNext_54, b_P_bestNext_54, P_P_bestNext_95, b_P_bestNext_95, P_P_bestNext_110, b_P_bestNext_110, P_P_bestNext_116, b_P_bestNext_116, wp_aln0, wp_bald, wp_bipush, wp_cv1, wp_cv2, wp_cv3, wp_cv4, wp_cv5, wp_cv6, wp_cv7, wp_goto, wp_iadd, wp_iald, wp_icge, wp_icne, wp_iconst, wp_il4, wp_il5, wp_il6, wp_il7, wp_iln1, wp_iln2, wp_iln3, wp_imul, wp_inc6, wp_iret, wp_is4, wp_is5, wp_is6, wp_is7, wp_isub, wp_izeq, wp_ldc, wp_nop, wp_zret, qpl_kd, qpl_k1, qpl_l1, qpl_gf0, qpl_k2, qpl_l2, qpl_gf1, qpl_k3, qpl_l3, qpl_gf2, qpl_k4, qpl_l4, qpl_gf3, qpl_k5, qpl_l5, qpl_gf4, qpl_k6, qpl_l6, qpl_gf5, qpl_gf6, qpl_pf6, qpl_gf7, qpl_pf7, qpl_gf8, qpl_pf8, wrI_row, cpI_row, row_s, row_n, row_ss, row_sw, upd_s, upd_n, ad_inj, ad_z, ad_z2, Nat.reduceEqDiff, reduceCtorEq, List.cons_append, List.nil_append, Option.toList_some, Option.toList_none, Int.toNat_natCast, List.length_cons, List.length_nil, Int.cast_ofNat_Int, Nat.reduceAdd, Nat.reduceLeDiff, Nat.reduceLT, Nat.reduceMul, Int.reduceAdd, Int.reduceSub, Int.reduceMul, Int.reduceNeg, Int.reduceLT, Int.reduceLE, Int.reduceEq, Int.reduceToNat, eq_self, true_and, and_true, true_or, or_true, false_or, or_false, if_true, if_false, not_true_eq_false, not_false_eq_true, and_self, ne_eq, b_P_bestNext_10, hA, p2, p3, hnl2, e2, e3, r0, r5]
          split at k1 <;> (repeat' (first | apply And.intro | split)) <;> first | omega | exact k1
        · rw [if_neg (fun q => hcl q.2)] at hsn
          rw [if_neg hcl] at r5
          have k1 := fin1 _ hsn
          rw [P_P_bestNext_10]
          simp only [m_P_bestNext, b_P_bestNext_0, P_P_bestNext_54, b_P_bestNext_54, P_P_bestNext_95, b_P_bestNext_95, P_P_bestNext_110, b_P_bestNext_110, P_P_bestNext_116, b_P_bestNext_116, wp_aln0, wp_bald, wp_bipush, wp_cv1, wp_cv2, wp_cv3, wp_cv4, wp_cv5, wp_cv6, wp_cv7, wp_goto, wp_iadd, wp_iald, wp_icge, wp_icne, wp_iconst, wp_il4, wp_il5, wp_il6, wp_il7, wp_iln1, wp_iln2, wp_iln3, wp_imul, wp_inc6, wp_iret, wp_is4, wp_is5, wp_is6, wp_is7, wp_isub, wp_izeq, wp_ldc, wp_nop, wp_zret, qpl_kd, qpl_k1, qpl_l1, qpl_gf0, qpl_k2, qpl_l2, qpl_gf1, qpl_k3, qpl_l3, qpl_gf2, qpl_k4, qpl_l4, qpl_gf3, qpl_k5, qpl_l5, qpl_gf4, qpl_k6, qpl_l6, qpl_gf5, qpl_gf6, qpl_pf6, qpl_gf7, qpl_pf7, qpl_gf8, qpl_pf8, wrI_row, cpI_row, row_s, row_n, row_ss, row_sw, upd_s, upd_n, ad_inj, ad_z, ad_z2, Nat.reduceEqDiff, reduceCtorEq, List.cons_append, List.nil_append, Option.toList_some, Option.toList_none, Int.toNat_natCast, List.length_cons, List.length_nil, Int.cast_ofNat_Int, Nat.reduceAdd, Nat.reduceLeDiff, Nat.reduceLT, Nat.reduceMul, Int.reduceAdd, Int.reduceSub, Int.reduceMul, Int.reduceNeg, Int.reduceLT, Int.reduceLE, Int.reduceEq, Int.reduceToNat, eq_self, true_and, and_true, true_or, or_true, false_or, or_false, if_true, if_false, not_true_eq_false, not_false_eq_true, and_self, ne_eq, b_P_bestNext_10, hA, p2, p3, hnl2, e2, e3, r5]
          split at k1 <;> (repeat' (first | apply And.intro | split)) <;> first | omega | exact k1
      · have hr3 : ¬ (r : Int) = (h : Int) - 1 := by omega
        rw [if_neg (fun q => hr2 q.1)] at hsn
        have k1 := fin1 _ hsn
        rw [P_P_bestNext_10]
        simp only [m_P_bestNext, b_P_bestNext_0, P_P_bestNext_54, b_P_bestNext_54, P_P_bestNext_95, b_P_bestNext_95, P_P_bestNext_110, b_P_bestNext_110, P_P_bestNext_116, b_P_bestNext_116, wp_aln0, wp_bald, wp_bipush, wp_cv1, wp_cv2, wp_cv3, wp_cv4, wp_cv5, wp_cv6, wp_cv7, wp_goto, wp_iadd, wp_iald, wp_icge, wp_icne, wp_iconst, wp_il4, wp_il5, wp_il6, wp_il7, wp_iln1, wp_iln2, wp_iln3, wp_imul, wp_inc6, wp_iret, wp_is4, wp_is5, wp_is6, wp_is7, wp_isub, wp_izeq, wp_ldc, wp_nop, wp_zret, qpl_kd, qpl_k1, qpl_l1, qpl_gf0, qpl_k2, qpl_l2, qpl_gf1, qpl_k3, qpl_l3, qpl_gf2, qpl_k4, qpl_l4, qpl_gf3, qpl_k5, qpl_l5, qpl_gf4, qpl_k6, qpl_l6, qpl_gf5, qpl_gf6, qpl_pf6, qpl_gf7, qpl_pf7, qpl_gf8, qpl_pf8, wrI_row, cpI_row, row_s, row_n, row_ss, row_sw, upd_s, upd_n, ad_inj, ad_z, ad_z2, Nat.reduceEqDiff, reduceCtorEq, List.cons_append, List.nil_append, Option.toList_some, Option.toList_none, Int.toNat_natCast, List.length_cons, List.length_nil, Int.cast_ofNat_Int, Nat.reduceAdd, Nat.reduceLeDiff, Nat.reduceLT, Nat.reduceMul, Int.reduceAdd, Int.reduceSub, Int.reduceMul, Int.reduceNeg, Int.reduceLT, Int.reduceLE, Int.reduceEq, Int.reduceToNat, eq_self, true_and, and_true, true_or, or_true, false_or, or_false, if_true, if_false, not_true_eq_false, not_false_eq_true, and_self, ne_eq, b_P_bestNext_10, hA, p2, p3, hnl2, hr3]
        split at k1 <;> (repeat' (first | apply And.intro | split)) <;> first | omega | exact k1
theorem bestNext_ok (hA : isPl ρ w) (hP : plI g w F M h c cl) (hM8 : M ≤ 8) (h1 : 1 ≤ h) (h3 : h ≤ 3) (hF : F ≤ 99) (hc : ∀ f m, 0 ≤ c f m ∧ c f m ≤ 1000000) (hR : rsI (g (ad w 4)) F M h c cl 0) {f last r : Nat} (hf : f < F) (hl : last < M) (hr : r < h) (Q : Option AV → Sto → Prop) : WpM zt 17 [AR w, AI f, AI last, AI r] (g, ρ) Q ↔ Q (some (AI (nbV (sNV F M h c cl f last r) last M : Nat))) (g, ρ) := by
  refine wpm_iff (fun Q hQ => ?_) Q
  have k1 := bestNext_loop (zt := zt) hA hP hM8 h1 h3 hF hc hR hf hl hr hQ M 0 none (by omega)
  simp only [m_P_bestNext, b_P_bestNext_0, P_P_bestNext_54, b_P_bestNext_54, P_P_bestNext_95, b_P_bestNext_95, P_P_bestNext_110, b_P_bestNext_110, P_P_bestNext_116, b_P_bestNext_116, wp_aln0, wp_bald, wp_bipush, wp_cv1, wp_cv2, wp_cv3, wp_cv4, wp_cv5, wp_cv6, wp_cv7, wp_goto, wp_iadd, wp_iald, wp_icge, wp_icne, wp_iconst, wp_il4, wp_il5, wp_il6, wp_il7, wp_iln1, wp_iln2, wp_iln3, wp_imul, wp_inc6, wp_iret, wp_is4, wp_is5, wp_is6, wp_is7, wp_isub, wp_izeq, wp_ldc, wp_nop, wp_zret, qpl_kd, qpl_k1, qpl_l1, qpl_gf0, qpl_k2, qpl_l2, qpl_gf1, qpl_k3, qpl_l3, qpl_gf2, qpl_k4, qpl_l4, qpl_gf3, qpl_k5, qpl_l5, qpl_gf4, qpl_k6, qpl_l6, qpl_gf5, qpl_gf6, qpl_pf6, qpl_gf7, qpl_pf7, qpl_gf8, qpl_pf8, wrI_row, cpI_row, row_s, row_n, row_ss, row_sw, upd_s, upd_n, ad_inj, ad_z, ad_z2, Nat.reduceEqDiff, reduceCtorEq, List.cons_append, List.nil_append, Option.toList_some, Option.toList_none, Int.toNat_natCast, List.length_cons, List.length_nil, Int.cast_ofNat_Int, Nat.reduceAdd, Nat.reduceLeDiff, Nat.reduceLT, Nat.reduceMul, Int.reduceAdd, Int.reduceSub, Int.reduceMul, Int.reduceNeg, Int.reduceLT, Int.reduceLE, Int.reduceEq, Int.reduceToNat, eq_self, true_and, and_true, true_or, or_true, false_or, or_false, if_true, if_false, not_true_eq_false, not_false_eq_true, and_self, ne_eq, hA]
  exact k1
end PLC
end
section
/-! THE PLANNER'S choose -/
theorem plI_row1 {g : Nat → Nat → Int} {w F M h : Nat} {c : Nat → Nat → Int} {cl : Nat → Nat → Bool} (hP : plI g w F M h c cl) (R : Nat → Int) : plI (setRow g (ad w 1) R) w F M h c cl := by
  obtain ⟨p1, p2, p3, p4, p5⟩ := hP
  have e0 : setRow g (ad w 1) R w = g w := row_n (by rw [ad_z2]; decide)
  have e2 : setRow g (ad w 1) R (ad w 2) = g (ad w 2) := row_n (by rw [ad_inj]; decide)
  have e3 : setRow g (ad w 1) R (ad w 3) = g (ad w 3) := row_n (by rw [ad_inj]; decide)
  unfold plI
  rw [e0, e2, e3]
  exact ⟨p1, p2, p3, p4, p5⟩
/-- the plan's row as the first n frames stand in it -/
def plnR (r : Nat → Int) (F M h : Nat) (c : Nat → Nat → Int) (cl : Nat → Nat → Bool) (n : Nat) : Nat → Int := fun y => if y < n then ((plnV F M h c cl y).1 : Nat) else r y
theorem plnR_0 {r : Nat → Int} {F M h : Nat} {c : Nat → Nat → Int} {cl : Nat → Nat → Bool} : plnR r F M h c cl 0 = r := by
  funext y
  unfold plnR
  rw [if_neg (by omega)]
theorem plnR_st {r : Nat → Int} {F M h : Nat} {c : Nat → Nat → Int} {cl : Nat → Nat → Bool} {n : Nat} : upd1 (plnR r F M h c cl n) n ((plnV F M h c cl n).1 : Nat) = plnR r F M h c cl (n + 1) := by
  funext y
  unfold plnR upd1
  by_cases h1 : y = n
  · subst h1
    rw [if_pos rfl, if_pos (by omega)]
  · rw [if_neg h1]
    dsimp only
    by_cases h2 : y < n
    · rw [if_pos h2, if_pos (by omega)]
    · rw [if_neg h2, if_neg (by omega)]
theorem lstV_b {F M h : Nat} {c : Nat → Nat → Int} {cl : Nat → Nat → Bool} (hc : ∀ f m, 0 ≤ c f m) : -99 ≤ lstV F M h c cl ∧ lstV F M h c cl < 1000000 := by
  have h1 := minB_b (p := fun _ => true) (v := fun m => Rv F M h c cl F m 0) (fun o => (Rv_b hc F o 0).1) M
  unfold lstV totV
  split
  · omega
  · split <;> omega
section PLD
variable {zt : Nat → Nat} {g : Nat → Nat → Int} {ρ : Ri} {w F M h : Nat} {c : Nat → Nat → Int} {cl : Nat → Nat → Bool}
theorem choose_loop (hA : isPl ρ w) (hP : plI g w F M h c cl) (hM8 : M ≤ 8) (hM1 : 1 ≤ M) (h1 : 1 ≤ h) (h3 : h ≤ 3) (hF : F ≤ 99) (hc : ∀ f m, 0 ≤ c f m ∧ c f m ≤ 1000000) (hR : rsI (g (ad w 4)) F M h c cl 0) {Q : Option AV → Sto → Prop} (hQ : Q (some (AI 1)) (setRow g (ad w 1) (plnR (g (ad w 1)) F M h c cl F), ρ)) :
    ∀ (d n : Nat), n + d = F → Wp zt 15 (P 15 15) [some (AR w), some (AI (if n = 0 then 0 else (plnV F M h c cl (n - 1)).2 : Nat)), some (AI n)] [] (setRow g (ad w 1) (plnR (g (ad w 1)) F M h c cl n), ρ) Q := by
  obtain ⟨p1, p2, p3, p4, p5⟩ := id hP
  intro d
  induction d with
  | zero =>
    intro n hn
    have e : n = F := by omega
    subst e
    rw [P_P_choose_15]
    simp only [m_P_choose, b_P_choose_0, P_P_choose_11, b_P_choose_11, P_P_choose_39, b_P_choose_39, P_P_choose_53, b_P_choose_53, P_P_choose_83, b_P_choose_83, P_P_choose_84, b_P_choose_84, P_P_choose_91, b_P_choose_91, wp_aln0, wp_bipush, wp_cv1, wp_cv2, wp_cv3, wp_cv4, wp_cv5, wp_cv6, wp_cv7, wp_goto, wp_iald, wp_iast, wp_icge, wp_icne, wp_iconst, wp_iln1, wp_iln2, wp_inc2, wp_iret, wp_isn1, wp_isn2, wp_isub, wp_izle, wp_izne, wp_nop, wp_zret, qpl_kd, qpl_k1, qpl_l1, qpl_gf0, qpl_k2, qpl_l2, qpl_gf1, qpl_k3, qpl_l3, qpl_gf2, qpl_k4, qpl_l4, qpl_gf3, qpl_k5, qpl_l5, qpl_gf4, qpl_k6, qpl_l6, qpl_gf5, qpl_gf6, qpl_pf6, qpl_gf7, qpl_pf7, qpl_gf8, qpl_pf8, wrI_row, cpI_row, row_s, row_n, row_ss, row_sw, upd_s, upd_n, ad_inj, ad_z, ad_z2, Nat.reduceEqDiff, reduceCtorEq, List.cons_append, List.nil_append, Option.toList_some, Option.toList_none, Int.toNat_natCast, List.length_cons, List.length_nil, Int.cast_ofNat_Int, Nat.reduceAdd, Nat.reduceLeDiff, Nat.reduceLT, Nat.reduceMul, Int.reduceAdd, Int.reduceSub, Int.reduceMul, Int.reduceNeg, Int.reduceLT, Int.reduceLE, Int.reduceEq, Int.reduceToNat, eq_self, true_and, and_true, true_or, or_true, false_or, or_false, if_true, if_false, not_true_eq_false, not_false_eq_true, and_self, ne_eq, b_P_choose_15, hA, p1]
    (repeat' (first | apply And.intro | split)) <;> first | omega | exact hQ
  | succ d ih =>
    intro n hn
    have i1 := ih (n + 1) (by omega)
    rw [if_neg (by omega), Nat.add_sub_cancel, ← plnR_st] at i1
    have hR2 : rsI (setRow g (ad w 1) (plnR (g (ad w 1)) F M h c cl n) (ad w 4)) F M h c cl 0 := by
      rw [row_n (by rw [ad_inj]; decide)]
      exact hR
    have hP2 := plI_row1 hP (plnR (g (ad w 1)) F M h c cl n)
    cases n with
    | zero =>
      have hbf := bestFirst_ok (zt := zt) (ρ := ρ) (g := setRow g (ad w 1) (plnR (g (ad w 1)) F M h c cl 0)) hA hP2.2.1 hM8 hM1 (v := fun m => Rv F M h c cl F m 0) (fun j => Rv_b (fun f m => (hc f m).1) F j 0) (fun m hm => by
        have := hR2 0 m 0 (Nat.le_refl _) (by omega) hm (by omega)
        simpa using this)
      simp only [plnV] at i1
      rw [P_P_choose_15]
      simp only [m_P_choose, b_P_choose_0, P_P_choose_11, b_P_choose_11, P_P_choose_39, b_P_choose_39, P_P_choose_53, b_P_choose_53, P_P_choose_83, b_P_choose_83, P_P_choose_84, b_P_choose_84, P_P_choose_91, b_P_choose_91, wp_aln0, wp_bipush, wp_cv1, wp_cv2, wp_cv3, wp_cv4, wp_cv5, wp_cv6, wp_cv7, wp_goto, wp_iald, wp_iast, wp_icge, wp_icne, wp_iconst, wp_iln1, wp_iln2, wp_inc2, wp_iret, wp_isn1, wp_isn2, wp_isub, wp_izle, wp_izne, wp_nop, wp_zret, qpl_kd, qpl_k1, qpl_l1, qpl_gf0, qpl_k2, qpl_l2, qpl_gf1, qpl_k3, qpl_l3, qpl_gf2, qpl_k4, qpl_l4, qpl_gf3, qpl_k5, qpl_l5, qpl_gf4, qpl_k6, qpl_l6, qpl_gf5, qpl_gf6, qpl_pf6, qpl_gf7, qpl_pf7, qpl_gf8, qpl_pf8, wrI_row, cpI_row, row_s, row_n, row_ss, row_sw, upd_s, upd_n, ad_inj, ad_z, ad_z2, Nat.reduceEqDiff, reduceCtorEq, List.cons_append, List.nil_append, Option.toList_some, Option.toList_none, Int.toNat_natCast, List.length_cons, List.length_nil, Int.cast_ofNat_Int, Nat.reduceAdd, Nat.reduceLeDiff, Nat.reduceLT, Nat.reduceMul, Int.reduceAdd, Int.reduceSub, Int.reduceMul, Int.reduceNeg, Int.reduceLT, Int.reduceLE, Int.reduceEq, Int.reduceToNat, eq_self, true_and, and_true, true_or, or_true, false_or, or_false, if_true, if_false, not_true_eq_false, not_false_eq_true, and_self, ne_eq, b_P_choose_15, hA, p1, hbf]
      (repeat' (first | apply And.intro | split)) <;> first | omega | exact i1
    | succ k =>
      obtain ⟨hb1, hb2⟩ := plnV_b (F := F) (c := c) (cl := cl) (h := h) (by omega : 0 < M) (by omega) k
      have hbn := bestNext_ok (zt := zt) (ρ := ρ) (g := setRow g (ad w 1) (plnR (g (ad w 1)) F M h c cl (k + 1))) hA hP2 hM8 h1 h3 hF hc hR2 (f := k + 1) (last := (plnV F M h c cl k).1) (r := (plnV F M h c cl k).2) (by omega) hb1 hb2
      have hlg := longer_ok (zt := zt) (ρ := ρ) (w := w) (h := h) (g := setRow g (ad w 1) (plnR (g (ad w 1)) F M h c cl (k + 1))) hA hP2.2.2.1 h1 h3 (r := (plnV F M h c cl k).2) hb2
      have hlg2 := longer_ok (zt := zt) (ρ := ρ) (w := w) (h := h) (g := setRow g (ad w 1) (upd1 (plnR (g (ad w 1)) F M h c cl (k + 1)) (k + 1) ((plnV F M h c cl (k + 1)).1 : Nat))) hA ((congrFun (row_n (by rw [ad_z2]; decide)) 8).trans p3) h1 h3 (r := (plnV F M h c cl k).2) hb2
      have hbB := nbV_lt (s := sNV F M h c cl (k + 1) (plnV F M h c cl k).1 (plnV F M h c cl k).2) hb1 M (Nat.le_refl _)
      have rd : plnR (g (ad w 1)) F M h c cl (k + 1) k = ((plnV F M h c cl k).1 : Nat) := if_pos (by omega)
      have e9 : (((k + 1 : Nat) : Int)).toNat = k + 1 := by omega
      have e8 : ((((k + 1 : Nat) : Int)) - 1).toNat = k := by omega
      have rd2 : upd1 (plnR (g (ad w 1)) F M h c cl (k + 1)) (k + 1) ((plnV F M h c cl (k + 1)).1 : Nat) k = ((plnV F M h c cl k).1 : Nat) := by
        rw [plnR_st]
        exact if_pos (by omega)
      have rd3 : upd1 (plnR (g (ad w 1)) F M h c cl (k + 1)) (k + 1) ((plnV F M h c cl (k + 1)).1 : Nat) (k + 1) = ((plnV F M h c cl (k + 1)).1 : Nat) := if_pos rfl
      simp only [plnV] at i1 hlg2 rd2 rd3
      simp only [if_neg (Nat.succ_ne_zero k), Nat.add_sub_cancel] at ih ⊢
      generalize hL : (plnV F M h c cl k).1 = L at *
      generalize hr : (plnV F M h c cl k).2 = rr at *
      generalize hB : nbV (sNV F M h c cl (k + 1) L rr) L M = B at *
      have hk0 : ¬ ((k + 1 : Nat) : Int) = 0 := by omega
      generalize hk : ((k + 1 : Nat) : Int) = kk at *
      rw [show ((k + 1 + 1 : Nat) : Int) = kk + 1 by omega] at i1
      rw [P_P_choose_15]
      by_cases hBL : B = L
      · rw [if_pos hBL] at i1
        subst hBL
        simp only [m_P_choose, b_P_choose_0, P_P_choose_11, b_P_choose_11, P_P_choose_39, b_P_choose_39, P_P_choose_53, b_P_choose_53, P_P_choose_83, b_P_choose_83, P_P_choose_84, b_P_choose_84, P_P_choose_91, b_P_choose_91, wp_aln0, wp_bipush, wp_cv1, wp_cv2, wp_cv3, wp_cv4, wp_cv5, wp_cv6, wp_cv7, wp_goto, wp_iald, wp_iast, wp_icge, wp_icne, wp_iconst, wp_iln1, wp_iln2, wp_inc2, wp_iret, wp_isn1, wp_isn2, wp_isub, wp_izle, wp_izne, wp_nop, wp_zret, qpl_kd, qpl_k1, qpl_l1, qpl_gf0, qpl_k2, qpl_l2, qpl_gf1, qpl_k3, qpl_l3, qpl_gf2, qpl_k4, qpl_l4, qpl_gf3, qpl_k5, qpl_l5, qpl_gf4, qpl_k6, qpl_l6, qpl_gf5, qpl_gf6, qpl_pf6, qpl_gf7, qpl_pf7, qpl_gf8, qpl_pf8, wrI_row, cpI_row, row_s, row_n, row_ss, row_sw, upd_s, upd_n, ad_inj, ad_z, ad_z2, Nat.reduceEqDiff, reduceCtorEq, List.cons_append, List.nil_append, Option.toList_some, Option.toList_none, Int.toNat_natCast, List.length_cons, List.length_nil, Int.cast_ofNat_Int, Nat.reduceAdd, Nat.reduceLeDiff, Nat.reduceLT, Nat.reduceMul, Int.reduceAdd, Int.reduceSub, Int.reduceMul, Int.reduceNeg, Int.reduceLT, Int.reduceLE, Int.reduceEq, Int.reduceToNat, eq_self, true_and, and_true, true_or, or_true, false_or, or_false, if_true, if_false, not_true_eq_false, not_false_eq_true, and_self, ne_eq, b_P_choose_15, hA, p1, hbn, hlg, e8, e9, hlg2, rd, rd2, rd3, hk0]
        (repeat' (first | apply And.intro | split)) <;> first | omega | exact i1
      · rw [if_neg hBL] at i1
        have hBL2 : ¬ (B : Int) = (L : Int) := by omega
        simp only [m_P_choose, b_P_choose_0, P_P_choose_11, b_P_choose_11, P_P_choose_39, b_P_choose_39, P_P_choose_53, b_P_choose_53, P_P_choose_83, b_P_choose_83, P_P_choose_84, b_P_choose_84, P_P_choose_91, b_P_choose_91, wp_aln0, wp_bipush, wp_cv1, wp_cv2, wp_cv3, wp_cv4, wp_cv5, wp_cv6, wp_cv7, wp_goto, wp_iald, wp_iast, wp_icge, wp_icne, wp_iconst, wp_iln1, wp_iln2, wp_inc2, wp_iret, wp_isn1, wp_isn2, wp_isub, wp_izle, wp_izne, wp_nop, wp_zret, qpl_kd, qpl_k1, qpl_l1, qpl_gf0, qpl_k2, qpl_l2, qpl_gf1, qpl_k3, qpl_l3, qpl_gf2, qpl_k4, qpl_l4, qpl_gf3, qpl_k5, qpl_l5, qpl_gf4, qpl_k6, qpl_l6, qpl_gf5, qpl_gf6, qpl_pf6, qpl_gf7, qpl_pf7, qpl_gf8, qpl_pf8, wrI_row, cpI_row, row_s, row_n, row_ss, row_sw, upd_s, upd_n, ad_inj, ad_z, ad_z2, Nat.reduceEqDiff, reduceCtorEq, List.cons_append, List.nil_append, Option.toList_some, Option.toList_none, Int.toNat_natCast, List.length_cons, List.length_nil, Int.cast_ofNat_Int, Nat.reduceAdd, Nat.reduceLeDiff, Nat.reduceLT, Nat.reduceMul, Int.reduceAdd, Int.reduceSub, Int.reduceMul, Int.reduceNeg, Int.reduceLT, Int.reduceLE, Int.reduceEq, Int.reduceToNat, eq_self, true_and, and_true, true_or, or_true, false_or, or_false, if_true, if_false, not_true_eq_false, not_false_eq_true, and_self, ne_eq, b_P_choose_15, hA, p1, hbn, hlg, e8, e9, hlg2, rd, rd2, rd3, hk0, hBL2]
        (repeat' (first | apply And.intro | split)) <;> first | omega | exact i1
theorem choose_ok (hA : isPl ρ w) (hP : plI g w F M h c cl) (hM8 : M ≤ 8) (hM1 : 1 ≤ M) (h1 : 1 ≤ h) (h3 : h ≤ 3) (hF : F ≤ 99) (hc : ∀ f m, 0 ≤ c f m ∧ c f m ≤ 1000000) {Q : Option AV → Sto → Prop} (hQ : ∀ R : Nat → Int, rsI R F M h c cl 0 → if lstV F M h c cl = -99 then Q (some (AI 0)) (setRow g (ad w 4) R, ρ) else Q (some (AI 1)) (setRow (setRow g (ad w 4) R) (ad w 1) (plnR (g (ad w 1)) F M h c cl F), ρ)) : WpM zt 15 [AR w] (g, ρ) Q := by
  simp only [m_P_choose, b_P_choose_0, P_P_choose_11, b_P_choose_11, P_P_choose_39, b_P_choose_39, P_P_choose_53, b_P_choose_53, P_P_choose_83, b_P_choose_83, P_P_choose_84, b_P_choose_84, P_P_choose_91, b_P_choose_91, wp_aln0, wp_bipush, wp_cv1, wp_cv2, wp_cv3, wp_cv4, wp_cv5, wp_cv6, wp_cv7, wp_goto, wp_iald, wp_iast, wp_icge, wp_icne, wp_iconst, wp_iln1, wp_iln2, wp_inc2, wp_iret, wp_isn1, wp_isn2, wp_isub, wp_izle, wp_izne, wp_nop, wp_zret, qpl_kd, qpl_k1, qpl_l1, qpl_gf0, qpl_k2, qpl_l2, qpl_gf1, qpl_k3, qpl_l3, qpl_gf2, qpl_k4, qpl_l4, qpl_gf3, qpl_k5, qpl_l5, qpl_gf4, qpl_k6, qpl_l6, qpl_gf5, qpl_gf6, qpl_pf6, qpl_gf7, qpl_pf7, qpl_gf8, qpl_pf8, wrI_row, cpI_row, row_s, row_n, row_ss, row_sw, upd_s, upd_n, ad_inj, ad_z, ad_z2, Nat.reduceEqDiff, reduceCtorEq, List.cons_append, List.nil_append, Option.toList_some, Option.toList_none, Int.toNat_natCast, List.length_cons, List.length_nil, Int.cast_ofNat_Int, Nat.reduceAdd, Nat.reduceLeDiff, Nat.reduceLT, Nat.reduceMul, Int.reduceAdd, Int.reduceSub, Int.reduceMul, Int.reduceNeg, Int.reduceLT, Int.reduceLE, Int.reduceEq, Int.reduceToNat, eq_self, true_and, and_true, true_or, or_true, false_or, or_false, if_true, if_false, not_true_eq_false, not_false_eq_true, and_self, ne_eq, hA]
  refine leastFromEnd_ok hA hP hM8 h1 h3 hF hc (fun R hR => ?_)
  have hq := hQ R hR
  have k1 := fun q => choose_loop (zt := zt) (ρ := ρ) (g := setRow g (ad w 4) R) (Q := Q) hA (plI_row4 hP R) hM8 hM1 h1 h3 hF hc (by rw [row_s]; exact hR) q F 0 (by omega)
  rw [plnR_0, row_id, row_n (by rw [ad_inj]; decide)] at k1
  have hb := lstV_b (F := F) (M := M) (h := h) (cl := cl) (fun f m => (hc f m).1)
  split at hq
  · simp only [m_P_choose, b_P_choose_0, P_P_choose_11, b_P_choose_11, P_P_choose_39, b_P_choose_39, P_P_choose_53, b_P_choose_53, P_P_choose_83, b_P_choose_83, P_P_choose_84, b_P_choose_84, P_P_choose_91, b_P_choose_91, wp_aln0, wp_bipush, wp_cv1, wp_cv2, wp_cv3, wp_cv4, wp_cv5, wp_cv6, wp_cv7, wp_goto, wp_iald, wp_iast, wp_icge, wp_icne, wp_iconst, wp_iln1, wp_iln2, wp_inc2, wp_iret, wp_isn1, wp_isn2, wp_isub, wp_izle, wp_izne, wp_nop, wp_zret, qpl_kd, qpl_k1, qpl_l1, qpl_gf0, qpl_k2, qpl_l2, qpl_gf1, qpl_k3, qpl_l3, qpl_gf2, qpl_k4, qpl_l4, qpl_gf3, qpl_k5, qpl_l5, qpl_gf4, qpl_k6, qpl_l6, qpl_gf5, qpl_gf6, qpl_pf6, qpl_gf7, qpl_pf7, qpl_gf8, qpl_pf8, wrI_row, cpI_row, row_s, row_n, row_ss, row_sw, upd_s, upd_n, ad_inj, ad_z, ad_z2, Nat.reduceEqDiff, reduceCtorEq, List.cons_append, List.nil_append, Option.toList_some, Option.toList_none, Int.toNat_natCast, List.length_cons, List.length_nil, Int.cast_ofNat_Int, Nat.reduceAdd, Nat.reduceLeDiff, Nat.reduceLT, Nat.reduceMul, Int.reduceAdd, Int.reduceSub, Int.reduceMul, Int.reduceNeg, Int.reduceLT, Int.reduceLE, Int.reduceEq, Int.reduceToNat, eq_self, true_and, and_true, true_or, or_true, false_or, or_false, if_true, if_false, not_true_eq_false, not_false_eq_true, and_self, ne_eq, hA]
    (repeat' (first | apply And.intro | split)) <;> first | omega | exact hq
  · simp only [m_P_choose, b_P_choose_0, P_P_choose_11, b_P_choose_11, P_P_choose_39, b_P_choose_39, P_P_choose_53, b_P_choose_53, P_P_choose_83, b_P_choose_83, P_P_choose_84, b_P_choose_84, P_P_choose_91, b_P_choose_91, wp_aln0, wp_bipush, wp_cv1, wp_cv2, wp_cv3, wp_cv4, wp_cv5, wp_cv6, wp_cv7, wp_goto, wp_iald, wp_iast, wp_icge, wp_icne, wp_iconst, wp_iln1, wp_iln2, wp_inc2, wp_iret, wp_isn1, wp_isn2, wp_isub, wp_izle, wp_izne, wp_nop, wp_zret, qpl_kd, qpl_k1, qpl_l1, qpl_gf0, qpl_k2, qpl_l2, qpl_gf1, qpl_k3, qpl_l3, qpl_gf2, qpl_k4, qpl_l4, qpl_gf3, qpl_k5, qpl_l5, qpl_gf4, qpl_k6, qpl_l6, qpl_gf5, qpl_gf6, qpl_pf6, qpl_gf7, qpl_pf7, qpl_gf8, qpl_pf8, wrI_row, cpI_row, row_s, row_n, row_ss, row_sw, upd_s, upd_n, ad_inj, ad_z, ad_z2, Nat.reduceEqDiff, reduceCtorEq, List.cons_append, List.nil_append, Option.toList_some, Option.toList_none, Int.toNat_natCast, List.length_cons, List.length_nil, Int.cast_ofNat_Int, Nat.reduceAdd, Nat.reduceLeDiff, Nat.reduceLT, Nat.reduceMul, Int.reduceAdd, Int.reduceSub, Int.reduceMul, Int.reduceNeg, Int.reduceLT, Int.reduceLE, Int.reduceEq, Int.reduceToNat, eq_self, true_and, and_true, true_or, or_true, false_or, or_false, if_true, if_false, not_true_eq_false, not_false_eq_true, and_self, ne_eq, hA]
    (repeat' (first | apply And.intro | split)) <;> first | omega | exact k1 hq
end PLD
end
section
/-! THE PLANNER'S prepare -/
/-- the cost of a mouth in a frame, n stands for none -/
def cstV (n : Int) (V : Vw) (f m : Nat) : Int := if (f : Int) < V 8 0 ∧ (m : Int) < V 0 0 then (if V 9 f = n ∨ V 9 f = m then wrgV V (kndV V f) m else 1000000) else 0
def clsV (V : Vw) (s : Int) (x y : Nat) : Bool := decide ((x : Int) < V 0 0 ∧ (y : Int) < V 0 0 ∧ jmpV V x y ≤ s)
theorem clsV_i {V : Vw} {s : Int} {x y : Nat} (hx : (x : Int) < V 0 0) (hy : (y : Int) < V 0 0) : clsV V s x y = true ↔ jmpV V x y ≤ s := by
  unfold clsV
  rw [decide_eq_true_iff]
  exact ⟨fun h => h.2.2, fun h => ⟨hx, hy, h⟩⟩
theorem kndV_b {g : Nat → Nat → Int} {a : Nat} (hW : WFV (-99) (vwC g a)) {f : Int} (hf : 0 ≤ f ∧ f < g a 8) : 0 ≤ kndV (vwC g a) f ∧ kndV (vwC g a) f ≤ 9 := by
  have h1 := segV_b hW (f := f)
  have hG : 0 < g a 5 := by
    have h2 := w_sum hW
    have h3 := w_G hW
    by_cases e : g a 5 = 0
    · rw [e] at h2
      have h4 : sumL (vwC g a) (0 : Int).toNat = 0 := rfl
      omega
    · omega
  unfold kndV
  exact w_kd hW (j := (segV (vwC g a) f).toNat) (by omega)
theorem cstV_b {g : Nat → Nat → Int} {a : Nat} (hW : WFV (-99) (vwC g a)) (f m : Nat) : 0 ≤ cstV (-99) (vwC g a) f m ∧ cstV (-99) (vwC g a) f m ≤ 1000000 := by
  unfold cstV
  split
  next hc =>
    have h1 := kndV_b hW (f := f) ⟨by omega, hc.1⟩
    have h2 := wrgV_b hW h1.1 h1.2 (m := m) hc.2
    split <;> omega
  next hc => omega
theorem cstV_p {n : Int} {V : Vw} {f m : Nat} (h1 : (f : Int) < V 8 0) (h2 : (m : Int) < V 0 0) (h : V 9 f = n ∨ V 9 f = m) : cstV n V f m = wrgV V (kndV V f) m := by
  unfold cstV
  rw [if_pos ⟨h1, h2⟩, if_pos h]
theorem cstV_n {n : Int} {V : Vw} {f m : Nat} (h1 : (f : Int) < V 8 0) (h2 : (m : Int) < V 0 0) (h : ¬ (V 9 f = n ∨ V 9 f = m)) : cstV n V f m = 1000000 := by
  unfold cstV
  rw [if_pos ⟨h1, h2⟩, if_neg h]
section PRP
variable {zt : Nat → Nat} {g : Nat → Nat → Int} {ρ : Ri} {a w : Nat}
theorem useSpeed_inner (hS : isSc ρ a) (hA : isPl ρ w) (hd : a + 9 ≤ w ∨ w + 9 ≤ a) (hW : WFV (-99) (vwC g a)) (hM : g w 7 = g a 0) {sp : Int} (hsp : -1000 ≤ sp ∧ sp ≤ 1000) {x : Nat} (hx : (x : Int) < g a 0) {Q : Option AV → Sto → Prop}
    (kk : ∀ (R : Nat → Int) (o4 : Option AV), (∀ x' y : Nat, x' < x + 1 → (y : Int) < g a 0 → R (x' * 8 + y) = if clsV (vwC g a) sp x' y = true then 1 else 0) → Wp zt 6 (P 6 2) [some (AR w), some (AR a), some (AI sp), some (AI ((x : Int) + 1)), o4] [] (setRow g (ad w 3) R, ρ) Q) :
    ∀ (d y : Nat) (R : Nat → Int), (y : Int) + d = g a 0 → (∀ x' y : Nat, x' < x → (y : Int) < g a 0 → R (x' * 8 + y) = if clsV (vwC g a) sp x' y = true then 1 else 0) → (∀ y' : Nat, y' < y → R (x * 8 + y') = if clsV (vwC g a) sp x y' = true then 1 else 0) → Wp zt 6 (P 6 13) [some (AR w), some (AR a), some (AI sp), some (AI x), some (AI y)] [] (setRow g (ad w 3) R, ρ) Q := by
  have hM8 := w_M hW
  intro d
  induction d with
  | zero =>
    intro y R hy h1 h2
    have k1 := kk R (some (AI y)) (fun x' y' q1 q2 => by
      by_cases e : x' = x
      · subst e; exact h2 y' (by omega)
      · exact h1 x' y' (by omega) q2)
    rw [P_P_useSpeed_13]
    simp only [m_P_useSpeed, b_P_useSpeed_0, P_P_useSpeed_48, b_P_useSpeed_48, P_P_useSpeed_49, b_P_useSpeed_49, P_P_useSpeed_56, b_P_useSpeed_56, P_P_useSpeed_62, b_P_useSpeed_62, wp_aln0, wp_aln1, wp_bast, wp_bipush, wp_cv1, wp_cv2, wp_cv3, wp_cv4, wp_cv5, wp_cv6, wp_cv7, wp_goto, wp_iadd, wp_icge, wp_icgt, wp_iconst, wp_il4, wp_iln2, wp_iln3, wp_imul, wp_inc3, wp_inc4, wp_is4, wp_isn3, wp_nop, wp_ret, qsc_kd, qsc_k1, qsc_l1, qsc_gf1, qsc_k2, qsc_l2, qsc_gf2, qsc_k3, qsc_l3, qsc_gf3, qsc_k4, qsc_l4, qsc_gf4, qsc_k5, qsc_l5, qsc_gf6, qsc_k6, qsc_l6, qsc_gf7, qsc_k7, qsc_l7, qsc_gf9, qsc_k8, qsc_l8, qsc_gf10, qsc_gf0, qsc_pf0, qsc_gf5, qsc_pf5, qsc_gf8, qsc_pf8, qpl_kd, qpl_k1, qpl_l1, qpl_gf0, qpl_k2, qpl_l2, qpl_gf1, qpl_k3, qpl_l3, qpl_gf2, qpl_k4, qpl_l4, qpl_gf3, qpl_k5, qpl_l5, qpl_gf4, qpl_k6, qpl_l6, qpl_gf5, qpl_gf6, qpl_pf6, qpl_gf7, qpl_pf7, qpl_gf8, qpl_pf8, wrI_row, cpI_row, row_s, row_n, row_ss, row_sw, upd_s, upd_n, ad_inj, ad_z, ad_z2, Nat.reduceEqDiff, reduceCtorEq, List.cons_append, List.nil_append, Option.toList_some, Option.toList_none, Int.toNat_natCast, List.length_cons, List.length_nil, Int.cast_ofNat_Int, Nat.reduceAdd, Nat.reduceLeDiff, Nat.reduceLT, Nat.reduceMul, Int.reduceAdd, Int.reduceSub, Int.reduceMul, Int.reduceNeg, Int.reduceLT, Int.reduceLE, Int.reduceEq, Int.reduceToNat, eq_self, true_and, and_true, true_or, or_true, false_or, or_false, if_true, if_false, not_true_eq_false, not_false_eq_true, and_self, ne_eq, b_P_useSpeed_13, hA, hS, hM]
    (repeat' (first | apply And.intro | split)) <;> first | omega | exact k1
  | succ d ih =>
    intro y R hy h1 h2
    have hv : vwC (setRow g (ad w 3) R) a = vwC g a := vwC_kept (fun x q1 q2 => row_n (by unfold ad; omega))
    have ea : setRow g (ad w 3) R a = g a := row_n (by unfold ad; omega)
    have hj := jumpOf_ok (zt := zt) (g := setRow g (ad w 3) R) hS (by rw [hv]; exact hW) (x := x) (y := y) (by omega) (by rw [ea]; exact hx) (by omega) (by rw [ea]; omega)
    simp only [hv, Int.toNat_natCast] at hj
    have hjb : 0 ≤ jmpV (vwC g a) x y ∧ jmpV (vwC g a) x y ≤ 2000 := by
      have q1 := w_op hW (j := y) (by omega)
      have q2 := w_wd hW (j := y) (by omega)
      exact dstV_b hW hx (show -1000 ≤ g (ad a 1) y ∧ g (ad a 1) y ≤ 1000 by omega) (show -1000 ≤ g (ad a 2) y ∧ g (ad a 2) y ≤ 1000 by omega)
    have e2 : ((x : Int) * 8 + (y : Int)).toNat = x * 8 + y := by omega
    have i1 := fun (v : Int) (q : v = if clsV (vwC g a) sp x y = true then 1 else 0) => ih (y + 1) (upd1 R (x * 8 + y) v) (by omega) (fun x' y' q1 q2 => by
        rw [upd_n (by omega)]
        exact h1 x' y' q1 q2) (fun y' q1 => by
        by_cases e : y' = y
        · subst e
          rw [upd_s]
          exact q
        · rw [upd_n (by omega)]
          exact h2 y' (by omega))
    by_cases hc : jmpV (vwC g a) x y ≤ sp
    · have k1 := i1 1 (by rw [if_pos ((clsV_i (V := vwC g a) hx (show (y : Int) < g a 0 by omega)).2 hc)])
      rw [P_P_useSpeed_13]
      simp only [m_P_useSpeed, b_P_useSpeed_0, P_P_useSpeed_48, b_P_useSpeed_48, P_P_useSpeed_49, b_P_useSpeed_49, P_P_useSpeed_56, b_P_useSpeed_56, P_P_useSpeed_62, b_P_useSpeed_62, wp_aln0, wp_aln1, wp_bast, wp_bipush, wp_cv1, wp_cv2, wp_cv3, wp_cv4, wp_cv5, wp_cv6, wp_cv7, wp_goto, wp_iadd, wp_icge, wp_icgt, wp_iconst, wp_il4, wp_iln2, wp_iln3, wp_imul, wp_inc3, wp_inc4, wp_is4, wp_isn3, wp_nop, wp_ret, qsc_kd, qsc_k1, qsc_l1, qsc_gf1, qsc_k2, qsc_l2, qsc_gf2, qsc_k3, qsc_l3, qsc_gf3, qsc_k4, qsc_l4, qsc_gf4, qsc_k5, qsc_l5, qsc_gf6, qsc_k6, qsc_l6, qsc_gf7, qsc_k7, qsc_l7, qsc_gf9, qsc_k8, qsc_l8, qsc_gf10, qsc_gf0, qsc_pf0, qsc_gf5, qsc_pf5, qsc_gf8, qsc_pf8, qpl_kd, qpl_k1, qpl_l1, qpl_gf0, qpl_k2, qpl_l2, qpl_gf1, qpl_k3, qpl_l3, qpl_gf2, qpl_k4, qpl_l4, qpl_gf3, qpl_k5, qpl_l5, qpl_gf4, qpl_k6, qpl_l6, qpl_gf5, qpl_gf6, qpl_pf6, qpl_gf7, qpl_pf7, qpl_gf8, qpl_pf8, wrI_row, cpI_row, row_s, row_n, row_ss, row_sw, upd_s, upd_n, ad_inj, ad_z, ad_z2, Nat.reduceEqDiff, reduceCtorEq, List.cons_append, List.nil_append, Option.toList_some, Option.toList_none, Int.toNat_natCast, List.length_cons, List.length_nil, Int.cast_ofNat_Int, Nat.reduceAdd, Nat.reduceLeDiff, Nat.reduceLT, Nat.reduceMul, Int.reduceAdd, Int.reduceSub, Int.reduceMul, Int.reduceNeg, Int.reduceLT, Int.reduceLE, Int.reduceEq, Int.reduceToNat, eq_self, true_and, and_true, true_or, or_true, false_or, or_false, if_true, if_false, not_true_eq_false, not_false_eq_true, and_self, ne_eq, b_P_useSpeed_13, hA, hS, hM, hj, e2]
      (repeat' (first | apply And.intro | split)) <;> first | omega | exact k1
    · have k1 := i1 0 (by rw [if_neg (fun q => hc ((clsV_i (V := vwC g a) hx (show (y : Int) < g a 0 by omega)).1 q))])
      rw [P_P_useSpeed_13]
      simp only [m_P_useSpeed, b_P_useSpeed_0, P_P_useSpeed_48, b_P_useSpeed_48, P_P_useSpeed_49, b_P_useSpeed_49, P_P_useSpeed_56, b_P_useSpeed_56, P_P_useSpeed_62, b_P_useSpeed_62, wp_aln0, wp_aln1, wp_bast, wp_bipush, wp_cv1, wp_cv2, wp_cv3, wp_cv4, wp_cv5, wp_cv6, wp_cv7, wp_goto, wp_iadd, wp_icge, wp_icgt, wp_iconst, wp_il4, wp_iln2, wp_iln3, wp_imul, wp_inc3, wp_inc4, wp_is4, wp_isn3, wp_nop, wp_ret, qsc_kd, qsc_k1, qsc_l1, qsc_gf1, qsc_k2, qsc_l2, qsc_gf2, qsc_k3, qsc_l3, qsc_gf3, qsc_k4, qsc_l4, qsc_gf4, qsc_k5, qsc_l5, qsc_gf6, qsc_k6, qsc_l6, qsc_gf7, qsc_k7, qsc_l7, qsc_gf9, qsc_k8, qsc_l8, qsc_gf10, qsc_gf0, qsc_pf0, qsc_gf5, qsc_pf5, qsc_gf8, qsc_pf8, qpl_kd, qpl_k1, qpl_l1, qpl_gf0, qpl_k2, qpl_l2, qpl_gf1, qpl_k3, qpl_l3, qpl_gf2, qpl_k4, qpl_l4, qpl_gf3, qpl_k5, qpl_l5, qpl_gf4, qpl_k6, qpl_l6, qpl_gf5, qpl_gf6, qpl_pf6, qpl_gf7, qpl_pf7, qpl_gf8, qpl_pf8, wrI_row, cpI_row, row_s, row_n, row_ss, row_sw, upd_s, upd_n, ad_inj, ad_z, ad_z2, Nat.reduceEqDiff, reduceCtorEq, List.cons_append, List.nil_append, Option.toList_some, Option.toList_none, Int.toNat_natCast, List.length_cons, List.length_nil, Int.cast_ofNat_Int, Nat.reduceAdd, Nat.reduceLeDiff, Nat.reduceLT, Nat.reduceMul, Int.reduceAdd, Int.reduceSub, Int.reduceMul, Int.reduceNeg, Int.reduceLT, Int.reduceLE, Int.reduceEq, Int.reduceToNat, eq_self, true_and, and_true, true_or, or_true, false_or, or_false, if_true, if_false, not_true_eq_false, not_false_eq_true, and_self, ne_eq, b_P_useSpeed_13, hA, hS, hM, hj, e2]
      (repeat' (first | apply And.intro | split)) <;> first | omega | exact k1
theorem useSpeed_loop (hS : isSc ρ a) (hA : isPl ρ w) (hd : a + 9 ≤ w ∨ w + 9 ≤ a) (hW : WFV (-99) (vwC g a)) (hM : g w 7 = g a 0) {sp : Int} (hsp : -1000 ≤ sp ∧ sp ≤ 1000) {Q : Option AV → Sto → Prop}
    (hQ : ∀ R : Nat → Int, (∀ x y : Nat, (x : Int) < g a 0 → (y : Int) < g a 0 → R (x * 8 + y) = if clsV (vwC g a) sp x y = true then 1 else 0) → Q none (setRow g (ad w 3) R, ρ)) :
    ∀ (d x : Nat) (R : Nat → Int) (o4 : Option AV), (x : Int) + d = g a 0 → (∀ x' y : Nat, x' < x → (y : Int) < g a 0 → R (x' * 8 + y) = if clsV (vwC g a) sp x' y = true then 1 else 0) → Wp zt 6 (P 6 2) [some (AR w), some (AR a), some (AI sp), some (AI x), o4] [] (setRow g (ad w 3) R, ρ) Q := by
  have hM8 := w_M hW
  intro d
  induction d with
  | zero =>
    intro x R o4 hx h1
    have k1 := hQ R (fun x' y' q1 q2 => h1 x' y' (by omega) q2)
    rw [P_P_useSpeed_2]
    simp only [m_P_useSpeed, b_P_useSpeed_0, P_P_useSpeed_48, b_P_useSpeed_48, P_P_useSpeed_49, b_P_useSpeed_49, P_P_useSpeed_56, b_P_useSpeed_56, P_P_useSpeed_62, b_P_useSpeed_62, wp_aln0, wp_aln1, wp_bast, wp_bipush, wp_cv1, wp_cv2, wp_cv3, wp_cv4, wp_cv5, wp_cv6, wp_cv7, wp_goto, wp_iadd, wp_icge, wp_icgt, wp_iconst, wp_il4, wp_iln2, wp_iln3, wp_imul, wp_inc3, wp_inc4, wp_is4, wp_isn3, wp_nop, wp_ret, qsc_kd, qsc_k1, qsc_l1, qsc_gf1, qsc_k2, qsc_l2, qsc_gf2, qsc_k3, qsc_l3, qsc_gf3, qsc_k4, qsc_l4, qsc_gf4, qsc_k5, qsc_l5, qsc_gf6, qsc_k6, qsc_l6, qsc_gf7, qsc_k7, qsc_l7, qsc_gf9, qsc_k8, qsc_l8, qsc_gf10, qsc_gf0, qsc_pf0, qsc_gf5, qsc_pf5, qsc_gf8, qsc_pf8, qpl_kd, qpl_k1, qpl_l1, qpl_gf0, qpl_k2, qpl_l2, qpl_gf1, qpl_k3, qpl_l3, qpl_gf2, qpl_k4, qpl_l4, qpl_gf3, qpl_k5, qpl_l5, qpl_gf4, qpl_k6, qpl_l6, qpl_gf5, qpl_gf6, qpl_pf6, qpl_gf7, qpl_pf7, qpl_gf8, qpl_pf8, wrI_row, cpI_row, row_s, row_n, row_ss, row_sw, upd_s, upd_n, ad_inj, ad_z, ad_z2, Nat.reduceEqDiff, reduceCtorEq, List.cons_append, List.nil_append, Option.toList_some, Option.toList_none, Int.toNat_natCast, List.length_cons, List.length_nil, Int.cast_ofNat_Int, Nat.reduceAdd, Nat.reduceLeDiff, Nat.reduceLT, Nat.reduceMul, Int.reduceAdd, Int.reduceSub, Int.reduceMul, Int.reduceNeg, Int.reduceLT, Int.reduceLE, Int.reduceEq, Int.reduceToNat, eq_self, true_and, and_true, true_or, or_true, false_or, or_false, if_true, if_false, not_true_eq_false, not_false_eq_true, and_self, ne_eq, b_P_useSpeed_2, hA, hS, hM]
    (repeat' (first | apply And.intro | split)) <;> first | omega | exact k1
  | succ d ih =>
    intro x R o4 hx h1
    have k1 := useSpeed_inner (zt := zt) (Q := Q) hS hA hd hW hM hsp (x := x) (by omega) (fun R o q => ih (x + 1) R o (by omega) q) (g a 0).toNat 0 R (by omega) h1 (fun y' q => by omega)
    rw [P_P_useSpeed_2]
    simp only [m_P_useSpeed, b_P_useSpeed_0, P_P_useSpeed_48, b_P_useSpeed_48, P_P_useSpeed_49, b_P_useSpeed_49, P_P_useSpeed_56, b_P_useSpeed_56, P_P_useSpeed_62, b_P_useSpeed_62, wp_aln0, wp_aln1, wp_bast, wp_bipush, wp_cv1, wp_cv2, wp_cv3, wp_cv4, wp_cv5, wp_cv6, wp_cv7, wp_goto, wp_iadd, wp_icge, wp_icgt, wp_iconst, wp_il4, wp_iln2, wp_iln3, wp_imul, wp_inc3, wp_inc4, wp_is4, wp_isn3, wp_nop, wp_ret, qsc_kd, qsc_k1, qsc_l1, qsc_gf1, qsc_k2, qsc_l2, qsc_gf2, qsc_k3, qsc_l3, qsc_gf3, qsc_k4, qsc_l4, qsc_gf4, qsc_k5, qsc_l5, qsc_gf6, qsc_k6, qsc_l6, qsc_gf7, qsc_k7, qsc_l7, qsc_gf9, qsc_k8, qsc_l8, qsc_gf10, qsc_gf0, qsc_pf0, qsc_gf5, qsc_pf5, qsc_gf8, qsc_pf8, qpl_kd, qpl_k1, qpl_l1, qpl_gf0, qpl_k2, qpl_l2, qpl_gf1, qpl_k3, qpl_l3, qpl_gf2, qpl_k4, qpl_l4, qpl_gf3, qpl_k5, qpl_l5, qpl_gf4, qpl_k6, qpl_l6, qpl_gf5, qpl_gf6, qpl_pf6, qpl_gf7, qpl_pf7, qpl_gf8, qpl_pf8, wrI_row, cpI_row, row_s, row_n, row_ss, row_sw, upd_s, upd_n, ad_inj, ad_z, ad_z2, Nat.reduceEqDiff, reduceCtorEq, List.cons_append, List.nil_append, Option.toList_some, Option.toList_none, Int.toNat_natCast, List.length_cons, List.length_nil, Int.cast_ofNat_Int, Nat.reduceAdd, Nat.reduceLeDiff, Nat.reduceLT, Nat.reduceMul, Int.reduceAdd, Int.reduceSub, Int.reduceMul, Int.reduceNeg, Int.reduceLT, Int.reduceLE, Int.reduceEq, Int.reduceToNat, eq_self, true_and, and_true, true_or, or_true, false_or, or_false, if_true, if_false, not_true_eq_false, not_false_eq_true, and_self, ne_eq, b_P_useSpeed_2, hA, hS, hM]
    (repeat' (first | apply And.intro | split)) <;> first | omega | exact k1
theorem useSpeed_ok (hS : isSc ρ a) (hA : isPl ρ w) (hd : a + 9 ≤ w ∨ w + 9 ≤ a) (hW : WFV (-99) (vwC g a)) (hM : g w 7 = g a 0) {sp : Int} (hsp : -1000 ≤ sp ∧ sp ≤ 1000) {Q : Option AV → Sto → Prop}
    (hQ : ∀ R : Nat → Int, (∀ x y : Nat, (x : Int) < g a 0 → (y : Int) < g a 0 → R (x * 8 + y) = if clsV (vwC g a) sp x y = true then 1 else 0) → Q none (setRow g (ad w 3) R, ρ)) : WpM zt 6 [AR w, AR a, AI sp] (g, ρ) Q := by
  have hM8 := w_M hW
  have k1 := useSpeed_loop (zt := zt) hS hA hd hW hM hsp hQ (g a 0).toNat 0 (g (ad w 3)) none (by omega) (fun x' y' q1 q2 => by omega)
  rw [row_id] at k1
  simp only [m_P_useSpeed, b_P_useSpeed_0, P_P_useSpeed_48, b_P_useSpeed_48, P_P_useSpeed_49, b_P_useSpeed_49, P_P_useSpeed_56, b_P_useSpeed_56, P_P_useSpeed_62, b_P_useSpeed_62, wp_aln0, wp_aln1, wp_bast, wp_bipush, wp_cv1, wp_cv2, wp_cv3, wp_cv4, wp_cv5, wp_cv6, wp_cv7, wp_goto, wp_iadd, wp_icge, wp_icgt, wp_iconst, wp_il4, wp_iln2, wp_iln3, wp_imul, wp_inc3, wp_inc4, wp_is4, wp_isn3, wp_nop, wp_ret, qsc_kd, qsc_k1, qsc_l1, qsc_gf1, qsc_k2, qsc_l2, qsc_gf2, qsc_k3, qsc_l3, qsc_gf3, qsc_k4, qsc_l4, qsc_gf4, qsc_k5, qsc_l5, qsc_gf6, qsc_k6, qsc_l6, qsc_gf7, qsc_k7, qsc_l7, qsc_gf9, qsc_k8, qsc_l8, qsc_gf10, qsc_gf0, qsc_pf0, qsc_gf5, qsc_pf5, qsc_gf8, qsc_pf8, qpl_kd, qpl_k1, qpl_l1, qpl_gf0, qpl_k2, qpl_l2, qpl_gf1, qpl_k3, qpl_l3, qpl_gf2, qpl_k4, qpl_l4, qpl_gf3, qpl_k5, qpl_l5, qpl_gf4, qpl_k6, qpl_l6, qpl_gf5, qpl_gf6, qpl_pf6, qpl_gf7, qpl_pf7, qpl_gf8, qpl_pf8, wrI_row, cpI_row, row_s, row_n, row_ss, row_sw, upd_s, upd_n, ad_inj, ad_z, ad_z2, Nat.reduceEqDiff, reduceCtorEq, List.cons_append, List.nil_append, Option.toList_some, Option.toList_none, Int.toNat_natCast, List.length_cons, List.length_nil, Int.cast_ofNat_Int, Nat.reduceAdd, Nat.reduceLeDiff, Nat.reduceLT, Nat.reduceMul, Int.reduceAdd, Int.reduceSub, Int.reduceMul, Int.reduceNeg, Int.reduceLT, Int.reduceLE, Int.reduceEq, Int.reduceToNat, eq_self, true_and, and_true, true_or, or_true, false_or, or_false, if_true, if_false, not_true_eq_false, not_false_eq_true, and_self, ne_eq, hA, hS]
  exact k1
theorem fillCosts_loop (hS : isSc ρ a) (hA : isPl ρ w) (hd : a + 9 ≤ w ∨ w + 9 ≤ a) (hW : WFV (-99) (vwC g a)) (hM : g w 7 = g a 0) {f : Nat} (hf : (f : Int) < g a 8) {kd : Int} (hkd : kd = kndV (vwC g a) f) {Q : Option AV → Sto → Prop}
    (hQ : ∀ R : Nat → Int, (∀ m : Nat, (m : Int) < g a 0 → R (f * 8 + m) = cstV (-99) (vwC g a) f m) → (∀ y, y < f * 8 → R y = g (ad w 2) y) → Q none (setRow g (ad w 2) R, ρ)) :
    ∀ (d n : Nat) (R : Nat → Int), (n : Int) + d = g a 0 → (∀ m : Nat, m < n → R (f * 8 + m) = wrgV (vwC g a) kd m) → (∀ y, y < f * 8 → R y = g (ad w 2) y) → Wp zt 5 (P 5 3) [some (AR w), some (AR a), some (AI f), some (AI kd), some (AI n)] [] (setRow g (ad w 2) R, ρ) Q := by
  have hM8 := w_M hW
  have hF := w_F hW
  have hkb := kndV_b hW (f := f) ⟨by omega, hf⟩
  rw [← hkd] at hkb
  have hpn := w_pn hW (j := f) hf
  intro d
  induction d with
  | zero =>
    intro n R hn h1 h2
    have e7 : setRow g (ad w 2) R (ad a 7) = g (ad a 7) := row_n (by unfold ad; omega)
    have hbo := barOthers_ok (zt := zt) (ρ := ρ) (g := setRow g (ad w 2) R) hA (M := (g a 0).toNat) (by rw [row_n (by unfold ad; omega)]; omega) (by omega) (f := f) (by omega) (x := g (ad a 7) f) (by omega)
    rw [row_s, row_ss] at hbo
    by_cases hp : g (ad a 7) f = -99
    · have k1 := hQ R (fun m q => by
        rw [cstV_p (n := -99) (V := vwC g a) hf q (Or.inl hp), ← hkd]
        exact h1 m (by omega)) h2
      rw [P_P_fillCosts_3]
      simp only [m_P_fillCosts, b_P_fillCosts_0, P_P_fillCosts_37, b_P_fillCosts_37, P_P_fillCosts_59, b_P_fillCosts_59, wp_aln0, wp_aln1, wp_bipush, wp_cv1, wp_cv2, wp_cv3, wp_cv4, wp_cv5, wp_cv6, wp_cv7, wp_goto, wp_iadd, wp_iald, wp_iast, wp_iceq, wp_icge, wp_iconst, wp_il4, wp_iln2, wp_iln3, wp_imul, wp_inc4, wp_is4, wp_nop, wp_ret, qsc_kd, qsc_k1, qsc_l1, qsc_gf1, qsc_k2, qsc_l2, qsc_gf2, qsc_k3, qsc_l3, qsc_gf3, qsc_k4, qsc_l4, qsc_gf4, qsc_k5, qsc_l5, qsc_gf6, qsc_k6, qsc_l6, qsc_gf7, qsc_k7, qsc_l7, qsc_gf9, qsc_k8, qsc_l8, qsc_gf10, qsc_gf0, qsc_pf0, qsc_gf5, qsc_pf5, qsc_gf8, qsc_pf8, qpl_kd, qpl_k1, qpl_l1, qpl_gf0, qpl_k2, qpl_l2, qpl_gf1, qpl_k3, qpl_l3, qpl_gf2, qpl_k4, qpl_l4, qpl_gf3, qpl_k5, qpl_l5, qpl_gf4, qpl_k6, qpl_l6, qpl_gf5, qpl_gf6, qpl_pf6, qpl_gf7, qpl_pf7, qpl_gf8, qpl_pf8, wrI_row, cpI_row, row_s, row_n, row_ss, row_sw, upd_s, upd_n, ad_inj, ad_z, ad_z2, Nat.reduceEqDiff, reduceCtorEq, List.cons_append, List.nil_append, Option.toList_some, Option.toList_none, Int.toNat_natCast, List.length_cons, List.length_nil, Int.cast_ofNat_Int, Nat.reduceAdd, Nat.reduceLeDiff, Nat.reduceLT, Nat.reduceMul, Int.reduceAdd, Int.reduceSub, Int.reduceMul, Int.reduceNeg, Int.reduceLT, Int.reduceLE, Int.reduceEq, Int.reduceToNat, eq_self, true_and, and_true, true_or, or_true, false_or, or_false, if_true, if_false, not_true_eq_false, not_false_eq_true, and_self, ne_eq, b_P_fillCosts_3, hA, hS, hM, e7, hp]
      (repeat' (first | apply And.intro | split)) <;> first | omega | exact k1
    · have k1 := hQ (barR R f (g (ad a 7) f) (g a 0).toNat) (fun m q => by
        by_cases e : g (ad a 7) f = m
        · rw [cstV_p (n := -99) (V := vwC g a) hf q (Or.inr e), ← hkd]
          unfold barR
          rw [if_neg (by omega)]
          exact h1 m (by omega)
        · rw [cstV_n (n := -99) (V := vwC g a) hf q (fun z => z.elim hp e)]
          unfold barR
          rw [if_pos (by omega)]) (fun y q => by
        unfold barR
        rw [if_neg (by omega)]
        exact h2 y q)
      rw [P_P_fillCosts_3]
      simp only [m_P_fillCosts, b_P_fillCosts_0, P_P_fillCosts_37, b_P_fillCosts_37, P_P_fillCosts_59, b_P_fillCosts_59, wp_aln0, wp_aln1, wp_bipush, wp_cv1, wp_cv2, wp_cv3, wp_cv4, wp_cv5, wp_cv6, wp_cv7, wp_goto, wp_iadd, wp_iald, wp_iast, wp_iceq, wp_icge, wp_iconst, wp_il4, wp_iln2, wp_iln3, wp_imul, wp_inc4, wp_is4, wp_nop, wp_ret, qsc_kd, qsc_k1, qsc_l1, qsc_gf1, qsc_k2, qsc_l2, qsc_gf2, qsc_k3, qsc_l3, qsc_gf3, qsc_k4, qsc_l4, qsc_gf4, qsc_k5, qsc_l5, qsc_gf6, qsc_k6, qsc_l6, qsc_gf7, qsc_k7, qsc_l7, qsc_gf9, qsc_k8, qsc_l8, qsc_gf10, qsc_gf0, qsc_pf0, qsc_gf5, qsc_pf5, qsc_gf8, qsc_pf8, qpl_kd, qpl_k1, qpl_l1, qpl_gf0, qpl_k2, qpl_l2, qpl_gf1, qpl_k3, qpl_l3, qpl_gf2, qpl_k4, qpl_l4, qpl_gf3, qpl_k5, qpl_l5, qpl_gf4, qpl_k6, qpl_l6, qpl_gf5, qpl_gf6, qpl_pf6, qpl_gf7, qpl_pf7, qpl_gf8, qpl_pf8, wrI_row, cpI_row, row_s, row_n, row_ss, row_sw, upd_s, upd_n, ad_inj, ad_z, ad_z2, Nat.reduceEqDiff, reduceCtorEq, List.cons_append, List.nil_append, Option.toList_some, Option.toList_none, Int.toNat_natCast, List.length_cons, List.length_nil, Int.cast_ofNat_Int, Nat.reduceAdd, Nat.reduceLeDiff, Nat.reduceLT, Nat.reduceMul, Int.reduceAdd, Int.reduceSub, Int.reduceMul, Int.reduceNeg, Int.reduceLT, Int.reduceLE, Int.reduceEq, Int.reduceToNat, eq_self, true_and, and_true, true_or, or_true, false_or, or_false, if_true, if_false, not_true_eq_false, not_false_eq_true, and_self, ne_eq, b_P_fillCosts_3, hA, hS, hM, e7, hp, hbo]
      (repeat' (first | apply And.intro | split)) <;> first | omega | exact k1
  | succ d ih =>
    intro n R hn h1 h2
    have hv : vwC (setRow g (ad w 2) R) a = vwC g a := vwC_kept (fun x q1 q2 => row_n (by unfold ad; omega))
    have ea : setRow g (ad w 2) R a = g a := row_n (by unfold ad; omega)
    have hwr := wrongOf_ok (zt := zt) (g := setRow g (ad w 2) R) hS (by rw [hv]; exact hW) (kd := kd) (m := n) hkb.1 hkb.2 (by omega) (by rw [ea]; omega)
    simp only [hv, Int.toNat_natCast] at hwr
    have e2 : ((f : Int) * 8 + (n : Int)).toNat = f * 8 + n := by omega
    have i1 := ih (n + 1) (upd1 R (f * 8 + n) (wrgV (vwC g a) kd n)) (by omega) (fun m q => by
        by_cases e : m = n
        · subst e
          rw [upd_s]
        · rw [upd_n (by omega)]
          exact h1 m (by omega)) (fun y q => by
        rw [upd_n (by omega)]
        exact h2 y q)
    rw [P_P_fillCosts_3]
    simp only [m_P_fillCosts, b_P_fillCosts_0, P_P_fillCosts_37, b_P_fillCosts_37, P_P_fillCosts_59, b_P_fillCosts_59, wp_aln0, wp_aln1, wp_bipush, wp_cv1, wp_cv2, wp_cv3, wp_cv4, wp_cv5, wp_cv6, wp_cv7, wp_goto, wp_iadd, wp_iald, wp_iast, wp_iceq, wp_icge, wp_iconst, wp_il4, wp_iln2, wp_iln3, wp_imul, wp_inc4, wp_is4, wp_nop, wp_ret, qsc_kd, qsc_k1, qsc_l1, qsc_gf1, qsc_k2, qsc_l2, qsc_gf2, qsc_k3, qsc_l3, qsc_gf3, qsc_k4, qsc_l4, qsc_gf4, qsc_k5, qsc_l5, qsc_gf6, qsc_k6, qsc_l6, qsc_gf7, qsc_k7, qsc_l7, qsc_gf9, qsc_k8, qsc_l8, qsc_gf10, qsc_gf0, qsc_pf0, qsc_gf5, qsc_pf5, qsc_gf8, qsc_pf8, qpl_kd, qpl_k1, qpl_l1, qpl_gf0, qpl_k2, qpl_l2, qpl_gf1, qpl_k3, qpl_l3, qpl_gf2, qpl_k4, qpl_l4, qpl_gf3, qpl_k5, qpl_l5, qpl_gf4, qpl_k6, qpl_l6, qpl_gf5, qpl_gf6, qpl_pf6, qpl_gf7, qpl_pf7, qpl_gf8, qpl_pf8, wrI_row, cpI_row, row_s, row_n, row_ss, row_sw, upd_s, upd_n, ad_inj, ad_z, ad_z2, Nat.reduceEqDiff, reduceCtorEq, List.cons_append, List.nil_append, Option.toList_some, Option.toList_none, Int.toNat_natCast, List.length_cons, List.length_nil, Int.cast_ofNat_Int, Nat.reduceAdd, Nat.reduceLeDiff, Nat.reduceLT, Nat.reduceMul, Int.reduceAdd, Int.reduceSub, Int.reduceMul, Int.reduceNeg, Int.reduceLT, Int.reduceLE, Int.reduceEq, Int.reduceToNat, eq_self, true_and, and_true, true_or, or_true, false_or, or_false, if_true, if_false, not_true_eq_false, not_false_eq_true, and_self, ne_eq, b_P_fillCosts_3, hA, hS, hM, hwr, e2]
    (repeat' (first | apply And.intro | split)) <;> first | omega | exact i1
theorem fillCosts_ok (hS : isSc ρ a) (hA : isPl ρ w) (hd : a + 9 ≤ w ∨ w + 9 ≤ a) (hW : WFV (-99) (vwC g a)) (hM : g w 7 = g a 0) {f : Nat} (hf : (f : Int) < g a 8) {kd : Int} (hkd : kd = kndV (vwC g a) f) {Q : Option AV → Sto → Prop}
    (hQ : ∀ R : Nat → Int, (∀ m : Nat, (m : Int) < g a 0 → R (f * 8 + m) = cstV (-99) (vwC g a) f m) → (∀ y, y < f * 8 → R y = g (ad w 2) y) → Q none (setRow g (ad w 2) R, ρ)) : WpM zt 5 [AR w, AR a, AI f, AI kd] (g, ρ) Q := by
  have hM8 := w_M hW
  have k1 := fillCosts_loop (zt := zt) hS hA hd hW hM hf hkd hQ (g a 0).toNat 0 (g (ad w 2)) (by omega) (fun m q => by omega) (fun y q => rfl)
  rw [row_id] at k1
  simp only [m_P_fillCosts, b_P_fillCosts_0, P_P_fillCosts_37, b_P_fillCosts_37, P_P_fillCosts_59, b_P_fillCosts_59, wp_aln0, wp_aln1, wp_bipush, wp_cv1, wp_cv2, wp_cv3, wp_cv4, wp_cv5, wp_cv6, wp_cv7, wp_goto, wp_iadd, wp_iald, wp_iast, wp_iceq, wp_icge, wp_iconst, wp_il4, wp_iln2, wp_iln3, wp_imul, wp_inc4, wp_is4, wp_nop, wp_ret, qsc_kd, qsc_k1, qsc_l1, qsc_gf1, qsc_k2, qsc_l2, qsc_gf2, qsc_k3, qsc_l3, qsc_gf3, qsc_k4, qsc_l4, qsc_gf4, qsc_k5, qsc_l5, qsc_gf6, qsc_k6, qsc_l6, qsc_gf7, qsc_k7, qsc_l7, qsc_gf9, qsc_k8, qsc_l8, qsc_gf10, qsc_gf0, qsc_pf0, qsc_gf5, qsc_pf5, qsc_gf8, qsc_pf8, qpl_kd, qpl_k1, qpl_l1, qpl_gf0, qpl_k2, qpl_l2, qpl_gf1, qpl_k3, qpl_l3, qpl_gf2, qpl_k4, qpl_l4, qpl_gf3, qpl_k5, qpl_l5, qpl_gf4, qpl_k6, qpl_l6, qpl_gf5, qpl_gf6, qpl_pf6, qpl_gf7, qpl_pf7, qpl_gf8, qpl_pf8, wrI_row, cpI_row, row_s, row_n, row_ss, row_sw, upd_s, upd_n, ad_inj, ad_z, ad_z2, Nat.reduceEqDiff, reduceCtorEq, List.cons_append, List.nil_append, Option.toList_some, Option.toList_none, Int.toNat_natCast, List.length_cons, List.length_nil, Int.cast_ofNat_Int, Nat.reduceAdd, Nat.reduceLeDiff, Nat.reduceLT, Nat.reduceMul, Int.reduceAdd, Int.reduceSub, Int.reduceMul, Int.reduceNeg, Int.reduceLT, Int.reduceLE, Int.reduceEq, Int.reduceToNat, eq_self, true_and, and_true, true_or, or_true, false_or, or_false, if_true, if_false, not_true_eq_false, not_false_eq_true, and_self, ne_eq, hA, hS]
  exact k1
/-- the planner's object as far as frame f -/
def prI (g : Nat → Nat → Int) (a w f : Nat) (g1 : Nat → Nat → Int) : Prop := (∀ x, (x < w ∨ w + 7 ≤ x) → g1 x = g x) ∧ g1 w 6 = g a 8 ∧ g1 w 7 = g a 0 ∧ g1 w 8 = g (ad a 4) 1 ∧ (∀ x y : Nat, (x : Int) < g a 0 → (y : Int) < g a 0 → g1 (ad w 3) (x * 8 + y) = if clsV (vwC g a) (g (ad a 4) 0) x y = true then 1 else 0) ∧ ∀ f' m : Nat, f' < f → (m : Int) < g a 0 → g1 (ad w 2) (f' * 8 + m) = cstV (-99) (vwC g a) f' m
theorem prepare_inner (hS : isSc ρ a) (hA : isPl ρ w) (hd : a + 9 ≤ w ∨ w + 9 ≤ a) (hW : WFV (-99) (vwC g a)) {s : Nat} (hs : (s : Int) < g a 5) (hle : sumL (vwC g a) (s + 1) ≤ g a 8) {Q : Option AV → Sto → Prop}
    (kk : ∀ (g2 : Nat → Nat → Int) (o : Option AV) (f : Nat), (f : Int) = sumL (vwC g a) (s + 1) → prI g a w f g2 → Wp zt 4 (P 4 41) [some (AR w), some (AR a), some (AI f), some (AI ((s : Int) + 1)), o] [] (g2, ρ) Q) :
    ∀ (d f : Nat) (g1 : Nat → Nat → Int), (f : Int) + d = sumL (vwC g a) (s + 1) → sumL (vwC g a) s ≤ f → prI g a w f g1 → Wp zt 4 (P 4 66) [some (AR w), some (AR a), some (AI f), some (AI s), some (AI (sumL (vwC g a) (s + 1)))] [] (g1, ρ) Q := by
  have hF := w_F hW
  have hG := w_G hW
  have hkb := w_kd hW hs
  intro d
  induction d with
  | zero =>
    intro f g1 h1 h2 hI
    have k1 := kk g1 (some (AI (sumL (vwC g a) (s + 1)))) f (by omega) hI
    rw [P_P_prepare_66]
    simp only [m_P_prepare, b_P_prepare_0, P_P_prepare_90, b_P_prepare_90, P_P_prepare_96, b_P_prepare_96, wp_abs, wp_aln0, wp_aln1, wp_copy, wp_cs1, wp_cs2, wp_cs3, wp_cs4, wp_cs5, wp_cs6, wp_cs7, wp_cv1, wp_cv2, wp_cv3, wp_cv4, wp_cv5, wp_cv6, wp_cv7, wp_goto, wp_iadd, wp_iald, wp_icge, wp_iconst, wp_il4, wp_iln2, wp_iln3, wp_inc2, wp_inc3, wp_is4, wp_isn2, wp_isn3, wp_max, wp_min, wp_nop, wp_ret, qsc_kd, qsc_k1, qsc_l1, qsc_gf1, qsc_k2, qsc_l2, qsc_gf2, qsc_k3, qsc_l3, qsc_gf3, qsc_k4, qsc_l4, qsc_gf4, qsc_k5, qsc_l5, qsc_gf6, qsc_k6, qsc_l6, qsc_gf7, qsc_k7, qsc_l7, qsc_gf9, qsc_k8, qsc_l8, qsc_gf10, qsc_gf0, qsc_pf0, qsc_gf5, qsc_pf5, qsc_gf8, qsc_pf8, qpl_kd, qpl_k1, qpl_l1, qpl_gf0, qpl_k2, qpl_l2, qpl_gf1, qpl_k3, qpl_l3, qpl_gf2, qpl_k4, qpl_l4, qpl_gf3, qpl_k5, qpl_l5, qpl_gf4, qpl_k6, qpl_l6, qpl_gf5, qpl_gf6, qpl_pf6, qpl_gf7, qpl_pf7, qpl_gf8, qpl_pf8, wrI_row, cpI_row, row_s, row_n, row_ss, row_sw, upd_s, upd_n, ad_inj, ad_z, ad_z2, Nat.reduceEqDiff, reduceCtorEq, List.cons_append, List.nil_append, Option.toList_some, Option.toList_none, Int.toNat_natCast, List.length_cons, List.length_nil, Int.cast_ofNat_Int, Nat.reduceAdd, Nat.reduceLeDiff, Nat.reduceLT, Nat.reduceMul, Int.reduceAdd, Int.reduceSub, Int.reduceMul, Int.reduceNeg, Int.reduceLT, Int.reduceLE, Int.reduceEq, Int.reduceToNat, eq_self, true_and, and_true, true_or, or_true, false_or, or_false, if_true, if_false, not_true_eq_false, not_false_eq_true, and_self, ne_eq, b_P_prepare_66, hS, hA]
    (repeat' (first | apply And.intro | split)) <;> first | omega | exact k1
  | succ d ih =>
    intro f g1 h1 h2 hI
    obtain ⟨j1, j2, j3, j4, j5, j6⟩ := id hI
    have hv : vwC g1 a = vwC g a := vwC_kept (fun x q1 q2 => j1 x (by omega))
    have ea : g1 a = g a := j1 a (by omega)
    have e5 : g1 (ad a 5) = g (ad a 5) := j1 _ (by unfold ad; omega)
    have hk : g (ad a 5) s = kndV (vwC g1 a) f := by
      rw [hv]
      unfold kndV
      rw [segV_at hW hs h2 (by omega)]
      rfl
    have hM8 := w_M hW
    rw [P_P_prepare_66]
    simp only [m_P_prepare, b_P_prepare_0, P_P_prepare_90, b_P_prepare_90, P_P_prepare_96, b_P_prepare_96, wp_abs, wp_aln0, wp_aln1, wp_copy, wp_cs1, wp_cs2, wp_cs3, wp_cs4, wp_cs5, wp_cs6, wp_cs7, wp_cv1, wp_cv2, wp_cv3, wp_cv4, wp_cv5, wp_cv6, wp_cv7, wp_goto, wp_iadd, wp_iald, wp_icge, wp_iconst, wp_il4, wp_iln2, wp_iln3, wp_inc2, wp_inc3, wp_is4, wp_isn2, wp_isn3, wp_max, wp_min, wp_nop, wp_ret, qsc_kd, qsc_k1, qsc_l1, qsc_gf1, qsc_k2, qsc_l2, qsc_gf2, qsc_k3, qsc_l3, qsc_gf3, qsc_k4, qsc_l4, qsc_gf4, qsc_k5, qsc_l5, qsc_gf6, qsc_k6, qsc_l6, qsc_gf7, qsc_k7, qsc_l7, qsc_gf9, qsc_k8, qsc_l8, qsc_gf10, qsc_gf0, qsc_pf0, qsc_gf5, qsc_pf5, qsc_gf8, qsc_pf8, qpl_kd, qpl_k1, qpl_l1, qpl_gf0, qpl_k2, qpl_l2, qpl_gf1, qpl_k3, qpl_l3, qpl_gf2, qpl_k4, qpl_l4, qpl_gf3, qpl_k5, qpl_l5, qpl_gf4, qpl_k6, qpl_l6, qpl_gf5, qpl_gf6, qpl_pf6, qpl_gf7, qpl_pf7, qpl_gf8, qpl_pf8, wrI_row, cpI_row, row_s, row_n, row_ss, row_sw, upd_s, upd_n, ad_inj, ad_z, ad_z2, Nat.reduceEqDiff, reduceCtorEq, List.cons_append, List.nil_append, Option.toList_some, Option.toList_none, Int.toNat_natCast, List.length_cons, List.length_nil, Int.cast_ofNat_Int, Nat.reduceAdd, Nat.reduceLeDiff, Nat.reduceLT, Nat.reduceMul, Int.reduceAdd, Int.reduceSub, Int.reduceMul, Int.reduceNeg, Int.reduceLT, Int.reduceLE, Int.reduceEq, Int.reduceToNat, eq_self, true_and, and_true, true_or, or_true, false_or, or_false, if_true, if_false, not_true_eq_false, not_false_eq_true, and_self, ne_eq, b_P_prepare_66, hS, hA, e5]
    (repeat' (first | apply And.intro | split)) <;> first | omega | skip
    refine fillCosts_ok hS hA hd (by rw [hv]; exact hW) (by rw [j3, ea]) (f := f) (by rw [ea]; omega) hk (fun R q1 q2 => ?_)
    have k1 := ih (f + 1) (setRow g1 (ad w 2) R) (by omega) (by omega) (by
      refine ⟨fun x q => ?_, ?_, ?_, ?_, ?_, fun f' m z1 z2 => ?_⟩
      · rw [row_n (by unfold ad; omega)]
        exact j1 x q
      · rw [row_n (by unfold ad; omega)]
        exact j2
      · rw [row_n (by unfold ad; omega)]
        exact j3
      · rw [row_n (by unfold ad; omega)]
        exact j4
      · rw [row_n (by unfold ad; omega)]
        exact j5
      · rw [row_s]
        rw [hv, ea] at q1
        by_cases e : f' = f
        · subst e
          exact q1 m z2
        · rw [q2 _ (by omega)]
          exact j6 f' m (by omega) z2)
    simp only [m_P_prepare, b_P_prepare_0, P_P_prepare_90, b_P_prepare_90, P_P_prepare_96, b_P_prepare_96, wp_abs, wp_aln0, wp_aln1, wp_copy, wp_cs1, wp_cs2, wp_cs3, wp_cs4, wp_cs5, wp_cs6, wp_cs7, wp_cv1, wp_cv2, wp_cv3, wp_cv4, wp_cv5, wp_cv6, wp_cv7, wp_goto, wp_iadd, wp_iald, wp_icge, wp_iconst, wp_il4, wp_iln2, wp_iln3, wp_inc2, wp_inc3, wp_is4, wp_isn2, wp_isn3, wp_max, wp_min, wp_nop, wp_ret, qsc_kd, qsc_k1, qsc_l1, qsc_gf1, qsc_k2, qsc_l2, qsc_gf2, qsc_k3, qsc_l3, qsc_gf3, qsc_k4, qsc_l4, qsc_gf4, qsc_k5, qsc_l5, qsc_gf6, qsc_k6, qsc_l6, qsc_gf7, qsc_k7, qsc_l7, qsc_gf9, qsc_k8, qsc_l8, qsc_gf10, qsc_gf0, qsc_pf0, qsc_gf5, qsc_pf5, qsc_gf8, qsc_pf8, qpl_kd, qpl_k1, qpl_l1, qpl_gf0, qpl_k2, qpl_l2, qpl_gf1, qpl_k3, qpl_l3, qpl_gf2, qpl_k4, qpl_l4, qpl_gf3, qpl_k5, qpl_l5, qpl_gf4, qpl_k6, qpl_l6, qpl_gf5, qpl_gf6, qpl_pf6, qpl_gf7, qpl_pf7, qpl_gf8, qpl_pf8, wrI_row, cpI_row, row_s, row_n, row_ss, row_sw, upd_s, upd_n, ad_inj, ad_z, ad_z2, Nat.reduceEqDiff, reduceCtorEq, List.cons_append, List.nil_append, Option.toList_some, Option.toList_none, Int.toNat_natCast, List.length_cons, List.length_nil, Int.cast_ofNat_Int, Nat.reduceAdd, Nat.reduceLeDiff, Nat.reduceLT, Nat.reduceMul, Int.reduceAdd, Int.reduceSub, Int.reduceMul, Int.reduceNeg, Int.reduceLT, Int.reduceLE, Int.reduceEq, Int.reduceToNat, eq_self, true_and, and_true, true_or, or_true, false_or, or_false, if_true, if_false, not_true_eq_false, not_false_eq_true, and_self, ne_eq, hS, hA]
    (repeat' (first | apply And.intro | split)) <;> first | omega | exact k1
theorem prepare_loop (hS : isSc ρ a) (hA : isPl ρ w) (hd : a + 9 ≤ w ∨ w + 9 ≤ a) (hW : WFV (-99) (vwC g a)) {Q : Option AV → Sto → Prop} (hQ : ∀ g2 : Nat → Nat → Int, prI g a w (g a 8).toNat g2 → Q none (g2, ρ)) :
    ∀ (d s f : Nat) (g1 : Nat → Nat → Int) (o : Option AV), (s : Int) + d = g a 5 → (f : Int) = sumL (vwC g a) s → prI g a w f g1 → Wp zt 4 (P 4 41) [some (AR w), some (AR a), some (AI f), some (AI s), o] [] (g1, ρ) Q := by
  have hF := w_F hW
  have hG := w_G hW
  intro d
  induction d with
  | zero =>
    intro s f g1 o h1 h2 hI
    have e : (g a 8).toNat = f := by
      have := w_sum hW
      rw [show (g a 5).toNat = s by omega] at this
      omega
    rw [e] at hQ
    have k1 := hQ g1 hI
    have e0 : g1 a = g a := hI.1 _ (by omega)
    rw [P_P_prepare_41]
    simp only [m_P_prepare, b_P_prepare_0, P_P_prepare_90, b_P_prepare_90, P_P_prepare_96, b_P_prepare_96, wp_abs, wp_aln0, wp_aln1, wp_copy, wp_cs1, wp_cs2, wp_cs3, wp_cs4, wp_cs5, wp_cs6, wp_cs7, wp_cv1, wp_cv2, wp_cv3, wp_cv4, wp_cv5, wp_cv6, wp_cv7, wp_goto, wp_iadd, wp_iald, wp_icge, wp_iconst, wp_il4, wp_iln2, wp_iln3, wp_inc2, wp_inc3, wp_is4, wp_isn2, wp_isn3, wp_max, wp_min, wp_nop, wp_ret, qsc_kd, qsc_k1, qsc_l1, qsc_gf1, qsc_k2, qsc_l2, qsc_gf2, qsc_k3, qsc_l3, qsc_gf3, qsc_k4, qsc_l4, qsc_gf4, qsc_k5, qsc_l5, qsc_gf6, qsc_k6, qsc_l6, qsc_gf7, qsc_k7, qsc_l7, qsc_gf9, qsc_k8, qsc_l8, qsc_gf10, qsc_gf0, qsc_pf0, qsc_gf5, qsc_pf5, qsc_gf8, qsc_pf8, qpl_kd, qpl_k1, qpl_l1, qpl_gf0, qpl_k2, qpl_l2, qpl_gf1, qpl_k3, qpl_l3, qpl_gf2, qpl_k4, qpl_l4, qpl_gf3, qpl_k5, qpl_l5, qpl_gf4, qpl_k6, qpl_l6, qpl_gf5, qpl_gf6, qpl_pf6, qpl_gf7, qpl_pf7, qpl_gf8, qpl_pf8, wrI_row, cpI_row, row_s, row_n, row_ss, row_sw, upd_s, upd_n, ad_inj, ad_z, ad_z2, Nat.reduceEqDiff, reduceCtorEq, List.cons_append, List.nil_append, Option.toList_some, Option.toList_none, Int.toNat_natCast, List.length_cons, List.length_nil, Int.cast_ofNat_Int, Nat.reduceAdd, Nat.reduceLeDiff, Nat.reduceLT, Nat.reduceMul, Int.reduceAdd, Int.reduceSub, Int.reduceMul, Int.reduceNeg, Int.reduceLT, Int.reduceLE, Int.reduceEq, Int.reduceToNat, eq_self, true_and, and_true, true_or, or_true, false_or, or_false, if_true, if_false, not_true_eq_false, not_false_eq_true, and_self, ne_eq, b_P_prepare_41, hS, hA, e0]
    (repeat' (first | apply And.intro | split)) <;> first | omega | exact k1
  | succ d ih =>
    intro s f g1 o h1 h2 hI
    have e0 : g1 a = g a := hI.1 _ (by omega)
    have e6 : g1 (ad a 6) = g (ad a 6) := hI.1 _ (by unfold ad; omega)
    have e8 : g1 w 6 = g a 8 := hI.2.1
    have hs : (s : Int) < g a 5 := by omega
    have hln := w_ln hW hs
    have hle : sumL (vwC g a) (s + 1) ≤ g a 8 := by
      have h1 := sumL_le (V := vwC g a) (m := g a 5) (fun j hj => w_ln hW hj) (s := s + 1) ((g a 5).toNat - (s + 1)) (by omega)
      rw [show s + 1 + ((g a 5).toNat - (s + 1)) = (g a 5).toNat by omega, w_sum hW] at h1
      omega
    have hsu : sumL (vwC g a) (s + 1) = sumL (vwC g a) s + g (ad a 6) s := rfl
    have hmin : min ((f : Int) + g (ad a 6) s) (g a 8) = sumL (vwC g a) (s + 1) := by omega
    have k1 := prepare_inner (zt := zt) hS hA hd hW hs hle (Q := Q) (fun g2 o f2 q1 q2 => ih (s + 1) f2 g2 o (by omega) q1 q2) (sumL (vwC g a) (s + 1) - f).toNat f g1 (by omega) (by omega) hI
    rw [P_P_prepare_41]
    simp only [m_P_prepare, b_P_prepare_0, P_P_prepare_90, b_P_prepare_90, P_P_prepare_96, b_P_prepare_96, wp_abs, wp_aln0, wp_aln1, wp_copy, wp_cs1, wp_cs2, wp_cs3, wp_cs4, wp_cs5, wp_cs6, wp_cs7, wp_cv1, wp_cv2, wp_cv3, wp_cv4, wp_cv5, wp_cv6, wp_cv7, wp_goto, wp_iadd, wp_iald, wp_icge, wp_iconst, wp_il4, wp_iln2, wp_iln3, wp_inc2, wp_inc3, wp_is4, wp_isn2, wp_isn3, wp_max, wp_min, wp_nop, wp_ret, qsc_kd, qsc_k1, qsc_l1, qsc_gf1, qsc_k2, qsc_l2, qsc_gf2, qsc_k3, qsc_l3, qsc_gf3, qsc_k4, qsc_l4, qsc_gf4, qsc_k5, qsc_l5, qsc_gf6, qsc_k6, qsc_l6, qsc_gf7, qsc_k7, qsc_l7, qsc_gf9, qsc_k8, qsc_l8, qsc_gf10, qsc_gf0, qsc_pf0, qsc_gf5, qsc_pf5, qsc_gf8, qsc_pf8, qpl_kd, qpl_k1, qpl_l1, qpl_gf0, qpl_k2, qpl_l2, qpl_gf1, qpl_k3, qpl_l3, qpl_gf2, qpl_k4, qpl_l4, qpl_gf3, qpl_k5, qpl_l5, qpl_gf4, qpl_k6, qpl_l6, qpl_gf5, qpl_gf6, qpl_pf6, qpl_gf7, qpl_pf7, qpl_gf8, qpl_pf8, wrI_row, cpI_row, row_s, row_n, row_ss, row_sw, upd_s, upd_n, ad_inj, ad_z, ad_z2, Nat.reduceEqDiff, reduceCtorEq, List.cons_append, List.nil_append, Option.toList_some, Option.toList_none, Int.toNat_natCast, List.length_cons, List.length_nil, Int.cast_ofNat_Int, Nat.reduceAdd, Nat.reduceLeDiff, Nat.reduceLT, Nat.reduceMul, Int.reduceAdd, Int.reduceSub, Int.reduceMul, Int.reduceNeg, Int.reduceLT, Int.reduceLE, Int.reduceEq, Int.reduceToNat, eq_self, true_and, and_true, true_or, or_true, false_or, or_false, if_true, if_false, not_true_eq_false, not_false_eq_true, and_self, ne_eq, b_P_prepare_41, hS, hA, e0, e6, e8, hmin]
    (repeat' (first | apply And.intro | split)) <;> first | omega | exact k1
theorem prepare_ok (hS : isSc ρ a) (hA : isPl ρ w) (hd : a + 9 ≤ w ∨ w + 9 ≤ a) (hW : WFV (-99) (vwC g a)) {Q : Option AV → Sto → Prop} (hQ : ∀ g2 : Nat → Nat → Int, (∀ x, (x < w ∨ w + 7 ≤ x) → g2 x = g x) → plI g2 w (g a 8).toNat (g a 0).toNat (g (ad a 4) 1).toNat (cstV (-99) (vwC g a)) (clsV (vwC g a) (g (ad a 4) 0)) → Q none (g2, ρ)) : WpM zt 4 [AR w, AR a] (g, ρ) Q := by
  have hG := w_G hW
  have hM := w_M hW
  have hF := w_F hW
  have hN := w_nm hW
  have c0 : (a = w) ↔ False := iff_false_intro (by omega)
  have c4 : (ad a 4 = w) ↔ False := iff_false_intro (by unfold ad; omega)
  simp only [m_P_prepare, b_P_prepare_0, P_P_prepare_90, b_P_prepare_90, P_P_prepare_96, b_P_prepare_96, wp_abs, wp_aln0, wp_aln1, wp_copy, wp_cs1, wp_cs2, wp_cs3, wp_cs4, wp_cs5, wp_cs6, wp_cs7, wp_cv1, wp_cv2, wp_cv3, wp_cv4, wp_cv5, wp_cv6, wp_cv7, wp_goto, wp_iadd, wp_iald, wp_icge, wp_iconst, wp_il4, wp_iln2, wp_iln3, wp_inc2, wp_inc3, wp_is4, wp_isn2, wp_isn3, wp_max, wp_min, wp_nop, wp_ret, qsc_kd, qsc_k1, qsc_l1, qsc_gf1, qsc_k2, qsc_l2, qsc_gf2, qsc_k3, qsc_l3, qsc_gf3, qsc_k4, qsc_l4, qsc_gf4, qsc_k5, qsc_l5, qsc_gf6, qsc_k6, qsc_l6, qsc_gf7, qsc_k7, qsc_l7, qsc_gf9, qsc_k8, qsc_l8, qsc_gf10, qsc_gf0, qsc_pf0, qsc_gf5, qsc_pf5, qsc_gf8, qsc_pf8, qpl_kd, qpl_k1, qpl_l1, qpl_gf0, qpl_k2, qpl_l2, qpl_gf1, qpl_k3, qpl_l3, qpl_gf2, qpl_k4, qpl_l4, qpl_gf3, qpl_k5, qpl_l5, qpl_gf4, qpl_k6, qpl_l6, qpl_gf5, qpl_gf6, qpl_pf6, qpl_gf7, qpl_pf7, qpl_gf8, qpl_pf8, wrI_row, cpI_row, row_s, row_n, row_ss, row_sw, upd_s, upd_n, ad_inj, ad_z, ad_z2, Nat.reduceEqDiff, reduceCtorEq, List.cons_append, List.nil_append, Option.toList_some, Option.toList_none, Int.toNat_natCast, List.length_cons, List.length_nil, Int.cast_ofNat_Int, Nat.reduceAdd, Nat.reduceLeDiff, Nat.reduceLT, Nat.reduceMul, Int.reduceAdd, Int.reduceSub, Int.reduceMul, Int.reduceNeg, Int.reduceLT, Int.reduceLE, Int.reduceEq, Int.reduceToNat, eq_self, true_and, and_true, true_or, or_true, false_or, or_false, if_true, if_false, not_true_eq_false, not_false_eq_true, and_self, ne_eq, hS, hA, c0, c4]
  have hv : vwC (setRow g w (upd1 (upd1 (upd1 (g w) 6 (g a 8)) 7 (g a 0)) 8 (g (ad a 4) 1))) a = vwC g a := vwC_kept (fun x q1 q2 => row_n (by omega))
  have ea : setRow g w (upd1 (upd1 (upd1 (g w) 6 (g a 8)) 7 (g a 0)) 8 (g (ad a 4) 1)) a = g a := row_n (by omega)
  refine useSpeed_ok hS hA hd (by rw [hv]; exact hW) (by rw [ea, row_s]; simp only [upd1]; rfl) (by omega) (fun R hR => ?_)
  rw [hv, ea] at hR
  have k1 := prepare_loop (zt := zt) (g := g) (Q := Q) hS hA hd hW (fun g2 hI => hQ g2 hI.1 ⟨by rw [hI.2.1]; omega, by rw [hI.2.2.1]; omega, by rw [hI.2.2.2.1]; omega, fun f m q1 q2 => hI.2.2.2.2.2 f m q1 (by omega), fun x y q1 q2 => hI.2.2.2.2.1 x y (by omega) (by omega)⟩) (g a 5).toNat 0 0 (setRow (setRow g w (upd1 (upd1 (upd1 (g w) 6 (g a 8)) 7 (g a 0)) 8 (g (ad a 4) 1))) (ad w 3) R) none (by omega) rfl (by
    refine ⟨fun x q => ?_, ?_, ?_, ?_, ?_, fun f' m z1 z2 => by omega⟩
    · rw [row_n (by unfold ad; omega), row_n (by omega)]
    · rw [row_n (by unfold ad; omega), row_s]
      simp only [upd1]
      rfl
    · rw [row_n (by unfold ad; omega), row_s]
      simp only [upd1]
      rfl
    · rw [row_n (by unfold ad; omega), row_s]
      simp only [upd1]
      rfl
    · rw [row_s]
      exact hR)
  simp only [m_P_prepare, b_P_prepare_0, P_P_prepare_90, b_P_prepare_90, P_P_prepare_96, b_P_prepare_96, wp_abs, wp_aln0, wp_aln1, wp_copy, wp_cs1, wp_cs2, wp_cs3, wp_cs4, wp_cs5, wp_cs6, wp_cs7, wp_cv1, wp_cv2, wp_cv3, wp_cv4, wp_cv5, wp_cv6, wp_cv7, wp_goto, wp_iadd, wp_iald, wp_icge, wp_iconst, wp_il4, wp_iln2, wp_iln3, wp_inc2, wp_inc3, wp_is4, wp_isn2, wp_isn3, wp_max, wp_min, wp_nop, wp_ret, qsc_kd, qsc_k1, qsc_l1, qsc_gf1, qsc_k2, qsc_l2, qsc_gf2, qsc_k3, qsc_l3, qsc_gf3, qsc_k4, qsc_l4, qsc_gf4, qsc_k5, qsc_l5, qsc_gf6, qsc_k6, qsc_l6, qsc_gf7, qsc_k7, qsc_l7, qsc_gf9, qsc_k8, qsc_l8, qsc_gf10, qsc_gf0, qsc_pf0, qsc_gf5, qsc_pf5, qsc_gf8, qsc_pf8, qpl_kd, qpl_k1, qpl_l1, qpl_gf0, qpl_k2, qpl_l2, qpl_gf1, qpl_k3, qpl_l3, qpl_gf2, qpl_k4, qpl_l4, qpl_gf3, qpl_k5, qpl_l5, qpl_gf4, qpl_k6, qpl_l6, qpl_gf5, qpl_gf6, qpl_pf6, qpl_gf7, qpl_pf7, qpl_gf8, qpl_pf8, wrI_row, cpI_row, row_s, row_n, row_ss, row_sw, upd_s, upd_n, ad_inj, ad_z, ad_z2, Nat.reduceEqDiff, reduceCtorEq, List.cons_append, List.nil_append, Option.toList_some, Option.toList_none, Int.toNat_natCast, List.length_cons, List.length_nil, Int.cast_ofNat_Int, Nat.reduceAdd, Nat.reduceLeDiff, Nat.reduceLT, Nat.reduceMul, Int.reduceAdd, Int.reduceSub, Int.reduceMul, Int.reduceNeg, Int.reduceLT, Int.reduceLE, Int.reduceEq, Int.reduceToNat, eq_self, true_and, and_true, true_or, or_true, false_or, or_false, if_true, if_false, not_true_eq_false, not_false_eq_true, and_self, ne_eq, hS, hA]
  exact k1
end PRP
end
section
/-! THE PLANS' LEAST SUMS COUNTED FROM THE START, and that they are the same -/
/-- what the frames before f cost at least when frame f has the mouth m with the run r, out of the sums H of the frame before -/
def Ev (M h : Nat) (cl : Nat → Nat → Bool) (H : Nat → Nat → Int) (m r : Nat) : Int := min (if r = 0 then minB (fun o => !(o == m) && cl o m) (fun o => H o (h - 1)) M else 1000000) (minB (fun run => decide (min (run + 1) (h - 1) = r)) (fun run => H m run) h)
def Hv (M h : Nat) (c : Nat → Nat → Int) (cl : Nat → Nat → Bool) : Nat → Nat → Nat → Int
  | 0 => fun m r => min 1000000 ((if r = 0 then 0 else 1000000) + c 0 m)
  | f + 1 => fun m r => min 1000000 (Ev M h cl (Hv M h c cl f) m r + c (f + 1) m)
/-- what is before frame f at least -/
def Bv (M h : Nat) (c : Nat → Nat → Int) (cl : Nat → Nat → Bool) : Nat → Nat → Nat → Int
  | 0 => fun _ r => if r = 0 then 0 else 1000000
  | f + 1 => Ev M h cl (Hv M h c cl f)
theorem Hv_B {M h : Nat} {c : Nat → Nat → Int} {cl : Nat → Nat → Bool} {f m r : Nat} : Hv M h c cl f m r = min 1000000 (Bv M h c cl f m r + c f m) := by
  cases f <;> rfl
theorem Hv_b {M h : Nat} {c : Nat → Nat → Int} {cl : Nat → Nat → Bool} (hc : ∀ f m, 0 ≤ c f m) : ∀ f m r, (0 ≤ Hv M h c cl f m r ∧ Hv M h c cl f m r ≤ 1000000) ∧ 0 ≤ Bv M h c cl f m r ∧ Bv M h c cl f m r ≤ 1000000
  | 0, m, r => by
    have h1 := hc 0 m
    simp only [Hv, Bv]
    split <;> omega
  | f + 1, m, r => by
    have h1 := hc (f + 1) m
    have h2 := fun m r => (Hv_b (M := M) (h := h) (cl := cl) hc f m r).1
    have h3 := minB_b (p := fun o => !(o == m) && cl o m) (v := fun o => Hv M h c cl f o (h - 1)) (fun o => (h2 o _).1) M
    have h4 := minB_b (p := fun run => decide (min (run + 1) (h - 1) = r)) (v := fun run => Hv M h c cl f m run) (fun o => (h2 m o).1) h
    simp only [Hv, Bv, Ev]
    split <;> omega
theorem le_minB {p : Nat → Bool} {v : Nat → Int} {x : Int} (hx : x ≤ 1000000) : ∀ n, x ≤ minB p v n ↔ ∀ j, j < n → p j = true → x ≤ v j
  | 0 => ⟨fun _ j hj => by omega, fun _ => hx⟩
  | n + 1 => by
    have h1 := le_minB (p := p) (v := v) hx n
    constructor
    · intro h j hj hp
      by_cases e : j = n
      · subst e
        simp only [minB] at h
        rw [if_pos hp] at h
        omega
      · refine h1.1 ?_ j (by omega) hp
        simp only [minB] at h
        split at h <;> omega
    · intro h
      have h2 := h1.2 (fun j hj hp => h j (by omega) hp)
      simp only [minB]
      split
      next hp =>
        have := h n (by omega) hp
        omega
      next hp => exact h2
/-- the least sum as counted from the start -/
def totH (F M h : Nat) (c : Nat → Nat → Int) (cl : Nat → Nat → Bool) : Int := minB (fun _ => true) (fun m => minB (fun _ => true) (fun r => Hv M h c cl (F - 1) m r) h) M
section FWD
variable {F M h : Nat} {c : Nat → Nat → Int} {cl : Nat → Nat → Bool}
def crsV (F M h : Nat) (c : Nat → Nat → Int) (cl : Nat → Nat → Bool) (f : Nat) (x : Int) : Prop := ∀ m r, m < M → r < h → x ≤ Bv M h c cl f m r + Rv F M h c cl (F - f) m r
theorem crs_step (hc : ∀ f m, 0 ≤ c f m) (hh : 0 < h) {f : Nat} (hf : f + 1 < F) {x : Int} (hx : x ≤ 1000000) : crsV F M h c cl f x ↔ crsV F M h c cl (f + 1) x := by
  obtain ⟨d, hd⟩ : ∃ d, F - f = d + 2 := ⟨F - f - 2, by omega⟩
  have hd1 : F - (f + 1) = d + 1 := by omega
  have hfd : F - (d + 1 + 1) = f := by omega
  have hB := fun m r => (Hv_b (M := M) (h := h) (cl := cl) hc f m r).2
  have hR := fun m r => Rv_b (F := F) (M := M) (h := h) (cl := cl) hc (d + 1) m r
  have hc0 := fun m => hc f m
  have L : crsV F M h c cl f x ↔ ∀ m r, m < M → r < h → x ≤ Bv M h c cl f m r + c f m + Rv F M h c cl (d + 1) m (min (r + 1) (h - 1)) ∧ (r = h - 1 → ∀ o, o < M → o ≠ m → cl m o = true → x ≤ Bv M h c cl f m r + c f m + Rv F M h c cl (d + 1) o 0) := by
    unfold crsV
    rw [hd]
    refine forall_congr' fun m => forall_congr' fun r => forall_congr' fun hm => forall_congr' fun hr => ?_
    have q1 := hB m r
    have q2 := hc0 m
    have q3 := hR m (min (r + 1) (h - 1))
    rw [show Rv F M h c cl (d + 2) m r = min 1000000 (c f m + (if d + 1 = 0 then 0 else if r = h - 1 then min (Rv F M h c cl (d + 1) m (min (r + 1) (h - 1))) (minB (fun o => !(o == m) && cl m o) (fun o => Rv F M h c cl (d + 1) o 0) M) else Rv F M h c cl (d + 1) m (min (r + 1) (h - 1)))) by simp only [Rv, hfd]]
    rw [if_neg (by omega)]
    by_cases e : r = h - 1
    · rw [if_pos e]
      have k := le_minB (p := fun o => !(o == m) && cl m o) (v := fun o => Rv F M h c cl (d + 1) o 0) (x := x - (Bv M h c cl f m r + c f m)) (by omega) M
      constructor
      · intro z
        refine ⟨by omega, fun _ o ho hne hcl => ?_⟩
        have := k.1 (by omega) o ho (by simp [hne, hcl])
        omega
      · intro z
        have := k.2 (fun o ho hp => by
          simp only [Bool.and_eq_true, Bool.not_eq_true', beq_eq_false_iff_ne, ne_eq] at hp
          have := z.2 e o ho hp.1 hp.2
          omega)
        omega
    · rw [if_neg e]
      constructor
      · intro z
        exact ⟨by omega, fun q => absurd q e⟩
      · intro z
        omega
  have Rr : crsV F M h c cl (f + 1) x ↔ ∀ m r, m < M → r < h → (r = 0 → ∀ o, o < M → o ≠ m → cl o m = true → x ≤ Bv M h c cl f o (h - 1) + c f o + Rv F M h c cl (d + 1) m 0) ∧ (∀ run, run < h → min (run + 1) (h - 1) = r → x ≤ Bv M h c cl f m run + c f m + Rv F M h c cl (d + 1) m r) := by
    unfold crsV
    rw [hd1]
    refine forall_congr' fun m => forall_congr' fun r => forall_congr' fun hm => forall_congr' fun hr => ?_
    have q3 := hR m r
    have k1 := le_minB (p := fun o => !(o == m) && cl o m) (v := fun o => Hv M h c cl f o (h - 1)) (x := x - Rv F M h c cl (d + 1) m r) (by omega) M
    have k2 := le_minB (p := fun run => decide (min (run + 1) (h - 1) = r)) (v := fun run => Hv M h c cl f m run) (x := x - Rv F M h c cl (d + 1) m r) (by omega) h
    show x ≤ Ev M h cl (Hv M h c cl f) m r + Rv F M h c cl (d + 1) m r ↔ _
    unfold Ev
    constructor
    · intro z
      constructor
      · intro e o ho hne hcl
        subst e
        rw [if_pos rfl] at z
        have := k1.1 (by omega) o ho (by simp [hne, hcl])
        rw [Hv_B] at this
        omega
      · intro run h1 h2
        have := k2.1 (by omega) run h1 (by simp [h2])
        rw [Hv_B] at this
        omega
    · intro z
      have z2 := k2.2 (fun run h1 h2 => by
        have := z.2 run h1 (by simpa using h2)
        have w1 := hB m run
        rw [Hv_B]
        omega)
      by_cases e : r = 0
      · have z1 := k1.2 (fun o ho hp => by
          simp only [Bool.and_eq_true, Bool.not_eq_true', beq_eq_false_iff_ne, ne_eq] at hp
          have := z.1 e o ho hp.1 hp.2
          have w1 := hB o (h - 1)
          subst e
          rw [Hv_B]
          omega)
        rw [if_pos e]
        omega
      · rw [if_neg e]
        omega
  rw [L, Rr]
  constructor
  · intro z m r hm hr
    refine ⟨fun e o ho hne hcl => ?_, fun run h1 h2 => ?_⟩
    · exact (z o (h - 1) ho (by omega)).2 rfl m hm (fun q => hne q.symm) hcl
    · have := (z m run hm h1).1
      rw [h2] at this
      exact this
  · intro z m r hm hr
    refine ⟨(z m (min (r + 1) (h - 1)) hm (by omega)).2 r hr rfl, fun e o ho hne hcl => ?_⟩
    have := (z o 0 ho (by omega)).1 rfl m hm (fun q => hne q.symm) hcl
    rw [← e] at this
    exact this
theorem tot_eq (hc : ∀ f m, 0 ≤ c f m) (hh : 0 < h) (hF : 0 < F) : totH F M h c cl = totV F M h c cl := by
  have key : ∀ x : Int, x ≤ 1000000 → (x ≤ totH F M h c cl ↔ x ≤ totV F M h c cl) := by
    intro x hx
    have h0 : x ≤ totV F M h c cl ↔ crsV F M h c cl 0 x := by
      unfold totV crsV
      rw [le_minB hx]
      constructor
      · intro z m r hm hr
        have q1 := z m hm rfl
        have q2 := Rv_b (F := F) (M := M) (h := h) (cl := cl) hc F m r
        show x ≤ (if r = 0 then 0 else 1000000) + Rv F M h c cl (F - 0) m r
        rw [Nat.sub_zero]
        by_cases e : r = 0
        · rw [if_pos e]
          subst e
          omega
        · rw [if_neg e]
          omega
      · intro z m hm _
        have q1 := z m 0 hm hh
        rw [Nat.sub_zero] at q1
        have e : Bv M h c cl 0 m 0 = 0 := rfl
        omega
    have h1 : ∀ f, f < F → (crsV F M h c cl 0 x ↔ crsV F M h c cl f x) := by
      intro f
      induction f with
      | zero => exact fun _ => Iff.rfl
      | succ f ih => exact fun q => (ih (by omega)).trans (crs_step hc hh (by omega) hx)
    have h2 : x ≤ totH F M h c cl ↔ crsV F M h c cl (F - 1) x := by
      unfold totH crsV
      rw [le_minB hx]
      have e1 : F - (F - 1) = 1 := by omega
      rw [e1]
      have e2 : ∀ m r, Rv F M h c cl 1 m r = min 1000000 (c (F - 1) m) := fun m r => by
        simp only [Rv, if_true, Nat.zero_add]
        omega
      constructor
      · intro z m r hm hr
        have q1 := (le_minB hx h).1 (z m hm rfl) r hr rfl
        have q2 := (Hv_b (M := M) (h := h) (cl := cl) hc (F - 1) m r).2
        rw [Hv_B] at q1
        rw [e2]
        omega
      · intro z m hm _
        rw [le_minB hx]
        intro r hr _
        have q1 := z m r hm hr
        have q2 := hc (F - 1) m
        have q3 := (Hv_b (M := M) (h := h) (cl := cl) hc (F - 1) m r).2
        rw [e2] at q1
        rw [Hv_B]
        omega
    rw [h0, h1 (F - 1) (by omega), h2]
  have b1 : totH F M h c cl ≤ 1000000 := (minB_b (fun m => (minB_b (fun r => (Hv_b hc _ m r).1.1) h).1) M).2
  have b2 : totV F M h c cl ≤ 1000000 := (minB_b (fun m => (Rv_b hc F m 0).1) M).2
  have k1 := (key _ b1).1 (Int.le_refl _)
  have k2 := (key _ b2).2 (Int.le_refl _)
  omega
end FWD
end
section
/-! THE PLANNER FROM THE START -/
section FWP
variable {zt : Nat → Nat} {g : Nat → Nat → Int} {ρ : Ri} {w F M h : Nat} {c : Nat → Nat → Int} {cl : Nat → Nat → Bool}
theorem plI_row5 (hP : plI g w F M h c cl) (R : Nat → Int) : plI (setRow g (ad w 5) R) w F M h c cl := by
  obtain ⟨p1, p2, p3, p4, p5⟩ := hP
  have e0 : setRow g (ad w 5) R w = g w := row_n (by rw [ad_z2]; decide)
  have e2 : setRow g (ad w 5) R (ad w 2) = g (ad w 2) := row_n (by rw [ad_inj]; decide)
  have e3 : setRow g (ad w 5) R (ad w 3) = g (ad w 3) := row_n (by rw [ad_inj]; decide)
  unfold plI
  rw [e0, e2, e3]
  exact ⟨p1, p2, p3, p4, p5⟩
theorem plI_row6 (hP : plI g w F M h c cl) (R : Nat → Int) : plI (setRow g (ad w 6) R) w F M h c cl := by
  obtain ⟨p1, p2, p3, p4, p5⟩ := hP
  have e0 : setRow g (ad w 6) R w = g w := row_n (by rw [ad_z2]; decide)
  have e2 : setRow g (ad w 6) R (ad w 2) = g (ad w 2) := row_n (by rw [ad_inj]; decide)
  have e3 : setRow g (ad w 6) R (ad w 3) = g (ad w 3) := row_n (by rw [ad_inj]; decide)
  unfold plI
  rw [e0, e2, e3]
  exact ⟨p1, p2, p3, p4, p5⟩
theorem leastOfEntering_loop (hA : isPl ρ w) (hP : plI g w F M h c cl) (hM8 : M ≤ 8) (h1 : 1 ≤ h) (h3 : h ≤ 3) {m : Nat} (hm : m < M) {v : Nat → Int} (hv : ∀ j, 0 ≤ v j ∧ v j ≤ 1000000) (hR : ∀ o, o < M → g (ad w 6) (o * 3 + (h - 1)) = v o) {Q : Option AV → Sto → Prop} (hQ : Q (some (AI (minB (fun o => !(o == m) && cl o m) v M))) (g, ρ)) :
    ∀ (d n : Nat), n + d = M → Wp zt 14 (P 14 5) [some (AR w), some (AI m), some (AI (minB (fun o => !(o == m) && cl o m) v n)), some (AI n)] [] (g, ρ) Q := by
  obtain ⟨p1, p2, p3, p4, p5⟩ := hP
  intro d
  induction d with
  | zero =>
    intro n hn
    have e : M = n := by omega
    subst e
    rw [P_P_leastOfEntering_5]
    simp only [m_P_leastOfEntering, b_P_leastOfEntering_0, P_P_leastOfEntering_52, b_P_leastOfEntering_52, P_P_leastOfEntering_58, b_P_leastOfEntering_58, wp_abs, wp_aln0, wp_bald, wp_bipush, wp_copy, wp_cs1, wp_cs2, wp_cs3, wp_cs4, wp_cs5, wp_cs6, wp_cs7, wp_goto, wp_iadd, wp_iald, wp_iceq, wp_icge, wp_iconst, wp_iln1, wp_iln2, wp_iln3, wp_imul, wp_inc3, wp_iret, wp_isn2, wp_isn3, wp_isub, wp_izeq, wp_ldc, wp_max, wp_min, wp_nop, wp_zret, qpl_kd, qpl_k1, qpl_l1, qpl_gf0, qpl_k2, qpl_l2, qpl_gf1, qpl_k3, qpl_l3, qpl_gf2, qpl_k4, qpl_l4, qpl_gf3, qpl_k5, qpl_l5, qpl_gf4, qpl_k6, qpl_l6, qpl_gf5, qpl_gf6, qpl_pf6, qpl_gf7, qpl_pf7, qpl_gf8, qpl_pf8, wrI_row, cpI_row, row_s, row_n, row_ss, row_sw, upd_s, upd_n, ad_inj, ad_z, ad_z2, Nat.reduceEqDiff, reduceCtorEq, List.cons_append, List.nil_append, Option.toList_some, Option.toList_none, Int.toNat_natCast, List.length_cons, List.length_nil, Int.cast_ofNat_Int, Nat.reduceAdd, Nat.reduceLeDiff, Nat.reduceLT, Nat.reduceMul, Int.reduceAdd, Int.reduceSub, Int.reduceMul, Int.reduceNeg, Int.reduceLT, Int.reduceLE, Int.reduceEq, Int.reduceToNat, eq_self, true_and, and_true, true_or, or_true, false_or, or_false, if_true, if_false, not_true_eq_false, not_false_eq_true, and_self, ne_eq, b_P_leastOfEntering_5, hA, p2]
    (repeat' (first | apply And.intro | split)) <;> first | omega | exact hQ | (rw [b2_t (by omega)] at hQ; exact hQ) | (rw [b2_f (by omega)] at hQ; exact hQ)
  | succ d ih =>
    intro n hn
    have i1 := ih (n + 1) (by omega)
    have hb := minB_b (p := fun o => !(o == m) && cl o m) (v := v) (fun j => (hv j).1) n
    have hvn := hv n
    have e2 : ((n : Int) * 8 + (m : Int)).toNat = n * 8 + m := by omega
    have e3 : ((n : Int) * 3 + (h : Int) - 1).toNat = n * 3 + (h - 1) := by omega
    have r1 := hR n (by omega)
    have r2 := p5 n m (by omega) hm
    simp only [minB] at i1
    by_cases hc : n = m
    · rw [if_neg (by simp [hc])] at i1
      have hc2 : (n : Int) = (m : Int) := by omega
      rw [P_P_leastOfEntering_5]
      simp only [m_P_leastOfEntering, b_P_leastOfEntering_0, P_P_leastOfEntering_52, b_P_leastOfEntering_52, P_P_leastOfEntering_58, b_P_leastOfEntering_58, wp_abs, wp_aln0, wp_bald, wp_bipush, wp_copy, wp_cs1, wp_cs2, wp_cs3, wp_cs4, wp_cs5, wp_cs6, wp_cs7, wp_goto, wp_iadd, wp_iald, wp_iceq, wp_icge, wp_iconst, wp_iln1, wp_iln2, wp_iln3, wp_imul, wp_inc3, wp_iret, wp_isn2, wp_isn3, wp_isub, wp_izeq, wp_ldc, wp_max, wp_min, wp_nop, wp_zret, qpl_kd, qpl_k1, qpl_l1, qpl_gf0, qpl_k2, qpl_l2, qpl_gf1, qpl_k3, qpl_l3, qpl_gf2, qpl_k4, qpl_l4, qpl_gf3, qpl_k5, qpl_l5, qpl_gf4, qpl_k6, qpl_l6, qpl_gf5, qpl_gf6, qpl_pf6, qpl_gf7, qpl_pf7, qpl_gf8, qpl_pf8, wrI_row, cpI_row, row_s, row_n, row_ss, row_sw, upd_s, upd_n, ad_inj, ad_z, ad_z2, Nat.reduceEqDiff, reduceCtorEq, List.cons_append, List.nil_append, Option.toList_some, Option.toList_none, Int.toNat_natCast, List.length_cons, List.length_nil, Int.cast_ofNat_Int, Nat.reduceAdd, Nat.reduceLeDiff, Nat.reduceLT, Nat.reduceMul, Int.reduceAdd, Int.reduceSub, Int.reduceMul, Int.reduceNeg, Int.reduceLT, Int.reduceLE, Int.reduceEq, Int.reduceToNat, eq_self, true_and, and_true, true_or, or_true, false_or, or_false, if_true, if_false, not_true_eq_false, not_false_eq_true, and_self, ne_eq, b_P_leastOfEntering_5, hA, p2, p3, hc2]
      rw [show ((n + 1 : Nat) : Int) = (m : Int) + 1 by omega] at i1
      (repeat' (first | apply And.intro | split)) <;> first | omega | exact i1 | (rw [b2_t (by omega)] at i1; exact i1) | (rw [b2_f (by omega)] at i1; exact i1)
    · have hc2 : ¬ (n : Int) = (m : Int) := by omega
      by_cases hcl : cl n m = true
      · rw [if_pos (by simp [hc, hcl])] at i1
        rw [if_pos hcl] at r2
        rw [P_P_leastOfEntering_5]
        simp only [m_P_leastOfEntering, b_P_leastOfEntering_0, P_P_leastOfEntering_52, b_P_leastOfEntering_52, P_P_leastOfEntering_58, b_P_leastOfEntering_58, wp_abs, wp_aln0, wp_bald, wp_bipush, wp_copy, wp_cs1, wp_cs2, wp_cs3, wp_cs4, wp_cs5, wp_cs6, wp_cs7, wp_goto, wp_iadd, wp_iald, wp_iceq, wp_icge, wp_iconst, wp_iln1, wp_iln2, wp_iln3, wp_imul, wp_inc3, wp_iret, wp_isn2, wp_isn3, wp_isub, wp_izeq, wp_ldc, wp_max, wp_min, wp_nop, wp_zret, qpl_kd, qpl_k1, qpl_l1, qpl_gf0, qpl_k2, qpl_l2, qpl_gf1, qpl_k3, qpl_l3, qpl_gf2, qpl_k4, qpl_l4, qpl_gf3, qpl_k5, qpl_l5, qpl_gf4, qpl_k6, qpl_l6, qpl_gf5, qpl_gf6, qpl_pf6, qpl_gf7, qpl_pf7, qpl_gf8, qpl_pf8, wrI_row, cpI_row, row_s, row_n, row_ss, row_sw, upd_s, upd_n, ad_inj, ad_z, ad_z2, Nat.reduceEqDiff, reduceCtorEq, List.cons_append, List.nil_append, Option.toList_some, Option.toList_none, Int.toNat_natCast, List.length_cons, List.length_nil, Int.cast_ofNat_Int, Nat.reduceAdd, Nat.reduceLeDiff, Nat.reduceLT, Nat.reduceMul, Int.reduceAdd, Int.reduceSub, Int.reduceMul, Int.reduceNeg, Int.reduceLT, Int.reduceLE, Int.reduceEq, Int.reduceToNat, eq_self, true_and, and_true, true_or, or_true, false_or, or_false, if_true, if_false, not_true_eq_false, not_false_eq_true, and_self, ne_eq, b_P_leastOfEntering_5, hA, p2, p3, hc2, e2, e3, r1, r2]
        (repeat' (first | apply And.intro | split)) <;> first | omega | exact i1 | (rw [b2_t (by omega)] at i1; exact i1) | (rw [b2_f (by omega)] at i1; exact i1)
      · rw [if_neg (by simp [hc, hcl])] at i1
        rw [if_neg hcl] at r2
        rw [P_P_leastOfEntering_5]
        simp only [m_P_leastOfEntering, b_P_leastOfEntering_0, P_P_leastOfEntering_52, b_P_leastOfEntering_52, P_P_leastOfEntering_58, b_P_leastOfEntering_58, wp_abs, wp_aln0, wp_bald, wp_bipush, wp_copy, wp_cs1, wp_cs2, wp_cs3, wp_cs4, wp_cs5, wp_cs6, wp_cs7, wp_goto, wp_iadd, wp_iald, wp_iceq, wp_icge, wp_iconst, wp_iln1, wp_iln2, wp_iln3, wp_imul, wp_inc3, wp_iret, wp_isn2, wp_isn3, wp_isub, wp_izeq, wp_ldc, wp_max, wp_min, wp_nop, wp_zret, qpl_kd, qpl_k1, qpl_l1, qpl_gf0, qpl_k2, qpl_l2, qpl_gf1, qpl_k3, qpl_l3, qpl_gf2, qpl_k4, qpl_l4, qpl_gf3, qpl_k5, qpl_l5, qpl_gf4, qpl_k6, qpl_l6, qpl_gf5, qpl_gf6, qpl_pf6, qpl_gf7, qpl_pf7, qpl_gf8, qpl_pf8, wrI_row, cpI_row, row_s, row_n, row_ss, row_sw, upd_s, upd_n, ad_inj, ad_z, ad_z2, Nat.reduceEqDiff, reduceCtorEq, List.cons_append, List.nil_append, Option.toList_some, Option.toList_none, Int.toNat_natCast, List.length_cons, List.length_nil, Int.cast_ofNat_Int, Nat.reduceAdd, Nat.reduceLeDiff, Nat.reduceLT, Nat.reduceMul, Int.reduceAdd, Int.reduceSub, Int.reduceMul, Int.reduceNeg, Int.reduceLT, Int.reduceLE, Int.reduceEq, Int.reduceToNat, eq_self, true_and, and_true, true_or, or_true, false_or, or_false, if_true, if_false, not_true_eq_false, not_false_eq_true, and_self, ne_eq, b_P_leastOfEntering_5, hA, p2, p3, hc2, e2, e3, r1, r2]
        (repeat' (first | apply And.intro | split)) <;> first | omega | exact i1 | (rw [b2_t (by omega)] at i1; exact i1) | (rw [b2_f (by omega)] at i1; exact i1)
theorem leastOfEntering_ok (hA : isPl ρ w) (hP : plI g w F M h c cl) (hM8 : M ≤ 8) (h1 : 1 ≤ h) (h3 : h ≤ 3) {m : Nat} (hm : m < M) {v : Nat → Int} (hv : ∀ j, 0 ≤ v j ∧ v j ≤ 1000000) (hR : ∀ o, o < M → g (ad w 6) (o * 3 + (h - 1)) = v o) (Q : Option AV → Sto → Prop) : WpM zt 14 [AR w, AI m] (g, ρ) Q ↔ Q (some (AI (minB (fun o => !(o == m) && cl o m) v M))) (g, ρ) := by
  refine wpm_iff (fun Q hQ => ?_) Q
  have k1 := leastOfEntering_loop (zt := zt) hA hP hM8 h1 h3 hm hv hR hQ M 0 (by omega)
  simp only [m_P_leastOfEntering, b_P_leastOfEntering_0, P_P_leastOfEntering_52, b_P_leastOfEntering_52, P_P_leastOfEntering_58, b_P_leastOfEntering_58, wp_abs, wp_aln0, wp_bald, wp_bipush, wp_copy, wp_cs1, wp_cs2, wp_cs3, wp_cs4, wp_cs5, wp_cs6, wp_cs7, wp_goto, wp_iadd, wp_iald, wp_iceq, wp_icge, wp_iconst, wp_iln1, wp_iln2, wp_iln3, wp_imul, wp_inc3, wp_iret, wp_isn2, wp_isn3, wp_isub, wp_izeq, wp_ldc, wp_max, wp_min, wp_nop, wp_zret, qpl_kd, qpl_k1, qpl_l1, qpl_gf0, qpl_k2, qpl_l2, qpl_gf1, qpl_k3, qpl_l3, qpl_gf2, qpl_k4, qpl_l4, qpl_gf3, qpl_k5, qpl_l5, qpl_gf4, qpl_k6, qpl_l6, qpl_gf5, qpl_gf6, qpl_pf6, qpl_gf7, qpl_pf7, qpl_gf8, qpl_pf8, wrI_row, cpI_row, row_s, row_n, row_ss, row_sw, upd_s, upd_n, ad_inj, ad_z, ad_z2, Nat.reduceEqDiff, reduceCtorEq, List.cons_append, List.nil_append, Option.toList_some, Option.toList_none, Int.toNat_natCast, List.length_cons, List.length_nil, Int.cast_ofNat_Int, Nat.reduceAdd, Nat.reduceLeDiff, Nat.reduceLT, Nat.reduceMul, Int.reduceAdd, Int.reduceSub, Int.reduceMul, Int.reduceNeg, Int.reduceLT, Int.reduceLE, Int.reduceEq, Int.reduceToNat, eq_self, true_and, and_true, true_or, or_true, false_or, or_false, if_true, if_false, not_true_eq_false, not_false_eq_true, and_self, ne_eq, hA]
  exact k1
theorem fillHere_last (hA : isPl ρ w) (hP : plI g w F M h c cl) (hM8 : M ≤ 8) (h1 : 1 ≤ h) (h3 : h ≤ 3) (hF : F ≤ 99) (hc : ∀ f m, 0 ≤ c f m ∧ c f m ≤ 1000000) {f m : Nat} (hf : f < F) (hm : m < M) {E : Nat → Int} (hE : ∀ r, 0 ≤ E r ∧ E r ≤ 1000000) {Q : Option AV → Sto → Prop} {o4 : Option AV}
    (hQ : ∀ R : Nat → Int, (∀ r, r < h → R (m * 3 + r) = min 1000000 (E r + c f m)) → (∀ y, y < m * 3 → R y = g (ad w 5) y) → Q none (setRow g (ad w 5) R, ρ)) :
    ∀ (d n : Nat) (R : Nat → Int), n + d = h → (∀ r, r < n → R (m * 3 + r) = min 1000000 (E r + c f m)) → (∀ r, n ≤ r → r < h → R (m * 3 + r) = E r) → (∀ y, y < m * 3 → R y = g (ad w 5) y) → Wp zt 13 (P 13 123) [some (AR w), some (AI f), some (AI m), some (AI ((m : Int) * 3)), o4, some (AI n)] [] (setRow g (ad w 5) R, ρ) Q := by
  obtain ⟨p1, p2, p3, p4, p5⟩ := id hP
  intro d
  induction d with
  | zero =>
    intro n R hn q1 q2 q3
    have e : n = h := by omega
    subst e
    have k1 := hQ R q1 q3
    rw [P_P_fillHere_123]
    simp only [m_P_fillHere, b_P_fillHere_0, P_P_fillHere_33, b_P_fillHere_33, P_P_fillHere_46, b_P_fillHere_46, P_P_fillHere_51, b_P_fillHere_51, P_P_fillHere_60, b_P_fillHere_60, P_P_fillHere_64, b_P_fillHere_64, P_P_fillHere_120, b_P_fillHere_120, P_P_fillHere_173, b_P_fillHere_173, wp_abs, wp_aln0, wp_bipush, wp_copy, wp_cs1, wp_cs2, wp_cs3, wp_cs4, wp_cs5, wp_cs6, wp_cs7, wp_cv1, wp_cv2, wp_cv3, wp_cv4, wp_cv5, wp_cv6, wp_cv7, wp_goto, wp_iadd, wp_iald, wp_iast, wp_icge, wp_iconst, wp_il4, wp_il5, wp_iln1, wp_iln2, wp_iln3, wp_imul, wp_inc4, wp_inc5, wp_is4, wp_is5, wp_isn3, wp_izne, wp_ldc, wp_max, wp_min, wp_nop, wp_ret, qpl_kd, qpl_k1, qpl_l1, qpl_gf0, qpl_k2, qpl_l2, qpl_gf1, qpl_k3, qpl_l3, qpl_gf2, qpl_k4, qpl_l4, qpl_gf3, qpl_k5, qpl_l5, qpl_gf4, qpl_k6, qpl_l6, qpl_gf5, qpl_gf6, qpl_pf6, qpl_gf7, qpl_pf7, qpl_gf8, qpl_pf8, wrI_row, cpI_row, row_s, row_n, row_ss, row_sw, upd_s, upd_n, ad_inj, ad_z, ad_z2, Nat.reduceEqDiff, reduceCtorEq, List.cons_append, List.nil_append, Option.toList_some, Option.toList_none, Int.toNat_natCast, List.length_cons, List.length_nil, Int.cast_ofNat_Int, Nat.reduceAdd, Nat.reduceLeDiff, Nat.reduceLT, Nat.reduceMul, Int.reduceAdd, Int.reduceSub, Int.reduceMul, Int.reduceNeg, Int.reduceLT, Int.reduceLE, Int.reduceEq, Int.reduceToNat, eq_self, true_and, and_true, true_or, or_true, false_or, or_false, if_true, if_false, not_true_eq_false, not_false_eq_true, and_self, ne_eq, b_P_fillHere_123, hA, p3]
    (repeat' (first | apply And.intro | split)) <;> first | omega | exact k1 | (rw [b2_t (by omega)] at k1; exact k1) | (rw [b2_f (by omega)] at k1; exact k1)
  | succ d ih =>
    intro n R hn q1 q2 q3
    have e2 : ((f : Int) * 8 + (m : Int)).toNat = f * 8 + m := by omega
    have e3 : ((m : Int) * 3 + (n : Int)).toNat = m * 3 + n := by omega
    have r1 := q2 n (Nat.le_refl _) (by omega)
    have r4 := p4 f m hf hm
    have b1 := hE n
    have b2 := hc f m
    have i1 := ih (n + 1) (upd1 R (m * 3 + n) (min 1000000 (E n + c f m))) (by omega) (fun r z => by
        by_cases e : r = n
        · subst e
          rw [upd_s]
        · rw [upd_n (by omega)]
          exact q1 r (by omega)) (fun r z1 z2 => by
        rw [upd_n (by omega)]
        exact q2 r (by omega) z2) (fun y z => by
        rw [upd_n (by omega)]
        exact q3 y z)
    rw [P_P_fillHere_123]
    simp only [m_P_fillHere, b_P_fillHere_0, P_P_fillHere_33, b_P_fillHere_33, P_P_fillHere_46, b_P_fillHere_46, P_P_fillHere_51, b_P_fillHere_51, P_P_fillHere_60, b_P_fillHere_60, P_P_fillHere_64, b_P_fillHere_64, P_P_fillHere_120, b_P_fillHere_120, P_P_fillHere_173, b_P_fillHere_173, wp_abs, wp_aln0, wp_bipush, wp_copy, wp_cs1, wp_cs2, wp_cs3, wp_cs4, wp_cs5, wp_cs6, wp_cs7, wp_cv1, wp_cv2, wp_cv3, wp_cv4, wp_cv5, wp_cv6, wp_cv7, wp_goto, wp_iadd, wp_iald, wp_iast, wp_icge, wp_iconst, wp_il4, wp_il5, wp_iln1, wp_iln2, wp_iln3, wp_imul, wp_inc4, wp_inc5, wp_is4, wp_is5, wp_isn3, wp_izne, wp_ldc, wp_max, wp_min, wp_nop, wp_ret, qpl_kd, qpl_k1, qpl_l1, qpl_gf0, qpl_k2, qpl_l2, qpl_gf1, qpl_k3, qpl_l3, qpl_gf2, qpl_k4, qpl_l4, qpl_gf3, qpl_k5, qpl_l5, qpl_gf4, qpl_k6, qpl_l6, qpl_gf5, qpl_gf6, qpl_pf6, qpl_gf7, qpl_pf7, qpl_gf8, qpl_pf8, wrI_row, cpI_row, row_s, row_n, row_ss, row_sw, upd_s, upd_n, ad_inj, ad_z, ad_z2, Nat.reduceEqDiff, reduceCtorEq, List.cons_append, List.nil_append, Option.toList_some, Option.toList_none, Int.toNat_natCast, List.length_cons, List.length_nil, Int.cast_ofNat_Int, Nat.reduceAdd, Nat.reduceLeDiff, Nat.reduceLT, Nat.reduceMul, Int.reduceAdd, Int.reduceSub, Int.reduceMul, Int.reduceNeg, Int.reduceLT, Int.reduceLE, Int.reduceEq, Int.reduceToNat, eq_self, true_and, and_true, true_or, or_true, false_or, or_false, if_true, if_false, not_true_eq_false, not_false_eq_true, and_self, ne_eq, b_P_fillHere_123, hA, p3, e2, e3, r1, r4]
    (repeat' (first | apply And.intro | split)) <;> first | omega | exact i1
theorem fillHere_mid (hA : isPl ρ w) (hP : plI g w F M h c cl) (hM8 : M ≤ 8) (h1 : 1 ≤ h) (h3 : h ≤ 3) (hF : F ≤ 99) (hc : ∀ f m, 0 ≤ c f m ∧ c f m ≤ 1000000) {f m : Nat} (hf : f < F) (hm : m < M) {E H : Nat → Int} (hE : ∀ r, 0 ≤ E r ∧ E r ≤ 1000000) (hH : ∀ r, 0 ≤ H r ∧ H r ≤ 1000000) (hR6 : ∀ r, r < h → g (ad w 6) (m * 3 + r) = H r) {Q : Option AV → Sto → Prop}
    (hQ : ∀ R : Nat → Int, (∀ r, r < h → R (m * 3 + r) = min 1000000 (min (E r) (minB (fun run => decide (min (run + 1) (h - 1) = r)) H h) + c f m)) → (∀ y, y < m * 3 → R y = g (ad w 5) y) → Q none (setRow g (ad w 5) R, ρ)) :
    ∀ (d n : Nat) (R : Nat → Int), n + d = h → (∀ r, r < h → R (m * 3 + r) = min (E r) (minB (fun run => decide (min (run + 1) (h - 1) = r)) H n)) → (∀ y, y < m * 3 → R y = g (ad w 5) y) → Wp zt 13 (P 13 69) [some (AR w), some (AI f), some (AI m), some (AI ((m : Int) * 3)), some (AI h), some (AI n)] [] (setRow g (ad w 5) R, ρ) Q := by
  obtain ⟨p1, p2, p3, p4, p5⟩ := id hP
  intro d
  induction d with
  | zero =>
    intro n R hn q1 q2
    have e : n = h := by omega
    subst e
    have k1 := fillHere_last (zt := zt) hA hP hM8 h1 h3 hF hc hf hm (E := fun r => min (E r) (minB (fun run => decide (min (run + 1) (n - 1) = r)) H n)) (fun r => by
      have b1 := hE r
      have b2 := minB_b (p := fun run => decide (min (run + 1) (n - 1) = r)) (v := H) (fun o => (hH o).1) n
      omega) (o4 := some (AI n)) hQ n 0 R (by omega) (fun r z => by omega) (fun r _ z => q1 r z) q2
    rw [P_P_fillHere_69]
    simp only [m_P_fillHere, b_P_fillHere_0, P_P_fillHere_33, b_P_fillHere_33, P_P_fillHere_46, b_P_fillHere_46, P_P_fillHere_51, b_P_fillHere_51, P_P_fillHere_60, b_P_fillHere_60, P_P_fillHere_64, b_P_fillHere_64, P_P_fillHere_120, b_P_fillHere_120, P_P_fillHere_173, b_P_fillHere_173, wp_abs, wp_aln0, wp_bipush, wp_copy, wp_cs1, wp_cs2, wp_cs3, wp_cs4, wp_cs5, wp_cs6, wp_cs7, wp_cv1, wp_cv2, wp_cv3, wp_cv4, wp_cv5, wp_cv6, wp_cv7, wp_goto, wp_iadd, wp_iald, wp_iast, wp_icge, wp_iconst, wp_il4, wp_il5, wp_iln1, wp_iln2, wp_iln3, wp_imul, wp_inc4, wp_inc5, wp_is4, wp_is5, wp_isn3, wp_izne, wp_ldc, wp_max, wp_min, wp_nop, wp_ret, qpl_kd, qpl_k1, qpl_l1, qpl_gf0, qpl_k2, qpl_l2, qpl_gf1, qpl_k3, qpl_l3, qpl_gf2, qpl_k4, qpl_l4, qpl_gf3, qpl_k5, qpl_l5, qpl_gf4, qpl_k6, qpl_l6, qpl_gf5, qpl_gf6, qpl_pf6, qpl_gf7, qpl_pf7, qpl_gf8, qpl_pf8, wrI_row, cpI_row, row_s, row_n, row_ss, row_sw, upd_s, upd_n, ad_inj, ad_z, ad_z2, Nat.reduceEqDiff, reduceCtorEq, List.cons_append, List.nil_append, Option.toList_some, Option.toList_none, Int.toNat_natCast, List.length_cons, List.length_nil, Int.cast_ofNat_Int, Nat.reduceAdd, Nat.reduceLeDiff, Nat.reduceLT, Nat.reduceMul, Int.reduceAdd, Int.reduceSub, Int.reduceMul, Int.reduceNeg, Int.reduceLT, Int.reduceLE, Int.reduceEq, Int.reduceToNat, eq_self, true_and, and_true, true_or, or_true, false_or, or_false, if_true, if_false, not_true_eq_false, not_false_eq_true, and_self, ne_eq, b_P_fillHere_69, hA, p3]
    (repeat' (first | apply And.intro | split)) <;> first | omega | exact k1
  | succ d ih =>
    intro n R hn q1 q2
    have hlg := longer_ok (zt := zt) (ρ := ρ) (w := w) (h := h) (g := setRow g (ad w 5) R) hA ((congrFun (row_n (by rw [ad_z2]; decide)) 8).trans p3) h1 h3 (r := n) (by omega)
    have e2 : ((m : Int) * 3 + ((min (n + 1) (h - 1) : Nat) : Int)).toNat = m * 3 + min (n + 1) (h - 1) := by omega
    have e3 : ((m : Int) * 3 + (n : Int)).toNat = m * 3 + n := by omega
    have r1 := q1 (min (n + 1) (h - 1)) (by omega)
    have r6 := hR6 n (by omega)
    have b1 := hE (min (n + 1) (h - 1))
    have b2 := minB_b (p := fun run => decide (min (run + 1) (h - 1) = min (n + 1) (h - 1))) (v := H) (fun o => (hH o).1) n
    have b3 := hH n
    have i1 := ih (n + 1) (upd1 R (m * 3 + min (n + 1) (h - 1)) (min (min (E (min (n + 1) (h - 1))) (minB (fun run => decide (min (run + 1) (h - 1) = min (n + 1) (h - 1))) H n)) (H n))) (by omega) (fun r z => by
        simp only [minB]
        by_cases e : min (n + 1) (h - 1) = r
        · rw [if_pos (by simpa using e)]
          subst e
          rw [upd_s]
          omega
        · rw [if_neg (by simpa using e), upd_n (by omega)]
          exact q1 r z) (fun y z => by
        rw [upd_n (by omega)]
        exact q2 y z)
    generalize hu : minB (fun run => decide (min (run + 1) (h - 1) = min (n + 1) (h - 1))) H n = u at *
    generalize hL : min (n + 1) (h - 1) = L at *
    rw [P_P_fillHere_69]
    simp only [m_P_fillHere, b_P_fillHere_0, P_P_fillHere_33, b_P_fillHere_33, P_P_fillHere_46, b_P_fillHere_46, P_P_fillHere_51, b_P_fillHere_51, P_P_fillHere_60, b_P_fillHere_60, P_P_fillHere_64, b_P_fillHere_64, P_P_fillHere_120, b_P_fillHere_120, P_P_fillHere_173, b_P_fillHere_173, wp_abs, wp_aln0, wp_bipush, wp_copy, wp_cs1, wp_cs2, wp_cs3, wp_cs4, wp_cs5, wp_cs6, wp_cs7, wp_cv1, wp_cv2, wp_cv3, wp_cv4, wp_cv5, wp_cv6, wp_cv7, wp_goto, wp_iadd, wp_iald, wp_iast, wp_icge, wp_iconst, wp_il4, wp_il5, wp_iln1, wp_iln2, wp_iln3, wp_imul, wp_inc4, wp_inc5, wp_is4, wp_is5, wp_isn3, wp_izne, wp_ldc, wp_max, wp_min, wp_nop, wp_ret, qpl_kd, qpl_k1, qpl_l1, qpl_gf0, qpl_k2, qpl_l2, qpl_gf1, qpl_k3, qpl_l3, qpl_gf2, qpl_k4, qpl_l4, qpl_gf3, qpl_k5, qpl_l5, qpl_gf4, qpl_k6, qpl_l6, qpl_gf5, qpl_gf6, qpl_pf6, qpl_gf7, qpl_pf7, qpl_gf8, qpl_pf8, wrI_row, cpI_row, row_s, row_n, row_ss, row_sw, upd_s, upd_n, ad_inj, ad_z, ad_z2, Nat.reduceEqDiff, reduceCtorEq, List.cons_append, List.nil_append, Option.toList_some, Option.toList_none, Int.toNat_natCast, List.length_cons, List.length_nil, Int.cast_ofNat_Int, Nat.reduceAdd, Nat.reduceLeDiff, Nat.reduceLT, Nat.reduceMul, Int.reduceAdd, Int.reduceSub, Int.reduceMul, Int.reduceNeg, Int.reduceLT, Int.reduceLE, Int.reduceEq, Int.reduceToNat, eq_self, true_and, and_true, true_or, or_true, false_or, or_false, if_true, if_false, not_true_eq_false, not_false_eq_true, and_self, ne_eq, b_P_fillHere_69, hA, p3, hlg, e2, e3, r1, r6]
    (repeat' (first | apply And.intro | split)) <;> first | omega | exact i1
theorem fillHere_fill (hA : isPl ρ w) (hh : g w 8 = h) (h3 : h ≤ 3) {f m : Nat} (hm : m < 8) {Q : Option AV → Sto → Prop}
    (kk : ∀ R : Nat → Int, (∀ r, r < h → R (m * 3 + r) = 1000000) → (∀ y, y < m * 3 → R y = g (ad w 5) y) → Wp zt 13 (P 13 33) [some (AR w), some (AI f), some (AI m), some (AI ((m : Int) * 3)), some (AI h), none] [] (setRow g (ad w 5) R, ρ) Q) :
    ∀ (d n : Nat) (R : Nat → Int), n + d = h → (∀ r, r < n → R (m * 3 + r) = 1000000) → (∀ y, y < m * 3 → R y = g (ad w 5) y) → Wp zt 13 (P 13 7) [some (AR w), some (AI f), some (AI m), some (AI ((m : Int) * 3)), some (AI n), none] [] (setRow g (ad w 5) R, ρ) Q := by
  intro d
  induction d with
  | zero =>
    intro n R hn q1 q2
    have e : n = h := by omega
    subst e
    have k1 := kk R q1 q2
    rw [P_P_fillHere_7]
    simp only [m_P_fillHere, b_P_fillHere_0, P_P_fillHere_46, b_P_fillHere_46, P_P_fillHere_51, b_P_fillHere_51, P_P_fillHere_60, b_P_fillHere_60, P_P_fillHere_64, b_P_fillHere_64, P_P_fillHere_120, b_P_fillHere_120, P_P_fillHere_173, b_P_fillHere_173, wp_abs, wp_aln0, wp_bipush, wp_copy, wp_cs1, wp_cs2, wp_cs3, wp_cs4, wp_cs5, wp_cs6, wp_cs7, wp_cv1, wp_cv2, wp_cv3, wp_cv4, wp_cv5, wp_cv6, wp_cv7, wp_goto, wp_iadd, wp_iald, wp_iast, wp_icge, wp_iconst, wp_il4, wp_il5, wp_iln1, wp_iln2, wp_iln3, wp_imul, wp_inc4, wp_inc5, wp_is4, wp_is5, wp_isn3, wp_izne, wp_ldc, wp_max, wp_min, wp_nop, wp_ret, qpl_kd, qpl_k1, qpl_l1, qpl_gf0, qpl_k2, qpl_l2, qpl_gf1, qpl_k3, qpl_l3, qpl_gf2, qpl_k4, qpl_l4, qpl_gf3, qpl_k5, qpl_l5, qpl_gf4, qpl_k6, qpl_l6, qpl_gf5, qpl_gf6, qpl_pf6, qpl_gf7, qpl_pf7, qpl_gf8, qpl_pf8, wrI_row, cpI_row, row_s, row_n, row_ss, row_sw, upd_s, upd_n, ad_inj, ad_z, ad_z2, Nat.reduceEqDiff, reduceCtorEq, List.cons_append, List.nil_append, Option.toList_some, Option.toList_none, Int.toNat_natCast, List.length_cons, List.length_nil, Int.cast_ofNat_Int, Nat.reduceAdd, Nat.reduceLeDiff, Nat.reduceLT, Nat.reduceMul, Int.reduceAdd, Int.reduceSub, Int.reduceMul, Int.reduceNeg, Int.reduceLT, Int.reduceLE, Int.reduceEq, Int.reduceToNat, eq_self, true_and, and_true, true_or, or_true, false_or, or_false, if_true, if_false, not_true_eq_false, not_false_eq_true, and_self, ne_eq, b_P_fillHere_7, hA, hh]
    (repeat' (first | apply And.intro | split)) <;> first | omega | exact k1
  | succ d ih =>
    intro n R hn q1 q2
    have e3 : ((m : Int) * 3 + (n : Int)).toNat = m * 3 + n := by omega
    have i1 := ih (n + 1) (upd1 R (m * 3 + n) 1000000) (by omega) (fun r z => by
        by_cases e : r = n
        · subst e
          rw [upd_s]
        · rw [upd_n (by omega)]
          exact q1 r (by omega)) (fun y z => by
        rw [upd_n (by omega)]
        exact q2 y z)
    rw [P_P_fillHere_7]
    simp only [m_P_fillHere, b_P_fillHere_0, P_P_fillHere_46, b_P_fillHere_46, P_P_fillHere_51, b_P_fillHere_51, P_P_fillHere_60, b_P_fillHere_60, P_P_fillHere_64, b_P_fillHere_64, P_P_fillHere_120, b_P_fillHere_120, P_P_fillHere_173, b_P_fillHere_173, wp_abs, wp_aln0, wp_bipush, wp_copy, wp_cs1, wp_cs2, wp_cs3, wp_cs4, wp_cs5, wp_cs6, wp_cs7, wp_cv1, wp_cv2, wp_cv3, wp_cv4, wp_cv5, wp_cv6, wp_cv7, wp_goto, wp_iadd, wp_iald, wp_iast, wp_icge, wp_iconst, wp_il4, wp_il5, wp_iln1, wp_iln2, wp_iln3, wp_imul, wp_inc4, wp_inc5, wp_is4, wp_is5, wp_isn3, wp_izne, wp_ldc, wp_max, wp_min, wp_nop, wp_ret, qpl_kd, qpl_k1, qpl_l1, qpl_gf0, qpl_k2, qpl_l2, qpl_gf1, qpl_k3, qpl_l3, qpl_gf2, qpl_k4, qpl_l4, qpl_gf3, qpl_k5, qpl_l5, qpl_gf4, qpl_k6, qpl_l6, qpl_gf5, qpl_gf6, qpl_pf6, qpl_gf7, qpl_pf7, qpl_gf8, qpl_pf8, wrI_row, cpI_row, row_s, row_n, row_ss, row_sw, upd_s, upd_n, ad_inj, ad_z, ad_z2, Nat.reduceEqDiff, reduceCtorEq, List.cons_append, List.nil_append, Option.toList_some, Option.toList_none, Int.toNat_natCast, List.length_cons, List.length_nil, Int.cast_ofNat_Int, Nat.reduceAdd, Nat.reduceLeDiff, Nat.reduceLT, Nat.reduceMul, Int.reduceAdd, Int.reduceSub, Int.reduceMul, Int.reduceNeg, Int.reduceLT, Int.reduceLE, Int.reduceEq, Int.reduceToNat, eq_self, true_and, and_true, true_or, or_true, false_or, or_false, if_true, if_false, not_true_eq_false, not_false_eq_true, and_self, ne_eq, b_P_fillHere_7, hA, hh, e3]
    (repeat' (first | apply And.intro | split)) <;> first | omega | exact i1
theorem fillHere_ok (hA : isPl ρ w) (hP : plI g w F M h c cl) (hM8 : M ≤ 8) (h1 : 1 ≤ h) (h3 : h ≤ 3) (hF : F ≤ 99) (hc : ∀ f m, 0 ≤ c f m ∧ c f m ≤ 1000000) {f m : Nat} (hf : f < F) (hm : m < M) (hR6 : ∀ f', f = f' + 1 → ∀ m r, m < M → r < h → g (ad w 6) (m * 3 + r) = Hv M h c cl f' m r) {Q : Option AV → Sto → Prop}
    (hQ : ∀ R : Nat → Int, (∀ r, r < h → R (m * 3 + r) = Hv M h c cl f m r) → (∀ y, y < m * 3 → R y = g (ad w 5) y) → Q none (setRow g (ad w 5) R, ρ)) : WpM zt 13 [AR w, AI f, AI m] (g, ρ) Q := by
  obtain ⟨p1, p2, p3, p4, p5⟩ := id hP
  have k1 := fillHere_fill (zt := zt) (g := g) (ρ := ρ) (w := w) (h := h) (Q := Q) hA p3 h3 (f := f) (m := m) (by omega) (fun R q1 q2 => by
    have e3 : ((m : Int) * 3).toNat = m * 3 := by omega
    rw [P_P_fillHere_33]
    cases f with
    | zero =>
      have k2 := fillHere_last (zt := zt) (Q := Q) hA hP hM8 h1 h3 hF hc hf hm (E := fun r => if r = 0 then 0 else 1000000) (fun r => by split <;> omega) (o4 := some (AI 0)) hQ h 0 (upd1 R (m * 3) 0) (by omega) (fun r z => by omega) (fun r _ z => by
        by_cases e : r = 0
        · subst e
          rw [if_pos rfl]
          exact upd_s
        · rw [if_neg e, upd_n (by omega)]
          exact q1 r z) (fun y z => by
        rw [upd_n (by omega)]
        exact q2 y z)
      simp only [m_P_fillHere, b_P_fillHere_0, P_P_fillHere_33, b_P_fillHere_33, P_P_fillHere_46, b_P_fillHere_46, P_P_fillHere_51, b_P_fillHere_51, P_P_fillHere_60, b_P_fillHere_60, P_P_fillHere_64, b_P_fillHere_64, P_P_fillHere_69, b_P_fillHere_69, P_P_fillHere_120, b_P_fillHere_120, P_P_fillHere_173, b_P_fillHere_173, wp_abs, wp_aln0, wp_bipush, wp_copy, wp_cs1, wp_cs2, wp_cs3, wp_cs4, wp_cs5, wp_cs6, wp_cs7, wp_cv1, wp_cv2, wp_cv3, wp_cv4, wp_cv5, wp_cv6, wp_cv7, wp_goto, wp_iadd, wp_iald, wp_iast, wp_icge, wp_iconst, wp_il4, wp_il5, wp_iln1, wp_iln2, wp_iln3, wp_imul, wp_inc4, wp_inc5, wp_is4, wp_is5, wp_isn3, wp_izne, wp_ldc, wp_max, wp_min, wp_nop, wp_ret, qpl_kd, qpl_k1, qpl_l1, qpl_gf0, qpl_k2, qpl_l2, qpl_gf1, qpl_k3, qpl_l3, qpl_gf2, qpl_k4, qpl_l4, qpl_gf3, qpl_k5, qpl_l5, qpl_gf4, qpl_k6, qpl_l6, qpl_gf5, qpl_gf6, qpl_pf6, qpl_gf7, qpl_pf7, qpl_gf8, qpl_pf8, wrI_row, cpI_row, row_s, row_n, row_ss, row_sw, upd_s, upd_n, ad_inj, ad_z, ad_z2, Nat.reduceEqDiff, reduceCtorEq, List.cons_append, List.nil_append, Option.toList_some, Option.toList_none, Int.toNat_natCast, List.length_cons, List.length_nil, Int.cast_ofNat_Int, Nat.reduceAdd, Nat.reduceLeDiff, Nat.reduceLT, Nat.reduceMul, Int.reduceAdd, Int.reduceSub, Int.reduceMul, Int.reduceNeg, Int.reduceLT, Int.reduceLE, Int.reduceEq, Int.reduceToNat, eq_self, true_and, and_true, true_or, or_true, false_or, or_false, if_true, if_false, not_true_eq_false, not_false_eq_true, and_self, ne_eq, b_P_fillHere_33, hA, p3, e3]
      (repeat' (first | apply And.intro | split)) <;> first | omega | exact k2
    | succ f' =>
      have hr6 := hR6 f' rfl
      have hlo := leastOfEntering_ok (zt := zt) (ρ := ρ) (g := setRow g (ad w 5) R) hA (plI_row5 hP R) hM8 h1 h3 hm (v := fun o => Hv M h c cl f' o (h - 1)) (fun o => (Hv_b (fun f m => (hc f m).1) f' o (h - 1)).1) (fun o ho => by
        rw [row_n (by rw [ad_inj]; decide)]
        exact hr6 o (h - 1) ho (by omega))
      have b1 := minB_b (p := fun o => !(o == m) && cl o m) (v := fun o => Hv M h c cl f' o (h - 1)) (fun o => (Hv_b (fun f m => (hc f m).1) f' o (h - 1)).1.1) M
      have k2 := fillHere_mid (zt := zt) (Q := Q) hA hP hM8 h1 h3 hF hc hf hm (E := fun r => if r = 0 then minB (fun o => !(o == m) && cl o m) (fun o => Hv M h c cl f' o (h - 1)) M else 1000000) (H := fun r => Hv M h c cl f' m r) (fun r => by split <;> omega) (fun r => (Hv_b (fun f m => (hc f m).1) f' m r).1) (fun r z => hr6 m r hm z) hQ h 0 (upd1 R (m * 3) (minB (fun o => !(o == m) && cl o m) (fun o => Hv M h c cl f' o (h - 1)) M)) (by omega) (fun r z => by
        simp only [minB]
        by_cases e : r = 0
        · subst e
          rw [if_pos rfl, Nat.add_zero, upd_s]
          omega
        · rw [if_neg e, upd_n (by omega), q1 r z]
          omega) (fun y z => by
        rw [upd_n (by omega)]
        exact q2 y z)
      have hk0 : ¬ ((f' + 1 : Nat) : Int) = 0 := by omega
      generalize hk : ((f' + 1 : Nat) : Int) = kk at *
      simp only [m_P_fillHere, b_P_fillHere_0, P_P_fillHere_33, b_P_fillHere_33, P_P_fillHere_46, b_P_fillHere_46, P_P_fillHere_51, b_P_fillHere_51, P_P_fillHere_60, b_P_fillHere_60, P_P_fillHere_64, b_P_fillHere_64, P_P_fillHere_120, b_P_fillHere_120, P_P_fillHere_173, b_P_fillHere_173, wp_abs, wp_aln0, wp_bipush, wp_copy, wp_cs1, wp_cs2, wp_cs3, wp_cs4, wp_cs5, wp_cs6, wp_cs7, wp_cv1, wp_cv2, wp_cv3, wp_cv4, wp_cv5, wp_cv6, wp_cv7, wp_goto, wp_iadd, wp_iald, wp_iast, wp_icge, wp_iconst, wp_il4, wp_il5, wp_iln1, wp_iln2, wp_iln3, wp_imul, wp_inc4, wp_inc5, wp_is4, wp_is5, wp_isn3, wp_izne, wp_ldc, wp_max, wp_min, wp_nop, wp_ret, qpl_kd, qpl_k1, qpl_l1, qpl_gf0, qpl_k2, qpl_l2, qpl_gf1, qpl_k3, qpl_l3, qpl_gf2, qpl_k4, qpl_l4, qpl_gf3, qpl_k5, qpl_l5, qpl_gf4, qpl_k6, qpl_l6, qpl_gf5, qpl_gf6, qpl_pf6, qpl_gf7, qpl_pf7, qpl_gf8, qpl_pf8, wrI_row, cpI_row, row_s, row_n, row_ss, row_sw, upd_s, upd_n, ad_inj, ad_z, ad_z2, Nat.reduceEqDiff, reduceCtorEq, List.cons_append, List.nil_append, Option.toList_some, Option.toList_none, Int.toNat_natCast, List.length_cons, List.length_nil, Int.cast_ofNat_Int, Nat.reduceAdd, Nat.reduceLeDiff, Nat.reduceLT, Nat.reduceMul, Int.reduceAdd, Int.reduceSub, Int.reduceMul, Int.reduceNeg, Int.reduceLT, Int.reduceLE, Int.reduceEq, Int.reduceToNat, eq_self, true_and, and_true, true_or, or_true, false_or, or_false, if_true, if_false, not_true_eq_false, not_false_eq_true, and_self, ne_eq, b_P_fillHere_33, hA, p3, e3, hlo, hk0]
      (repeat' (first | apply And.intro | split)) <;> first | omega | exact k2) h 0 (g (ad w 5)) (by omega) (fun r z => by omega) (fun y z => rfl)
  rw [row_id] at k1
  simp only [m_P_fillHere, b_P_fillHere_0, P_P_fillHere_33, b_P_fillHere_33, P_P_fillHere_46, b_P_fillHere_46, P_P_fillHere_51, b_P_fillHere_51, P_P_fillHere_60, b_P_fillHere_60, P_P_fillHere_64, b_P_fillHere_64, P_P_fillHere_120, b_P_fillHere_120, P_P_fillHere_173, b_P_fillHere_173, wp_abs, wp_aln0, wp_bipush, wp_copy, wp_cs1, wp_cs2, wp_cs3, wp_cs4, wp_cs5, wp_cs6, wp_cs7, wp_cv1, wp_cv2, wp_cv3, wp_cv4, wp_cv5, wp_cv6, wp_cv7, wp_goto, wp_iadd, wp_iald, wp_iast, wp_icge, wp_iconst, wp_il4, wp_il5, wp_iln1, wp_iln2, wp_iln3, wp_imul, wp_inc4, wp_inc5, wp_is4, wp_is5, wp_isn3, wp_izne, wp_ldc, wp_max, wp_min, wp_nop, wp_ret, qpl_kd, qpl_k1, qpl_l1, qpl_gf0, qpl_k2, qpl_l2, qpl_gf1, qpl_k3, qpl_l3, qpl_gf2, qpl_k4, qpl_l4, qpl_gf3, qpl_k5, qpl_l5, qpl_gf4, qpl_k6, qpl_l6, qpl_gf5, qpl_gf6, qpl_pf6, qpl_gf7, qpl_pf7, qpl_gf8, qpl_pf8, wrI_row, cpI_row, row_s, row_n, row_ss, row_sw, upd_s, upd_n, ad_inj, ad_z, ad_z2, Nat.reduceEqDiff, reduceCtorEq, List.cons_append, List.nil_append, Option.toList_some, Option.toList_none, Int.toNat_natCast, List.length_cons, List.length_nil, Int.cast_ofNat_Int, Nat.reduceAdd, Nat.reduceLeDiff, Nat.reduceLT, Nat.reduceMul, Int.reduceAdd, Int.reduceSub, Int.reduceMul, Int.reduceNeg, Int.reduceLT, Int.reduceLE, Int.reduceEq, Int.reduceToNat, eq_self, true_and, and_true, true_or, or_true, false_or, or_false, if_true, if_false, not_true_eq_false, not_false_eq_true, and_self, ne_eq, hA]
  exact k1
def fwI (g : Nat → Nat → Int) (w : Nat) (g1 : Nat → Nat → Int) : Prop := ∀ x, ¬ x = ad w 5 → ¬ x = ad w 6 → g1 x = g x
theorem plI_fw {g1 : Nat → Nat → Int} (hP : plI g w F M h c cl) (hI : fwI g w g1) : plI g1 w F M h c cl := by
  obtain ⟨p1, p2, p3, p4, p5⟩ := hP
  have e0 : g1 w = g w := hI _ (by rw [ad_z2]; decide) (by rw [ad_z2]; decide)
  have e2 : g1 (ad w 2) = g (ad w 2) := hI _ (by rw [ad_inj]; decide) (by rw [ad_inj]; decide)
  have e3 : g1 (ad w 3) = g (ad w 3) := hI _ (by rw [ad_inj]; decide) (by rw [ad_inj]; decide)
  unfold plI
  rw [e0, e2, e3]
  exact ⟨p1, p2, p3, p4, p5⟩
theorem leastFromStart_inner (hA : isPl ρ w) (hP : plI g w F M h c cl) (hM8 : M ≤ 8) (h1 : 1 ≤ h) (h3 : h ≤ 3) (hF : F ≤ 99) (hc : ∀ f m, 0 ≤ c f m ∧ c f m ≤ 1000000) {f : Nat} (hf : f < F) {o3 : Option AV} {Q : Option AV → Sto → Prop}
    (kk : ∀ (g2 : Nat → Nat → Int) (o2 : Option AV), fwI g w g2 → (∀ m r, m < M → r < h → g2 (ad w 5) (m * 3 + r) = Hv M h c cl f m r) → Wp zt 12 (P 12 11) [some (AR w), some (AI ((f : Int) + 1)), o2, o3] [] (g2, ρ) Q) :
    ∀ (d n : Nat) (g1 : Nat → Nat → Int), n + d = M → fwI g w g1 → (∀ f', f = f' + 1 → ∀ m r, m < M → r < h → g1 (ad w 6) (m * 3 + r) = Hv M h c cl f' m r) → (∀ m r, m < n → r < h → g1 (ad w 5) (m * 3 + r) = Hv M h c cl f m r) → Wp zt 12 (P 12 36) [some (AR w), some (AI f), some (AI n), o3] [] (g1, ρ) Q := by
  intro d
  induction d with
  | zero =>
    intro n g1 hn q1 q2 q3
    have e : n = M := by omega
    subst e
    have k1 := kk g1 (some (AI n)) q1 q3
    have p2 := (plI_fw hP q1).2.1
    rw [P_P_leastFromStart_36]
    simp only [m_P_leastFromStart, b_P_leastFromStart_0, P_P_leastFromStart_9, b_P_leastFromStart_9, P_P_leastFromStart_56, b_P_leastFromStart_56, P_P_leastFromStart_62, b_P_leastFromStart_62, P_P_leastFromStart_106, b_P_leastFromStart_106, P_P_leastFromStart_112, b_P_leastFromStart_112, P_P_leastFromStart_122, b_P_leastFromStart_122, P_P_leastFromStart_124, b_P_leastFromStart_124, wp_abs, wp_aln0, wp_bipush, wp_copy, wp_cs1, wp_cs2, wp_cs3, wp_cs4, wp_cs5, wp_cs6, wp_cs7, wp_cv1, wp_cv2, wp_cv3, wp_cv4, wp_cv5, wp_cv6, wp_cv7, wp_goto, wp_iadd, wp_iald, wp_icge, wp_iconst, wp_iln1, wp_iln2, wp_iln3, wp_imul, wp_inc1, wp_inc2, wp_inc3, wp_iret, wp_isn1, wp_isn2, wp_isn3, wp_izne, wp_ldc, wp_max, wp_min, wp_nop, wp_zret, qpl_kd, qpl_k1, qpl_l1, qpl_gf0, qpl_k2, qpl_l2, qpl_gf1, qpl_k3, qpl_l3, qpl_gf2, qpl_k4, qpl_l4, qpl_gf3, qpl_k5, qpl_l5, qpl_gf4, qpl_k6, qpl_l6, qpl_gf5, qpl_gf6, qpl_pf6, qpl_gf7, qpl_pf7, qpl_gf8, qpl_pf8, wrI_row, cpI_row, row_s, row_n, row_ss, row_sw, upd_s, upd_n, ad_inj, ad_z, ad_z2, Nat.reduceEqDiff, reduceCtorEq, List.cons_append, List.nil_append, Option.toList_some, Option.toList_none, Int.toNat_natCast, List.length_cons, List.length_nil, Int.cast_ofNat_Int, Nat.reduceAdd, Nat.reduceLeDiff, Nat.reduceLT, Nat.reduceMul, Int.reduceAdd, Int.reduceSub, Int.reduceMul, Int.reduceNeg, Int.reduceLT, Int.reduceLE, Int.reduceEq, Int.reduceToNat, eq_self, true_and, and_true, true_or, or_true, false_or, or_false, if_true, if_false, not_true_eq_false, not_false_eq_true, and_self, ne_eq, b_P_leastFromStart_36, hA, p2]
    (repeat' (first | apply And.intro | split)) <;> first | omega | exact k1
  | succ d ih =>
    intro n g1 hn q1 q2 q3
    have p2 := (plI_fw hP q1).2.1
    rw [P_P_leastFromStart_36]
    simp only [m_P_leastFromStart, b_P_leastFromStart_0, P_P_leastFromStart_9, b_P_leastFromStart_9, P_P_leastFromStart_56, b_P_leastFromStart_56, P_P_leastFromStart_62, b_P_leastFromStart_62, P_P_leastFromStart_106, b_P_leastFromStart_106, P_P_leastFromStart_112, b_P_leastFromStart_112, P_P_leastFromStart_122, b_P_leastFromStart_122, P_P_leastFromStart_124, b_P_leastFromStart_124, wp_abs, wp_aln0, wp_bipush, wp_copy, wp_cs1, wp_cs2, wp_cs3, wp_cs4, wp_cs5, wp_cs6, wp_cs7, wp_cv1, wp_cv2, wp_cv3, wp_cv4, wp_cv5, wp_cv6, wp_cv7, wp_goto, wp_iadd, wp_iald, wp_icge, wp_iconst, wp_iln1, wp_iln2, wp_iln3, wp_imul, wp_inc1, wp_inc2, wp_inc3, wp_iret, wp_isn1, wp_isn2, wp_isn3, wp_izne, wp_ldc, wp_max, wp_min, wp_nop, wp_zret, qpl_kd, qpl_k1, qpl_l1, qpl_gf0, qpl_k2, qpl_l2, qpl_gf1, qpl_k3, qpl_l3, qpl_gf2, qpl_k4, qpl_l4, qpl_gf3, qpl_k5, qpl_l5, qpl_gf4, qpl_k6, qpl_l6, qpl_gf5, qpl_gf6, qpl_pf6, qpl_gf7, qpl_pf7, qpl_gf8, qpl_pf8, wrI_row, cpI_row, row_s, row_n, row_ss, row_sw, upd_s, upd_n, ad_inj, ad_z, ad_z2, Nat.reduceEqDiff, reduceCtorEq, List.cons_append, List.nil_append, Option.toList_some, Option.toList_none, Int.toNat_natCast, List.length_cons, List.length_nil, Int.cast_ofNat_Int, Nat.reduceAdd, Nat.reduceLeDiff, Nat.reduceLT, Nat.reduceMul, Int.reduceAdd, Int.reduceSub, Int.reduceMul, Int.reduceNeg, Int.reduceLT, Int.reduceLE, Int.reduceEq, Int.reduceToNat, eq_self, true_and, and_true, true_or, or_true, false_or, or_false, if_true, if_false, not_true_eq_false, not_false_eq_true, and_self, ne_eq, b_P_leastFromStart_36, hA, p2]
    (repeat' (first | apply And.intro | split)) <;> first | omega | skip
    refine fillHere_ok hA (plI_fw hP q1) hM8 h1 h3 hF hc hf (by omega) q2 (fun R z1 z2 => ?_)
    have i1 := ih (n + 1) (setRow g1 (ad w 5) R) (by omega) (fun x y1 y2 => by
      rw [row_n y1]
      exact q1 x y1 y2) (by
      rw [row_n (by rw [ad_inj]; decide)]
      exact q2) (fun m r y1 y2 => by
      rw [row_s]
      by_cases e : m = n
      · subst e
        exact z1 r y2
      · rw [z2 _ (by omega)]
        exact q3 m r (by omega) y2)
    simp only [m_P_leastFromStart, b_P_leastFromStart_0, P_P_leastFromStart_9, b_P_leastFromStart_9, P_P_leastFromStart_56, b_P_leastFromStart_56, P_P_leastFromStart_62, b_P_leastFromStart_62, P_P_leastFromStart_106, b_P_leastFromStart_106, P_P_leastFromStart_112, b_P_leastFromStart_112, P_P_leastFromStart_122, b_P_leastFromStart_122, P_P_leastFromStart_124, b_P_leastFromStart_124, wp_abs, wp_aln0, wp_bipush, wp_copy, wp_cs1, wp_cs2, wp_cs3, wp_cs4, wp_cs5, wp_cs6, wp_cs7, wp_cv1, wp_cv2, wp_cv3, wp_cv4, wp_cv5, wp_cv6, wp_cv7, wp_goto, wp_iadd, wp_iald, wp_icge, wp_iconst, wp_iln1, wp_iln2, wp_iln3, wp_imul, wp_inc1, wp_inc2, wp_inc3, wp_iret, wp_isn1, wp_isn2, wp_isn3, wp_izne, wp_ldc, wp_max, wp_min, wp_nop, wp_zret, qpl_kd, qpl_k1, qpl_l1, qpl_gf0, qpl_k2, qpl_l2, qpl_gf1, qpl_k3, qpl_l3, qpl_gf2, qpl_k4, qpl_l4, qpl_gf3, qpl_k5, qpl_l5, qpl_gf4, qpl_k6, qpl_l6, qpl_gf5, qpl_gf6, qpl_pf6, qpl_gf7, qpl_pf7, qpl_gf8, qpl_pf8, wrI_row, cpI_row, row_s, row_n, row_ss, row_sw, upd_s, upd_n, ad_inj, ad_z, ad_z2, Nat.reduceEqDiff, reduceCtorEq, List.cons_append, List.nil_append, Option.toList_some, Option.toList_none, Int.toNat_natCast, List.length_cons, List.length_nil, Int.cast_ofNat_Int, Nat.reduceAdd, Nat.reduceLeDiff, Nat.reduceLT, Nat.reduceMul, Int.reduceAdd, Int.reduceSub, Int.reduceMul, Int.reduceNeg, Int.reduceLT, Int.reduceLE, Int.reduceEq, Int.reduceToNat, eq_self, true_and, and_true, true_or, or_true, false_or, or_false, if_true, if_false, not_true_eq_false, not_false_eq_true, and_self, ne_eq, hA, p2]
    (repeat' (first | apply And.intro | split)) <;> first | omega | exact i1
theorem leastFromStart_least2 (hA : isPl ρ w) (hh : g w 8 = h) (h1 : 1 ≤ h) (h3 : h ≤ 3) {m : Nat} (hm : m < 8) {v : Nat → Int} (hv : ∀ j, 0 ≤ v j ∧ v j ≤ 1000000) (hR : ∀ r, r < h → g (ad w 5) (m * 3 + r) = v r) {t : Int} (ht : 0 ≤ t ∧ t ≤ 1000000) {Q : Option AV → Sto → Prop}
    (kk : ∀ o : Option AV, Wp zt 12 (P 12 67) [some (AR w), some (AI (min t (minB (fun _ => true) v h))), some (AI ((m : Int) + 1)), o] [] (g, ρ) Q) :
    ∀ (d n : Nat), n + d = h → Wp zt 12 (P 12 77) [some (AR w), some (AI (min t (minB (fun _ => true) v n))), some (AI m), some (AI n)] [] (g, ρ) Q := by
  intro d
  induction d with
  | zero =>
    intro n hn
    have e : n = h := by omega
    subst e
    have k1 := kk (some (AI n))
    rw [P_P_leastFromStart_77]
    simp only [m_P_leastFromStart, b_P_leastFromStart_0, P_P_leastFromStart_9, b_P_leastFromStart_9, P_P_leastFromStart_56, b_P_leastFromStart_56, P_P_leastFromStart_62, b_P_leastFromStart_62, P_P_leastFromStart_106, b_P_leastFromStart_106, P_P_leastFromStart_112, b_P_leastFromStart_112, P_P_leastFromStart_122, b_P_leastFromStart_122, P_P_leastFromStart_124, b_P_leastFromStart_124, wp_abs, wp_aln0, wp_bipush, wp_copy, wp_cs1, wp_cs2, wp_cs3, wp_cs4, wp_cs5, wp_cs6, wp_cs7, wp_cv1, wp_cv2, wp_cv3, wp_cv4, wp_cv5, wp_cv6, wp_cv7, wp_goto, wp_iadd, wp_iald, wp_icge, wp_iconst, wp_iln1, wp_iln2, wp_iln3, wp_imul, wp_inc1, wp_inc2, wp_inc3, wp_iret, wp_isn1, wp_isn2, wp_isn3, wp_izne, wp_ldc, wp_max, wp_min, wp_nop, wp_zret, qpl_kd, qpl_k1, qpl_l1, qpl_gf0, qpl_k2, qpl_l2, qpl_gf1, qpl_k3, qpl_l3, qpl_gf2, qpl_k4, qpl_l4, qpl_gf3, qpl_k5, qpl_l5, qpl_gf4, qpl_k6, qpl_l6, qpl_gf5, qpl_gf6, qpl_pf6, qpl_gf7, qpl_pf7, qpl_gf8, qpl_pf8, wrI_row, cpI_row, row_s, row_n, row_ss, row_sw, upd_s, upd_n, ad_inj, ad_z, ad_z2, Nat.reduceEqDiff, reduceCtorEq, List.cons_append, List.nil_append, Option.toList_some, Option.toList_none, Int.toNat_natCast, List.length_cons, List.length_nil, Int.cast_ofNat_Int, Nat.reduceAdd, Nat.reduceLeDiff, Nat.reduceLT, Nat.reduceMul, Int.reduceAdd, Int.reduceSub, Int.reduceMul, Int.reduceNeg, Int.reduceLT, Int.reduceLE, Int.reduceEq, Int.reduceToNat, eq_self, true_and, and_true, true_or, or_true, false_or, or_false, if_true, if_false, not_true_eq_false, not_false_eq_true, and_self, ne_eq, b_P_leastFromStart_77, hA, hh]
    (repeat' (first | apply And.intro | split)) <;> first | omega | exact k1
  | succ d ih =>
    intro n hn
    have i1 := ih (n + 1) (by omega)
    have b1 := minB_b (p := fun _ => true) (v := v) (fun j => (hv j).1) n
    have b2 := hv n
    have r1 := hR n (by omega)
    have e3 : ((m : Int) * 3 + (n : Int)).toNat = m * 3 + n := by omega
    simp only [minB, if_true] at i1
    rw [show min t (min (minB (fun _ => true) v n) (v n)) = min (min t (minB (fun _ => true) v n)) (v n) by omega] at i1
    rw [P_P_leastFromStart_77]
    simp only [m_P_leastFromStart, b_P_leastFromStart_0, P_P_leastFromStart_9, b_P_leastFromStart_9, P_P_leastFromStart_56, b_P_leastFromStart_56, P_P_leastFromStart_62, b_P_leastFromStart_62, P_P_leastFromStart_106, b_P_leastFromStart_106, P_P_leastFromStart_112, b_P_leastFromStart_112, P_P_leastFromStart_122, b_P_leastFromStart_122, P_P_leastFromStart_124, b_P_leastFromStart_124, wp_abs, wp_aln0, wp_bipush, wp_copy, wp_cs1, wp_cs2, wp_cs3, wp_cs4, wp_cs5, wp_cs6, wp_cs7, wp_cv1, wp_cv2, wp_cv3, wp_cv4, wp_cv5, wp_cv6, wp_cv7, wp_goto, wp_iadd, wp_iald, wp_icge, wp_iconst, wp_iln1, wp_iln2, wp_iln3, wp_imul, wp_inc1, wp_inc2, wp_inc3, wp_iret, wp_isn1, wp_isn2, wp_isn3, wp_izne, wp_ldc, wp_max, wp_min, wp_nop, wp_zret, qpl_kd, qpl_k1, qpl_l1, qpl_gf0, qpl_k2, qpl_l2, qpl_gf1, qpl_k3, qpl_l3, qpl_gf2, qpl_k4, qpl_l4, qpl_gf3, qpl_k5, qpl_l5, qpl_gf4, qpl_k6, qpl_l6, qpl_gf5, qpl_gf6, qpl_pf6, qpl_gf7, qpl_pf7, qpl_gf8, qpl_pf8, wrI_row, cpI_row, row_s, row_n, row_ss, row_sw, upd_s, upd_n, ad_inj, ad_z, ad_z2, Nat.reduceEqDiff, reduceCtorEq, List.cons_append, List.nil_append, Option.toList_some, Option.toList_none, Int.toNat_natCast, List.length_cons, List.length_nil, Int.cast_ofNat_Int, Nat.reduceAdd, Nat.reduceLeDiff, Nat.reduceLT, Nat.reduceMul, Int.reduceAdd, Int.reduceSub, Int.reduceMul, Int.reduceNeg, Int.reduceLT, Int.reduceLE, Int.reduceEq, Int.reduceToNat, eq_self, true_and, and_true, true_or, or_true, false_or, or_false, if_true, if_false, not_true_eq_false, not_false_eq_true, and_self, ne_eq, b_P_leastFromStart_77, hA, hh, r1, e3]
    (repeat' (first | apply And.intro | split)) <;> first | omega | exact i1
theorem leastFromStart_least (hA : isPl ρ w) (hM : g w 7 = M) (hM8 : M ≤ 8) (hh : g w 8 = h) (h1 : 1 ≤ h) (h3 : h ≤ 3) {v : Nat → Nat → Int} (hv : ∀ m j, 0 ≤ v m j ∧ v m j ≤ 1000000) (hR : ∀ m r, m < M → r < h → g (ad w 5) (m * 3 + r) = v m r) {Q : Option AV → Sto → Prop} {t : Int} (ht : minB (fun _ => true) (fun m => minB (fun _ => true) (v m) h) M = t) (hQ : Q (some (AI (if t < 1000000 then t else -99))) (g, ρ)) :
    ∀ (d n : Nat) (o3 : Option AV), n + d = M → Wp zt 12 (P 12 67) [some (AR w), some (AI (minB (fun _ => true) (fun m => minB (fun _ => true) (v m) h) n)), some (AI n), o3] [] (g, ρ) Q := by
  have hb := fun m => minB_b (p := fun _ => true) (v := v m) (fun j => (hv m j).1) h
  intro d
  induction d with
  | zero =>
    intro n o3 hn
    have e : n = M := by omega
    subst e
    have b1 := minB_b (p := fun _ => true) (v := fun m => minB (fun _ => true) (v m) h) (fun j => (hb j).1) n
    rw [ht] at b1
    rw [P_P_leastFromStart_67, ht]
    by_cases hc : t < 1000000
    · rw [if_pos hc] at hQ
      simp only [m_P_leastFromStart, b_P_leastFromStart_0, P_P_leastFromStart_9, b_P_leastFromStart_9, P_P_leastFromStart_56, b_P_leastFromStart_56, P_P_leastFromStart_62, b_P_leastFromStart_62, P_P_leastFromStart_106, b_P_leastFromStart_106, P_P_leastFromStart_112, b_P_leastFromStart_112, P_P_leastFromStart_122, b_P_leastFromStart_122, P_P_leastFromStart_124, b_P_leastFromStart_124, wp_abs, wp_aln0, wp_bipush, wp_copy, wp_cs1, wp_cs2, wp_cs3, wp_cs4, wp_cs5, wp_cs6, wp_cs7, wp_cv1, wp_cv2, wp_cv3, wp_cv4, wp_cv5, wp_cv6, wp_cv7, wp_goto, wp_iadd, wp_iald, wp_icge, wp_iconst, wp_iln1, wp_iln2, wp_iln3, wp_imul, wp_inc1, wp_inc2, wp_inc3, wp_iret, wp_isn1, wp_isn2, wp_isn3, wp_izne, wp_ldc, wp_max, wp_min, wp_nop, wp_zret, qpl_kd, qpl_k1, qpl_l1, qpl_gf0, qpl_k2, qpl_l2, qpl_gf1, qpl_k3, qpl_l3, qpl_gf2, qpl_k4, qpl_l4, qpl_gf3, qpl_k5, qpl_l5, qpl_gf4, qpl_k6, qpl_l6, qpl_gf5, qpl_gf6, qpl_pf6, qpl_gf7, qpl_pf7, qpl_gf8, qpl_pf8, wrI_row, cpI_row, row_s, row_n, row_ss, row_sw, upd_s, upd_n, ad_inj, ad_z, ad_z2, Nat.reduceEqDiff, reduceCtorEq, List.cons_append, List.nil_append, Option.toList_some, Option.toList_none, Int.toNat_natCast, List.length_cons, List.length_nil, Int.cast_ofNat_Int, Nat.reduceAdd, Nat.reduceLeDiff, Nat.reduceLT, Nat.reduceMul, Int.reduceAdd, Int.reduceSub, Int.reduceMul, Int.reduceNeg, Int.reduceLT, Int.reduceLE, Int.reduceEq, Int.reduceToNat, eq_self, true_and, and_true, true_or, or_true, false_or, or_false, if_true, if_false, not_true_eq_false, not_false_eq_true, and_self, ne_eq, b_P_leastFromStart_67, hA, hM]
      (repeat' (first | apply And.intro | split)) <;> first | omega | exact hQ
    · rw [if_neg hc] at hQ
      simp only [m_P_leastFromStart, b_P_leastFromStart_0, P_P_leastFromStart_9, b_P_leastFromStart_9, P_P_leastFromStart_56, b_P_leastFromStart_56, P_P_leastFromStart_62, b_P_leastFromStart_62, P_P_leastFromStart_106, b_P_leastFromStart_106, P_P_leastFromStart_112, b_P_leastFromStart_112, P_P_leastFromStart_122, b_P_leastFromStart_122, P_P_leastFromStart_124, b_P_leastFromStart_124, wp_abs, wp_aln0, wp_bipush, wp_copy, wp_cs1, wp_cs2, wp_cs3, wp_cs4, wp_cs5, wp_cs6, wp_cs7, wp_cv1, wp_cv2, wp_cv3, wp_cv4, wp_cv5, wp_cv6, wp_cv7, wp_goto, wp_iadd, wp_iald, wp_icge, wp_iconst, wp_iln1, wp_iln2, wp_iln3, wp_imul, wp_inc1, wp_inc2, wp_inc3, wp_iret, wp_isn1, wp_isn2, wp_isn3, wp_izne, wp_ldc, wp_max, wp_min, wp_nop, wp_zret, qpl_kd, qpl_k1, qpl_l1, qpl_gf0, qpl_k2, qpl_l2, qpl_gf1, qpl_k3, qpl_l3, qpl_gf2, qpl_k4, qpl_l4, qpl_gf3, qpl_k5, qpl_l5, qpl_gf4, qpl_k6, qpl_l6, qpl_gf5, qpl_gf6, qpl_pf6, qpl_gf7, qpl_pf7, qpl_gf8, qpl_pf8, wrI_row, cpI_row, row_s, row_n, row_ss, row_sw, upd_s, upd_n, ad_inj, ad_z, ad_z2, Nat.reduceEqDiff, reduceCtorEq, List.cons_append, List.nil_append, Option.toList_some, Option.toList_none, Int.toNat_natCast, List.length_cons, List.length_nil, Int.cast_ofNat_Int, Nat.reduceAdd, Nat.reduceLeDiff, Nat.reduceLT, Nat.reduceMul, Int.reduceAdd, Int.reduceSub, Int.reduceMul, Int.reduceNeg, Int.reduceLT, Int.reduceLE, Int.reduceEq, Int.reduceToNat, eq_self, true_and, and_true, true_or, or_true, false_or, or_false, if_true, if_false, not_true_eq_false, not_false_eq_true, and_self, ne_eq, b_P_leastFromStart_67, hA, hM]
      (repeat' (first | apply And.intro | split)) <;> first | omega | exact hQ
  | succ d ih =>
    intro n o3 hn
    have b1 := minB_b (p := fun _ => true) (v := fun m => minB (fun _ => true) (v m) h) (fun j => (hb j).1) n
    have k1 := leastFromStart_least2 (zt := zt) (ρ := ρ) hA hh h1 h3 (m := n) (by omega) (hv n) (fun r z => hR n r (by omega) z) b1 (Q := Q) (fun o => by
      have := ih (n + 1) o (by omega)
      simp only [minB, if_true] at this
      exact this) h 0 (by omega)
    simp only [minB] at k1
    rw [show min (minB (fun _ => true) (fun m => minB (fun _ => true) (v m) h) n) 1000000 = minB (fun _ => true) (fun m => minB (fun _ => true) (v m) h) n by omega] at k1
    rw [P_P_leastFromStart_67]
    simp only [m_P_leastFromStart, b_P_leastFromStart_0, P_P_leastFromStart_9, b_P_leastFromStart_9, P_P_leastFromStart_56, b_P_leastFromStart_56, P_P_leastFromStart_62, b_P_leastFromStart_62, P_P_leastFromStart_106, b_P_leastFromStart_106, P_P_leastFromStart_112, b_P_leastFromStart_112, P_P_leastFromStart_122, b_P_leastFromStart_122, P_P_leastFromStart_124, b_P_leastFromStart_124, wp_abs, wp_aln0, wp_bipush, wp_copy, wp_cs1, wp_cs2, wp_cs3, wp_cs4, wp_cs5, wp_cs6, wp_cs7, wp_cv1, wp_cv2, wp_cv3, wp_cv4, wp_cv5, wp_cv6, wp_cv7, wp_goto, wp_iadd, wp_iald, wp_icge, wp_iconst, wp_iln1, wp_iln2, wp_iln3, wp_imul, wp_inc1, wp_inc2, wp_inc3, wp_iret, wp_isn1, wp_isn2, wp_isn3, wp_izne, wp_ldc, wp_max, wp_min, wp_nop, wp_zret, qpl_kd, qpl_k1, qpl_l1, qpl_gf0, qpl_k2, qpl_l2, qpl_gf1, qpl_k3, qpl_l3, qpl_gf2, qpl_k4, qpl_l4, qpl_gf3, qpl_k5, qpl_l5, qpl_gf4, qpl_k6, qpl_l6, qpl_gf5, qpl_gf6, qpl_pf6, qpl_gf7, qpl_pf7, qpl_gf8, qpl_pf8, wrI_row, cpI_row, row_s, row_n, row_ss, row_sw, upd_s, upd_n, ad_inj, ad_z, ad_z2, Nat.reduceEqDiff, reduceCtorEq, List.cons_append, List.nil_append, Option.toList_some, Option.toList_none, Int.toNat_natCast, List.length_cons, List.length_nil, Int.cast_ofNat_Int, Nat.reduceAdd, Nat.reduceLeDiff, Nat.reduceLT, Nat.reduceMul, Int.reduceAdd, Int.reduceSub, Int.reduceMul, Int.reduceNeg, Int.reduceLT, Int.reduceLE, Int.reduceEq, Int.reduceToNat, eq_self, true_and, and_true, true_or, or_true, false_or, or_false, if_true, if_false, not_true_eq_false, not_false_eq_true, and_self, ne_eq, b_P_leastFromStart_67, hA, hM]
    (repeat' (first | apply And.intro | split)) <;> first | omega | exact k1
theorem leastFromStart_loop (hA : isPl ρ w) (hP : plI g w F M h c cl) (hM8 : M ≤ 8) (h1 : 1 ≤ h) (h3 : h ≤ 3) (hF : F ≤ 99) (hF0 : F ≠ 0) (hc : ∀ f m, 0 ≤ c f m ∧ c f m ≤ 1000000) {Q : Option AV → Sto → Prop} (hQ : ∀ g2 : Nat → Nat → Int, fwI g w g2 → Q (some (AI (lstV F M h c cl))) (g2, ρ)) :
    ∀ (d f : Nat) (g1 : Nat → Nat → Int) (o2 : Option AV), f + d = F → fwI g w g1 → (∀ f', f = f' + 1 → ∀ m r, m < M → r < h → g1 (ad w 5) (m * 3 + r) = Hv M h c cl f' m r) → Wp zt 12 (P 12 11) [some (AR w), some (AI f), o2, none] [] (g1, ρ) Q := by
  intro d
  induction d with
  | zero =>
    intro f g1 o2 hf q1 q2
    have e : f = F := by omega
    subst e
    have hq := hQ g1 q1
    unfold lstV at hq
    rw [if_neg hF0, ← tot_eq (fun f m => (hc f m).1) (by omega) (by omega)] at hq
    obtain ⟨p1, p2, p3, -, -⟩ := plI_fw hP q1
    have k1 := leastFromStart_least (zt := zt) (ρ := ρ) (g := g1) hA p2 hM8 p3 h1 h3 (v := fun m r => Hv M h c cl (f - 1) m r) (fun m r => (Hv_b (fun f m => (hc f m).1) (f - 1) m r).1) (q2 (f - 1) (by omega)) (t := totH f M h c cl) rfl hq M 0 none (by omega)
    rw [P_P_leastFromStart_11]
    simp only [m_P_leastFromStart, b_P_leastFromStart_0, P_P_leastFromStart_9, b_P_leastFromStart_9, P_P_leastFromStart_56, b_P_leastFromStart_56, P_P_leastFromStart_62, b_P_leastFromStart_62, P_P_leastFromStart_106, b_P_leastFromStart_106, P_P_leastFromStart_112, b_P_leastFromStart_112, P_P_leastFromStart_122, b_P_leastFromStart_122, P_P_leastFromStart_124, b_P_leastFromStart_124, wp_abs, wp_aln0, wp_bipush, wp_copy, wp_cs1, wp_cs2, wp_cs3, wp_cs4, wp_cs5, wp_cs6, wp_cs7, wp_cv1, wp_cv2, wp_cv3, wp_cv4, wp_cv5, wp_cv6, wp_cv7, wp_goto, wp_iadd, wp_iald, wp_icge, wp_iconst, wp_iln1, wp_iln2, wp_iln3, wp_imul, wp_inc1, wp_inc2, wp_inc3, wp_iret, wp_isn1, wp_isn2, wp_isn3, wp_izne, wp_ldc, wp_max, wp_min, wp_nop, wp_zret, qpl_kd, qpl_k1, qpl_l1, qpl_gf0, qpl_k2, qpl_l2, qpl_gf1, qpl_k3, qpl_l3, qpl_gf2, qpl_k4, qpl_l4, qpl_gf3, qpl_k5, qpl_l5, qpl_gf4, qpl_k6, qpl_l6, qpl_gf5, qpl_gf6, qpl_pf6, qpl_gf7, qpl_pf7, qpl_gf8, qpl_pf8, wrI_row, cpI_row, row_s, row_n, row_ss, row_sw, upd_s, upd_n, ad_inj, ad_z, ad_z2, Nat.reduceEqDiff, reduceCtorEq, List.cons_append, List.nil_append, Option.toList_some, Option.toList_none, Int.toNat_natCast, List.length_cons, List.length_nil, Int.cast_ofNat_Int, Nat.reduceAdd, Nat.reduceLeDiff, Nat.reduceLT, Nat.reduceMul, Int.reduceAdd, Int.reduceSub, Int.reduceMul, Int.reduceNeg, Int.reduceLT, Int.reduceLE, Int.reduceEq, Int.reduceToNat, eq_self, true_and, and_true, true_or, or_true, false_or, or_false, if_true, if_false, not_true_eq_false, not_false_eq_true, and_self, ne_eq, b_P_leastFromStart_11, hA, p1]
    (repeat' (first | apply And.intro | split)) <;> first | omega | exact k1
  | succ d ih =>
    intro f g1 o2 hf q1 q2
    obtain ⟨p1, p2, p3, -, -⟩ := plI_fw hP q1
    have k1 := leastFromStart_inner (zt := zt) (ρ := ρ) (Q := Q) (o3 := none) hA hP hM8 h1 h3 hF hc (f := f) (by omega) (fun g2 o z1 z2 => ih (f + 1) g2 o (by omega) z1 (fun f' e => by
      have e2 : f' = f := by omega
      subst e2
      exact z2)) M 0 (setRow g1 (ad w 6) (cpR (g1 (ad w 5)) (g1 (ad w 6)) 0 0 24)) (by omega) (fun x y1 y2 => by
      rw [row_n y2]
      exact q1 x y1 y2) (fun f' e m r y1 y2 => by
      rw [row_s, cpR_0 (by omega)]
      exact q2 f' e m r y1 y2) (fun m r y1 y2 => by omega)
    rw [P_P_leastFromStart_11]
    simp only [m_P_leastFromStart, b_P_leastFromStart_0, P_P_leastFromStart_9, b_P_leastFromStart_9, P_P_leastFromStart_56, b_P_leastFromStart_56, P_P_leastFromStart_62, b_P_leastFromStart_62, P_P_leastFromStart_106, b_P_leastFromStart_106, P_P_leastFromStart_112, b_P_leastFromStart_112, P_P_leastFromStart_122, b_P_leastFromStart_122, P_P_leastFromStart_124, b_P_leastFromStart_124, wp_abs, wp_aln0, wp_bipush, wp_copy, wp_cs1, wp_cs2, wp_cs3, wp_cs4, wp_cs5, wp_cs6, wp_cs7, wp_cv1, wp_cv2, wp_cv3, wp_cv4, wp_cv5, wp_cv6, wp_cv7, wp_goto, wp_iadd, wp_iald, wp_icge, wp_iconst, wp_iln1, wp_iln2, wp_iln3, wp_imul, wp_inc1, wp_inc2, wp_inc3, wp_iret, wp_isn1, wp_isn2, wp_isn3, wp_izne, wp_ldc, wp_max, wp_min, wp_nop, wp_zret, qpl_kd, qpl_k1, qpl_l1, qpl_gf0, qpl_k2, qpl_l2, qpl_gf1, qpl_k3, qpl_l3, qpl_gf2, qpl_k4, qpl_l4, qpl_gf3, qpl_k5, qpl_l5, qpl_gf4, qpl_k6, qpl_l6, qpl_gf5, qpl_gf6, qpl_pf6, qpl_gf7, qpl_pf7, qpl_gf8, qpl_pf8, wrI_row, cpI_row, row_s, row_n, row_ss, row_sw, upd_s, upd_n, ad_inj, ad_z, ad_z2, Nat.reduceEqDiff, reduceCtorEq, List.cons_append, List.nil_append, Option.toList_some, Option.toList_none, Int.toNat_natCast, List.length_cons, List.length_nil, Int.cast_ofNat_Int, Nat.reduceAdd, Nat.reduceLeDiff, Nat.reduceLT, Nat.reduceMul, Int.reduceAdd, Int.reduceSub, Int.reduceMul, Int.reduceNeg, Int.reduceLT, Int.reduceLE, Int.reduceEq, Int.reduceToNat, eq_self, true_and, and_true, true_or, or_true, false_or, or_false, if_true, if_false, not_true_eq_false, not_false_eq_true, and_self, ne_eq, b_P_leastFromStart_11, hA, p1]
    (repeat' (first | apply And.intro | split)) <;> first | omega | exact k1
theorem leastFromStart_ok (hA : isPl ρ w) (hP : plI g w F M h c cl) (hM8 : M ≤ 8) (h1 : 1 ≤ h) (h3 : h ≤ 3) (hF : F ≤ 99) (hc : ∀ f m, 0 ≤ c f m ∧ c f m ≤ 1000000) {Q : Option AV → Sto → Prop} (hQ : ∀ g2 : Nat → Nat → Int, fwI g w g2 → Q (some (AI (lstV F M h c cl))) (g2, ρ)) : WpM zt 12 [AR w] (g, ρ) Q := by
  obtain ⟨p1, p2, p3, p4, p5⟩ := id hP
  by_cases hF0 : F = 0
  · have hq := hQ g (fun x _ _ => rfl)
    unfold lstV at hq
    rw [if_pos hF0] at hq
    subst hF0
    simp only [m_P_leastFromStart, b_P_leastFromStart_0, P_P_leastFromStart_9, b_P_leastFromStart_9, P_P_leastFromStart_56, b_P_leastFromStart_56, P_P_leastFromStart_62, b_P_leastFromStart_62, P_P_leastFromStart_106, b_P_leastFromStart_106, P_P_leastFromStart_112, b_P_leastFromStart_112, P_P_leastFromStart_122, b_P_leastFromStart_122, P_P_leastFromStart_124, b_P_leastFromStart_124, wp_abs, wp_aln0, wp_bipush, wp_copy, wp_cs1, wp_cs2, wp_cs3, wp_cs4, wp_cs5, wp_cs6, wp_cs7, wp_cv1, wp_cv2, wp_cv3, wp_cv4, wp_cv5, wp_cv6, wp_cv7, wp_goto, wp_iadd, wp_iald, wp_icge, wp_iconst, wp_iln1, wp_iln2, wp_iln3, wp_imul, wp_inc1, wp_inc2, wp_inc3, wp_iret, wp_isn1, wp_isn2, wp_isn3, wp_izne, wp_ldc, wp_max, wp_min, wp_nop, wp_zret, qpl_kd, qpl_k1, qpl_l1, qpl_gf0, qpl_k2, qpl_l2, qpl_gf1, qpl_k3, qpl_l3, qpl_gf2, qpl_k4, qpl_l4, qpl_gf3, qpl_k5, qpl_l5, qpl_gf4, qpl_k6, qpl_l6, qpl_gf5, qpl_gf6, qpl_pf6, qpl_gf7, qpl_pf7, qpl_gf8, qpl_pf8, wrI_row, cpI_row, row_s, row_n, row_ss, row_sw, upd_s, upd_n, ad_inj, ad_z, ad_z2, Nat.reduceEqDiff, reduceCtorEq, List.cons_append, List.nil_append, Option.toList_some, Option.toList_none, Int.toNat_natCast, List.length_cons, List.length_nil, Int.cast_ofNat_Int, Nat.reduceAdd, Nat.reduceLeDiff, Nat.reduceLT, Nat.reduceMul, Int.reduceAdd, Int.reduceSub, Int.reduceMul, Int.reduceNeg, Int.reduceLT, Int.reduceLE, Int.reduceEq, Int.reduceToNat, eq_self, true_and, and_true, true_or, or_true, false_or, or_false, if_true, if_false, not_true_eq_false, not_false_eq_true, and_self, ne_eq, hA, p1]
    exact hq
  · have k1 := leastFromStart_loop (zt := zt) hA hP hM8 h1 h3 hF hF0 hc hQ F 0 g none (by omega) (fun x _ _ => rfl) (fun f' e => by omega)
    have hF1 : ¬ (F : Int) = 0 := by omega
    simp only [m_P_leastFromStart, b_P_leastFromStart_0, P_P_leastFromStart_9, b_P_leastFromStart_9, P_P_leastFromStart_56, b_P_leastFromStart_56, P_P_leastFromStart_62, b_P_leastFromStart_62, P_P_leastFromStart_106, b_P_leastFromStart_106, P_P_leastFromStart_112, b_P_leastFromStart_112, P_P_leastFromStart_122, b_P_leastFromStart_122, P_P_leastFromStart_124, b_P_leastFromStart_124, wp_abs, wp_aln0, wp_bipush, wp_copy, wp_cs1, wp_cs2, wp_cs3, wp_cs4, wp_cs5, wp_cs6, wp_cs7, wp_cv1, wp_cv2, wp_cv3, wp_cv4, wp_cv5, wp_cv6, wp_cv7, wp_goto, wp_iadd, wp_iald, wp_icge, wp_iconst, wp_iln1, wp_iln2, wp_iln3, wp_imul, wp_inc1, wp_inc2, wp_inc3, wp_iret, wp_isn1, wp_isn2, wp_isn3, wp_izne, wp_ldc, wp_max, wp_min, wp_nop, wp_zret, qpl_kd, qpl_k1, qpl_l1, qpl_gf0, qpl_k2, qpl_l2, qpl_gf1, qpl_k3, qpl_l3, qpl_gf2, qpl_k4, qpl_l4, qpl_gf3, qpl_k5, qpl_l5, qpl_gf4, qpl_k6, qpl_l6, qpl_gf5, qpl_gf6, qpl_pf6, qpl_gf7, qpl_pf7, qpl_gf8, qpl_pf8, wrI_row, cpI_row, row_s, row_n, row_ss, row_sw, upd_s, upd_n, ad_inj, ad_z, ad_z2, Nat.reduceEqDiff, reduceCtorEq, List.cons_append, List.nil_append, Option.toList_some, Option.toList_none, Int.toNat_natCast, List.length_cons, List.length_nil, Int.cast_ofNat_Int, Nat.reduceAdd, Nat.reduceLeDiff, Nat.reduceLT, Nat.reduceMul, Int.reduceAdd, Int.reduceSub, Int.reduceMul, Int.reduceNeg, Int.reduceLT, Int.reduceLE, Int.reduceEq, Int.reduceToNat, eq_self, true_and, and_true, true_or, or_true, false_or, or_false, if_true, if_false, not_true_eq_false, not_false_eq_true, and_self, ne_eq, hA, p1, hF1]
    (repeat' (first | apply And.intro | split)) <;> first | omega | exact k1
end FWP
end
section
/-! THE ABSTRACT VIEW U: none is -1; a view V with its own none n stands for it where it is live -/
def nn (n x : Int) : Int := if x = -1 then n else x
def LR (n : Int) (V U : Vw) : Prop :=
  V 0 0 = U 0 0 ∧ V 5 0 = U 5 0 ∧ V 8 0 = U 8 0 ∧ (∀ j : Nat, (j : Int) < U 0 0 → V 1 j = U 1 j ∧ V 2 j = U 2 j) ∧ (∀ j : Nat, j < 36 → V 3 j = U 3 j) ∧ (∀ j : Nat, j < 5 → V 4 j = U 4 j) ∧ (∀ j : Nat, (j : Int) < U 5 0 → V 6 j = U 6 j ∧ V 7 j = U 7 j) ∧ ∀ j : Nat, (j : Int) < U 8 0 → V 9 j = nn n (U 9 j) ∧ V 10 j = nn n (U 10 j)
section LRA
variable {n : Int} {V U : Vw}
theorem LR.l0 (h : LR n V U) : V 0 0 = U 0 0 := h.1
theorem LR.l5 (h : LR n V U) : V 5 0 = U 5 0 := h.2.1
theorem LR.l8 (h : LR n V U) : V 8 0 = U 8 0 := h.2.2.1
theorem LR.l1 (h : LR n V U) {j : Nat} (hj : (j : Int) < U 0 0) : V 1 j = U 1 j := (h.2.2.2.1 j hj).1
theorem LR.l2 (h : LR n V U) {j : Nat} (hj : (j : Int) < U 0 0) : V 2 j = U 2 j := (h.2.2.2.1 j hj).2
theorem LR.l3 (h : LR n V U) {j : Nat} (hj : j < 36) : V 3 j = U 3 j := h.2.2.2.2.1 j hj
theorem LR.l4 (h : LR n V U) {j : Nat} (hj : j < 5) : V 4 j = U 4 j := h.2.2.2.2.2.1 j hj
theorem LR.l6 (h : LR n V U) {j : Nat} (hj : (j : Int) < U 5 0) : V 6 j = U 6 j := (h.2.2.2.2.2.2.1 j hj).1
theorem LR.l7 (h : LR n V U) {j : Nat} (hj : (j : Int) < U 5 0) : V 7 j = U 7 j := (h.2.2.2.2.2.2.1 j hj).2
theorem LR.l9 (h : LR n V U) {j : Nat} (hj : (j : Int) < U 8 0) : V 9 j = nn n (U 9 j) := (h.2.2.2.2.2.2.2 j hj).1
theorem LR.l10 (h : LR n V U) {j : Nat} (hj : (j : Int) < U 8 0) : V 10 j = nn n (U 10 j) := (h.2.2.2.2.2.2.2 j hj).2
theorem LR.sum (h : LR n V U) : ∀ s : Nat, (s : Int) ≤ U 5 0 → sumL V s = sumL U s
  | 0, _ => rfl
  | s + 1, hs => by
    have h1 := LR.sum h s (by omega)
    have h2 := h.l7 (j := s) (by omega)
    simp only [sumL]
    omega
theorem LR.wf (h : LR n V U) (hn : n < 0) (hW : WFV (-1) U) : WFV n V := by
  obtain ⟨w1, w2, w3, w4, w5, w6, w7, w8, w9⟩ := hW
  refine ⟨by rw [h.l0]; exact w1, fun j hj => ?_, fun j hj => by rw [h.l3 hj]; exact w3 j hj, ?_, by rw [h.l5]; exact w5, fun j hj => ?_, by rw [h.l8]; exact w7, ?_, fun j hj => ?_⟩
  · rw [h.l0] at hj
    rw [h.l1 hj, h.l2 hj]
    exact w2 j hj
  · rw [h.l4 (by omega), h.l4 (by omega), h.l4 (by omega), h.l4 (by omega), h.l4 (by omega)]
    exact w4
  · rw [h.l5] at hj
    rw [h.l6 hj, h.l7 hj]
    exact w6 j hj
  · rw [h.l5, h.l8, h.sum _ (by omega)]
    exact w8
  · rw [h.l8] at hj
    rw [h.l9 hj, h.l10 hj, h.l0]
    have := w9 j hj
    unfold nn
    constructor
    · split <;> omega
    · split <;> omega
theorem LR.dst (h : LR n V U) {m : Nat} (hm : (m : Int) < U 0 0) {o w : Int} : dstV V m o w = dstV U m o w := by
  unfold dstV
  rw [h.l1 hm, h.l2 hm]
theorem LR.jmp (h : LR n V U) {x y : Nat} (hx : (x : Int) < U 0 0) (hy : (y : Int) < U 0 0) : jmpV V x y = jmpV U x y := by
  unfold jmpV
  rw [h.dst hx, h.l1 hy, h.l2 hy]
theorem LR.wrg (h : LR n V U) {kd : Int} (h0 : 0 ≤ kd) (h9 : kd ≤ 9) {m : Nat} (hm : (m : Int) < U 0 0) : wrgV V kd m = wrgV U kd m := by
  unfold wrgV
  by_cases e : kd = 9
  · rw [if_pos e, if_pos e, h.l1 hm, h.l4 (by omega)]
  · rw [if_neg e, if_neg e, h.l1 hm, h.l2 hm, h.l3 (by omega), h.l3 (by omega), h.l3 (by omega)]
theorem LR.sgF (h : LR n V U) {f : Int} : ∀ (d s : Nat), ((s + d : Nat) : Int) ≤ U 5 0 → segF V f d s = segF U f d s
  | 0, _, _ => rfl
  | d + 1, s, hs => by
    have h1 := LR.sgF h (f := f) d (s + 1) (by omega)
    simp only [segF]
    rw [h.sum (s + 1) (by omega), h1]
theorem LR.seg (h : LR n V U) (hW : WFV (-1) U) {f : Int} : segV V f = segV U f := by
  have := hW.2.2.2.2.1
  unfold segV
  rw [h.l5]
  exact h.sgF _ _ (by omega)
theorem LR.cls (h : LR n V U) {s : Int} : clsV V s = clsV U s := by
  funext x y
  unfold clsV
  rw [h.l0]
  apply decide_eq_decide.2
  constructor
  · intro q
    rw [h.jmp q.1 q.2.1] at q
    exact q
  · intro q
    rw [h.jmp q.1 q.2.1]
    exact q
theorem segV_lt (hW : WFV (-1) U) {f : Nat} (hf : (f : Int) < U 8 0) : 0 ≤ segV U f ∧ segV U f < U 5 0 := by
  have h1 : U 5 0 ≠ 0 := by
    intro e
    have := hW.2.2.2.2.2.2.2.1
    rw [e] at this
    have h2 : sumL U (0 : Int).toNat = 0 := rfl
    omega
  have h2 := hW.2.2.2.2.1
  have h3 := segF_b (V := U) (f := f) (U 5 0).toNat 0
  unfold segV
  omega
theorem LR.knd (h : LR n V U) (hW : WFV (-1) U) {f : Nat} (hf : (f : Int) < U 8 0) : kndV V f = kndV U f := by
  have h1 := segV_lt hW hf
  unfold kndV
  rw [h.seg hW, h.l6 (by omega)]
theorem kndV_lt (hW : WFV (-1) U) {f : Nat} (hf : (f : Int) < U 8 0) : 0 ≤ kndV U f ∧ kndV U f ≤ 9 := by
  have h1 := segV_lt hW hf
  unfold kndV
  exact (hW.2.2.2.2.2.1 _ (by omega)).1
theorem LR.cst (h : LR n V U) (hn : n < 0) (hW : WFV (-1) U) : cstV n V = cstV (-1) U := by
  funext f m
  unfold cstV
  rw [h.l8, h.l0]
  by_cases e : (f : Int) < U 8 0 ∧ (m : Int) < U 0 0
  · have k := kndV_lt hW e.1
    rw [if_pos e, if_pos e, h.knd hW e.1, h.wrg k.1 k.2 e.2, h.l9 e.1]
    have w9 := (hW.2.2.2.2.2.2.2.2 f e.1).1
    unfold nn
    by_cases q : U 9 f = -1
    · rw [if_pos q, if_pos (Or.inl rfl), if_pos (Or.inl q)]
    · rw [if_neg q]
      by_cases q2 : U 9 f = m
      · rw [if_pos (Or.inr q2), if_pos (Or.inr q2)]
      · rw [if_neg (by omega), if_neg (by omega)]
  · rw [if_neg e, if_neg e]
theorem LR.chg (h : LR n V U) {kd : Int} (h0 : 0 ≤ kd) (h9 : kd ≤ 9) : chgV V kd = chgV U kd := by
  unfold chgV
  by_cases e : kd = 9
  · rw [if_pos e, if_pos e, h.l4 (by omega)]
  · rw [if_neg e, if_neg e, h.l3 (by omega)]
end LRA
end
section
/-! THE AIR AND THE COUNTS OF AN ABSTRACT VIEW -/
section LRB
variable {n : Int} {V U : Vw}
theorem LR.air (h : LR n V U) (hW : WFV (-1) U) : ∀ f : Nat, (f : Int) ≤ U 8 0 → airV V f = airV U f
  | 0, _ => h.l4 (by omega)
  | f + 1, hf => by
    have k := kndV_lt hW (f := f) (by omega)
    simp only [airV]
    rw [LR.air h hW f (by omega), h.knd hW (by omega), h.chg k.1 k.2, h.l4 (by omega)]
theorem LR.gsp (h : LR n V U) (hW : WFV (-1) U) {f : Nat} (hf : (f : Int) < U 8 0) : gspV V f ↔ gspV U f := by
  have k := kndV_lt hW hf
  unfold gspV
  rw [h.air hW f (by omega), h.knd hW hf, h.chg k.1 k.2]
theorem LR.gcn (h : LR n V U) (hW : WFV (-1) U) : ∀ f : Nat, (f : Int) ≤ U 8 0 → gcnV V f = gcnV U f
  | 0, _ => rfl
  | f + 1, hf => by
    have k := kndV_lt hW (f := f) (by omega)
    simp only [gcnV]
    rw [LR.gcn h hW f (by omega), h.air hW f (by omega), h.knd hW (by omega), h.chg k.1 k.2]
theorem LR.gsg (h : LR n V U) (hW : WFV (-1) U) : ∀ f : Nat, (f : Int) ≤ U 8 0 → gsgV V f = gsgV U f
  | 0, _ => rfl
  | f + 1, hf => by
    have k := kndV_lt hW (f := f) (by omega)
    simp only [gsgV]
    rw [LR.gsg h hW f (by omega), h.gcn hW f (by omega), h.air hW f (by omega), h.knd hW (by omega), h.chg k.1 k.2, h.seg hW]
theorem cntS_nn {n : Int} (hn : n < 0) {r u : Nat → Int} {M : Int} : ∀ j : Nat, (∀ i : Nat, i < j → r i = nn n (u i) ∧ (u i = -1 ∨ (0 ≤ u i ∧ u i < M))) → cntS n r j = cntS (-1) u j
  | 0, _ => rfl
  | j + 1, h => by
    have h1 := cntS_nn hn j (fun i hi => h i (by omega))
    obtain ⟨h2, h3⟩ := h j (by omega)
    simp only [cntS]
    rw [h1, h2]
    unfold nn
    by_cases e : u j = -1
    · rw [if_pos e, if_pos rfl, if_pos e]
    · rw [if_neg e, if_neg (by omega), if_neg e]
theorem LR.cn9 (h : LR n V U) (hn : n < 0) (hW : WFV (-1) U) : cntS n (V 9) (V 8 0).toNat = cntS (-1) (U 9) (U 8 0).toNat := by
  rw [h.l8]
  exact cntS_nn hn _ (fun i hi => ⟨h.l9 (by omega), (hW.2.2.2.2.2.2.2.2 i (by omega)).1⟩)
theorem LR.cn10 (h : LR n V U) (hn : n < 0) (hW : WFV (-1) U) : cntS n (V 10) (V 8 0).toNat = cntS (-1) (U 10) (U 8 0).toNat := by
  rw [h.l8]
  exact cntS_nn hn _ (fun i hi => ⟨h.l10 (by omega), (hW.2.2.2.2.2.2.2.2 i (by omega)).2⟩)
theorem LR.eq (h : LR n V U) {V' : Vw} (hW : WFV (-1) U) (he : vwEq V' V) : LR n V' U := by
  obtain ⟨w1, w2, w3, w4, w5, w6, w7, w8, w9⟩ := hW
  obtain ⟨e0, e5, e8, e1, e3, e4, e6, e9⟩ := he
  obtain ⟨l0, l5, l8, l1, l3, l4, l6, l9⟩ := h
  refine ⟨e0.trans l0, e5.trans l5, e8.trans l8, fun j hj => ?_, fun j hj => (e3 j hj).trans (l3 j hj), fun j hj => (e4 j hj).trans (l4 j hj), fun j hj => ?_, fun j hj => ?_⟩
  · exact ⟨(e1 j (by omega)).1.trans (l1 j hj).1, (e1 j (by omega)).2.trans (l1 j hj).2⟩
  · exact ⟨(e6 j (by omega)).1.trans (l6 j hj).1, (e6 j (by omega)).2.trans (l6 j hj).2⟩
  · exact ⟨(e9 j (by omega)).1.trans (l9 j hj).1, (e9 j (by omega)).2.trans (l9 j hj).2⟩
end LRB
/-! THE CHANGES OF AN ABSTRACT VIEW -/
def setV (U : Vw) (k j : Nat) (v : Int) : Vw := fun k' j' => if k' = k ∧ j' = j then v else U k' j'
def opnR (r : Nat → Int) (f m : Nat) : Nat → Int := fun j => if j < f then r j else if j < f + m then -1 else r (j - m)
def clsR (r : Nat → Int) (f m : Nat) : Nat → Int := fun j => if j < f then r j else r (j + m)
def insR (r : Nat → Int) (s : Nat) (v : Int) : Nat → Int := fun j => if j < s then r j else if j = s then v else r (j - 1)
def delR (r : Nat → Int) (s : Nat) : Nat → Int := fun j => if j < s then r j else r (j + 1)
def insV (U : Vw) (s : Nat) (kd : Int) (m : Nat) : Vw := fun k j => match k with
  | 5 => U 5 j + 1
  | 6 => insR (U 6) s kd j
  | 7 => insR (U 7) s m j
  | 8 => U 8 j + m
  | 9 => opnR (U 9) (sumL U s).toNat m j
  | 10 => opnR (U 10) (sumL U s).toNat m j
  | k => U k j
def delV (U : Vw) (s : Nat) : Vw := fun k j => match k with
  | 5 => U 5 j - 1
  | 6 => delR (U 6) s j
  | 7 => delR (U 7) s j
  | 8 => U 8 j - U 7 s
  | 9 => clsR (U 9) (sumL U s).toNat (U 7 s).toNat j
  | 10 => clsR (U 10) (sumL U s).toNat (U 7 s).toNat j
  | k => U k j
def lenV (U : Vw) (s m : Nat) : Vw := fun k j => match k with
  | 7 => if j = s then m else U 7 j
  | 8 => U 8 j - U 7 s + m
  | 9 => if (m : Int) < U 7 s then clsR (U 9) ((sumL U s).toNat + m) ((U 7 s).toNat - m) j else opnR (U 9) ((sumL U s).toNat + (U 7 s).toNat) (m - (U 7 s).toNat) j
  | 10 => if (m : Int) < U 7 s then clsR (U 10) ((sumL U s).toNat + m) ((U 7 s).toNat - m) j else opnR (U 10) ((sumL U s).toNat + (U 7 s).toNat) (m - (U 7 s).toNat) j
  | k => U k j
section WFO
variable {U : Vw}
theorem sumL_ins {s m : Nat} {kd : Int} : ∀ t : Nat, sumL (insV U s kd m) t = if t ≤ s then sumL U t else sumL U (t - 1) + m
  | 0 => by rw [if_pos (by omega)]; rfl
  | t + 1 => by
    have h1 := sumL_ins (s := s) (m := m) (kd := kd) t
    show sumL (insV U s kd m) t + insR (U 7) s m t = _
    rw [h1]
    unfold insR
    by_cases e : t < s
    · rw [if_pos (by omega), if_pos e, if_pos (by omega)]
      rfl
    · by_cases e2 : t = s
      · subst e2
        rw [if_pos (by omega), if_neg e, if_pos rfl, if_neg (by omega), Nat.add_sub_cancel]
      · obtain ⟨t', rfl⟩ : ∃ t', t = t' + 1 := ⟨t - 1, by omega⟩
        rw [if_neg (by omega), if_neg e, if_neg e2, if_neg (by omega), Nat.add_sub_cancel, Nat.add_sub_cancel]
        simp only [sumL]
        omega
theorem sumL_del {s : Nat} : ∀ t : Nat, sumL (delV U s) t = if t ≤ s then sumL U t else sumL U (t + 1) - U 7 s
  | 0 => by rw [if_pos (by omega)]; rfl
  | t + 1 => by
    have h1 := sumL_del (s := s) t
    show sumL (delV U s) t + delR (U 7) s t = _
    rw [h1]
    unfold delR
    by_cases e : t < s
    · rw [if_pos (by omega), if_pos e, if_pos (by omega)]
      rfl
    · by_cases e2 : t = s
      · subst e2
        rw [if_pos (by omega), if_neg e, if_neg (by omega)]
        simp only [sumL]
        omega
      · rw [if_neg (by omega), if_neg e, if_neg (by omega)]
        simp only [sumL]
        omega
theorem sumL_len {s m : Nat} : ∀ t : Nat, sumL (lenV U s m) t = if t ≤ s then sumL U t else sumL U t - U 7 s + m
  | 0 => by rw [if_pos (by omega)]; rfl
  | t + 1 => by
    have h1 := sumL_len (s := s) (m := m) t
    show sumL (lenV U s m) t + (if t = s then (m : Int) else U 7 t) = _
    rw [h1]
    by_cases e : t < s
    · rw [if_pos (by omega), if_neg (by omega), if_pos (by omega)]
      rfl
    · by_cases e2 : t = s
      · subst e2
        rw [if_pos (by omega), if_pos rfl, if_neg (by omega)]
        simp only [sumL]
        omega
      · rw [if_neg (by omega), if_neg e2, if_neg (by omega)]
        simp only [sumL]
        omega
theorem sumL_at (hW : WFV (-1) U) {s : Nat} (hs : (s : Int) ≤ U 5 0) : 0 ≤ sumL U s ∧ sumL U s ≤ U 8 0 := by
  obtain ⟨w1, w2, w3, w4, w5, w6, w7, w8, w9⟩ := hW
  have h1 := sumL_mono (V := U) (m := U 5 0) (fun j hj => (w6 j hj).2) s hs
  have h2 := sumL_le (V := U) (m := U 5 0) (fun j hj => (w6 j hj).2) (s := s) ((U 5 0).toNat - s) (by omega)
  rw [show s + ((U 5 0).toNat - s) = (U 5 0).toNat by omega, w8] at h2
  omega
theorem sumL_at2 (hW : WFV (-1) U) {s : Nat} (hs : (s : Int) < U 5 0) : 0 ≤ sumL U s ∧ sumL U s + U 7 s ≤ U 8 0 := by
  have h1 := sumL_at hW (s := s) (by omega)
  have h2 := sumL_at hW (s := s + 1) (by omega)
  simp only [sumL] at h2
  omega
def rowB (F M : Int) (r : Nat → Int) : Prop := ∀ j : Nat, (j : Int) < F → r j = -1 ∨ (0 ≤ r j ∧ r j < M)
theorem rowB_opn {F M : Int} {r : Nat → Int} (h : rowB F M r) {f m : Nat} (hf : (f : Int) ≤ F) : rowB (F + m) M (opnR r f m) := by
  intro j hj
  unfold opnR
  split
  · exact h j (by omega)
  · split
    · exact Or.inl rfl
    · exact h _ (by omega)
theorem rowB_cls {F M : Int} {r : Nat → Int} (h : rowB F M r) {f m : Nat} : rowB (F - m) M (clsR r f m) := by
  intro j hj
  unfold clsR
  split
  · exact h j (by omega)
  · exact h _ (by omega)
theorem insV_wf (hW : WFV (-1) U) {s m : Nat} {kd : Int} (hs : (s : Int) ≤ U 5 0) (hG : U 5 0 < 30) (hk : 0 ≤ kd ∧ kd ≤ 9) (hm : 1 ≤ m ∧ m ≤ 20) (hF : U 8 0 + m ≤ 99) : WFV (-1) (insV U s kd m) := by
  have hsu := sumL_at hW hs
  obtain ⟨w1, w2, w3, w4, w5, w6, w7, w8, w9⟩ := id hW
  have q9 := rowB_opn (F := U 8 0) (M := U 0 0) (r := U 9) (fun j hj => (w9 j hj).1) (f := (sumL U s).toNat) (m := m) (by omega)
  have q10 := rowB_opn (F := U 8 0) (M := U 0 0) (r := U 10) (fun j hj => (w9 j hj).2) (f := (sumL U s).toNat) (m := m) (by omega)
  refine ⟨w1, w2, w3, w4, ⟨show 0 ≤ U 5 0 + 1 by omega, show U 5 0 + 1 ≤ 30 by omega⟩, fun j hj => ?_, ⟨show 0 ≤ U 8 0 + m by omega, show U 8 0 + m ≤ 99 by omega⟩, ?_, fun j hj => ⟨q9 j hj, q10 j hj⟩⟩
  · replace hj : (j : Int) < U 5 0 + 1 := hj
    show (0 ≤ insR (U 6) s kd j ∧ insR (U 6) s kd j ≤ 9) ∧ 1 ≤ insR (U 7) s m j ∧ insR (U 7) s m j ≤ 20
    unfold insR
    by_cases e : j < s
    · rw [if_pos e, if_pos e]
      exact w6 j (by omega)
    · by_cases e2 : j = s
      · rw [if_neg e, if_neg e, if_pos e2, if_pos e2]
        omega
      · rw [if_neg e, if_neg e, if_neg e2, if_neg e2]
        exact w6 (j - 1) (by omega)
  · show sumL (insV U s kd m) (U 5 0 + 1).toNat = U 8 0 + m
    rw [sumL_ins, if_neg (by omega), show (U 5 0 + 1).toNat - 1 = (U 5 0).toNat by omega, w8]
theorem delV_wf (hW : WFV (-1) U) {s : Nat} (hs : (s : Int) < U 5 0) : WFV (-1) (delV U s) := by
  have hsu := sumL_at2 hW hs
  obtain ⟨w1, w2, w3, w4, w5, w6, w7, w8, w9⟩ := id hW
  have h7 := (w6 s hs).2
  have q9 := rowB_cls (F := U 8 0) (M := U 0 0) (r := U 9) (fun j hj => (w9 j hj).1) (f := (sumL U s).toNat) (m := (U 7 s).toNat)
  have q10 := rowB_cls (F := U 8 0) (M := U 0 0) (r := U 10) (fun j hj => (w9 j hj).2) (f := (sumL U s).toNat) (m := (U 7 s).toNat)
  rw [show (((U 7 s).toNat : Nat) : Int) = U 7 s by omega] at q9 q10
  refine ⟨w1, w2, w3, w4, ⟨show 0 ≤ U 5 0 - 1 by omega, show U 5 0 - 1 ≤ 30 by omega⟩, fun j hj => ?_, ⟨show 0 ≤ U 8 0 - U 7 s by omega, show U 8 0 - U 7 s ≤ 99 by omega⟩, ?_, fun j hj => ⟨q9 j hj, q10 j hj⟩⟩
  · replace hj : (j : Int) < U 5 0 - 1 := hj
    show (0 ≤ delR (U 6) s j ∧ delR (U 6) s j ≤ 9) ∧ 1 ≤ delR (U 7) s j ∧ delR (U 7) s j ≤ 20
    unfold delR
    by_cases e : j < s
    · rw [if_pos e, if_pos e]
      exact w6 j (by omega)
    · rw [if_neg e, if_neg e]
      exact w6 (j + 1) (by omega)
  · show sumL (delV U s) (U 5 0 - 1).toNat = U 8 0 - U 7 s
    rw [sumL_del]
    by_cases e : (U 5 0 - 1).toNat ≤ s
    · have e2 : (U 5 0).toNat = s + 1 := by omega
      rw [if_pos e, show (U 5 0 - 1).toNat = s by omega, ← w8, e2]
      simp only [sumL]
      omega
    · rw [if_neg e, show (U 5 0 - 1).toNat + 1 = (U 5 0).toNat by omega, w8]
theorem lenV_wf (hW : WFV (-1) U) {s m : Nat} (hs : (s : Int) < U 5 0) (hm : 1 ≤ m ∧ m ≤ 20) (hF : U 8 0 - U 7 s + m ≤ 99) : WFV (-1) (lenV U s m) := by
  have hsu := sumL_at2 hW hs
  obtain ⟨w1, w2, w3, w4, w5, w6, w7, w8, w9⟩ := id hW
  have h7 := (w6 s hs).2
  have key : ∀ r : Nat → Int, rowB (U 8 0) (U 0 0) r → rowB (U 8 0 - U 7 s + m) (U 0 0) (fun j => if (m : Int) < U 7 s then clsR r ((sumL U s).toNat + m) ((U 7 s).toNat - m) j else opnR r ((sumL U s).toNat + (U 7 s).toNat) (m - (U 7 s).toNat) j) := by
    intro r hr j hj
    by_cases e : (m : Int) < U 7 s
    · have q := rowB_cls hr (f := (sumL U s).toNat + m) (m := (U 7 s).toNat - m) j (by omega)
      dsimp only
      rw [if_pos e]
      exact q
    · have q := rowB_opn hr (f := (sumL U s).toNat + (U 7 s).toNat) (m := m - (U 7 s).toNat) (by omega) j (by omega)
      dsimp only
      rw [if_neg e]
      exact q
  refine ⟨w1, w2, w3, w4, w5, fun j hj => ?_, ⟨show 0 ≤ U 8 0 - U 7 s + m by omega, show U 8 0 - U 7 s + m ≤ 99 by omega⟩, ?_, fun j hj => ⟨key (U 9) (fun j hj => (w9 j hj).1) j hj, key (U 10) (fun j hj => (w9 j hj).2) j hj⟩⟩
  · replace hj : (j : Int) < U 5 0 := hj
    show (0 ≤ U 6 j ∧ U 6 j ≤ 9) ∧ 1 ≤ (if j = s then (m : Int) else U 7 j) ∧ (if j = s then (m : Int) else U 7 j) ≤ 20
    have := w6 j hj
    split <;> omega
  · show sumL (lenV U s m) (U 5 0).toNat = U 8 0 - U 7 s + m
    rw [sumL_len, if_neg (by omega), w8]
end WFO
end
section
/-! THE CLASS'S CHANGES OF A SCENE ARE THE ABSTRACT ONES -/
section TIE
variable {g : Nat → Nat → Int} {a : Nat} {U : Vw}
theorem opR_nn {r u : Nat → Int} {F : Int} {f m : Nat} (hf : (f : Int) ≤ F) (h : ∀ j : Nat, (j : Int) < F → r j = nn (-99) (u j)) {j : Nat} (hj : (j : Int) < F + m) : opR r f m F.toNat j = nn (-99) (opnR u f m j) := by
  unfold opR flR mvR opnR
  by_cases e : j < f
  · rw [if_neg (by omega), if_pos e]
    rw [if_neg (by omega)]
    exact h j (by omega)
  · by_cases e2 : j < f + m
    · rw [if_pos (by omega), if_neg e, if_pos e2]
      rfl
    · rw [if_neg (by omega), if_neg e, if_neg e2]
      rw [if_pos (by omega)]
      exact h (j - m) (by omega)
theorem clR_nn {r u : Nat → Int} {F : Int} {f m : Nat} (hf : (f : Int) + m ≤ F) (h : ∀ j : Nat, (j : Int) < F → r j = nn (-99) (u j)) {j : Nat} (hj : (j : Int) < F - m) : clR r f m F.toNat j = nn (-99) (clsR u f m j) := by
  unfold clR clsR
  by_cases e : j < f
  · rw [if_neg (by omega), if_pos e]
    exact h j (by omega)
  · rw [if_pos (by omega), if_neg e]
    exact h (j + m) (by omega)
theorem shR_ins {r u : Nat → Int} {G : Int} {s : Nat} {v : Int} (hs : (s : Int) ≤ G) (h : ∀ j : Nat, (j : Int) < G → r j = u j) {j : Nat} (hj : (j : Int) < G + 1) : upd1 (shR r s G.toNat) s v j = insR u s v j := by
  unfold insR
  by_cases e : j < s
  · rw [upd_n (by omega), if_pos e]
    unfold shR
    rw [if_neg (by omega)]
    exact h j (by omega)
  · by_cases e2 : j = s
    · subst e2
      rw [upd_s, if_neg e, if_pos rfl]
    · rw [upd_n e2, if_neg e, if_neg e2]
      unfold shR
      rw [if_pos (by omega)]
      exact h (j - 1) (by omega)
theorem csR_del {r u : Nat → Int} {G : Int} {s : Nat} (h : ∀ j : Nat, (j : Int) < G → r j = u j) {j : Nat} (hj : (j : Int) < G - 1) : csR r s G.toNat j = delR u s j := by
  unfold csR delR
  by_cases e : j < s
  · rw [if_neg (by omega), if_pos e]
    exact h j (by omega)
  · rw [if_pos (by omega), if_neg e]
    exact h (j + 1) (by omega)
theorem openS_lr (h : LR (-99) (vwC g a) U) (hW : WFV (-1) U) {s m : Nat} {kd : Int} (hs : (s : Int) ≤ U 5 0) : LR (-99) (vwC (openS g a s kd m) a) (insV U s kd m) := by
  have hsu := sumL_at hW hs
  have e5 : g a 5 = U 5 0 := h.l5
  have e8 : g a 8 = U 8 0 := h.l8
  have esum : sumL (vwC g a) s = sumL U s := h.sum s hs
  refine ⟨?_, ?_, ?_, fun j hj => ?_, fun j hj => ?_, fun j hj => ?_, fun j hj => ?_, fun j hj => ?_⟩
  · have := h.l0
    simp only [vwC, insV, openS, openF, row_s, row_n, upd1, ad_inj, ad_z, ad_z2, Nat.reduceEqDiff, not_false_eq_true, if_false] at this ⊢
    exact this
  · simp only [vwC, insV, openS, openF, row_s, row_n, upd1, ad_inj, ad_z, ad_z2, Nat.reduceEqDiff, not_false_eq_true, if_false, if_true]
    rw [e5]
  · simp only [vwC, insV, openS, openF, row_s, row_n, upd1, ad_inj, ad_z, ad_z2, Nat.reduceEqDiff, not_false_eq_true, if_false, if_true]
    rw [e8]
  · have h1 := h.l1 (j := j) hj
    have h2 := h.l2 (j := j) hj
    simp only [vwC, insV, openS, openF, row_s, row_n, upd1, ad_inj, ad_z, ad_z2, Nat.reduceEqDiff, not_false_eq_true, if_false] at h1 h2 ⊢
    exact ⟨h1, h2⟩
  · have h1 := h.l3 hj
    simp only [vwC, insV, openS, openF, row_s, row_n, upd1, ad_inj, ad_z, ad_z2, Nat.reduceEqDiff, not_false_eq_true, if_false] at h1 ⊢
    exact h1
  · have h1 := h.l4 hj
    simp only [vwC, insV, openS, openF, row_s, row_n, upd1, ad_inj, ad_z, ad_z2, Nat.reduceEqDiff, not_false_eq_true, if_false] at h1 ⊢
    exact h1
  · have q6 := shR_ins (v := kd) hs (r := g (ad a 5)) (u := U 6) (fun j hj => h.l6 hj) hj
    have q7 := shR_ins (v := (m : Int)) hs (r := g (ad a 6)) (u := U 7) (fun j hj => h.l7 hj) hj
    simp only [vwC, insV, openS, openF, row_s, row_n, ad_inj, ad_z, ad_z2, Nat.reduceEqDiff, not_false_eq_true]
    rw [e5]
    exact ⟨q6, q7⟩
  · have q9 := opR_nn (f := (sumL U s).toNat) (m := m) (F := U 8 0) (by omega) (r := g (ad a 7)) (u := U 9) (fun j hj => h.l9 hj) hj
    have q10 := opR_nn (f := (sumL U s).toNat) (m := m) (F := U 8 0) (by omega) (r := g (ad a 8)) (u := U 10) (fun j hj => h.l10 hj) hj
    simp only [vwC, insV, openS, openF, row_s, row_n, ad_inj, ad_z, ad_z2, Nat.reduceEqDiff, not_false_eq_true]
    rw [e8]
    rw [esum]
    exact ⟨q9, q10⟩
theorem closeS_lr (h : LR (-99) (vwC g a) U) (hW : WFV (-1) U) {s : Nat} (hs : (s : Int) < U 5 0) : LR (-99) (vwC (closeS g a s) a) (delV U s) := by
  have hsu := sumL_at2 hW hs
  have h7 := (hW.2.2.2.2.2.1 s hs).2
  have e5 : g a 5 = U 5 0 := h.l5
  have e8 : g a 8 = U 8 0 := h.l8
  have e7 : g (ad a 6) s = U 7 s := h.l7 hs
  have esum : sumL (vwC g a) s = sumL U s := h.sum s (by omega)
  refine ⟨?_, ?_, ?_, fun j hj => ?_, fun j hj => ?_, fun j hj => ?_, fun j hj => ?_, fun j hj => ?_⟩
  · have := h.l0
    simp only [vwC, delV, closeS, closeF, row_s, row_n, upd1, ad_inj, ad_z, ad_z2, Nat.reduceEqDiff, not_false_eq_true, if_false] at this ⊢
    exact this
  · simp only [vwC, delV, closeS, closeF, row_s, row_n, upd1, ad_inj, ad_z, ad_z2, Nat.reduceEqDiff, not_false_eq_true, if_false, if_true]
    rw [e5]
  · simp only [vwC, delV, closeS, closeF, row_s, row_n, upd1, ad_inj, ad_z, ad_z2, Nat.reduceEqDiff, not_false_eq_true, if_false, if_true]
    rw [e8, e7]
    omega
  · have h1 := h.l1 (j := j) hj
    have h2 := h.l2 (j := j) hj
    simp only [vwC, delV, closeS, closeF, row_s, row_n, upd1, ad_inj, ad_z, ad_z2, Nat.reduceEqDiff, not_false_eq_true, if_false] at h1 h2 ⊢
    exact ⟨h1, h2⟩
  · have h1 := h.l3 hj
    simp only [vwC, delV, closeS, closeF, row_s, row_n, upd1, ad_inj, ad_z, ad_z2, Nat.reduceEqDiff, not_false_eq_true, if_false] at h1 ⊢
    exact h1
  · have h1 := h.l4 hj
    simp only [vwC, delV, closeS, closeF, row_s, row_n, upd1, ad_inj, ad_z, ad_z2, Nat.reduceEqDiff, not_false_eq_true, if_false] at h1 ⊢
    exact h1
  · have q6 := csR_del (s := s) (r := g (ad a 5)) (u := U 6) (fun j hj => h.l6 hj) hj
    have q7 := csR_del (s := s) (r := g (ad a 6)) (u := U 7) (fun j hj => h.l7 hj) hj
    simp only [vwC, delV, closeS, closeF, row_s, row_n, ad_inj, ad_z, ad_z2, Nat.reduceEqDiff, not_false_eq_true]
    rw [e5]
    exact ⟨q6, q7⟩
  · replace hj : (j : Int) < U 8 0 - U 7 s := hj
    have q9 := clR_nn (f := (sumL U s).toNat) (m := (U 7 s).toNat) (F := U 8 0) (by omega) (r := g (ad a 7)) (u := U 9) (fun j hj => h.l9 hj) (j := j) (by omega)
    have q10 := clR_nn (f := (sumL U s).toNat) (m := (U 7 s).toNat) (F := U 8 0) (by omega) (r := g (ad a 8)) (u := U 10) (fun j hj => h.l10 hj) (j := j) (by omega)
    simp only [vwC, delV, closeS, closeF, row_s, row_n, ad_inj, ad_z, ad_z2, Nat.reduceEqDiff, not_false_eq_true]
    rw [e8, e7]
    rw [esum]
    exact ⟨q9, q10⟩
/-- a segment made shorter or longer, in the class's store -/
def lenF (g : Nat → Nat → Int) (a s m : Nat) : Nat → Nat → Int := if (m : Int) < g (ad a 6) s then setRow (closeF g a ((sumL (vwC g a) s).toNat + m) ((g (ad a 6) s).toNat - m)) (ad a 6) (upd1 (g (ad a 6)) s m) else setRow (openF g a ((sumL (vwC g a) s).toNat + (g (ad a 6) s).toNat) (m - (g (ad a 6) s).toNat)) (ad a 6) (upd1 (g (ad a 6)) s m)
theorem lenF_lr (h : LR (-99) (vwC g a) U) (hW : WFV (-1) U) {s m : Nat} (hs : (s : Int) < U 5 0) : LR (-99) (vwC (lenF g a s m) a) (lenV U s m) := by
  have hsu := sumL_at2 hW hs
  have h7 := (hW.2.2.2.2.2.1 s hs).2
  have e5 : g a 5 = U 5 0 := h.l5
  have e8 : g a 8 = U 8 0 := h.l8
  have e7 : g (ad a 6) s = U 7 s := h.l7 hs
  have esum : sumL (vwC g a) s = sumL U s := h.sum s (by omega)
  have hrow : ∀ j : Nat, (j : Int) < U 5 0 → upd1 (g (ad a 6)) s m j = if j = s then (m : Int) else U 7 j := fun j hj => by
    unfold upd1
    by_cases e : j = s
    · rw [if_pos e, if_pos e]
    · rw [if_neg e, if_neg e]
      exact h.l7 hj
  have a0 := h.l0
  have a5 := h.l5
  have a1 := fun (j : Nat) (hj : (j : Int) < U 0 0) => h.l1 hj
  have a2 := fun (j : Nat) (hj : (j : Int) < U 0 0) => h.l2 hj
  have a3 := fun (j : Nat) (hj : j < 36) => h.l3 hj
  have a4 := fun (j : Nat) (hj : j < 5) => h.l4 hj
  have a6 := fun (j : Nat) (hj : (j : Int) < U 5 0) => h.l6 hj
  have a9 := fun (j : Nat) (hj : (j : Int) < U 8 0) => h.l9 hj
  have a10 := fun (j : Nat) (hj : (j : Int) < U 8 0) => h.l10 hj
  simp only [vwC] at a0 a5 a1 a2 a3 a4 a6 a9 a10 esum
  unfold lenF
  by_cases e : (m : Int) < g (ad a 6) s
  · rw [if_pos e]
    have em : (m : Int) < U 7 s := by omega
    simp only [LR, vwC, lenV, closeF, row_s, row_n, upd1, ad_inj, ad_z, ad_z2, Nat.reduceEqDiff, not_false_eq_true, if_false, if_true, if_pos em]
    refine ⟨a0, a5, by omega, fun j hj => ⟨a1 j hj, a2 j hj⟩, a3, a4, fun j hj => ⟨a6 j hj, hrow j hj⟩, fun j hj => ?_⟩
    rw [esum, e7, e8]
    exact ⟨clR_nn (by omega) a9 (by omega), clR_nn (by omega) a10 (by omega)⟩
  · rw [if_neg e]
    have em : ¬ (m : Int) < U 7 s := by omega
    simp only [LR, vwC, lenV, openF, row_s, row_n, upd1, ad_inj, ad_z, ad_z2, Nat.reduceEqDiff, not_false_eq_true, if_false, if_true, if_neg em]
    refine ⟨a0, a5, by omega, fun j hj => ⟨a1 j hj, a2 j hj⟩, a3, a4, fun j hj => ⟨a6 j hj, hrow j hj⟩, fun j hj => ?_⟩
    rw [esum, e7, e8]
    exact ⟨opR_nn (by omega) a9 (by omega), opR_nn (by omega) a10 (by omega)⟩
end TIE
end
section
/-! SINGLE ENTRIES of a view -/
section SET
variable {n : Int} {V V' U : Vw}
theorem set_n {k j k' j' : Nat} {v : Int} (h : ¬ (k' = k ∧ j' = j)) : setV U k j v k' j' = U k' j' := if_neg h
theorem set_s {k j : Nat} {v : Int} : setV U k j v k j = v := if_pos ⟨rfl, rfl⟩
theorem lr_set (h : LR n V U) {k j : Nat} (hk : k = 1 ∨ k = 2 ∨ k = 3 ∨ k = 4) {v : Int} (h1 : ∀ k' j', k' ≤ 10 → ¬ (k' = k ∧ j' = j) → V' k' j' = V k' j') (h2 : V' k j = v) : LR n V' (setV U k j v) := by
  have q : ∀ k' j', k' ≤ 10 → V k' j' = U k' j' → V' k' j' = setV U k j v k' j' := by
    intro k' j' q0 q1
    by_cases e : k' = k ∧ j' = j
    · obtain ⟨rfl, rfl⟩ := e
      rw [h2, set_s]
    · rw [h1 k' j' q0 e, set_n e]
      exact q1
  have e0 : setV U k j v 0 0 = U 0 0 := set_n (by omega)
  have e5 : setV U k j v 5 0 = U 5 0 := set_n (by omega)
  have e8 : setV U k j v 8 0 = U 8 0 := set_n (by omega)
  refine ⟨?_, ?_, ?_, fun j' hj => ?_, fun j' hj => ?_, fun j' hj => ?_, fun j' hj => ?_, fun j' hj => ?_⟩
  · exact q 0 0 (by omega) h.l0
  · exact q 5 0 (by omega) h.l5
  · exact q 8 0 (by omega) h.l8
  · rw [e0] at hj
    exact ⟨q 1 j' (by omega) (h.l1 hj), q 2 j' (by omega) (h.l2 hj)⟩
  · exact q 3 j' (by omega) (h.l3 hj)
  · exact q 4 j' (by omega) (h.l4 hj)
  · rw [e5] at hj
    exact ⟨q 6 j' (by omega) (h.l6 hj), q 7 j' (by omega) (h.l7 hj)⟩
  · rw [e8] at hj
    rw [h1 9 j' (by omega) (by omega), h1 10 j' (by omega) (by omega), set_n (by omega), set_n (by omega)]
    exact ⟨h.l9 hj, h.l10 hj⟩
theorem lr_setp (h : LR n V U) {k j : Nat} (hk : k = 9 ∨ k = 10) {v : Int} (h1 : ∀ k' j', k' ≤ 10 → ¬ (k' = k ∧ j' = j) → V' k' j' = V k' j') (h2 : V' k j = nn n v) : LR n V' (setV U k j v) := by
  have e0 : setV U k j v 0 0 = U 0 0 := set_n (by omega)
  have e5 : setV U k j v 5 0 = U 5 0 := set_n (by omega)
  have e8 : setV U k j v 8 0 = U 8 0 := set_n (by omega)
  have q : ∀ k' j', k' ≤ 10 → V k' j' = nn n (U k' j') → V' k' j' = nn n (setV U k j v k' j') := by
    intro k' j' q0 q1
    by_cases e : k' = k ∧ j' = j
    · obtain ⟨rfl, rfl⟩ := e
      rw [h2, set_s]
    · rw [h1 k' j' q0 e, set_n e]
      exact q1
  refine ⟨?_, ?_, ?_, fun j' hj => ?_, fun j' hj => ?_, fun j' hj => ?_, fun j' hj => ?_, fun j' hj => ?_⟩
  · rw [e0, h1 0 0 (by omega) (by omega)]
    exact h.l0
  · rw [e5, h1 5 0 (by omega) (by omega)]
    exact h.l5
  · rw [e8, h1 8 0 (by omega) (by omega)]
    exact h.l8
  · rw [e0] at hj
    rw [h1 1 j' (by omega) (by omega), h1 2 j' (by omega) (by omega), set_n (by omega), set_n (by omega)]
    exact ⟨h.l1 hj, h.l2 hj⟩
  · rw [h1 3 j' (by omega) (by omega), set_n (by omega)]
    exact h.l3 hj
  · rw [h1 4 j' (by omega) (by omega), set_n (by omega)]
    exact h.l4 hj
  · rw [e5] at hj
    rw [h1 6 j' (by omega) (by omega), h1 7 j' (by omega) (by omega), set_n (by omega), set_n (by omega)]
    exact ⟨h.l6 hj, h.l7 hj⟩
  · rw [e8] at hj
    exact ⟨q 9 j' (by omega) (h.l9 hj), q 10 j' (by omega) (h.l10 hj)⟩
theorem sumL_set {k j : Nat} {v : Int} (hk : k ≠ 7) : ∀ s : Nat, sumL (setV U k j v) s = sumL U s
  | 0 => rfl
  | s + 1 => by
    simp only [sumL]
    rw [sumL_set hk s, set_n (by omega)]
theorem set_wf12 (hW : WFV (-1) U) {k j : Nat} (hk : k = 1 ∨ k = 2) {v : Int} (hv : 0 ≤ v ∧ v ≤ 9) : WFV (-1) (setV U k j v) := by
  obtain ⟨w1, w2, w3, w4, w5, w6, w7, w8, w9⟩ := hW
  have z : ∀ k' j', k' ≠ 1 → k' ≠ 2 → setV U k j v k' j' = U k' j' := fun k' j' z1 z2 => set_n (by omega)
  unfold WFV
  rw [sumL_set (by omega)]
  simp only [z, ne_eq, Nat.reduceEqDiff, not_false_eq_true]
  refine ⟨w1, fun j' hj => ?_, w3, w4, w5, w6, w7, w8, w9⟩
  have := w2 j' hj
  unfold setV
  constructor
  · split <;> omega
  · split <;> omega
theorem set_wf3 (hW : WFV (-1) U) {j : Nat} {v : Int} (hv : 0 ≤ v ∧ v ≤ 9) : WFV (-1) (setV U 3 j v) := by
  obtain ⟨w1, w2, w3, w4, w5, w6, w7, w8, w9⟩ := hW
  have z : ∀ k' j', k' ≠ 3 → setV U 3 j v k' j' = U k' j' := fun k' j' z1 => set_n (by omega)
  unfold WFV
  rw [sumL_set (by omega)]
  simp only [z, ne_eq, Nat.reduceEqDiff, not_false_eq_true]
  refine ⟨w1, w2, fun j' hj => ?_, w4, w5, w6, w7, w8, w9⟩
  have := w3 j' hj
  unfold setV
  constructor
  · split <;> omega
  · split <;> omega
theorem set_wf4 (hW : WFV (-1) U) {j : Nat} {v : Int} (hv : (j = 0 ∧ 1 ≤ v ∧ v ≤ 9) ∨ (j = 1 ∧ 1 ≤ v ∧ v ≤ 3) ∨ (j = 2 ∧ 0 ≤ v ∧ v ≤ 9) ∨ (j = 3 ∧ 1 ≤ v ∧ v ≤ 99) ∨ (j = 4 ∧ 1 ≤ v ∧ v ≤ 20)) : WFV (-1) (setV U 4 j v) := by
  obtain ⟨w1, w2, w3, w4, w5, w6, w7, w8, w9⟩ := hW
  have z : ∀ k' j', k' ≠ 4 → setV U 4 j v k' j' = U k' j' := fun k' j' z1 => set_n (by omega)
  unfold WFV
  rw [sumL_set (by omega)]
  simp only [z, ne_eq, Nat.reduceEqDiff, not_false_eq_true]
  refine ⟨w1, w2, w3, ?_, w5, w6, w7, w8, w9⟩
  unfold setV
  rcases hv with ⟨rfl, h1⟩ | ⟨rfl, h1⟩ | ⟨rfl, h1⟩ | ⟨rfl, h1⟩ | ⟨rfl, h1⟩ <;> simp only [true_and, Nat.reduceEqDiff, if_true, if_false, and_true, and_false] <;> omega
theorem set_wfp (hW : WFV (-1) U) {k j : Nat} (hk : k = 9 ∨ k = 10) {v : Int} (hv : v = -1 ∨ (0 ≤ v ∧ v < U 0 0)) : WFV (-1) (setV U k j v) := by
  obtain ⟨w1, w2, w3, w4, w5, w6, w7, w8, w9⟩ := hW
  have z : ∀ k' j', k' ≠ 9 → k' ≠ 10 → setV U k j v k' j' = U k' j' := fun k' j' z1 z2 => set_n (by omega)
  unfold WFV
  rw [sumL_set (by omega)]
  simp only [z, ne_eq, Nat.reduceEqDiff, not_false_eq_true]
  refine ⟨w1, w2, w3, w4, w5, w6, w7, w8, fun j' hj => ?_⟩
  have := w9 j' hj
  unfold setV
  constructor
  · split <;> omega
  · split <;> omega
end SET
/-! ROWS of a scene and its view -/
section VWR
variable {g : Nat → Nat → Int} {a : Nat} {R : Nat → Int}
theorem k_cases {k : Nat} (h : k ≤ 10) : k = 0 ∨ k = 1 ∨ k = 2 ∨ k = 3 ∨ k = 4 ∨ k = 5 ∨ k = 6 ∨ k = 7 ∨ k = 8 ∨ k = 9 ∨ k = 10 := by omega
theorem vw_1 {k j : Nat} (h : k ≤ 10) : vwC (setRow g (ad a 1) R) a k j = if k = 1 then R j else vwC g a k j := by
  rcases k_cases h with rfl | rfl | rfl | rfl | rfl | rfl | rfl | rfl | rfl | rfl | rfl <;> simp only [vwC, row_s, row_n, ad_inj, ad_z, ad_z2, Nat.reduceEqDiff, not_false_eq_true, if_false, if_true]
theorem vw_2 {k j : Nat} (h : k ≤ 10) : vwC (setRow g (ad a 2) R) a k j = if k = 2 then R j else vwC g a k j := by
  rcases k_cases h with rfl | rfl | rfl | rfl | rfl | rfl | rfl | rfl | rfl | rfl | rfl <;> simp only [vwC, row_s, row_n, ad_inj, ad_z, ad_z2, Nat.reduceEqDiff, not_false_eq_true, if_false, if_true]
theorem vw_3 {k j : Nat} (h : k ≤ 10) : vwC (setRow g (ad a 3) R) a k j = if k = 3 then R j else vwC g a k j := by
  rcases k_cases h with rfl | rfl | rfl | rfl | rfl | rfl | rfl | rfl | rfl | rfl | rfl <;> simp only [vwC, row_s, row_n, ad_inj, ad_z, ad_z2, Nat.reduceEqDiff, not_false_eq_true, if_false, if_true]
theorem vw_4 {k j : Nat} (h : k ≤ 10) : vwC (setRow g (ad a 4) R) a k j = if k = 4 then R j else vwC g a k j := by
  rcases k_cases h with rfl | rfl | rfl | rfl | rfl | rfl | rfl | rfl | rfl | rfl | rfl <;> simp only [vwC, row_s, row_n, ad_inj, ad_z, ad_z2, Nat.reduceEqDiff, not_false_eq_true, if_false, if_true]
theorem vw_7 {k j : Nat} (h : k ≤ 10) : vwC (setRow g (ad a 7) R) a k j = if k = 9 then R j else vwC g a k j := by
  rcases k_cases h with rfl | rfl | rfl | rfl | rfl | rfl | rfl | rfl | rfl | rfl | rfl <;> simp only [vwC, row_s, row_n, ad_inj, ad_z, ad_z2, Nat.reduceEqDiff, not_false_eq_true, if_false, if_true]
theorem vw_8 {k j : Nat} (h : k ≤ 10) : vwC (setRow g (ad a 8) R) a k j = if k = 10 then R j else vwC g a k j := by
  rcases k_cases h with rfl | rfl | rfl | rfl | rfl | rfl | rfl | rfl | rfl | rfl | rfl <;> simp only [vwC, row_s, row_n, ad_inj, ad_z, ad_z2, Nat.reduceEqDiff, not_false_eq_true, if_false, if_true]
theorem vw_p {k i kk j' : Nat} {v : Int} (hi : (i = 1 ∧ kk = 1) ∨ (i = 2 ∧ kk = 2) ∨ (i = 3 ∧ kk = 3) ∨ (i = 4 ∧ kk = 4) ∨ (i = 7 ∧ kk = 9) ∨ (i = 8 ∧ kk = 10)) {j : Nat} (h : k ≤ 10) : vwC (setRow g (ad a i) (upd1 (g (ad a i)) j v)) a k j' = if k = kk ∧ j' = j then v else vwC g a k j' := by
  rcases hi with ⟨rfl, rfl⟩ | ⟨rfl, rfl⟩ | ⟨rfl, rfl⟩ | ⟨rfl, rfl⟩ | ⟨rfl, rfl⟩ | ⟨rfl, rfl⟩
  · rw [vw_1 h]
    by_cases e : k = 1
    · subst e
      rw [if_pos rfl]
      by_cases e2 : j' = j
      · subst e2
        rw [upd_s, if_pos ⟨rfl, rfl⟩]
      · rw [upd_n e2, if_neg (fun q => e2 q.2)]
        rfl
    · rw [if_neg e, if_neg (fun q => e q.1)]
  · rw [vw_2 h]
    by_cases e : k = 2
    · subst e
      rw [if_pos rfl]
      by_cases e2 : j' = j
      · subst e2
        rw [upd_s, if_pos ⟨rfl, rfl⟩]
      · rw [upd_n e2, if_neg (fun q => e2 q.2)]
        rfl
    · rw [if_neg e, if_neg (fun q => e q.1)]
  · rw [vw_3 h]
    by_cases e : k = 3
    · subst e
      rw [if_pos rfl]
      by_cases e2 : j' = j
      · subst e2
        rw [upd_s, if_pos ⟨rfl, rfl⟩]
      · rw [upd_n e2, if_neg (fun q => e2 q.2)]
        rfl
    · rw [if_neg e, if_neg (fun q => e q.1)]
  · rw [vw_4 h]
    by_cases e : k = 4
    · subst e
      rw [if_pos rfl]
      by_cases e2 : j' = j
      · subst e2
        rw [upd_s, if_pos ⟨rfl, rfl⟩]
      · rw [upd_n e2, if_neg (fun q => e2 q.2)]
        rfl
    · rw [if_neg e, if_neg (fun q => e q.1)]
  · rw [vw_7 h]
    by_cases e : k = 9
    · subst e
      rw [if_pos rfl]
      by_cases e2 : j' = j
      · subst e2
        rw [upd_s, if_pos ⟨rfl, rfl⟩]
      · rw [upd_n e2, if_neg (fun q => e2 q.2)]
        rfl
    · rw [if_neg e, if_neg (fun q => e q.1)]
  · rw [vw_8 h]
    by_cases e : k = 10
    · subst e
      rw [if_pos rfl]
      by_cases e2 : j' = j
      · subst e2
        rw [upd_s, if_pos ⟨rfl, rfl⟩]
      · rw [upd_n e2, if_neg (fun q => e2 q.2)]
        rfl
    · rw [if_neg e, if_neg (fun q => e q.1)]
end VWR
end
section
/-! READING, the specification: T the text, L its length -/
def skF (T : Nat → Int) (L : Nat) : Nat → Nat → Nat
  | 0, p => p
  | d + 1, p => if p < L ∧ T p = 32 then skF T L d (p + 1) else p
def skp (T : Nat → Int) (L p : Nat) : Nat := skF T L (L - p) p
def dgt (c : Int) : Bool := decide (48 ≤ c ∧ c ≤ 57)
theorem dgt_i {c : Int} : dgt c = true ↔ 48 ≤ c ∧ c ≤ 57 := decide_eq_true_iff
def nuF (T : Nat → Int) (L : Nat) : Nat → Nat → Int → Nat × Int
  | 0, p, v => (p, v)
  | d + 1, p, v => if p < L ∧ dgt (T p) = true then nuF T L d (p + 1) (min 1000 (v * 10 + T p - 48)) else (p, v)
def num (T : Nat → Int) (L p : Nat) : Nat × Int := nuF T L (L - p) p 0
/-- a number read from st on is no number of the range -/
def bad (T : Nat → Int) (L : Nat) (lo hi : Int) (st : Nat) : Bool := decide ((num T L st).1 = st ∨ (st + 1 < (num T L st).1 ∧ T st = 48) ∨ (num T L st).2 < lo ∨ hi < (num T L st).2)
theorem bad_i {T : Nat → Int} {L : Nat} {lo hi : Int} {st : Nat} : bad T L lo hi st = true ↔ (num T L st).1 = st ∨ (st + 1 < (num T L st).1 ∧ T st = 48) ∨ (num T L st).2 < lo ∨ hi < (num T L st).2 := decide_eq_true_iff
def kndC (c : Int) : Int := if c = 46 then 9 else if 97 ≤ c ∧ c ≤ 105 then c - 97 else -1
theorem skp_y {T : Nat → Int} {L p : Nat} (h : p < L) (h2 : T p = 32) : skp T L p = skp T L (p + 1) := by
  unfold skp
  rw [show L - p = (L - (p + 1)) + 1 by omega]
  simp only [skF]
  rw [if_pos ⟨h, h2⟩]
theorem skp_n {T : Nat → Int} {L p : Nat} (h : ¬ (p < L ∧ T p = 32)) : skp T L p = p := by
  unfold skp
  by_cases e : p < L
  · rw [show L - p = (L - (p + 1)) + 1 by omega]
    simp only [skF]
    rw [if_neg h]
  · rw [show L - p = 0 by omega]
    rfl
theorem nuF_y {T : Nat → Int} {L p : Nat} {v : Int} (h : p < L) (h2 : dgt (T p) = true) : nuF T L (L - p) p v = nuF T L (L - (p + 1)) (p + 1) (min 1000 (v * 10 + T p - 48)) := by
  rw [show L - p = (L - (p + 1)) + 1 by omega]
  simp only [nuF]
  rw [if_pos ⟨h, h2⟩]
theorem nuF_n {T : Nat → Int} {L p : Nat} {v : Int} (h : ¬ (p < L ∧ dgt (T p) = true)) : nuF T L (L - p) p v = (p, v) := by
  by_cases e : p < L
  · rw [show L - p = (L - (p + 1)) + 1 by omega]
    simp only [nuF]
    rw [if_neg h]
  · rw [show L - p = 0 by omega]
    rfl
theorem skF_b {T : Nat → Int} {L : Nat} : ∀ d p : Nat, p ≤ skF T L d p ∧ (p ≤ L → skF T L d p ≤ L)
  | 0, p => ⟨Nat.le_refl _, fun h => h⟩
  | d + 1, p => by
    have h1 := skF_b (T := T) (L := L) d (p + 1)
    simp only [skF]
    split <;> omega
theorem nuF_b {T : Nat → Int} {L : Nat} : ∀ (d p : Nat) (v : Int), (0 ≤ v ∧ v ≤ 1000) → (p ≤ (nuF T L d p v).1 ∧ (p ≤ L → (nuF T L d p v).1 ≤ L)) ∧ 0 ≤ (nuF T L d p v).2 ∧ (nuF T L d p v).2 ≤ 1000
  | 0, p, v, hv => ⟨⟨Nat.le_refl _, fun h => h⟩, hv⟩
  | d + 1, p, v, hv => by
    have h1 := nuF_b (T := T) (L := L) d (p + 1) (min 1000 (v * 10 + T p - 48))
    simp only [nuF]
    split
    next h =>
      have h2 := h.2
      rw [dgt_i] at h2
      have := h1 (by omega)
      omega
    next h => exact ⟨⟨Nat.le_refl _, fun h => h⟩, hv⟩
theorem num_b {T : Nat → Int} {L p : Nat} (h : p ≤ L) : (p ≤ (num T L p).1 ∧ (num T L p).1 ≤ L) ∧ 0 ≤ (num T L p).2 ∧ (num T L p).2 ≤ 1000 := by
  have := nuF_b (T := T) (L := L) (L - p) p 0 (by omega)
  unfold num
  omega
theorem upd_u {R : Nat → Int} {k : Nat} {v v' : Int} : upd1 (upd1 R k v) k v' = upd1 R k v' := by
  funext y
  unfold upd1
  split <;> rfl
section RDR
variable {zt : Nat → Nat} {g : Nat → Nat → Int} {ρ : Ri} {r tx L : Nat}
theorem isDigit_ok {c : Int} (hc : -2147483648 ≤ c ∧ c < 2147483648) (Q : Option AV → Sto → Prop) : WpM zt 23 [AI c] (g, ρ) Q ↔ Q (some (AI (b2 (48 ≤ c ∧ c ≤ 57)))) (g, ρ) := by
  refine wpm_iff (fun Q hQ => ?_) Q
  simp only [m_R_isDigit, b_R_isDigit_0, P_R_isDigit_16, b_R_isDigit_16, P_R_isDigit_17, b_R_isDigit_17, wp_bipush, wp_goto, wp_icgt, wp_iclt, wp_iconst, wp_iln0, wp_iret, wp_nop, wp_zret, wrI_row, cpI_row, row_s, row_n, row_ss, row_sw, upd_s, upd_n, ad_inj, ad_z, ad_z2, Nat.reduceEqDiff, reduceCtorEq, List.cons_append, List.nil_append, Option.toList_some, Option.toList_none, Int.toNat_natCast, List.length_cons, List.length_nil, Int.cast_ofNat_Int, Nat.reduceAdd, Nat.reduceLeDiff, Nat.reduceLT, Nat.reduceMul, Int.reduceAdd, Int.reduceSub, Int.reduceMul, Int.reduceNeg, Int.reduceLT, Int.reduceLE, Int.reduceEq, Int.reduceToNat, eq_self, true_and, and_true, true_or, or_true, false_or, or_false, if_true, if_false, not_true_eq_false, not_false_eq_true, and_self, ne_eq]
  (repeat' (first | apply And.intro | split)) <;> first | omega | exact hQ | (rw [b2_t (by omega)] at hQ; exact hQ) | (rw [b2_f (by omega)] at hQ; exact hQ)
theorem kindOf_ok {c : Int} (hc : -1000 ≤ c ∧ c ≤ 1000) (Q : Option AV → Sto → Prop) : WpM zt 24 [AI c] (g, ρ) Q ↔ Q (some (AI (kndC c))) (g, ρ) := by
  refine wpm_iff (fun Q hQ => ?_) Q
  unfold kndC at hQ
  by_cases e : c = 46
  · rw [if_pos e] at hQ
    subst e
    simp only [m_R_kindOf, b_R_kindOf_0, P_R_kindOf_9, b_R_kindOf_9, P_R_kindOf_28, b_R_kindOf_28, P_R_kindOf_29, b_R_kindOf_29, wp_bipush, wp_goto, wp_icgt, wp_iclt, wp_icne, wp_iconst, wp_iln0, wp_iret, wp_isub, wp_nop, wp_zret, wrI_row, cpI_row, row_s, row_n, row_ss, row_sw, upd_s, upd_n, ad_inj, ad_z, ad_z2, Nat.reduceEqDiff, reduceCtorEq, List.cons_append, List.nil_append, Option.toList_some, Option.toList_none, Int.toNat_natCast, List.length_cons, List.length_nil, Int.cast_ofNat_Int, Nat.reduceAdd, Nat.reduceLeDiff, Nat.reduceLT, Nat.reduceMul, Int.reduceAdd, Int.reduceSub, Int.reduceMul, Int.reduceNeg, Int.reduceLT, Int.reduceLE, Int.reduceEq, Int.reduceToNat, eq_self, true_and, and_true, true_or, or_true, false_or, or_false, if_true, if_false, not_true_eq_false, not_false_eq_true, and_self, ne_eq]
    (repeat' (first | apply And.intro | split)) <;> first | omega | exact hQ | (rw [b2_t (by omega)] at hQ; exact hQ) | (rw [b2_f (by omega)] at hQ; exact hQ)
  · rw [if_neg e] at hQ
    by_cases e2 : 97 ≤ c ∧ c ≤ 105
    · rw [if_pos e2] at hQ
      simp only [m_R_kindOf, b_R_kindOf_0, P_R_kindOf_9, b_R_kindOf_9, P_R_kindOf_28, b_R_kindOf_28, P_R_kindOf_29, b_R_kindOf_29, wp_bipush, wp_goto, wp_icgt, wp_iclt, wp_icne, wp_iconst, wp_iln0, wp_iret, wp_isub, wp_nop, wp_zret, wrI_row, cpI_row, row_s, row_n, row_ss, row_sw, upd_s, upd_n, ad_inj, ad_z, ad_z2, Nat.reduceEqDiff, reduceCtorEq, List.cons_append, List.nil_append, Option.toList_some, Option.toList_none, Int.toNat_natCast, List.length_cons, List.length_nil, Int.cast_ofNat_Int, Nat.reduceAdd, Nat.reduceLeDiff, Nat.reduceLT, Nat.reduceMul, Int.reduceAdd, Int.reduceSub, Int.reduceMul, Int.reduceNeg, Int.reduceLT, Int.reduceLE, Int.reduceEq, Int.reduceToNat, eq_self, true_and, and_true, true_or, or_true, false_or, or_false, if_true, if_false, not_true_eq_false, not_false_eq_true, and_self, ne_eq, e]
      (repeat' (first | apply And.intro | split)) <;> first | omega | exact hQ
    · rw [if_neg e2] at hQ
      simp only [m_R_kindOf, b_R_kindOf_0, P_R_kindOf_9, b_R_kindOf_9, P_R_kindOf_28, b_R_kindOf_28, P_R_kindOf_29, b_R_kindOf_29, wp_bipush, wp_goto, wp_icgt, wp_iclt, wp_icne, wp_iconst, wp_iln0, wp_iret, wp_isub, wp_nop, wp_zret, wrI_row, cpI_row, row_s, row_n, row_ss, row_sw, upd_s, upd_n, ad_inj, ad_z, ad_z2, Nat.reduceEqDiff, reduceCtorEq, List.cons_append, List.nil_append, Option.toList_some, Option.toList_none, Int.toNat_natCast, List.length_cons, List.length_nil, Int.cast_ofNat_Int, Nat.reduceAdd, Nat.reduceLeDiff, Nat.reduceLT, Nat.reduceMul, Int.reduceAdd, Int.reduceSub, Int.reduceMul, Int.reduceNeg, Int.reduceLT, Int.reduceLE, Int.reduceEq, Int.reduceToNat, eq_self, true_and, and_true, true_or, or_true, false_or, or_false, if_true, if_false, not_true_eq_false, not_false_eq_true, and_self, ne_eq, e]
      (repeat' (first | apply And.intro | split)) <;> first | omega | exact hQ
theorem skip_loop (hA : isRd ρ r) (hx : ρ.1 r 1 = some tx) (hk : kdI ρ tx 0) (hl : lnA ρ tx = 120) (hne : ¬ tx = r) (hL : L ≤ 120) (hT : ∀ j, j < L → 0 ≤ g tx j ∧ g tx j ≤ 255) (h2 : g r 2 = L) {Q : Option AV → Sto → Prop} :
    ∀ (d p : Nat), L - p = d → p ≤ L → Q none (setRow g r (upd1 (g r) 3 (skp (g tx) L p : Nat)), ρ) → Wp zt 22 (P 22 0) [some (AR r)] [] (setRow g r (upd1 (g r) 3 p), ρ) Q := by
  have hne2 : (tx = r) ↔ False := iff_false_intro hne
  have h2' : ∀ v : Int, upd1 (g r) 3 v 2 = L := fun v => by rw [upd_n (by omega)]; exact h2
  intro d
  induction d with
  | zero =>
    intro p hd hp hQ
    rw [skp_n (by omega)] at hQ
    rw [P_R_skipSpaces_0]
    simp only [m_R_skipSpaces, b_R_skipSpaces_0, P_R_skipSpaces_38, b_R_skipSpaces_38, wp_aln0, wp_bipush, wp_dup, wp_goto, wp_iadd, wp_iald, wp_icge, wp_icne, wp_iconst, wp_ret, qrd_kd, qrd_gf0, qrd_pf0, qrd_gf2, qrd_pf2, qrd_gf3, qrd_pf3, wrI_row, cpI_row, row_s, row_n, row_ss, row_sw, upd_s, upd_n, ad_inj, ad_z, ad_z2, Nat.reduceEqDiff, reduceCtorEq, List.cons_append, List.nil_append, Option.toList_some, Option.toList_none, Int.toNat_natCast, List.length_cons, List.length_nil, Int.cast_ofNat_Int, Nat.reduceAdd, Nat.reduceLeDiff, Nat.reduceLT, Nat.reduceMul, Int.reduceAdd, Int.reduceSub, Int.reduceMul, Int.reduceNeg, Int.reduceLT, Int.reduceLE, Int.reduceEq, Int.reduceToNat, eq_self, true_and, and_true, true_or, or_true, false_or, or_false, if_true, if_false, not_true_eq_false, not_false_eq_true, and_self, ne_eq, hA, gf_2_1 (qrd_kd hA) hx, hk, hl, hne2, h2']
    (repeat' (first | apply And.intro | split)) <;> first | omega | exact hQ
  | succ d ih =>
    intro p hd hp hQ
    have b := hT p (by omega)
    by_cases e : g tx p = 32
    · rw [skp_y (by omega) e] at hQ
      have i1 := ih (p + 1) (by omega) (by omega) hQ
      rw [P_R_skipSpaces_0]
      simp only [m_R_skipSpaces, b_R_skipSpaces_0, P_R_skipSpaces_38, b_R_skipSpaces_38, wp_aln0, wp_bipush, wp_dup, wp_goto, wp_iadd, wp_iald, wp_icge, wp_icne, wp_iconst, wp_ret, qrd_kd, qrd_gf0, qrd_pf0, qrd_gf2, qrd_pf2, qrd_gf3, qrd_pf3, wrI_row, cpI_row, row_s, row_n, row_ss, row_sw, upd_s, upd_n, ad_inj, ad_z, ad_z2, Nat.reduceEqDiff, reduceCtorEq, List.cons_append, List.nil_append, Option.toList_some, Option.toList_none, Int.toNat_natCast, List.length_cons, List.length_nil, Int.cast_ofNat_Int, Nat.reduceAdd, Nat.reduceLeDiff, Nat.reduceLT, Nat.reduceMul, Int.reduceAdd, Int.reduceSub, Int.reduceMul, Int.reduceNeg, Int.reduceLT, Int.reduceLE, Int.reduceEq, Int.reduceToNat, eq_self, true_and, and_true, true_or, or_true, false_or, or_false, if_true, if_false, not_true_eq_false, not_false_eq_true, and_self, ne_eq, hA, gf_2_1 (qrd_kd hA) hx, hk, hl, hne2, h2, e, upd_u]
      (repeat' (first | apply And.intro | split)) <;> first | omega | exact i1
    · rw [skp_n (fun q => e q.2)] at hQ
      rw [P_R_skipSpaces_0]
      simp only [m_R_skipSpaces, b_R_skipSpaces_0, P_R_skipSpaces_38, b_R_skipSpaces_38, wp_aln0, wp_bipush, wp_dup, wp_goto, wp_iadd, wp_iald, wp_icge, wp_icne, wp_iconst, wp_ret, qrd_kd, qrd_gf0, qrd_pf0, qrd_gf2, qrd_pf2, qrd_gf3, qrd_pf3, wrI_row, cpI_row, row_s, row_n, row_ss, row_sw, upd_s, upd_n, ad_inj, ad_z, ad_z2, Nat.reduceEqDiff, reduceCtorEq, List.cons_append, List.nil_append, Option.toList_some, Option.toList_none, Int.toNat_natCast, List.length_cons, List.length_nil, Int.cast_ofNat_Int, Nat.reduceAdd, Nat.reduceLeDiff, Nat.reduceLT, Nat.reduceMul, Int.reduceAdd, Int.reduceSub, Int.reduceMul, Int.reduceNeg, Int.reduceLT, Int.reduceLE, Int.reduceEq, Int.reduceToNat, eq_self, true_and, and_true, true_or, or_true, false_or, or_false, if_true, if_false, not_true_eq_false, not_false_eq_true, and_self, ne_eq, hA, gf_2_1 (qrd_kd hA) hx, hk, hl, hne2, h2, e, upd_u]
      (repeat' (first | apply And.intro | split)) <;> first | omega | exact hQ
theorem skipSpaces_ok (hA : isRd ρ r) (hx : ρ.1 r 1 = some tx) (hk : kdI ρ tx 0) (hl : lnA ρ tx = 120) (hne : ¬ tx = r) (hL : L ≤ 120) (hT : ∀ j, j < L → 0 ≤ g tx j ∧ g tx j ≤ 255) (h2 : g r 2 = L) {p : Nat} (hp : p ≤ L) (h3 : g r 3 = p) (Q : Option AV → Sto → Prop) : WpM zt 22 [AR r] (g, ρ) Q ↔ Q none (setRow g r (upd1 (g r) 3 (skp (g tx) L p : Nat)), ρ) := by
  refine wpm_iff (fun Q hQ => ?_) Q
  have k1 := skip_loop (zt := zt) hA hx hk hl hne hL hT h2 (L - p) p rfl hp hQ
  have e : upd1 (g r) 3 (p : Int) = g r := by
    funext y
    unfold upd1
    split
    next h => rw [h, h3]
    next h => rfl
  rw [e, row_id, P_R_skipSpaces_0] at k1
  exact k1
theorem number_end (hA : isRd ρ r) (hx : ρ.1 r 1 = some tx) (hk : kdI ρ tx 0) (hl : lnA ρ tx = 120) (hne : ¬ tx = r) (hL : L ≤ 120) (hT : ∀ j, j < L → 0 ≤ g tx j ∧ g tx j ≤ 255) {lo hi : Int} (hlo : -1000 ≤ lo ∧ lo ≤ 1000) (hhi : -1000 ≤ hi ∧ hi ≤ 1000) {st : Nat} (hst : st ≤ L) {e : Nat} (he : (num (g tx) L st).1 = e) {v : Int} (hv : (num (g tx) L st).2 = v) (h3 : g r 3 = e) {Q : Option AV → Sto → Prop} (hQ : Q (some (AI v)) (if bad (g tx) L lo hi st = true then setRow g r (upd1 (g r) 0 st) else g, ρ)) : Wp zt 21 (P 21 77) [some (AR r), some (AI lo), some (AI hi), some (AI st), some (AI v), none] [] (g, ρ) Q := by
  have hb := num_b (T := g tx) (L := L) (p := st) hst
  rw [he, hv] at hb
  have hbi := bad_i (T := g tx) (L := L) (lo := lo) (hi := hi) (st := st)
  rw [he, hv] at hbi
  rw [P_R_readNumber_77]
  by_cases q0 : e = st
  · rw [if_pos (hbi.2 (Or.inl q0))] at hQ
    subst q0
    simp only [m_R_readNumber, b_R_readNumber_0, P_R_readNumber_102, b_R_readNumber_102, P_R_readNumber_103, b_R_readNumber_103, P_R_readNumber_130, b_R_readNumber_130, P_R_readNumber_135, b_R_readNumber_135, wp_abs, wp_aln0, wp_bipush, wp_copy, wp_cs1, wp_cs2, wp_cs3, wp_cs4, wp_cs5, wp_cs6, wp_cs7, wp_cv1, wp_cv2, wp_cv3, wp_cv4, wp_cv5, wp_cv6, wp_cv7, wp_dup, wp_goto, wp_iadd, wp_iald, wp_iceq, wp_icge, wp_icle, wp_iclt, wp_icne, wp_iconst, wp_il4, wp_il5, wp_iln1, wp_iln2, wp_iln3, wp_imul, wp_iret, wp_is4, wp_is5, wp_isn3, wp_isub, wp_izeq, wp_izne, wp_max, wp_min, wp_nop, wp_sipush, wp_zret, qrd_kd, qrd_gf0, qrd_pf0, qrd_gf2, qrd_pf2, qrd_gf3, qrd_pf3, wrI_row, cpI_row, row_s, row_n, row_ss, row_sw, upd_s, upd_n, ad_inj, ad_z, ad_z2, Nat.reduceEqDiff, reduceCtorEq, List.cons_append, List.nil_append, Option.toList_some, Option.toList_none, Int.toNat_natCast, List.length_cons, List.length_nil, Int.cast_ofNat_Int, Nat.reduceAdd, Nat.reduceLeDiff, Nat.reduceLT, Nat.reduceMul, Int.reduceAdd, Int.reduceSub, Int.reduceMul, Int.reduceNeg, Int.reduceLT, Int.reduceLE, Int.reduceEq, Int.reduceToNat, eq_self, true_and, and_true, true_or, or_true, false_or, or_false, if_true, if_false, not_true_eq_false, not_false_eq_true, and_self, ne_eq, b_R_readNumber_77, hA, gf_2_1 (qrd_kd hA) hx, hk, hl, h3]
    (repeat' (first | apply And.intro | split)) <;> first | omega | exact hQ
  · have b := hT st (by omega)
    by_cases q1 : st + 1 < e ∧ g tx st = 48
    · rw [if_pos (hbi.2 (Or.inr (Or.inl q1)))] at hQ
      obtain ⟨q2, q3⟩ := q1
      simp only [m_R_readNumber, b_R_readNumber_0, P_R_readNumber_102, b_R_readNumber_102, P_R_readNumber_103, b_R_readNumber_103, P_R_readNumber_130, b_R_readNumber_130, P_R_readNumber_135, b_R_readNumber_135, wp_abs, wp_aln0, wp_bipush, wp_copy, wp_cs1, wp_cs2, wp_cs3, wp_cs4, wp_cs5, wp_cs6, wp_cs7, wp_cv1, wp_cv2, wp_cv3, wp_cv4, wp_cv5, wp_cv6, wp_cv7, wp_dup, wp_goto, wp_iadd, wp_iald, wp_iceq, wp_icge, wp_icle, wp_iclt, wp_icne, wp_iconst, wp_il4, wp_il5, wp_iln1, wp_iln2, wp_iln3, wp_imul, wp_iret, wp_is4, wp_is5, wp_isn3, wp_isub, wp_izeq, wp_izne, wp_max, wp_min, wp_nop, wp_sipush, wp_zret, qrd_kd, qrd_gf0, qrd_pf0, qrd_gf2, qrd_pf2, qrd_gf3, qrd_pf3, wrI_row, cpI_row, row_s, row_n, row_ss, row_sw, upd_s, upd_n, ad_inj, ad_z, ad_z2, Nat.reduceEqDiff, reduceCtorEq, List.cons_append, List.nil_append, Option.toList_some, Option.toList_none, Int.toNat_natCast, List.length_cons, List.length_nil, Int.cast_ofNat_Int, Nat.reduceAdd, Nat.reduceLeDiff, Nat.reduceLT, Nat.reduceMul, Int.reduceAdd, Int.reduceSub, Int.reduceMul, Int.reduceNeg, Int.reduceLT, Int.reduceLE, Int.reduceEq, Int.reduceToNat, eq_self, true_and, and_true, true_or, or_true, false_or, or_false, if_true, if_false, not_true_eq_false, not_false_eq_true, and_self, ne_eq, b_R_readNumber_77, hA, gf_2_1 (qrd_kd hA) hx, hk, hl, h3, q3]
      (repeat' (first | apply And.intro | split)) <;> first | omega | exact hQ
    · by_cases q2 : v < lo ∨ hi < v
      · rw [if_pos (hbi.2 (Or.inr (Or.inr q2)))] at hQ
        simp only [m_R_readNumber, b_R_readNumber_0, P_R_readNumber_102, b_R_readNumber_102, P_R_readNumber_103, b_R_readNumber_103, P_R_readNumber_130, b_R_readNumber_130, P_R_readNumber_135, b_R_readNumber_135, wp_abs, wp_aln0, wp_bipush, wp_copy, wp_cs1, wp_cs2, wp_cs3, wp_cs4, wp_cs5, wp_cs6, wp_cs7, wp_cv1, wp_cv2, wp_cv3, wp_cv4, wp_cv5, wp_cv6, wp_cv7, wp_dup, wp_goto, wp_iadd, wp_iald, wp_iceq, wp_icge, wp_icle, wp_iclt, wp_icne, wp_iconst, wp_il4, wp_il5, wp_iln1, wp_iln2, wp_iln3, wp_imul, wp_iret, wp_is4, wp_is5, wp_isn3, wp_isub, wp_izeq, wp_izne, wp_max, wp_min, wp_nop, wp_sipush, wp_zret, qrd_kd, qrd_gf0, qrd_pf0, qrd_gf2, qrd_pf2, qrd_gf3, qrd_pf3, wrI_row, cpI_row, row_s, row_n, row_ss, row_sw, upd_s, upd_n, ad_inj, ad_z, ad_z2, Nat.reduceEqDiff, reduceCtorEq, List.cons_append, List.nil_append, Option.toList_some, Option.toList_none, Int.toNat_natCast, List.length_cons, List.length_nil, Int.cast_ofNat_Int, Nat.reduceAdd, Nat.reduceLeDiff, Nat.reduceLT, Nat.reduceMul, Int.reduceAdd, Int.reduceSub, Int.reduceMul, Int.reduceNeg, Int.reduceLT, Int.reduceLE, Int.reduceEq, Int.reduceToNat, eq_self, true_and, and_true, true_or, or_true, false_or, or_false, if_true, if_false, not_true_eq_false, not_false_eq_true, and_self, ne_eq, b_R_readNumber_77, hA, gf_2_1 (qrd_kd hA) hx, hk, hl, h3]
        (repeat' (first | apply And.intro | split)) <;> first | omega | exact hQ
      · rw [if_neg (fun z => (hbi.1 z).elim q0 (fun z => z.elim q1 q2))] at hQ
        simp only [m_R_readNumber, b_R_readNumber_0, P_R_readNumber_102, b_R_readNumber_102, P_R_readNumber_103, b_R_readNumber_103, P_R_readNumber_130, b_R_readNumber_130, P_R_readNumber_135, b_R_readNumber_135, wp_abs, wp_aln0, wp_bipush, wp_copy, wp_cs1, wp_cs2, wp_cs3, wp_cs4, wp_cs5, wp_cs6, wp_cs7, wp_cv1, wp_cv2, wp_cv3, wp_cv4, wp_cv5, wp_cv6, wp_cv7, wp_dup, wp_goto, wp_iadd, wp_iald, wp_iceq, wp_icge, wp_icle, wp_iclt, wp_icne, wp_iconst, wp_il4, wp_il5, wp_iln1, wp_iln2, wp_iln3, wp_imul, wp_iret, wp_is4, wp_is5, wp_isn3, wp_isub, wp_izeq, wp_izne, wp_max, wp_min, wp_nop, wp_sipush, wp_zret, qrd_kd, qrd_gf0, qrd_pf0, qrd_gf2, qrd_pf2, qrd_gf3, qrd_pf3, wrI_row, cpI_row, row_s, row_n, row_ss, row_sw, upd_s, upd_n, ad_inj, ad_z, ad_z2, Nat.reduceEqDiff, reduceCtorEq, List.cons_append, List.nil_append, Option.toList_some, Option.toList_none, Int.toNat_natCast, List.length_cons, List.length_nil, Int.cast_ofNat_Int, Nat.reduceAdd, Nat.reduceLeDiff, Nat.reduceLT, Nat.reduceMul, Int.reduceAdd, Int.reduceSub, Int.reduceMul, Int.reduceNeg, Int.reduceLT, Int.reduceLE, Int.reduceEq, Int.reduceToNat, eq_self, true_and, and_true, true_or, or_true, false_or, or_false, if_true, if_false, not_true_eq_false, not_false_eq_true, and_self, ne_eq, b_R_readNumber_77, hA, gf_2_1 (qrd_kd hA) hx, hk, hl, h3]
        (repeat' (first | apply And.intro | split)) <;> first | omega | exact hQ
theorem number_loop (hA : isRd ρ r) (hx : ρ.1 r 1 = some tx) (hk : kdI ρ tx 0) (hl : lnA ρ tx = 120) (hne : ¬ tx = r) (hL : L ≤ 120) (hT : ∀ j, j < L → 0 ≤ g tx j ∧ g tx j ≤ 255) (h2 : g r 2 = L) {lo hi : Int} (hlo : -1000 ≤ lo ∧ lo ≤ 1000) (hhi : -1000 ≤ hi ∧ hi ≤ 1000) {st : Nat} (hst : st ≤ L) {Q : Option AV → Sto → Prop} (hQ : Q (some (AI (num (g tx) L st).2)) (if bad (g tx) L lo hi st = true then setRow g r (upd1 (upd1 (g r) 3 (num (g tx) L st).1) 0 st) else setRow g r (upd1 (g r) 3 (num (g tx) L st).1), ρ)) :
    ∀ (d p : Nat) (v : Int), L - p = d → p ≤ L → 0 ≤ v ∧ v ≤ 1000 → nuF (g tx) L (L - p) p v = num (g tx) L st → Wp zt 21 (P 21 12) [some (AR r), some (AI lo), some (AI hi), some (AI st), some (AI v), none] [] (setRow g r (upd1 (g r) 3 p), ρ) Q := by
  have hne2 : (tx = r) ↔ False := iff_false_intro hne
  have fin1 : ∀ (p : Nat) (v : Int), (p, v) = num (g tx) L st → Wp zt 21 (P 21 77) [some (AR r), some (AI lo), some (AI hi), some (AI st), some (AI v), none] [] (setRow g r (upd1 (g r) 3 p), ρ) Q := by
    intro p v hpv
    have etx : setRow g r (upd1 (g r) 3 p) tx = g tx := row_n hne
    refine number_end hA hx hk hl hne hL (by rw [etx]; exact hT) hlo hhi hst (e := p) (by rw [etx, ← hpv]) (by rw [etx, ← hpv]) (by rw [row_s, upd_s]) ?_
    rw [etx, row_s, row_ss]
    rw [← hpv] at hQ
    exact hQ
  intro d
  induction d with
  | zero =>
    intro p v hd hp hv hn
    rw [nuF_n (by omega)] at hn
    have k1 := fin1 p v hn
    rw [P_R_readNumber_12]
    simp only [m_R_readNumber, b_R_readNumber_0, P_R_readNumber_102, b_R_readNumber_102, P_R_readNumber_103, b_R_readNumber_103, P_R_readNumber_130, b_R_readNumber_130, P_R_readNumber_135, b_R_readNumber_135, wp_abs, wp_aln0, wp_bipush, wp_copy, wp_cs1, wp_cs2, wp_cs3, wp_cs4, wp_cs5, wp_cs6, wp_cs7, wp_cv1, wp_cv2, wp_cv3, wp_cv4, wp_cv5, wp_cv6, wp_cv7, wp_dup, wp_goto, wp_iadd, wp_iald, wp_iceq, wp_icge, wp_icle, wp_iclt, wp_icne, wp_iconst, wp_il4, wp_il5, wp_iln1, wp_iln2, wp_iln3, wp_imul, wp_iret, wp_is4, wp_is5, wp_isn3, wp_isub, wp_izeq, wp_izne, wp_max, wp_min, wp_nop, wp_sipush, wp_zret, qrd_kd, qrd_gf0, qrd_pf0, qrd_gf2, qrd_pf2, qrd_gf3, qrd_pf3, wrI_row, cpI_row, row_s, row_n, row_ss, row_sw, upd_s, upd_n, ad_inj, ad_z, ad_z2, Nat.reduceEqDiff, reduceCtorEq, List.cons_append, List.nil_append, Option.toList_some, Option.toList_none, Int.toNat_natCast, List.length_cons, List.length_nil, Int.cast_ofNat_Int, Nat.reduceAdd, Nat.reduceLeDiff, Nat.reduceLT, Nat.reduceMul, Int.reduceAdd, Int.reduceSub, Int.reduceMul, Int.reduceNeg, Int.reduceLT, Int.reduceLE, Int.reduceEq, Int.reduceToNat, eq_self, true_and, and_true, true_or, or_true, false_or, or_false, if_true, if_false, not_true_eq_false, not_false_eq_true, and_self, ne_eq, b_R_readNumber_12, hA, gf_2_1 (qrd_kd hA) hx, hk, hl, hne2, h2]
    (repeat' (first | apply And.intro | split)) <;> first | omega | exact k1
  | succ d ih =>
    intro p v hd hp hv hn
    have b := hT p (by omega)
    have hdg := isDigit_ok (zt := zt) (g := setRow g r (upd1 (g r) 3 p)) (ρ := ρ) (c := g tx p) (by omega)
    by_cases e : 48 ≤ g tx p ∧ g tx p ≤ 57
    · rw [b2_t e] at hdg
      rw [nuF_y (by omega) (dgt_i.2 e)] at hn
      have i1 := ih (p + 1) _ (by omega) (by omega) (by omega) hn
      rw [P_R_readNumber_12]
      simp only [m_R_readNumber, b_R_readNumber_0, P_R_readNumber_102, b_R_readNumber_102, P_R_readNumber_103, b_R_readNumber_103, P_R_readNumber_130, b_R_readNumber_130, P_R_readNumber_135, b_R_readNumber_135, wp_abs, wp_aln0, wp_bipush, wp_copy, wp_cs1, wp_cs2, wp_cs3, wp_cs4, wp_cs5, wp_cs6, wp_cs7, wp_cv1, wp_cv2, wp_cv3, wp_cv4, wp_cv5, wp_cv6, wp_cv7, wp_dup, wp_goto, wp_iadd, wp_iald, wp_iceq, wp_icge, wp_icle, wp_iclt, wp_icne, wp_iconst, wp_il4, wp_il5, wp_iln1, wp_iln2, wp_iln3, wp_imul, wp_iret, wp_is4, wp_is5, wp_isn3, wp_isub, wp_izeq, wp_izne, wp_max, wp_min, wp_nop, wp_sipush, wp_zret, qrd_kd, qrd_gf0, qrd_pf0, qrd_gf2, qrd_pf2, qrd_gf3, qrd_pf3, wrI_row, cpI_row, row_s, row_n, row_ss, row_sw, upd_s, upd_n, ad_inj, ad_z, ad_z2, Nat.reduceEqDiff, reduceCtorEq, List.cons_append, List.nil_append, Option.toList_some, Option.toList_none, Int.toNat_natCast, List.length_cons, List.length_nil, Int.cast_ofNat_Int, Nat.reduceAdd, Nat.reduceLeDiff, Nat.reduceLT, Nat.reduceMul, Int.reduceAdd, Int.reduceSub, Int.reduceMul, Int.reduceNeg, Int.reduceLT, Int.reduceLE, Int.reduceEq, Int.reduceToNat, eq_self, true_and, and_true, true_or, or_true, false_or, or_false, if_true, if_false, not_true_eq_false, not_false_eq_true, and_self, ne_eq, b_R_readNumber_12, hA, gf_2_1 (qrd_kd hA) hx, hk, hl, hne2, h2, hdg, upd_u]
      (repeat' (first | apply And.intro | split)) <;> first | omega | exact i1
    · rw [b2_f e] at hdg
      rw [nuF_n (fun q => e (dgt_i.1 q.2))] at hn
      have k1 := fin1 p v hn
      rw [P_R_readNumber_12]
      simp only [m_R_readNumber, b_R_readNumber_0, P_R_readNumber_102, b_R_readNumber_102, P_R_readNumber_103, b_R_readNumber_103, P_R_readNumber_130, b_R_readNumber_130, P_R_readNumber_135, b_R_readNumber_135, wp_abs, wp_aln0, wp_bipush, wp_copy, wp_cs1, wp_cs2, wp_cs3, wp_cs4, wp_cs5, wp_cs6, wp_cs7, wp_cv1, wp_cv2, wp_cv3, wp_cv4, wp_cv5, wp_cv6, wp_cv7, wp_dup, wp_goto, wp_iadd, wp_iald, wp_iceq, wp_icge, wp_icle, wp_iclt, wp_icne, wp_iconst, wp_il4, wp_il5, wp_iln1, wp_iln2, wp_iln3, wp_imul, wp_iret, wp_is4, wp_is5, wp_isn3, wp_isub, wp_izeq, wp_izne, wp_max, wp_min, wp_nop, wp_sipush, wp_zret, qrd_kd, qrd_gf0, qrd_pf0, qrd_gf2, qrd_pf2, qrd_gf3, qrd_pf3, wrI_row, cpI_row, row_s, row_n, row_ss, row_sw, upd_s, upd_n, ad_inj, ad_z, ad_z2, Nat.reduceEqDiff, reduceCtorEq, List.cons_append, List.nil_append, Option.toList_some, Option.toList_none, Int.toNat_natCast, List.length_cons, List.length_nil, Int.cast_ofNat_Int, Nat.reduceAdd, Nat.reduceLeDiff, Nat.reduceLT, Nat.reduceMul, Int.reduceAdd, Int.reduceSub, Int.reduceMul, Int.reduceNeg, Int.reduceLT, Int.reduceLE, Int.reduceEq, Int.reduceToNat, eq_self, true_and, and_true, true_or, or_true, false_or, or_false, if_true, if_false, not_true_eq_false, not_false_eq_true, and_self, ne_eq, b_R_readNumber_12, hA, gf_2_1 (qrd_kd hA) hx, hk, hl, hne2, h2, hdg, upd_u]
      (repeat' (first | apply And.intro | split)) <;> first | omega | exact k1
theorem readNumber_ok (hA : isRd ρ r) (hx : ρ.1 r 1 = some tx) (hk : kdI ρ tx 0) (hl : lnA ρ tx = 120) (hne : ¬ tx = r) (hL : L ≤ 120) (hT : ∀ j, j < L → 0 ≤ g tx j ∧ g tx j ≤ 255) (h2 : g r 2 = L) {lo hi : Int} (hlo : -1000 ≤ lo ∧ lo ≤ 1000) (hhi : -1000 ≤ hi ∧ hi ≤ 1000) {p : Nat} (hp : p ≤ L) (h3 : g r 3 = p) {st : Nat} (hst : skp (g tx) L p = st) (Q : Option AV → Sto → Prop) : WpM zt 21 [AR r, AI lo, AI hi] (g, ρ) Q ↔ Q (some (AI (num (g tx) L st).2)) (if bad (g tx) L lo hi st = true then setRow g r (upd1 (upd1 (g r) 3 (num (g tx) L st).1) 0 st) else setRow g r (upd1 (g r) 3 (num (g tx) L st).1), ρ) := by
  refine wpm_iff (fun Q hQ => ?_) Q
  have hb := skF_b (T := g tx) (L := L) (L - p) p
  have hst2 : skF (g tx) L (L - p) p = st := hst
  rw [hst2] at hb
  have hsk := skipSpaces_ok (zt := zt) hA hx hk hl hne hL hT h2 hp h3
  rw [hst] at hsk
  have k1 := number_loop (zt := zt) hA hx hk hl hne hL hT h2 hlo hhi (st := st) (by omega) hQ (L - st) st 0 rfl (by omega) (by omega) rfl
  simp only [m_R_readNumber, b_R_readNumber_0, P_R_readNumber_102, b_R_readNumber_102, P_R_readNumber_103, b_R_readNumber_103, P_R_readNumber_130, b_R_readNumber_130, P_R_readNumber_135, b_R_readNumber_135, wp_abs, wp_aln0, wp_bipush, wp_copy, wp_cs1, wp_cs2, wp_cs3, wp_cs4, wp_cs5, wp_cs6, wp_cs7, wp_cv1, wp_cv2, wp_cv3, wp_cv4, wp_cv5, wp_cv6, wp_cv7, wp_dup, wp_goto, wp_iadd, wp_iald, wp_iceq, wp_icge, wp_icle, wp_iclt, wp_icne, wp_iconst, wp_il4, wp_il5, wp_iln1, wp_iln2, wp_iln3, wp_imul, wp_iret, wp_is4, wp_is5, wp_isn3, wp_isub, wp_izeq, wp_izne, wp_max, wp_min, wp_nop, wp_sipush, wp_zret, qrd_kd, qrd_gf0, qrd_pf0, qrd_gf2, qrd_pf2, qrd_gf3, qrd_pf3, wrI_row, cpI_row, row_s, row_n, row_ss, row_sw, upd_s, upd_n, ad_inj, ad_z, ad_z2, Nat.reduceEqDiff, reduceCtorEq, List.cons_append, List.nil_append, Option.toList_some, Option.toList_none, Int.toNat_natCast, List.length_cons, List.length_nil, Int.cast_ofNat_Int, Nat.reduceAdd, Nat.reduceLeDiff, Nat.reduceLT, Nat.reduceMul, Int.reduceAdd, Int.reduceSub, Int.reduceMul, Int.reduceNeg, Int.reduceLT, Int.reduceLE, Int.reduceEq, Int.reduceToNat, eq_self, true_and, and_true, true_or, or_true, false_or, or_false, if_true, if_false, not_true_eq_false, not_false_eq_true, and_self, ne_eq, hA, hsk]
  (repeat' (first | apply And.intro | split)) <;> first | omega | exact k1
end RDR
end
section
/-! ITEMS -/
/-- what follows the segment U1 at p: its error (-1: none), where it ends, the view -/
def itm2 (T : Nat → Int) (L : Nat) (U1 : Vw) (F : Nat) (M1 : Int) (p : Nat) : Int × Nat × Vw :=
  if skp T L p < L ∧ T (skp T L p) = 33 then (if bad T L 0 M1 (skp T L (skp T L p + 1)) = true then ((skp T L (skp T L p + 1) : Nat), 0, U1) else (-1, (num T L (skp T L (skp T L p + 1))).1, setV U1 9 F (num T L (skp T L (skp T L p + 1))).2)) else (-1, skp T L p, U1)
def itmV (T : Nat → Int) (L p : Nat) (U : Vw) : Int × Nat × Vw :=
  if kndC (T p) = -1 ∨ 30 ≤ U 5 0 then (p, 0, U)
  else if bad T L 1 (min 20 (99 - U 8 0)) (skp T L (p + 1)) = true then ((skp T L (p + 1) : Nat), 0, U)
  else itm2 T L (insV U (U 5 0).toNat (kndC (T p)) (num T L (skp T L (p + 1))).2.toNat) (U 8 0).toNat (U 0 0 - 1) (num T L (skp T L (p + 1))).1
theorem openS_out {g : Nat → Nat → Int} {a s m x : Nat} {kd : Int} (h : x < a ∨ a + 9 ≤ x) : openS g a s kd m x = g x := by
  unfold openS openF
  rw [row_n (by omega), row_n (by unfold ad; omega), row_n (by unfold ad; omega), row_n (by omega), row_n (by unfold ad; omega), row_n (by unfold ad; omega)]
theorem kndC_b (c : Int) : -1 ≤ kndC c ∧ kndC c ≤ 9 := by
  unfold kndC
  split
  · omega
  · split <;> omega
def itI (g : Nat → Nat → Int) (a r L : Nat) (w : Int × Nat × Vw) (g' : Nat → Nat → Int) : Prop := (∀ x, (x < a ∨ a + 9 ≤ x) → x ≠ r → g' x = g x) ∧ g' r 2 = L ∧ g' r 0 = w.1 ∧ (∃ p' : Nat, p' ≤ L ∧ g' r 3 = p') ∧ (w.1 = -1 → g' r 3 = w.2.1 ∧ LR (-99) (vwC g' a) w.2.2)
section ITM
variable {zt : Nat → Nat} {g : Nat → Nat → Int} {ρ : Ri} {r tx L a : Nat} {U : Vw}
theorem item_tail (hS : isSc ρ a) (hA : isRd ρ r) (hx : ρ.1 r 1 = some tx) (hk : kdI ρ tx 0) (hl : lnA ρ tx = 120) (hne : ¬ tx = r) (hra : r < a ∨ a + 9 ≤ r) (hta : tx < a ∨ a + 9 ≤ tx) (hL : L ≤ 120) (hT : ∀ j, j < L → 0 ≤ g tx j ∧ g tx j ≤ 255) (h2 : g r 2 = L) (h0 : g r 0 = -1) {p : Nat} (hp : p ≤ L) (h3 : g r 3 = p) (hR : LR (-99) (vwC g a) U) (hW : WFV (-1) U) {kd : Int} (hkd : 0 ≤ kd ∧ kd ≤ 9) {v : Nat} (hv : 1 ≤ v ∧ v ≤ 20) (hG : U 5 0 < 30) (hF : U 8 0 + v ≤ 99) {Q : Option AV → Sto → Prop}
    (hQ : ∀ g' : Nat → Nat → Int, itI g a r L (itm2 (g tx) L (insV U (U 5 0).toNat kd v) (U 8 0).toNat (U 0 0 - 1) p) g' → Q none (g', ρ)) : Wp zt 20 (P 20 76) [some (AR r), some (AR a), some (AI kd), some (AI (U 8 0)), some (AI v), none] [] (g, ρ) Q := by
  obtain ⟨w1, -, -, -, w5, -, w7, -, -⟩ := id hW
  have hWV := hR.wf (by omega) hW
  have e5 : g a 5 = U 5 0 := hR.l5
  have e8 : g a 8 = U 8 0 := hR.l8
  have hop := openSegment_ok (zt := zt) hS hWV (s := (U 5 0).toNat) (m := v) (kd := kd) (by omega) (by omega) (by omega)
  rw [show (((U 5 0).toNat : Nat) : Int) = U 5 0 by omega] at hop
  have hR1 := openS_lr (m := v) (kd := kd) hR hW (s := (U 5 0).toNat) (by omega)
  have hW1 := insV_wf hW (s := (U 5 0).toNat) (m := v) (kd := kd) (by omega) hG hkd hv hF
  generalize hg3 : openS g a (U 5 0).toNat kd v = g3 at *
  generalize hU1 : insV U (U 5 0).toNat kd v = U1 at *
  have r3 : g3 r = g r := by rw [← hg3]; exact openS_out hra
  have t3 : g3 tx = g tx := by rw [← hg3]; exact openS_out hta
  have o3 : ∀ x, (x < a ∨ a + 9 ≤ x) → g3 x = g x := fun x q => by rw [← hg3]; exact openS_out q
  have m3 : g3 a 0 = U 0 0 := by
    have := hR1.l0
    rw [← hU1] at this
    exact this
  have hsk := skipSpaces_ok (zt := zt) (g := g3) (ρ := ρ) hA hx hk hl hne hL (by rw [t3]; exact hT) (by rw [r3]; exact h2) hp (by rw [r3]; exact h3)
  rw [t3, r3] at hsk
  have hqb := skF_b (T := g tx) (L := L) (L - p) p
  generalize hq : skp (g tx) L p = q at *
  have hq2 : skF (g tx) L (L - p) p = q := hq
  rw [hq2] at hqb
  have hra2 : (a = r) ↔ False := iff_false_intro (by omega)
  have hra3 : (ad a 7 = r) ↔ False := iff_false_intro (by unfold ad; omega)
  have hne2 : (tx = r) ↔ False := iff_false_intro hne
  rw [P_R_readItem_76]
  by_cases c1 : q < L ∧ g tx q = 33
  · have t4 : setRow g3 r (upd1 (g r) 3 ((q + 1 : Nat) : Int)) tx = g tx := (row_n hne).trans t3
    have hnum := readNumber_ok (zt := zt) (g := setRow g3 r (upd1 (g r) 3 ((q + 1 : Nat) : Int))) (ρ := ρ) hA hx hk hl hne hL (by rw [t4]; exact hT) (by rw [row_s, upd_n (by omega)]; exact h2) (lo := 0) (hi := U 0 0 - 1) (by omega) (by omega) (p := q + 1) (by omega) (by rw [row_s, upd_s]) rfl
    have e9 : ((q + 1 : Nat) : Int) = (q : Int) + 1 := by omega
    rw [t4, row_s, row_ss, row_ss, upd_u, e9] at hnum
    have hqb2 := skF_b (T := g tx) (L := L) (L - (q + 1)) (q + 1)
    have hnb := num_b (T := g tx) (L := L) (p := skp (g tx) L (q + 1)) (hqb2.2 (by omega))
    unfold itm2 at hQ
    rw [hq, if_pos c1] at hQ
    obtain ⟨c2, c3⟩ := c1
    generalize hs2 : skp (g tx) L (q + 1) = s2 at *
    generalize he2 : (num (g tx) L s2).1 = e2 at *
    generalize hv2 : (num (g tx) L s2).2 = v2 at *
    by_cases hb : bad (g tx) L 0 (U 0 0 - 1) s2 = true
    · rw [if_pos hb] at hnum hQ
      have k1 := hQ (setRow g3 r (upd1 (upd1 (g r) 3 e2) 0 s2)) (by
        refine ⟨fun x z1 z2 => ?_, ?_, ?_, ⟨e2, by omega, by rw [row_s, upd_n (by omega), upd_s]⟩, fun z => ?_⟩
        · rw [row_n z2]
          exact o3 x z1
        · rw [row_s, upd_n (by omega), upd_n (by omega)]
          exact h2
        · rw [row_s, upd_s]
        · exfalso
          replace z : (s2 : Int) = -1 := z
          omega)
      have hs9 : ¬ (s2 : Int) = -1 := by omega
      simp only [m_R_readItem, b_R_readItem_0, P_R_readItem_27, b_R_readItem_27, P_R_readItem_36, b_R_readItem_36, P_R_readItem_155, b_R_readItem_155, wp_abs, wp_aln0, wp_aln1, wp_bipush, wp_copy, wp_cs1, wp_cs2, wp_cs3, wp_cs4, wp_cs5, wp_cs6, wp_cs7, wp_cv1, wp_cv2, wp_cv3, wp_cv4, wp_cv5, wp_cv6, wp_cv7, wp_dup, wp_iadd, wp_iald, wp_iast, wp_iceq, wp_icge, wp_iclt, wp_icne, wp_iconst, wp_il4, wp_il5, wp_iln2, wp_iln3, wp_is4, wp_is5, wp_isn2, wp_isn3, wp_isub, wp_max, wp_min, wp_nop, wp_ret, qsc_kd, qsc_k1, qsc_l1, qsc_gf1, qsc_k2, qsc_l2, qsc_gf2, qsc_k3, qsc_l3, qsc_gf3, qsc_k4, qsc_l4, qsc_gf4, qsc_k5, qsc_l5, qsc_gf6, qsc_k6, qsc_l6, qsc_gf7, qsc_k7, qsc_l7, qsc_gf9, qsc_k8, qsc_l8, qsc_gf10, qsc_gf0, qsc_pf0, qsc_gf5, qsc_pf5, qsc_gf8, qsc_pf8, qrd_kd, qrd_gf0, qrd_pf0, qrd_gf2, qrd_pf2, qrd_gf3, qrd_pf3, wrI_row, cpI_row, row_s, row_n, row_ss, row_sw, upd_s, upd_n, ad_inj, ad_z, ad_z2, Nat.reduceEqDiff, reduceCtorEq, List.cons_append, List.nil_append, Option.toList_some, Option.toList_none, Int.toNat_natCast, List.length_cons, List.length_nil, Int.cast_ofNat_Int, Nat.reduceAdd, Nat.reduceLeDiff, Nat.reduceLT, Nat.reduceMul, Int.reduceAdd, Int.reduceSub, Int.reduceMul, Int.reduceNeg, Int.reduceLT, Int.reduceLE, Int.reduceEq, Int.reduceToNat, eq_self, true_and, and_true, true_or, or_true, false_or, or_false, if_true, if_false, not_true_eq_false, not_false_eq_true, and_self, ne_eq, b_R_readItem_76, hA, hS, gf_2_1 (qrd_kd hA) hx, hk, hl, hne2, h2, e5, hop, hsk, t3, c3, upd_u, hra2, m3, hnum, hs9]
      (repeat' (first | apply And.intro | split)) <;> first | omega | exact k1
    · rw [if_neg hb] at hnum hQ
      have k1 := hQ (setRow (setRow g3 r (upd1 (g r) 3 e2)) (ad a 7) (upd1 (g3 (ad a 7)) (U 8 0).toNat v2)) (by
        refine ⟨fun x z1 z2 => ?_, ?_, ?_, ⟨e2, by omega, by rw [row_n (by unfold ad; omega), row_s, upd_s]⟩, fun z => ⟨?_, ?_⟩⟩
        · rw [row_n (by unfold ad; omega), row_n z2]
          exact o3 x z1
        · rw [row_n (by unfold ad; omega), row_s, upd_n (by omega)]
          exact h2
        · rw [row_n (by unfold ad; omega), row_s, upd_n (by omega)]
          exact h0
        · rw [row_n (by unfold ad; omega), row_s, upd_s]
        · have ev : vwC (setRow g3 r (upd1 (g r) 3 e2)) a = vwC g3 a := vwC_kept (fun x z1 z2 => row_n (by omega))
          have er : setRow g3 r (upd1 (g r) 3 (e2 : Int)) (ad a 7) = g3 (ad a 7) := row_n (by unfold ad; omega)
          rw [← er]
          refine lr_setp hR1 (Or.inl rfl) (fun k' j' z1 z2 => ?_) ?_
          · rw [vw_p (kk := 9) (by omega) z1, if_neg z2, ev]
          · rw [vw_p (kk := 9) (by omega) (by omega), if_pos ⟨rfl, rfl⟩]
            unfold nn
            rw [if_neg (by omega)])
      simp only [m_R_readItem, b_R_readItem_0, P_R_readItem_27, b_R_readItem_27, P_R_readItem_36, b_R_readItem_36, P_R_readItem_155, b_R_readItem_155, wp_abs, wp_aln0, wp_aln1, wp_bipush, wp_copy, wp_cs1, wp_cs2, wp_cs3, wp_cs4, wp_cs5, wp_cs6, wp_cs7, wp_cv1, wp_cv2, wp_cv3, wp_cv4, wp_cv5, wp_cv6, wp_cv7, wp_dup, wp_iadd, wp_iald, wp_iast, wp_iceq, wp_icge, wp_iclt, wp_icne, wp_iconst, wp_il4, wp_il5, wp_iln2, wp_iln3, wp_is4, wp_is5, wp_isn2, wp_isn3, wp_isub, wp_max, wp_min, wp_nop, wp_ret, qsc_kd, qsc_k1, qsc_l1, qsc_gf1, qsc_k2, qsc_l2, qsc_gf2, qsc_k3, qsc_l3, qsc_gf3, qsc_k4, qsc_l4, qsc_gf4, qsc_k5, qsc_l5, qsc_gf6, qsc_k6, qsc_l6, qsc_gf7, qsc_k7, qsc_l7, qsc_gf9, qsc_k8, qsc_l8, qsc_gf10, qsc_gf0, qsc_pf0, qsc_gf5, qsc_pf5, qsc_gf8, qsc_pf8, qrd_kd, qrd_gf0, qrd_pf0, qrd_gf2, qrd_pf2, qrd_gf3, qrd_pf3, wrI_row, cpI_row, row_s, row_n, row_ss, row_sw, upd_s, upd_n, ad_inj, ad_z, ad_z2, Nat.reduceEqDiff, reduceCtorEq, List.cons_append, List.nil_append, Option.toList_some, Option.toList_none, Int.toNat_natCast, List.length_cons, List.length_nil, Int.cast_ofNat_Int, Nat.reduceAdd, Nat.reduceLeDiff, Nat.reduceLT, Nat.reduceMul, Int.reduceAdd, Int.reduceSub, Int.reduceMul, Int.reduceNeg, Int.reduceLT, Int.reduceLE, Int.reduceEq, Int.reduceToNat, eq_self, true_and, and_true, true_or, or_true, false_or, or_false, if_true, if_false, not_true_eq_false, not_false_eq_true, and_self, ne_eq, b_R_readItem_76, hA, hS, gf_2_1 (qrd_kd hA) hx, hk, hl, hne2, h2, e5, hop, hsk, t3, c3, upd_u, hra2, hra3, m3, hnum, h0]
      (repeat' (first | apply And.intro | split)) <;> first | omega | exact k1
  · have k1 := hQ (setRow g3 r (upd1 (g r) 3 q)) (by
      unfold itm2
      rw [hq, if_neg c1]
      refine ⟨fun x z1 z2 => ?_, ?_, ?_, ⟨q, by omega, by rw [row_s, upd_s]⟩, fun _ => ⟨?_, ?_⟩⟩
      · rw [row_n z2]
        exact o3 x z1
      · rw [row_s, upd_n (by omega)]
        exact h2
      · rw [row_s, upd_n (by omega)]
        exact h0
      · rw [row_s, upd_s]
      · rw [vwC_kept (g := g3) (fun x z1 z2 => row_n (by omega))]
        exact hR1)
    have b := fun (z : q < L) => hT q z
    simp only [m_R_readItem, b_R_readItem_0, P_R_readItem_27, b_R_readItem_27, P_R_readItem_36, b_R_readItem_36, P_R_readItem_155, b_R_readItem_155, wp_abs, wp_aln0, wp_aln1, wp_bipush, wp_copy, wp_cs1, wp_cs2, wp_cs3, wp_cs4, wp_cs5, wp_cs6, wp_cs7, wp_cv1, wp_cv2, wp_cv3, wp_cv4, wp_cv5, wp_cv6, wp_cv7, wp_dup, wp_iadd, wp_iald, wp_iast, wp_iceq, wp_icge, wp_iclt, wp_icne, wp_iconst, wp_il4, wp_il5, wp_iln2, wp_iln3, wp_is4, wp_is5, wp_isn2, wp_isn3, wp_isub, wp_max, wp_min, wp_nop, wp_ret, qsc_kd, qsc_k1, qsc_l1, qsc_gf1, qsc_k2, qsc_l2, qsc_gf2, qsc_k3, qsc_l3, qsc_gf3, qsc_k4, qsc_l4, qsc_gf4, qsc_k5, qsc_l5, qsc_gf6, qsc_k6, qsc_l6, qsc_gf7, qsc_k7, qsc_l7, qsc_gf9, qsc_k8, qsc_l8, qsc_gf10, qsc_gf0, qsc_pf0, qsc_gf5, qsc_pf5, qsc_gf8, qsc_pf8, qrd_kd, qrd_gf0, qrd_pf0, qrd_gf2, qrd_pf2, qrd_gf3, qrd_pf3, wrI_row, cpI_row, row_s, row_n, row_ss, row_sw, upd_s, upd_n, ad_inj, ad_z, ad_z2, Nat.reduceEqDiff, reduceCtorEq, List.cons_append, List.nil_append, Option.toList_some, Option.toList_none, Int.toNat_natCast, List.length_cons, List.length_nil, Int.cast_ofNat_Int, Nat.reduceAdd, Nat.reduceLeDiff, Nat.reduceLT, Nat.reduceMul, Int.reduceAdd, Int.reduceSub, Int.reduceMul, Int.reduceNeg, Int.reduceLT, Int.reduceLE, Int.reduceEq, Int.reduceToNat, eq_self, true_and, and_true, true_or, or_true, false_or, or_false, if_true, if_false, not_true_eq_false, not_false_eq_true, and_self, ne_eq, b_R_readItem_76, hA, hS, gf_2_1 (qrd_kd hA) hx, hk, hl, hne2, h2, e5, hop, hsk, t3]
    by_cases z : q < L
    · have b2 := b z
      (repeat' (first | apply And.intro | split)) <;> first | omega | exact k1
    · (repeat' (first | apply And.intro | split)) <;> first | omega | exact k1
end ITM
end
section
/-! READING ON -/
theorem bad_n {T : Nat → Int} {L : Nat} {lo hi : Int} {st : Nat} (h : ¬ bad T L lo hi st = true) (hs : st ≤ L) : st < (num T L st).1 ∧ (num T L st).1 ≤ L ∧ lo ≤ (num T L st).2 ∧ (num T L st).2 ≤ hi := by
  have h1 := num_b (T := T) (L := L) hs
  have h2 : ¬ ((num T L st).1 = st ∨ (st + 1 < (num T L st).1 ∧ T st = 48) ∨ (num T L st).2 < lo ∨ hi < (num T L st).2) := fun q => h (bad_i.2 q)
  omega
theorem skp_b {T : Nat → Int} {L p : Nat} (h : p ≤ L) : p ≤ skp T L p ∧ skp T L p ≤ L := by
  have := skF_b (T := T) (L := L) (L - p) p
  unfold skp
  omega
theorem itmV_ok {T : Nat → Int} {L p : Nat} {U : Vw} (hp : p < L) (hW : WFV (-1) U) (h : (itmV T L p U).1 = -1) : WFV (-1) (itmV T L p U).2.2 ∧ p < (itmV T L p U).2.1 ∧ (itmV T L p U).2.1 ≤ L ∧ (itmV T L p U).2.2 5 0 = U 5 0 + 1 := by
  obtain ⟨w1, -, -, -, w5, -, w7, -, -⟩ := id hW
  unfold itmV at h ⊢
  by_cases c1 : kndC (T p) = -1 ∨ 30 ≤ U 5 0
  · rw [if_pos c1] at h
    exfalso
    replace h : (p : Int) = -1 := h
    omega
  rw [if_neg c1] at h ⊢
  have s1 := skp_b (T := T) (L := L) (p := p + 1) (by omega)
  by_cases c2 : bad T L 1 (min 20 (99 - U 8 0)) (skp T L (p + 1)) = true
  · rw [if_pos c2] at h
    exfalso
    replace h : ((skp T L (p + 1) : Nat) : Int) = -1 := h
    omega
  rw [if_neg c2] at h ⊢
  have n1 := bad_n c2 s1.2
  have hkb := kndC_b (T p)
  have hW1 := insV_wf hW (s := (U 5 0).toNat) (m := (num T L (skp T L (p + 1))).2.toNat) (kd := kndC (T p)) (by omega) (by omega) (by omega) (by omega) (by omega)
  generalize hU1 : insV U (U 5 0).toNat (kndC (T p)) (num T L (skp T L (p + 1))).2.toNat = U1 at *
  have e5 : U1 5 0 = U 5 0 + 1 := by rw [← hU1]; rfl
  have e0 : U1 0 0 = U 0 0 := by rw [← hU1]; rfl
  generalize (num T L (skp T L (p + 1))).1 = e at *
  have s2 := skp_b (T := T) (L := L) (p := e) (by omega)
  unfold itm2 at h ⊢
  by_cases c3 : skp T L e < L ∧ T (skp T L e) = 33
  · rw [if_pos c3] at h ⊢
    have s3 := skp_b (T := T) (L := L) (p := skp T L e + 1) (by omega)
    by_cases c4 : bad T L 0 (U 0 0 - 1) (skp T L (skp T L e + 1)) = true
    · rw [if_pos c4] at h
      exfalso
      replace h : ((skp T L (skp T L e + 1) : Nat) : Int) = -1 := h
      omega
    · rw [if_neg c4] at h ⊢
      have n2 := bad_n c4 s3.2
      refine ⟨set_wfp hW1 (Or.inl rfl) (Or.inr ⟨by omega, by rw [e0]; omega⟩), ?_, ?_, ?_⟩
      · show p < _
        dsimp only
        omega
      · dsimp only
        omega
      · dsimp only
        rw [set_n (by omega)]
        exact e5
  · rw [if_neg c3] at h ⊢
    refine ⟨hW1, ?_, ?_, e5⟩
    · dsimp only
      omega
    · dsimp only
      omega
theorem itmV_e {T : Nat → Int} {L p : Nat} {U : Vw} (hp : p < L) : -1 ≤ (itmV T L p U).1 ∧ (itmV T L p U).1 ≤ L := by
  have s1 := skp_b (T := T) (L := L) (p := p + 1) (by omega)
  have n1 := num_b (T := T) (L := L) s1.2
  have s2 := skp_b (T := T) (L := L) n1.1.2
  unfold itmV itm2
  split
  · dsimp only
    omega
  · split
    · dsimp only
      omega
    · split
      next c3 =>
        have s3 := skp_b (T := T) (L := L) (p := skp T L (num T L (skp T L (p + 1))).1 + 1) (by omega)
        split
        · dsimp only
          omega
        · dsimp only
          omega
      next c3 =>
        dsimp only
        omega
/-- all items from p on: the error (-1: none), how many, the view -/
def itmsF (T : Nat → Int) (L : Nat) : Nat → Nat → Nat → Vw → Int × Nat × Vw
  | 0, _, i, U => (-1, i, U)
  | d + 1, p, i, U => if p < L then (if (itmV T L p U).1 = -1 then itmsF T L d (skp T L (itmV T L p U).2.1) (i + 1) (itmV T L p U).2.2 else ((itmV T L p U).1, i, U)) else (-1, i, U)
theorem itmsF_wf {T : Nat → Int} {L : Nat} : ∀ (d p i : Nat) (U : Vw), p ≤ L → WFV (-1) U → WFV (-1) (itmsF T L d p i U).2.2 ∧ -1 ≤ (itmsF T L d p i U).1 ∧ (itmsF T L d p i U).1 ≤ L
  | 0, p, i, U, hp, hW => by
    simp only [itmsF]
    exact ⟨hW, by omega, by omega⟩
  | d + 1, p, i, U, hp, hW => by
    simp only [itmsF]
    split
    next c1 =>
      split
      next c2 =>
        obtain ⟨j1, j2, j3, j4⟩ := itmV_ok c1 hW c2
        exact itmsF_wf d _ _ _ (skp_b j3).2 j1
      next c2 => exact ⟨hW, itmV_e c1⟩
    next c1 => exact ⟨hW, by omega, by omega⟩
section ITS
variable {zt : Nat → Nat} {g : Nat → Nat → Int} {ρ : Ri} {r tx L a : Nat} {U : Vw}
theorem readItem_ok (hS : isSc ρ a) (hA : isRd ρ r) (hx : ρ.1 r 1 = some tx) (hk : kdI ρ tx 0) (hl : lnA ρ tx = 120) (hne : ¬ tx = r) (hra : r < a ∨ a + 9 ≤ r) (hta : tx < a ∨ a + 9 ≤ tx) (hL : L ≤ 120) (hT : ∀ j, j < L → 0 ≤ g tx j ∧ g tx j ≤ 255) (h2 : g r 2 = L) (h0 : g r 0 = -1) {p : Nat} (hp : p < L) (h3 : g r 3 = p) (hR : LR (-99) (vwC g a) U) (hW : WFV (-1) U) {Q : Option AV → Sto → Prop}
    (hQ : ∀ g' : Nat → Nat → Int, itI g a r L (itmV (g tx) L p U) g' → Q none (g', ρ)) : WpM zt 20 [AR r, AR a] (g, ρ) Q := by
  obtain ⟨w1, -, -, -, w5, -, w7, -, -⟩ := id hW
  have e5 : g a 5 = U 5 0 := hR.l5
  have e8 : g a 8 = U 8 0 := hR.l8
  have bt := hT p hp
  have hkb := kndC_b (g tx p)
  have hko := kindOf_ok (zt := zt) (g := g) (ρ := ρ) (c := g tx p) (by omega)
  have hra2 : (a = r) ↔ False := iff_false_intro (by omega)
  have hne2 : (tx = r) ↔ False := iff_false_intro hne
  unfold itmV at hQ
  by_cases c1 : kndC (g tx p) = -1 ∨ 30 ≤ U 5 0
  · rw [if_pos c1] at hQ
    have k1 := hQ (setRow g r (upd1 (g r) 0 p)) ⟨fun x z1 z2 => row_n z2, by rw [row_s, upd_n (by omega)]; exact h2, by rw [row_s, upd_s], ⟨p, by omega, by rw [row_s, upd_n (by omega)]; exact h3⟩, fun z => by
      exfalso
      replace z : (p : Int) = -1 := z
      omega⟩
    simp only [m_R_readItem, b_R_readItem_0, P_R_readItem_27, b_R_readItem_27, P_R_readItem_36, b_R_readItem_36, P_R_readItem_155, b_R_readItem_155, wp_abs, wp_aln0, wp_aln1, wp_bipush, wp_copy, wp_cs1, wp_cs2, wp_cs3, wp_cs4, wp_cs5, wp_cs6, wp_cs7, wp_cv1, wp_cv2, wp_cv3, wp_cv4, wp_cv5, wp_cv6, wp_cv7, wp_dup, wp_iadd, wp_iald, wp_iast, wp_iceq, wp_icge, wp_iclt, wp_icne, wp_iconst, wp_il4, wp_il5, wp_iln2, wp_iln3, wp_is4, wp_is5, wp_isn2, wp_isn3, wp_isub, wp_max, wp_min, wp_nop, wp_ret, qsc_kd, qsc_k1, qsc_l1, qsc_gf1, qsc_k2, qsc_l2, qsc_gf2, qsc_k3, qsc_l3, qsc_gf3, qsc_k4, qsc_l4, qsc_gf4, qsc_k5, qsc_l5, qsc_gf6, qsc_k6, qsc_l6, qsc_gf7, qsc_k7, qsc_l7, qsc_gf9, qsc_k8, qsc_l8, qsc_gf10, qsc_gf0, qsc_pf0, qsc_gf5, qsc_pf5, qsc_gf8, qsc_pf8, qrd_kd, qrd_gf0, qrd_pf0, qrd_gf2, qrd_pf2, qrd_gf3, qrd_pf3, wrI_row, cpI_row, row_s, row_n, row_ss, row_sw, upd_s, upd_n, ad_inj, ad_z, ad_z2, Nat.reduceEqDiff, reduceCtorEq, List.cons_append, List.nil_append, Option.toList_some, Option.toList_none, Int.toNat_natCast, List.length_cons, List.length_nil, Int.cast_ofNat_Int, Nat.reduceAdd, Nat.reduceLeDiff, Nat.reduceLT, Nat.reduceMul, Int.reduceAdd, Int.reduceSub, Int.reduceMul, Int.reduceNeg, Int.reduceLT, Int.reduceLE, Int.reduceEq, Int.reduceToNat, eq_self, true_and, and_true, true_or, or_true, false_or, or_false, if_true, if_false, not_true_eq_false, not_false_eq_true, and_self, ne_eq, hA, hS, gf_2_1 (qrd_kd hA) hx, hk, hl, hne2, h2, h3, e5, hko]
    (repeat' (first | apply And.intro | split)) <;> first | omega | exact k1
  rw [if_neg c1] at hQ
  have s1 := skp_b (T := g tx) (L := L) (p := p + 1) (by omega)
  have t4 : setRow g r (upd1 (g r) 3 ((p + 1 : Nat) : Int)) tx = g tx := row_n hne
  have hnum := readNumber_ok (zt := zt) (g := setRow g r (upd1 (g r) 3 ((p + 1 : Nat) : Int))) (ρ := ρ) hA hx hk hl hne hL (by rw [t4]; exact hT) (by rw [row_s, upd_n (by omega)]; exact h2) (lo := 1) (hi := min 20 (99 - U 8 0)) (by omega) (by omega) (p := p + 1) (by omega) (by rw [row_s, upd_s]) rfl
  have e9 : ((p + 1 : Nat) : Int) = (p : Int) + 1 := by omega
  rw [t4, row_s, row_ss, row_ss, upd_u, e9] at hnum
  have hnb := num_b (T := g tx) (L := L) (p := skp (g tx) L (p + 1)) s1.2
  have hck : ¬ kndC (g tx p) = -1 := fun q => c1 (Or.inl q)
  by_cases hb : bad (g tx) L 1 (min 20 (99 - U 8 0)) (skp (g tx) L (p + 1)) = true
  · rw [if_pos hb] at hnum hQ
    generalize hs2 : skp (g tx) L (p + 1) = s2 at *
    have hs9 : ¬ (s2 : Int) = -1 := by omega
    have k1 := hQ (setRow g r (upd1 (upd1 (g r) 3 (num (g tx) L s2).1) 0 s2)) ⟨fun x z1 z2 => row_n z2, by rw [row_s, upd_n (by omega), upd_n (by omega)]; exact h2, by rw [row_s, upd_s], ⟨_, hnb.1.2, by rw [row_s, upd_n (by omega), upd_s]⟩, fun z => absurd z hs9⟩
    simp only [m_R_readItem, b_R_readItem_0, P_R_readItem_27, b_R_readItem_27, P_R_readItem_36, b_R_readItem_36, P_R_readItem_155, b_R_readItem_155, wp_abs, wp_aln0, wp_aln1, wp_bipush, wp_copy, wp_cs1, wp_cs2, wp_cs3, wp_cs4, wp_cs5, wp_cs6, wp_cs7, wp_cv1, wp_cv2, wp_cv3, wp_cv4, wp_cv5, wp_cv6, wp_cv7, wp_dup, wp_iadd, wp_iald, wp_iast, wp_iceq, wp_icge, wp_iclt, wp_icne, wp_iconst, wp_il4, wp_il5, wp_iln2, wp_iln3, wp_is4, wp_is5, wp_isn2, wp_isn3, wp_isub, wp_max, wp_min, wp_nop, wp_ret, qsc_kd, qsc_k1, qsc_l1, qsc_gf1, qsc_k2, qsc_l2, qsc_gf2, qsc_k3, qsc_l3, qsc_gf3, qsc_k4, qsc_l4, qsc_gf4, qsc_k5, qsc_l5, qsc_gf6, qsc_k6, qsc_l6, qsc_gf7, qsc_k7, qsc_l7, qsc_gf9, qsc_k8, qsc_l8, qsc_gf10, qsc_gf0, qsc_pf0, qsc_gf5, qsc_pf5, qsc_gf8, qsc_pf8, qrd_kd, qrd_gf0, qrd_pf0, qrd_gf2, qrd_pf2, qrd_gf3, qrd_pf3, wrI_row, cpI_row, row_s, row_n, row_ss, row_sw, upd_s, upd_n, ad_inj, ad_z, ad_z2, Nat.reduceEqDiff, reduceCtorEq, List.cons_append, List.nil_append, Option.toList_some, Option.toList_none, Int.toNat_natCast, List.length_cons, List.length_nil, Int.cast_ofNat_Int, Nat.reduceAdd, Nat.reduceLeDiff, Nat.reduceLT, Nat.reduceMul, Int.reduceAdd, Int.reduceSub, Int.reduceMul, Int.reduceNeg, Int.reduceLT, Int.reduceLE, Int.reduceEq, Int.reduceToNat, eq_self, true_and, and_true, true_or, or_true, false_or, or_false, if_true, if_false, not_true_eq_false, not_false_eq_true, and_self, ne_eq, hA, hS, gf_2_1 (qrd_kd hA) hx, hk, hl, hne2, h2, h3, e5, e8, hko, hck, hnum, hra2, hs9]
    (repeat' (first | apply And.intro | split)) <;> first | omega | exact k1
  · rw [if_neg hb] at hnum hQ
    have n1 := bad_n hb s1.2
    generalize hs2 : skp (g tx) L (p + 1) = s2 at *
    generalize he2 : (num (g tx) L s2).1 = e2 at *
    generalize hv2 : (num (g tx) L s2).2 = v2 at *
    have t5 : setRow g r (upd1 (g r) 3 (e2 : Int)) tx = g tx := row_n hne
    have ev : vwC (setRow g r (upd1 (g r) 3 (e2 : Int))) a = vwC g a := vwC_kept (fun x z1 z2 => row_n (by omega))
    have k1 := item_tail (zt := zt) (g := setRow g r (upd1 (g r) 3 (e2 : Int))) (ρ := ρ) (U := U) (Q := Q) hS hA hx hk hl hne hra hta hL (by rw [t5]; exact hT) (by rw [row_s, upd_n (by omega)]; exact h2) (by rw [row_s, upd_n (by omega)]; exact h0) (p := e2) (by omega) (by rw [row_s, upd_s]) (by rw [ev]; exact hR) hW (kd := kndC (g tx p)) (by omega) (v := v2.toNat) (by omega) (by omega) (by omega) (fun g' q => by
      rw [t5] at q
      refine hQ g' ⟨fun x z1 z2 => ?_, q.2.1, q.2.2.1, q.2.2.2⟩
      rw [q.1 x z1 z2]
      exact row_n z2)
    rw [show ((v2.toNat : Nat) : Int) = v2 by omega] at k1
    simp only [m_R_readItem, b_R_readItem_0, P_R_readItem_27, b_R_readItem_27, P_R_readItem_36, b_R_readItem_36, P_R_readItem_155, b_R_readItem_155, wp_abs, wp_aln0, wp_aln1, wp_bipush, wp_copy, wp_cs1, wp_cs2, wp_cs3, wp_cs4, wp_cs5, wp_cs6, wp_cs7, wp_cv1, wp_cv2, wp_cv3, wp_cv4, wp_cv5, wp_cv6, wp_cv7, wp_dup, wp_iadd, wp_iald, wp_iast, wp_iceq, wp_icge, wp_iclt, wp_icne, wp_iconst, wp_il4, wp_il5, wp_iln2, wp_iln3, wp_is4, wp_is5, wp_isn2, wp_isn3, wp_isub, wp_max, wp_min, wp_nop, wp_ret, qsc_kd, qsc_k1, qsc_l1, qsc_gf1, qsc_k2, qsc_l2, qsc_gf2, qsc_k3, qsc_l3, qsc_gf3, qsc_k4, qsc_l4, qsc_gf4, qsc_k5, qsc_l5, qsc_gf6, qsc_k6, qsc_l6, qsc_gf7, qsc_k7, qsc_l7, qsc_gf9, qsc_k8, qsc_l8, qsc_gf10, qsc_gf0, qsc_pf0, qsc_gf5, qsc_pf5, qsc_gf8, qsc_pf8, qrd_kd, qrd_gf0, qrd_pf0, qrd_gf2, qrd_pf2, qrd_gf3, qrd_pf3, wrI_row, cpI_row, row_s, row_n, row_ss, row_sw, upd_s, upd_n, ad_inj, ad_z, ad_z2, Nat.reduceEqDiff, reduceCtorEq, List.cons_append, List.nil_append, Option.toList_some, Option.toList_none, Int.toNat_natCast, List.length_cons, List.length_nil, Int.cast_ofNat_Int, Nat.reduceAdd, Nat.reduceLeDiff, Nat.reduceLT, Nat.reduceMul, Int.reduceAdd, Int.reduceSub, Int.reduceMul, Int.reduceNeg, Int.reduceLT, Int.reduceLE, Int.reduceEq, Int.reduceToNat, eq_self, true_and, and_true, true_or, or_true, false_or, or_false, if_true, if_false, not_true_eq_false, not_false_eq_true, and_self, ne_eq, hA, hS, gf_2_1 (qrd_kd hA) hx, hk, hl, hne2, h2, h3, e5, e8, hko, hck, hnum, hra2, h0]
    (repeat' (first | apply And.intro | split)) <;> first | omega | exact k1
theorem readItems_loop (hS : isSc ρ a) (hA : isRd ρ r) (hx : ρ.1 r 1 = some tx) (hk : kdI ρ tx 0) (hl : lnA ρ tx = 120) (hne : ¬ tx = r) (hra : r < a ∨ a + 9 ≤ r) (hta : tx < a ∨ a + 9 ≤ tx) (hL : L ≤ 120) (hT : ∀ j, j < L → 0 ≤ g tx j ∧ g tx j ≤ 255) {o2 : Option AV} {w : Int × Nat × Vw} {Q : Option AV → Sto → Prop}
    (hQ : ∀ (g' : Nat → Nat → Int) (v : Int), (∀ x, (x < a ∨ a + 9 ≤ x) → x ≠ r → g' x = g x) → g' r 0 = w.1 → (w.1 = -1 → v = w.2.1 ∧ LR (-99) (vwC g' a) w.2.2) → Q (some (AI v)) (g', ρ)) :
    ∀ (d p i : Nat) (U : Vw) (g1 : Nat → Nat → Int), L - p ≤ d → p ≤ L → (i : Int) ≤ U 5 0 → WFV (-1) U → LR (-99) (vwC g1 a) U → (∀ x, (x < a ∨ a + 9 ≤ x) → x ≠ r → g1 x = g x) → g1 r 0 = -1 → g1 r 2 = L → g1 r 3 = p → itmsF (g tx) L d p i U = w → Wp zt 19 (P 19 32) [some (AR r), some (AR tx), o2, some (AR a), some (AI i)] [] (g1, ρ) Q := by
  have stop : ∀ (p i : Nat) (U : Vw) (g1 : Nat → Nat → Int), p = L → LR (-99) (vwC g1 a) U → (∀ x, (x < a ∨ a + 9 ≤ x) → x ≠ r → g1 x = g x) → g1 r 0 = -1 → g1 r 2 = L → g1 r 3 = p → (-1, i, U) = w → Wp zt 19 (P 19 32) [some (AR r), some (AR tx), o2, some (AR a), some (AI i)] [] (g1, ρ) Q := by
    intro p i U g1 hp hR hfr h0 h2 h3 hw
    subst hw
    have k1 := hQ g1 i hfr h0 (fun _ => ⟨rfl, hR⟩)
    subst hp
    rw [P_R_readItems_32]
    simp only [m_R_readItems, b_R_readItems_0, P_R_readItems_73, b_R_readItems_73, wp_abs, wp_aln0, wp_aln1, wp_aln3, wp_bipush, wp_copy, wp_cs1, wp_cs2, wp_cs3, wp_cs4, wp_cs5, wp_cs6, wp_cs7, wp_cv1, wp_cv2, wp_cv3, wp_cv4, wp_cv5, wp_cv6, wp_cv7, wp_goto, wp_icge, wp_icgt, wp_icne, wp_iconst, wp_il4, wp_iln2, wp_inc4, wp_iret, wp_is4, wp_max, wp_min, wp_nop, wp_zret, qrd_kd, qrd_gf0, qrd_pf0, qrd_gf2, qrd_pf2, qrd_gf3, qrd_pf3, wrI_row, cpI_row, row_s, row_n, row_ss, row_sw, upd_s, upd_n, ad_inj, ad_z, ad_z2, Nat.reduceEqDiff, reduceCtorEq, List.cons_append, List.nil_append, Option.toList_some, Option.toList_none, Int.toNat_natCast, List.length_cons, List.length_nil, Int.cast_ofNat_Int, Nat.reduceAdd, Nat.reduceLeDiff, Nat.reduceLT, Nat.reduceMul, Int.reduceAdd, Int.reduceSub, Int.reduceMul, Int.reduceNeg, Int.reduceLT, Int.reduceLE, Int.reduceEq, Int.reduceToNat, eq_self, true_and, and_true, true_or, or_true, false_or, or_false, if_true, if_false, not_true_eq_false, not_false_eq_true, and_self, ne_eq, b_R_readItems_32, hA, h0, h2, h3]
    (repeat' (first | apply And.intro | split)) <;> first | omega | exact k1
  intro d
  induction d with
  | zero =>
    intro p i U g1 hd hp hi hW hR hfr h0 h2 h3 hw
    exact stop p i U g1 (by omega) hR hfr h0 h2 h3 hw
  | succ d ih =>
    intro p i U g1 hd hp hi hW hR hfr h0 h2 h3 hw
    simp only [itmsF] at hw
    by_cases c1 : p < L
    · rw [if_pos c1] at hw
      have w5 := hW.2.2.2.2.1
      have t1 : g1 tx = g tx := hfr tx hta hne
      have hne9 : (p : Int) < (L : Int) := by omega
      rw [P_R_readItems_32]
      simp only [m_R_readItems, b_R_readItems_0, P_R_readItems_73, b_R_readItems_73, wp_abs, wp_aln0, wp_aln1, wp_aln3, wp_bipush, wp_copy, wp_cs1, wp_cs2, wp_cs3, wp_cs4, wp_cs5, wp_cs6, wp_cs7, wp_cv1, wp_cv2, wp_cv3, wp_cv4, wp_cv5, wp_cv6, wp_cv7, wp_goto, wp_icge, wp_icgt, wp_icne, wp_iconst, wp_il4, wp_iln2, wp_inc4, wp_iret, wp_is4, wp_max, wp_min, wp_nop, wp_zret, qrd_kd, qrd_gf0, qrd_pf0, qrd_gf2, qrd_pf2, qrd_gf3, qrd_pf3, wrI_row, cpI_row, row_s, row_n, row_ss, row_sw, upd_s, upd_n, ad_inj, ad_z, ad_z2, Nat.reduceEqDiff, reduceCtorEq, List.cons_append, List.nil_append, Option.toList_some, Option.toList_none, Int.toNat_natCast, List.length_cons, List.length_nil, Int.cast_ofNat_Int, Nat.reduceAdd, Nat.reduceLeDiff, Nat.reduceLT, Nat.reduceMul, Int.reduceAdd, Int.reduceSub, Int.reduceMul, Int.reduceNeg, Int.reduceLT, Int.reduceLE, Int.reduceEq, Int.reduceToNat, eq_self, true_and, and_true, true_or, or_true, false_or, or_false, if_true, if_false, not_true_eq_false, not_false_eq_true, and_self, ne_eq, b_R_readItems_32, hA, h0, h2, h3]
      (repeat' (first | apply And.intro | split)) <;> first | omega | skip
      refine readItem_ok hS hA hx hk hl hne hra hta hL (by rw [t1]; exact hT) h2 h0 c1 h3 hR hW (fun g2 hI => ?_)
      rw [t1] at hI
      obtain ⟨i1, i2, i3, ⟨p', i4, i5⟩, i6⟩ := hI
      have t2 : g2 tx = g tx := (i1 tx hta hne).trans t1
      have hsk := skipSpaces_ok (zt := zt) (g := g2) (ρ := ρ) hA hx hk hl hne hL (by rw [t2]; exact hT) i2 i4 i5
      rw [t2] at hsk
      have hfr3 : ∀ x, (x < a ∨ a + 9 ≤ x) → x ≠ r → setRow g2 r (upd1 (g2 r) 3 (skp (g tx) L p' : Nat)) x = g x := fun x z1 z2 => by
        rw [row_n z2, i1 x z1 z2]
        exact hfr x z1 z2
      by_cases c2 : (itmV (g tx) L p U).1 = -1
      · rw [if_pos c2] at hw
        obtain ⟨j1, j2, j3, j4⟩ := itmV_ok c1 hW c2
        obtain ⟨i7, i8⟩ := i6 c2
        rw [i5] at i7
        have e : p' = (itmV (g tx) L p U).2.1 := by omega
        subst e
        have sb := skp_b (T := g tx) j3
        have k1 := ih (skp (g tx) L (itmV (g tx) L p U).2.1) (i + 1) (itmV (g tx) L p U).2.2 (setRow g2 r (upd1 (g2 r) 3 (skp (g tx) L (itmV (g tx) L p U).2.1 : Nat))) (by omega) sb.2 (by omega) j1 (by
          rw [vwC_kept (g := g2) (fun x z1 z2 => row_n (by omega))]
          exact i8) hfr3 (by rw [row_s, upd_n (by omega), i3]; exact c2) (by rw [row_s, upd_n (by omega)]; exact i2) (by rw [row_s, upd_s]) hw
        simp only [m_R_readItems, b_R_readItems_0, P_R_readItems_73, b_R_readItems_73, wp_abs, wp_aln0, wp_aln1, wp_aln3, wp_bipush, wp_copy, wp_cs1, wp_cs2, wp_cs3, wp_cs4, wp_cs5, wp_cs6, wp_cs7, wp_cv1, wp_cv2, wp_cv3, wp_cv4, wp_cv5, wp_cv6, wp_cv7, wp_goto, wp_icge, wp_icgt, wp_icne, wp_iconst, wp_il4, wp_iln2, wp_inc4, wp_iret, wp_is4, wp_max, wp_min, wp_nop, wp_zret, qrd_kd, qrd_gf0, qrd_pf0, qrd_gf2, qrd_pf2, qrd_gf3, qrd_pf3, wrI_row, cpI_row, row_s, row_n, row_ss, row_sw, upd_s, upd_n, ad_inj, ad_z, ad_z2, Nat.reduceEqDiff, reduceCtorEq, List.cons_append, List.nil_append, Option.toList_some, Option.toList_none, Int.toNat_natCast, List.length_cons, List.length_nil, Int.cast_ofNat_Int, Nat.reduceAdd, Nat.reduceLeDiff, Nat.reduceLT, Nat.reduceMul, Int.reduceAdd, Int.reduceSub, Int.reduceMul, Int.reduceNeg, Int.reduceLT, Int.reduceLE, Int.reduceEq, Int.reduceToNat, eq_self, true_and, and_true, true_or, or_true, false_or, or_false, if_true, if_false, not_true_eq_false, not_false_eq_true, and_self, ne_eq, hA, hsk]
        (repeat' (first | apply And.intro | split)) <;> first | omega | exact k1
      · rw [if_neg c2] at hw
        have e0 : setRow g2 r (upd1 (g2 r) 3 (skp (g tx) L p' : Nat)) r 0 = (itmV (g tx) L p U).1 := by rw [row_s, upd_n (by omega)]; exact i3
        have k1 := hQ (setRow g2 r (upd1 (g2 r) 3 (skp (g tx) L p' : Nat))) ((i : Int) + 1) hfr3 (by rw [e0, ← hw]) (fun z => by
          rw [← hw] at z
          exact absurd z c2)
        have eb := itmV_e (U := U) (T := g tx) c1
        rw [← i3] at eb c2
        simp only [m_R_readItems, b_R_readItems_0, P_R_readItems_32, b_R_readItems_32, P_R_readItems_73, b_R_readItems_73, wp_abs, wp_aln0, wp_aln1, wp_aln3, wp_bipush, wp_copy, wp_cs1, wp_cs2, wp_cs3, wp_cs4, wp_cs5, wp_cs6, wp_cs7, wp_cv1, wp_cv2, wp_cv3, wp_cv4, wp_cv5, wp_cv6, wp_cv7, wp_goto, wp_icge, wp_icgt, wp_icne, wp_iconst, wp_il4, wp_iln2, wp_inc4, wp_iret, wp_is4, wp_max, wp_min, wp_nop, wp_zret, qrd_kd, qrd_gf0, qrd_pf0, qrd_gf2, qrd_pf2, qrd_gf3, qrd_pf3, wrI_row, cpI_row, row_s, row_n, row_ss, row_sw, upd_s, upd_n, ad_inj, ad_z, ad_z2, Nat.reduceEqDiff, reduceCtorEq, List.cons_append, List.nil_append, Option.toList_some, Option.toList_none, Int.toNat_natCast, List.length_cons, List.length_nil, Int.cast_ofNat_Int, Nat.reduceAdd, Nat.reduceLeDiff, Nat.reduceLT, Nat.reduceMul, Int.reduceAdd, Int.reduceSub, Int.reduceMul, Int.reduceNeg, Int.reduceLT, Int.reduceLE, Int.reduceEq, Int.reduceToNat, eq_self, true_and, and_true, true_or, or_true, false_or, or_false, if_true, if_false, not_true_eq_false, not_false_eq_true, and_self, ne_eq, hA, hsk]
        (repeat' (first | apply And.intro | split)) <;> first | omega | exact k1
    · rw [if_neg c1] at hw
      exact stop p i U g1 (by omega) hR hfr h0 h2 h3 hw
/-- the store of references with the reader's text set -/
def rdP (ρ : Ri) (r tx : Nat) : Ri := (wrR ρ.1 r 1 (some tx), ρ.2)
theorem rdP_1 {x : Nat} (h : ¬ x = r) : (rdP ρ r tx).1 x = ρ.1 x := by
  funext y
  show (if x = r ∧ y = 1 then some tx else ρ.1 x y) = _
  rw [if_neg (fun q => h q.1)]
theorem readItems_ok (hS : isSc ρ a) (hA : isRd ρ r) (hk : kdI ρ tx 0) (hl : lnA ρ tx = 120) (hne : ¬ tx = r) (hra : r < a ∨ a + 9 ≤ r) (hta : tx < a ∨ a + 9 ≤ tx) (hL : L ≤ 120) (hT : ∀ j, j < L → 0 ≤ g tx j ∧ g tx j ≤ 255) (hR : LR (-99) (vwC g a) U) (hW : WFV (-1) U) {Q : Option AV → Sto → Prop}
    (hQ : ∀ (g' : Nat → Nat → Int) (v : Int), (∀ x, (x < a ∨ a + 9 ≤ x) → x ≠ r → g' x = g x) → g' r 0 = (itmsF (g tx) L L (skp (g tx) L 0) 0 U).1 → ((itmsF (g tx) L L (skp (g tx) L 0) 0 U).1 = -1 → v = (itmsF (g tx) L L (skp (g tx) L 0) 0 U).2.1 ∧ LR (-99) (vwC g' a) (itmsF (g tx) L L (skp (g tx) L 0) 0 U).2.2) → Q (some (AI v)) (g', rdP ρ r tx)) : WpM zt 19 [AR r, AR tx, AI L, AR a] (g, ρ) Q := by
  have hS' : isSc (rdP ρ r tx) a := by
    have e := rdP_1 (ρ := ρ) (r := r) (tx := tx) (x := a) (by omega)
    unfold isSc at hS ⊢
    rw [e]
    exact hS
  have hA' : isRd (rdP ρ r tx) r := hA
  have hk' : kdI (rdP ρ r tx) tx 0 := hk
  have hl' : lnA (rdP ρ r tx) tx = 120 := hl
  have hx' : (rdP ρ r tx).1 r 1 = some tx := if_pos ⟨rfl, rfl⟩
  have et : setRow g r (upd1 (upd1 (upd1 (g r) 2 L) 3 0) 0 (-1)) tx = g tx := row_n hne
  have hsk := skipSpaces_ok (zt := zt) (g := setRow g r (upd1 (upd1 (upd1 (g r) 2 L) 3 0) 0 (-1))) (ρ := rdP ρ r tx) hA' hx' hk' hl' hne hL (by rw [et]; exact hT) (by rw [row_s, upd_n (by omega), upd_n (by omega), upd_s]) (p := 0) (by omega) (by rw [row_s, upd_n (by omega), upd_s]; rfl)
  rw [et, row_s, row_ss] at hsk
  have hsb := skp_b (T := g tx) (L := L) (p := 0) (by omega)
  have k1 := readItems_loop (zt := zt) (g := g) (o2 := some (AI L)) hS' hA' hx' hk' hl' hne hra hta hL hT hQ L (skp (g tx) L 0) 0 U (setRow g r (upd1 (upd1 (upd1 (upd1 (g r) 2 L) 3 0) 0 (-1)) 3 (skp (g tx) L 0 : Nat))) (by omega) hsb.2 (by have := hW.2.2.2.2.1; omega) hW (by
    rw [vwC_kept (g := g) (fun x z1 z2 => row_n (by omega))]
    exact hR) (fun x z1 z2 => row_n z2) (by rw [row_s, upd_n (by omega), upd_s]) (by rw [row_s, upd_n (by omega), upd_n (by omega), upd_n (by omega), upd_s]) (by rw [row_s, upd_s]) rfl
  have hmin : min (L : Int) 120 = L := by omega
  unfold rdP at hA' hk' hl' hsk k1
  simp only [m_R_readItems, b_R_readItems_0, P_R_readItems_73, b_R_readItems_73, wp_abs, wp_aln0, wp_aln1, wp_aln3, wp_bipush, wp_copy, wp_cs1, wp_cs2, wp_cs3, wp_cs4, wp_cs5, wp_cs6, wp_cs7, wp_cv1, wp_cv2, wp_cv3, wp_cv4, wp_cv5, wp_cv6, wp_cv7, wp_goto, wp_icge, wp_icgt, wp_icne, wp_iconst, wp_il4, wp_iln2, wp_inc4, wp_iret, wp_is4, wp_max, wp_min, wp_nop, wp_zret, qrd_kd, qrd_gf0, qrd_pf0, qrd_gf2, qrd_pf2, qrd_gf3, qrd_pf3, wrI_row, cpI_row, row_s, row_n, row_ss, row_sw, upd_s, upd_n, ad_inj, ad_z, ad_z2, Nat.reduceEqDiff, reduceCtorEq, List.cons_append, List.nil_append, Option.toList_some, Option.toList_none, Int.toNat_natCast, List.length_cons, List.length_nil, Int.cast_ofNat_Int, Nat.reduceAdd, Nat.reduceLeDiff, Nat.reduceLT, Nat.reduceMul, Int.reduceAdd, Int.reduceSub, Int.reduceMul, Int.reduceNeg, Int.reduceLT, Int.reduceLE, Int.reduceEq, Int.reduceToNat, eq_self, true_and, and_true, true_or, or_true, false_or, or_false, if_true, if_false, not_true_eq_false, not_false_eq_true, and_self, ne_eq, hA, hA', pf_2_1 (qrd_kd hA), wp_alen hk' (by omega), hl', hsk, hmin]
  (repeat' (first | apply And.intro | split)) <;> first | omega | exact k1
end ITS
end
section
/-! WHAT THE CLASS'S OBJECT STANDS FOR -/
section RUL
variable {zt : Nat → Nat} {k : Nat} {c : List RI} {ls : LsT} {st : List AV} {g : Nat → Nat → Int} {ρ : Ri} {Q : Option AV → Sto → Prop} {x : List Nat}
theorem wp_gst {i j : Nat} : Wp zt k ((.getstatic i, [j]) :: c) ls st (g, ρ) Q ↔ Wp zt k c ls (.inr (some (zt j)) :: st) (g, ρ) Q := wp_nx rfl
theorem wp_qast2 {i : Int} {b d : Nat} (h : kdI ρ b 2) (hd : kdI ρ d 14) : Wp zt k ((.aastore, x) :: c) ls (.inr (some d) :: .inl i :: .inr (some b) :: st) (g, ρ) Q ↔ (0 ≤ i ∧ i < (lnA ρ b : Int) ∧ i < 65536) ∧ Wp zt k c ls st (g, wrR ρ.1 b i.toNat (some d), ρ.2) Q := by
  have hl := kdI_ln h
  have hl2 := kdI_ln hd
  by_cases hr : (0 ≤ i ∧ i < (lnA ρ b : Int) ∧ i < 65536)
  · have he : eff zt (.aastore, x) ls (.inr (some d) :: .inl i :: .inr (some b) :: st) (g, ρ) = some (.inl (ls, st, (g, wrR ρ.1 b i.toNat (some d), ρ.2))) := by
      simp only [eff, shp, hl, hl2]
      rw [if_pos (by simpa using hr)]; rfl
    exact ⟨fun q => ⟨hr, (wp_nx he).mp q⟩, fun q => (wp_nx he).mpr q.2⟩
  · refine ⟨fun q => absurd q (wp_no ?_), fun q => absurd q.1 hr⟩
    simp only [eff, shp, hl, hl2]
    rw [if_neg (fun z => hr (by simpa using z))]
end RUL
/-- a state: the view, which slots are taken, the slots' views -/
abbrev SV : Type := Vw × (Nat → Bool) × (Nat → Vw)
/-- all: the state now, how many kept ones, they, the text's length, the text -/
abbrev XV : Type := SV × Nat × (Nat → SV) × Nat × (Nat → Int)
def WFS (S : SV) : Prop := WFV (-1) S.1 ∧ ∀ i, i < 2 → S.2.1 i = true → WFV (-1) (S.2.2 i)
def WFX (X : XV) : Prop := WFS X.1 ∧ X.2.1 ≤ 5 ∧ (∀ i, i < X.2.1 → WFS (X.2.2.1 i)) ∧ X.2.2.2.1 ≤ 120 ∧ ∀ j, j < X.2.2.2.1 → 1 ≤ X.2.2.2.2 j ∧ X.2.2.2.2 j ≤ 255
def SRC (g : Nat → Nat → Int) (t : Nat) (S : SV) : Prop := LR (-99) (vwC g (ad t 1)) S.1 ∧ (g (ad t 29) 0 = if S.2.1 0 = true then 1 else 0) ∧ (g (ad t 29) 1 = if S.2.1 1 = true then 1 else 0) ∧ (S.2.1 0 = true → LR (-99) (vwC g (ad t 11)) (S.2.2 0)) ∧ (S.2.1 1 = true → LR (-99) (vwC g (ad t 20)) (S.2.2 1))
def LayC (ρ : Ri) (L : Nat) (h : Nat → Nat) : Prop := isLf ρ L ∧ isStX ρ (ad L 1) ∧ (∀ i, i < 5 → isStX ρ (ad L (32 + 30 * i))) ∧ isSc ρ (ad L 182) ∧ isAr ρ (ad L 191) ∧ isPl ρ (ad L 194) ∧ isRd ρ (ad L 201) ∧ (∀ i, i < 5 → ρ.1 (ad L 31) i = some (ad L (32 + 30 * h i)) ∧ h i < 5) ∧ ∀ i j, i < 5 → j < 5 → h i = h j → i = j
def RepC (g : Nat → Nat → Int) (ρ : Ri) (L : Nat) (h : Nat → Nat) (X : XV) : Prop := LayC ρ L h ∧ SRC g (ad L 1) X.1 ∧ (∀ i, i < X.2.1 → SRC g (ad L (32 + 30 * h i)) (X.2.2.1 i)) ∧ g L 2 = X.2.1 ∧ g L 8 = X.2.2.2.1 ∧ ∀ j, j < X.2.2.2.1 → g (ad L 203) j = X.2.2.2.2 j
/-- an action's first step: the state is kept -/
def recX (X : XV) : XV := (X.1, if X.2.1 = 5 then 5 else X.2.1 + 1, (fun i => if X.2.1 = 5 then (if i < 4 then X.2.2.1 (i + 1) else X.1) else (if i = X.2.1 then X.1 else X.2.2.1 i)), X.2.2.2)
theorem recX_wf {X : XV} (h : WFX X) : WFX (recX X) := by
  obtain ⟨h1, h2, h3, h4⟩ := h
  refine ⟨h1, ?_, fun i hi => ?_, h4⟩
  · show (if X.2.1 = 5 then 5 else X.2.1 + 1) ≤ 5
    split <;> omega
  · replace hi : i < if X.2.1 = 5 then 5 else X.2.1 + 1 := hi
    show WFS (if X.2.1 = 5 then (if i < 4 then X.2.2.1 (i + 1) else X.1) else (if i = X.2.1 then X.1 else X.2.2.1 i))
    split
    next e =>
      rw [if_pos e] at hi
      split
      · exact h3 _ (by omega)
      · exact h1
    next e =>
      rw [if_neg e] at hi
      split
      · exact h1
      · exact h3 _ (by omega)
section REP
variable {zt : Nat → Nat} {g : Nat → Nat → Int} {ρ : Ri} {L t o : Nat} {S : SV}
theorem SRC.tk (h : SRC g t S) : tkB g t := by
  obtain ⟨-, h1, h2, -, -⟩ := h
  unfold tkB
  rw [h1, h2]
  constructor
  · split <;> omega
  · split <;> omega
theorem SRC.cp {g' : Nat → Nat → Int} (h : SRC g o S) (hW : WFS S) (he : stEq g' t g o) : SRC g' t S := by
  obtain ⟨h1, h2, h3, h4, h5⟩ := h
  obtain ⟨e1, ⟨e2, e3⟩, e4, e5⟩ := he
  refine ⟨h1.eq hW.1 e1, e2.trans h2, e3.trans h3, fun q => ?_, fun q => ?_⟩
  · exact (h4 q).eq (hW.2 0 (by omega) q) (e4 (by rw [h2, if_pos q]))
  · exact (h5 q).eq (hW.2 1 (by omega) q) (e5 (by rw [h3, if_pos q]))
theorem SRC.kept {g' : Nat → Nat → Int} (h : SRC g t S) (hk : ∀ x, t < x → x < t + 30 → g' x = g x) : SRC g' t S := by
  obtain ⟨h1, h2, h3, h4, h5⟩ := h
  have e1 : vwC g' (ad t 1) = vwC g (ad t 1) := vwC_kept (fun x z1 z2 => hk x (by unfold ad at *; omega) (by unfold ad at *; omega))
  have e2 : vwC g' (ad t 11) = vwC g (ad t 11) := vwC_kept (fun x z1 z2 => hk x (by unfold ad at *; omega) (by unfold ad at *; omega))
  have e3 : vwC g' (ad t 20) = vwC g (ad t 20) := vwC_kept (fun x z1 z2 => hk x (by unfold ad at *; omega) (by unfold ad at *; omega))
  have e4 : g' (ad t 29) = g (ad t 29) := hk _ (by unfold ad; omega) (by unfold ad; omega)
  unfold SRC
  rw [e1, e2, e3, e4]
  exact ⟨h1, h2, h3, h4, h5⟩
end REP
end
