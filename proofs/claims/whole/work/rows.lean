section
-- ===== PART A: goes FIRST, ahead of the names: the tables' words, and 'selects' of the private methods out of them =====
/-- a private method of a class that the tables say can be made, by its rows of tables_1 -/
def lw_okq (q : MethodName × Nat) : Prop := (q.1.cls ≠ "java/lang/invoke/MethodHandle" ∧ q.1.cls ≠ "java/lang/invoke/VarHandle") ∧ Cond.instantiable q.1.cls q.2 ∈ tables_1 ∧ Cond.privateMethod q.1 ∈ tables_1 ∧ Cond.instanceMethod q.1 ∈ tables_1
theorem lw_p0 : lw_okq (⟨"LipFlaps", "recordState", "()V"⟩, 9) := ⟨⟨by decide +kernel, by decide +kernel⟩, List.mem_of_getElem? (i := 11) (by decide +kernel), List.mem_of_getElem? (i := 229) (by decide +kernel), List.mem_of_getElem? (i := 230) (by decide +kernel)⟩
theorem lw_p1 : lw_okq (⟨"LipFlaps$Planner", "fillCosts", "(LLipFlaps$Scene;II)V"⟩, 9) := ⟨⟨by decide +kernel, by decide +kernel⟩, List.mem_of_getElem? (i := 139) (by decide +kernel), List.mem_of_getElem? (i := 364) (by decide +kernel), List.mem_of_getElem? (i := 365) (by decide +kernel)⟩
theorem lw_p2 : lw_okq (⟨"LipFlaps$Planner", "fillRest", "(II)V"⟩, 9) := ⟨⟨by decide +kernel, by decide +kernel⟩, List.mem_of_getElem? (i := 139) (by decide +kernel), List.mem_of_getElem? (i := 381) (by decide +kernel), List.mem_of_getElem? (i := 382) (by decide +kernel)⟩
theorem lw_p3 : lw_okq (⟨"LipFlaps$Planner", "longer", "(I)I"⟩, 9) := ⟨⟨by decide +kernel, by decide +kernel⟩, List.mem_of_getElem? (i := 139) (by decide +kernel), List.mem_of_getElem? (i := 385) (by decide +kernel), List.mem_of_getElem? (i := 386) (by decide +kernel)⟩
theorem lw_p4 : lw_okq (⟨"LipFlaps$Planner", "leastOfLeaving", "(II)I"⟩, 9) := ⟨⟨by decide +kernel, by decide +kernel⟩, List.mem_of_getElem? (i := 139) (by decide +kernel), List.mem_of_getElem? (i := 389) (by decide +kernel), List.mem_of_getElem? (i := 390) (by decide +kernel)⟩
theorem lw_p5 : lw_okq (⟨"LipFlaps$Planner", "bestFirst", "()I"⟩, 9) := ⟨⟨by decide +kernel, by decide +kernel⟩, List.mem_of_getElem? (i := 139) (by decide +kernel), List.mem_of_getElem? (i := 398) (by decide +kernel), List.mem_of_getElem? (i := 399) (by decide +kernel)⟩
theorem lw_p6 : lw_okq (⟨"LipFlaps$Planner", "bestNext", "(III)I"⟩, 9) := ⟨⟨by decide +kernel, by decide +kernel⟩, List.mem_of_getElem? (i := 139) (by decide +kernel), List.mem_of_getElem? (i := 402) (by decide +kernel), List.mem_of_getElem? (i := 403) (by decide +kernel)⟩
theorem lw_p7 : lw_okq (⟨"LipFlaps$Reader", "skipSpaces", "()V"⟩, 4) := ⟨⟨by decide +kernel, by decide +kernel⟩, List.mem_of_getElem? (i := 174) (by decide +kernel), List.mem_of_getElem? (i := 449) (by decide +kernel), List.mem_of_getElem? (i := 450) (by decide +kernel)⟩
theorem lw_p8 : lw_okq (⟨"LipFlaps$Reader", "readItem", "(LLipFlaps$Scene;)V"⟩, 4) := ⟨⟨by decide +kernel, by decide +kernel⟩, List.mem_of_getElem? (i := 174) (by decide +kernel), List.mem_of_getElem? (i := 453) (by decide +kernel), List.mem_of_getElem? (i := 454) (by decide +kernel)⟩
theorem lw_p9 : lw_okq (⟨"LipFlaps$Reader", "readNumber", "(II)I"⟩, 4) := ⟨⟨by decide +kernel, by decide +kernel⟩, List.mem_of_getElem? (i := 174) (by decide +kernel), List.mem_of_getElem? (i := 460) (by decide +kernel), List.mem_of_getElem? (i := 461) (by decide +kernel)⟩
theorem lw_p10 : lw_okq (⟨"LipFlaps$Planner", "fillHere", "(II)V"⟩, 9) := ⟨⟨by decide +kernel, by decide +kernel⟩, List.mem_of_getElem? (i := 139) (by decide +kernel), List.mem_of_getElem? (i := 527) (by decide +kernel), List.mem_of_getElem? (i := 528) (by decide +kernel)⟩
theorem lw_p11 : lw_okq (⟨"LipFlaps$Planner", "leastOfEntering", "(I)I"⟩, 9) := ⟨⟨by decide +kernel, by decide +kernel⟩, List.mem_of_getElem? (i := 139) (by decide +kernel), List.mem_of_getElem? (i := 531) (by decide +kernel), List.mem_of_getElem? (i := 532) (by decide +kernel)⟩
theorem lw_p12 : lw_okq (⟨"LipFlapsModel", "keep", "()V"⟩, 13) := ⟨⟨by decide +kernel, by decide +kernel⟩, List.mem_of_getElem? (i := 574) (by decide +kernel), List.mem_of_getElem? (i := 630) (by decide +kernel), List.mem_of_getElem? (i := 631) (by decide +kernel)⟩
theorem lw_p13 : lw_okq (⟨"LipFlapsModel", "isMouth", "(I)Z"⟩, 13) := ⟨⟨by decide +kernel, by decide +kernel⟩, List.mem_of_getElem? (i := 574) (by decide +kernel), List.mem_of_getElem? (i := 641) (by decide +kernel), List.mem_of_getElem? (i := 642) (by decide +kernel)⟩
theorem lw_p14 : lw_okq (⟨"LipFlapsModel", "opening", "(I)I"⟩, 13) := ⟨⟨by decide +kernel, by decide +kernel⟩, List.mem_of_getElem? (i := 574) (by decide +kernel), List.mem_of_getElem? (i := 645) (by decide +kernel), List.mem_of_getElem? (i := 646) (by decide +kernel)⟩
theorem lw_p15 : lw_okq (⟨"LipFlapsModel", "width", "(I)I"⟩, 13) := ⟨⟨by decide +kernel, by decide +kernel⟩, List.mem_of_getElem? (i := 574) (by decide +kernel), List.mem_of_getElem? (i := 652) (by decide +kernel), List.mem_of_getElem? (i := 653) (by decide +kernel)⟩
def lw_privs_1 : List (MethodName × Nat) := [(⟨"LipFlaps", "recordState", "()V"⟩, 9), (⟨"LipFlaps$Planner", "fillCosts", "(LLipFlaps$Scene;II)V"⟩, 9), (⟨"LipFlaps$Planner", "fillRest", "(II)V"⟩, 9), (⟨"LipFlaps$Planner", "longer", "(I)I"⟩, 9), (⟨"LipFlaps$Planner", "leastOfLeaving", "(II)I"⟩, 9), (⟨"LipFlaps$Planner", "bestFirst", "()I"⟩, 9), (⟨"LipFlaps$Planner", "bestNext", "(III)I"⟩, 9), (⟨"LipFlaps$Reader", "skipSpaces", "()V"⟩, 4), (⟨"LipFlaps$Reader", "readItem", "(LLipFlaps$Scene;)V"⟩, 4), (⟨"LipFlaps$Reader", "readNumber", "(II)I"⟩, 4), (⟨"LipFlaps$Planner", "fillHere", "(II)V"⟩, 9), (⟨"LipFlaps$Planner", "leastOfEntering", "(I)I"⟩, 9), (⟨"LipFlapsModel", "keep", "()V"⟩, 13), (⟨"LipFlapsModel", "isMouth", "(I)Z"⟩, 13), (⟨"LipFlapsModel", "opening", "(I)I"⟩, 13), (⟨"LipFlapsModel", "width", "(I)I"⟩, 13)]
theorem lw_r1 : ∀ q ∈ lw_privs_1, lw_okq q := List.forall_mem_cons.mpr ⟨lw_p0, List.forall_mem_cons.mpr ⟨lw_p1, List.forall_mem_cons.mpr ⟨lw_p2, List.forall_mem_cons.mpr ⟨lw_p3, List.forall_mem_cons.mpr ⟨lw_p4, List.forall_mem_cons.mpr ⟨lw_p5, List.forall_mem_cons.mpr ⟨lw_p6, List.forall_mem_cons.mpr ⟨lw_p7, List.forall_mem_cons.mpr ⟨lw_p8, List.forall_mem_cons.mpr ⟨lw_p9, List.forall_mem_cons.mpr ⟨lw_p10, List.forall_mem_cons.mpr ⟨lw_p11, List.forall_mem_cons.mpr ⟨lw_p12, List.forall_mem_cons.mpr ⟨lw_p13, List.forall_mem_cons.mpr ⟨lw_p14, List.forall_mem_cons.mpr ⟨lw_p15, fun _ h => absurd h List.not_mem_nil⟩⟩⟩⟩⟩⟩⟩⟩⟩⟩⟩⟩⟩⟩⟩⟩
theorem lw_p16 : lw_okq (⟨"LipFlapsModel", "setting", "(I)I"⟩, 13) := ⟨⟨by decide +kernel, by decide +kernel⟩, List.mem_of_getElem? (i := 574) (by decide +kernel), List.mem_of_getElem? (i := 670) (by decide +kernel), List.mem_of_getElem? (i := 671) (by decide +kernel)⟩
theorem lw_p17 : lw_okq (⟨"LipFlapsModel", "frames", "()I"⟩, 13) := ⟨⟨by decide +kernel, by decide +kernel⟩, List.mem_of_getElem? (i := 574) (by decide +kernel), List.mem_of_getElem? (i := 690) (by decide +kernel), List.mem_of_getElem? (i := 691) (by decide +kernel)⟩
theorem lw_p18 : lw_okq (⟨"LipFlapsModel", "firstOf", "(I)I"⟩, 13) := ⟨⟨by decide +kernel, by decide +kernel⟩, List.mem_of_getElem? (i := 574) (by decide +kernel), List.mem_of_getElem? (i := 694) (by decide +kernel), List.mem_of_getElem? (i := 695) (by decide +kernel)⟩
theorem lw_p19 : lw_okq (⟨"LipFlapsModel", "framesOf", "(I)I"⟩, 13) := ⟨⟨by decide +kernel, by decide +kernel⟩, List.mem_of_getElem? (i := 574) (by decide +kernel), List.mem_of_getElem? (i := 698) (by decide +kernel), List.mem_of_getElem? (i := 699) (by decide +kernel)⟩
theorem lw_p20 : lw_okq (⟨"LipFlapsModel", "isSegment", "(I)Z"⟩, 13) := ⟨⟨by decide +kernel, by decide +kernel⟩, List.mem_of_getElem? (i := 574) (by decide +kernel), List.mem_of_getElem? (i := 706) (by decide +kernel), List.mem_of_getElem? (i := 707) (by decide +kernel)⟩
theorem lw_p21 : lw_okq (⟨"LipFlapsModel", "puts", "(III)I"⟩, 13) := ⟨⟨by decide +kernel, by decide +kernel⟩, List.mem_of_getElem? (i := 574) (by decide +kernel), List.mem_of_getElem? (i := 721) (by decide +kernel), List.mem_of_getElem? (i := 722) (by decide +kernel)⟩
theorem lw_p22 : lw_okq (⟨"LipFlapsModel", "isFrame", "(I)Z"⟩, 13) := ⟨⟨by decide +kernel, by decide +kernel⟩, List.mem_of_getElem? (i := 574) (by decide +kernel), List.mem_of_getElem? (i := 725) (by decide +kernel), List.mem_of_getElem? (i := 726) (by decide +kernel)⟩
theorem lw_p23 : lw_okq (⟨"LipFlapsModel", "nearestTo", "(III)I"⟩, 13) := ⟨⟨by decide +kernel, by decide +kernel⟩, List.mem_of_getElem? (i := 574) (by decide +kernel), List.mem_of_getElem? (i := 737) (by decide +kernel), List.mem_of_getElem? (i := 738) (by decide +kernel)⟩
theorem lw_p24 : lw_okq (⟨"LipFlapsModel", "farBetween", "(II)I"⟩, 13) := ⟨⟨by decide +kernel, by decide +kernel⟩, List.mem_of_getElem? (i := 574) (by decide +kernel), List.mem_of_getElem? (i := 742) (by decide +kernel), List.mem_of_getElem? (i := 743) (by decide +kernel)⟩
theorem lw_p25 : lw_okq (⟨"LipFlapsModel", "findPlan", "(III)I"⟩, 13) := ⟨⟨by decide +kernel, by decide +kernel⟩, List.mem_of_getElem? (i := 574) (by decide +kernel), List.mem_of_getElem? (i := 750) (by decide +kernel), List.mem_of_getElem? (i := 751) (by decide +kernel)⟩
theorem lw_p26 : lw_okq (⟨"LipFlapsModel", "layKinds", "()V"⟩, 13) := ⟨⟨by decide +kernel, by decide +kernel⟩, List.mem_of_getElem? (i := 574) (by decide +kernel), List.mem_of_getElem? (i := 754) (by decide +kernel), List.mem_of_getElem? (i := 755) (by decide +kernel)⟩
theorem lw_p27 : lw_okq (⟨"LipFlapsModel", "kindOf", "(I)I"⟩, 13) := ⟨⟨by decide +kernel, by decide +kernel⟩, List.mem_of_getElem? (i := 574) (by decide +kernel), List.mem_of_getElem? (i := 758) (by decide +kernel), List.mem_of_getElem? (i := 759) (by decide +kernel)⟩
theorem lw_p28 : lw_okq (⟨"LipFlapsModel", "wrongBy", "(II)I"⟩, 13) := ⟨⟨by decide +kernel, by decide +kernel⟩, List.mem_of_getElem? (i := 574) (by decide +kernel), List.mem_of_getElem? (i := 762) (by decide +kernel), List.mem_of_getElem? (i := 763) (by decide +kernel)⟩
theorem lw_p29 : lw_okq (⟨"LipFlapsModel", "behind", "(IIIII)I"⟩, 13) := ⟨⟨by decide +kernel, by decide +kernel⟩, List.mem_of_getElem? (i := 574) (by decide +kernel), List.mem_of_getElem? (i := 766) (by decide +kernel), List.mem_of_getElem? (i := 767) (by decide +kernel)⟩
theorem lw_p30 : lw_okq (⟨"LipFlapsModel", "lays", "(II)I"⟩, 13) := ⟨⟨by decide +kernel, by decide +kernel⟩, List.mem_of_getElem? (i := 574) (by decide +kernel), List.mem_of_getElem? (i := 773) (by decide +kernel), List.mem_of_getElem? (i := 774) (by decide +kernel)⟩
theorem lw_p31 : lw_okq (⟨"LipFlapsModel", "breathes", "([I)I"⟩, 13) := ⟨⟨by decide +kernel, by decide +kernel⟩, List.mem_of_getElem? (i := 574) (by decide +kernel), List.mem_of_getElem? (i := 781) (by decide +kernel), List.mem_of_getElem? (i := 782) (by decide +kernel)⟩
def lw_privs_2 : List (MethodName × Nat) := [(⟨"LipFlapsModel", "setting", "(I)I"⟩, 13), (⟨"LipFlapsModel", "frames", "()I"⟩, 13), (⟨"LipFlapsModel", "firstOf", "(I)I"⟩, 13), (⟨"LipFlapsModel", "framesOf", "(I)I"⟩, 13), (⟨"LipFlapsModel", "isSegment", "(I)Z"⟩, 13), (⟨"LipFlapsModel", "puts", "(III)I"⟩, 13), (⟨"LipFlapsModel", "isFrame", "(I)Z"⟩, 13), (⟨"LipFlapsModel", "nearestTo", "(III)I"⟩, 13), (⟨"LipFlapsModel", "farBetween", "(II)I"⟩, 13), (⟨"LipFlapsModel", "findPlan", "(III)I"⟩, 13), (⟨"LipFlapsModel", "layKinds", "()V"⟩, 13), (⟨"LipFlapsModel", "kindOf", "(I)I"⟩, 13), (⟨"LipFlapsModel", "wrongBy", "(II)I"⟩, 13), (⟨"LipFlapsModel", "behind", "(IIIII)I"⟩, 13), (⟨"LipFlapsModel", "lays", "(II)I"⟩, 13), (⟨"LipFlapsModel", "breathes", "([I)I"⟩, 13)]
theorem lw_r2 : ∀ q ∈ lw_privs_2, lw_okq q := List.forall_mem_cons.mpr ⟨lw_p16, List.forall_mem_cons.mpr ⟨lw_p17, List.forall_mem_cons.mpr ⟨lw_p18, List.forall_mem_cons.mpr ⟨lw_p19, List.forall_mem_cons.mpr ⟨lw_p20, List.forall_mem_cons.mpr ⟨lw_p21, List.forall_mem_cons.mpr ⟨lw_p22, List.forall_mem_cons.mpr ⟨lw_p23, List.forall_mem_cons.mpr ⟨lw_p24, List.forall_mem_cons.mpr ⟨lw_p25, List.forall_mem_cons.mpr ⟨lw_p26, List.forall_mem_cons.mpr ⟨lw_p27, List.forall_mem_cons.mpr ⟨lw_p28, List.forall_mem_cons.mpr ⟨lw_p29, List.forall_mem_cons.mpr ⟨lw_p30, List.forall_mem_cons.mpr ⟨lw_p31, fun _ h => absurd h List.not_mem_nil⟩⟩⟩⟩⟩⟩⟩⟩⟩⟩⟩⟩⟩⟩⟩⟩
theorem lw_p32 : lw_okq (⟨"LipFlapsModel", "overSpaces", "()V"⟩, 13) := ⟨⟨by decide +kernel, by decide +kernel⟩, List.mem_of_getElem? (i := 574) (by decide +kernel), List.mem_of_getElem? (i := 812) (by decide +kernel), List.mem_of_getElem? (i := 813) (by decide +kernel)⟩
theorem lw_p33 : lw_okq (⟨"LipFlapsModel", "here", "()I"⟩, 13) := ⟨⟨by decide +kernel, by decide +kernel⟩, List.mem_of_getElem? (i := 574) (by decide +kernel), List.mem_of_getElem? (i := 816) (by decide +kernel), List.mem_of_getElem? (i := 817) (by decide +kernel)⟩
theorem lw_p34 : lw_okq (⟨"LipFlapsModel", "readItem", "()Z"⟩, 13) := ⟨⟨by decide +kernel, by decide +kernel⟩, List.mem_of_getElem? (i := 574) (by decide +kernel), List.mem_of_getElem? (i := 820) (by decide +kernel), List.mem_of_getElem? (i := 821) (by decide +kernel)⟩
theorem lw_p35 : lw_okq (⟨"LipFlapsModel", "readNumber", "(II)Z"⟩, 13) := ⟨⟨by decide +kernel, by decide +kernel⟩, List.mem_of_getElem? (i := 574) (by decide +kernel), List.mem_of_getElem? (i := 824) (by decide +kernel), List.mem_of_getElem? (i := 825) (by decide +kernel)⟩
theorem lw_p36 : lw_okq (⟨"LipFlapsModel", "manyOf", "(I)I"⟩, 13) := ⟨⟨by decide +kernel, by decide +kernel⟩, List.mem_of_getElem? (i := 574) (by decide +kernel), List.mem_of_getElem? (i := 832) (by decide +kernel), List.mem_of_getElem? (i := 833) (by decide +kernel)⟩
theorem lw_p37 : lw_okq (⟨"LipFlapsModel", "manyGasps", "()I"⟩, 13) := ⟨⟨by decide +kernel, by decide +kernel⟩, List.mem_of_getElem? (i := 574) (by decide +kernel), List.mem_of_getElem? (i := 836) (by decide +kernel), List.mem_of_getElem? (i := 837) (by decide +kernel)⟩
theorem lw_p38 : lw_okq (⟨"LipFlapsModel", "segmentOf", "(I)I"⟩, 13) := ⟨⟨by decide +kernel, by decide +kernel⟩, List.mem_of_getElem? (i := 574) (by decide +kernel), List.mem_of_getElem? (i := 864) (by decide +kernel), List.mem_of_getElem? (i := 865) (by decide +kernel)⟩
theorem lw_p39 : lw_okq (⟨"LipFlapsModel", "tellAir", "(II)I"⟩, 13) := ⟨⟨by decide +kernel, by decide +kernel⟩, List.mem_of_getElem? (i := 574) (by decide +kernel), List.mem_of_getElem? (i := 871) (by decide +kernel), List.mem_of_getElem? (i := 872) (by decide +kernel)⟩
theorem lw_p40 : lw_okq (⟨"LipFlapsModel", "faultIn", "(I)I"⟩, 13) := ⟨⟨by decide +kernel, by decide +kernel⟩, List.mem_of_getElem? (i := 574) (by decide +kernel), List.mem_of_getElem? (i := 895) (by decide +kernel), List.mem_of_getElem? (i := 896) (by decide +kernel)⟩
def lw_privs_3 : List (MethodName × Nat) := [(⟨"LipFlapsModel", "overSpaces", "()V"⟩, 13), (⟨"LipFlapsModel", "here", "()I"⟩, 13), (⟨"LipFlapsModel", "readItem", "()Z"⟩, 13), (⟨"LipFlapsModel", "readNumber", "(II)Z"⟩, 13), (⟨"LipFlapsModel", "manyOf", "(I)I"⟩, 13), (⟨"LipFlapsModel", "manyGasps", "()I"⟩, 13), (⟨"LipFlapsModel", "segmentOf", "(I)I"⟩, 13), (⟨"LipFlapsModel", "tellAir", "(II)I"⟩, 13), (⟨"LipFlapsModel", "faultIn", "(I)I"⟩, 13)]
theorem lw_r3 : ∀ q ∈ lw_privs_3, lw_okq q := List.forall_mem_cons.mpr ⟨lw_p32, List.forall_mem_cons.mpr ⟨lw_p33, List.forall_mem_cons.mpr ⟨lw_p34, List.forall_mem_cons.mpr ⟨lw_p35, List.forall_mem_cons.mpr ⟨lw_p36, List.forall_mem_cons.mpr ⟨lw_p37, List.forall_mem_cons.mpr ⟨lw_p38, List.forall_mem_cons.mpr ⟨lw_p39, List.forall_mem_cons.mpr ⟨lw_p40, fun _ h => absurd h List.not_mem_nil⟩⟩⟩⟩⟩⟩⟩⟩⟩
def lw_privs : List (MethodName × Nat) := lw_privs_1 ++ (lw_privs_2 ++ (lw_privs_3))
def lw_tbl : List Cond := k2_sels lw_privs ++ tables_1
theorem lw_privs_ok : ∀ q ∈ lw_privs, lw_okq q := by
  show ∀ q ∈ lw_privs_1 ++ (lw_privs_2 ++ (lw_privs_3)), lw_okq q
  exact List.forall_mem_append.mpr ⟨lw_r1, List.forall_mem_append.mpr ⟨lw_r2, lw_r3⟩⟩
end
section
abbrev RI : Type := Instr × List Nat
def RX0 : String := "LipFlaps$Air"
def TX0 : u_T := fun k => match k with
  | 0 => ("LipFlaps$Air", "behind", "[I", true)
  | 1 => ("LipFlaps$Air", "gasps", "[Z", true)
  | 2 => ("LipFlaps$Air", "gaspCount", "I", false)
  | _ => ("LipFlaps$Air", "gaspSegment", "I", false)
def tyX0 : Nat → FieldType := fun k => match k with
  | 0 => .array .int
  | 1 => .array .boolean
  | 2 => .int
  | _ => .int
abbrev wsX00 : List Cond := u_ws RX0 TX0 4
theorem nmX0 : ∀ a, a < 4 → ∀ b, b < 4 → a ≠ b → (TX0 a).2.1 ≠ (TX0 b).2.1 := by decide +kernel
theorem tyX0_ok : ∀ k, k < 4 → parseFieldDescriptor (TX0 k).2.2.1 = some (tyX0 k) := by decide +kernel
def RX1 : String := "LipFlaps$Planner"
def TX1 : u_T := fun k => match k with
  | 0 => ("LipFlaps$Planner", "plan", "[I", true)
  | 1 => ("LipFlaps$Planner", "costs", "[I", true)
  | 2 => ("LipFlaps$Planner", "close", "[Z", true)
  | 3 => ("LipFlaps$Planner", "rest", "[I", true)
  | 4 => ("LipFlaps$Planner", "here", "[I", true)
  | 5 => ("LipFlaps$Planner", "ahead", "[I", true)
  | 6 => ("LipFlaps$Planner", "frames", "I", false)
  | 7 => ("LipFlaps$Planner", "mouths", "I", false)
  | _ => ("LipFlaps$Planner", "hold", "I", false)
def tyX1 : Nat → FieldType := fun k => match k with
  | 0 => .array .int
  | 1 => .array .int
  | 2 => .array .boolean
  | 3 => .array .int
  | 4 => .array .int
  | 5 => .array .int
  | 6 => .int
  | 7 => .int
  | _ => .int
abbrev wsX10 : List Cond := u_ws RX1 TX1 9
theorem nmX1 : ∀ a, a < 9 → ∀ b, b < 9 → a ≠ b → (TX1 a).2.1 ≠ (TX1 b).2.1 := by decide +kernel
theorem tyX1_ok : ∀ k, k < 9 → parseFieldDescriptor (TX1 k).2.2.1 = some (tyX1 k) := by decide +kernel
def RX2 : String := "LipFlaps$Reader"
def TX2 : u_T := fun k => match k with
  | 0 => ("LipFlaps$Reader", "error", "I", false)
  | 1 => ("LipFlaps$Reader", "text", "[I", false)
  | 2 => ("LipFlaps$Reader", "length", "I", false)
  | _ => ("LipFlaps$Reader", "at", "I", false)
def tyX2 : Nat → FieldType := fun k => match k with
  | 0 => .int
  | 1 => .array .int
  | 2 => .int
  | _ => .int
abbrev wsX20 : List Cond := u_ws RX2 TX2 4
theorem nmX2 : ∀ a, a < 4 → ∀ b, b < 4 → a ≠ b → (TX2 a).2.1 ≠ (TX2 b).2.1 := by decide +kernel
theorem tyX2_ok : ∀ k, k < 4 → parseFieldDescriptor (TX2 k).2.2.1 = some (tyX2 k) := by decide +kernel
def RX3 : String := "LipFlaps$Scene"
def TX3 : u_T := fun k => match k with
  | 0 => ("LipFlaps$Scene", "mouths", "I", false)
  | 1 => ("LipFlaps$Scene", "openings", "[I", true)
  | 2 => ("LipFlaps$Scene", "widths", "[I", true)
  | 3 => ("LipFlaps$Scene", "sounds", "[I", true)
  | 4 => ("LipFlaps$Scene", "numbers", "[I", true)
  | 5 => ("LipFlaps$Scene", "segments", "I", false)
  | 6 => ("LipFlaps$Scene", "kinds", "[I", true)
  | 7 => ("LipFlaps$Scene", "lengths", "[I", true)
  | 8 => ("LipFlaps$Scene", "frames", "I", false)
  | 9 => ("LipFlaps$Scene", "pinned", "[I", true)
  | _ => ("LipFlaps$Scene", "drawn", "[I", true)
def tyX3 : Nat → FieldType := fun k => match k with
  | 0 => .int
  | 1 => .array .int
  | 2 => .array .int
  | 3 => .array .int
  | 4 => .array .int
  | 5 => .int
  | 6 => .array .int
  | 7 => .array .int
  | 8 => .int
  | 9 => .array .int
  | _ => .array .int
abbrev wsX30 : List Cond := u_ws RX3 TX3 11
theorem nmX3 : ∀ a, a < 11 → ∀ b, b < 11 → a ≠ b → (TX3 a).2.1 ≠ (TX3 b).2.1 := by decide +kernel
theorem tyX3_ok : ∀ k, k < 11 → parseFieldDescriptor (TX3 k).2.2.1 = some (tyX3 k) := by decide +kernel
def RX4 : String := "LipFlaps$State"
def TX4 : u_T := fun k => match k with
  | 0 => ("LipFlaps$State", "scene", "LLipFlaps$Scene;", true)
  | 1 => ("LipFlaps$State", "slots", "[LLipFlaps$Scene;", true)
  | _ => ("LipFlaps$State", "taken", "[Z", true)
def tyX4 : Nat → FieldType := fun k => match k with
  | 0 => .object "LipFlaps$Scene"
  | 1 => .array (.object "LipFlaps$Scene")
  | _ => .array .boolean
abbrev wsX40 : List Cond := u_ws RX4 TX4 3
theorem nmX4 : ∀ a, a < 3 → ∀ b, b < 3 → a ≠ b → (TX4 a).2.1 ≠ (TX4 b).2.1 := by decide +kernel
theorem tyX4_ok : ∀ k, k < 3 → parseFieldDescriptor (TX4 k).2.2.1 = some (tyX4 k) := by decide +kernel
def RX5 : String := "LipFlaps"
def TX5 : u_T := fun k => match k with
  | 0 => ("LipFlaps", "now", "LLipFlaps$State;", true)
  | 1 => ("LipFlaps", "history", "[LLipFlaps$State;", true)
  | 2 => ("LipFlaps", "historyCount", "I", false)
  | 3 => ("LipFlaps", "trial", "LLipFlaps$Scene;", true)
  | 4 => ("LipFlaps", "air", "LLipFlaps$Air;", true)
  | 5 => ("LipFlaps", "planner", "LLipFlaps$Planner;", true)
  | 6 => ("LipFlaps", "reader", "LLipFlaps$Reader;", true)
  | 7 => ("LipFlaps", "text", "[I", true)
  | _ => ("LipFlaps", "textLength", "I", false)
def tyX5 : Nat → FieldType := fun k => match k with
  | 0 => .object "LipFlaps$State"
  | 1 => .array (.object "LipFlaps$State")
  | 2 => .int
  | 3 => .object "LipFlaps$Scene"
  | 4 => .object "LipFlaps$Air"
  | 5 => .object "LipFlaps$Planner"
  | 6 => .object "LipFlaps$Reader"
  | 7 => .array .int
  | _ => .int
abbrev wsX50 : List Cond := u_ws RX5 TX5 9
theorem nmX5 : ∀ a, a < 9 → ∀ b, b < 9 → a ≠ b → (TX5 a).2.1 ≠ (TX5 b).2.1 := by decide +kernel
theorem tyX5_ok : ∀ k, k < 9 → parseFieldDescriptor (TX5 k).2.2.1 = some (tyX5 k) := by decide +kernel
def RX6 : String := "LipFlapsModel"
def TX6 : u_T := fun k => match k with
  | 0 => ("LipFlapsModel", "page", "[I", true)
  | 1 => ("LipFlapsModel", "spare", "[I", true)
  | 2 => ("LipFlapsModel", "history", "[I", true)
  | 3 => ("LipFlapsModel", "states", "I", false)
  | 4 => ("LipFlapsModel", "text", "[I", true)
  | 5 => ("LipFlapsModel", "textLength", "I", false)
  | 6 => ("LipFlapsModel", "air", "[I", true)
  | 7 => ("LipFlapsModel", "gasps", "[Z", true)
  | 8 => ("LipFlapsModel", "place", "I", false)
  | 9 => ("LipFlapsModel", "value", "I", false)
  | 10 => ("LipFlapsModel", "cost", "[I", true)
  | 11 => ("LipFlapsModel", "plan", "[I", true)
  | _ => ("LipFlapsModel", "kinds", "[I", true)
def tyX6 : Nat → FieldType := fun k => match k with
  | 0 => .array .int
  | 1 => .array .int
  | 2 => .array .int
  | 3 => .int
  | 4 => .array .int
  | 5 => .int
  | 6 => .array .int
  | 7 => .array .boolean
  | 8 => .int
  | 9 => .int
  | 10 => .array .int
  | 11 => .array .int
  | _ => .array .int
abbrev wsX60 : List Cond := u_ws RX6 TX6 13
theorem nmX6 : ∀ a, a < 13 → ∀ b, b < 13 → a ≠ b → (TX6 a).2.1 ≠ (TX6 b).2.1 := by decide +kernel
theorem tyX6_ok : ∀ k, k < 13 → parseFieldDescriptor (TX6 k).2.2.1 = some (tyX6 k) := by decide +kernel
def RL : String := "LipFlapsLaw"
def RN (c : Nat) : String := cond (Nat.blt c 4) (cond (Nat.blt c 2) (cond (Nat.blt c 1) (cond (Nat.beq c 0) RX0 "") (cond (Nat.beq c 1) RX1 "")) (cond (Nat.blt c 3) (cond (Nat.beq c 2) RX2 "") (cond (Nat.beq c 3) RX3 ""))) (cond (Nat.blt c 6) (cond (Nat.blt c 5) (cond (Nat.beq c 4) RX4 "") (cond (Nat.beq c 5) RX5 "")) (cond (Nat.blt c 7) (cond (Nat.beq c 6) RX6 "") (cond (Nat.beq c 7) RL "")))
abbrev NF (c : Nat) : Nat := cond (Nat.blt c 3) (cond (Nat.blt c 1) (cond (Nat.beq c 0) 4 0) (cond (Nat.blt c 2) (cond (Nat.beq c 1) 9 0) (cond (Nat.beq c 2) 4 0))) (cond (Nat.blt c 5) (cond (Nat.blt c 4) (cond (Nat.beq c 3) 11 0) (cond (Nat.beq c 4) 3 0)) (cond (Nat.blt c 6) (cond (Nat.beq c 5) 9 0) (cond (Nat.beq c 6) 13 0)))
def TN (c : Nat) : u_T := cond (Nat.blt c 3) (cond (Nat.blt c 1) (cond (Nat.beq c 0) TX0 (fun _ => ("", "", "", false))) (cond (Nat.blt c 2) (cond (Nat.beq c 1) TX1 (fun _ => ("", "", "", false))) (cond (Nat.beq c 2) TX2 (fun _ => ("", "", "", false))))) (cond (Nat.blt c 5) (cond (Nat.blt c 4) (cond (Nat.beq c 3) TX3 (fun _ => ("", "", "", false))) (cond (Nat.beq c 4) TX4 (fun _ => ("", "", "", false)))) (cond (Nat.blt c 6) (cond (Nat.beq c 5) TX5 (fun _ => ("", "", "", false))) (cond (Nat.beq c 6) TX6 (fun _ => ("", "", "", false)))))
def tyN (c : Nat) : Nat → FieldType := cond (Nat.blt c 3) (cond (Nat.blt c 1) (cond (Nat.beq c 0) tyX0 (fun _ => .int)) (cond (Nat.blt c 2) (cond (Nat.beq c 1) tyX1 (fun _ => .int)) (cond (Nat.beq c 2) tyX2 (fun _ => .int)))) (cond (Nat.blt c 5) (cond (Nat.blt c 4) (cond (Nat.beq c 3) tyX3 (fun _ => .int)) (cond (Nat.beq c 4) tyX4 (fun _ => .int))) (cond (Nat.blt c 6) (cond (Nat.beq c 5) tyX5 (fun _ => .int)) (cond (Nat.beq c 6) tyX6 (fun _ => .int))))
abbrev clN : List vw_C := [(RX0, TX0, 4), (RX1, TX1, 9), (RX2, TX2, 4), (RX3, TX3, 11), (RX4, TX4, 3), (RX5, TX5, 9), (RX6, TX6, 13)]
/-- is that field an int? (else a reference) -/
def fI (c k : Nat) : Bool := cond (Nat.blt c 3) (cond (Nat.blt c 1) (cond (Nat.beq c 0) (!([0, 1] : List Nat).contains k) true) (cond (Nat.blt c 2) (cond (Nat.beq c 1) (!([0, 1, 2, 3, 4, 5] : List Nat).contains k) true) (cond (Nat.beq c 2) (!([1] : List Nat).contains k) true))) (cond (Nat.blt c 5) (cond (Nat.blt c 4) (cond (Nat.beq c 3) (!([1, 2, 3, 4, 6, 7, 9, 10] : List Nat).contains k) true) (cond (Nat.beq c 4) (!([0, 1, 2] : List Nat).contains k) true)) (cond (Nat.blt c 6) (cond (Nat.beq c 5) (!([0, 1, 3, 4, 5, 6, 7] : List Nat).contains k) true) (cond (Nat.beq c 6) (!([0, 1, 2, 4, 6, 7, 10, 11, 12] : List Nat).contains k) true)))
abbrev NM : Nat := 164
abbrev k_A_init : Nat := 0
abbrev k_A_follow : Nat := 1
abbrev k_A_changeIn : Nat := 2
abbrev k_P_init : Nat := 3
abbrev k_P_prepare : Nat := 4
abbrev k_P_fillCosts : Nat := 5
abbrev k_P_useSpeed : Nat := 6
abbrev k_P_barOthers : Nat := 7
abbrev k_P_leastFromEnd : Nat := 8
abbrev k_P_fillRest : Nat := 9
abbrev k_P_leastOfLeaving : Nat := 10
abbrev k_P_longer : Nat := 11
abbrev k_P_leastFromStart : Nat := 12
abbrev k_P_fillHere : Nat := 13
abbrev k_P_leastOfEntering : Nat := 14
abbrev k_P_choose : Nat := 15
abbrev k_P_bestFirst : Nat := 16
abbrev k_P_bestNext : Nat := 17
abbrev k_R_init : Nat := 18
abbrev k_R_readItems : Nat := 19
abbrev k_R_readItem : Nat := 20
abbrev k_R_readNumber : Nat := 21
abbrev k_R_skipSpaces : Nat := 22
abbrev k_R_isDigit : Nat := 23
abbrev k_R_kindOf : Nat := 24
abbrev k_S_init : Nat := 25
abbrev k_S_copyFrom : Nat := 26
abbrev k_S_hasMouth : Nat := 27
abbrev k_S_hasSegment : Nat := 28
abbrev k_S_hasFrame : Nat := 29
abbrev k_S_hasRoomFor : Nat := 30
abbrev k_S_distanceOf : Nat := 31
abbrev k_S_jumpOf : Nat := 32
abbrev k_S_nearestOfAll : Nat := 33
abbrev k_S_nearestWithin : Nat := 34
abbrev k_S_wrongOf : Nat := 35
abbrev k_S_leastWrongFor : Nat := 36
abbrev k_S_countSet : Nat := 37
abbrev k_S_firstFrameOf : Nat := 38
abbrev k_S_segmentAt : Nat := 39
abbrev k_S_kindAt : Nat := 40
abbrev k_S_openSegment : Nat := 41
abbrev k_S_closeSegment : Nat := 42
abbrev k_S_openFrames : Nat := 43
abbrev k_S_closeFrames : Nat := 44
abbrev k_T_init : Nat := 45
abbrev k_T_copyFrom : Nat := 46
abbrev k_T_countTaken : Nat := 47
abbrev k_L_init : Nat := 48
abbrev k_L_addMouth : Nat := 49
abbrev k_L_setMouth : Nat := 50
abbrev k_L_setSound : Nat := 51
abbrev k_L_setNumber : Nat := 52
abbrev k_L_insert : Nat := 53
abbrev k_L_remove : Nat := 54
abbrev k_L_stretch : Nat := 55
abbrev k_L_pin : Nat := 56
abbrev k_L_draw : Nat := 57
abbrev k_L_between : Nat := 58
abbrev k_L_finish : Nat := 59
abbrev k_L_breathe : Nat := 60
abbrev k_L_take : Nat := 61
abbrev k_L_restore : Nat := 62
abbrev k_L_undo : Nat := 63
abbrev k_L_append : Nat := 64
abbrev k_L_clearText : Nat := 65
abbrev k_L_load : Nat := 66
abbrev k_L_count : Nat := 67
abbrev k_L_mouth : Nat := 68
abbrev k_L_jump : Nat := 69
abbrev k_L_sound : Nat := 70
abbrev k_L_number : Nat := 71
abbrev k_L_segment : Nat := 72
abbrev k_L_frame : Nat := 73
abbrev k_L_wrongness : Nat := 74
abbrev k_L_least : Nat := 75
abbrev k_L_leastWith : Nat := 76
abbrev k_L_why : Nat := 77
abbrev k_L_fault : Nat := 78
abbrev k_L_drawnSum : Nat := 79
abbrev k_L_speedFor : Nat := 80
abbrev k_L_nearest : Nat := 81
abbrev k_L_isOutside : Nat := 82
abbrev k_L_recordState : Nat := 83
abbrev k_L_partWay : Nat := 84
abbrev k_L_faultAt : Nat := 85
abbrev k_M_init : Nat := 86
abbrev k_M_in : Nat := 87
abbrev k_M_apart : Nat := 88
abbrev k_M_greater : Nat := 89
abbrev k_M_bring : Nat := 90
abbrev k_M_keep : Nat := 91
abbrev k_M_isMouth : Nat := 92
abbrev k_M_isSegment : Nat := 93
abbrev k_M_opening : Nat := 94
abbrev k_M_width : Nat := 95
abbrev k_M_farBetween : Nat := 96
abbrev k_M_kindOf : Nat := 97
abbrev k_M_framesOf : Nat := 98
abbrev k_M_setting : Nat := 99
abbrev k_M_firstOf : Nat := 100
abbrev k_M_frames : Nat := 101
abbrev k_M_isFrame : Nat := 102
abbrev k_M_segmentOf : Nat := 103
abbrev k_M_isSize : Nat := 104
abbrev k_M_addMouth : Nat := 105
abbrev k_M_setMouth : Nat := 106
abbrev k_M_setSound : Nat := 107
abbrev k_M_isSetting : Nat := 108
abbrev k_M_setNumber : Nat := 109
abbrev k_M_opens : Nat := 110
abbrev k_M_closes : Nat := 111
abbrev k_M_allOf : Nat := 112
abbrev k_M_inserts : Nat := 113
abbrev k_M_hasRoom : Nat := 114
abbrev k_M_insert : Nat := 115
abbrev k_M_remove : Nat := 116
abbrev k_M_stretch : Nat := 117
abbrev k_M_puts : Nat := 118
abbrev k_M_pin : Nat := 119
abbrev k_M_draw : Nat := 120
abbrev k_M_nearestTo : Nat := 121
abbrev k_M_between : Nat := 122
abbrev k_M_finish : Nat := 123
abbrev k_M_breathes : Nat := 124
abbrev k_M_segmentIn : Nat := 125
abbrev k_M_breathe : Nat := 126
abbrev k_M_take : Nat := 127
abbrev k_M_restore : Nat := 128
abbrev k_M_undo : Nat := 129
abbrev k_M_append : Nat := 130
abbrev k_M_clearText : Nat := 131
abbrev k_M_here : Nat := 132
abbrev k_M_overSpaces : Nat := 133
abbrev k_M_readNumber : Nat := 134
abbrev k_M_readItem : Nat := 135
abbrev k_M_load : Nat := 136
abbrev k_M_layKinds : Nat := 137
abbrev k_M_wrongBy : Nat := 138
abbrev k_M_cellOf : Nat := 139
abbrev k_M_behind : Nat := 140
abbrev k_M_findPlan : Nat := 141
abbrev k_M_lays : Nat := 142
abbrev k_M_manyOf : Nat := 143
abbrev k_M_manyGasps : Nat := 144
abbrev k_M_count : Nat := 145
abbrev k_M_mouth : Nat := 146
abbrev k_M_jump : Nat := 147
abbrev k_M_sound : Nat := 148
abbrev k_M_number : Nat := 149
abbrev k_M_segment : Nat := 150
abbrev k_M_orNone : Nat := 151
abbrev k_M_tellAir : Nat := 152
abbrev k_M_frame : Nat := 153
abbrev k_M_wrongness : Nat := 154
abbrev k_M_least : Nat := 155
abbrev k_M_leastWith : Nat := 156
abbrev k_M_why : Nat := 157
abbrev k_M_faultIn : Nat := 158
abbrev k_M_fault : Nat := 159
abbrev k_M_drawnSum : Nat := 160
abbrev k_M_speedFor : Nat := 161
abbrev k_M_nearest : Nat := 162
abbrev k_W_law : Nat := 163
def yM (k : Nat) : MethodName := cond (Nat.blt k 82) (cond (Nat.blt k 41) (cond (Nat.blt k 20) (cond (Nat.blt k 10) (cond (Nat.blt k 5) (cond (Nat.blt k 2) (cond (Nat.blt k 1) (cond (Nat.beq k 0) (⟨RN 0, "<init>", "()V"⟩) ⟨"", "", ""⟩) (cond (Nat.beq k 1) (⟨RN 0, "follow", "(LLipFlaps$Scene;)V"⟩) ⟨"", "", ""⟩)) (cond (Nat.blt k 3) (cond (Nat.beq k 2) (⟨RN 0, "changeIn", "(LLipFlaps$Scene;I)I"⟩) ⟨"", "", ""⟩) (cond (Nat.blt k 4) (cond (Nat.beq k 3) (⟨RN 1, "<init>", "()V"⟩) ⟨"", "", ""⟩) (cond (Nat.beq k 4) (⟨RN 1, "prepare", "(LLipFlaps$Scene;)V"⟩) ⟨"", "", ""⟩)))) (cond (Nat.blt k 7) (cond (Nat.blt k 6) (cond (Nat.beq k 5) (⟨RN 1, "fillCosts", "(LLipFlaps$Scene;II)V"⟩) ⟨"", "", ""⟩) (cond (Nat.beq k 6) (⟨RN 1, "useSpeed", "(LLipFlaps$Scene;I)V"⟩) ⟨"", "", ""⟩)) (cond (Nat.blt k 8) (cond (Nat.beq k 7) (⟨RN 1, "barOthers", "(II)V"⟩) ⟨"", "", ""⟩) (cond (Nat.blt k 9) (cond (Nat.beq k 8) (⟨RN 1, "leastFromEnd", "()I"⟩) ⟨"", "", ""⟩) (cond (Nat.beq k 9) (⟨RN 1, "fillRest", "(II)V"⟩) ⟨"", "", ""⟩))))) (cond (Nat.blt k 15) (cond (Nat.blt k 12) (cond (Nat.blt k 11) (cond (Nat.beq k 10) (⟨RN 1, "leastOfLeaving", "(II)I"⟩) ⟨"", "", ""⟩) (cond (Nat.beq k 11) (⟨RN 1, "longer", "(I)I"⟩) ⟨"", "", ""⟩)) (cond (Nat.blt k 13) (cond (Nat.beq k 12) (⟨RN 1, "leastFromStart", "()I"⟩) ⟨"", "", ""⟩) (cond (Nat.blt k 14) (cond (Nat.beq k 13) (⟨RN 1, "fillHere", "(II)V"⟩) ⟨"", "", ""⟩) (cond (Nat.beq k 14) (⟨RN 1, "leastOfEntering", "(I)I"⟩) ⟨"", "", ""⟩)))) (cond (Nat.blt k 17) (cond (Nat.blt k 16) (cond (Nat.beq k 15) (⟨RN 1, "choose", "()Z"⟩) ⟨"", "", ""⟩) (cond (Nat.beq k 16) (⟨RN 1, "bestFirst", "()I"⟩) ⟨"", "", ""⟩)) (cond (Nat.blt k 18) (cond (Nat.beq k 17) (⟨RN 1, "bestNext", "(III)I"⟩) ⟨"", "", ""⟩) (cond (Nat.blt k 19) (cond (Nat.beq k 18) (⟨RN 2, "<init>", "()V"⟩) ⟨"", "", ""⟩) (cond (Nat.beq k 19) (⟨RN 2, "readItems", "([IILLipFlaps$Scene;)I"⟩) ⟨"", "", ""⟩)))))) (cond (Nat.blt k 30) (cond (Nat.blt k 25) (cond (Nat.blt k 22) (cond (Nat.blt k 21) (cond (Nat.beq k 20) (⟨RN 2, "readItem", "(LLipFlaps$Scene;)V"⟩) ⟨"", "", ""⟩) (cond (Nat.beq k 21) (⟨RN 2, "readNumber", "(II)I"⟩) ⟨"", "", ""⟩)) (cond (Nat.blt k 23) (cond (Nat.beq k 22) (⟨RN 2, "skipSpaces", "()V"⟩) ⟨"", "", ""⟩) (cond (Nat.blt k 24) (cond (Nat.beq k 23) (⟨RN 2, "isDigit", "(I)Z"⟩) ⟨"", "", ""⟩) (cond (Nat.beq k 24) (⟨RN 2, "kindOf", "(I)I"⟩) ⟨"", "", ""⟩)))) (cond (Nat.blt k 27) (cond (Nat.blt k 26) (cond (Nat.beq k 25) (⟨RN 3, "<init>", "()V"⟩) ⟨"", "", ""⟩) (cond (Nat.beq k 26) (⟨RN 3, "copyFrom", "(LLipFlaps$Scene;)V"⟩) ⟨"", "", ""⟩)) (cond (Nat.blt k 28) (cond (Nat.beq k 27) (⟨RN 3, "hasMouth", "(I)Z"⟩) ⟨"", "", ""⟩) (cond (Nat.blt k 29) (cond (Nat.beq k 28) (⟨RN 3, "hasSegment", "(I)Z"⟩) ⟨"", "", ""⟩) (cond (Nat.beq k 29) (⟨RN 3, "hasFrame", "(I)Z"⟩) ⟨"", "", ""⟩))))) (cond (Nat.blt k 35) (cond (Nat.blt k 32) (cond (Nat.blt k 31) (cond (Nat.beq k 30) (⟨RN 3, "hasRoomFor", "(I)Z"⟩) ⟨"", "", ""⟩) (cond (Nat.beq k 31) (⟨RN 3, "distanceOf", "(III)I"⟩) ⟨"", "", ""⟩)) (cond (Nat.blt k 33) (cond (Nat.beq k 32) (⟨RN 3, "jumpOf", "(II)I"⟩) ⟨"", "", ""⟩) (cond (Nat.blt k 34) (cond (Nat.beq k 33) (⟨RN 3, "nearestOfAll", "(II)I"⟩) ⟨"", "", ""⟩) (cond (Nat.beq k 34) (⟨RN 3, "nearestWithin", "(III)I"⟩) ⟨"", "", ""⟩)))) (cond (Nat.blt k 38) (cond (Nat.blt k 36) (cond (Nat.beq k 35) (⟨RN 3, "wrongOf", "(II)I"⟩) ⟨"", "", ""⟩) (cond (Nat.blt k 37) (cond (Nat.beq k 36) (⟨RN 3, "leastWrongFor", "(I)I"⟩) ⟨"", "", ""⟩) (cond (Nat.beq k 37) (⟨RN 3, "countSet", "([I)I"⟩) ⟨"", "", ""⟩))) (cond (Nat.blt k 39) (cond (Nat.beq k 38) (⟨RN 3, "firstFrameOf", "(I)I"⟩) ⟨"", "", ""⟩) (cond (Nat.blt k 40) (cond (Nat.beq k 39) (⟨RN 3, "segmentAt", "(I)I"⟩) ⟨"", "", ""⟩) (cond (Nat.beq k 40) (⟨RN 3, "kindAt", "(I)I"⟩) ⟨"", "", ""⟩))))))) (cond (Nat.blt k 61) (cond (Nat.blt k 51) (cond (Nat.blt k 46) (cond (Nat.blt k 43) (cond (Nat.blt k 42) (cond (Nat.beq k 41) (⟨RN 3, "openSegment", "(III)V"⟩) ⟨"", "", ""⟩) (cond (Nat.beq k 42) (⟨RN 3, "closeSegment", "(I)V"⟩) ⟨"", "", ""⟩)) (cond (Nat.blt k 44) (cond (Nat.beq k 43) (⟨RN 3, "openFrames", "(II)V"⟩) ⟨"", "", ""⟩) (cond (Nat.blt k 45) (cond (Nat.beq k 44) (⟨RN 3, "closeFrames", "(II)V"⟩) ⟨"", "", ""⟩) (cond (Nat.beq k 45) (⟨RN 4, "<init>", "()V"⟩) ⟨"", "", ""⟩)))) (cond (Nat.blt k 48) (cond (Nat.blt k 47) (cond (Nat.beq k 46) (⟨RN 4, "copyFrom", "(LLipFlaps$State;)V"⟩) ⟨"", "", ""⟩) (cond (Nat.beq k 47) (⟨RN 4, "countTaken", "()I"⟩) ⟨"", "", ""⟩)) (cond (Nat.blt k 49) (cond (Nat.beq k 48) (⟨RN 5, "<init>", "()V"⟩) ⟨"", "", ""⟩) (cond (Nat.blt k 50) (cond (Nat.beq k 49) (⟨RN 5, "addMouth", "(II)I"⟩) ⟨"", "", ""⟩) (cond (Nat.beq k 50) (⟨RN 5, "setMouth", "(III)I"⟩) ⟨"", "", ""⟩))))) (cond (Nat.blt k 56) (cond (Nat.blt k 53) (cond (Nat.blt k 52) (cond (Nat.beq k 51) (⟨RN 5, "setSound", "(III)I"⟩) ⟨"", "", ""⟩) (cond (Nat.beq k 52) (⟨RN 5, "setNumber", "(II)I"⟩) ⟨"", "", ""⟩)) (cond (Nat.blt k 54) (cond (Nat.beq k 53) (⟨RN 5, "insert", "(III)I"⟩) ⟨"", "", ""⟩) (cond (Nat.blt k 55) (cond (Nat.beq k 54) (⟨RN 5, "remove", "(I)I"⟩) ⟨"", "", ""⟩) (cond (Nat.beq k 55) (⟨RN 5, "stretch", "(II)I"⟩) ⟨"", "", ""⟩)))) (cond (Nat.blt k 58) (cond (Nat.blt k 57) (cond (Nat.beq k 56) (⟨RN 5, "pin", "(II)I"⟩) ⟨"", "", ""⟩) (cond (Nat.beq k 57) (⟨RN 5, "draw", "(II)I"⟩) ⟨"", "", ""⟩)) (cond (Nat.blt k 59) (cond (Nat.beq k 58) (⟨RN 5, "between", "(II)I"⟩) ⟨"", "", ""⟩) (cond (Nat.blt k 60) (cond (Nat.beq k 59) (⟨RN 5, "finish", "()I"⟩) ⟨"", "", ""⟩) (cond (Nat.beq k 60) (⟨RN 5, "breathe", "(I)I"⟩) ⟨"", "", ""⟩)))))) (cond (Nat.blt k 71) (cond (Nat.blt k 66) (cond (Nat.blt k 63) (cond (Nat.blt k 62) (cond (Nat.beq k 61) (⟨RN 5, "take", "(I)I"⟩) ⟨"", "", ""⟩) (cond (Nat.beq k 62) (⟨RN 5, "restore", "(I)I"⟩) ⟨"", "", ""⟩)) (cond (Nat.blt k 64) (cond (Nat.beq k 63) (⟨RN 5, "undo", "()I"⟩) ⟨"", "", ""⟩) (cond (Nat.blt k 65) (cond (Nat.beq k 64) (⟨RN 5, "append", "(I)I"⟩) ⟨"", "", ""⟩) (cond (Nat.beq k 65) (⟨RN 5, "clearText", "()I"⟩) ⟨"", "", ""⟩)))) (cond (Nat.blt k 68) (cond (Nat.blt k 67) (cond (Nat.beq k 66) (⟨RN 5, "load", "()I"⟩) ⟨"", "", ""⟩) (cond (Nat.beq k 67) (⟨RN 5, "count", "(I)I"⟩) ⟨"", "", ""⟩)) (cond (Nat.blt k 69) (cond (Nat.beq k 68) (⟨RN 5, "mouth", "(II)I"⟩) ⟨"", "", ""⟩) (cond (Nat.blt k 70) (cond (Nat.beq k 69) (⟨RN 5, "jump", "(II)I"⟩) ⟨"", "", ""⟩) (cond (Nat.beq k 70) (⟨RN 5, "sound", "(II)I"⟩) ⟨"", "", ""⟩))))) (cond (Nat.blt k 76) (cond (Nat.blt k 73) (cond (Nat.blt k 72) (cond (Nat.beq k 71) (⟨RN 5, "number", "(I)I"⟩) ⟨"", "", ""⟩) (cond (Nat.beq k 72) (⟨RN 5, "segment", "(II)I"⟩) ⟨"", "", ""⟩)) (cond (Nat.blt k 74) (cond (Nat.beq k 73) (⟨RN 5, "frame", "(II)I"⟩) ⟨"", "", ""⟩) (cond (Nat.blt k 75) (cond (Nat.beq k 74) (⟨RN 5, "wrongness", "(II)I"⟩) ⟨"", "", ""⟩) (cond (Nat.beq k 75) (⟨RN 5, "least", "(I)I"⟩) ⟨"", "", ""⟩)))) (cond (Nat.blt k 79) (cond (Nat.blt k 77) (cond (Nat.beq k 76) (⟨RN 5, "leastWith", "(II)I"⟩) ⟨"", "", ""⟩) (cond (Nat.blt k 78) (cond (Nat.beq k 77) (⟨RN 5, "why", "(I)I"⟩) ⟨"", "", ""⟩) (cond (Nat.beq k 78) (⟨RN 5, "fault", "(I)I"⟩) ⟨"", "", ""⟩))) (cond (Nat.blt k 80) (cond (Nat.beq k 79) (⟨RN 5, "drawnSum", "()I"⟩) ⟨"", "", ""⟩) (cond (Nat.blt k 81) (cond (Nat.beq k 80) (⟨RN 5, "speedFor", "(I)I"⟩) ⟨"", "", ""⟩) (cond (Nat.beq k 81) (⟨RN 5, "nearest", "(II)I"⟩) ⟨"", "", ""⟩)))))))) (cond (Nat.blt k 123) (cond (Nat.blt k 102) (cond (Nat.blt k 92) (cond (Nat.blt k 87) (cond (Nat.blt k 84) (cond (Nat.blt k 83) (cond (Nat.beq k 82) (⟨RN 5, "isOutside", "(III)Z"⟩) ⟨"", "", ""⟩) (cond (Nat.beq k 83) (⟨RN 5, "recordState", "()V"⟩) ⟨"", "", ""⟩)) (cond (Nat.blt k 85) (cond (Nat.beq k 84) (⟨RN 5, "partWay", "(IIII)I"⟩) ⟨"", "", ""⟩) (cond (Nat.blt k 86) (cond (Nat.beq k 85) (⟨RN 5, "faultAt", "(LLipFlaps$Scene;II)I"⟩) ⟨"", "", ""⟩) (cond (Nat.beq k 86) (⟨RN 6, "<init>", "()V"⟩) ⟨"", "", ""⟩)))) (cond (Nat.blt k 89) (cond (Nat.blt k 88) (cond (Nat.beq k 87) (⟨RN 6, "in", "(III)Z"⟩) ⟨"", "", ""⟩) (cond (Nat.beq k 88) (⟨RN 6, "apart", "(II)I"⟩) ⟨"", "", ""⟩)) (cond (Nat.blt k 90) (cond (Nat.beq k 89) (⟨RN 6, "greater", "(II)I"⟩) ⟨"", "", ""⟩) (cond (Nat.blt k 91) (cond (Nat.beq k 90) (⟨RN 6, "bring", "([II[III)V"⟩) ⟨"", "", ""⟩) (cond (Nat.beq k 91) (⟨RN 6, "keep", "()V"⟩) ⟨"", "", ""⟩))))) (cond (Nat.blt k 97) (cond (Nat.blt k 94) (cond (Nat.blt k 93) (cond (Nat.beq k 92) (⟨RN 6, "isMouth", "(I)Z"⟩) ⟨"", "", ""⟩) (cond (Nat.beq k 93) (⟨RN 6, "isSegment", "(I)Z"⟩) ⟨"", "", ""⟩)) (cond (Nat.blt k 95) (cond (Nat.beq k 94) (⟨RN 6, "opening", "(I)I"⟩) ⟨"", "", ""⟩) (cond (Nat.blt k 96) (cond (Nat.beq k 95) (⟨RN 6, "width", "(I)I"⟩) ⟨"", "", ""⟩) (cond (Nat.beq k 96) (⟨RN 6, "farBetween", "(II)I"⟩) ⟨"", "", ""⟩)))) (cond (Nat.blt k 99) (cond (Nat.blt k 98) (cond (Nat.beq k 97) (⟨RN 6, "kindOf", "(I)I"⟩) ⟨"", "", ""⟩) (cond (Nat.beq k 98) (⟨RN 6, "framesOf", "(I)I"⟩) ⟨"", "", ""⟩)) (cond (Nat.blt k 100) (cond (Nat.beq k 99) (⟨RN 6, "setting", "(I)I"⟩) ⟨"", "", ""⟩) (cond (Nat.blt k 101) (cond (Nat.beq k 100) (⟨RN 6, "firstOf", "(I)I"⟩) ⟨"", "", ""⟩) (cond (Nat.beq k 101) (⟨RN 6, "frames", "()I"⟩) ⟨"", "", ""⟩)))))) (cond (Nat.blt k 112) (cond (Nat.blt k 107) (cond (Nat.blt k 104) (cond (Nat.blt k 103) (cond (Nat.beq k 102) (⟨RN 6, "isFrame", "(I)Z"⟩) ⟨"", "", ""⟩) (cond (Nat.beq k 103) (⟨RN 6, "segmentOf", "(I)I"⟩) ⟨"", "", ""⟩)) (cond (Nat.blt k 105) (cond (Nat.beq k 104) (⟨RN 6, "isSize", "(I)Z"⟩) ⟨"", "", ""⟩) (cond (Nat.blt k 106) (cond (Nat.beq k 105) (⟨RN 6, "addMouth", "(II)I"⟩) ⟨"", "", ""⟩) (cond (Nat.beq k 106) (⟨RN 6, "setMouth", "(III)I"⟩) ⟨"", "", ""⟩)))) (cond (Nat.blt k 109) (cond (Nat.blt k 108) (cond (Nat.beq k 107) (⟨RN 6, "setSound", "(III)I"⟩) ⟨"", "", ""⟩) (cond (Nat.beq k 108) (⟨RN 6, "isSetting", "(II)Z"⟩) ⟨"", "", ""⟩)) (cond (Nat.blt k 110) (cond (Nat.beq k 109) (⟨RN 6, "setNumber", "(II)I"⟩) ⟨"", "", ""⟩) (cond (Nat.blt k 111) (cond (Nat.beq k 110) (⟨RN 6, "opens", "([IIII)V"⟩) ⟨"", "", ""⟩) (cond (Nat.beq k 111) (⟨RN 6, "closes", "([IIII)V"⟩) ⟨"", "", ""⟩))))) (cond (Nat.blt k 117) (cond (Nat.blt k 114) (cond (Nat.blt k 113) (cond (Nat.beq k 112) (⟨RN 6, "allOf", "([I)I"⟩) ⟨"", "", ""⟩) (cond (Nat.beq k 113) (⟨RN 6, "inserts", "([IIII)V"⟩) ⟨"", "", ""⟩)) (cond (Nat.blt k 115) (cond (Nat.beq k 114) (⟨RN 6, "hasRoom", "([II)Z"⟩) ⟨"", "", ""⟩) (cond (Nat.blt k 116) (cond (Nat.beq k 115) (⟨RN 6, "insert", "(III)I"⟩) ⟨"", "", ""⟩) (cond (Nat.beq k 116) (⟨RN 6, "remove", "(I)I"⟩) ⟨"", "", ""⟩)))) (cond (Nat.blt k 120) (cond (Nat.blt k 118) (cond (Nat.beq k 117) (⟨RN 6, "stretch", "(II)I"⟩) ⟨"", "", ""⟩) (cond (Nat.blt k 119) (cond (Nat.beq k 118) (⟨RN 6, "puts", "(III)I"⟩) ⟨"", "", ""⟩) (cond (Nat.beq k 119) (⟨RN 6, "pin", "(II)I"⟩) ⟨"", "", ""⟩))) (cond (Nat.blt k 121) (cond (Nat.beq k 120) (⟨RN 6, "draw", "(II)I"⟩) ⟨"", "", ""⟩) (cond (Nat.blt k 122) (cond (Nat.beq k 121) (⟨RN 6, "nearestTo", "(III)I"⟩) ⟨"", "", ""⟩) (cond (Nat.beq k 122) (⟨RN 6, "between", "(II)I"⟩) ⟨"", "", ""⟩))))))) (cond (Nat.blt k 143) (cond (Nat.blt k 133) (cond (Nat.blt k 128) (cond (Nat.blt k 125) (cond (Nat.blt k 124) (cond (Nat.beq k 123) (⟨RN 6, "finish", "()I"⟩) ⟨"", "", ""⟩) (cond (Nat.beq k 124) (⟨RN 6, "breathes", "([I)I"⟩) ⟨"", "", ""⟩)) (cond (Nat.blt k 126) (cond (Nat.beq k 125) (⟨RN 6, "segmentIn", "([II)I"⟩) ⟨"", "", ""⟩) (cond (Nat.blt k 127) (cond (Nat.beq k 126) (⟨RN 6, "breathe", "(I)I"⟩) ⟨"", "", ""⟩) (cond (Nat.beq k 127) (⟨RN 6, "take", "(I)I"⟩) ⟨"", "", ""⟩)))) (cond (Nat.blt k 130) (cond (Nat.blt k 129) (cond (Nat.beq k 128) (⟨RN 6, "restore", "(I)I"⟩) ⟨"", "", ""⟩) (cond (Nat.beq k 129) (⟨RN 6, "undo", "()I"⟩) ⟨"", "", ""⟩)) (cond (Nat.blt k 131) (cond (Nat.beq k 130) (⟨RN 6, "append", "(I)I"⟩) ⟨"", "", ""⟩) (cond (Nat.blt k 132) (cond (Nat.beq k 131) (⟨RN 6, "clearText", "()I"⟩) ⟨"", "", ""⟩) (cond (Nat.beq k 132) (⟨RN 6, "here", "()I"⟩) ⟨"", "", ""⟩))))) (cond (Nat.blt k 138) (cond (Nat.blt k 135) (cond (Nat.blt k 134) (cond (Nat.beq k 133) (⟨RN 6, "overSpaces", "()V"⟩) ⟨"", "", ""⟩) (cond (Nat.beq k 134) (⟨RN 6, "readNumber", "(II)Z"⟩) ⟨"", "", ""⟩)) (cond (Nat.blt k 136) (cond (Nat.beq k 135) (⟨RN 6, "readItem", "()Z"⟩) ⟨"", "", ""⟩) (cond (Nat.blt k 137) (cond (Nat.beq k 136) (⟨RN 6, "load", "()I"⟩) ⟨"", "", ""⟩) (cond (Nat.beq k 137) (⟨RN 6, "layKinds", "()V"⟩) ⟨"", "", ""⟩)))) (cond (Nat.blt k 140) (cond (Nat.blt k 139) (cond (Nat.beq k 138) (⟨RN 6, "wrongBy", "(II)I"⟩) ⟨"", "", ""⟩) (cond (Nat.beq k 139) (⟨RN 6, "cellOf", "(III)I"⟩) ⟨"", "", ""⟩)) (cond (Nat.blt k 141) (cond (Nat.beq k 140) (⟨RN 6, "behind", "(IIIII)I"⟩) ⟨"", "", ""⟩) (cond (Nat.blt k 142) (cond (Nat.beq k 141) (⟨RN 6, "findPlan", "(III)I"⟩) ⟨"", "", ""⟩) (cond (Nat.beq k 142) (⟨RN 6, "lays", "(II)I"⟩) ⟨"", "", ""⟩)))))) (cond (Nat.blt k 153) (cond (Nat.blt k 148) (cond (Nat.blt k 145) (cond (Nat.blt k 144) (cond (Nat.beq k 143) (⟨RN 6, "manyOf", "(I)I"⟩) ⟨"", "", ""⟩) (cond (Nat.beq k 144) (⟨RN 6, "manyGasps", "()I"⟩) ⟨"", "", ""⟩)) (cond (Nat.blt k 146) (cond (Nat.beq k 145) (⟨RN 6, "count", "(I)I"⟩) ⟨"", "", ""⟩) (cond (Nat.blt k 147) (cond (Nat.beq k 146) (⟨RN 6, "mouth", "(II)I"⟩) ⟨"", "", ""⟩) (cond (Nat.beq k 147) (⟨RN 6, "jump", "(II)I"⟩) ⟨"", "", ""⟩)))) (cond (Nat.blt k 150) (cond (Nat.blt k 149) (cond (Nat.beq k 148) (⟨RN 6, "sound", "(II)I"⟩) ⟨"", "", ""⟩) (cond (Nat.beq k 149) (⟨RN 6, "number", "(I)I"⟩) ⟨"", "", ""⟩)) (cond (Nat.blt k 151) (cond (Nat.beq k 150) (⟨RN 6, "segment", "(II)I"⟩) ⟨"", "", ""⟩) (cond (Nat.blt k 152) (cond (Nat.beq k 151) (⟨RN 6, "orNone", "(I)I"⟩) ⟨"", "", ""⟩) (cond (Nat.beq k 152) (⟨RN 6, "tellAir", "(II)I"⟩) ⟨"", "", ""⟩))))) (cond (Nat.blt k 158) (cond (Nat.blt k 155) (cond (Nat.blt k 154) (cond (Nat.beq k 153) (⟨RN 6, "frame", "(II)I"⟩) ⟨"", "", ""⟩) (cond (Nat.beq k 154) (⟨RN 6, "wrongness", "(II)I"⟩) ⟨"", "", ""⟩)) (cond (Nat.blt k 156) (cond (Nat.beq k 155) (⟨RN 6, "least", "(I)I"⟩) ⟨"", "", ""⟩) (cond (Nat.blt k 157) (cond (Nat.beq k 156) (⟨RN 6, "leastWith", "(II)I"⟩) ⟨"", "", ""⟩) (cond (Nat.beq k 157) (⟨RN 6, "why", "(I)I"⟩) ⟨"", "", ""⟩)))) (cond (Nat.blt k 161) (cond (Nat.blt k 159) (cond (Nat.beq k 158) (⟨RN 6, "faultIn", "(I)I"⟩) ⟨"", "", ""⟩) (cond (Nat.blt k 160) (cond (Nat.beq k 159) (⟨RN 6, "fault", "(I)I"⟩) ⟨"", "", ""⟩) (cond (Nat.beq k 160) (⟨RN 6, "drawnSum", "()I"⟩) ⟨"", "", ""⟩))) (cond (Nat.blt k 162) (cond (Nat.beq k 161) (⟨RN 6, "speedFor", "(I)I"⟩) ⟨"", "", ""⟩) (cond (Nat.blt k 163) (cond (Nat.beq k 162) (⟨RN 6, "nearest", "(II)I"⟩) ⟨"", "", ""⟩) (cond (Nat.beq k 163) (⟨RN 7, "law", "([I)Z"⟩) ⟨"", "", ""⟩))))))))
def byM (k : Nat) : ByteArray := cond (Nat.blt k 82) (cond (Nat.blt k 41) (cond (Nat.blt k 20) (cond (Nat.blt k 10) (cond (Nat.blt k 5) (cond (Nat.blt k 2) (cond (Nat.blt k 1) (cond (Nat.beq k 0) prog_2_method_1_code ⟨#[]⟩) (cond (Nat.beq k 1) prog_2_method_2_code ⟨#[]⟩)) (cond (Nat.blt k 3) (cond (Nat.beq k 2) prog_2_method_3_code ⟨#[]⟩) (cond (Nat.blt k 4) (cond (Nat.beq k 3) prog_3_method_1_code ⟨#[]⟩) (cond (Nat.beq k 4) prog_3_method_2_code ⟨#[]⟩)))) (cond (Nat.blt k 7) (cond (Nat.blt k 6) (cond (Nat.beq k 5) prog_3_method_3_code ⟨#[]⟩) (cond (Nat.beq k 6) prog_3_method_4_code ⟨#[]⟩)) (cond (Nat.blt k 8) (cond (Nat.beq k 7) prog_3_method_5_code ⟨#[]⟩) (cond (Nat.blt k 9) (cond (Nat.beq k 8) prog_3_method_6_code ⟨#[]⟩) (cond (Nat.beq k 9) prog_3_method_7_code ⟨#[]⟩))))) (cond (Nat.blt k 15) (cond (Nat.blt k 12) (cond (Nat.blt k 11) (cond (Nat.beq k 10) prog_3_method_8_code ⟨#[]⟩) (cond (Nat.beq k 11) prog_3_method_9_code ⟨#[]⟩)) (cond (Nat.blt k 13) (cond (Nat.beq k 12) prog_3_method_10_code ⟨#[]⟩) (cond (Nat.blt k 14) (cond (Nat.beq k 13) prog_3_method_11_code ⟨#[]⟩) (cond (Nat.beq k 14) prog_3_method_12_code ⟨#[]⟩)))) (cond (Nat.blt k 17) (cond (Nat.blt k 16) (cond (Nat.beq k 15) prog_3_method_13_code ⟨#[]⟩) (cond (Nat.beq k 16) prog_3_method_14_code ⟨#[]⟩)) (cond (Nat.blt k 18) (cond (Nat.beq k 17) prog_3_method_15_code ⟨#[]⟩) (cond (Nat.blt k 19) (cond (Nat.beq k 18) prog_4_method_1_code ⟨#[]⟩) (cond (Nat.beq k 19) prog_4_method_2_code ⟨#[]⟩)))))) (cond (Nat.blt k 30) (cond (Nat.blt k 25) (cond (Nat.blt k 22) (cond (Nat.blt k 21) (cond (Nat.beq k 20) prog_4_method_3_code ⟨#[]⟩) (cond (Nat.beq k 21) prog_4_method_4_code ⟨#[]⟩)) (cond (Nat.blt k 23) (cond (Nat.beq k 22) prog_4_method_5_code ⟨#[]⟩) (cond (Nat.blt k 24) (cond (Nat.beq k 23) prog_4_method_6_code ⟨#[]⟩) (cond (Nat.beq k 24) prog_4_method_7_code ⟨#[]⟩)))) (cond (Nat.blt k 27) (cond (Nat.blt k 26) (cond (Nat.beq k 25) prog_5_method_1_code ⟨#[]⟩) (cond (Nat.beq k 26) prog_5_method_2_code ⟨#[]⟩)) (cond (Nat.blt k 28) (cond (Nat.beq k 27) prog_5_method_3_code ⟨#[]⟩) (cond (Nat.blt k 29) (cond (Nat.beq k 28) prog_5_method_4_code ⟨#[]⟩) (cond (Nat.beq k 29) prog_5_method_5_code ⟨#[]⟩))))) (cond (Nat.blt k 35) (cond (Nat.blt k 32) (cond (Nat.blt k 31) (cond (Nat.beq k 30) prog_5_method_6_code ⟨#[]⟩) (cond (Nat.beq k 31) prog_5_method_7_code ⟨#[]⟩)) (cond (Nat.blt k 33) (cond (Nat.beq k 32) prog_5_method_8_code ⟨#[]⟩) (cond (Nat.blt k 34) (cond (Nat.beq k 33) prog_5_method_9_code ⟨#[]⟩) (cond (Nat.beq k 34) prog_5_method_10_code ⟨#[]⟩)))) (cond (Nat.blt k 38) (cond (Nat.blt k 36) (cond (Nat.beq k 35) prog_5_method_11_code ⟨#[]⟩) (cond (Nat.blt k 37) (cond (Nat.beq k 36) prog_5_method_12_code ⟨#[]⟩) (cond (Nat.beq k 37) prog_5_method_13_code ⟨#[]⟩))) (cond (Nat.blt k 39) (cond (Nat.beq k 38) prog_5_method_14_code ⟨#[]⟩) (cond (Nat.blt k 40) (cond (Nat.beq k 39) prog_5_method_15_code ⟨#[]⟩) (cond (Nat.beq k 40) prog_5_method_16_code ⟨#[]⟩))))))) (cond (Nat.blt k 61) (cond (Nat.blt k 51) (cond (Nat.blt k 46) (cond (Nat.blt k 43) (cond (Nat.blt k 42) (cond (Nat.beq k 41) prog_5_method_17_code ⟨#[]⟩) (cond (Nat.beq k 42) prog_5_method_18_code ⟨#[]⟩)) (cond (Nat.blt k 44) (cond (Nat.beq k 43) prog_5_method_19_code ⟨#[]⟩) (cond (Nat.blt k 45) (cond (Nat.beq k 44) prog_5_method_20_code ⟨#[]⟩) (cond (Nat.beq k 45) prog_6_method_1_code ⟨#[]⟩)))) (cond (Nat.blt k 48) (cond (Nat.blt k 47) (cond (Nat.beq k 46) prog_6_method_2_code ⟨#[]⟩) (cond (Nat.beq k 47) prog_6_method_3_code ⟨#[]⟩)) (cond (Nat.blt k 49) (cond (Nat.beq k 48) prog_1_method_1_code ⟨#[]⟩) (cond (Nat.blt k 50) (cond (Nat.beq k 49) prog_1_method_2_code ⟨#[]⟩) (cond (Nat.beq k 50) prog_1_method_3_code ⟨#[]⟩))))) (cond (Nat.blt k 56) (cond (Nat.blt k 53) (cond (Nat.blt k 52) (cond (Nat.beq k 51) prog_1_method_4_code ⟨#[]⟩) (cond (Nat.beq k 52) prog_1_method_5_code ⟨#[]⟩)) (cond (Nat.blt k 54) (cond (Nat.beq k 53) prog_1_method_6_code ⟨#[]⟩) (cond (Nat.blt k 55) (cond (Nat.beq k 54) prog_1_method_7_code ⟨#[]⟩) (cond (Nat.beq k 55) prog_1_method_8_code ⟨#[]⟩)))) (cond (Nat.blt k 58) (cond (Nat.blt k 57) (cond (Nat.beq k 56) prog_1_method_9_code ⟨#[]⟩) (cond (Nat.beq k 57) prog_1_method_10_code ⟨#[]⟩)) (cond (Nat.blt k 59) (cond (Nat.beq k 58) prog_1_method_11_code ⟨#[]⟩) (cond (Nat.blt k 60) (cond (Nat.beq k 59) prog_1_method_12_code ⟨#[]⟩) (cond (Nat.beq k 60) prog_1_method_13_code ⟨#[]⟩)))))) (cond (Nat.blt k 71) (cond (Nat.blt k 66) (cond (Nat.blt k 63) (cond (Nat.blt k 62) (cond (Nat.beq k 61) prog_1_method_14_code ⟨#[]⟩) (cond (Nat.beq k 62) prog_1_method_15_code ⟨#[]⟩)) (cond (Nat.blt k 64) (cond (Nat.beq k 63) prog_1_method_16_code ⟨#[]⟩) (cond (Nat.blt k 65) (cond (Nat.beq k 64) prog_1_method_17_code ⟨#[]⟩) (cond (Nat.beq k 65) prog_1_method_18_code ⟨#[]⟩)))) (cond (Nat.blt k 68) (cond (Nat.blt k 67) (cond (Nat.beq k 66) prog_1_method_19_code ⟨#[]⟩) (cond (Nat.beq k 67) prog_1_method_20_code ⟨#[]⟩)) (cond (Nat.blt k 69) (cond (Nat.beq k 68) prog_1_method_21_code ⟨#[]⟩) (cond (Nat.blt k 70) (cond (Nat.beq k 69) prog_1_method_22_code ⟨#[]⟩) (cond (Nat.beq k 70) prog_1_method_23_code ⟨#[]⟩))))) (cond (Nat.blt k 76) (cond (Nat.blt k 73) (cond (Nat.blt k 72) (cond (Nat.beq k 71) prog_1_method_24_code ⟨#[]⟩) (cond (Nat.beq k 72) prog_1_method_25_code ⟨#[]⟩)) (cond (Nat.blt k 74) (cond (Nat.beq k 73) prog_1_method_26_code ⟨#[]⟩) (cond (Nat.blt k 75) (cond (Nat.beq k 74) prog_1_method_27_code ⟨#[]⟩) (cond (Nat.beq k 75) prog_1_method_28_code ⟨#[]⟩)))) (cond (Nat.blt k 79) (cond (Nat.blt k 77) (cond (Nat.beq k 76) prog_1_method_29_code ⟨#[]⟩) (cond (Nat.blt k 78) (cond (Nat.beq k 77) prog_1_method_30_code ⟨#[]⟩) (cond (Nat.beq k 78) prog_1_method_31_code ⟨#[]⟩))) (cond (Nat.blt k 80) (cond (Nat.beq k 79) prog_1_method_32_code ⟨#[]⟩) (cond (Nat.blt k 81) (cond (Nat.beq k 80) prog_1_method_33_code ⟨#[]⟩) (cond (Nat.beq k 81) prog_1_method_34_code ⟨#[]⟩)))))))) (cond (Nat.blt k 123) (cond (Nat.blt k 102) (cond (Nat.blt k 92) (cond (Nat.blt k 87) (cond (Nat.blt k 84) (cond (Nat.blt k 83) (cond (Nat.beq k 82) prog_1_method_35_code ⟨#[]⟩) (cond (Nat.beq k 83) prog_1_method_36_code ⟨#[]⟩)) (cond (Nat.blt k 85) (cond (Nat.beq k 84) prog_1_method_37_code ⟨#[]⟩) (cond (Nat.blt k 86) (cond (Nat.beq k 85) prog_1_method_38_code ⟨#[]⟩) (cond (Nat.beq k 86) prog_8_method_1_code ⟨#[]⟩)))) (cond (Nat.blt k 89) (cond (Nat.blt k 88) (cond (Nat.beq k 87) prog_8_method_3_code ⟨#[]⟩) (cond (Nat.beq k 88) prog_8_method_4_code ⟨#[]⟩)) (cond (Nat.blt k 90) (cond (Nat.beq k 89) prog_8_method_5_code ⟨#[]⟩) (cond (Nat.blt k 91) (cond (Nat.beq k 90) prog_8_method_6_code ⟨#[]⟩) (cond (Nat.beq k 91) prog_8_method_7_code ⟨#[]⟩))))) (cond (Nat.blt k 97) (cond (Nat.blt k 94) (cond (Nat.blt k 93) (cond (Nat.beq k 92) prog_8_method_8_code ⟨#[]⟩) (cond (Nat.beq k 93) prog_8_method_9_code ⟨#[]⟩)) (cond (Nat.blt k 95) (cond (Nat.beq k 94) prog_8_method_10_code ⟨#[]⟩) (cond (Nat.blt k 96) (cond (Nat.beq k 95) prog_8_method_11_code ⟨#[]⟩) (cond (Nat.beq k 96) prog_8_method_12_code ⟨#[]⟩)))) (cond (Nat.blt k 99) (cond (Nat.blt k 98) (cond (Nat.beq k 97) prog_8_method_13_code ⟨#[]⟩) (cond (Nat.beq k 98) prog_8_method_14_code ⟨#[]⟩)) (cond (Nat.blt k 100) (cond (Nat.beq k 99) prog_8_method_15_code ⟨#[]⟩) (cond (Nat.blt k 101) (cond (Nat.beq k 100) prog_8_method_16_code ⟨#[]⟩) (cond (Nat.beq k 101) prog_8_method_17_code ⟨#[]⟩)))))) (cond (Nat.blt k 112) (cond (Nat.blt k 107) (cond (Nat.blt k 104) (cond (Nat.blt k 103) (cond (Nat.beq k 102) prog_8_method_18_code ⟨#[]⟩) (cond (Nat.beq k 103) prog_8_method_19_code ⟨#[]⟩)) (cond (Nat.blt k 105) (cond (Nat.beq k 104) prog_8_method_20_code ⟨#[]⟩) (cond (Nat.blt k 106) (cond (Nat.beq k 105) prog_8_method_21_code ⟨#[]⟩) (cond (Nat.beq k 106) prog_8_method_22_code ⟨#[]⟩)))) (cond (Nat.blt k 109) (cond (Nat.blt k 108) (cond (Nat.beq k 107) prog_8_method_23_code ⟨#[]⟩) (cond (Nat.beq k 108) prog_8_method_24_code ⟨#[]⟩)) (cond (Nat.blt k 110) (cond (Nat.beq k 109) prog_8_method_25_code ⟨#[]⟩) (cond (Nat.blt k 111) (cond (Nat.beq k 110) prog_8_method_26_code ⟨#[]⟩) (cond (Nat.beq k 111) prog_8_method_27_code ⟨#[]⟩))))) (cond (Nat.blt k 117) (cond (Nat.blt k 114) (cond (Nat.blt k 113) (cond (Nat.beq k 112) prog_8_method_28_code ⟨#[]⟩) (cond (Nat.beq k 113) prog_8_method_29_code ⟨#[]⟩)) (cond (Nat.blt k 115) (cond (Nat.beq k 114) prog_8_method_30_code ⟨#[]⟩) (cond (Nat.blt k 116) (cond (Nat.beq k 115) prog_8_method_31_code ⟨#[]⟩) (cond (Nat.beq k 116) prog_8_method_32_code ⟨#[]⟩)))) (cond (Nat.blt k 120) (cond (Nat.blt k 118) (cond (Nat.beq k 117) prog_8_method_33_code ⟨#[]⟩) (cond (Nat.blt k 119) (cond (Nat.beq k 118) prog_8_method_34_code ⟨#[]⟩) (cond (Nat.beq k 119) prog_8_method_35_code ⟨#[]⟩))) (cond (Nat.blt k 121) (cond (Nat.beq k 120) prog_8_method_36_code ⟨#[]⟩) (cond (Nat.blt k 122) (cond (Nat.beq k 121) prog_8_method_37_code ⟨#[]⟩) (cond (Nat.beq k 122) prog_8_method_38_code ⟨#[]⟩))))))) (cond (Nat.blt k 143) (cond (Nat.blt k 133) (cond (Nat.blt k 128) (cond (Nat.blt k 125) (cond (Nat.blt k 124) (cond (Nat.beq k 123) prog_8_method_39_code ⟨#[]⟩) (cond (Nat.beq k 124) prog_8_method_40_code ⟨#[]⟩)) (cond (Nat.blt k 126) (cond (Nat.beq k 125) prog_8_method_41_code ⟨#[]⟩) (cond (Nat.blt k 127) (cond (Nat.beq k 126) prog_8_method_42_code ⟨#[]⟩) (cond (Nat.beq k 127) prog_8_method_43_code ⟨#[]⟩)))) (cond (Nat.blt k 130) (cond (Nat.blt k 129) (cond (Nat.beq k 128) prog_8_method_44_code ⟨#[]⟩) (cond (Nat.beq k 129) prog_8_method_45_code ⟨#[]⟩)) (cond (Nat.blt k 131) (cond (Nat.beq k 130) prog_8_method_46_code ⟨#[]⟩) (cond (Nat.blt k 132) (cond (Nat.beq k 131) prog_8_method_47_code ⟨#[]⟩) (cond (Nat.beq k 132) prog_8_method_48_code ⟨#[]⟩))))) (cond (Nat.blt k 138) (cond (Nat.blt k 135) (cond (Nat.blt k 134) (cond (Nat.beq k 133) prog_8_method_49_code ⟨#[]⟩) (cond (Nat.beq k 134) prog_8_method_50_code ⟨#[]⟩)) (cond (Nat.blt k 136) (cond (Nat.beq k 135) prog_8_method_51_code ⟨#[]⟩) (cond (Nat.blt k 137) (cond (Nat.beq k 136) prog_8_method_52_code ⟨#[]⟩) (cond (Nat.beq k 137) prog_8_method_53_code ⟨#[]⟩)))) (cond (Nat.blt k 140) (cond (Nat.blt k 139) (cond (Nat.beq k 138) prog_8_method_54_code ⟨#[]⟩) (cond (Nat.beq k 139) prog_8_method_55_code ⟨#[]⟩)) (cond (Nat.blt k 141) (cond (Nat.beq k 140) prog_8_method_56_code ⟨#[]⟩) (cond (Nat.blt k 142) (cond (Nat.beq k 141) prog_8_method_57_code ⟨#[]⟩) (cond (Nat.beq k 142) prog_8_method_58_code ⟨#[]⟩)))))) (cond (Nat.blt k 153) (cond (Nat.blt k 148) (cond (Nat.blt k 145) (cond (Nat.blt k 144) (cond (Nat.beq k 143) prog_8_method_59_code ⟨#[]⟩) (cond (Nat.beq k 144) prog_8_method_60_code ⟨#[]⟩)) (cond (Nat.blt k 146) (cond (Nat.beq k 145) prog_8_method_61_code ⟨#[]⟩) (cond (Nat.blt k 147) (cond (Nat.beq k 146) prog_8_method_62_code ⟨#[]⟩) (cond (Nat.beq k 147) prog_8_method_63_code ⟨#[]⟩)))) (cond (Nat.blt k 150) (cond (Nat.blt k 149) (cond (Nat.beq k 148) prog_8_method_64_code ⟨#[]⟩) (cond (Nat.beq k 149) prog_8_method_65_code ⟨#[]⟩)) (cond (Nat.blt k 151) (cond (Nat.beq k 150) prog_8_method_66_code ⟨#[]⟩) (cond (Nat.blt k 152) (cond (Nat.beq k 151) prog_8_method_67_code ⟨#[]⟩) (cond (Nat.beq k 152) prog_8_method_68_code ⟨#[]⟩))))) (cond (Nat.blt k 158) (cond (Nat.blt k 155) (cond (Nat.blt k 154) (cond (Nat.beq k 153) prog_8_method_69_code ⟨#[]⟩) (cond (Nat.beq k 154) prog_8_method_70_code ⟨#[]⟩)) (cond (Nat.blt k 156) (cond (Nat.beq k 155) prog_8_method_71_code ⟨#[]⟩) (cond (Nat.blt k 157) (cond (Nat.beq k 156) prog_8_method_72_code ⟨#[]⟩) (cond (Nat.beq k 157) prog_8_method_73_code ⟨#[]⟩)))) (cond (Nat.blt k 161) (cond (Nat.blt k 159) (cond (Nat.beq k 158) prog_8_method_74_code ⟨#[]⟩) (cond (Nat.blt k 160) (cond (Nat.beq k 159) prog_8_method_75_code ⟨#[]⟩) (cond (Nat.beq k 160) prog_8_method_76_code ⟨#[]⟩))) (cond (Nat.blt k 162) (cond (Nat.beq k 161) prog_8_method_77_code ⟨#[]⟩) (cond (Nat.blt k 163) (cond (Nat.beq k 162) prog_8_method_78_code ⟨#[]⟩) (cond (Nat.beq k 163) code ⟨#[]⟩))))))))
def mxM (k : Nat) : Nat := cond (Nat.blt k 82) (cond (Nat.blt k 41) (cond (Nat.blt k 20) (cond (Nat.blt k 10) (cond (Nat.blt k 5) (cond (Nat.blt k 2) (cond (Nat.blt k 1) (cond (Nat.beq k 0) 1 0) (cond (Nat.beq k 1) 7 0)) (cond (Nat.blt k 3) (cond (Nat.beq k 2) 2 0) (cond (Nat.blt k 4) (cond (Nat.beq k 3) 1 0) (cond (Nat.beq k 4) 5 0)))) (cond (Nat.blt k 7) (cond (Nat.blt k 6) (cond (Nat.beq k 5) 5 0) (cond (Nat.beq k 6) 5 0)) (cond (Nat.blt k 8) (cond (Nat.beq k 7) 4 0) (cond (Nat.blt k 9) (cond (Nat.beq k 8) 3 0) (cond (Nat.beq k 9) 7 0))))) (cond (Nat.blt k 15) (cond (Nat.blt k 12) (cond (Nat.blt k 11) (cond (Nat.beq k 10) 5 0) (cond (Nat.beq k 11) 2 0)) (cond (Nat.blt k 13) (cond (Nat.beq k 12) 4 0) (cond (Nat.blt k 14) (cond (Nat.beq k 13) 6 0) (cond (Nat.beq k 14) 4 0)))) (cond (Nat.blt k 17) (cond (Nat.blt k 16) (cond (Nat.beq k 15) 3 0) (cond (Nat.beq k 16) 3 0)) (cond (Nat.blt k 18) (cond (Nat.beq k 17) 8 0) (cond (Nat.blt k 19) (cond (Nat.beq k 18) 1 0) (cond (Nat.beq k 19) 5 0)))))) (cond (Nat.blt k 30) (cond (Nat.blt k 25) (cond (Nat.blt k 22) (cond (Nat.blt k 21) (cond (Nat.beq k 20) 6 0) (cond (Nat.beq k 21) 6 0)) (cond (Nat.blt k 23) (cond (Nat.beq k 22) 1 0) (cond (Nat.blt k 24) (cond (Nat.beq k 23) 1 0) (cond (Nat.beq k 24) 1 0)))) (cond (Nat.blt k 27) (cond (Nat.blt k 26) (cond (Nat.beq k 25) 2 0) (cond (Nat.beq k 26) 2 0)) (cond (Nat.blt k 28) (cond (Nat.beq k 27) 2 0) (cond (Nat.blt k 29) (cond (Nat.beq k 28) 2 0) (cond (Nat.beq k 29) 2 0))))) (cond (Nat.blt k 35) (cond (Nat.blt k 32) (cond (Nat.blt k 31) (cond (Nat.beq k 30) 2 0) (cond (Nat.beq k 31) 4 0)) (cond (Nat.blt k 33) (cond (Nat.beq k 32) 3 0) (cond (Nat.blt k 34) (cond (Nat.beq k 33) 5 0) (cond (Nat.beq k 34) 6 0)))) (cond (Nat.blt k 38) (cond (Nat.blt k 36) (cond (Nat.beq k 35) 4 0) (cond (Nat.blt k 37) (cond (Nat.beq k 36) 4 0) (cond (Nat.beq k 37) 4 0))) (cond (Nat.blt k 39) (cond (Nat.beq k 38) 4 0) (cond (Nat.blt k 40) (cond (Nat.beq k 39) 4 0) (cond (Nat.beq k 40) 2 0))))))) (cond (Nat.blt k 61) (cond (Nat.blt k 51) (cond (Nat.blt k 46) (cond (Nat.blt k 43) (cond (Nat.blt k 42) (cond (Nat.beq k 41) 5 0) (cond (Nat.beq k 42) 3 0)) (cond (Nat.blt k 44) (cond (Nat.beq k 43) 4 0) (cond (Nat.blt k 45) (cond (Nat.beq k 44) 4 0) (cond (Nat.beq k 45) 2 0)))) (cond (Nat.blt k 48) (cond (Nat.blt k 47) (cond (Nat.beq k 46) 3 0) (cond (Nat.beq k 47) 3 0)) (cond (Nat.blt k 49) (cond (Nat.beq k 48) 2 0) (cond (Nat.blt k 50) (cond (Nat.beq k 49) 4 0) (cond (Nat.beq k 50) 6 0))))) (cond (Nat.blt k 56) (cond (Nat.blt k 53) (cond (Nat.blt k 52) (cond (Nat.beq k 51) 6 0) (cond (Nat.beq k 52) 4 0)) (cond (Nat.blt k 54) (cond (Nat.beq k 53) 5 0) (cond (Nat.blt k 55) (cond (Nat.beq k 54) 3 0) (cond (Nat.beq k 55) 6 0)))) (cond (Nat.blt k 58) (cond (Nat.blt k 57) (cond (Nat.beq k 56) 5 0) (cond (Nat.beq k 57) 5 0)) (cond (Nat.blt k 59) (cond (Nat.beq k 58) 10 0) (cond (Nat.blt k 60) (cond (Nat.beq k 59) 3 0) (cond (Nat.beq k 60) 4 0)))))) (cond (Nat.blt k 71) (cond (Nat.blt k 66) (cond (Nat.blt k 63) (cond (Nat.blt k 62) (cond (Nat.beq k 61) 2 0) (cond (Nat.beq k 62) 2 0)) (cond (Nat.blt k 64) (cond (Nat.beq k 63) 1 0) (cond (Nat.blt k 65) (cond (Nat.beq k 64) 2 0) (cond (Nat.beq k 65) 2 0)))) (cond (Nat.blt k 68) (cond (Nat.blt k 67) (cond (Nat.beq k 66) 2 0) (cond (Nat.beq k 67) 3 0)) (cond (Nat.blt k 69) (cond (Nat.beq k 68) 3 0) (cond (Nat.blt k 70) (cond (Nat.beq k 69) 3 0) (cond (Nat.beq k 70) 3 0))))) (cond (Nat.blt k 76) (cond (Nat.blt k 73) (cond (Nat.blt k 72) (cond (Nat.beq k 71) 2 0) (cond (Nat.beq k 72) 4 0)) (cond (Nat.blt k 74) (cond (Nat.beq k 73) 4 0) (cond (Nat.blt k 75) (cond (Nat.beq k 74) 3 0) (cond (Nat.beq k 75) 2 0)))) (cond (Nat.blt k 79) (cond (Nat.blt k 77) (cond (Nat.beq k 76) 3 0) (cond (Nat.blt k 78) (cond (Nat.beq k 77) 6 0) (cond (Nat.beq k 78) 6 0))) (cond (Nat.blt k 80) (cond (Nat.beq k 79) 4 0) (cond (Nat.blt k 81) (cond (Nat.beq k 80) 4 0) (cond (Nat.beq k 81) 3 0)))))))) (cond (Nat.blt k 123) (cond (Nat.blt k 102) (cond (Nat.blt k 92) (cond (Nat.blt k 87) (cond (Nat.blt k 84) (cond (Nat.blt k 83) (cond (Nat.beq k 82) 3 0) (cond (Nat.beq k 83) 3 0)) (cond (Nat.blt k 85) (cond (Nat.beq k 84) 4 0) (cond (Nat.blt k 86) (cond (Nat.beq k 85) 5 0) (cond (Nat.beq k 86) 2 0)))) (cond (Nat.blt k 89) (cond (Nat.blt k 88) (cond (Nat.beq k 87) 3 0) (cond (Nat.beq k 88) 2 0)) (cond (Nat.blt k 90) (cond (Nat.beq k 89) 2 0) (cond (Nat.blt k 91) (cond (Nat.beq k 90) 6 0) (cond (Nat.beq k 91) 1 0))))) (cond (Nat.blt k 97) (cond (Nat.blt k 94) (cond (Nat.blt k 93) (cond (Nat.beq k 92) 2 0) (cond (Nat.beq k 93) 2 0)) (cond (Nat.blt k 95) (cond (Nat.beq k 94) 2 0) (cond (Nat.blt k 96) (cond (Nat.beq k 95) 2 0) (cond (Nat.beq k 96) 3 0)))) (cond (Nat.blt k 99) (cond (Nat.blt k 98) (cond (Nat.beq k 97) 2 0) (cond (Nat.beq k 98) 2 0)) (cond (Nat.blt k 100) (cond (Nat.beq k 99) 2 0) (cond (Nat.blt k 101) (cond (Nat.beq k 100) 4 0) (cond (Nat.beq k 101) 1 0)))))) (cond (Nat.blt k 112) (cond (Nat.blt k 107) (cond (Nat.blt k 104) (cond (Nat.blt k 103) (cond (Nat.beq k 102) 2 0) (cond (Nat.beq k 103) 3 0)) (cond (Nat.blt k 105) (cond (Nat.beq k 104) 1 0) (cond (Nat.blt k 106) (cond (Nat.beq k 105) 3 0) (cond (Nat.beq k 106) 5 0)))) (cond (Nat.blt k 109) (cond (Nat.blt k 108) (cond (Nat.beq k 107) 5 0) (cond (Nat.beq k 108) 2 0)) (cond (Nat.blt k 110) (cond (Nat.beq k 109) 4 0) (cond (Nat.blt k 111) (cond (Nat.beq k 110) 5 0) (cond (Nat.beq k 111) 5 0))))) (cond (Nat.blt k 117) (cond (Nat.blt k 114) (cond (Nat.blt k 113) (cond (Nat.beq k 112) 3 0) (cond (Nat.beq k 113) 7 0)) (cond (Nat.blt k 115) (cond (Nat.beq k 114) 2 0) (cond (Nat.blt k 116) (cond (Nat.beq k 115) 4 0) (cond (Nat.beq k 116) 3 0)))) (cond (Nat.blt k 120) (cond (Nat.blt k 118) (cond (Nat.beq k 117) 5 0) (cond (Nat.blt k 119) (cond (Nat.beq k 118) 5 0) (cond (Nat.beq k 119) 3 0))) (cond (Nat.blt k 121) (cond (Nat.beq k 120) 3 0) (cond (Nat.blt k 122) (cond (Nat.beq k 121) 9 0) (cond (Nat.beq k 122) 8 0))))))) (cond (Nat.blt k 143) (cond (Nat.blt k 133) (cond (Nat.blt k 128) (cond (Nat.blt k 125) (cond (Nat.blt k 124) (cond (Nat.beq k 123) 2 0) (cond (Nat.beq k 124) 9 0)) (cond (Nat.blt k 126) (cond (Nat.beq k 125) 4 0) (cond (Nat.blt k 127) (cond (Nat.beq k 126) 5 0) (cond (Nat.beq k 127) 3 0)))) (cond (Nat.blt k 130) (cond (Nat.blt k 129) (cond (Nat.beq k 128) 3 0) (cond (Nat.beq k 129) 1 0)) (cond (Nat.blt k 131) (cond (Nat.beq k 130) 2 0) (cond (Nat.blt k 132) (cond (Nat.beq k 131) 2 0) (cond (Nat.beq k 132) 1 0))))) (cond (Nat.blt k 138) (cond (Nat.blt k 135) (cond (Nat.blt k 134) (cond (Nat.beq k 133) 1 0) (cond (Nat.beq k 134) 5 0)) (cond (Nat.blt k 136) (cond (Nat.beq k 135) 5 0) (cond (Nat.blt k 137) (cond (Nat.beq k 136) 2 0) (cond (Nat.beq k 137) 4 0)))) (cond (Nat.blt k 140) (cond (Nat.blt k 139) (cond (Nat.beq k 138) 4 0) (cond (Nat.beq k 139) 3 0)) (cond (Nat.blt k 141) (cond (Nat.beq k 140) 10 0) (cond (Nat.blt k 142) (cond (Nat.beq k 141) 11 0) (cond (Nat.beq k 142) 14 0)))))) (cond (Nat.blt k 153) (cond (Nat.blt k 148) (cond (Nat.blt k 145) (cond (Nat.blt k 144) (cond (Nat.beq k 143) 4 0) (cond (Nat.beq k 144) 4 0)) (cond (Nat.blt k 146) (cond (Nat.beq k 145) 2 0) (cond (Nat.blt k 147) (cond (Nat.beq k 146) 3 0) (cond (Nat.beq k 147) 3 0)))) (cond (Nat.blt k 150) (cond (Nat.blt k 149) (cond (Nat.beq k 148) 3 0) (cond (Nat.beq k 149) 2 0)) (cond (Nat.blt k 151) (cond (Nat.beq k 150) 3 0) (cond (Nat.blt k 152) (cond (Nat.beq k 151) 1 0) (cond (Nat.beq k 152) 4 0))))) (cond (Nat.blt k 158) (cond (Nat.blt k 155) (cond (Nat.blt k 154) (cond (Nat.beq k 153) 3 0) (cond (Nat.beq k 154) 3 0)) (cond (Nat.blt k 156) (cond (Nat.beq k 155) 2 0) (cond (Nat.blt k 157) (cond (Nat.beq k 156) 3 0) (cond (Nat.beq k 157) 5 0)))) (cond (Nat.blt k 161) (cond (Nat.blt k 159) (cond (Nat.beq k 158) 6 0) (cond (Nat.blt k 160) (cond (Nat.beq k 159) 4 0) (cond (Nat.beq k 160) 3 0))) (cond (Nat.blt k 162) (cond (Nat.beq k 161) 4 0) (cond (Nat.blt k 163) (cond (Nat.beq k 162) 3 0) (cond (Nat.beq k 163) 4 0))))))))
def rtM (k : Nat) : Option FieldType := cond (Nat.blt k 82) (cond (Nat.blt k 41) (cond (Nat.blt k 20) (cond (Nat.blt k 10) (cond (Nat.blt k 5) (cond (Nat.blt k 2) (cond (Nat.blt k 1) (cond (Nat.beq k 0) none none) (cond (Nat.beq k 1) none none)) (cond (Nat.blt k 3) (cond (Nat.beq k 2) (some .int) none) (cond (Nat.blt k 4) (cond (Nat.beq k 3) none none) (cond (Nat.beq k 4) none none)))) (cond (Nat.blt k 7) (cond (Nat.blt k 6) (cond (Nat.beq k 5) none none) (cond (Nat.beq k 6) none none)) (cond (Nat.blt k 8) (cond (Nat.beq k 7) none none) (cond (Nat.blt k 9) (cond (Nat.beq k 8) (some .int) none) (cond (Nat.beq k 9) none none))))) (cond (Nat.blt k 15) (cond (Nat.blt k 12) (cond (Nat.blt k 11) (cond (Nat.beq k 10) (some .int) none) (cond (Nat.beq k 11) (some .int) none)) (cond (Nat.blt k 13) (cond (Nat.beq k 12) (some .int) none) (cond (Nat.blt k 14) (cond (Nat.beq k 13) none none) (cond (Nat.beq k 14) (some .int) none)))) (cond (Nat.blt k 17) (cond (Nat.blt k 16) (cond (Nat.beq k 15) (some .boolean) none) (cond (Nat.beq k 16) (some .int) none)) (cond (Nat.blt k 18) (cond (Nat.beq k 17) (some .int) none) (cond (Nat.blt k 19) (cond (Nat.beq k 18) none none) (cond (Nat.beq k 19) (some .int) none)))))) (cond (Nat.blt k 30) (cond (Nat.blt k 25) (cond (Nat.blt k 22) (cond (Nat.blt k 21) (cond (Nat.beq k 20) none none) (cond (Nat.beq k 21) (some .int) none)) (cond (Nat.blt k 23) (cond (Nat.beq k 22) none none) (cond (Nat.blt k 24) (cond (Nat.beq k 23) (some .boolean) none) (cond (Nat.beq k 24) (some .int) none)))) (cond (Nat.blt k 27) (cond (Nat.blt k 26) (cond (Nat.beq k 25) none none) (cond (Nat.beq k 26) none none)) (cond (Nat.blt k 28) (cond (Nat.beq k 27) (some .boolean) none) (cond (Nat.blt k 29) (cond (Nat.beq k 28) (some .boolean) none) (cond (Nat.beq k 29) (some .boolean) none))))) (cond (Nat.blt k 35) (cond (Nat.blt k 32) (cond (Nat.blt k 31) (cond (Nat.beq k 30) (some .boolean) none) (cond (Nat.beq k 31) (some .int) none)) (cond (Nat.blt k 33) (cond (Nat.beq k 32) (some .int) none) (cond (Nat.blt k 34) (cond (Nat.beq k 33) (some .int) none) (cond (Nat.beq k 34) (some .int) none)))) (cond (Nat.blt k 38) (cond (Nat.blt k 36) (cond (Nat.beq k 35) (some .int) none) (cond (Nat.blt k 37) (cond (Nat.beq k 36) (some .int) none) (cond (Nat.beq k 37) (some .int) none))) (cond (Nat.blt k 39) (cond (Nat.beq k 38) (some .int) none) (cond (Nat.blt k 40) (cond (Nat.beq k 39) (some .int) none) (cond (Nat.beq k 40) (some .int) none))))))) (cond (Nat.blt k 61) (cond (Nat.blt k 51) (cond (Nat.blt k 46) (cond (Nat.blt k 43) (cond (Nat.blt k 42) (cond (Nat.beq k 41) none none) (cond (Nat.beq k 42) none none)) (cond (Nat.blt k 44) (cond (Nat.beq k 43) none none) (cond (Nat.blt k 45) (cond (Nat.beq k 44) none none) (cond (Nat.beq k 45) none none)))) (cond (Nat.blt k 48) (cond (Nat.blt k 47) (cond (Nat.beq k 46) none none) (cond (Nat.beq k 47) (some .int) none)) (cond (Nat.blt k 49) (cond (Nat.beq k 48) none none) (cond (Nat.blt k 50) (cond (Nat.beq k 49) (some .int) none) (cond (Nat.beq k 50) (some .int) none))))) (cond (Nat.blt k 56) (cond (Nat.blt k 53) (cond (Nat.blt k 52) (cond (Nat.beq k 51) (some .int) none) (cond (Nat.beq k 52) (some .int) none)) (cond (Nat.blt k 54) (cond (Nat.beq k 53) (some .int) none) (cond (Nat.blt k 55) (cond (Nat.beq k 54) (some .int) none) (cond (Nat.beq k 55) (some .int) none)))) (cond (Nat.blt k 58) (cond (Nat.blt k 57) (cond (Nat.beq k 56) (some .int) none) (cond (Nat.beq k 57) (some .int) none)) (cond (Nat.blt k 59) (cond (Nat.beq k 58) (some .int) none) (cond (Nat.blt k 60) (cond (Nat.beq k 59) (some .int) none) (cond (Nat.beq k 60) (some .int) none)))))) (cond (Nat.blt k 71) (cond (Nat.blt k 66) (cond (Nat.blt k 63) (cond (Nat.blt k 62) (cond (Nat.beq k 61) (some .int) none) (cond (Nat.beq k 62) (some .int) none)) (cond (Nat.blt k 64) (cond (Nat.beq k 63) (some .int) none) (cond (Nat.blt k 65) (cond (Nat.beq k 64) (some .int) none) (cond (Nat.beq k 65) (some .int) none)))) (cond (Nat.blt k 68) (cond (Nat.blt k 67) (cond (Nat.beq k 66) (some .int) none) (cond (Nat.beq k 67) (some .int) none)) (cond (Nat.blt k 69) (cond (Nat.beq k 68) (some .int) none) (cond (Nat.blt k 70) (cond (Nat.beq k 69) (some .int) none) (cond (Nat.beq k 70) (some .int) none))))) (cond (Nat.blt k 76) (cond (Nat.blt k 73) (cond (Nat.blt k 72) (cond (Nat.beq k 71) (some .int) none) (cond (Nat.beq k 72) (some .int) none)) (cond (Nat.blt k 74) (cond (Nat.beq k 73) (some .int) none) (cond (Nat.blt k 75) (cond (Nat.beq k 74) (some .int) none) (cond (Nat.beq k 75) (some .int) none)))) (cond (Nat.blt k 79) (cond (Nat.blt k 77) (cond (Nat.beq k 76) (some .int) none) (cond (Nat.blt k 78) (cond (Nat.beq k 77) (some .int) none) (cond (Nat.beq k 78) (some .int) none))) (cond (Nat.blt k 80) (cond (Nat.beq k 79) (some .int) none) (cond (Nat.blt k 81) (cond (Nat.beq k 80) (some .int) none) (cond (Nat.beq k 81) (some .int) none)))))))) (cond (Nat.blt k 123) (cond (Nat.blt k 102) (cond (Nat.blt k 92) (cond (Nat.blt k 87) (cond (Nat.blt k 84) (cond (Nat.blt k 83) (cond (Nat.beq k 82) (some .boolean) none) (cond (Nat.beq k 83) none none)) (cond (Nat.blt k 85) (cond (Nat.beq k 84) (some .int) none) (cond (Nat.blt k 86) (cond (Nat.beq k 85) (some .int) none) (cond (Nat.beq k 86) none none)))) (cond (Nat.blt k 89) (cond (Nat.blt k 88) (cond (Nat.beq k 87) (some .boolean) none) (cond (Nat.beq k 88) (some .int) none)) (cond (Nat.blt k 90) (cond (Nat.beq k 89) (some .int) none) (cond (Nat.blt k 91) (cond (Nat.beq k 90) none none) (cond (Nat.beq k 91) none none))))) (cond (Nat.blt k 97) (cond (Nat.blt k 94) (cond (Nat.blt k 93) (cond (Nat.beq k 92) (some .boolean) none) (cond (Nat.beq k 93) (some .boolean) none)) (cond (Nat.blt k 95) (cond (Nat.beq k 94) (some .int) none) (cond (Nat.blt k 96) (cond (Nat.beq k 95) (some .int) none) (cond (Nat.beq k 96) (some .int) none)))) (cond (Nat.blt k 99) (cond (Nat.blt k 98) (cond (Nat.beq k 97) (some .int) none) (cond (Nat.beq k 98) (some .int) none)) (cond (Nat.blt k 100) (cond (Nat.beq k 99) (some .int) none) (cond (Nat.blt k 101) (cond (Nat.beq k 100) (some .int) none) (cond (Nat.beq k 101) (some .int) none)))))) (cond (Nat.blt k 112) (cond (Nat.blt k 107) (cond (Nat.blt k 104) (cond (Nat.blt k 103) (cond (Nat.beq k 102) (some .boolean) none) (cond (Nat.beq k 103) (some .int) none)) (cond (Nat.blt k 105) (cond (Nat.beq k 104) (some .boolean) none) (cond (Nat.blt k 106) (cond (Nat.beq k 105) (some .int) none) (cond (Nat.beq k 106) (some .int) none)))) (cond (Nat.blt k 109) (cond (Nat.blt k 108) (cond (Nat.beq k 107) (some .int) none) (cond (Nat.beq k 108) (some .boolean) none)) (cond (Nat.blt k 110) (cond (Nat.beq k 109) (some .int) none) (cond (Nat.blt k 111) (cond (Nat.beq k 110) none none) (cond (Nat.beq k 111) none none))))) (cond (Nat.blt k 117) (cond (Nat.blt k 114) (cond (Nat.blt k 113) (cond (Nat.beq k 112) (some .int) none) (cond (Nat.beq k 113) none none)) (cond (Nat.blt k 115) (cond (Nat.beq k 114) (some .boolean) none) (cond (Nat.blt k 116) (cond (Nat.beq k 115) (some .int) none) (cond (Nat.beq k 116) (some .int) none)))) (cond (Nat.blt k 120) (cond (Nat.blt k 118) (cond (Nat.beq k 117) (some .int) none) (cond (Nat.blt k 119) (cond (Nat.beq k 118) (some .int) none) (cond (Nat.beq k 119) (some .int) none))) (cond (Nat.blt k 121) (cond (Nat.beq k 120) (some .int) none) (cond (Nat.blt k 122) (cond (Nat.beq k 121) (some .int) none) (cond (Nat.beq k 122) (some .int) none))))))) (cond (Nat.blt k 143) (cond (Nat.blt k 133) (cond (Nat.blt k 128) (cond (Nat.blt k 125) (cond (Nat.blt k 124) (cond (Nat.beq k 123) (some .int) none) (cond (Nat.beq k 124) (some .int) none)) (cond (Nat.blt k 126) (cond (Nat.beq k 125) (some .int) none) (cond (Nat.blt k 127) (cond (Nat.beq k 126) (some .int) none) (cond (Nat.beq k 127) (some .int) none)))) (cond (Nat.blt k 130) (cond (Nat.blt k 129) (cond (Nat.beq k 128) (some .int) none) (cond (Nat.beq k 129) (some .int) none)) (cond (Nat.blt k 131) (cond (Nat.beq k 130) (some .int) none) (cond (Nat.blt k 132) (cond (Nat.beq k 131) (some .int) none) (cond (Nat.beq k 132) (some .int) none))))) (cond (Nat.blt k 138) (cond (Nat.blt k 135) (cond (Nat.blt k 134) (cond (Nat.beq k 133) none none) (cond (Nat.beq k 134) (some .boolean) none)) (cond (Nat.blt k 136) (cond (Nat.beq k 135) (some .boolean) none) (cond (Nat.blt k 137) (cond (Nat.beq k 136) (some .int) none) (cond (Nat.beq k 137) none none)))) (cond (Nat.blt k 140) (cond (Nat.blt k 139) (cond (Nat.beq k 138) (some .int) none) (cond (Nat.beq k 139) (some .int) none)) (cond (Nat.blt k 141) (cond (Nat.beq k 140) (some .int) none) (cond (Nat.blt k 142) (cond (Nat.beq k 141) (some .int) none) (cond (Nat.beq k 142) (some .int) none)))))) (cond (Nat.blt k 153) (cond (Nat.blt k 148) (cond (Nat.blt k 145) (cond (Nat.blt k 144) (cond (Nat.beq k 143) (some .int) none) (cond (Nat.beq k 144) (some .int) none)) (cond (Nat.blt k 146) (cond (Nat.beq k 145) (some .int) none) (cond (Nat.blt k 147) (cond (Nat.beq k 146) (some .int) none) (cond (Nat.beq k 147) (some .int) none)))) (cond (Nat.blt k 150) (cond (Nat.blt k 149) (cond (Nat.beq k 148) (some .int) none) (cond (Nat.beq k 149) (some .int) none)) (cond (Nat.blt k 151) (cond (Nat.beq k 150) (some .int) none) (cond (Nat.blt k 152) (cond (Nat.beq k 151) (some .int) none) (cond (Nat.beq k 152) (some .int) none))))) (cond (Nat.blt k 158) (cond (Nat.blt k 155) (cond (Nat.blt k 154) (cond (Nat.beq k 153) (some .int) none) (cond (Nat.beq k 154) (some .int) none)) (cond (Nat.blt k 156) (cond (Nat.beq k 155) (some .int) none) (cond (Nat.blt k 157) (cond (Nat.beq k 156) (some .int) none) (cond (Nat.beq k 157) (some .int) none)))) (cond (Nat.blt k 161) (cond (Nat.blt k 159) (cond (Nat.beq k 158) (some .int) none) (cond (Nat.blt k 160) (cond (Nat.beq k 159) (some .int) none) (cond (Nat.beq k 160) (some .int) none))) (cond (Nat.blt k 162) (cond (Nat.beq k 161) (some .int) none) (cond (Nat.blt k 163) (cond (Nat.beq k 162) (some .int) none) (cond (Nat.beq k 163) (some .boolean) none))))))))
def clM (k : Nat) : Nat := cond (Nat.blt k 82) (cond (Nat.blt k 41) (cond (Nat.blt k 20) (cond (Nat.blt k 10) (cond (Nat.blt k 5) (cond (Nat.blt k 2) (cond (Nat.blt k 1) (cond (Nat.beq k 0) 0 99) (cond (Nat.beq k 1) 0 99)) (cond (Nat.blt k 3) (cond (Nat.beq k 2) 0 99) (cond (Nat.blt k 4) (cond (Nat.beq k 3) 1 99) (cond (Nat.beq k 4) 1 99)))) (cond (Nat.blt k 7) (cond (Nat.blt k 6) (cond (Nat.beq k 5) 1 99) (cond (Nat.beq k 6) 1 99)) (cond (Nat.blt k 8) (cond (Nat.beq k 7) 1 99) (cond (Nat.blt k 9) (cond (Nat.beq k 8) 1 99) (cond (Nat.beq k 9) 1 99))))) (cond (Nat.blt k 15) (cond (Nat.blt k 12) (cond (Nat.blt k 11) (cond (Nat.beq k 10) 1 99) (cond (Nat.beq k 11) 1 99)) (cond (Nat.blt k 13) (cond (Nat.beq k 12) 1 99) (cond (Nat.blt k 14) (cond (Nat.beq k 13) 1 99) (cond (Nat.beq k 14) 1 99)))) (cond (Nat.blt k 17) (cond (Nat.blt k 16) (cond (Nat.beq k 15) 1 99) (cond (Nat.beq k 16) 1 99)) (cond (Nat.blt k 18) (cond (Nat.beq k 17) 1 99) (cond (Nat.blt k 19) (cond (Nat.beq k 18) 2 99) (cond (Nat.beq k 19) 2 99)))))) (cond (Nat.blt k 30) (cond (Nat.blt k 25) (cond (Nat.blt k 22) (cond (Nat.blt k 21) (cond (Nat.beq k 20) 2 99) (cond (Nat.beq k 21) 2 99)) (cond (Nat.blt k 23) (cond (Nat.beq k 22) 2 99) (cond (Nat.blt k 24) (cond (Nat.beq k 23) 2 99) (cond (Nat.beq k 24) 2 99)))) (cond (Nat.blt k 27) (cond (Nat.blt k 26) (cond (Nat.beq k 25) 3 99) (cond (Nat.beq k 26) 3 99)) (cond (Nat.blt k 28) (cond (Nat.beq k 27) 3 99) (cond (Nat.blt k 29) (cond (Nat.beq k 28) 3 99) (cond (Nat.beq k 29) 3 99))))) (cond (Nat.blt k 35) (cond (Nat.blt k 32) (cond (Nat.blt k 31) (cond (Nat.beq k 30) 3 99) (cond (Nat.beq k 31) 3 99)) (cond (Nat.blt k 33) (cond (Nat.beq k 32) 3 99) (cond (Nat.blt k 34) (cond (Nat.beq k 33) 3 99) (cond (Nat.beq k 34) 3 99)))) (cond (Nat.blt k 38) (cond (Nat.blt k 36) (cond (Nat.beq k 35) 3 99) (cond (Nat.blt k 37) (cond (Nat.beq k 36) 3 99) (cond (Nat.beq k 37) 3 99))) (cond (Nat.blt k 39) (cond (Nat.beq k 38) 3 99) (cond (Nat.blt k 40) (cond (Nat.beq k 39) 3 99) (cond (Nat.beq k 40) 3 99))))))) (cond (Nat.blt k 61) (cond (Nat.blt k 51) (cond (Nat.blt k 46) (cond (Nat.blt k 43) (cond (Nat.blt k 42) (cond (Nat.beq k 41) 3 99) (cond (Nat.beq k 42) 3 99)) (cond (Nat.blt k 44) (cond (Nat.beq k 43) 3 99) (cond (Nat.blt k 45) (cond (Nat.beq k 44) 3 99) (cond (Nat.beq k 45) 4 99)))) (cond (Nat.blt k 48) (cond (Nat.blt k 47) (cond (Nat.beq k 46) 4 99) (cond (Nat.beq k 47) 4 99)) (cond (Nat.blt k 49) (cond (Nat.beq k 48) 5 99) (cond (Nat.blt k 50) (cond (Nat.beq k 49) 5 99) (cond (Nat.beq k 50) 5 99))))) (cond (Nat.blt k 56) (cond (Nat.blt k 53) (cond (Nat.blt k 52) (cond (Nat.beq k 51) 5 99) (cond (Nat.beq k 52) 5 99)) (cond (Nat.blt k 54) (cond (Nat.beq k 53) 5 99) (cond (Nat.blt k 55) (cond (Nat.beq k 54) 5 99) (cond (Nat.beq k 55) 5 99)))) (cond (Nat.blt k 58) (cond (Nat.blt k 57) (cond (Nat.beq k 56) 5 99) (cond (Nat.beq k 57) 5 99)) (cond (Nat.blt k 59) (cond (Nat.beq k 58) 5 99) (cond (Nat.blt k 60) (cond (Nat.beq k 59) 5 99) (cond (Nat.beq k 60) 5 99)))))) (cond (Nat.blt k 71) (cond (Nat.blt k 66) (cond (Nat.blt k 63) (cond (Nat.blt k 62) (cond (Nat.beq k 61) 5 99) (cond (Nat.beq k 62) 5 99)) (cond (Nat.blt k 64) (cond (Nat.beq k 63) 5 99) (cond (Nat.blt k 65) (cond (Nat.beq k 64) 5 99) (cond (Nat.beq k 65) 5 99)))) (cond (Nat.blt k 68) (cond (Nat.blt k 67) (cond (Nat.beq k 66) 5 99) (cond (Nat.beq k 67) 5 99)) (cond (Nat.blt k 69) (cond (Nat.beq k 68) 5 99) (cond (Nat.blt k 70) (cond (Nat.beq k 69) 5 99) (cond (Nat.beq k 70) 5 99))))) (cond (Nat.blt k 76) (cond (Nat.blt k 73) (cond (Nat.blt k 72) (cond (Nat.beq k 71) 5 99) (cond (Nat.beq k 72) 5 99)) (cond (Nat.blt k 74) (cond (Nat.beq k 73) 5 99) (cond (Nat.blt k 75) (cond (Nat.beq k 74) 5 99) (cond (Nat.beq k 75) 5 99)))) (cond (Nat.blt k 79) (cond (Nat.blt k 77) (cond (Nat.beq k 76) 5 99) (cond (Nat.blt k 78) (cond (Nat.beq k 77) 5 99) (cond (Nat.beq k 78) 5 99))) (cond (Nat.blt k 80) (cond (Nat.beq k 79) 5 99) (cond (Nat.blt k 81) (cond (Nat.beq k 80) 5 99) (cond (Nat.beq k 81) 5 99)))))))) (cond (Nat.blt k 123) (cond (Nat.blt k 102) (cond (Nat.blt k 92) (cond (Nat.blt k 87) (cond (Nat.blt k 84) (cond (Nat.blt k 83) (cond (Nat.beq k 82) 5 99) (cond (Nat.beq k 83) 5 99)) (cond (Nat.blt k 85) (cond (Nat.beq k 84) 5 99) (cond (Nat.blt k 86) (cond (Nat.beq k 85) 5 99) (cond (Nat.beq k 86) 6 99)))) (cond (Nat.blt k 89) (cond (Nat.blt k 88) (cond (Nat.beq k 87) 6 99) (cond (Nat.beq k 88) 6 99)) (cond (Nat.blt k 90) (cond (Nat.beq k 89) 6 99) (cond (Nat.blt k 91) (cond (Nat.beq k 90) 6 99) (cond (Nat.beq k 91) 6 99))))) (cond (Nat.blt k 97) (cond (Nat.blt k 94) (cond (Nat.blt k 93) (cond (Nat.beq k 92) 6 99) (cond (Nat.beq k 93) 6 99)) (cond (Nat.blt k 95) (cond (Nat.beq k 94) 6 99) (cond (Nat.blt k 96) (cond (Nat.beq k 95) 6 99) (cond (Nat.beq k 96) 6 99)))) (cond (Nat.blt k 99) (cond (Nat.blt k 98) (cond (Nat.beq k 97) 6 99) (cond (Nat.beq k 98) 6 99)) (cond (Nat.blt k 100) (cond (Nat.beq k 99) 6 99) (cond (Nat.blt k 101) (cond (Nat.beq k 100) 6 99) (cond (Nat.beq k 101) 6 99)))))) (cond (Nat.blt k 112) (cond (Nat.blt k 107) (cond (Nat.blt k 104) (cond (Nat.blt k 103) (cond (Nat.beq k 102) 6 99) (cond (Nat.beq k 103) 6 99)) (cond (Nat.blt k 105) (cond (Nat.beq k 104) 6 99) (cond (Nat.blt k 106) (cond (Nat.beq k 105) 6 99) (cond (Nat.beq k 106) 6 99)))) (cond (Nat.blt k 109) (cond (Nat.blt k 108) (cond (Nat.beq k 107) 6 99) (cond (Nat.beq k 108) 6 99)) (cond (Nat.blt k 110) (cond (Nat.beq k 109) 6 99) (cond (Nat.blt k 111) (cond (Nat.beq k 110) 6 99) (cond (Nat.beq k 111) 6 99))))) (cond (Nat.blt k 117) (cond (Nat.blt k 114) (cond (Nat.blt k 113) (cond (Nat.beq k 112) 6 99) (cond (Nat.beq k 113) 6 99)) (cond (Nat.blt k 115) (cond (Nat.beq k 114) 6 99) (cond (Nat.blt k 116) (cond (Nat.beq k 115) 6 99) (cond (Nat.beq k 116) 6 99)))) (cond (Nat.blt k 120) (cond (Nat.blt k 118) (cond (Nat.beq k 117) 6 99) (cond (Nat.blt k 119) (cond (Nat.beq k 118) 6 99) (cond (Nat.beq k 119) 6 99))) (cond (Nat.blt k 121) (cond (Nat.beq k 120) 6 99) (cond (Nat.blt k 122) (cond (Nat.beq k 121) 6 99) (cond (Nat.beq k 122) 6 99))))))) (cond (Nat.blt k 143) (cond (Nat.blt k 133) (cond (Nat.blt k 128) (cond (Nat.blt k 125) (cond (Nat.blt k 124) (cond (Nat.beq k 123) 6 99) (cond (Nat.beq k 124) 6 99)) (cond (Nat.blt k 126) (cond (Nat.beq k 125) 6 99) (cond (Nat.blt k 127) (cond (Nat.beq k 126) 6 99) (cond (Nat.beq k 127) 6 99)))) (cond (Nat.blt k 130) (cond (Nat.blt k 129) (cond (Nat.beq k 128) 6 99) (cond (Nat.beq k 129) 6 99)) (cond (Nat.blt k 131) (cond (Nat.beq k 130) 6 99) (cond (Nat.blt k 132) (cond (Nat.beq k 131) 6 99) (cond (Nat.beq k 132) 6 99))))) (cond (Nat.blt k 138) (cond (Nat.blt k 135) (cond (Nat.blt k 134) (cond (Nat.beq k 133) 6 99) (cond (Nat.beq k 134) 6 99)) (cond (Nat.blt k 136) (cond (Nat.beq k 135) 6 99) (cond (Nat.blt k 137) (cond (Nat.beq k 136) 6 99) (cond (Nat.beq k 137) 6 99)))) (cond (Nat.blt k 140) (cond (Nat.blt k 139) (cond (Nat.beq k 138) 6 99) (cond (Nat.beq k 139) 6 99)) (cond (Nat.blt k 141) (cond (Nat.beq k 140) 6 99) (cond (Nat.blt k 142) (cond (Nat.beq k 141) 6 99) (cond (Nat.beq k 142) 6 99)))))) (cond (Nat.blt k 153) (cond (Nat.blt k 148) (cond (Nat.blt k 145) (cond (Nat.blt k 144) (cond (Nat.beq k 143) 6 99) (cond (Nat.beq k 144) 6 99)) (cond (Nat.blt k 146) (cond (Nat.beq k 145) 6 99) (cond (Nat.blt k 147) (cond (Nat.beq k 146) 6 99) (cond (Nat.beq k 147) 6 99)))) (cond (Nat.blt k 150) (cond (Nat.blt k 149) (cond (Nat.beq k 148) 6 99) (cond (Nat.beq k 149) 6 99)) (cond (Nat.blt k 151) (cond (Nat.beq k 150) 6 99) (cond (Nat.blt k 152) (cond (Nat.beq k 151) 6 99) (cond (Nat.beq k 152) 6 99))))) (cond (Nat.blt k 158) (cond (Nat.blt k 155) (cond (Nat.blt k 154) (cond (Nat.beq k 153) 6 99) (cond (Nat.beq k 154) 6 99)) (cond (Nat.blt k 156) (cond (Nat.beq k 155) 6 99) (cond (Nat.blt k 157) (cond (Nat.beq k 156) 6 99) (cond (Nat.beq k 157) 6 99)))) (cond (Nat.blt k 161) (cond (Nat.blt k 159) (cond (Nat.beq k 158) 6 99) (cond (Nat.blt k 160) (cond (Nat.beq k 159) 6 99) (cond (Nat.beq k 160) 6 99))) (cond (Nat.blt k 162) (cond (Nat.beq k 161) 6 99) (cond (Nat.blt k 163) (cond (Nat.beq k 162) 6 99) (cond (Nat.beq k 163) 7 99))))))))
/-- is it static? -/
def stM (k : Nat) : Bool := cond (Nat.blt k 82) (cond (Nat.blt k 41) (cond (Nat.blt k 20) (cond (Nat.blt k 10) (cond (Nat.blt k 5) (cond (Nat.blt k 2) (cond (Nat.blt k 1) (cond (Nat.beq k 0) false false) (cond (Nat.beq k 1) false false)) (cond (Nat.blt k 3) (cond (Nat.beq k 2) true false) (cond (Nat.blt k 4) (cond (Nat.beq k 3) false false) (cond (Nat.beq k 4) false false)))) (cond (Nat.blt k 7) (cond (Nat.blt k 6) (cond (Nat.beq k 5) false false) (cond (Nat.beq k 6) false false)) (cond (Nat.blt k 8) (cond (Nat.beq k 7) false false) (cond (Nat.blt k 9) (cond (Nat.beq k 8) false false) (cond (Nat.beq k 9) false false))))) (cond (Nat.blt k 15) (cond (Nat.blt k 12) (cond (Nat.blt k 11) (cond (Nat.beq k 10) false false) (cond (Nat.beq k 11) false false)) (cond (Nat.blt k 13) (cond (Nat.beq k 12) false false) (cond (Nat.blt k 14) (cond (Nat.beq k 13) false false) (cond (Nat.beq k 14) false false)))) (cond (Nat.blt k 17) (cond (Nat.blt k 16) (cond (Nat.beq k 15) false false) (cond (Nat.beq k 16) false false)) (cond (Nat.blt k 18) (cond (Nat.beq k 17) false false) (cond (Nat.blt k 19) (cond (Nat.beq k 18) false false) (cond (Nat.beq k 19) false false)))))) (cond (Nat.blt k 30) (cond (Nat.blt k 25) (cond (Nat.blt k 22) (cond (Nat.blt k 21) (cond (Nat.beq k 20) false false) (cond (Nat.beq k 21) false false)) (cond (Nat.blt k 23) (cond (Nat.beq k 22) false false) (cond (Nat.blt k 24) (cond (Nat.beq k 23) true false) (cond (Nat.beq k 24) true false)))) (cond (Nat.blt k 27) (cond (Nat.blt k 26) (cond (Nat.beq k 25) false false) (cond (Nat.beq k 26) false false)) (cond (Nat.blt k 28) (cond (Nat.beq k 27) false false) (cond (Nat.blt k 29) (cond (Nat.beq k 28) false false) (cond (Nat.beq k 29) false false))))) (cond (Nat.blt k 35) (cond (Nat.blt k 32) (cond (Nat.blt k 31) (cond (Nat.beq k 30) false false) (cond (Nat.beq k 31) false false)) (cond (Nat.blt k 33) (cond (Nat.beq k 32) false false) (cond (Nat.blt k 34) (cond (Nat.beq k 33) false false) (cond (Nat.beq k 34) false false)))) (cond (Nat.blt k 38) (cond (Nat.blt k 36) (cond (Nat.beq k 35) false false) (cond (Nat.blt k 37) (cond (Nat.beq k 36) false false) (cond (Nat.beq k 37) false false))) (cond (Nat.blt k 39) (cond (Nat.beq k 38) false false) (cond (Nat.blt k 40) (cond (Nat.beq k 39) false false) (cond (Nat.beq k 40) false false))))))) (cond (Nat.blt k 61) (cond (Nat.blt k 51) (cond (Nat.blt k 46) (cond (Nat.blt k 43) (cond (Nat.blt k 42) (cond (Nat.beq k 41) false false) (cond (Nat.beq k 42) false false)) (cond (Nat.blt k 44) (cond (Nat.beq k 43) false false) (cond (Nat.blt k 45) (cond (Nat.beq k 44) false false) (cond (Nat.beq k 45) false false)))) (cond (Nat.blt k 48) (cond (Nat.blt k 47) (cond (Nat.beq k 46) false false) (cond (Nat.beq k 47) false false)) (cond (Nat.blt k 49) (cond (Nat.beq k 48) false false) (cond (Nat.blt k 50) (cond (Nat.beq k 49) false false) (cond (Nat.beq k 50) false false))))) (cond (Nat.blt k 56) (cond (Nat.blt k 53) (cond (Nat.blt k 52) (cond (Nat.beq k 51) false false) (cond (Nat.beq k 52) false false)) (cond (Nat.blt k 54) (cond (Nat.beq k 53) false false) (cond (Nat.blt k 55) (cond (Nat.beq k 54) false false) (cond (Nat.beq k 55) false false)))) (cond (Nat.blt k 58) (cond (Nat.blt k 57) (cond (Nat.beq k 56) false false) (cond (Nat.beq k 57) false false)) (cond (Nat.blt k 59) (cond (Nat.beq k 58) false false) (cond (Nat.blt k 60) (cond (Nat.beq k 59) false false) (cond (Nat.beq k 60) false false)))))) (cond (Nat.blt k 71) (cond (Nat.blt k 66) (cond (Nat.blt k 63) (cond (Nat.blt k 62) (cond (Nat.beq k 61) false false) (cond (Nat.beq k 62) false false)) (cond (Nat.blt k 64) (cond (Nat.beq k 63) false false) (cond (Nat.blt k 65) (cond (Nat.beq k 64) false false) (cond (Nat.beq k 65) false false)))) (cond (Nat.blt k 68) (cond (Nat.blt k 67) (cond (Nat.beq k 66) false false) (cond (Nat.beq k 67) false false)) (cond (Nat.blt k 69) (cond (Nat.beq k 68) false false) (cond (Nat.blt k 70) (cond (Nat.beq k 69) false false) (cond (Nat.beq k 70) false false))))) (cond (Nat.blt k 76) (cond (Nat.blt k 73) (cond (Nat.blt k 72) (cond (Nat.beq k 71) false false) (cond (Nat.beq k 72) false false)) (cond (Nat.blt k 74) (cond (Nat.beq k 73) false false) (cond (Nat.blt k 75) (cond (Nat.beq k 74) false false) (cond (Nat.beq k 75) false false)))) (cond (Nat.blt k 79) (cond (Nat.blt k 77) (cond (Nat.beq k 76) false false) (cond (Nat.blt k 78) (cond (Nat.beq k 77) false false) (cond (Nat.beq k 78) false false))) (cond (Nat.blt k 80) (cond (Nat.beq k 79) false false) (cond (Nat.blt k 81) (cond (Nat.beq k 80) false false) (cond (Nat.beq k 81) false false)))))))) (cond (Nat.blt k 123) (cond (Nat.blt k 102) (cond (Nat.blt k 92) (cond (Nat.blt k 87) (cond (Nat.blt k 84) (cond (Nat.blt k 83) (cond (Nat.beq k 82) true false) (cond (Nat.beq k 83) false false)) (cond (Nat.blt k 85) (cond (Nat.beq k 84) true false) (cond (Nat.blt k 86) (cond (Nat.beq k 85) true false) (cond (Nat.beq k 86) false false)))) (cond (Nat.blt k 89) (cond (Nat.blt k 88) (cond (Nat.beq k 87) true false) (cond (Nat.beq k 88) true false)) (cond (Nat.blt k 90) (cond (Nat.beq k 89) true false) (cond (Nat.blt k 91) (cond (Nat.beq k 90) true false) (cond (Nat.beq k 91) false false))))) (cond (Nat.blt k 97) (cond (Nat.blt k 94) (cond (Nat.blt k 93) (cond (Nat.beq k 92) false false) (cond (Nat.beq k 93) false false)) (cond (Nat.blt k 95) (cond (Nat.beq k 94) false false) (cond (Nat.blt k 96) (cond (Nat.beq k 95) false false) (cond (Nat.beq k 96) false false)))) (cond (Nat.blt k 99) (cond (Nat.blt k 98) (cond (Nat.beq k 97) false false) (cond (Nat.beq k 98) false false)) (cond (Nat.blt k 100) (cond (Nat.beq k 99) false false) (cond (Nat.blt k 101) (cond (Nat.beq k 100) false false) (cond (Nat.beq k 101) false false)))))) (cond (Nat.blt k 112) (cond (Nat.blt k 107) (cond (Nat.blt k 104) (cond (Nat.blt k 103) (cond (Nat.beq k 102) false false) (cond (Nat.beq k 103) false false)) (cond (Nat.blt k 105) (cond (Nat.beq k 104) true false) (cond (Nat.blt k 106) (cond (Nat.beq k 105) false false) (cond (Nat.beq k 106) false false)))) (cond (Nat.blt k 109) (cond (Nat.blt k 108) (cond (Nat.beq k 107) false false) (cond (Nat.beq k 108) true false)) (cond (Nat.blt k 110) (cond (Nat.beq k 109) false false) (cond (Nat.blt k 111) (cond (Nat.beq k 110) true false) (cond (Nat.beq k 111) true false))))) (cond (Nat.blt k 117) (cond (Nat.blt k 114) (cond (Nat.blt k 113) (cond (Nat.beq k 112) true false) (cond (Nat.beq k 113) true false)) (cond (Nat.blt k 115) (cond (Nat.beq k 114) true false) (cond (Nat.blt k 116) (cond (Nat.beq k 115) false false) (cond (Nat.beq k 116) false false)))) (cond (Nat.blt k 120) (cond (Nat.blt k 118) (cond (Nat.beq k 117) false false) (cond (Nat.blt k 119) (cond (Nat.beq k 118) false false) (cond (Nat.beq k 119) false false))) (cond (Nat.blt k 121) (cond (Nat.beq k 120) false false) (cond (Nat.blt k 122) (cond (Nat.beq k 121) false false) (cond (Nat.beq k 122) false false))))))) (cond (Nat.blt k 143) (cond (Nat.blt k 133) (cond (Nat.blt k 128) (cond (Nat.blt k 125) (cond (Nat.blt k 124) (cond (Nat.beq k 123) false false) (cond (Nat.beq k 124) false false)) (cond (Nat.blt k 126) (cond (Nat.beq k 125) true false) (cond (Nat.blt k 127) (cond (Nat.beq k 126) false false) (cond (Nat.beq k 127) false false)))) (cond (Nat.blt k 130) (cond (Nat.blt k 129) (cond (Nat.beq k 128) false false) (cond (Nat.beq k 129) false false)) (cond (Nat.blt k 131) (cond (Nat.beq k 130) false false) (cond (Nat.blt k 132) (cond (Nat.beq k 131) false false) (cond (Nat.beq k 132) false false))))) (cond (Nat.blt k 138) (cond (Nat.blt k 135) (cond (Nat.blt k 134) (cond (Nat.beq k 133) false false) (cond (Nat.beq k 134) false false)) (cond (Nat.blt k 136) (cond (Nat.beq k 135) false false) (cond (Nat.blt k 137) (cond (Nat.beq k 136) false false) (cond (Nat.beq k 137) false false)))) (cond (Nat.blt k 140) (cond (Nat.blt k 139) (cond (Nat.beq k 138) false false) (cond (Nat.beq k 139) true false)) (cond (Nat.blt k 141) (cond (Nat.beq k 140) false false) (cond (Nat.blt k 142) (cond (Nat.beq k 141) false false) (cond (Nat.beq k 142) false false)))))) (cond (Nat.blt k 153) (cond (Nat.blt k 148) (cond (Nat.blt k 145) (cond (Nat.blt k 144) (cond (Nat.beq k 143) false false) (cond (Nat.beq k 144) false false)) (cond (Nat.blt k 146) (cond (Nat.beq k 145) false false) (cond (Nat.blt k 147) (cond (Nat.beq k 146) false false) (cond (Nat.beq k 147) false false)))) (cond (Nat.blt k 150) (cond (Nat.blt k 149) (cond (Nat.beq k 148) false false) (cond (Nat.beq k 149) false false)) (cond (Nat.blt k 151) (cond (Nat.beq k 150) false false) (cond (Nat.blt k 152) (cond (Nat.beq k 151) true false) (cond (Nat.beq k 152) false false))))) (cond (Nat.blt k 158) (cond (Nat.blt k 155) (cond (Nat.blt k 154) (cond (Nat.beq k 153) false false) (cond (Nat.beq k 154) false false)) (cond (Nat.blt k 156) (cond (Nat.beq k 155) false false) (cond (Nat.blt k 157) (cond (Nat.beq k 156) false false) (cond (Nat.beq k 157) false false)))) (cond (Nat.blt k 161) (cond (Nat.blt k 159) (cond (Nat.beq k 158) false false) (cond (Nat.blt k 160) (cond (Nat.beq k 159) false false) (cond (Nat.beq k 160) false false))) (cond (Nat.blt k 162) (cond (Nat.beq k 161) false false) (cond (Nat.blt k 163) (cond (Nat.beq k 162) false false) (cond (Nat.beq k 163) true false))))))))
/-- how many arguments, the receiver with them -/
def naM (k : Nat) : Nat := cond (Nat.blt k 82) (cond (Nat.blt k 41) (cond (Nat.blt k 20) (cond (Nat.blt k 10) (cond (Nat.blt k 5) (cond (Nat.blt k 2) (cond (Nat.blt k 1) (cond (Nat.beq k 0) 1 0) (cond (Nat.beq k 1) 2 0)) (cond (Nat.blt k 3) (cond (Nat.beq k 2) 2 0) (cond (Nat.blt k 4) (cond (Nat.beq k 3) 1 0) (cond (Nat.beq k 4) 2 0)))) (cond (Nat.blt k 7) (cond (Nat.blt k 6) (cond (Nat.beq k 5) 4 0) (cond (Nat.beq k 6) 3 0)) (cond (Nat.blt k 8) (cond (Nat.beq k 7) 3 0) (cond (Nat.blt k 9) (cond (Nat.beq k 8) 1 0) (cond (Nat.beq k 9) 3 0))))) (cond (Nat.blt k 15) (cond (Nat.blt k 12) (cond (Nat.blt k 11) (cond (Nat.beq k 10) 3 0) (cond (Nat.beq k 11) 2 0)) (cond (Nat.blt k 13) (cond (Nat.beq k 12) 1 0) (cond (Nat.blt k 14) (cond (Nat.beq k 13) 3 0) (cond (Nat.beq k 14) 2 0)))) (cond (Nat.blt k 17) (cond (Nat.blt k 16) (cond (Nat.beq k 15) 1 0) (cond (Nat.beq k 16) 1 0)) (cond (Nat.blt k 18) (cond (Nat.beq k 17) 4 0) (cond (Nat.blt k 19) (cond (Nat.beq k 18) 1 0) (cond (Nat.beq k 19) 4 0)))))) (cond (Nat.blt k 30) (cond (Nat.blt k 25) (cond (Nat.blt k 22) (cond (Nat.blt k 21) (cond (Nat.beq k 20) 2 0) (cond (Nat.beq k 21) 3 0)) (cond (Nat.blt k 23) (cond (Nat.beq k 22) 1 0) (cond (Nat.blt k 24) (cond (Nat.beq k 23) 1 0) (cond (Nat.beq k 24) 1 0)))) (cond (Nat.blt k 27) (cond (Nat.blt k 26) (cond (Nat.beq k 25) 1 0) (cond (Nat.beq k 26) 2 0)) (cond (Nat.blt k 28) (cond (Nat.beq k 27) 2 0) (cond (Nat.blt k 29) (cond (Nat.beq k 28) 2 0) (cond (Nat.beq k 29) 2 0))))) (cond (Nat.blt k 35) (cond (Nat.blt k 32) (cond (Nat.blt k 31) (cond (Nat.beq k 30) 2 0) (cond (Nat.beq k 31) 4 0)) (cond (Nat.blt k 33) (cond (Nat.beq k 32) 3 0) (cond (Nat.blt k 34) (cond (Nat.beq k 33) 3 0) (cond (Nat.beq k 34) 4 0)))) (cond (Nat.blt k 38) (cond (Nat.blt k 36) (cond (Nat.beq k 35) 3 0) (cond (Nat.blt k 37) (cond (Nat.beq k 36) 2 0) (cond (Nat.beq k 37) 2 0))) (cond (Nat.blt k 39) (cond (Nat.beq k 38) 2 0) (cond (Nat.blt k 40) (cond (Nat.beq k 39) 2 0) (cond (Nat.beq k 40) 2 0))))))) (cond (Nat.blt k 61) (cond (Nat.blt k 51) (cond (Nat.blt k 46) (cond (Nat.blt k 43) (cond (Nat.blt k 42) (cond (Nat.beq k 41) 4 0) (cond (Nat.beq k 42) 2 0)) (cond (Nat.blt k 44) (cond (Nat.beq k 43) 3 0) (cond (Nat.blt k 45) (cond (Nat.beq k 44) 3 0) (cond (Nat.beq k 45) 1 0)))) (cond (Nat.blt k 48) (cond (Nat.blt k 47) (cond (Nat.beq k 46) 2 0) (cond (Nat.beq k 47) 1 0)) (cond (Nat.blt k 49) (cond (Nat.beq k 48) 1 0) (cond (Nat.blt k 50) (cond (Nat.beq k 49) 3 0) (cond (Nat.beq k 50) 4 0))))) (cond (Nat.blt k 56) (cond (Nat.blt k 53) (cond (Nat.blt k 52) (cond (Nat.beq k 51) 4 0) (cond (Nat.beq k 52) 3 0)) (cond (Nat.blt k 54) (cond (Nat.beq k 53) 4 0) (cond (Nat.blt k 55) (cond (Nat.beq k 54) 2 0) (cond (Nat.beq k 55) 3 0)))) (cond (Nat.blt k 58) (cond (Nat.blt k 57) (cond (Nat.beq k 56) 3 0) (cond (Nat.beq k 57) 3 0)) (cond (Nat.blt k 59) (cond (Nat.beq k 58) 3 0) (cond (Nat.blt k 60) (cond (Nat.beq k 59) 1 0) (cond (Nat.beq k 60) 2 0)))))) (cond (Nat.blt k 71) (cond (Nat.blt k 66) (cond (Nat.blt k 63) (cond (Nat.blt k 62) (cond (Nat.beq k 61) 2 0) (cond (Nat.beq k 62) 2 0)) (cond (Nat.blt k 64) (cond (Nat.beq k 63) 1 0) (cond (Nat.blt k 65) (cond (Nat.beq k 64) 2 0) (cond (Nat.beq k 65) 1 0)))) (cond (Nat.blt k 68) (cond (Nat.blt k 67) (cond (Nat.beq k 66) 1 0) (cond (Nat.beq k 67) 2 0)) (cond (Nat.blt k 69) (cond (Nat.beq k 68) 3 0) (cond (Nat.blt k 70) (cond (Nat.beq k 69) 3 0) (cond (Nat.beq k 70) 3 0))))) (cond (Nat.blt k 76) (cond (Nat.blt k 73) (cond (Nat.blt k 72) (cond (Nat.beq k 71) 2 0) (cond (Nat.beq k 72) 3 0)) (cond (Nat.blt k 74) (cond (Nat.beq k 73) 3 0) (cond (Nat.blt k 75) (cond (Nat.beq k 74) 3 0) (cond (Nat.beq k 75) 2 0)))) (cond (Nat.blt k 79) (cond (Nat.blt k 77) (cond (Nat.beq k 76) 3 0) (cond (Nat.blt k 78) (cond (Nat.beq k 77) 2 0) (cond (Nat.beq k 78) 2 0))) (cond (Nat.blt k 80) (cond (Nat.beq k 79) 1 0) (cond (Nat.blt k 81) (cond (Nat.beq k 80) 2 0) (cond (Nat.beq k 81) 3 0)))))))) (cond (Nat.blt k 123) (cond (Nat.blt k 102) (cond (Nat.blt k 92) (cond (Nat.blt k 87) (cond (Nat.blt k 84) (cond (Nat.blt k 83) (cond (Nat.beq k 82) 3 0) (cond (Nat.beq k 83) 1 0)) (cond (Nat.blt k 85) (cond (Nat.beq k 84) 4 0) (cond (Nat.blt k 86) (cond (Nat.beq k 85) 3 0) (cond (Nat.beq k 86) 1 0)))) (cond (Nat.blt k 89) (cond (Nat.blt k 88) (cond (Nat.beq k 87) 3 0) (cond (Nat.beq k 88) 2 0)) (cond (Nat.blt k 90) (cond (Nat.beq k 89) 2 0) (cond (Nat.blt k 91) (cond (Nat.beq k 90) 5 0) (cond (Nat.beq k 91) 1 0))))) (cond (Nat.blt k 97) (cond (Nat.blt k 94) (cond (Nat.blt k 93) (cond (Nat.beq k 92) 2 0) (cond (Nat.beq k 93) 2 0)) (cond (Nat.blt k 95) (cond (Nat.beq k 94) 2 0) (cond (Nat.blt k 96) (cond (Nat.beq k 95) 2 0) (cond (Nat.beq k 96) 3 0)))) (cond (Nat.blt k 99) (cond (Nat.blt k 98) (cond (Nat.beq k 97) 2 0) (cond (Nat.beq k 98) 2 0)) (cond (Nat.blt k 100) (cond (Nat.beq k 99) 2 0) (cond (Nat.blt k 101) (cond (Nat.beq k 100) 2 0) (cond (Nat.beq k 101) 1 0)))))) (cond (Nat.blt k 112) (cond (Nat.blt k 107) (cond (Nat.blt k 104) (cond (Nat.blt k 103) (cond (Nat.beq k 102) 2 0) (cond (Nat.beq k 103) 2 0)) (cond (Nat.blt k 105) (cond (Nat.beq k 104) 1 0) (cond (Nat.blt k 106) (cond (Nat.beq k 105) 3 0) (cond (Nat.beq k 106) 4 0)))) (cond (Nat.blt k 109) (cond (Nat.blt k 108) (cond (Nat.beq k 107) 4 0) (cond (Nat.beq k 108) 2 0)) (cond (Nat.blt k 110) (cond (Nat.beq k 109) 3 0) (cond (Nat.blt k 111) (cond (Nat.beq k 110) 4 0) (cond (Nat.beq k 111) 4 0))))) (cond (Nat.blt k 117) (cond (Nat.blt k 114) (cond (Nat.blt k 113) (cond (Nat.beq k 112) 1 0) (cond (Nat.beq k 113) 4 0)) (cond (Nat.blt k 115) (cond (Nat.beq k 114) 2 0) (cond (Nat.blt k 116) (cond (Nat.beq k 115) 4 0) (cond (Nat.beq k 116) 2 0)))) (cond (Nat.blt k 120) (cond (Nat.blt k 118) (cond (Nat.beq k 117) 3 0) (cond (Nat.blt k 119) (cond (Nat.beq k 118) 4 0) (cond (Nat.beq k 119) 3 0))) (cond (Nat.blt k 121) (cond (Nat.beq k 120) 3 0) (cond (Nat.blt k 122) (cond (Nat.beq k 121) 4 0) (cond (Nat.beq k 122) 3 0))))))) (cond (Nat.blt k 143) (cond (Nat.blt k 133) (cond (Nat.blt k 128) (cond (Nat.blt k 125) (cond (Nat.blt k 124) (cond (Nat.beq k 123) 1 0) (cond (Nat.beq k 124) 2 0)) (cond (Nat.blt k 126) (cond (Nat.beq k 125) 2 0) (cond (Nat.blt k 127) (cond (Nat.beq k 126) 2 0) (cond (Nat.beq k 127) 2 0)))) (cond (Nat.blt k 130) (cond (Nat.blt k 129) (cond (Nat.beq k 128) 2 0) (cond (Nat.beq k 129) 1 0)) (cond (Nat.blt k 131) (cond (Nat.beq k 130) 2 0) (cond (Nat.blt k 132) (cond (Nat.beq k 131) 1 0) (cond (Nat.beq k 132) 1 0))))) (cond (Nat.blt k 138) (cond (Nat.blt k 135) (cond (Nat.blt k 134) (cond (Nat.beq k 133) 1 0) (cond (Nat.beq k 134) 3 0)) (cond (Nat.blt k 136) (cond (Nat.beq k 135) 1 0) (cond (Nat.blt k 137) (cond (Nat.beq k 136) 1 0) (cond (Nat.beq k 137) 1 0)))) (cond (Nat.blt k 140) (cond (Nat.blt k 139) (cond (Nat.beq k 138) 3 0) (cond (Nat.beq k 139) 3 0)) (cond (Nat.blt k 141) (cond (Nat.beq k 140) 6 0) (cond (Nat.blt k 142) (cond (Nat.beq k 141) 4 0) (cond (Nat.beq k 142) 3 0)))))) (cond (Nat.blt k 153) (cond (Nat.blt k 148) (cond (Nat.blt k 145) (cond (Nat.blt k 144) (cond (Nat.beq k 143) 2 0) (cond (Nat.beq k 144) 1 0)) (cond (Nat.blt k 146) (cond (Nat.beq k 145) 2 0) (cond (Nat.blt k 147) (cond (Nat.beq k 146) 3 0) (cond (Nat.beq k 147) 3 0)))) (cond (Nat.blt k 150) (cond (Nat.blt k 149) (cond (Nat.beq k 148) 3 0) (cond (Nat.beq k 149) 2 0)) (cond (Nat.blt k 151) (cond (Nat.beq k 150) 3 0) (cond (Nat.blt k 152) (cond (Nat.beq k 151) 1 0) (cond (Nat.beq k 152) 3 0))))) (cond (Nat.blt k 158) (cond (Nat.blt k 155) (cond (Nat.blt k 154) (cond (Nat.beq k 153) 3 0) (cond (Nat.beq k 154) 3 0)) (cond (Nat.blt k 156) (cond (Nat.beq k 155) 2 0) (cond (Nat.blt k 157) (cond (Nat.beq k 156) 3 0) (cond (Nat.beq k 157) 2 0)))) (cond (Nat.blt k 161) (cond (Nat.blt k 159) (cond (Nat.beq k 158) 2 0) (cond (Nat.blt k 160) (cond (Nat.beq k 159) 2 0) (cond (Nat.beq k 160) 1 0))) (cond (Nat.blt k 162) (cond (Nat.beq k 161) 2 0) (cond (Nat.blt k 163) (cond (Nat.beq k 162) 3 0) (cond (Nat.beq k 163) 1 0))))))))
/-- how deep its calls go -/
def dpM (k : Nat) : Nat := cond (Nat.blt k 82) (cond (Nat.blt k 41) (cond (Nat.blt k 20) (cond (Nat.blt k 10) (cond (Nat.blt k 5) (cond (Nat.blt k 2) (cond (Nat.blt k 1) (cond (Nat.beq k 0) 1 99) (cond (Nat.beq k 1) 1 99)) (cond (Nat.blt k 3) (cond (Nat.beq k 2) 0 99) (cond (Nat.blt k 4) (cond (Nat.beq k 3) 1 99) (cond (Nat.beq k 4) 4 99)))) (cond (Nat.blt k 7) (cond (Nat.blt k 6) (cond (Nat.beq k 5) 2 99) (cond (Nat.beq k 6) 3 99)) (cond (Nat.blt k 8) (cond (Nat.beq k 7) 0 99) (cond (Nat.blt k 9) (cond (Nat.beq k 8) 3 99) (cond (Nat.beq k 9) 2 99))))) (cond (Nat.blt k 15) (cond (Nat.blt k 12) (cond (Nat.blt k 11) (cond (Nat.beq k 10) 1 99) (cond (Nat.beq k 11) 1 99)) (cond (Nat.blt k 13) (cond (Nat.beq k 12) 3 99) (cond (Nat.blt k 14) (cond (Nat.beq k 13) 2 99) (cond (Nat.beq k 14) 1 99)))) (cond (Nat.blt k 17) (cond (Nat.blt k 16) (cond (Nat.beq k 15) 4 99) (cond (Nat.beq k 16) 0 99)) (cond (Nat.blt k 18) (cond (Nat.beq k 17) 2 99) (cond (Nat.blt k 19) (cond (Nat.beq k 18) 1 99) (cond (Nat.beq k 19) 3 99)))))) (cond (Nat.blt k 30) (cond (Nat.blt k 25) (cond (Nat.blt k 22) (cond (Nat.blt k 21) (cond (Nat.beq k 20) 2 99) (cond (Nat.beq k 21) 1 99)) (cond (Nat.blt k 23) (cond (Nat.beq k 22) 0 99) (cond (Nat.blt k 24) (cond (Nat.beq k 23) 0 99) (cond (Nat.beq k 24) 0 99)))) (cond (Nat.blt k 27) (cond (Nat.blt k 26) (cond (Nat.beq k 25) 1 99) (cond (Nat.beq k 26) 1 99)) (cond (Nat.blt k 28) (cond (Nat.beq k 27) 0 99) (cond (Nat.blt k 29) (cond (Nat.beq k 28) 0 99) (cond (Nat.beq k 29) 0 99))))) (cond (Nat.blt k 35) (cond (Nat.blt k 32) (cond (Nat.blt k 31) (cond (Nat.beq k 30) 0 99) (cond (Nat.beq k 31) 1 99)) (cond (Nat.blt k 33) (cond (Nat.beq k 32) 2 99) (cond (Nat.blt k 34) (cond (Nat.beq k 33) 2 99) (cond (Nat.beq k 34) 3 99)))) (cond (Nat.blt k 38) (cond (Nat.blt k 36) (cond (Nat.beq k 35) 1 99) (cond (Nat.blt k 37) (cond (Nat.beq k 36) 2 99) (cond (Nat.beq k 37) 0 99))) (cond (Nat.blt k 39) (cond (Nat.beq k 38) 0 99) (cond (Nat.blt k 40) (cond (Nat.beq k 39) 0 99) (cond (Nat.beq k 40) 1 99))))))) (cond (Nat.blt k 61) (cond (Nat.blt k 51) (cond (Nat.blt k 46) (cond (Nat.blt k 43) (cond (Nat.blt k 42) (cond (Nat.beq k 41) 1 99) (cond (Nat.beq k 42) 1 99)) (cond (Nat.blt k 44) (cond (Nat.beq k 43) 0 99) (cond (Nat.blt k 45) (cond (Nat.beq k 44) 0 99) (cond (Nat.beq k 45) 2 99)))) (cond (Nat.blt k 48) (cond (Nat.blt k 47) (cond (Nat.beq k 46) 2 99) (cond (Nat.beq k 47) 0 99)) (cond (Nat.blt k 49) (cond (Nat.beq k 48) 3 99) (cond (Nat.blt k 50) (cond (Nat.beq k 49) 4 99) (cond (Nat.beq k 50) 4 99))))) (cond (Nat.blt k 56) (cond (Nat.blt k 53) (cond (Nat.blt k 52) (cond (Nat.beq k 51) 4 99) (cond (Nat.beq k 52) 4 99)) (cond (Nat.blt k 54) (cond (Nat.beq k 53) 4 99) (cond (Nat.blt k 55) (cond (Nat.beq k 54) 4 99) (cond (Nat.beq k 55) 4 99)))) (cond (Nat.blt k 58) (cond (Nat.blt k 57) (cond (Nat.beq k 56) 4 99) (cond (Nat.beq k 57) 4 99)) (cond (Nat.blt k 59) (cond (Nat.beq k 58) 4 99) (cond (Nat.blt k 60) (cond (Nat.beq k 59) 5 99) (cond (Nat.beq k 60) 4 99)))))) (cond (Nat.blt k 71) (cond (Nat.blt k 66) (cond (Nat.blt k 63) (cond (Nat.blt k 62) (cond (Nat.beq k 61) 4 99) (cond (Nat.beq k 62) 4 99)) (cond (Nat.blt k 64) (cond (Nat.beq k 63) 3 99) (cond (Nat.blt k 65) (cond (Nat.beq k 64) 1 99) (cond (Nat.beq k 65) 0 99)))) (cond (Nat.blt k 68) (cond (Nat.blt k 67) (cond (Nat.beq k 66) 4 99) (cond (Nat.beq k 67) 2 99)) (cond (Nat.blt k 69) (cond (Nat.beq k 68) 1 99) (cond (Nat.blt k 70) (cond (Nat.beq k 69) 3 99) (cond (Nat.beq k 70) 1 99))))) (cond (Nat.blt k 76) (cond (Nat.blt k 73) (cond (Nat.blt k 72) (cond (Nat.beq k 71) 1 99) (cond (Nat.beq k 72) 1 99)) (cond (Nat.blt k 74) (cond (Nat.beq k 73) 5 99) (cond (Nat.blt k 75) (cond (Nat.beq k 74) 2 99) (cond (Nat.beq k 75) 5 99)))) (cond (Nat.blt k 79) (cond (Nat.blt k 77) (cond (Nat.beq k 76) 5 99) (cond (Nat.blt k 78) (cond (Nat.beq k 77) 5 99) (cond (Nat.beq k 78) 4 99))) (cond (Nat.blt k 80) (cond (Nat.beq k 79) 2 99) (cond (Nat.blt k 81) (cond (Nat.beq k 80) 5 99) (cond (Nat.beq k 81) 3 99)))))))) (cond (Nat.blt k 123) (cond (Nat.blt k 102) (cond (Nat.blt k 92) (cond (Nat.blt k 87) (cond (Nat.blt k 84) (cond (Nat.blt k 83) (cond (Nat.beq k 82) 0 99) (cond (Nat.beq k 83) 3 99)) (cond (Nat.blt k 85) (cond (Nat.beq k 84) 0 99) (cond (Nat.blt k 86) (cond (Nat.beq k 85) 3 99) (cond (Nat.beq k 86) 1 99)))) (cond (Nat.blt k 89) (cond (Nat.blt k 88) (cond (Nat.beq k 87) 0 99) (cond (Nat.beq k 88) 0 99)) (cond (Nat.blt k 90) (cond (Nat.beq k 89) 0 99) (cond (Nat.blt k 91) (cond (Nat.beq k 90) 0 99) (cond (Nat.beq k 91) 1 99))))) (cond (Nat.blt k 97) (cond (Nat.blt k 94) (cond (Nat.blt k 93) (cond (Nat.beq k 92) 1 99) (cond (Nat.beq k 93) 1 99)) (cond (Nat.blt k 95) (cond (Nat.beq k 94) 0 99) (cond (Nat.blt k 96) (cond (Nat.beq k 95) 0 99) (cond (Nat.beq k 96) 1 99)))) (cond (Nat.blt k 99) (cond (Nat.blt k 98) (cond (Nat.beq k 97) 0 99) (cond (Nat.beq k 98) 0 99)) (cond (Nat.blt k 100) (cond (Nat.beq k 99) 0 99) (cond (Nat.blt k 101) (cond (Nat.beq k 100) 1 99) (cond (Nat.beq k 101) 2 99)))))) (cond (Nat.blt k 112) (cond (Nat.blt k 107) (cond (Nat.blt k 104) (cond (Nat.blt k 103) (cond (Nat.beq k 102) 3 99) (cond (Nat.beq k 103) 2 99)) (cond (Nat.blt k 105) (cond (Nat.beq k 104) 1 99) (cond (Nat.blt k 106) (cond (Nat.beq k 105) 2 99) (cond (Nat.beq k 106) 2 99)))) (cond (Nat.blt k 109) (cond (Nat.blt k 108) (cond (Nat.beq k 107) 2 99) (cond (Nat.beq k 108) 1 99)) (cond (Nat.blt k 110) (cond (Nat.beq k 109) 2 99) (cond (Nat.blt k 111) (cond (Nat.beq k 110) 0 99) (cond (Nat.beq k 111) 0 99))))) (cond (Nat.blt k 117) (cond (Nat.blt k 114) (cond (Nat.blt k 113) (cond (Nat.beq k 112) 0 99) (cond (Nat.beq k 113) 1 99)) (cond (Nat.blt k 115) (cond (Nat.beq k 114) 1 99) (cond (Nat.blt k 116) (cond (Nat.beq k 115) 3 99) (cond (Nat.beq k 116) 3 99)))) (cond (Nat.blt k 120) (cond (Nat.blt k 118) (cond (Nat.beq k 117) 3 99) (cond (Nat.blt k 119) (cond (Nat.beq k 118) 4 99) (cond (Nat.beq k 119) 5 99))) (cond (Nat.blt k 121) (cond (Nat.beq k 120) 5 99) (cond (Nat.blt k 122) (cond (Nat.beq k 121) 2 99) (cond (Nat.beq k 122) 4 99))))))) (cond (Nat.blt k 143) (cond (Nat.blt k 133) (cond (Nat.blt k 128) (cond (Nat.blt k 125) (cond (Nat.blt k 124) (cond (Nat.beq k 123) 5 99) (cond (Nat.beq k 124) 0 99)) (cond (Nat.blt k 126) (cond (Nat.beq k 125) 0 99) (cond (Nat.blt k 127) (cond (Nat.beq k 126) 2 99) (cond (Nat.beq k 127) 3 99)))) (cond (Nat.blt k 130) (cond (Nat.blt k 129) (cond (Nat.beq k 128) 3 99) (cond (Nat.beq k 129) 1 99)) (cond (Nat.blt k 131) (cond (Nat.beq k 130) 1 99) (cond (Nat.blt k 132) (cond (Nat.beq k 131) 0 99) (cond (Nat.beq k 132) 0 99))))) (cond (Nat.blt k 138) (cond (Nat.blt k 135) (cond (Nat.blt k 134) (cond (Nat.beq k 133) 1 99) (cond (Nat.beq k 134) 2 99)) (cond (Nat.blt k 136) (cond (Nat.beq k 135) 3 99) (cond (Nat.blt k 137) (cond (Nat.beq k 136) 4 99) (cond (Nat.beq k 137) 1 99)))) (cond (Nat.blt k 140) (cond (Nat.blt k 139) (cond (Nat.beq k 138) 1 99) (cond (Nat.beq k 139) 0 99)) (cond (Nat.blt k 141) (cond (Nat.beq k 140) 2 99) (cond (Nat.blt k 142) (cond (Nat.beq k 141) 4 99) (cond (Nat.beq k 142) 3 99)))))) (cond (Nat.blt k 153) (cond (Nat.blt k 148) (cond (Nat.blt k 145) (cond (Nat.blt k 144) (cond (Nat.beq k 143) 3 99) (cond (Nat.beq k 144) 3 99)) (cond (Nat.blt k 146) (cond (Nat.beq k 145) 4 99) (cond (Nat.blt k 147) (cond (Nat.beq k 146) 2 99) (cond (Nat.beq k 147) 2 99)))) (cond (Nat.blt k 150) (cond (Nat.blt k 149) (cond (Nat.beq k 148) 1 99) (cond (Nat.beq k 149) 1 99)) (cond (Nat.blt k 151) (cond (Nat.beq k 150) 2 99) (cond (Nat.blt k 152) (cond (Nat.beq k 151) 0 99) (cond (Nat.beq k 152) 1 99))))) (cond (Nat.blt k 158) (cond (Nat.blt k 155) (cond (Nat.blt k 154) (cond (Nat.beq k 153) 5 99) (cond (Nat.beq k 154) 4 99)) (cond (Nat.blt k 156) (cond (Nat.beq k 155) 5 99) (cond (Nat.blt k 157) (cond (Nat.beq k 156) 5 99) (cond (Nat.beq k 157) 5 99)))) (cond (Nat.blt k 161) (cond (Nat.blt k 159) (cond (Nat.beq k 158) 2 99) (cond (Nat.blt k 160) (cond (Nat.beq k 159) 3 99) (cond (Nat.beq k 160) 3 99))) (cond (Nat.blt k 162) (cond (Nat.beq k 161) 5 99) (cond (Nat.blt k 163) (cond (Nat.beq k 162) 3 99) (cond (Nat.beq k 163) 6 99))))))))
def inM (k : Nat) : Bool := ([0, 3, 18, 25, 45, 48, 86] : List Nat).contains k
def fldT : List (List Nat) := [[0, 9, 0, 0], [0, 15, 0, 1], [0, 19, 3, 4], [0, 24, 0, 2], [0, 28, 0, 3], [0, 31, 3, 5], [0, 34, 3, 7], [0, 37, 3, 8], [0, 46, 3, 6], [0, 56, 3, 3], [1, 9, 1, 0], [1, 15, 1, 1], [1, 18, 1, 2], [1, 22, 1, 3], [1, 25, 1, 4], [1, 28, 1, 5], [1, 31, 3, 8], [1, 37, 1, 6], [1, 38, 3, 0], [1, 41, 1, 7], [1, 42, 3, 4], [1, 45, 1, 8], [1, 52, 3, 5], [1, 55, 3, 7], [1, 64, 3, 6], [1, 74, 3, 9], [2, 9, 2, 0], [2, 15, 2, 1], [2, 25, 2, 2], [2, 28, 2, 3], [2, 42, 3, 5], [2, 47, 3, 8], [2, 57, 3, 0], [2, 60, 3, 9], [3, 9, 3, 1], [3, 15, 3, 2], [3, 18, 3, 3], [3, 21, 3, 4], [3, 24, 3, 6], [3, 27, 3, 7], [3, 30, 3, 9], [3, 33, 3, 10], [3, 36, 3, 0], [3, 46, 3, 5], [3, 49, 3, 8], [4, 12, 4, 0], [4, 18, 4, 1], [4, 22, 4, 2], [5, 10, 5, 0], [5, 16, 5, 1], [5, 20, 5, 2], [5, 27, 5, 3], [5, 34, 5, 4], [5, 41, 5, 5], [5, 48, 5, 6], [5, 52, 5, 7], [5, 56, 5, 8], [5, 59, 4, 0], [5, 66, 3, 0], [5, 72, 3, 1], [5, 75, 3, 2], [5, 89, 3, 3], [5, 98, 3, 4], [5, 101, 3, 5], [5, 111, 3, 8], [5, 121, 3, 7], [5, 138, 3, 9], [5, 141, 3, 10], [5, 167, 1, 0], [5, 176, 0, 3], [5, 179, 3, 6], [5, 182, 4, 1], [5, 186, 4, 2], [5, 197, 2, 0], [5, 204, 0, 2], [5, 216, 0, 0], [5, 219, 0, 1], [6, 7, 6, 0], [6, 13, 6, 1], [6, 16, 6, 2], [6, 19, 6, 4], [6, 22, 6, 6], [6, 25, 6, 7], [6, 29, 6, 10], [6, 32, 6, 11], [6, 35, 6, 12], [6, 38, 6, 3], [6, 136, 6, 5], [6, 139, 6, 8], [6, 148, 6, 9]]
def statT : List (List Nat) := [[3, 40, 0], [3, 43, 1], [5, 86, 2], [5, 92, 3], [5, 95, 4]]
def newT : List (List Nat) := [[4, 9, 3], [5, 7, 4], [5, 24, 3], [5, 31, 0], [5, 38, 1], [5, 45, 2], [7, 7, 5], [7, 10, 6]]
def anewT : List (List Nat) := [[4, 9, 3], [5, 7, 2]]
def ldcT : List (List Nat) := [[1, 84, 1000000], [5, 238, 99999], [6, 119, 1000000], [6, 195, 99999]]
def methT : List (List Nat) := [[0, 49, 2], [1, 48, 6], [1, 67, 5], [1, 71, 35], [1, 77, 7], [1, 81, 32], [1, 85, 9], [1, 88, 11], [1, 92, 10], [1, 101, 13], [1, 104, 14], [1, 107, 8], [1, 111, 16], [1, 114, 17], [2, 31, 22], [2, 34, 20], [2, 38, 24], [2, 50, 21], [2, 53, 41], [2, 63, 23], [3, 68, 31], [3, 72, 32], [3, 75, 35], [3, 78, 39], [3, 81, 38], [3, 84, 43], [3, 88, 44], [4, 11, 25], [4, 26, 26], [5, 9, 45], [5, 26, 25], [5, 33, 0], [5, 40, 3], [5, 47, 18], [5, 62, 82], [5, 69, 83], [5, 78, 27], [5, 82, 31], [5, 104, 30], [5, 107, 41], [5, 114, 28], [5, 117, 42], [5, 124, 38], [5, 128, 44], [5, 132, 43], [5, 135, 29], [5, 144, 84], [5, 148, 34], [5, 151, 32], [5, 155, 4], [5, 159, 8], [5, 163, 15], [5, 170, 26], [5, 173, 1], [5, 190, 46], [5, 193, 19], [5, 200, 37], [5, 207, 47], [5, 210, 39], [5, 213, 40], [5, 222, 35], [5, 225, 12], [5, 228, 7], [5, 231, 36], [5, 234, 85], [5, 239, 6], [5, 243, 33], [6, 42, 90], [6, 46, 87], [6, 50, 94], [6, 54, 88], [6, 58, 95], [6, 61, 89], [6, 64, 98], [6, 67, 100], [6, 70, 101], [6, 74, 104], [6, 78, 91], [6, 81, 92], [6, 84, 108], [6, 88, 99], [6, 91, 112], [6, 95, 110], [6, 99, 114], [6, 103, 113], [6, 106, 93], [6, 109, 111], [6, 112, 102], [6, 115, 118], [6, 120, 96], [6, 123, 121], [6, 126, 141], [6, 129, 124], [6, 132, 125], [6, 142, 132], [6, 145, 133], [6, 151, 134], [6, 154, 135], [6, 158, 97], [6, 161, 139], [6, 164, 137], [6, 167, 138], [6, 170, 140], [6, 174, 142], [6, 177, 143], [6, 180, 144], [6, 183, 103], [6, 186, 151], [6, 189, 152], [6, 192, 158], [7, 9, 48], [7, 12, 86], [7, 13, 49], [7, 17, 105], [7, 18, 50], [7, 22, 106], [7, 23, 51], [7, 26, 107], [7, 27, 52], [7, 30, 109], [7, 31, 53], [7, 34, 115], [7, 35, 54], [7, 39, 116], [7, 40, 55], [7, 43, 117], [7, 44, 56], [7, 47, 119], [7, 48, 57], [7, 51, 120], [7, 52, 58], [7, 55, 122], [7, 56, 59], [7, 60, 123], [7, 61, 60], [7, 64, 126], [7, 65, 61], [7, 68, 127], [7, 69, 62], [7, 72, 128], [7, 73, 63], [7, 76, 129], [7, 77, 64], [7, 80, 130], [7, 81, 65], [7, 84, 131], [7, 85, 66], [7, 88, 136], [7, 89, 67], [7, 92, 145], [7, 93, 68], [7, 96, 146], [7, 97, 69], [7, 100, 147], [7, 101, 70], [7, 104, 148], [7, 105, 71], [7, 108, 149], [7, 109, 72], [7, 112, 150], [7, 113, 73], [7, 116, 153], [7, 117, 74], [7, 120, 154], [7, 121, 75], [7, 124, 155], [7, 125, 76], [7, 128, 156], [7, 129, 77], [7, 132, 157], [7, 133, 78], [7, 136, 159], [7, 137, 79], [7, 140, 160], [7, 141, 80], [7, 144, 161], [7, 145, 81], [7, 148, 162]]
def natT : List (List Nat) := [[0, 3, 1000], [0, 40, 1003], [0, 53, 1004], [1, 3, 1000], [1, 58, 1003], [1, 95, 1001], [2, 3, 1000], [2, 19, 1003], [3, 3, 1000], [3, 52, 1001], [3, 58, 1002], [3, 64, 1004], [4, 3, 1000], [5, 1, 1000], [6, 1, 1000]]
end
section
def b_A_init_0 : List RI := [(.aload_n 0, []), (.invokespecial 3, [1000, 1, 0]), (.aload_n 0, []), (.bipush 99, []), (.newarray .int, [0]), (.putfield 9, [0, 0]), (.aload_n 0, []), (.bipush 99, []), (.newarray .boolean, [1]), (.putfield 15, [0, 1]), (.return_, [])]
def p_A_init (L : Nat) : List RI := cond (Nat.beq L 0) b_A_init_0 []
def b_A_follow_0 : List RI := [(.aload_n 1, []), (.getfield 19, [3, 4]), (.iconst 3, []), (.iaload, []), (.istore_n 2, []), (.iconst 0, []), (.istore_n 3, []), (.aload_n 0, []), (.iconst 0, []), (.putfield 24, [0, 2]), (.aload_n 0, []), (.iconst (-1), []), (.putfield 28, [0, 3]), (.iconst 0, []), (.istore 4, []), (.nop, [22])]
def b_A_follow_22 : List RI := [(.iload 4, []), (.aload_n 1, []), (.getfield 31, [3, 5]), (.if_icmp .ge 134, [162]), (.iload_n 3, []), (.aload_n 1, []), (.getfield 34, [3, 7]), (.iload 4, []), (.iaload, []), (.iadd, []), (.aload_n 1, []), (.getfield 37, [3, 8]), (.invokestatic 40, [1003, 2, 0]), (.istore 5, []), (.nop, [49])]
def b_A_follow_49 : List RI := [(.iload_n 3, []), (.iload 5, []), (.if_icmp .ge 104, [156]), (.aload_n 1, []), (.aload_n 1, []), (.getfield 46, [3, 6]), (.iload 4, []), (.iaload, []), (.invokestatic 49, [2, 2, 0]), (.istore 6, []), (.aload_n 0, []), (.getfield 15, [0, 1]), (.iload_n 3, []), (.iload_n 2, []), (.iload 6, []), (.iadd, []), (.ifCond .ge 7, [84]), (.iconst 1, []), (.goto 4, [85])]
def b_A_follow_84 : List RI := [(.iconst 0, []), (.nop, [85])]
def b_A_follow_85 : List RI := [(.bastore, []), (.aload_n 0, []), (.getfield 15, [0, 1]), (.iload_n 3, []), (.baload, []), (.ifCond .eq 33, [125]), (.aload_n 0, []), (.aload_n 0, []), (.getfield 24, [0, 2]), (.ifCond .ne 8, [108]), (.iload 4, []), (.goto 7, [112])]
def b_A_follow_108 : List RI := [(.aload_n 0, []), (.getfield 28, [0, 3]), (.nop, [112])]
def b_A_follow_112 : List RI := [(.putfield 28, [0, 3]), (.aload_n 0, []), (.dup, []), (.getfield 24, [0, 2]), (.iconst 1, []), (.iadd, []), (.putfield 24, [0, 2]), (.nop, [125])]
def b_A_follow_125 : List RI := [(.iload_n 2, []), (.iload 6, []), (.iadd, []), (.iconst 0, []), (.invokestatic 53, [1004, 2, 0]), (.aload_n 1, []), (.getfield 19, [3, 4]), (.iconst 3, []), (.iaload, []), (.invokestatic 40, [1003, 2, 0]), (.istore_n 2, []), (.aload_n 0, []), (.getfield 9, [0, 0]), (.iload_n 3, []), (.iload_n 2, []), (.iastore, []), (.iinc 3 1, []), (.goto (-104), [49])]
def b_A_follow_156 : List RI := [(.iinc 4 1, []), (.goto (-137), [22])]
def b_A_follow_162 : List RI := [(.return_, [])]
def p_A_follow (L : Nat) : List RI := cond (Nat.blt L 108) (cond (Nat.blt L 49) (cond (Nat.blt L 22) (cond (Nat.beq L 0) b_A_follow_0 []) (cond (Nat.beq L 22) b_A_follow_22 [])) (cond (Nat.blt L 84) (cond (Nat.beq L 49) b_A_follow_49 []) (cond (Nat.blt L 85) (cond (Nat.beq L 84) b_A_follow_84 []) (cond (Nat.beq L 85) b_A_follow_85 [])))) (cond (Nat.blt L 125) (cond (Nat.blt L 112) (cond (Nat.beq L 108) b_A_follow_108 []) (cond (Nat.beq L 112) b_A_follow_112 [])) (cond (Nat.blt L 156) (cond (Nat.beq L 125) b_A_follow_125 []) (cond (Nat.blt L 162) (cond (Nat.beq L 156) b_A_follow_156 []) (cond (Nat.beq L 162) b_A_follow_162 []))))
def b_A_changeIn_0 : List RI := [(.iload_n 1, []), (.bipush 9, []), (.if_icmp .ne 12, [15]), (.aload_n 0, []), (.getfield 19, [3, 4]), (.iconst 4, []), (.iaload, []), (.goto 14, [26])]
def b_A_changeIn_15 : List RI := [(.aload_n 0, []), (.getfield 56, [3, 3]), (.iload_n 1, []), (.iconst 4, []), (.imul, []), (.iconst 3, []), (.iadd, []), (.iaload, []), (.ineg, []), (.nop, [26])]
def b_A_changeIn_26 : List RI := [(.ireturn, [0])]
def p_A_changeIn (L : Nat) : List RI := cond (Nat.blt L 15) (cond (Nat.beq L 0) b_A_changeIn_0 []) (cond (Nat.blt L 26) (cond (Nat.beq L 15) b_A_changeIn_15 []) (cond (Nat.beq L 26) b_A_changeIn_26 []))
def b_P_init_0 : List RI := [(.aload_n 0, []), (.invokespecial 3, [1000, 1, 0]), (.aload_n 0, []), (.bipush 99, []), (.newarray .int, [0]), (.putfield 9, [1, 0]), (.aload_n 0, []), (.sipush 792, []), (.newarray .int, [0]), (.putfield 15, [1, 1]), (.aload_n 0, []), (.bipush 64, []), (.newarray .boolean, [1]), (.putfield 18, [1, 2]), (.aload_n 0, []), (.sipush 2376, []), (.newarray .int, [0]), (.putfield 22, [1, 3]), (.aload_n 0, []), (.bipush 24, []), (.newarray .int, [0]), (.putfield 25, [1, 4]), (.aload_n 0, []), (.bipush 24, []), (.newarray .int, [0]), (.putfield 28, [1, 5]), (.return_, [])]
def p_P_init (L : Nat) : List RI := cond (Nat.beq L 0) b_P_init_0 []
def b_P_prepare_0 : List RI := [(.aload_n 0, []), (.aload_n 1, []), (.getfield 31, [3, 8]), (.putfield 37, [1, 6]), (.aload_n 0, []), (.aload_n 1, []), (.getfield 38, [3, 0]), (.putfield 41, [1, 7]), (.aload_n 0, []), (.aload_n 1, []), (.getfield 42, [3, 4]), (.iconst 1, []), (.iaload, []), (.putfield 45, [1, 8]), (.aload_n 0, []), (.aload_n 1, []), (.aload_n 1, []), (.getfield 42, [3, 4]), (.iconst 0, []), (.iaload, []), (.invokevirtual 48, [6, 3, 11]), (.iconst 0, []), (.istore_n 2, []), (.iconst 0, []), (.istore_n 3, []), (.nop, [41])]
def b_P_prepare_41 : List RI := [(.iload_n 3, []), (.aload_n 1, []), (.getfield 52, [3, 5]), (.if_icmp .ge 50, [96]), (.iload_n 2, []), (.aload_n 1, []), (.getfield 55, [3, 7]), (.iload_n 3, []), (.iaload, []), (.iadd, []), (.aload_n 0, []), (.getfield 37, [1, 6]), (.invokestatic 58, [1003, 2, 0]), (.istore 4, []), (.nop, [66])]
def b_P_prepare_66 : List RI := [(.iload_n 2, []), (.iload 4, []), (.if_icmp .ge 21, [90]), (.aload_n 0, []), (.aload_n 1, []), (.iload_n 2, []), (.aload_n 1, []), (.getfield 64, [3, 6]), (.iload_n 3, []), (.iaload, []), (.invokevirtual 67, [5, 4, 11]), (.iinc 2 1, []), (.goto (-21), [66])]
def b_P_prepare_90 : List RI := [(.iinc 3 1, []), (.goto (-52), [41])]
def b_P_prepare_96 : List RI := [(.return_, [])]
def p_P_prepare (L : Nat) : List RI := cond (Nat.blt L 66) (cond (Nat.blt L 41) (cond (Nat.beq L 0) b_P_prepare_0 []) (cond (Nat.beq L 41) b_P_prepare_41 [])) (cond (Nat.blt L 90) (cond (Nat.beq L 66) b_P_prepare_66 []) (cond (Nat.blt L 96) (cond (Nat.beq L 90) b_P_prepare_90 []) (cond (Nat.beq L 96) b_P_prepare_96 [])))
def b_P_fillCosts_0 : List RI := [(.iconst 0, []), (.istore 4, []), (.nop, [3])]
def b_P_fillCosts_3 : List RI := [(.iload 4, []), (.aload_n 0, []), (.getfield 41, [1, 7]), (.if_icmp .ge 28, [37]), (.aload_n 0, []), (.getfield 15, [1, 1]), (.iload_n 2, []), (.bipush 8, []), (.imul, []), (.iload 4, []), (.iadd, []), (.aload_n 1, []), (.iload_n 3, []), (.iload 4, []), (.invokevirtual 71, [35, 3, 13]), (.iastore, []), (.iinc 4 1, []), (.goto (-31), [3])]
def b_P_fillCosts_37 : List RI := [(.aload_n 1, []), (.getfield 74, [3, 9]), (.iload_n 2, []), (.iaload, []), (.bipush (-99), []), (.if_icmp .eq 14, [59]), (.aload_n 0, []), (.iload_n 2, []), (.aload_n 1, []), (.getfield 74, [3, 9]), (.iload_n 2, []), (.iaload, []), (.invokevirtual 77, [7, 3, 11]), (.nop, [59])]
def b_P_fillCosts_59 : List RI := [(.return_, [])]
def p_P_fillCosts (L : Nat) : List RI := cond (Nat.blt L 37) (cond (Nat.blt L 3) (cond (Nat.beq L 0) b_P_fillCosts_0 []) (cond (Nat.beq L 3) b_P_fillCosts_3 [])) (cond (Nat.blt L 59) (cond (Nat.beq L 37) b_P_fillCosts_37 []) (cond (Nat.beq L 59) b_P_fillCosts_59 []))
def b_P_useSpeed_0 : List RI := [(.iconst 0, []), (.istore_n 3, []), (.nop, [2])]
def b_P_useSpeed_2 : List RI := [(.iload_n 3, []), (.aload_n 0, []), (.getfield 41, [1, 7]), (.if_icmp .ge 55, [62]), (.iconst 0, []), (.istore 4, []), (.nop, [13])]
def b_P_useSpeed_13 : List RI := [(.iload 4, []), (.aload_n 0, []), (.getfield 41, [1, 7]), (.if_icmp .ge 37, [56]), (.aload_n 0, []), (.getfield 18, [1, 2]), (.iload_n 3, []), (.bipush 8, []), (.imul, []), (.iload 4, []), (.iadd, []), (.aload_n 1, []), (.iload_n 3, []), (.iload 4, []), (.invokevirtual 81, [32, 3, 13]), (.iload_n 2, []), (.if_icmp .gt 7, [48]), (.iconst 1, []), (.goto 4, [49])]
def b_P_useSpeed_48 : List RI := [(.iconst 0, []), (.nop, [49])]
def b_P_useSpeed_49 : List RI := [(.bastore, []), (.iinc 4 1, []), (.goto (-40), [13])]
def b_P_useSpeed_56 : List RI := [(.iinc 3 1, []), (.goto (-57), [2])]
def b_P_useSpeed_62 : List RI := [(.return_, [])]
def p_P_useSpeed (L : Nat) : List RI := cond (Nat.blt L 48) (cond (Nat.blt L 2) (cond (Nat.beq L 0) b_P_useSpeed_0 []) (cond (Nat.blt L 13) (cond (Nat.beq L 2) b_P_useSpeed_2 []) (cond (Nat.beq L 13) b_P_useSpeed_13 []))) (cond (Nat.blt L 56) (cond (Nat.blt L 49) (cond (Nat.beq L 48) b_P_useSpeed_48 []) (cond (Nat.beq L 49) b_P_useSpeed_49 [])) (cond (Nat.blt L 62) (cond (Nat.beq L 56) b_P_useSpeed_56 []) (cond (Nat.beq L 62) b_P_useSpeed_62 [])))
def b_P_barOthers_0 : List RI := [(.iconst 0, []), (.istore_n 3, []), (.nop, [2])]
def b_P_barOthers_2 : List RI := [(.iload_n 3, []), (.aload_n 0, []), (.getfield 41, [1, 7]), (.if_icmp .ge 27, [34]), (.iload_n 3, []), (.iload_n 2, []), (.if_icmp .eq 16, [28]), (.aload_n 0, []), (.getfield 15, [1, 1]), (.iload_n 1, []), (.bipush 8, []), (.imul, []), (.iload_n 3, []), (.iadd, []), (.ldc 84, [1000000]), (.iastore, []), (.nop, [28])]
def b_P_barOthers_28 : List RI := [(.iinc 3 1, []), (.goto (-29), [2])]
def b_P_barOthers_34 : List RI := [(.return_, [])]
def p_P_barOthers (L : Nat) : List RI := cond (Nat.blt L 28) (cond (Nat.blt L 2) (cond (Nat.beq L 0) b_P_barOthers_0 []) (cond (Nat.beq L 2) b_P_barOthers_2 [])) (cond (Nat.blt L 34) (cond (Nat.beq L 28) b_P_barOthers_28 []) (cond (Nat.beq L 34) b_P_barOthers_34 []))
def b_P_leastFromEnd_0 : List RI := [(.aload_n 0, []), (.getfield 37, [1, 6]), (.ifCond .ne 5, [9]), (.iconst 0, []), (.ireturn, [0])]
def b_P_leastFromEnd_9 : List RI := [(.aload_n 0, []), (.getfield 37, [1, 6]), (.iconst 1, []), (.isub, []), (.istore_n 1, []), (.nop, [16])]
def b_P_leastFromEnd_16 : List RI := [(.iload_n 1, []), (.ifCond .lt 31, [48]), (.iconst 0, []), (.istore_n 2, []), (.nop, [22])]
def b_P_leastFromEnd_22 : List RI := [(.iload_n 2, []), (.aload_n 0, []), (.getfield 41, [1, 7]), (.if_icmp .ge 15, [42]), (.aload_n 0, []), (.iload_n 1, []), (.iload_n 2, []), (.invokevirtual 85, [9, 3, 11]), (.iinc 2 1, []), (.goto (-17), [22])]
def b_P_leastFromEnd_42 : List RI := [(.iinc 1 (-1), []), (.goto (-29), [16])]
def b_P_leastFromEnd_48 : List RI := [(.ldc 84, [1000000]), (.istore_n 1, []), (.iconst 0, []), (.istore_n 2, []), (.nop, [53])]
def b_P_leastFromEnd_53 : List RI := [(.iload_n 2, []), (.aload_n 0, []), (.getfield 41, [1, 7]), (.if_icmp .ge 22, [80]), (.iload_n 1, []), (.aload_n 0, []), (.getfield 22, [1, 3]), (.iload_n 2, []), (.iconst 3, []), (.imul, []), (.iaload, []), (.invokestatic 58, [1003, 2, 0]), (.istore_n 1, []), (.iinc 2 1, []), (.goto (-24), [53])]
def b_P_leastFromEnd_80 : List RI := [(.iload_n 1, []), (.ldc 84, [1000000]), (.if_icmp .ge 7, [90]), (.iload_n 1, []), (.goto 5, [92])]
def b_P_leastFromEnd_90 : List RI := [(.bipush (-99), []), (.nop, [92])]
def b_P_leastFromEnd_92 : List RI := [(.ireturn, [0])]
def p_P_leastFromEnd (L : Nat) : List RI := cond (Nat.blt L 48) (cond (Nat.blt L 16) (cond (Nat.blt L 9) (cond (Nat.beq L 0) b_P_leastFromEnd_0 []) (cond (Nat.beq L 9) b_P_leastFromEnd_9 [])) (cond (Nat.blt L 22) (cond (Nat.beq L 16) b_P_leastFromEnd_16 []) (cond (Nat.blt L 42) (cond (Nat.beq L 22) b_P_leastFromEnd_22 []) (cond (Nat.beq L 42) b_P_leastFromEnd_42 [])))) (cond (Nat.blt L 80) (cond (Nat.blt L 53) (cond (Nat.beq L 48) b_P_leastFromEnd_48 []) (cond (Nat.beq L 53) b_P_leastFromEnd_53 [])) (cond (Nat.blt L 90) (cond (Nat.beq L 80) b_P_leastFromEnd_80 []) (cond (Nat.blt L 92) (cond (Nat.beq L 90) b_P_leastFromEnd_90 []) (cond (Nat.beq L 92) b_P_leastFromEnd_92 []))))
def b_P_fillRest_0 : List RI := [(.iload_n 1, []), (.bipush 8, []), (.imul, []), (.iload_n 2, []), (.iadd, []), (.iconst 3, []), (.imul, []), (.istore_n 3, []), (.iload_n 1, []), (.aload_n 0, []), (.getfield 37, [1, 6]), (.iconst 1, []), (.isub, []), (.if_icmp .ne 7, [23]), (.iconst 1, []), (.goto 4, [24])]
def b_P_fillRest_23 : List RI := [(.iconst 0, []), (.nop, [24])]
def b_P_fillRest_24 : List RI := [(.istore 4, []), (.iconst 0, []), (.istore 5, []), (.nop, [29])]
def b_P_fillRest_29 : List RI := [(.iload 5, []), (.aload_n 0, []), (.getfield 45, [1, 8]), (.if_icmp .ge 95, [130]), (.iload 4, []), (.ifCond .eq 7, [47]), (.iconst 0, []), (.goto 19, [63])]
def b_P_fillRest_47 : List RI := [(.aload_n 0, []), (.getfield 22, [1, 3]), (.iload_n 3, []), (.bipush 24, []), (.iadd, []), (.aload_n 0, []), (.iload 5, []), (.invokevirtual 88, [11, 2, 11]), (.iadd, []), (.iaload, []), (.nop, [63])]
def b_P_fillRest_63 : List RI := [(.istore 6, []), (.iload 4, []), (.ifCond .ne 29, [96]), (.iload 5, []), (.aload_n 0, []), (.getfield 45, [1, 8]), (.iconst 1, []), (.isub, []), (.if_icmp .ne 18, [96]), (.iload 6, []), (.aload_n 0, []), (.iload_n 2, []), (.iload_n 1, []), (.iconst 1, []), (.iadd, []), (.invokevirtual 92, [10, 3, 11]), (.invokestatic 58, [1003, 2, 0]), (.istore 6, []), (.nop, [96])]
def b_P_fillRest_96 : List RI := [(.aload_n 0, []), (.getfield 22, [1, 3]), (.iload_n 3, []), (.iload 5, []), (.iadd, []), (.ldc 84, [1000000]), (.aload_n 0, []), (.getfield 15, [1, 1]), (.iload_n 1, []), (.bipush 8, []), (.imul, []), (.iload_n 2, []), (.iadd, []), (.iaload, []), (.iload 6, []), (.iadd, []), (.invokestatic 58, [1003, 2, 0]), (.iastore, []), (.iinc 5 1, []), (.goto (-98), [29])]
def b_P_fillRest_130 : List RI := [(.return_, [])]
def p_P_fillRest (L : Nat) : List RI := cond (Nat.blt L 47) (cond (Nat.blt L 24) (cond (Nat.blt L 23) (cond (Nat.beq L 0) b_P_fillRest_0 []) (cond (Nat.beq L 23) b_P_fillRest_23 [])) (cond (Nat.blt L 29) (cond (Nat.beq L 24) b_P_fillRest_24 []) (cond (Nat.beq L 29) b_P_fillRest_29 []))) (cond (Nat.blt L 96) (cond (Nat.blt L 63) (cond (Nat.beq L 47) b_P_fillRest_47 []) (cond (Nat.beq L 63) b_P_fillRest_63 [])) (cond (Nat.blt L 130) (cond (Nat.beq L 96) b_P_fillRest_96 []) (cond (Nat.beq L 130) b_P_fillRest_130 [])))
def b_P_leastOfLeaving_0 : List RI := [(.ldc 84, [1000000]), (.istore_n 3, []), (.iconst 0, []), (.istore 4, []), (.nop, [6])]
def b_P_leastOfLeaving_6 : List RI := [(.iload 4, []), (.aload_n 0, []), (.getfield 41, [1, 7]), (.if_icmp .ge 49, [61]), (.iload 4, []), (.iload_n 1, []), (.if_icmp .eq 37, [55]), (.aload_n 0, []), (.getfield 18, [1, 2]), (.iload_n 1, []), (.bipush 8, []), (.imul, []), (.iload 4, []), (.iadd, []), (.baload, []), (.ifCond .eq 22, [55]), (.iload_n 3, []), (.aload_n 0, []), (.getfield 22, [1, 3]), (.iload_n 2, []), (.bipush 8, []), (.imul, []), (.iload 4, []), (.iadd, []), (.iconst 3, []), (.imul, []), (.iaload, []), (.invokestatic 58, [1003, 2, 0]), (.istore_n 3, []), (.nop, [55])]
def b_P_leastOfLeaving_55 : List RI := [(.iinc 4 1, []), (.goto (-52), [6])]
def b_P_leastOfLeaving_61 : List RI := [(.iload_n 3, []), (.ireturn, [0])]
def p_P_leastOfLeaving (L : Nat) : List RI := cond (Nat.blt L 55) (cond (Nat.blt L 6) (cond (Nat.beq L 0) b_P_leastOfLeaving_0 []) (cond (Nat.beq L 6) b_P_leastOfLeaving_6 [])) (cond (Nat.blt L 61) (cond (Nat.beq L 55) b_P_leastOfLeaving_55 []) (cond (Nat.beq L 61) b_P_leastOfLeaving_61 []))
def b_P_longer_0 : List RI := [(.iload_n 1, []), (.iconst 1, []), (.iadd, []), (.aload_n 0, []), (.getfield 45, [1, 8]), (.iconst 1, []), (.isub, []), (.invokestatic 58, [1003, 2, 0]), (.ireturn, [0])]
def p_P_longer (L : Nat) : List RI := cond (Nat.beq L 0) b_P_longer_0 []
def b_P_leastFromStart_0 : List RI := [(.aload_n 0, []), (.getfield 37, [1, 6]), (.ifCond .ne 5, [9]), (.iconst 0, []), (.ireturn, [0])]
def b_P_leastFromStart_9 : List RI := [(.iconst 0, []), (.istore_n 1, []), (.nop, [11])]
def b_P_leastFromStart_11 : List RI := [(.iload_n 1, []), (.aload_n 0, []), (.getfield 37, [1, 6]), (.if_icmp .ge 46, [62]), (.aload_n 0, []), (.getfield 25, [1, 4]), (.iconst 0, []), (.aload_n 0, []), (.getfield 28, [1, 5]), (.iconst 0, []), (.bipush 24, []), (.invokestatic 95, [1001, 5, 0]), (.iconst 0, []), (.istore_n 2, []), (.nop, [36])]
def b_P_leastFromStart_36 : List RI := [(.iload_n 2, []), (.aload_n 0, []), (.getfield 41, [1, 7]), (.if_icmp .ge 15, [56]), (.aload_n 0, []), (.iload_n 1, []), (.iload_n 2, []), (.invokevirtual 101, [13, 3, 11]), (.iinc 2 1, []), (.goto (-17), [36])]
def b_P_leastFromStart_56 : List RI := [(.iinc 1 1, []), (.goto (-48), [11])]
def b_P_leastFromStart_62 : List RI := [(.ldc 84, [1000000]), (.istore_n 1, []), (.iconst 0, []), (.istore_n 2, []), (.nop, [67])]
def b_P_leastFromStart_67 : List RI := [(.iload_n 2, []), (.aload_n 0, []), (.getfield 41, [1, 7]), (.if_icmp .ge 40, [112]), (.iconst 0, []), (.istore_n 3, []), (.nop, [77])]
def b_P_leastFromStart_77 : List RI := [(.iload_n 3, []), (.aload_n 0, []), (.getfield 45, [1, 8]), (.if_icmp .ge 24, [106]), (.iload_n 1, []), (.aload_n 0, []), (.getfield 25, [1, 4]), (.iload_n 2, []), (.iconst 3, []), (.imul, []), (.iload_n 3, []), (.iadd, []), (.iaload, []), (.invokestatic 58, [1003, 2, 0]), (.istore_n 1, []), (.iinc 3 1, []), (.goto (-26), [77])]
def b_P_leastFromStart_106 : List RI := [(.iinc 2 1, []), (.goto (-42), [67])]
def b_P_leastFromStart_112 : List RI := [(.iload_n 1, []), (.ldc 84, [1000000]), (.if_icmp .ge 7, [122]), (.iload_n 1, []), (.goto 5, [124])]
def b_P_leastFromStart_122 : List RI := [(.bipush (-99), []), (.nop, [124])]
def b_P_leastFromStart_124 : List RI := [(.ireturn, [0])]
def p_P_leastFromStart (L : Nat) : List RI := cond (Nat.blt L 67) (cond (Nat.blt L 36) (cond (Nat.blt L 9) (cond (Nat.beq L 0) b_P_leastFromStart_0 []) (cond (Nat.blt L 11) (cond (Nat.beq L 9) b_P_leastFromStart_9 []) (cond (Nat.beq L 11) b_P_leastFromStart_11 []))) (cond (Nat.blt L 56) (cond (Nat.beq L 36) b_P_leastFromStart_36 []) (cond (Nat.blt L 62) (cond (Nat.beq L 56) b_P_leastFromStart_56 []) (cond (Nat.beq L 62) b_P_leastFromStart_62 [])))) (cond (Nat.blt L 112) (cond (Nat.blt L 77) (cond (Nat.beq L 67) b_P_leastFromStart_67 []) (cond (Nat.blt L 106) (cond (Nat.beq L 77) b_P_leastFromStart_77 []) (cond (Nat.beq L 106) b_P_leastFromStart_106 []))) (cond (Nat.blt L 122) (cond (Nat.beq L 112) b_P_leastFromStart_112 []) (cond (Nat.blt L 124) (cond (Nat.beq L 122) b_P_leastFromStart_122 []) (cond (Nat.beq L 124) b_P_leastFromStart_124 []))))
def b_P_fillHere_0 : List RI := [(.iload_n 2, []), (.iconst 3, []), (.imul, []), (.istore_n 3, []), (.iconst 0, []), (.istore 4, []), (.nop, [7])]
def b_P_fillHere_7 : List RI := [(.iload 4, []), (.aload_n 0, []), (.getfield 45, [1, 8]), (.if_icmp .ge 20, [33]), (.aload_n 0, []), (.getfield 25, [1, 4]), (.iload_n 3, []), (.iload 4, []), (.iadd, []), (.ldc 84, [1000000]), (.iastore, []), (.iinc 4 1, []), (.goto (-23), [7])]
def b_P_fillHere_33 : List RI := [(.aload_n 0, []), (.getfield 25, [1, 4]), (.iload_n 3, []), (.iload_n 1, []), (.ifCond .ne 7, [46]), (.iconst 0, []), (.goto 8, [51])]
def b_P_fillHere_46 : List RI := [(.aload_n 0, []), (.iload_n 2, []), (.invokevirtual 104, [14, 2, 11]), (.nop, [51])]
def b_P_fillHere_51 : List RI := [(.iastore, []), (.iload_n 1, []), (.ifCond .ne 7, [60]), (.iconst 0, []), (.goto 7, [64])]
def b_P_fillHere_60 : List RI := [(.aload_n 0, []), (.getfield 45, [1, 8]), (.nop, [64])]
def b_P_fillHere_64 : List RI := [(.istore 4, []), (.iconst 0, []), (.istore 5, []), (.nop, [69])]
def b_P_fillHere_69 : List RI := [(.iload 5, []), (.iload 4, []), (.if_icmp .ge 47, [120]), (.aload_n 0, []), (.getfield 25, [1, 4]), (.iload_n 3, []), (.aload_n 0, []), (.iload 5, []), (.invokevirtual 88, [11, 2, 11]), (.iadd, []), (.aload_n 0, []), (.getfield 25, [1, 4]), (.iload_n 3, []), (.aload_n 0, []), (.iload 5, []), (.invokevirtual 88, [11, 2, 11]), (.iadd, []), (.iaload, []), (.aload_n 0, []), (.getfield 28, [1, 5]), (.iload_n 3, []), (.iload 5, []), (.iadd, []), (.iaload, []), (.invokestatic 58, [1003, 2, 0]), (.iastore, []), (.iinc 5 1, []), (.goto (-48), [69])]
def b_P_fillHere_120 : List RI := [(.iconst 0, []), (.istore 5, []), (.nop, [123])]
def b_P_fillHere_123 : List RI := [(.iload 5, []), (.aload_n 0, []), (.getfield 45, [1, 8]), (.if_icmp .ge 44, [173]), (.aload_n 0, []), (.getfield 25, [1, 4]), (.iload_n 3, []), (.iload 5, []), (.iadd, []), (.ldc 84, [1000000]), (.aload_n 0, []), (.getfield 25, [1, 4]), (.iload_n 3, []), (.iload 5, []), (.iadd, []), (.iaload, []), (.aload_n 0, []), (.getfield 15, [1, 1]), (.iload_n 1, []), (.bipush 8, []), (.imul, []), (.iload_n 2, []), (.iadd, []), (.iaload, []), (.iadd, []), (.invokestatic 58, [1003, 2, 0]), (.iastore, []), (.iinc 5 1, []), (.goto (-47), [123])]
def b_P_fillHere_173 : List RI := [(.return_, [])]
def p_P_fillHere (L : Nat) : List RI := cond (Nat.blt L 60) (cond (Nat.blt L 33) (cond (Nat.blt L 7) (cond (Nat.beq L 0) b_P_fillHere_0 []) (cond (Nat.beq L 7) b_P_fillHere_7 [])) (cond (Nat.blt L 46) (cond (Nat.beq L 33) b_P_fillHere_33 []) (cond (Nat.blt L 51) (cond (Nat.beq L 46) b_P_fillHere_46 []) (cond (Nat.beq L 51) b_P_fillHere_51 [])))) (cond (Nat.blt L 120) (cond (Nat.blt L 64) (cond (Nat.beq L 60) b_P_fillHere_60 []) (cond (Nat.blt L 69) (cond (Nat.beq L 64) b_P_fillHere_64 []) (cond (Nat.beq L 69) b_P_fillHere_69 []))) (cond (Nat.blt L 123) (cond (Nat.beq L 120) b_P_fillHere_120 []) (cond (Nat.blt L 173) (cond (Nat.beq L 123) b_P_fillHere_123 []) (cond (Nat.beq L 173) b_P_fillHere_173 []))))
def b_P_leastOfEntering_0 : List RI := [(.ldc 84, [1000000]), (.istore_n 2, []), (.iconst 0, []), (.istore_n 3, []), (.nop, [5])]
def b_P_leastOfEntering_5 : List RI := [(.iload_n 3, []), (.aload_n 0, []), (.getfield 41, [1, 7]), (.if_icmp .ge 48, [58]), (.iload_n 3, []), (.iload_n 1, []), (.if_icmp .eq 37, [52]), (.aload_n 0, []), (.getfield 18, [1, 2]), (.iload_n 3, []), (.bipush 8, []), (.imul, []), (.iload_n 1, []), (.iadd, []), (.baload, []), (.ifCond .eq 23, [52]), (.iload_n 2, []), (.aload_n 0, []), (.getfield 28, [1, 5]), (.iload_n 3, []), (.iconst 3, []), (.imul, []), (.aload_n 0, []), (.getfield 45, [1, 8]), (.iadd, []), (.iconst 1, []), (.isub, []), (.iaload, []), (.invokestatic 58, [1003, 2, 0]), (.istore_n 2, []), (.nop, [52])]
def b_P_leastOfEntering_52 : List RI := [(.iinc 3 1, []), (.goto (-50), [5])]
def b_P_leastOfEntering_58 : List RI := [(.iload_n 2, []), (.ireturn, [0])]
def p_P_leastOfEntering (L : Nat) : List RI := cond (Nat.blt L 52) (cond (Nat.blt L 5) (cond (Nat.beq L 0) b_P_leastOfEntering_0 []) (cond (Nat.beq L 5) b_P_leastOfEntering_5 [])) (cond (Nat.blt L 58) (cond (Nat.beq L 52) b_P_leastOfEntering_52 []) (cond (Nat.beq L 58) b_P_leastOfEntering_58 []))
def b_P_choose_0 : List RI := [(.aload_n 0, []), (.invokevirtual 107, [8, 1, 11]), (.bipush (-99), []), (.if_icmp .ne 5, [11]), (.iconst 0, []), (.ireturn, [1])]
def b_P_choose_11 : List RI := [(.iconst 0, []), (.istore_n 1, []), (.iconst 0, []), (.istore_n 2, []), (.nop, [15])]
def b_P_choose_15 : List RI := [(.iload_n 2, []), (.aload_n 0, []), (.getfield 37, [1, 6]), (.if_icmp .ge 71, [91]), (.aload_n 0, []), (.getfield 9, [1, 0]), (.iload_n 2, []), (.iload_n 2, []), (.ifCond .ne 10, [39]), (.aload_n 0, []), (.invokevirtual 111, [16, 1, 11]), (.goto 17, [53])]
def b_P_choose_39 : List RI := [(.aload_n 0, []), (.iload_n 2, []), (.aload_n 0, []), (.getfield 9, [1, 0]), (.iload_n 2, []), (.iconst 1, []), (.isub, []), (.iaload, []), (.iload_n 1, []), (.invokevirtual 114, [17, 4, 11]), (.nop, [53])]
def b_P_choose_53 : List RI := [(.iastore, []), (.iload_n 2, []), (.ifCond .le 28, [83]), (.aload_n 0, []), (.getfield 9, [1, 0]), (.iload_n 2, []), (.iaload, []), (.aload_n 0, []), (.getfield 9, [1, 0]), (.iload_n 2, []), (.iconst 1, []), (.isub, []), (.iaload, []), (.if_icmp .ne 11, [83]), (.aload_n 0, []), (.iload_n 1, []), (.invokevirtual 88, [11, 2, 11]), (.goto 4, [84])]
def b_P_choose_83 : List RI := [(.iconst 0, []), (.nop, [84])]
def b_P_choose_84 : List RI := [(.istore_n 1, []), (.iinc 2 1, []), (.goto (-73), [15])]
def b_P_choose_91 : List RI := [(.iconst 1, []), (.ireturn, [1])]
def p_P_choose (L : Nat) : List RI := cond (Nat.blt L 53) (cond (Nat.blt L 15) (cond (Nat.blt L 11) (cond (Nat.beq L 0) b_P_choose_0 []) (cond (Nat.beq L 11) b_P_choose_11 [])) (cond (Nat.blt L 39) (cond (Nat.beq L 15) b_P_choose_15 []) (cond (Nat.beq L 39) b_P_choose_39 []))) (cond (Nat.blt L 84) (cond (Nat.blt L 83) (cond (Nat.beq L 53) b_P_choose_53 []) (cond (Nat.beq L 83) b_P_choose_83 [])) (cond (Nat.blt L 91) (cond (Nat.beq L 84) b_P_choose_84 []) (cond (Nat.beq L 91) b_P_choose_91 [])))
def b_P_bestFirst_0 : List RI := [(.iconst 0, []), (.istore_n 1, []), (.iconst 1, []), (.istore_n 2, []), (.nop, [4])]
def b_P_bestFirst_4 : List RI := [(.iload_n 2, []), (.aload_n 0, []), (.getfield 41, [1, 7]), (.if_icmp .ge 30, [39]), (.aload_n 0, []), (.getfield 22, [1, 3]), (.iload_n 2, []), (.iconst 3, []), (.imul, []), (.iaload, []), (.aload_n 0, []), (.getfield 22, [1, 3]), (.iload_n 1, []), (.iconst 3, []), (.imul, []), (.iaload, []), (.if_icmp .ge 5, [33]), (.iload_n 2, []), (.istore_n 1, []), (.nop, [33])]
def b_P_bestFirst_33 : List RI := [(.iinc 2 1, []), (.goto (-32), [4])]
def b_P_bestFirst_39 : List RI := [(.iload_n 1, []), (.ireturn, [0])]
def p_P_bestFirst (L : Nat) : List RI := cond (Nat.blt L 33) (cond (Nat.blt L 4) (cond (Nat.beq L 0) b_P_bestFirst_0 []) (cond (Nat.beq L 4) b_P_bestFirst_4 [])) (cond (Nat.blt L 39) (cond (Nat.beq L 33) b_P_bestFirst_33 []) (cond (Nat.beq L 39) b_P_bestFirst_39 []))
def b_P_bestNext_0 : List RI := [(.iload_n 2, []), (.istore 4, []), (.ldc 84, [1000000]), (.istore 5, []), (.iconst 0, []), (.istore 6, []), (.nop, [10])]
def b_P_bestNext_10 : List RI := [(.iload 6, []), (.aload_n 0, []), (.getfield 41, [1, 7]), (.if_icmp .ge 100, [116]), (.ldc 84, [1000000]), (.istore 7, []), (.iload 6, []), (.iload_n 2, []), (.if_icmp .ne 28, [54]), (.aload_n 0, []), (.getfield 22, [1, 3]), (.iload_n 1, []), (.bipush 8, []), (.imul, []), (.iload 6, []), (.iadd, []), (.iconst 3, []), (.imul, []), (.aload_n 0, []), (.iload_n 3, []), (.invokevirtual 88, [11, 2, 11]), (.iadd, []), (.iaload, []), (.istore 7, []), (.goto 44, [95])]
def b_P_bestNext_54 : List RI := [(.iload_n 3, []), (.aload_n 0, []), (.getfield 45, [1, 8]), (.iconst 1, []), (.isub, []), (.if_icmp .ne 34, [95]), (.aload_n 0, []), (.getfield 18, [1, 2]), (.iload_n 2, []), (.bipush 8, []), (.imul, []), (.iload 6, []), (.iadd, []), (.baload, []), (.ifCond .eq 19, [95]), (.aload_n 0, []), (.getfield 22, [1, 3]), (.iload_n 1, []), (.bipush 8, []), (.imul, []), (.iload 6, []), (.iadd, []), (.iconst 3, []), (.imul, []), (.iaload, []), (.istore 7, []), (.nop, [95])]
def b_P_bestNext_95 : List RI := [(.iload 7, []), (.iload 5, []), (.if_icmp .ge 11, [110]), (.iload 7, []), (.istore 5, []), (.iload 6, []), (.istore 4, []), (.nop, [110])]
def b_P_bestNext_110 : List RI := [(.iinc 6 1, []), (.goto (-103), [10])]
def b_P_bestNext_116 : List RI := [(.iload 4, []), (.ireturn, [0])]
def p_P_bestNext (L : Nat) : List RI := cond (Nat.blt L 95) (cond (Nat.blt L 10) (cond (Nat.beq L 0) b_P_bestNext_0 []) (cond (Nat.blt L 54) (cond (Nat.beq L 10) b_P_bestNext_10 []) (cond (Nat.beq L 54) b_P_bestNext_54 []))) (cond (Nat.blt L 110) (cond (Nat.beq L 95) b_P_bestNext_95 []) (cond (Nat.blt L 116) (cond (Nat.beq L 110) b_P_bestNext_110 []) (cond (Nat.beq L 116) b_P_bestNext_116 [])))
def b_R_init_0 : List RI := [(.aload_n 0, []), (.invokespecial 3, [1000, 1, 0]), (.aload_n 0, []), (.iconst (-1), []), (.putfield 9, [2, 0]), (.aload_n 0, []), (.iconst 0, []), (.newarray .int, [0]), (.putfield 15, [2, 1]), (.return_, [])]
def p_R_init (L : Nat) : List RI := cond (Nat.beq L 0) b_R_init_0 []
def b_R_readItems_0 : List RI := [(.aload_n 0, []), (.aload_n 1, []), (.putfield 15, [2, 1]), (.aload_n 0, []), (.iload_n 2, []), (.aload_n 1, []), (.arraylength, []), (.invokestatic 19, [1003, 2, 0]), (.putfield 25, [2, 2]), (.aload_n 0, []), (.iconst 0, []), (.putfield 28, [2, 3]), (.aload_n 0, []), (.iconst (-1), []), (.putfield 9, [2, 0]), (.iconst 0, []), (.istore 4, []), (.aload_n 0, []), (.invokevirtual 31, [22, 1, 12]), (.nop, [32])]
def b_R_readItems_32 : List RI := [(.aload_n 0, []), (.getfield 9, [2, 0]), (.iconst (-1), []), (.if_icmp .ne 36, [73]), (.aload_n 0, []), (.getfield 28, [2, 3]), (.aload_n 0, []), (.getfield 25, [2, 2]), (.if_icmp .ge 25, [73]), (.iload 4, []), (.bipush 30, []), (.if_icmp .gt 18, [73]), (.aload_n 0, []), (.aload_n 3, []), (.invokevirtual 34, [20, 2, 12]), (.iinc 4 1, []), (.aload_n 0, []), (.invokevirtual 31, [22, 1, 12]), (.goto (-38), [32])]
def b_R_readItems_73 : List RI := [(.iload 4, []), (.ireturn, [0])]
def p_R_readItems (L : Nat) : List RI := cond (Nat.blt L 32) (cond (Nat.beq L 0) b_R_readItems_0 []) (cond (Nat.blt L 73) (cond (Nat.beq L 32) b_R_readItems_32 []) (cond (Nat.beq L 73) b_R_readItems_73 []))
def b_R_readItem_0 : List RI := [(.aload_n 0, []), (.getfield 15, [2, 1]), (.aload_n 0, []), (.getfield 28, [2, 3]), (.iaload, []), (.invokestatic 38, [24, 1, 0]), (.istore_n 2, []), (.iload_n 2, []), (.iconst (-1), []), (.if_icmp .eq 12, [27]), (.aload_n 1, []), (.getfield 42, [3, 5]), (.bipush 30, []), (.if_icmp .lt 12, [36]), (.nop, [27])]
def b_R_readItem_27 : List RI := [(.aload_n 0, []), (.aload_n 0, []), (.getfield 28, [2, 3]), (.putfield 9, [2, 0]), (.return_, [])]
def b_R_readItem_36 : List RI := [(.aload_n 0, []), (.dup, []), (.getfield 28, [2, 3]), (.iconst 1, []), (.iadd, []), (.putfield 28, [2, 3]), (.aload_n 1, []), (.getfield 47, [3, 8]), (.istore_n 3, []), (.aload_n 0, []), (.iconst 1, []), (.bipush 20, []), (.bipush 99, []), (.iload_n 3, []), (.isub, []), (.invokestatic 19, [1003, 2, 0]), (.invokevirtual 50, [21, 3, 12]), (.istore 4, []), (.aload_n 0, []), (.getfield 9, [2, 0]), (.iconst (-1), []), (.if_icmp .eq 4, [76]), (.return_, [])]
def b_R_readItem_76 : List RI := [(.aload_n 1, []), (.aload_n 1, []), (.getfield 42, [3, 5]), (.iload_n 2, []), (.iload 4, []), (.invokevirtual 53, [41, 4, 13]), (.aload_n 0, []), (.invokevirtual 31, [22, 1, 12]), (.aload_n 0, []), (.getfield 28, [2, 3]), (.aload_n 0, []), (.getfield 25, [2, 2]), (.if_icmp .ge 56, [155]), (.aload_n 0, []), (.getfield 15, [2, 1]), (.aload_n 0, []), (.getfield 28, [2, 3]), (.iaload, []), (.bipush 33, []), (.if_icmp .ne 42, [155]), (.aload_n 0, []), (.dup, []), (.getfield 28, [2, 3]), (.iconst 1, []), (.iadd, []), (.putfield 28, [2, 3]), (.aload_n 0, []), (.iconst 0, []), (.aload_n 1, []), (.getfield 57, [3, 0]), (.iconst 1, []), (.isub, []), (.invokevirtual 50, [21, 3, 12]), (.istore 5, []), (.aload_n 0, []), (.getfield 9, [2, 0]), (.iconst (-1), []), (.if_icmp .ne 11, [155]), (.aload_n 1, []), (.getfield 60, [3, 9]), (.iload_n 3, []), (.iload 5, []), (.iastore, []), (.nop, [155])]
def b_R_readItem_155 : List RI := [(.return_, [])]
def p_R_readItem (L : Nat) : List RI := cond (Nat.blt L 36) (cond (Nat.blt L 27) (cond (Nat.beq L 0) b_R_readItem_0 []) (cond (Nat.beq L 27) b_R_readItem_27 [])) (cond (Nat.blt L 76) (cond (Nat.beq L 36) b_R_readItem_36 []) (cond (Nat.blt L 155) (cond (Nat.beq L 76) b_R_readItem_76 []) (cond (Nat.beq L 155) b_R_readItem_155 [])))
def b_R_readNumber_0 : List RI := [(.aload_n 0, []), (.invokevirtual 31, [22, 1, 12]), (.aload_n 0, []), (.getfield 28, [2, 3]), (.istore_n 3, []), (.iconst 0, []), (.istore 4, []), (.nop, [12])]
def b_R_readNumber_12 : List RI := [(.aload_n 0, []), (.getfield 28, [2, 3]), (.aload_n 0, []), (.getfield 25, [2, 2]), (.if_icmp .ge 57, [77]), (.aload_n 0, []), (.getfield 15, [2, 1]), (.aload_n 0, []), (.getfield 28, [2, 3]), (.iaload, []), (.invokestatic 63, [23, 1, 0]), (.ifCond .eq 42, [77]), (.sipush 1000, []), (.iload 4, []), (.bipush 10, []), (.imul, []), (.aload_n 0, []), (.getfield 15, [2, 1]), (.aload_n 0, []), (.getfield 28, [2, 3]), (.iaload, []), (.iadd, []), (.bipush 48, []), (.isub, []), (.invokestatic 19, [1003, 2, 0]), (.istore 4, []), (.aload_n 0, []), (.dup, []), (.getfield 28, [2, 3]), (.iconst 1, []), (.iadd, []), (.putfield 28, [2, 3]), (.goto (-62), [12])]
def b_R_readNumber_77 : List RI := [(.aload_n 0, []), (.getfield 28, [2, 3]), (.iload_n 3, []), (.iconst 1, []), (.iadd, []), (.if_icmp .le 18, [102]), (.aload_n 0, []), (.getfield 15, [2, 1]), (.iload_n 3, []), (.iaload, []), (.bipush 48, []), (.if_icmp .ne 7, [102]), (.iconst 1, []), (.goto 4, [103])]
def b_R_readNumber_102 : List RI := [(.iconst 0, []), (.nop, [103])]
def b_R_readNumber_103 : List RI := [(.istore 5, []), (.aload_n 0, []), (.getfield 28, [2, 3]), (.iload_n 3, []), (.if_icmp .eq 20, [130]), (.iload 5, []), (.ifCond .ne 15, [130]), (.iload 4, []), (.iload_n 1, []), (.if_icmp .lt 9, [130]), (.iload 4, []), (.iload_n 2, []), (.if_icmp .le 8, [135]), (.nop, [130])]
def b_R_readNumber_130 : List RI := [(.aload_n 0, []), (.iload_n 3, []), (.putfield 9, [2, 0]), (.nop, [135])]
def b_R_readNumber_135 : List RI := [(.iload 4, []), (.ireturn, [0])]
def p_R_readNumber (L : Nat) : List RI := cond (Nat.blt L 102) (cond (Nat.blt L 12) (cond (Nat.beq L 0) b_R_readNumber_0 []) (cond (Nat.blt L 77) (cond (Nat.beq L 12) b_R_readNumber_12 []) (cond (Nat.beq L 77) b_R_readNumber_77 []))) (cond (Nat.blt L 130) (cond (Nat.blt L 103) (cond (Nat.beq L 102) b_R_readNumber_102 []) (cond (Nat.beq L 103) b_R_readNumber_103 [])) (cond (Nat.blt L 135) (cond (Nat.beq L 130) b_R_readNumber_130 []) (cond (Nat.beq L 135) b_R_readNumber_135 [])))
def b_R_skipSpaces_0 : List RI := [(.aload_n 0, []), (.getfield 28, [2, 3]), (.aload_n 0, []), (.getfield 25, [2, 2]), (.if_icmp .ge 30, [38]), (.aload_n 0, []), (.getfield 15, [2, 1]), (.aload_n 0, []), (.getfield 28, [2, 3]), (.iaload, []), (.bipush 32, []), (.if_icmp .ne 16, [38]), (.aload_n 0, []), (.dup, []), (.getfield 28, [2, 3]), (.iconst 1, []), (.iadd, []), (.putfield 28, [2, 3]), (.goto (-35), [0])]
def b_R_skipSpaces_38 : List RI := [(.return_, [])]
def p_R_skipSpaces (L : Nat) : List RI := cond (Nat.blt L 38) (cond (Nat.beq L 0) b_R_skipSpaces_0 []) (cond (Nat.beq L 38) b_R_skipSpaces_38 [])
def b_R_isDigit_0 : List RI := [(.iload_n 0, []), (.bipush 48, []), (.if_icmp .lt 13, [16]), (.iload_n 0, []), (.bipush 57, []), (.if_icmp .gt 7, [16]), (.iconst 1, []), (.goto 4, [17])]
def b_R_isDigit_16 : List RI := [(.iconst 0, []), (.nop, [17])]
def b_R_isDigit_17 : List RI := [(.ireturn, [1])]
def p_R_isDigit (L : Nat) : List RI := cond (Nat.blt L 16) (cond (Nat.beq L 0) b_R_isDigit_0 []) (cond (Nat.blt L 17) (cond (Nat.beq L 16) b_R_isDigit_16 []) (cond (Nat.beq L 17) b_R_isDigit_17 []))
def b_R_kindOf_0 : List RI := [(.iload_n 0, []), (.bipush 46, []), (.if_icmp .ne 6, [9]), (.bipush 9, []), (.ireturn, [0])]
def b_R_kindOf_9 : List RI := [(.iload_n 0, []), (.bipush 97, []), (.if_icmp .lt 16, [28]), (.iload_n 0, []), (.bipush 105, []), (.if_icmp .gt 10, [28]), (.iload_n 0, []), (.bipush 97, []), (.isub, []), (.goto 4, [29])]
def b_R_kindOf_28 : List RI := [(.iconst (-1), []), (.nop, [29])]
def b_R_kindOf_29 : List RI := [(.ireturn, [0])]
def p_R_kindOf (L : Nat) : List RI := cond (Nat.blt L 28) (cond (Nat.blt L 9) (cond (Nat.beq L 0) b_R_kindOf_0 []) (cond (Nat.beq L 9) b_R_kindOf_9 [])) (cond (Nat.blt L 29) (cond (Nat.beq L 28) b_R_kindOf_28 []) (cond (Nat.beq L 29) b_R_kindOf_29 []))
def b_S_init_0 : List RI := [(.aload_n 0, []), (.invokespecial 3, [1000, 1, 0]), (.aload_n 0, []), (.bipush 8, []), (.newarray .int, [0]), (.putfield 9, [3, 1]), (.aload_n 0, []), (.bipush 8, []), (.newarray .int, [0]), (.putfield 15, [3, 2]), (.aload_n 0, []), (.bipush 36, []), (.newarray .int, [0]), (.putfield 18, [3, 3]), (.aload_n 0, []), (.iconst 5, []), (.newarray .int, [0]), (.putfield 21, [3, 4]), (.aload_n 0, []), (.bipush 30, []), (.newarray .int, [0]), (.putfield 24, [3, 6]), (.aload_n 0, []), (.bipush 30, []), (.newarray .int, [0]), (.putfield 27, [3, 7]), (.aload_n 0, []), (.bipush 99, []), (.newarray .int, [0]), (.putfield 30, [3, 9]), (.aload_n 0, []), (.bipush 99, []), (.newarray .int, [0]), (.putfield 33, [3, 10]), (.aload_n 0, []), (.iconst 1, []), (.putfield 36, [3, 0]), (.aload_n 0, []), (.getfield 15, [3, 2]), (.iconst 0, []), (.iconst 4, []), (.iastore, []), (.iconst 0, []), (.istore_n 1, []), (.nop, [81])]
def b_S_init_81 : List RI := [(.iload_n 1, []), (.bipush 36, []), (.if_icmp .ge 22, [106]), (.aload_n 0, []), (.getfield 18, [3, 3]), (.iload_n 1, []), (.getstatic 40, [0]), (.iload_n 1, []), (.iconst 4, []), (.irem, []), (.iaload, []), (.iastore, []), (.iinc 1 1, []), (.goto (-22), [81])]
def b_S_init_106 : List RI := [(.iconst 0, []), (.istore_n 1, []), (.nop, [108])]
def b_S_init_108 : List RI := [(.iload_n 1, []), (.iconst 5, []), (.if_icmp .ge 20, [130]), (.aload_n 0, []), (.getfield 21, [3, 4]), (.iload_n 1, []), (.getstatic 43, [1]), (.iload_n 1, []), (.iaload, []), (.iastore, []), (.iinc 1 1, []), (.goto (-19), [108])]
def b_S_init_130 : List RI := [(.return_, [])]
def p_S_init (L : Nat) : List RI := cond (Nat.blt L 106) (cond (Nat.blt L 81) (cond (Nat.beq L 0) b_S_init_0 []) (cond (Nat.beq L 81) b_S_init_81 [])) (cond (Nat.blt L 108) (cond (Nat.beq L 106) b_S_init_106 []) (cond (Nat.blt L 130) (cond (Nat.beq L 108) b_S_init_108 []) (cond (Nat.beq L 130) b_S_init_130 [])))
def b_S_copyFrom_0 : List RI := [(.aload_n 0, []), (.aload_n 1, []), (.getfield 36, [3, 0]), (.putfield 36, [3, 0]), (.aload_n 0, []), (.aload_n 1, []), (.getfield 46, [3, 5]), (.putfield 46, [3, 5]), (.aload_n 0, []), (.aload_n 1, []), (.getfield 49, [3, 8]), (.putfield 49, [3, 8]), (.aload_n 1, []), (.getfield 9, [3, 1]), (.iconst 0, []), (.aload_n 0, []), (.getfield 9, [3, 1]), (.iconst 0, []), (.bipush 8, []), (.invokestatic 52, [1001, 5, 0]), (.aload_n 1, []), (.getfield 15, [3, 2]), (.iconst 0, []), (.aload_n 0, []), (.getfield 15, [3, 2]), (.iconst 0, []), (.bipush 8, []), (.invokestatic 52, [1001, 5, 0]), (.aload_n 1, []), (.getfield 18, [3, 3]), (.iconst 0, []), (.aload_n 0, []), (.getfield 18, [3, 3]), (.iconst 0, []), (.bipush 36, []), (.invokestatic 52, [1001, 5, 0]), (.aload_n 1, []), (.getfield 21, [3, 4]), (.iconst 0, []), (.aload_n 0, []), (.getfield 21, [3, 4]), (.iconst 0, []), (.iconst 5, []), (.invokestatic 52, [1001, 5, 0]), (.aload_n 1, []), (.getfield 24, [3, 6]), (.iconst 0, []), (.aload_n 0, []), (.getfield 24, [3, 6]), (.iconst 0, []), (.bipush 30, []), (.invokestatic 52, [1001, 5, 0]), (.aload_n 1, []), (.getfield 27, [3, 7]), (.iconst 0, []), (.aload_n 0, []), (.getfield 27, [3, 7]), (.iconst 0, []), (.bipush 30, []), (.invokestatic 52, [1001, 5, 0]), (.aload_n 1, []), (.getfield 30, [3, 9]), (.iconst 0, []), (.aload_n 0, []), (.getfield 30, [3, 9]), (.iconst 0, []), (.bipush 99, []), (.invokestatic 52, [1001, 5, 0]), (.aload_n 1, []), (.getfield 33, [3, 10]), (.iconst 0, []), (.aload_n 0, []), (.getfield 33, [3, 10]), (.iconst 0, []), (.bipush 99, []), (.invokestatic 52, [1001, 5, 0]), (.return_, [])]
def p_S_copyFrom (L : Nat) : List RI := cond (Nat.beq L 0) b_S_copyFrom_0 []
def b_S_hasMouth_0 : List RI := [(.iload_n 1, []), (.ifCond .lt 15, [16]), (.iload_n 1, []), (.aload_n 0, []), (.getfield 36, [3, 0]), (.if_icmp .ge 7, [16]), (.iconst 1, []), (.goto 4, [17])]
def b_S_hasMouth_16 : List RI := [(.iconst 0, []), (.nop, [17])]
def b_S_hasMouth_17 : List RI := [(.ireturn, [1])]
def p_S_hasMouth (L : Nat) : List RI := cond (Nat.blt L 16) (cond (Nat.beq L 0) b_S_hasMouth_0 []) (cond (Nat.blt L 17) (cond (Nat.beq L 16) b_S_hasMouth_16 []) (cond (Nat.beq L 17) b_S_hasMouth_17 []))
def b_S_hasSegment_0 : List RI := [(.iload_n 1, []), (.ifCond .lt 15, [16]), (.iload_n 1, []), (.aload_n 0, []), (.getfield 46, [3, 5]), (.if_icmp .ge 7, [16]), (.iconst 1, []), (.goto 4, [17])]
def b_S_hasSegment_16 : List RI := [(.iconst 0, []), (.nop, [17])]
def b_S_hasSegment_17 : List RI := [(.ireturn, [1])]
def p_S_hasSegment (L : Nat) : List RI := cond (Nat.blt L 16) (cond (Nat.beq L 0) b_S_hasSegment_0 []) (cond (Nat.blt L 17) (cond (Nat.beq L 16) b_S_hasSegment_16 []) (cond (Nat.beq L 17) b_S_hasSegment_17 []))
def b_S_hasFrame_0 : List RI := [(.iload_n 1, []), (.ifCond .lt 15, [16]), (.iload_n 1, []), (.aload_n 0, []), (.getfield 49, [3, 8]), (.if_icmp .ge 7, [16]), (.iconst 1, []), (.goto 4, [17])]
def b_S_hasFrame_16 : List RI := [(.iconst 0, []), (.nop, [17])]
def b_S_hasFrame_17 : List RI := [(.ireturn, [1])]
def p_S_hasFrame (L : Nat) : List RI := cond (Nat.blt L 16) (cond (Nat.beq L 0) b_S_hasFrame_0 []) (cond (Nat.blt L 17) (cond (Nat.beq L 16) b_S_hasFrame_16 []) (cond (Nat.beq L 17) b_S_hasFrame_17 []))
def b_S_hasRoomFor_0 : List RI := [(.aload_n 0, []), (.getfield 46, [3, 5]), (.bipush 30, []), (.if_icmp .ge 18, [24]), (.aload_n 0, []), (.getfield 49, [3, 8]), (.iload_n 1, []), (.iadd, []), (.bipush 99, []), (.if_icmp .gt 7, [24]), (.iconst 1, []), (.goto 4, [25])]
def b_S_hasRoomFor_24 : List RI := [(.iconst 0, []), (.nop, [25])]
def b_S_hasRoomFor_25 : List RI := [(.ireturn, [1])]
def p_S_hasRoomFor (L : Nat) : List RI := cond (Nat.blt L 24) (cond (Nat.beq L 0) b_S_hasRoomFor_0 []) (cond (Nat.blt L 25) (cond (Nat.beq L 24) b_S_hasRoomFor_24 []) (cond (Nat.beq L 25) b_S_hasRoomFor_25 []))
def b_S_distanceOf_0 : List RI := [(.aload_n 0, []), (.getfield 9, [3, 1]), (.iload_n 1, []), (.iaload, []), (.iload_n 2, []), (.isub, []), (.invokestatic 58, [1002, 1, 0]), (.aload_n 0, []), (.getfield 15, [3, 2]), (.iload_n 1, []), (.iaload, []), (.iload_n 3, []), (.isub, []), (.invokestatic 58, [1002, 1, 0]), (.invokestatic 64, [1004, 2, 0]), (.ireturn, [0])]
def p_S_distanceOf (L : Nat) : List RI := cond (Nat.beq L 0) b_S_distanceOf_0 []
def b_S_jumpOf_0 : List RI := [(.aload_n 0, []), (.iload_n 1, []), (.aload_n 0, []), (.getfield 9, [3, 1]), (.iload_n 2, []), (.iaload, []), (.aload_n 0, []), (.getfield 15, [3, 2]), (.iload_n 2, []), (.iaload, []), (.invokevirtual 68, [31, 4, 13]), (.ireturn, [0])]
def p_S_jumpOf (L : Nat) : List RI := cond (Nat.beq L 0) b_S_jumpOf_0 []
def b_S_nearestOfAll_0 : List RI := [(.iconst 0, []), (.istore_n 3, []), (.iconst 1, []), (.istore 4, []), (.nop, [5])]
def b_S_nearestOfAll_5 : List RI := [(.iload 4, []), (.aload_n 0, []), (.getfield 36, [3, 0]), (.if_icmp .ge 30, [41]), (.aload_n 0, []), (.iload 4, []), (.iload_n 1, []), (.iload_n 2, []), (.invokevirtual 68, [31, 4, 13]), (.aload_n 0, []), (.iload_n 3, []), (.iload_n 1, []), (.iload_n 2, []), (.invokevirtual 68, [31, 4, 13]), (.if_icmp .ge 6, [35]), (.iload 4, []), (.istore_n 3, []), (.nop, [35])]
def b_S_nearestOfAll_35 : List RI := [(.iinc 4 1, []), (.goto (-33), [5])]
def b_S_nearestOfAll_41 : List RI := [(.iload_n 3, []), (.ireturn, [0])]
def p_S_nearestOfAll (L : Nat) : List RI := cond (Nat.blt L 35) (cond (Nat.blt L 5) (cond (Nat.beq L 0) b_S_nearestOfAll_0 []) (cond (Nat.beq L 5) b_S_nearestOfAll_5 [])) (cond (Nat.blt L 41) (cond (Nat.beq L 35) b_S_nearestOfAll_35 []) (cond (Nat.beq L 41) b_S_nearestOfAll_41 []))
def b_S_nearestWithin_0 : List RI := [(.iconst (-1), []), (.istore 4, []), (.iconst 0, []), (.istore 5, []), (.nop, [6])]
def b_S_nearestWithin_6 : List RI := [(.iload 5, []), (.aload_n 0, []), (.getfield 36, [3, 0]), (.if_icmp .ge 54, [66]), (.aload_n 0, []), (.iload_n 1, []), (.iload 5, []), (.invokevirtual 72, [32, 3, 13]), (.aload_n 0, []), (.getfield 21, [3, 4]), (.iconst 0, []), (.iaload, []), (.if_icmp .gt 32, [60]), (.iload 4, []), (.iconst (-1), []), (.if_icmp .eq 22, [56]), (.aload_n 0, []), (.iload 5, []), (.iload_n 2, []), (.iload_n 3, []), (.invokevirtual 68, [31, 4, 13]), (.aload_n 0, []), (.iload 4, []), (.iload_n 2, []), (.iload_n 3, []), (.invokevirtual 68, [31, 4, 13]), (.if_icmp .ge 7, [60]), (.nop, [56])]
def b_S_nearestWithin_56 : List RI := [(.iload 5, []), (.istore 4, []), (.nop, [60])]
def b_S_nearestWithin_60 : List RI := [(.iinc 5 1, []), (.goto (-57), [6])]
def b_S_nearestWithin_66 : List RI := [(.iload 4, []), (.iconst (-1), []), (.if_icmp .ne 7, [76]), (.iload_n 1, []), (.goto 5, [78])]
def b_S_nearestWithin_76 : List RI := [(.iload 4, []), (.nop, [78])]
def b_S_nearestWithin_78 : List RI := [(.ireturn, [0])]
def p_S_nearestWithin (L : Nat) : List RI := cond (Nat.blt L 60) (cond (Nat.blt L 6) (cond (Nat.beq L 0) b_S_nearestWithin_0 []) (cond (Nat.blt L 56) (cond (Nat.beq L 6) b_S_nearestWithin_6 []) (cond (Nat.beq L 56) b_S_nearestWithin_56 []))) (cond (Nat.blt L 76) (cond (Nat.blt L 66) (cond (Nat.beq L 60) b_S_nearestWithin_60 []) (cond (Nat.beq L 66) b_S_nearestWithin_66 [])) (cond (Nat.blt L 78) (cond (Nat.beq L 76) b_S_nearestWithin_76 []) (cond (Nat.beq L 78) b_S_nearestWithin_78 [])))
def b_S_wrongOf_0 : List RI := [(.iload_n 1, []), (.bipush 9, []), (.if_icmp .ne 24, [27]), (.bipush 9, []), (.iconst 0, []), (.aload_n 0, []), (.getfield 21, [3, 4]), (.iconst 2, []), (.iaload, []), (.aload_n 0, []), (.getfield 9, [3, 1]), (.iload_n 2, []), (.iaload, []), (.isub, []), (.invokestatic 64, [1004, 2, 0]), (.imul, []), (.ireturn, [0])]
def b_S_wrongOf_27 : List RI := [(.iload_n 1, []), (.iconst 4, []), (.imul, []), (.istore_n 3, []), (.aload_n 0, []), (.getfield 18, [3, 3]), (.iload_n 3, []), (.iconst 2, []), (.iadd, []), (.iaload, []), (.aload_n 0, []), (.getfield 9, [3, 1]), (.iload_n 2, []), (.iaload, []), (.aload_n 0, []), (.getfield 18, [3, 3]), (.iload_n 3, []), (.iconst 0, []), (.iadd, []), (.iaload, []), (.isub, []), (.invokestatic 58, [1002, 1, 0]), (.aload_n 0, []), (.getfield 15, [3, 2]), (.iload_n 2, []), (.iaload, []), (.aload_n 0, []), (.getfield 18, [3, 3]), (.iload_n 3, []), (.iconst 1, []), (.iadd, []), (.iaload, []), (.isub, []), (.invokestatic 58, [1002, 1, 0]), (.iadd, []), (.imul, []), (.ireturn, [0])]
def p_S_wrongOf (L : Nat) : List RI := cond (Nat.blt L 27) (cond (Nat.beq L 0) b_S_wrongOf_0 []) (cond (Nat.beq L 27) b_S_wrongOf_27 [])
def b_S_leastWrongFor_0 : List RI := [(.iconst 0, []), (.istore_n 2, []), (.iconst 1, []), (.istore_n 3, []), (.nop, [4])]
def b_S_leastWrongFor_4 : List RI := [(.iload_n 3, []), (.aload_n 0, []), (.getfield 36, [3, 0]), (.if_icmp .ge 26, [35]), (.aload_n 0, []), (.iload_n 1, []), (.iload_n 3, []), (.invokevirtual 75, [35, 3, 13]), (.aload_n 0, []), (.iload_n 1, []), (.iload_n 2, []), (.invokevirtual 75, [35, 3, 13]), (.if_icmp .ge 5, [29]), (.iload_n 3, []), (.istore_n 2, []), (.nop, [29])]
def b_S_leastWrongFor_29 : List RI := [(.iinc 3 1, []), (.goto (-28), [4])]
def b_S_leastWrongFor_35 : List RI := [(.iload_n 2, []), (.ireturn, [0])]
def p_S_leastWrongFor (L : Nat) : List RI := cond (Nat.blt L 29) (cond (Nat.blt L 4) (cond (Nat.beq L 0) b_S_leastWrongFor_0 []) (cond (Nat.beq L 4) b_S_leastWrongFor_4 [])) (cond (Nat.blt L 35) (cond (Nat.beq L 29) b_S_leastWrongFor_29 []) (cond (Nat.beq L 35) b_S_leastWrongFor_35 []))
def b_S_countSet_0 : List RI := [(.iconst 0, []), (.istore_n 2, []), (.iconst 0, []), (.istore_n 3, []), (.nop, [4])]
def b_S_countSet_4 : List RI := [(.iload_n 3, []), (.aload_n 0, []), (.getfield 49, [3, 8]), (.if_icmp .ge 20, [29]), (.aload_n 1, []), (.iload_n 3, []), (.iaload, []), (.bipush (-99), []), (.if_icmp .eq 6, [23]), (.iinc 2 1, []), (.nop, [23])]
def b_S_countSet_23 : List RI := [(.iinc 3 1, []), (.goto (-22), [4])]
def b_S_countSet_29 : List RI := [(.iload_n 2, []), (.ireturn, [0])]
def p_S_countSet (L : Nat) : List RI := cond (Nat.blt L 23) (cond (Nat.blt L 4) (cond (Nat.beq L 0) b_S_countSet_0 []) (cond (Nat.beq L 4) b_S_countSet_4 [])) (cond (Nat.blt L 29) (cond (Nat.beq L 23) b_S_countSet_23 []) (cond (Nat.beq L 29) b_S_countSet_29 []))
def b_S_firstFrameOf_0 : List RI := [(.iconst 0, []), (.istore_n 2, []), (.iconst 0, []), (.istore_n 3, []), (.nop, [4])]
def b_S_firstFrameOf_4 : List RI := [(.iload_n 3, []), (.iload_n 1, []), (.if_icmp .ge 18, [24]), (.iload_n 2, []), (.aload_n 0, []), (.getfield 27, [3, 7]), (.iload_n 3, []), (.iaload, []), (.iadd, []), (.istore_n 2, []), (.iinc 3 1, []), (.goto (-17), [4])]
def b_S_firstFrameOf_24 : List RI := [(.iload_n 2, []), (.ireturn, [0])]
def p_S_firstFrameOf (L : Nat) : List RI := cond (Nat.blt L 4) (cond (Nat.beq L 0) b_S_firstFrameOf_0 []) (cond (Nat.blt L 24) (cond (Nat.beq L 4) b_S_firstFrameOf_4 []) (cond (Nat.beq L 24) b_S_firstFrameOf_24 []))
def b_S_segmentAt_0 : List RI := [(.iconst 0, []), (.istore_n 2, []), (.iconst 0, []), (.istore_n 3, []), (.nop, [4])]
def b_S_segmentAt_4 : List RI := [(.iload_n 3, []), (.aload_n 0, []), (.getfield 46, [3, 5]), (.if_icmp .ge 25, [34]), (.iload_n 2, []), (.aload_n 0, []), (.getfield 27, [3, 7]), (.iload_n 3, []), (.iaload, []), (.iadd, []), (.istore_n 2, []), (.iload_n 1, []), (.iload_n 2, []), (.if_icmp .ge 5, [28]), (.iload_n 3, []), (.ireturn, [0])]
def b_S_segmentAt_28 : List RI := [(.iinc 3 1, []), (.goto (-27), [4])]
def b_S_segmentAt_34 : List RI := [(.iconst 0, []), (.ireturn, [0])]
def p_S_segmentAt (L : Nat) : List RI := cond (Nat.blt L 28) (cond (Nat.blt L 4) (cond (Nat.beq L 0) b_S_segmentAt_0 []) (cond (Nat.beq L 4) b_S_segmentAt_4 [])) (cond (Nat.blt L 34) (cond (Nat.beq L 28) b_S_segmentAt_28 []) (cond (Nat.beq L 34) b_S_segmentAt_34 []))
def b_S_kindAt_0 : List RI := [(.aload_n 0, []), (.getfield 24, [3, 6]), (.aload_n 0, []), (.iload_n 1, []), (.invokevirtual 78, [39, 2, 13]), (.iaload, []), (.ireturn, [0])]
def p_S_kindAt (L : Nat) : List RI := cond (Nat.beq L 0) b_S_kindAt_0 []
def b_S_openSegment_0 : List RI := [(.aload_n 0, []), (.aload_n 0, []), (.iload_n 1, []), (.invokevirtual 81, [38, 2, 13]), (.iload_n 3, []), (.invokevirtual 84, [43, 3, 13]), (.aload_n 0, []), (.getfield 46, [3, 5]), (.istore 4, []), (.nop, [16])]
def b_S_openSegment_16 : List RI := [(.iload 4, []), (.iload_n 1, []), (.if_icmp .le 41, [60]), (.aload_n 0, []), (.getfield 24, [3, 6]), (.iload 4, []), (.aload_n 0, []), (.getfield 24, [3, 6]), (.iload 4, []), (.iconst 1, []), (.isub, []), (.iaload, []), (.iastore, []), (.aload_n 0, []), (.getfield 27, [3, 7]), (.iload 4, []), (.aload_n 0, []), (.getfield 27, [3, 7]), (.iload 4, []), (.iconst 1, []), (.isub, []), (.iaload, []), (.iastore, []), (.iinc 4 (-1), []), (.goto (-41), [16])]
def b_S_openSegment_60 : List RI := [(.aload_n 0, []), (.getfield 24, [3, 6]), (.iload_n 1, []), (.iload_n 2, []), (.iastore, []), (.aload_n 0, []), (.getfield 27, [3, 7]), (.iload_n 1, []), (.iload_n 3, []), (.iastore, []), (.aload_n 0, []), (.dup, []), (.getfield 46, [3, 5]), (.iconst 1, []), (.iadd, []), (.putfield 46, [3, 5]), (.return_, [])]
def p_S_openSegment (L : Nat) : List RI := cond (Nat.blt L 16) (cond (Nat.beq L 0) b_S_openSegment_0 []) (cond (Nat.blt L 60) (cond (Nat.beq L 16) b_S_openSegment_16 []) (cond (Nat.beq L 60) b_S_openSegment_60 []))
def b_S_closeSegment_0 : List RI := [(.aload_n 0, []), (.aload_n 0, []), (.iload_n 1, []), (.invokevirtual 81, [38, 2, 13]), (.aload_n 0, []), (.getfield 27, [3, 7]), (.iload_n 1, []), (.iaload, []), (.invokevirtual 88, [44, 3, 13]), (.iload_n 1, []), (.iconst 1, []), (.iadd, []), (.istore_n 2, []), (.nop, [19])]
def b_S_closeSegment_19 : List RI := [(.iload_n 2, []), (.aload_n 0, []), (.getfield 46, [3, 5]), (.if_icmp .ge 37, [61]), (.aload_n 0, []), (.getfield 24, [3, 6]), (.iload_n 2, []), (.iconst 1, []), (.isub, []), (.aload_n 0, []), (.getfield 24, [3, 6]), (.iload_n 2, []), (.iaload, []), (.iastore, []), (.aload_n 0, []), (.getfield 27, [3, 7]), (.iload_n 2, []), (.iconst 1, []), (.isub, []), (.aload_n 0, []), (.getfield 27, [3, 7]), (.iload_n 2, []), (.iaload, []), (.iastore, []), (.iinc 2 1, []), (.goto (-39), [19])]
def b_S_closeSegment_61 : List RI := [(.aload_n 0, []), (.dup, []), (.getfield 46, [3, 5]), (.iconst 1, []), (.isub, []), (.putfield 46, [3, 5]), (.return_, [])]
def p_S_closeSegment (L : Nat) : List RI := cond (Nat.blt L 19) (cond (Nat.beq L 0) b_S_closeSegment_0 []) (cond (Nat.blt L 61) (cond (Nat.beq L 19) b_S_closeSegment_19 []) (cond (Nat.beq L 61) b_S_closeSegment_61 []))
def b_S_openFrames_0 : List RI := [(.aload_n 0, []), (.getfield 49, [3, 8]), (.iconst 1, []), (.isub, []), (.istore_n 3, []), (.nop, [7])]
def b_S_openFrames_7 : List RI := [(.iload_n 3, []), (.iload_n 1, []), (.if_icmp .lt 37, [46]), (.aload_n 0, []), (.getfield 30, [3, 9]), (.iload_n 3, []), (.iload_n 2, []), (.iadd, []), (.aload_n 0, []), (.getfield 30, [3, 9]), (.iload_n 3, []), (.iaload, []), (.iastore, []), (.aload_n 0, []), (.getfield 33, [3, 10]), (.iload_n 3, []), (.iload_n 2, []), (.iadd, []), (.aload_n 0, []), (.getfield 33, [3, 10]), (.iload_n 3, []), (.iaload, []), (.iastore, []), (.iinc 3 (-1), []), (.goto (-36), [7])]
def b_S_openFrames_46 : List RI := [(.iload_n 1, []), (.istore_n 3, []), (.nop, [48])]
def b_S_openFrames_48 : List RI := [(.iload_n 3, []), (.iload_n 1, []), (.iload_n 2, []), (.iadd, []), (.if_icmp .ge 25, [77]), (.aload_n 0, []), (.getfield 30, [3, 9]), (.iload_n 3, []), (.bipush (-99), []), (.iastore, []), (.aload_n 0, []), (.getfield 33, [3, 10]), (.iload_n 3, []), (.bipush (-99), []), (.iastore, []), (.iinc 3 1, []), (.goto (-26), [48])]
def b_S_openFrames_77 : List RI := [(.aload_n 0, []), (.dup, []), (.getfield 49, [3, 8]), (.iload_n 2, []), (.iadd, []), (.putfield 49, [3, 8]), (.return_, [])]
def p_S_openFrames (L : Nat) : List RI := cond (Nat.blt L 46) (cond (Nat.blt L 7) (cond (Nat.beq L 0) b_S_openFrames_0 []) (cond (Nat.beq L 7) b_S_openFrames_7 [])) (cond (Nat.blt L 48) (cond (Nat.beq L 46) b_S_openFrames_46 []) (cond (Nat.blt L 77) (cond (Nat.beq L 48) b_S_openFrames_48 []) (cond (Nat.beq L 77) b_S_openFrames_77 [])))
def b_S_closeFrames_0 : List RI := [(.iload_n 1, []), (.iload_n 2, []), (.iadd, []), (.istore_n 3, []), (.nop, [4])]
def b_S_closeFrames_4 : List RI := [(.iload_n 3, []), (.aload_n 0, []), (.getfield 49, [3, 8]), (.if_icmp .ge 37, [46]), (.aload_n 0, []), (.getfield 30, [3, 9]), (.iload_n 3, []), (.iload_n 2, []), (.isub, []), (.aload_n 0, []), (.getfield 30, [3, 9]), (.iload_n 3, []), (.iaload, []), (.iastore, []), (.aload_n 0, []), (.getfield 33, [3, 10]), (.iload_n 3, []), (.iload_n 2, []), (.isub, []), (.aload_n 0, []), (.getfield 33, [3, 10]), (.iload_n 3, []), (.iaload, []), (.iastore, []), (.iinc 3 1, []), (.goto (-39), [4])]
def b_S_closeFrames_46 : List RI := [(.aload_n 0, []), (.dup, []), (.getfield 49, [3, 8]), (.iload_n 2, []), (.isub, []), (.putfield 49, [3, 8]), (.return_, [])]
def p_S_closeFrames (L : Nat) : List RI := cond (Nat.blt L 4) (cond (Nat.beq L 0) b_S_closeFrames_0 []) (cond (Nat.blt L 46) (cond (Nat.beq L 4) b_S_closeFrames_4 []) (cond (Nat.beq L 46) b_S_closeFrames_46 []))
def b_T_init_0 : List RI := [(.aload_n 0, []), (.invokespecial 3, [1000, 1, 0]), (.aload_n 0, []), (.new 9, [3]), (.dup, []), (.invokespecial 11, [25, 1, 13]), (.putfield 12, [4, 0]), (.aload_n 0, []), (.iconst 2, []), (.anewarray 9, [3]), (.putfield 18, [4, 1]), (.iconst 0, []), (.istore_n 1, []), (.nop, [25])]
def b_T_init_25 : List RI := [(.iload_n 1, []), (.iconst 2, []), (.if_icmp .ge 22, [49]), (.aload_n 0, []), (.getfield 18, [4, 1]), (.iload_n 1, []), (.new 9, [3]), (.dup, []), (.invokespecial 11, [25, 1, 13]), (.aastore, []), (.iinc 1 1, []), (.goto (-21), [25])]
def b_T_init_49 : List RI := [(.aload_n 0, []), (.iconst 2, []), (.newarray .boolean, [1]), (.putfield 22, [4, 2]), (.return_, [])]
def p_T_init (L : Nat) : List RI := cond (Nat.blt L 25) (cond (Nat.beq L 0) b_T_init_0 []) (cond (Nat.blt L 49) (cond (Nat.beq L 25) b_T_init_25 []) (cond (Nat.beq L 49) b_T_init_49 []))
def b_T_copyFrom_0 : List RI := [(.aload_n 0, []), (.getfield 12, [4, 0]), (.aload_n 1, []), (.getfield 12, [4, 0]), (.invokevirtual 26, [26, 2, 13]), (.iconst 0, []), (.istore_n 2, []), (.nop, [13])]
def b_T_copyFrom_13 : List RI := [(.iload_n 2, []), (.iconst 2, []), (.if_icmp .ge 45, [60]), (.aload_n 0, []), (.getfield 22, [4, 2]), (.iload_n 2, []), (.aload_n 1, []), (.getfield 22, [4, 2]), (.iload_n 2, []), (.baload, []), (.bastore, []), (.aload_n 0, []), (.getfield 22, [4, 2]), (.iload_n 2, []), (.baload, []), (.ifCond .eq 18, [54]), (.aload_n 0, []), (.getfield 18, [4, 1]), (.iload_n 2, []), (.aaload, []), (.aload_n 1, []), (.getfield 18, [4, 1]), (.iload_n 2, []), (.aaload, []), (.invokevirtual 26, [26, 2, 13]), (.nop, [54])]
def b_T_copyFrom_54 : List RI := [(.iinc 2 1, []), (.goto (-44), [13])]
def b_T_copyFrom_60 : List RI := [(.return_, [])]
def p_T_copyFrom (L : Nat) : List RI := cond (Nat.blt L 54) (cond (Nat.blt L 13) (cond (Nat.beq L 0) b_T_copyFrom_0 []) (cond (Nat.beq L 13) b_T_copyFrom_13 [])) (cond (Nat.blt L 60) (cond (Nat.beq L 54) b_T_copyFrom_54 []) (cond (Nat.beq L 60) b_T_copyFrom_60 []))
def b_T_countTaken_0 : List RI := [(.iconst 0, []), (.istore_n 1, []), (.iconst 0, []), (.istore_n 2, []), (.nop, [4])]
def b_T_countTaken_4 : List RI := [(.iload_n 2, []), (.iconst 2, []), (.if_icmp .ge 21, [27]), (.aload_n 0, []), (.getfield 22, [4, 2]), (.iload_n 2, []), (.baload, []), (.ifCond .eq 6, [21]), (.iinc 1 1, []), (.nop, [21])]
def b_T_countTaken_21 : List RI := [(.iinc 2 1, []), (.goto (-20), [4])]
def b_T_countTaken_27 : List RI := [(.iload_n 1, []), (.ireturn, [0])]
def p_T_countTaken (L : Nat) : List RI := cond (Nat.blt L 21) (cond (Nat.blt L 4) (cond (Nat.beq L 0) b_T_countTaken_0 []) (cond (Nat.beq L 4) b_T_countTaken_4 [])) (cond (Nat.blt L 27) (cond (Nat.beq L 21) b_T_countTaken_21 []) (cond (Nat.beq L 27) b_T_countTaken_27 []))
def b_L_init_0 : List RI := [(.aload_n 0, []), (.invokespecial 1, [1000, 1, 0]), (.aload_n 0, []), (.new 7, [4]), (.dup, []), (.invokespecial 9, [45, 1, 14]), (.putfield 10, [5, 0]), (.aload_n 0, []), (.iconst 5, []), (.anewarray 7, [2]), (.putfield 16, [5, 1]), (.iconst 0, []), (.istore_n 1, []), (.nop, [25])]
def b_L_init_25 : List RI := [(.iload_n 1, []), (.iconst 5, []), (.if_icmp .ge 22, [49]), (.aload_n 0, []), (.getfield 16, [5, 1]), (.iload_n 1, []), (.new 7, [4]), (.dup, []), (.invokespecial 9, [45, 1, 14]), (.aastore, []), (.iinc 1 1, []), (.goto (-21), [25])]
def b_L_init_49 : List RI := [(.aload_n 0, []), (.iconst 0, []), (.putfield 20, [5, 2]), (.aload_n 0, []), (.new 24, [3]), (.dup, []), (.invokespecial 26, [25, 1, 13]), (.putfield 27, [5, 3]), (.aload_n 0, []), (.new 31, [0]), (.dup, []), (.invokespecial 33, [0, 1, 10]), (.putfield 34, [5, 4]), (.aload_n 0, []), (.new 38, [1]), (.dup, []), (.invokespecial 40, [3, 1, 11]), (.putfield 41, [5, 5]), (.aload_n 0, []), (.new 45, [2]), (.dup, []), (.invokespecial 47, [18, 1, 12]), (.putfield 48, [5, 6]), (.aload_n 0, []), (.bipush 120, []), (.newarray .int, [0]), (.putfield 52, [5, 7]), (.aload_n 0, []), (.iconst 0, []), (.putfield 56, [5, 8]), (.return_, [])]
def p_L_init (L : Nat) : List RI := cond (Nat.blt L 25) (cond (Nat.beq L 0) b_L_init_0 []) (cond (Nat.blt L 49) (cond (Nat.beq L 25) b_L_init_25 []) (cond (Nat.beq L 49) b_L_init_49 []))
def b_L_addMouth_0 : List RI := [(.aload_n 0, []), (.getfield 10, [5, 0]), (.getfield 59, [4, 0]), (.astore_n 3, []), (.iload_n 1, []), (.iconst 0, []), (.bipush 9, []), (.invokestatic 62, [82, 3, 0]), (.ifCond .ne 13, [28]), (.iload_n 2, []), (.iconst 0, []), (.bipush 9, []), (.invokestatic 62, [82, 3, 0]), (.ifCond .eq 5, [30]), (.nop, [28])]
def b_L_addMouth_28 : List RI := [(.iconst (-1), []), (.ireturn, [0])]
def b_L_addMouth_30 : List RI := [(.aload_n 3, []), (.getfield 66, [3, 0]), (.bipush 8, []), (.if_icmp .lt 6, [42]), (.bipush (-3), []), (.ireturn, [0])]
def b_L_addMouth_42 : List RI := [(.aload_n 0, []), (.invokevirtual 69, [83, 1, 15]), (.aload_n 3, []), (.getfield 72, [3, 1]), (.aload_n 3, []), (.getfield 66, [3, 0]), (.iload_n 1, []), (.iastore, []), (.aload_n 3, []), (.getfield 75, [3, 2]), (.aload_n 3, []), (.getfield 66, [3, 0]), (.iload_n 2, []), (.iastore, []), (.aload_n 3, []), (.dup, []), (.getfield 66, [3, 0]), (.iconst 1, []), (.iadd, []), (.putfield 66, [3, 0]), (.aload_n 3, []), (.getfield 66, [3, 0]), (.iconst 1, []), (.isub, []), (.ireturn, [0])]
def p_L_addMouth (L : Nat) : List RI := cond (Nat.blt L 30) (cond (Nat.blt L 28) (cond (Nat.beq L 0) b_L_addMouth_0 []) (cond (Nat.beq L 28) b_L_addMouth_28 [])) (cond (Nat.blt L 42) (cond (Nat.beq L 30) b_L_addMouth_30 []) (cond (Nat.beq L 42) b_L_addMouth_42 []))
def b_L_setMouth_0 : List RI := [(.aload_n 0, []), (.getfield 10, [5, 0]), (.getfield 59, [4, 0]), (.astore 4, []), (.aload 4, []), (.iload_n 1, []), (.invokevirtual 78, [27, 2, 13]), (.ifCond .eq 23, [38]), (.iload_n 2, []), (.iconst 0, []), (.bipush 9, []), (.invokestatic 62, [82, 3, 0]), (.ifCond .ne 13, [38]), (.iload_n 3, []), (.iconst 0, []), (.bipush 9, []), (.invokestatic 62, [82, 3, 0]), (.ifCond .eq 5, [40]), (.nop, [38])]
def b_L_setMouth_38 : List RI := [(.iconst (-1), []), (.ireturn, [0])]
def b_L_setMouth_40 : List RI := [(.aload_n 0, []), (.invokevirtual 69, [83, 1, 15]), (.aload 4, []), (.iload_n 1, []), (.iload_n 2, []), (.iload_n 3, []), (.invokevirtual 82, [31, 4, 13]), (.istore 5, []), (.aload 4, []), (.getfield 72, [3, 1]), (.iload_n 1, []), (.iload_n 2, []), (.iastore, []), (.aload 4, []), (.getfield 75, [3, 2]), (.iload_n 1, []), (.iload_n 3, []), (.iastore, []), (.iload 5, []), (.ireturn, [0])]
def p_L_setMouth (L : Nat) : List RI := cond (Nat.blt L 38) (cond (Nat.beq L 0) b_L_setMouth_0 []) (cond (Nat.blt L 40) (cond (Nat.beq L 38) b_L_setMouth_38 []) (cond (Nat.beq L 40) b_L_setMouth_40 []))
def b_L_setSound_0 : List RI := [(.iload_n 1, []), (.iconst 0, []), (.bipush 8, []), (.invokestatic 62, [82, 3, 0]), (.ifCond .ne 25, [32]), (.iload_n 2, []), (.iconst 0, []), (.iconst 3, []), (.invokestatic 62, [82, 3, 0]), (.ifCond .ne 16, [32]), (.iload_n 3, []), (.iconst 0, []), (.getstatic 86, [2]), (.iload_n 2, []), (.iaload, []), (.invokestatic 62, [82, 3, 0]), (.ifCond .eq 5, [34]), (.nop, [32])]
def b_L_setSound_32 : List RI := [(.iconst (-1), []), (.ireturn, [0])]
def b_L_setSound_34 : List RI := [(.aload_n 0, []), (.invokevirtual 69, [83, 1, 15]), (.iload_n 1, []), (.iconst 4, []), (.imul, []), (.iload_n 2, []), (.iadd, []), (.istore 4, []), (.aload_n 0, []), (.getfield 10, [5, 0]), (.getfield 59, [4, 0]), (.getfield 89, [3, 3]), (.iload 4, []), (.iaload, []), (.istore 5, []), (.aload_n 0, []), (.getfield 10, [5, 0]), (.getfield 59, [4, 0]), (.getfield 89, [3, 3]), (.iload 4, []), (.iload_n 3, []), (.iastore, []), (.iload 5, []), (.ireturn, [0])]
def p_L_setSound (L : Nat) : List RI := cond (Nat.blt L 32) (cond (Nat.beq L 0) b_L_setSound_0 []) (cond (Nat.blt L 34) (cond (Nat.beq L 32) b_L_setSound_32 []) (cond (Nat.beq L 34) b_L_setSound_34 []))
def b_L_setNumber_0 : List RI := [(.iload_n 1, []), (.iconst 0, []), (.iconst 4, []), (.invokestatic 62, [82, 3, 0]), (.ifCond .ne 20, [26]), (.iload_n 2, []), (.getstatic 92, [3]), (.iload_n 1, []), (.iaload, []), (.getstatic 95, [4]), (.iload_n 1, []), (.iaload, []), (.invokestatic 62, [82, 3, 0]), (.ifCond .eq 5, [28]), (.nop, [26])]
def b_L_setNumber_26 : List RI := [(.iconst (-1), []), (.ireturn, [0])]
def b_L_setNumber_28 : List RI := [(.aload_n 0, []), (.invokevirtual 69, [83, 1, 15]), (.aload_n 0, []), (.getfield 10, [5, 0]), (.getfield 59, [4, 0]), (.getfield 98, [3, 4]), (.iload_n 1, []), (.iaload, []), (.istore_n 3, []), (.aload_n 0, []), (.getfield 10, [5, 0]), (.getfield 59, [4, 0]), (.getfield 98, [3, 4]), (.iload_n 1, []), (.iload_n 2, []), (.iastore, []), (.iload_n 3, []), (.ireturn, [0])]
def p_L_setNumber (L : Nat) : List RI := cond (Nat.blt L 26) (cond (Nat.beq L 0) b_L_setNumber_0 []) (cond (Nat.blt L 28) (cond (Nat.beq L 26) b_L_setNumber_26 []) (cond (Nat.beq L 28) b_L_setNumber_28 []))
def b_L_insert_0 : List RI := [(.aload_n 0, []), (.getfield 10, [5, 0]), (.getfield 59, [4, 0]), (.astore 4, []), (.iload_n 1, []), (.iconst 0, []), (.aload 4, []), (.getfield 101, [3, 5]), (.invokestatic 62, [82, 3, 0]), (.ifCond .ne 23, [42]), (.iload_n 2, []), (.iconst 0, []), (.bipush 9, []), (.invokestatic 62, [82, 3, 0]), (.ifCond .ne 13, [42]), (.iload_n 3, []), (.iconst 1, []), (.bipush 20, []), (.invokestatic 62, [82, 3, 0]), (.ifCond .eq 5, [44]), (.nop, [42])]
def b_L_insert_42 : List RI := [(.iconst (-1), []), (.ireturn, [0])]
def b_L_insert_44 : List RI := [(.aload 4, []), (.iload_n 3, []), (.invokevirtual 104, [30, 2, 13]), (.ifCond .ne 6, [56]), (.bipush (-3), []), (.ireturn, [0])]
def b_L_insert_56 : List RI := [(.aload_n 0, []), (.invokevirtual 69, [83, 1, 15]), (.aload 4, []), (.iload_n 1, []), (.iload_n 2, []), (.iload_n 3, []), (.invokevirtual 107, [41, 4, 13]), (.aload 4, []), (.getfield 111, [3, 8]), (.ireturn, [0])]
def p_L_insert (L : Nat) : List RI := cond (Nat.blt L 44) (cond (Nat.blt L 42) (cond (Nat.beq L 0) b_L_insert_0 []) (cond (Nat.beq L 42) b_L_insert_42 [])) (cond (Nat.blt L 56) (cond (Nat.beq L 44) b_L_insert_44 []) (cond (Nat.beq L 56) b_L_insert_56 []))
def b_L_remove_0 : List RI := [(.aload_n 0, []), (.getfield 10, [5, 0]), (.getfield 59, [4, 0]), (.astore_n 2, []), (.aload_n 2, []), (.iload_n 1, []), (.invokevirtual 114, [28, 2, 13]), (.ifCond .ne 5, [18]), (.iconst (-1), []), (.ireturn, [0])]
def b_L_remove_18 : List RI := [(.aload_n 0, []), (.invokevirtual 69, [83, 1, 15]), (.aload_n 2, []), (.iload_n 1, []), (.invokevirtual 117, [42, 2, 13]), (.aload_n 2, []), (.getfield 111, [3, 8]), (.ireturn, [0])]
def p_L_remove (L : Nat) : List RI := cond (Nat.blt L 18) (cond (Nat.beq L 0) b_L_remove_0 []) (cond (Nat.beq L 18) b_L_remove_18 [])
def b_L_stretch_0 : List RI := [(.aload_n 0, []), (.getfield 10, [5, 0]), (.getfield 59, [4, 0]), (.astore_n 3, []), (.aload_n 3, []), (.iload_n 1, []), (.invokevirtual 114, [28, 2, 13]), (.ifCond .eq 13, [26]), (.iload_n 2, []), (.iconst 1, []), (.bipush 20, []), (.invokestatic 62, [82, 3, 0]), (.ifCond .eq 5, [28]), (.nop, [26])]
def b_L_stretch_26 : List RI := [(.iconst (-1), []), (.ireturn, [0])]
def b_L_stretch_28 : List RI := [(.aload_n 3, []), (.getfield 121, [3, 7]), (.iload_n 1, []), (.iaload, []), (.istore 4, []), (.aload_n 3, []), (.getfield 111, [3, 8]), (.iload 4, []), (.isub, []), (.iload_n 2, []), (.iadd, []), (.bipush 99, []), (.if_icmp .le 6, [53]), (.bipush (-3), []), (.ireturn, [0])]
def b_L_stretch_53 : List RI := [(.aload_n 0, []), (.invokevirtual 69, [83, 1, 15]), (.aload_n 3, []), (.iload_n 1, []), (.invokevirtual 124, [38, 2, 13]), (.istore 5, []), (.iload_n 2, []), (.iload 4, []), (.if_icmp .ge 18, [85]), (.aload_n 3, []), (.iload 5, []), (.iload_n 2, []), (.iadd, []), (.iload 4, []), (.iload_n 2, []), (.isub, []), (.invokevirtual 128, [44, 3, 13]), (.goto 16, [98])]
def b_L_stretch_85 : List RI := [(.aload_n 3, []), (.iload 5, []), (.iload 4, []), (.iadd, []), (.iload_n 2, []), (.iload 4, []), (.isub, []), (.invokevirtual 132, [43, 3, 13]), (.nop, [98])]
def b_L_stretch_98 : List RI := [(.aload_n 3, []), (.getfield 121, [3, 7]), (.iload_n 1, []), (.iload_n 2, []), (.iastore, []), (.iload 4, []), (.ireturn, [0])]
def p_L_stretch (L : Nat) : List RI := cond (Nat.blt L 53) (cond (Nat.blt L 26) (cond (Nat.beq L 0) b_L_stretch_0 []) (cond (Nat.blt L 28) (cond (Nat.beq L 26) b_L_stretch_26 []) (cond (Nat.beq L 28) b_L_stretch_28 []))) (cond (Nat.blt L 85) (cond (Nat.beq L 53) b_L_stretch_53 []) (cond (Nat.blt L 98) (cond (Nat.beq L 85) b_L_stretch_85 []) (cond (Nat.beq L 98) b_L_stretch_98 [])))
def b_L_pin_0 : List RI := [(.aload_n 0, []), (.getfield 10, [5, 0]), (.getfield 59, [4, 0]), (.astore_n 3, []), (.aload_n 3, []), (.iload_n 1, []), (.invokevirtual 135, [29, 2, 13]), (.ifCond .eq 16, [29]), (.iload_n 2, []), (.iconst (-1), []), (.if_icmp .eq 13, [31]), (.aload_n 3, []), (.iload_n 2, []), (.invokevirtual 78, [27, 2, 13]), (.ifCond .ne 5, [31]), (.nop, [29])]
def b_L_pin_29 : List RI := [(.iconst (-1), []), (.ireturn, [0])]
def b_L_pin_31 : List RI := [(.aload_n 0, []), (.invokevirtual 69, [83, 1, 15]), (.aload_n 3, []), (.getfield 138, [3, 9]), (.iload_n 1, []), (.iaload, []), (.istore 4, []), (.aload_n 3, []), (.getfield 138, [3, 9]), (.iload_n 1, []), (.iload_n 2, []), (.iconst (-1), []), (.if_icmp .ne 8, [58]), (.bipush (-99), []), (.goto 4, [59])]
def b_L_pin_58 : List RI := [(.iload_n 2, []), (.nop, [59])]
def b_L_pin_59 : List RI := [(.iastore, []), (.iload 4, []), (.ireturn, [0])]
def p_L_pin (L : Nat) : List RI := cond (Nat.blt L 31) (cond (Nat.blt L 29) (cond (Nat.beq L 0) b_L_pin_0 []) (cond (Nat.beq L 29) b_L_pin_29 [])) (cond (Nat.blt L 58) (cond (Nat.beq L 31) b_L_pin_31 []) (cond (Nat.blt L 59) (cond (Nat.beq L 58) b_L_pin_58 []) (cond (Nat.beq L 59) b_L_pin_59 [])))
def b_L_draw_0 : List RI := [(.aload_n 0, []), (.getfield 10, [5, 0]), (.getfield 59, [4, 0]), (.astore_n 3, []), (.aload_n 3, []), (.iload_n 1, []), (.invokevirtual 135, [29, 2, 13]), (.ifCond .eq 16, [29]), (.iload_n 2, []), (.iconst (-1), []), (.if_icmp .eq 13, [31]), (.aload_n 3, []), (.iload_n 2, []), (.invokevirtual 78, [27, 2, 13]), (.ifCond .ne 5, [31]), (.nop, [29])]
def b_L_draw_29 : List RI := [(.iconst (-1), []), (.ireturn, [0])]
def b_L_draw_31 : List RI := [(.aload_n 0, []), (.invokevirtual 69, [83, 1, 15]), (.aload_n 3, []), (.getfield 141, [3, 10]), (.iload_n 1, []), (.iaload, []), (.istore 4, []), (.aload_n 3, []), (.getfield 141, [3, 10]), (.iload_n 1, []), (.iload_n 2, []), (.iconst (-1), []), (.if_icmp .ne 8, [58]), (.bipush (-99), []), (.goto 4, [59])]
def b_L_draw_58 : List RI := [(.iload_n 2, []), (.nop, [59])]
def b_L_draw_59 : List RI := [(.iastore, []), (.iload 4, []), (.ireturn, [0])]
def p_L_draw (L : Nat) : List RI := cond (Nat.blt L 31) (cond (Nat.blt L 29) (cond (Nat.beq L 0) b_L_draw_0 []) (cond (Nat.beq L 29) b_L_draw_29 [])) (cond (Nat.blt L 58) (cond (Nat.beq L 31) b_L_draw_31 []) (cond (Nat.blt L 59) (cond (Nat.beq L 58) b_L_draw_58 []) (cond (Nat.beq L 59) b_L_draw_59 [])))
def b_L_between_0 : List RI := [(.aload_n 0, []), (.getfield 10, [5, 0]), (.getfield 59, [4, 0]), (.astore_n 3, []), (.aload_n 3, []), (.iload_n 1, []), (.invokevirtual 135, [29, 2, 13]), (.ifCond .eq 16, [29]), (.aload_n 3, []), (.iload_n 2, []), (.invokevirtual 135, [29, 2, 13]), (.ifCond .eq 8, [29]), (.iload_n 2, []), (.iload_n 1, []), (.if_icmp .gt 5, [31]), (.nop, [29])]
def b_L_between_29 : List RI := [(.iconst (-1), []), (.ireturn, [0])]
def b_L_between_31 : List RI := [(.aload_n 3, []), (.getfield 141, [3, 10]), (.iload_n 1, []), (.iaload, []), (.istore 4, []), (.aload_n 3, []), (.getfield 141, [3, 10]), (.iload_n 2, []), (.iaload, []), (.istore 5, []), (.aload_n 3, []), (.iload 4, []), (.invokevirtual 78, [27, 2, 13]), (.ifCond .eq 12, [65]), (.aload_n 3, []), (.iload 5, []), (.invokevirtual 78, [27, 2, 13]), (.ifCond .ne 6, [68]), (.nop, [65])]
def b_L_between_65 : List RI := [(.bipush (-2), []), (.ireturn, [0])]
def b_L_between_68 : List RI := [(.aload_n 0, []), (.invokevirtual 69, [83, 1, 15]), (.iload 4, []), (.istore 6, []), (.iload_n 1, []), (.iconst 1, []), (.iadd, []), (.istore 7, []), (.nop, [81])]
def b_L_between_81 : List RI := [(.iload 7, []), (.iload_n 2, []), (.if_icmp .ge 82, [166]), (.aload_n 3, []), (.getfield 72, [3, 1]), (.iload 4, []), (.iaload, []), (.aload_n 3, []), (.getfield 72, [3, 1]), (.iload 5, []), (.iaload, []), (.iload 7, []), (.iload_n 1, []), (.isub, []), (.iload_n 2, []), (.iload_n 1, []), (.isub, []), (.invokestatic 144, [84, 4, 0]), (.istore 8, []), (.aload_n 3, []), (.getfield 75, [3, 2]), (.iload 4, []), (.iaload, []), (.aload_n 3, []), (.getfield 75, [3, 2]), (.iload 5, []), (.iaload, []), (.iload 7, []), (.iload_n 1, []), (.isub, []), (.iload_n 2, []), (.iload_n 1, []), (.isub, []), (.invokestatic 144, [84, 4, 0]), (.istore 9, []), (.aload_n 3, []), (.iload 6, []), (.iload 8, []), (.iload 9, []), (.invokevirtual 148, [34, 4, 13]), (.istore 6, []), (.aload_n 3, []), (.getfield 141, [3, 10]), (.iload 7, []), (.iload 6, []), (.iastore, []), (.iinc 7 1, []), (.goto (-82), [81])]
def b_L_between_166 : List RI := [(.aload_n 3, []), (.iload 6, []), (.iload 5, []), (.invokevirtual 151, [32, 3, 13]), (.ireturn, [0])]
def p_L_between (L : Nat) : List RI := cond (Nat.blt L 65) (cond (Nat.blt L 29) (cond (Nat.beq L 0) b_L_between_0 []) (cond (Nat.blt L 31) (cond (Nat.beq L 29) b_L_between_29 []) (cond (Nat.beq L 31) b_L_between_31 []))) (cond (Nat.blt L 81) (cond (Nat.blt L 68) (cond (Nat.beq L 65) b_L_between_65 []) (cond (Nat.beq L 68) b_L_between_68 [])) (cond (Nat.blt L 166) (cond (Nat.beq L 81) b_L_between_81 []) (cond (Nat.beq L 166) b_L_between_166 [])))
def b_L_finish_0 : List RI := [(.aload_n 0, []), (.getfield 41, [5, 5]), (.aload_n 0, []), (.getfield 10, [5, 0]), (.getfield 59, [4, 0]), (.invokevirtual 155, [4, 2, 11]), (.aload_n 0, []), (.getfield 41, [5, 5]), (.invokevirtual 159, [8, 1, 11]), (.istore_n 1, []), (.iload_n 1, []), (.bipush (-99), []), (.if_icmp .ne 6, [31]), (.bipush (-2), []), (.ireturn, [0])]
def b_L_finish_31 : List RI := [(.aload_n 0, []), (.invokevirtual 69, [83, 1, 15]), (.aload_n 0, []), (.getfield 41, [5, 5]), (.invokevirtual 163, [15, 1, 11]), (.pop, []), (.iconst 0, []), (.istore_n 2, []), (.nop, [45])]
def b_L_finish_45 : List RI := [(.iload_n 2, []), (.aload_n 0, []), (.getfield 10, [5, 0]), (.getfield 59, [4, 0]), (.getfield 111, [3, 8]), (.if_icmp .ge 30, [86]), (.aload_n 0, []), (.getfield 10, [5, 0]), (.getfield 59, [4, 0]), (.getfield 141, [3, 10]), (.iload_n 2, []), (.aload_n 0, []), (.getfield 41, [5, 5]), (.getfield 167, [1, 0]), (.iload_n 2, []), (.iaload, []), (.iastore, []), (.iinc 2 1, []), (.goto (-38), [45])]
def b_L_finish_86 : List RI := [(.iload_n 1, []), (.ireturn, [0])]
def p_L_finish (L : Nat) : List RI := cond (Nat.blt L 45) (cond (Nat.blt L 31) (cond (Nat.beq L 0) b_L_finish_0 []) (cond (Nat.beq L 31) b_L_finish_31 [])) (cond (Nat.blt L 86) (cond (Nat.beq L 45) b_L_finish_45 []) (cond (Nat.beq L 86) b_L_finish_86 []))
def b_L_breathe_0 : List RI := [(.iload_n 1, []), (.iconst 1, []), (.bipush 20, []), (.invokestatic 62, [82, 3, 0]), (.ifCond .eq 5, [12]), (.iconst (-1), []), (.ireturn, [0])]
def b_L_breathe_12 : List RI := [(.aload_n 0, []), (.getfield 27, [5, 3]), (.aload_n 0, []), (.getfield 10, [5, 0]), (.getfield 59, [4, 0]), (.invokevirtual 170, [26, 2, 13]), (.iconst 0, []), (.istore_n 2, []), (.nop, [28])]
def b_L_breathe_28 : List RI := [(.iload_n 2, []), (.bipush 30, []), (.if_icmp .gt 84, [115]), (.aload_n 0, []), (.getfield 34, [5, 4]), (.aload_n 0, []), (.getfield 27, [5, 3]), (.invokevirtual 173, [1, 2, 10]), (.aload_n 0, []), (.getfield 34, [5, 4]), (.getfield 176, [0, 3]), (.istore_n 3, []), (.iload_n 3, []), (.iconst (-1), []), (.if_icmp .ne 6, [61]), (.goto 57, [115])]
def b_L_breathe_61 : List RI := [(.iload_n 3, []), (.ifCond .eq 19, [81]), (.aload_n 0, []), (.getfield 27, [5, 3]), (.getfield 179, [3, 6]), (.iload_n 3, []), (.iconst 1, []), (.isub, []), (.iaload, []), (.bipush 9, []), (.if_icmp .ne 6, [84]), (.nop, [81])]
def b_L_breathe_81 : List RI := [(.bipush (-2), []), (.ireturn, [0])]
def b_L_breathe_84 : List RI := [(.aload_n 0, []), (.getfield 27, [5, 3]), (.iload_n 1, []), (.invokevirtual 104, [30, 2, 13]), (.ifCond .ne 6, [98]), (.bipush (-3), []), (.ireturn, [0])]
def b_L_breathe_98 : List RI := [(.aload_n 0, []), (.getfield 27, [5, 3]), (.iload_n 3, []), (.bipush 9, []), (.iload_n 1, []), (.invokevirtual 107, [41, 4, 13]), (.iinc 2 1, []), (.goto (-84), [28])]
def b_L_breathe_115 : List RI := [(.aload_n 0, []), (.invokevirtual 69, [83, 1, 15]), (.aload_n 0, []), (.getfield 10, [5, 0]), (.getfield 59, [4, 0]), (.aload_n 0, []), (.getfield 27, [5, 3]), (.invokevirtual 170, [26, 2, 13]), (.iload_n 2, []), (.ireturn, [0])]
def p_L_breathe (L : Nat) : List RI := cond (Nat.blt L 81) (cond (Nat.blt L 28) (cond (Nat.blt L 12) (cond (Nat.beq L 0) b_L_breathe_0 []) (cond (Nat.beq L 12) b_L_breathe_12 [])) (cond (Nat.blt L 61) (cond (Nat.beq L 28) b_L_breathe_28 []) (cond (Nat.beq L 61) b_L_breathe_61 []))) (cond (Nat.blt L 98) (cond (Nat.blt L 84) (cond (Nat.beq L 81) b_L_breathe_81 []) (cond (Nat.beq L 84) b_L_breathe_84 [])) (cond (Nat.blt L 115) (cond (Nat.beq L 98) b_L_breathe_98 []) (cond (Nat.beq L 115) b_L_breathe_115 [])))
def b_L_take_0 : List RI := [(.iload_n 1, []), (.iconst 0, []), (.iconst 1, []), (.invokestatic 62, [82, 3, 0]), (.ifCond .eq 5, [11]), (.iconst (-1), []), (.ireturn, [0])]
def b_L_take_11 : List RI := [(.aload_n 0, []), (.invokevirtual 69, [83, 1, 15]), (.aload_n 0, []), (.getfield 10, [5, 0]), (.getfield 182, [4, 1]), (.iload_n 1, []), (.aaload, []), (.aload_n 0, []), (.getfield 10, [5, 0]), (.getfield 59, [4, 0]), (.invokevirtual 170, [26, 2, 13]), (.aload_n 0, []), (.getfield 10, [5, 0]), (.getfield 186, [4, 2]), (.iload_n 1, []), (.iconst 1, []), (.bastore, []), (.aload_n 0, []), (.getfield 10, [5, 0]), (.getfield 59, [4, 0]), (.getfield 111, [3, 8]), (.ireturn, [0])]
def p_L_take (L : Nat) : List RI := cond (Nat.blt L 11) (cond (Nat.beq L 0) b_L_take_0 []) (cond (Nat.beq L 11) b_L_take_11 [])
def b_L_restore_0 : List RI := [(.iload_n 1, []), (.iconst 0, []), (.iconst 1, []), (.invokestatic 62, [82, 3, 0]), (.ifCond .eq 5, [11]), (.iconst (-1), []), (.ireturn, [0])]
def b_L_restore_11 : List RI := [(.aload_n 0, []), (.getfield 10, [5, 0]), (.getfield 186, [4, 2]), (.iload_n 1, []), (.baload, []), (.ifCond .ne 6, [26]), (.bipush (-2), []), (.ireturn, [0])]
def b_L_restore_26 : List RI := [(.aload_n 0, []), (.invokevirtual 69, [83, 1, 15]), (.aload_n 0, []), (.getfield 10, [5, 0]), (.getfield 59, [4, 0]), (.aload_n 0, []), (.getfield 10, [5, 0]), (.getfield 182, [4, 1]), (.iload_n 1, []), (.aaload, []), (.invokevirtual 170, [26, 2, 13]), (.aload_n 0, []), (.getfield 10, [5, 0]), (.getfield 59, [4, 0]), (.getfield 111, [3, 8]), (.ireturn, [0])]
def p_L_restore (L : Nat) : List RI := cond (Nat.blt L 11) (cond (Nat.beq L 0) b_L_restore_0 []) (cond (Nat.blt L 26) (cond (Nat.beq L 11) b_L_restore_11 []) (cond (Nat.beq L 26) b_L_restore_26 []))
def b_L_undo_0 : List RI := [(.aload_n 0, []), (.getfield 20, [5, 2]), (.ifCond .gt 6, [10]), (.bipush (-2), []), (.ireturn, [0])]
def b_L_undo_10 : List RI := [(.aload_n 0, []), (.dup, []), (.getfield 20, [5, 2]), (.iconst 1, []), (.isub, []), (.putfield 20, [5, 2]), (.aload_n 0, []), (.getfield 10, [5, 0]), (.aload_n 0, []), (.getfield 16, [5, 1]), (.aload_n 0, []), (.getfield 20, [5, 2]), (.aaload, []), (.invokevirtual 190, [46, 2, 14]), (.aload_n 0, []), (.getfield 20, [5, 2]), (.ireturn, [0])]
def p_L_undo (L : Nat) : List RI := cond (Nat.blt L 10) (cond (Nat.beq L 0) b_L_undo_0 []) (cond (Nat.beq L 10) b_L_undo_10 [])
def b_L_append_0 : List RI := [(.iload_n 1, []), (.iconst 1, []), (.sipush 255, []), (.invokestatic 62, [82, 3, 0]), (.ifCond .eq 5, [13]), (.iconst (-1), []), (.ireturn, [0])]
def b_L_append_13 : List RI := [(.aload_n 0, []), (.getfield 56, [5, 8]), (.bipush 120, []), (.if_icmp .lt 6, [25]), (.bipush (-3), []), (.ireturn, [0])]
def b_L_append_25 : List RI := [(.aload_n 0, []), (.getfield 52, [5, 7]), (.aload_n 0, []), (.getfield 56, [5, 8]), (.iload_n 1, []), (.iastore, []), (.aload_n 0, []), (.dup, []), (.getfield 56, [5, 8]), (.iconst 1, []), (.iadd, []), (.putfield 56, [5, 8]), (.aload_n 0, []), (.getfield 56, [5, 8]), (.ireturn, [0])]
def p_L_append (L : Nat) : List RI := cond (Nat.blt L 13) (cond (Nat.beq L 0) b_L_append_0 []) (cond (Nat.blt L 25) (cond (Nat.beq L 13) b_L_append_13 []) (cond (Nat.beq L 25) b_L_append_25 []))
def b_L_clearText_0 : List RI := [(.aload_n 0, []), (.getfield 56, [5, 8]), (.istore_n 1, []), (.aload_n 0, []), (.iconst 0, []), (.putfield 56, [5, 8]), (.iload_n 1, []), (.ireturn, [0])]
def p_L_clearText (L : Nat) : List RI := cond (Nat.beq L 0) b_L_clearText_0 []
def b_L_load_0 : List RI := [(.aload_n 0, []), (.getfield 27, [5, 3]), (.aload_n 0, []), (.getfield 10, [5, 0]), (.getfield 59, [4, 0]), (.invokevirtual 170, [26, 2, 13]), (.aload_n 0, []), (.getfield 48, [5, 6]), (.aload_n 0, []), (.getfield 52, [5, 7]), (.aload_n 0, []), (.getfield 56, [5, 8]), (.aload_n 0, []), (.getfield 27, [5, 3]), (.invokevirtual 193, [19, 4, 12]), (.istore_n 1, []), (.aload_n 0, []), (.getfield 48, [5, 6]), (.getfield 197, [2, 0]), (.iconst (-1), []), (.if_icmp .eq 15, [57]), (.sipush (-1000), []), (.aload_n 0, []), (.getfield 48, [5, 6]), (.getfield 197, [2, 0]), (.isub, []), (.ireturn, [0])]
def b_L_load_57 : List RI := [(.aload_n 0, []), (.invokevirtual 69, [83, 1, 15]), (.aload_n 0, []), (.getfield 10, [5, 0]), (.getfield 59, [4, 0]), (.aload_n 0, []), (.getfield 27, [5, 3]), (.invokevirtual 170, [26, 2, 13]), (.aload_n 0, []), (.iconst 0, []), (.putfield 56, [5, 8]), (.iload_n 1, []), (.ireturn, [0])]
def p_L_load (L : Nat) : List RI := cond (Nat.blt L 57) (cond (Nat.beq L 0) b_L_load_0 []) (cond (Nat.beq L 57) b_L_load_57 [])
def b_L_count_0 : List RI := [(.aload_n 0, []), (.getfield 10, [5, 0]), (.getfield 59, [4, 0]), (.astore_n 2, []), (.iload_n 1, []), (.tableswitch 118 0 8 #[51, 56, 61, 66, 75, 84, 100, 108, 113], [127, 60, 65, 70, 75, 84, 93, 109, 117, 122])]
def b_L_count_60 : List RI := [(.aload_n 2, []), (.getfield 66, [3, 0]), (.ireturn, [0])]
def b_L_count_65 : List RI := [(.aload_n 2, []), (.getfield 101, [3, 5]), (.ireturn, [0])]
def b_L_count_70 : List RI := [(.aload_n 2, []), (.getfield 111, [3, 8]), (.ireturn, [0])]
def b_L_count_75 : List RI := [(.aload_n 2, []), (.aload_n 2, []), (.getfield 138, [3, 9]), (.invokevirtual 200, [37, 2, 13]), (.ireturn, [0])]
def b_L_count_84 : List RI := [(.aload_n 2, []), (.aload_n 2, []), (.getfield 141, [3, 10]), (.invokevirtual 200, [37, 2, 13]), (.ireturn, [0])]
def b_L_count_93 : List RI := [(.aload_n 0, []), (.getfield 34, [5, 4]), (.aload_n 2, []), (.invokevirtual 173, [1, 2, 10]), (.aload_n 0, []), (.getfield 34, [5, 4]), (.getfield 204, [0, 2]), (.ireturn, [0])]
def b_L_count_109 : List RI := [(.aload_n 0, []), (.getfield 10, [5, 0]), (.invokevirtual 207, [47, 1, 14]), (.ireturn, [0])]
def b_L_count_117 : List RI := [(.aload_n 0, []), (.getfield 20, [5, 2]), (.ireturn, [0])]
def b_L_count_122 : List RI := [(.aload_n 0, []), (.getfield 56, [5, 8]), (.ireturn, [0])]
def b_L_count_127 : List RI := [(.iconst (-1), []), (.ireturn, [0])]
def p_L_count (L : Nat) : List RI := cond (Nat.blt L 84) (cond (Nat.blt L 65) (cond (Nat.blt L 60) (cond (Nat.beq L 0) b_L_count_0 []) (cond (Nat.beq L 60) b_L_count_60 [])) (cond (Nat.blt L 70) (cond (Nat.beq L 65) b_L_count_65 []) (cond (Nat.blt L 75) (cond (Nat.beq L 70) b_L_count_70 []) (cond (Nat.beq L 75) b_L_count_75 [])))) (cond (Nat.blt L 117) (cond (Nat.blt L 93) (cond (Nat.beq L 84) b_L_count_84 []) (cond (Nat.blt L 109) (cond (Nat.beq L 93) b_L_count_93 []) (cond (Nat.beq L 109) b_L_count_109 []))) (cond (Nat.blt L 122) (cond (Nat.beq L 117) b_L_count_117 []) (cond (Nat.blt L 127) (cond (Nat.beq L 122) b_L_count_122 []) (cond (Nat.beq L 127) b_L_count_127 []))))
def b_L_mouth_0 : List RI := [(.aload_n 0, []), (.getfield 10, [5, 0]), (.getfield 59, [4, 0]), (.iload_n 1, []), (.invokevirtual 78, [27, 2, 13]), (.ifCond .eq 12, [23]), (.iload_n 2, []), (.iconst 0, []), (.iconst 1, []), (.invokestatic 62, [82, 3, 0]), (.ifCond .eq 5, [25]), (.nop, [23])]
def b_L_mouth_23 : List RI := [(.iconst (-1), []), (.ireturn, [0])]
def b_L_mouth_25 : List RI := [(.iload_n 2, []), (.ifCond .ne 18, [44]), (.aload_n 0, []), (.getfield 10, [5, 0]), (.getfield 59, [4, 0]), (.getfield 72, [3, 1]), (.iload_n 1, []), (.iaload, []), (.goto 15, [56])]
def b_L_mouth_44 : List RI := [(.aload_n 0, []), (.getfield 10, [5, 0]), (.getfield 59, [4, 0]), (.getfield 75, [3, 2]), (.iload_n 1, []), (.iaload, []), (.nop, [56])]
def b_L_mouth_56 : List RI := [(.ireturn, [0])]
def p_L_mouth (L : Nat) : List RI := cond (Nat.blt L 25) (cond (Nat.blt L 23) (cond (Nat.beq L 0) b_L_mouth_0 []) (cond (Nat.beq L 23) b_L_mouth_23 [])) (cond (Nat.blt L 44) (cond (Nat.beq L 25) b_L_mouth_25 []) (cond (Nat.blt L 56) (cond (Nat.beq L 44) b_L_mouth_44 []) (cond (Nat.beq L 56) b_L_mouth_56 [])))
def b_L_jump_0 : List RI := [(.aload_n 0, []), (.getfield 10, [5, 0]), (.getfield 59, [4, 0]), (.iload_n 1, []), (.invokevirtual 78, [27, 2, 13]), (.ifCond .eq 17, [28]), (.aload_n 0, []), (.getfield 10, [5, 0]), (.getfield 59, [4, 0]), (.iload_n 2, []), (.invokevirtual 78, [27, 2, 13]), (.ifCond .ne 5, [30]), (.nop, [28])]
def b_L_jump_28 : List RI := [(.iconst (-1), []), (.ireturn, [0])]
def b_L_jump_30 : List RI := [(.aload_n 0, []), (.getfield 10, [5, 0]), (.getfield 59, [4, 0]), (.iload_n 1, []), (.iload_n 2, []), (.invokevirtual 151, [32, 3, 13]), (.ireturn, [0])]
def p_L_jump (L : Nat) : List RI := cond (Nat.blt L 28) (cond (Nat.beq L 0) b_L_jump_0 []) (cond (Nat.blt L 30) (cond (Nat.beq L 28) b_L_jump_28 []) (cond (Nat.beq L 30) b_L_jump_30 []))
def b_L_sound_0 : List RI := [(.iload_n 1, []), (.iconst 0, []), (.bipush 8, []), (.invokestatic 62, [82, 3, 0]), (.ifCond .ne 12, [19]), (.iload_n 2, []), (.iconst 0, []), (.iconst 3, []), (.invokestatic 62, [82, 3, 0]), (.ifCond .eq 5, [21]), (.nop, [19])]
def b_L_sound_19 : List RI := [(.iconst (-1), []), (.ireturn, [0])]
def b_L_sound_21 : List RI := [(.aload_n 0, []), (.getfield 10, [5, 0]), (.getfield 59, [4, 0]), (.getfield 89, [3, 3]), (.iload_n 1, []), (.iconst 4, []), (.imul, []), (.iload_n 2, []), (.iadd, []), (.iaload, []), (.ireturn, [0])]
def p_L_sound (L : Nat) : List RI := cond (Nat.blt L 19) (cond (Nat.beq L 0) b_L_sound_0 []) (cond (Nat.blt L 21) (cond (Nat.beq L 19) b_L_sound_19 []) (cond (Nat.beq L 21) b_L_sound_21 []))
def b_L_number_0 : List RI := [(.iload_n 1, []), (.iconst 0, []), (.iconst 4, []), (.invokestatic 62, [82, 3, 0]), (.ifCond .eq 5, [11]), (.iconst (-1), []), (.ireturn, [0])]
def b_L_number_11 : List RI := [(.aload_n 0, []), (.getfield 10, [5, 0]), (.getfield 59, [4, 0]), (.getfield 98, [3, 4]), (.iload_n 1, []), (.iaload, []), (.ireturn, [0])]
def p_L_number (L : Nat) : List RI := cond (Nat.blt L 11) (cond (Nat.beq L 0) b_L_number_0 []) (cond (Nat.beq L 11) b_L_number_11 [])
def b_L_segment_0 : List RI := [(.aload_n 0, []), (.getfield 10, [5, 0]), (.getfield 59, [4, 0]), (.astore_n 3, []), (.aload_n 3, []), (.iload_n 1, []), (.invokevirtual 114, [28, 2, 13]), (.ifCond .ne 5, [18]), (.iconst (-1), []), (.ireturn, [0])]
def b_L_segment_18 : List RI := [(.iload_n 2, []), (.tableswitch 45 0 2 #[25, 32, 39], [64, 44, 51, 58])]
def b_L_segment_44 : List RI := [(.aload_n 3, []), (.getfield 179, [3, 6]), (.iload_n 1, []), (.iaload, []), (.ireturn, [0])]
def b_L_segment_51 : List RI := [(.aload_n 3, []), (.getfield 121, [3, 7]), (.iload_n 1, []), (.iaload, []), (.ireturn, [0])]
def b_L_segment_58 : List RI := [(.aload_n 3, []), (.iload_n 1, []), (.invokevirtual 124, [38, 2, 13]), (.ireturn, [0])]
def b_L_segment_64 : List RI := [(.iconst (-1), []), (.ireturn, [0])]
def p_L_segment (L : Nat) : List RI := cond (Nat.blt L 51) (cond (Nat.blt L 18) (cond (Nat.beq L 0) b_L_segment_0 []) (cond (Nat.blt L 44) (cond (Nat.beq L 18) b_L_segment_18 []) (cond (Nat.beq L 44) b_L_segment_44 []))) (cond (Nat.blt L 58) (cond (Nat.beq L 51) b_L_segment_51 []) (cond (Nat.blt L 64) (cond (Nat.beq L 58) b_L_segment_58 []) (cond (Nat.beq L 64) b_L_segment_64 [])))
def b_L_frame_0 : List RI := [(.aload_n 0, []), (.getfield 10, [5, 0]), (.getfield 59, [4, 0]), (.astore_n 3, []), (.aload_n 3, []), (.iload_n 1, []), (.invokevirtual 135, [29, 2, 13]), (.ifCond .ne 5, [18]), (.iconst (-1), []), (.ireturn, [0])]
def b_L_frame_18 : List RI := [(.iload_n 2, []), (.tableswitch 144 0 6 #[41, 47, 53, 60, 67, 85, 111], [163, 60, 66, 72, 79, 86, 104, 130])]
def b_L_frame_60 : List RI := [(.aload_n 3, []), (.iload_n 1, []), (.invokevirtual 210, [39, 2, 13]), (.ireturn, [0])]
def b_L_frame_66 : List RI := [(.aload_n 3, []), (.iload_n 1, []), (.invokevirtual 213, [40, 2, 13]), (.ireturn, [0])]
def b_L_frame_72 : List RI := [(.aload_n 3, []), (.getfield 138, [3, 9]), (.iload_n 1, []), (.iaload, []), (.ireturn, [0])]
def b_L_frame_79 : List RI := [(.aload_n 3, []), (.getfield 141, [3, 10]), (.iload_n 1, []), (.iaload, []), (.ireturn, [0])]
def b_L_frame_86 : List RI := [(.aload_n 0, []), (.getfield 34, [5, 4]), (.aload_n 3, []), (.invokevirtual 173, [1, 2, 10]), (.aload_n 0, []), (.getfield 34, [5, 4]), (.getfield 216, [0, 0]), (.iload_n 1, []), (.iaload, []), (.ireturn, [0])]
def b_L_frame_104 : List RI := [(.aload_n 0, []), (.getfield 34, [5, 4]), (.aload_n 3, []), (.invokevirtual 173, [1, 2, 10]), (.aload_n 0, []), (.getfield 34, [5, 4]), (.getfield 219, [0, 1]), (.iload_n 1, []), (.baload, []), (.ifCond .eq 7, [128]), (.iconst 1, []), (.goto 4, [129])]
def b_L_frame_128 : List RI := [(.iconst 0, []), (.nop, [129])]
def b_L_frame_129 : List RI := [(.ireturn, [0])]
def b_L_frame_130 : List RI := [(.aload_n 0, []), (.getfield 41, [5, 5]), (.aload_n 3, []), (.invokevirtual 155, [4, 2, 11]), (.aload_n 0, []), (.getfield 41, [5, 5]), (.invokevirtual 163, [15, 1, 11]), (.ifCond .eq 15, [160]), (.aload_n 0, []), (.getfield 41, [5, 5]), (.getfield 167, [1, 0]), (.iload_n 1, []), (.iaload, []), (.goto 5, [162])]
def b_L_frame_160 : List RI := [(.bipush (-99), []), (.nop, [162])]
def b_L_frame_162 : List RI := [(.ireturn, [0])]
def b_L_frame_163 : List RI := [(.iconst (-1), []), (.ireturn, [0])]
def p_L_frame (L : Nat) : List RI := cond (Nat.blt L 104) (cond (Nat.blt L 66) (cond (Nat.blt L 18) (cond (Nat.beq L 0) b_L_frame_0 []) (cond (Nat.blt L 60) (cond (Nat.beq L 18) b_L_frame_18 []) (cond (Nat.beq L 60) b_L_frame_60 []))) (cond (Nat.blt L 79) (cond (Nat.blt L 72) (cond (Nat.beq L 66) b_L_frame_66 []) (cond (Nat.beq L 72) b_L_frame_72 [])) (cond (Nat.blt L 86) (cond (Nat.beq L 79) b_L_frame_79 []) (cond (Nat.beq L 86) b_L_frame_86 [])))) (cond (Nat.blt L 130) (cond (Nat.blt L 128) (cond (Nat.beq L 104) b_L_frame_104 []) (cond (Nat.blt L 129) (cond (Nat.beq L 128) b_L_frame_128 []) (cond (Nat.beq L 129) b_L_frame_129 []))) (cond (Nat.blt L 162) (cond (Nat.blt L 160) (cond (Nat.beq L 130) b_L_frame_130 []) (cond (Nat.beq L 160) b_L_frame_160 [])) (cond (Nat.blt L 163) (cond (Nat.beq L 162) b_L_frame_162 []) (cond (Nat.beq L 163) b_L_frame_163 []))))
def b_L_wrongness_0 : List RI := [(.aload_n 0, []), (.getfield 10, [5, 0]), (.getfield 59, [4, 0]), (.iload_n 1, []), (.invokevirtual 135, [29, 2, 13]), (.ifCond .eq 17, [28]), (.aload_n 0, []), (.getfield 10, [5, 0]), (.getfield 59, [4, 0]), (.iload_n 2, []), (.invokevirtual 78, [27, 2, 13]), (.ifCond .ne 5, [30]), (.nop, [28])]
def b_L_wrongness_28 : List RI := [(.iconst (-1), []), (.ireturn, [0])]
def b_L_wrongness_30 : List RI := [(.aload_n 0, []), (.getfield 10, [5, 0]), (.getfield 59, [4, 0]), (.aload_n 0, []), (.getfield 10, [5, 0]), (.getfield 59, [4, 0]), (.iload_n 1, []), (.invokevirtual 213, [40, 2, 13]), (.iload_n 2, []), (.invokevirtual 222, [35, 3, 13]), (.ireturn, [0])]
def p_L_wrongness (L : Nat) : List RI := cond (Nat.blt L 28) (cond (Nat.beq L 0) b_L_wrongness_0 []) (cond (Nat.blt L 30) (cond (Nat.beq L 28) b_L_wrongness_28 []) (cond (Nat.beq L 30) b_L_wrongness_30 []))
def b_L_least_0 : List RI := [(.iload_n 1, []), (.iconst 0, []), (.iconst 1, []), (.invokestatic 62, [82, 3, 0]), (.ifCond .eq 5, [11]), (.iconst (-1), []), (.ireturn, [0])]
def b_L_least_11 : List RI := [(.aload_n 0, []), (.getfield 41, [5, 5]), (.aload_n 0, []), (.getfield 10, [5, 0]), (.getfield 59, [4, 0]), (.invokevirtual 155, [4, 2, 11]), (.iload_n 1, []), (.ifCond .ne 13, [39]), (.aload_n 0, []), (.getfield 41, [5, 5]), (.invokevirtual 159, [8, 1, 11]), (.goto 10, [46])]
def b_L_least_39 : List RI := [(.aload_n 0, []), (.getfield 41, [5, 5]), (.invokevirtual 225, [12, 1, 11]), (.nop, [46])]
def b_L_least_46 : List RI := [(.ireturn, [0])]
def p_L_least (L : Nat) : List RI := cond (Nat.blt L 39) (cond (Nat.blt L 11) (cond (Nat.beq L 0) b_L_least_0 []) (cond (Nat.beq L 11) b_L_least_11 [])) (cond (Nat.blt L 46) (cond (Nat.beq L 39) b_L_least_39 []) (cond (Nat.beq L 46) b_L_least_46 []))
def b_L_leastWith_0 : List RI := [(.aload_n 0, []), (.getfield 10, [5, 0]), (.getfield 59, [4, 0]), (.iload_n 1, []), (.invokevirtual 135, [29, 2, 13]), (.ifCond .eq 17, [28]), (.aload_n 0, []), (.getfield 10, [5, 0]), (.getfield 59, [4, 0]), (.iload_n 2, []), (.invokevirtual 78, [27, 2, 13]), (.ifCond .ne 5, [30]), (.nop, [28])]
def b_L_leastWith_28 : List RI := [(.iconst (-1), []), (.ireturn, [0])]
def b_L_leastWith_30 : List RI := [(.aload_n 0, []), (.getfield 41, [5, 5]), (.aload_n 0, []), (.getfield 10, [5, 0]), (.getfield 59, [4, 0]), (.invokevirtual 155, [4, 2, 11]), (.aload_n 0, []), (.getfield 41, [5, 5]), (.iload_n 1, []), (.iload_n 2, []), (.invokevirtual 228, [7, 3, 11]), (.aload_n 0, []), (.getfield 41, [5, 5]), (.invokevirtual 159, [8, 1, 11]), (.ireturn, [0])]
def p_L_leastWith (L : Nat) : List RI := cond (Nat.blt L 28) (cond (Nat.beq L 0) b_L_leastWith_0 []) (cond (Nat.blt L 30) (cond (Nat.beq L 28) b_L_leastWith_28 []) (cond (Nat.beq L 30) b_L_leastWith_30 []))
def b_L_why_0 : List RI := [(.aload_n 0, []), (.getfield 10, [5, 0]), (.getfield 59, [4, 0]), (.astore_n 2, []), (.aload_n 2, []), (.iload_n 1, []), (.invokevirtual 135, [29, 2, 13]), (.ifCond .ne 5, [18]), (.iconst (-1), []), (.ireturn, [0])]
def b_L_why_18 : List RI := [(.aload_n 0, []), (.getfield 41, [5, 5]), (.aload_n 2, []), (.invokevirtual 155, [4, 2, 11]), (.aload_n 0, []), (.getfield 41, [5, 5]), (.invokevirtual 163, [15, 1, 11]), (.ifCond .ne 6, [39]), (.bipush (-99), []), (.ireturn, [0])]
def b_L_why_39 : List RI := [(.aload_n 2, []), (.iload_n 1, []), (.invokevirtual 213, [40, 2, 13]), (.istore_n 3, []), (.aload_n 2, []), (.iload_n 3, []), (.invokevirtual 231, [36, 2, 13]), (.istore 4, []), (.aload_n 2, []), (.getfield 98, [3, 4]), (.iconst 0, []), (.iaload, []), (.istore 5, []), (.aload_n 2, []), (.iload_n 3, []), (.aload_n 0, []), (.getfield 41, [5, 5]), (.getfield 167, [1, 0]), (.iload_n 1, []), (.iaload, []), (.invokevirtual 222, [35, 3, 13]), (.aload_n 2, []), (.iload_n 3, []), (.iload 4, []), (.invokevirtual 222, [35, 3, 13]), (.if_icmp .ne 5, [86]), (.iconst 0, []), (.ireturn, [0])]
def b_L_why_86 : List RI := [(.aload_n 2, []), (.getfield 138, [3, 9]), (.iload_n 1, []), (.iaload, []), (.bipush (-99), []), (.if_icmp .eq 5, [99]), (.iconst 1, []), (.ireturn, [0])]
def b_L_why_99 : List RI := [(.iload_n 1, []), (.ifCond .le 27, [127]), (.aload_n 2, []), (.aload_n 0, []), (.getfield 41, [5, 5]), (.getfield 167, [1, 0]), (.iload_n 1, []), (.iconst 1, []), (.isub, []), (.iaload, []), (.iload 4, []), (.invokevirtual 151, [32, 3, 13]), (.iload 5, []), (.if_icmp .le 5, [127]), (.iconst 2, []), (.ireturn, [0])]
def b_L_why_127 : List RI := [(.iload_n 1, []), (.iconst 1, []), (.iadd, []), (.aload_n 2, []), (.getfield 111, [3, 8]), (.if_icmp .ge 27, [161]), (.aload_n 2, []), (.iload 4, []), (.aload_n 0, []), (.getfield 41, [5, 5]), (.getfield 167, [1, 0]), (.iload_n 1, []), (.iconst 1, []), (.iadd, []), (.iaload, []), (.invokevirtual 151, [32, 3, 13]), (.iload 5, []), (.if_icmp .le 5, [161]), (.iconst 3, []), (.ireturn, [0])]
def b_L_why_161 : List RI := [(.iconst 4, []), (.ireturn, [0])]
def p_L_why (L : Nat) : List RI := cond (Nat.blt L 86) (cond (Nat.blt L 18) (cond (Nat.beq L 0) b_L_why_0 []) (cond (Nat.blt L 39) (cond (Nat.beq L 18) b_L_why_18 []) (cond (Nat.beq L 39) b_L_why_39 []))) (cond (Nat.blt L 127) (cond (Nat.blt L 99) (cond (Nat.beq L 86) b_L_why_86 []) (cond (Nat.beq L 99) b_L_why_99 [])) (cond (Nat.blt L 161) (cond (Nat.beq L 127) b_L_why_127 []) (cond (Nat.beq L 161) b_L_why_161 [])))
def b_L_fault_0 : List RI := [(.iload_n 1, []), (.iconst 0, []), (.iconst 1, []), (.invokestatic 62, [82, 3, 0]), (.ifCond .eq 5, [11]), (.iconst (-1), []), (.ireturn, [0])]
def b_L_fault_11 : List RI := [(.aload_n 0, []), (.getfield 10, [5, 0]), (.getfield 59, [4, 0]), (.astore_n 2, []), (.iconst 0, []), (.istore_n 3, []), (.iconst 0, []), (.istore 4, []), (.nop, [24])]
def b_L_fault_24 : List RI := [(.iload 4, []), (.aload_n 2, []), (.getfield 111, [3, 8]), (.if_icmp .ge 67, [97]), (.aload_n 2, []), (.iload 4, []), (.iload_n 3, []), (.invokestatic 234, [85, 3, 0]), (.istore 5, []), (.iload 5, []), (.ifCond .eq 15, [59]), (.iload_n 1, []), (.ifCond .ne 8, [56]), (.iload 4, []), (.goto 5, [58])]
def b_L_fault_56 : List RI := [(.iload 5, []), (.nop, [58])]
def b_L_fault_58 : List RI := [(.ireturn, [0])]
def b_L_fault_59 : List RI := [(.iload 4, []), (.ifCond .le 28, [89]), (.aload_n 2, []), (.getfield 141, [3, 10]), (.iload 4, []), (.iaload, []), (.aload_n 2, []), (.getfield 141, [3, 10]), (.iload 4, []), (.iconst 1, []), (.isub, []), (.iaload, []), (.if_icmp .ne 9, [89]), (.iload_n 3, []), (.iconst 1, []), (.iadd, []), (.goto 4, [90])]
def b_L_fault_89 : List RI := [(.iconst 1, []), (.nop, [90])]
def b_L_fault_90 : List RI := [(.istore_n 3, []), (.iinc 4 1, []), (.goto (-70), [24])]
def b_L_fault_97 : List RI := [(.bipush (-99), []), (.ireturn, [0])]
def p_L_fault (L : Nat) : List RI := cond (Nat.blt L 58) (cond (Nat.blt L 24) (cond (Nat.blt L 11) (cond (Nat.beq L 0) b_L_fault_0 []) (cond (Nat.beq L 11) b_L_fault_11 [])) (cond (Nat.blt L 56) (cond (Nat.beq L 24) b_L_fault_24 []) (cond (Nat.beq L 56) b_L_fault_56 []))) (cond (Nat.blt L 89) (cond (Nat.blt L 59) (cond (Nat.beq L 58) b_L_fault_58 []) (cond (Nat.beq L 59) b_L_fault_59 [])) (cond (Nat.blt L 90) (cond (Nat.beq L 89) b_L_fault_89 []) (cond (Nat.blt L 97) (cond (Nat.beq L 90) b_L_fault_90 []) (cond (Nat.beq L 97) b_L_fault_97 []))))
def b_L_drawnSum_0 : List RI := [(.aload_n 0, []), (.getfield 10, [5, 0]), (.getfield 59, [4, 0]), (.astore_n 1, []), (.iconst 0, []), (.istore_n 2, []), (.iconst 0, []), (.istore_n 3, []), (.nop, [12])]
def b_L_drawnSum_12 : List RI := [(.iload_n 3, []), (.aload_n 1, []), (.getfield 111, [3, 8]), (.if_icmp .ge 43, [60]), (.aload_n 1, []), (.aload_n 1, []), (.getfield 141, [3, 10]), (.iload_n 3, []), (.iaload, []), (.invokevirtual 78, [27, 2, 13]), (.ifCond .ne 6, [36]), (.bipush (-99), []), (.ireturn, [0])]
def b_L_drawnSum_36 : List RI := [(.iload_n 2, []), (.aload_n 1, []), (.aload_n 1, []), (.iload_n 3, []), (.invokevirtual 213, [40, 2, 13]), (.aload_n 1, []), (.getfield 141, [3, 10]), (.iload_n 3, []), (.iaload, []), (.invokevirtual 222, [35, 3, 13]), (.iadd, []), (.istore_n 2, []), (.iinc 3 1, []), (.goto (-45), [12])]
def b_L_drawnSum_60 : List RI := [(.iload_n 2, []), (.ireturn, [0])]
def p_L_drawnSum (L : Nat) : List RI := cond (Nat.blt L 36) (cond (Nat.blt L 12) (cond (Nat.beq L 0) b_L_drawnSum_0 []) (cond (Nat.beq L 12) b_L_drawnSum_12 [])) (cond (Nat.blt L 60) (cond (Nat.beq L 36) b_L_drawnSum_36 []) (cond (Nat.beq L 60) b_L_drawnSum_60 []))
def b_L_speedFor_0 : List RI := [(.iload_n 1, []), (.iconst 0, []), (.ldc 238, [99999]), (.invokestatic 62, [82, 3, 0]), (.ifCond .eq 5, [12]), (.iconst (-1), []), (.ireturn, [0])]
def b_L_speedFor_12 : List RI := [(.aload_n 0, []), (.getfield 41, [5, 5]), (.aload_n 0, []), (.getfield 10, [5, 0]), (.getfield 59, [4, 0]), (.invokevirtual 155, [4, 2, 11]), (.getstatic 92, [3]), (.iconst 0, []), (.iaload, []), (.istore_n 2, []), (.nop, [32])]
def b_L_speedFor_32 : List RI := [(.iload_n 2, []), (.getstatic 95, [4]), (.iconst 0, []), (.iaload, []), (.if_icmp .gt 45, [83]), (.aload_n 0, []), (.getfield 41, [5, 5]), (.aload_n 0, []), (.getfield 10, [5, 0]), (.getfield 59, [4, 0]), (.iload_n 2, []), (.invokevirtual 239, [6, 3, 11]), (.aload_n 0, []), (.getfield 41, [5, 5]), (.invokevirtual 225, [12, 1, 11]), (.istore_n 3, []), (.iload_n 3, []), (.bipush (-99), []), (.if_icmp .eq 10, [77]), (.iload_n 3, []), (.iload_n 1, []), (.if_icmp .gt 5, [77]), (.iload_n 2, []), (.ireturn, [0])]
def b_L_speedFor_77 : List RI := [(.iinc 2 1, []), (.goto (-48), [32])]
def b_L_speedFor_83 : List RI := [(.bipush (-99), []), (.ireturn, [0])]
def p_L_speedFor (L : Nat) : List RI := cond (Nat.blt L 32) (cond (Nat.blt L 12) (cond (Nat.beq L 0) b_L_speedFor_0 []) (cond (Nat.beq L 12) b_L_speedFor_12 [])) (cond (Nat.blt L 77) (cond (Nat.beq L 32) b_L_speedFor_32 []) (cond (Nat.blt L 83) (cond (Nat.beq L 77) b_L_speedFor_77 []) (cond (Nat.beq L 83) b_L_speedFor_83 [])))
def b_L_nearest_0 : List RI := [(.iload_n 1, []), (.iconst 0, []), (.bipush 9, []), (.invokestatic 62, [82, 3, 0]), (.ifCond .ne 13, [20]), (.iload_n 2, []), (.iconst 0, []), (.bipush 9, []), (.invokestatic 62, [82, 3, 0]), (.ifCond .eq 5, [22]), (.nop, [20])]
def b_L_nearest_20 : List RI := [(.iconst (-1), []), (.ireturn, [0])]
def b_L_nearest_22 : List RI := [(.aload_n 0, []), (.getfield 10, [5, 0]), (.getfield 59, [4, 0]), (.iload_n 1, []), (.iload_n 2, []), (.invokevirtual 243, [33, 3, 13]), (.ireturn, [0])]
def p_L_nearest (L : Nat) : List RI := cond (Nat.blt L 20) (cond (Nat.beq L 0) b_L_nearest_0 []) (cond (Nat.blt L 22) (cond (Nat.beq L 20) b_L_nearest_20 []) (cond (Nat.beq L 22) b_L_nearest_22 []))
def b_L_isOutside_0 : List RI := [(.iload_n 0, []), (.iload_n 1, []), (.if_icmp .lt 8, [10]), (.iload_n 0, []), (.iload_n 2, []), (.if_icmp .le 7, [14]), (.nop, [10])]
def b_L_isOutside_10 : List RI := [(.iconst 1, []), (.goto 4, [15])]
def b_L_isOutside_14 : List RI := [(.iconst 0, []), (.nop, [15])]
def b_L_isOutside_15 : List RI := [(.ireturn, [1])]
def p_L_isOutside (L : Nat) : List RI := cond (Nat.blt L 14) (cond (Nat.blt L 10) (cond (Nat.beq L 0) b_L_isOutside_0 []) (cond (Nat.beq L 10) b_L_isOutside_10 [])) (cond (Nat.blt L 15) (cond (Nat.beq L 14) b_L_isOutside_14 []) (cond (Nat.beq L 15) b_L_isOutside_15 []))
def b_L_recordState_0 : List RI := [(.aload_n 0, []), (.getfield 20, [5, 2]), (.iconst 5, []), (.if_icmp .lt 49, [54]), (.aload_n 0, []), (.getfield 16, [5, 1]), (.iconst 0, []), (.aaload, []), (.astore_n 1, []), (.iconst 1, []), (.istore_n 2, []), (.nop, [17])]
def b_L_recordState_17 : List RI := [(.iload_n 2, []), (.iconst 5, []), (.if_icmp .ge 23, [42]), (.aload_n 0, []), (.getfield 16, [5, 1]), (.iload_n 2, []), (.iconst 1, []), (.isub, []), (.aload_n 0, []), (.getfield 16, [5, 1]), (.iload_n 2, []), (.aaload, []), (.aastore, []), (.iinc 2 1, []), (.goto (-22), [17])]
def b_L_recordState_42 : List RI := [(.aload_n 0, []), (.getfield 16, [5, 1]), (.iconst 4, []), (.aload_n 1, []), (.aastore, []), (.aload_n 0, []), (.iconst 4, []), (.putfield 20, [5, 2]), (.nop, [54])]
def b_L_recordState_54 : List RI := [(.aload_n 0, []), (.getfield 16, [5, 1]), (.aload_n 0, []), (.getfield 20, [5, 2]), (.aaload, []), (.aload_n 0, []), (.getfield 10, [5, 0]), (.invokevirtual 190, [46, 2, 14]), (.aload_n 0, []), (.dup, []), (.getfield 20, [5, 2]), (.iconst 1, []), (.iadd, []), (.putfield 20, [5, 2]), (.return_, [])]
def p_L_recordState (L : Nat) : List RI := cond (Nat.blt L 42) (cond (Nat.blt L 17) (cond (Nat.beq L 0) b_L_recordState_0 []) (cond (Nat.beq L 17) b_L_recordState_17 [])) (cond (Nat.blt L 54) (cond (Nat.beq L 42) b_L_recordState_42 []) (cond (Nat.beq L 54) b_L_recordState_54 []))
def b_L_partWay_0 : List RI := [(.iload_n 3, []), (.ifCond .le 15, [16]), (.iload_n 0, []), (.iload_n 1, []), (.iload_n 0, []), (.isub, []), (.iload_n 2, []), (.imul, []), (.iload_n 3, []), (.idiv, []), (.iadd, []), (.goto 4, [17])]
def b_L_partWay_16 : List RI := [(.iload_n 0, []), (.nop, [17])]
def b_L_partWay_17 : List RI := [(.ireturn, [0])]
def p_L_partWay (L : Nat) : List RI := cond (Nat.blt L 16) (cond (Nat.beq L 0) b_L_partWay_0 []) (cond (Nat.blt L 17) (cond (Nat.beq L 16) b_L_partWay_16 []) (cond (Nat.beq L 17) b_L_partWay_17 []))
def b_L_faultAt_0 : List RI := [(.aload_n 0, []), (.getfield 141, [3, 10]), (.iload_n 1, []), (.iaload, []), (.istore_n 3, []), (.aload_n 0, []), (.iload_n 3, []), (.invokevirtual 78, [27, 2, 13]), (.ifCond .ne 5, [17]), (.iconst 1, []), (.ireturn, [0])]
def b_L_faultAt_17 : List RI := [(.aload_n 0, []), (.getfield 138, [3, 9]), (.iload_n 1, []), (.iaload, []), (.bipush (-99), []), (.if_icmp .eq 15, [40]), (.aload_n 0, []), (.getfield 138, [3, 9]), (.iload_n 1, []), (.iaload, []), (.iload_n 3, []), (.if_icmp .eq 5, [40]), (.iconst 2, []), (.ireturn, [0])]
def b_L_faultAt_40 : List RI := [(.iload_n 1, []), (.ifCond .ne 5, [46]), (.iconst 0, []), (.ireturn, [0])]
def b_L_faultAt_46 : List RI := [(.aload_n 0, []), (.getfield 141, [3, 10]), (.iload_n 1, []), (.iconst 1, []), (.isub, []), (.iaload, []), (.istore 4, []), (.aload_n 0, []), (.iload 4, []), (.iload_n 3, []), (.invokevirtual 151, [32, 3, 13]), (.aload_n 0, []), (.getfield 98, [3, 4]), (.iconst 0, []), (.iaload, []), (.if_icmp .le 5, [74]), (.iconst 3, []), (.ireturn, [0])]
def b_L_faultAt_74 : List RI := [(.iload 4, []), (.iload_n 3, []), (.if_icmp .eq 17, [94]), (.iload_n 2, []), (.aload_n 0, []), (.getfield 98, [3, 4]), (.iconst 1, []), (.iaload, []), (.if_icmp .ge 7, [94]), (.iconst 4, []), (.goto 4, [95])]
def b_L_faultAt_94 : List RI := [(.iconst 0, []), (.nop, [95])]
def b_L_faultAt_95 : List RI := [(.ireturn, [0])]
def p_L_faultAt (L : Nat) : List RI := cond (Nat.blt L 46) (cond (Nat.blt L 17) (cond (Nat.beq L 0) b_L_faultAt_0 []) (cond (Nat.blt L 40) (cond (Nat.beq L 17) b_L_faultAt_17 []) (cond (Nat.beq L 40) b_L_faultAt_40 []))) (cond (Nat.blt L 94) (cond (Nat.blt L 74) (cond (Nat.beq L 46) b_L_faultAt_46 []) (cond (Nat.beq L 74) b_L_faultAt_74 [])) (cond (Nat.blt L 95) (cond (Nat.beq L 94) b_L_faultAt_94 []) (cond (Nat.beq L 95) b_L_faultAt_95 [])))
def b_M_init_0 : List RI := [(.aload_n 0, []), (.invokespecial 1, [1000, 1, 0]), (.aload_n 0, []), (.sipush 953, []), (.newarray .int, [0]), (.putfield 7, [6, 0]), (.aload_n 0, []), (.sipush 953, []), (.newarray .int, [0]), (.putfield 13, [6, 1]), (.aload_n 0, []), (.sipush 4765, []), (.newarray .int, [0]), (.putfield 16, [6, 2]), (.aload_n 0, []), (.bipush 120, []), (.newarray .int, [0]), (.putfield 19, [6, 4]), (.aload_n 0, []), (.bipush 99, []), (.newarray .int, [0]), (.putfield 22, [6, 6]), (.aload_n 0, []), (.bipush 99, []), (.newarray .boolean, [1]), (.putfield 25, [6, 7]), (.aload_n 0, []), (.sipush 2376, []), (.newarray .int, [0]), (.putfield 29, [6, 10]), (.aload_n 0, []), (.bipush 99, []), (.newarray .int, [0]), (.putfield 32, [6, 11]), (.aload_n 0, []), (.bipush 99, []), (.newarray .int, [0]), (.putfield 35, [6, 12]), (.aload_n 0, []), (.getfield 7, [6, 0]), (.iconst 0, []), (.iconst 1, []), (.iastore, []), (.aload_n 0, []), (.getfield 7, [6, 0]), (.iconst 2, []), (.iconst 4, []), (.iastore, []), (.iconst 0, []), (.istore_n 1, []), (.nop, [96])]
def b_M_init_96 : List RI := [(.iload_n 1, []), (.bipush 9, []), (.if_icmp .ge 63, [162]), (.aload_n 0, []), (.getfield 7, [6, 0]), (.bipush 17, []), (.iconst 4, []), (.iload_n 1, []), (.imul, []), (.iadd, []), (.iconst 3, []), (.iastore, []), (.aload_n 0, []), (.getfield 7, [6, 0]), (.bipush 17, []), (.iconst 4, []), (.iload_n 1, []), (.imul, []), (.iadd, []), (.iconst 1, []), (.iadd, []), (.iconst 4, []), (.iastore, []), (.aload_n 0, []), (.getfield 7, [6, 0]), (.bipush 17, []), (.iconst 4, []), (.iload_n 1, []), (.imul, []), (.iadd, []), (.iconst 2, []), (.iadd, []), (.iconst 1, []), (.iastore, []), (.aload_n 0, []), (.getfield 7, [6, 0]), (.bipush 17, []), (.iconst 4, []), (.iload_n 1, []), (.imul, []), (.iadd, []), (.iconst 3, []), (.iadd, []), (.iconst 1, []), (.iastore, []), (.iinc 1 1, []), (.goto (-63), [96])]
def b_M_init_162 : List RI := [(.aload_n 0, []), (.getfield 7, [6, 0]), (.bipush 53, []), (.iconst 3, []), (.iastore, []), (.aload_n 0, []), (.getfield 7, [6, 0]), (.bipush 54, []), (.iconst 1, []), (.iastore, []), (.aload_n 0, []), (.getfield 7, [6, 0]), (.bipush 55, []), (.iconst 5, []), (.iastore, []), (.aload_n 0, []), (.getfield 7, [6, 0]), (.bipush 56, []), (.bipush 40, []), (.iastore, []), (.aload_n 0, []), (.getfield 7, [6, 0]), (.bipush 57, []), (.bipush 8, []), (.iastore, []), (.return_, [])]
def p_M_init (L : Nat) : List RI := cond (Nat.blt L 96) (cond (Nat.beq L 0) b_M_init_0 []) (cond (Nat.blt L 162) (cond (Nat.beq L 96) b_M_init_96 []) (cond (Nat.beq L 162) b_M_init_162 []))
def b_M_in_0 : List RI := [(.iload_n 0, []), (.iload_n 1, []), (.if_icmp .lt 12, [14]), (.iload_n 0, []), (.iload_n 2, []), (.if_icmp .gt 7, [14]), (.iconst 1, []), (.goto 4, [15])]
def b_M_in_14 : List RI := [(.iconst 0, []), (.nop, [15])]
def b_M_in_15 : List RI := [(.ireturn, [1])]
def p_M_in (L : Nat) : List RI := cond (Nat.blt L 14) (cond (Nat.beq L 0) b_M_in_0 []) (cond (Nat.blt L 15) (cond (Nat.beq L 14) b_M_in_14 []) (cond (Nat.beq L 15) b_M_in_15 []))
def b_M_apart_0 : List RI := [(.iload_n 0, []), (.iload_n 1, []), (.if_icmp .ge 9, [11]), (.iload_n 1, []), (.iload_n 0, []), (.isub, []), (.goto 6, [14])]
def b_M_apart_11 : List RI := [(.iload_n 0, []), (.iload_n 1, []), (.isub, []), (.nop, [14])]
def b_M_apart_14 : List RI := [(.ireturn, [0])]
def p_M_apart (L : Nat) : List RI := cond (Nat.blt L 11) (cond (Nat.beq L 0) b_M_apart_0 []) (cond (Nat.blt L 14) (cond (Nat.beq L 11) b_M_apart_11 []) (cond (Nat.beq L 14) b_M_apart_14 []))
def b_M_greater_0 : List RI := [(.iload_n 0, []), (.iload_n 1, []), (.if_icmp .le 7, [9]), (.iload_n 0, []), (.goto 4, [10])]
def b_M_greater_9 : List RI := [(.iload_n 1, []), (.nop, [10])]
def b_M_greater_10 : List RI := [(.ireturn, [0])]
def p_M_greater (L : Nat) : List RI := cond (Nat.blt L 9) (cond (Nat.beq L 0) b_M_greater_0 []) (cond (Nat.blt L 10) (cond (Nat.beq L 9) b_M_greater_9 []) (cond (Nat.beq L 10) b_M_greater_10 []))
def b_M_bring_0 : List RI := [(.iconst 0, []), (.istore 5, []), (.nop, [3])]
def b_M_bring_3 : List RI := [(.iload 5, []), (.iload 4, []), (.if_icmp .ge 21, [28]), (.aload_n 2, []), (.iload_n 3, []), (.iload 5, []), (.iadd, []), (.aload_n 0, []), (.iload_n 1, []), (.iload 5, []), (.iadd, []), (.iaload, []), (.iastore, []), (.iinc 5 1, []), (.goto (-22), [3])]
def b_M_bring_28 : List RI := [(.return_, [])]
def p_M_bring (L : Nat) : List RI := cond (Nat.blt L 3) (cond (Nat.beq L 0) b_M_bring_0 []) (cond (Nat.blt L 28) (cond (Nat.beq L 3) b_M_bring_3 []) (cond (Nat.beq L 28) b_M_bring_28 []))
def b_M_keep_0 : List RI := [(.aload_n 0, []), (.getfield 38, [6, 3]), (.iconst 5, []), (.if_icmp .ne 31, [36]), (.aload_n 0, []), (.getfield 16, [6, 2]), (.sipush 953, []), (.aload_n 0, []), (.getfield 16, [6, 2]), (.iconst 0, []), (.sipush 3812, []), (.invokestatic 42, [90, 5, 0]), (.aload_n 0, []), (.dup, []), (.getfield 38, [6, 3]), (.iconst 1, []), (.isub, []), (.putfield 38, [6, 3]), (.nop, [36])]
def b_M_keep_36 : List RI := [(.aload_n 0, []), (.getfield 7, [6, 0]), (.iconst 0, []), (.aload_n 0, []), (.getfield 16, [6, 2]), (.sipush 953, []), (.aload_n 0, []), (.getfield 38, [6, 3]), (.imul, []), (.sipush 953, []), (.invokestatic 42, [90, 5, 0]), (.aload_n 0, []), (.dup, []), (.getfield 38, [6, 3]), (.iconst 1, []), (.iadd, []), (.putfield 38, [6, 3]), (.return_, [])]
def p_M_keep (L : Nat) : List RI := cond (Nat.blt L 36) (cond (Nat.beq L 0) b_M_keep_0 []) (cond (Nat.beq L 36) b_M_keep_36 [])
def b_M_isMouth_0 : List RI := [(.iload_n 1, []), (.iconst 0, []), (.aload_n 0, []), (.getfield 7, [6, 0]), (.iconst 0, []), (.iaload, []), (.iconst 1, []), (.isub, []), (.invokestatic 46, [87, 3, 0]), (.ireturn, [1])]
def p_M_isMouth (L : Nat) : List RI := cond (Nat.beq L 0) b_M_isMouth_0 []
def b_M_isSegment_0 : List RI := [(.iload_n 1, []), (.iconst 0, []), (.aload_n 0, []), (.getfield 7, [6, 0]), (.bipush 58, []), (.iaload, []), (.iconst 1, []), (.isub, []), (.invokestatic 46, [87, 3, 0]), (.ireturn, [1])]
def p_M_isSegment (L : Nat) : List RI := cond (Nat.beq L 0) b_M_isSegment_0 []
def b_M_opening_0 : List RI := [(.aload_n 0, []), (.getfield 7, [6, 0]), (.iconst 1, []), (.iconst 2, []), (.iload_n 1, []), (.imul, []), (.iadd, []), (.iaload, []), (.ireturn, [0])]
def p_M_opening (L : Nat) : List RI := cond (Nat.beq L 0) b_M_opening_0 []
def b_M_width_0 : List RI := [(.aload_n 0, []), (.getfield 7, [6, 0]), (.iconst 1, []), (.iconst 2, []), (.iload_n 1, []), (.imul, []), (.iadd, []), (.iconst 1, []), (.iadd, []), (.iaload, []), (.ireturn, [0])]
def p_M_width (L : Nat) : List RI := cond (Nat.beq L 0) b_M_width_0 []
def b_M_farBetween_0 : List RI := [(.aload_n 0, []), (.iload_n 1, []), (.invokevirtual 50, [94, 2, 16]), (.aload_n 0, []), (.iload_n 2, []), (.invokevirtual 50, [94, 2, 16]), (.invokestatic 54, [88, 2, 0]), (.aload_n 0, []), (.iload_n 1, []), (.invokevirtual 58, [95, 2, 16]), (.aload_n 0, []), (.iload_n 2, []), (.invokevirtual 58, [95, 2, 16]), (.invokestatic 54, [88, 2, 0]), (.invokestatic 61, [89, 2, 0]), (.ireturn, [0])]
def p_M_farBetween (L : Nat) : List RI := cond (Nat.beq L 0) b_M_farBetween_0 []
def b_M_kindOf_0 : List RI := [(.aload_n 0, []), (.getfield 7, [6, 0]), (.bipush 59, []), (.iconst 2, []), (.iload_n 1, []), (.imul, []), (.iadd, []), (.iaload, []), (.ireturn, [0])]
def p_M_kindOf (L : Nat) : List RI := cond (Nat.beq L 0) b_M_kindOf_0 []
def b_M_framesOf_0 : List RI := [(.aload_n 0, []), (.getfield 7, [6, 0]), (.bipush 59, []), (.iconst 2, []), (.iload_n 1, []), (.imul, []), (.iadd, []), (.iconst 1, []), (.iadd, []), (.iaload, []), (.ireturn, [0])]
def p_M_framesOf (L : Nat) : List RI := cond (Nat.beq L 0) b_M_framesOf_0 []
def b_M_setting_0 : List RI := [(.aload_n 0, []), (.getfield 7, [6, 0]), (.bipush 53, []), (.iload_n 1, []), (.iadd, []), (.iaload, []), (.ireturn, [0])]
def p_M_setting (L : Nat) : List RI := cond (Nat.beq L 0) b_M_setting_0 []
def b_M_firstOf_0 : List RI := [(.iconst 0, []), (.istore_n 2, []), (.iconst 0, []), (.istore_n 3, []), (.nop, [4])]
def b_M_firstOf_4 : List RI := [(.iload_n 3, []), (.iload_n 1, []), (.if_icmp .ge 17, [23]), (.iload_n 2, []), (.aload_n 0, []), (.iload_n 3, []), (.invokevirtual 64, [98, 2, 16]), (.iadd, []), (.istore_n 2, []), (.iinc 3 1, []), (.goto (-16), [4])]
def b_M_firstOf_23 : List RI := [(.iload_n 2, []), (.ireturn, [0])]
def p_M_firstOf (L : Nat) : List RI := cond (Nat.blt L 4) (cond (Nat.beq L 0) b_M_firstOf_0 []) (cond (Nat.blt L 23) (cond (Nat.beq L 4) b_M_firstOf_4 []) (cond (Nat.beq L 23) b_M_firstOf_23 []))
def b_M_frames_0 : List RI := [(.aload_n 0, []), (.aload_n 0, []), (.getfield 7, [6, 0]), (.bipush 58, []), (.iaload, []), (.invokevirtual 67, [100, 2, 16]), (.ireturn, [0])]
def p_M_frames (L : Nat) : List RI := cond (Nat.beq L 0) b_M_frames_0 []
def b_M_isFrame_0 : List RI := [(.iload_n 1, []), (.iconst 0, []), (.aload_n 0, []), (.invokevirtual 70, [101, 1, 16]), (.iconst 1, []), (.isub, []), (.invokestatic 46, [87, 3, 0]), (.ireturn, [1])]
def p_M_isFrame (L : Nat) : List RI := cond (Nat.beq L 0) b_M_isFrame_0 []
def b_M_segmentOf_0 : List RI := [(.iconst 0, []), (.istore_n 2, []), (.nop, [2])]
def b_M_segmentOf_2 : List RI := [(.aload_n 0, []), (.iload_n 2, []), (.iconst 1, []), (.iadd, []), (.invokevirtual 67, [100, 2, 16]), (.iload_n 1, []), (.if_icmp .gt 9, [19]), (.iinc 2 1, []), (.goto (-14), [2])]
def b_M_segmentOf_19 : List RI := [(.iload_n 2, []), (.ireturn, [0])]
def p_M_segmentOf (L : Nat) : List RI := cond (Nat.blt L 2) (cond (Nat.beq L 0) b_M_segmentOf_0 []) (cond (Nat.blt L 19) (cond (Nat.beq L 2) b_M_segmentOf_2 []) (cond (Nat.beq L 19) b_M_segmentOf_19 []))
def b_M_isSize_0 : List RI := [(.iload_n 0, []), (.iconst 0, []), (.bipush 9, []), (.invokestatic 46, [87, 3, 0]), (.ireturn, [1])]
def p_M_isSize (L : Nat) : List RI := cond (Nat.beq L 0) b_M_isSize_0 []
def b_M_addMouth_0 : List RI := [(.iload_n 1, []), (.invokestatic 74, [104, 1, 0]), (.ifCond .eq 10, [14]), (.iload_n 2, []), (.invokestatic 74, [104, 1, 0]), (.ifCond .ne 5, [16]), (.nop, [14])]
def b_M_addMouth_14 : List RI := [(.iconst (-1), []), (.ireturn, [0])]
def b_M_addMouth_16 : List RI := [(.aload_n 0, []), (.getfield 7, [6, 0]), (.iconst 0, []), (.iaload, []), (.bipush 8, []), (.if_icmp .ne 6, [30]), (.bipush (-3), []), (.ireturn, [0])]
def b_M_addMouth_30 : List RI := [(.aload_n 0, []), (.invokevirtual 78, [91, 1, 16]), (.aload_n 0, []), (.getfield 7, [6, 0]), (.iconst 1, []), (.iconst 2, []), (.aload_n 0, []), (.getfield 7, [6, 0]), (.iconst 0, []), (.iaload, []), (.imul, []), (.iadd, []), (.iload_n 1, []), (.iastore, []), (.aload_n 0, []), (.getfield 7, [6, 0]), (.iconst 1, []), (.iconst 2, []), (.aload_n 0, []), (.getfield 7, [6, 0]), (.iconst 0, []), (.iaload, []), (.imul, []), (.iadd, []), (.iconst 1, []), (.iadd, []), (.iload_n 2, []), (.iastore, []), (.aload_n 0, []), (.getfield 7, [6, 0]), (.iconst 0, []), (.dup2, []), (.iaload, []), (.iconst 1, []), (.iadd, []), (.iastore, []), (.aload_n 0, []), (.getfield 7, [6, 0]), (.iconst 0, []), (.iaload, []), (.iconst 1, []), (.isub, []), (.ireturn, [0])]
def p_M_addMouth (L : Nat) : List RI := cond (Nat.blt L 16) (cond (Nat.blt L 14) (cond (Nat.beq L 0) b_M_addMouth_0 []) (cond (Nat.beq L 14) b_M_addMouth_14 [])) (cond (Nat.blt L 30) (cond (Nat.beq L 16) b_M_addMouth_16 []) (cond (Nat.beq L 30) b_M_addMouth_30 []))
def b_M_setMouth_0 : List RI := [(.aload_n 0, []), (.iload_n 1, []), (.invokevirtual 81, [92, 2, 16]), (.ifCond .eq 17, [22]), (.iload_n 2, []), (.invokestatic 74, [104, 1, 0]), (.ifCond .eq 10, [22]), (.iload_n 3, []), (.invokestatic 74, [104, 1, 0]), (.ifCond .ne 5, [24]), (.nop, [22])]
def b_M_setMouth_22 : List RI := [(.iconst (-1), []), (.ireturn, [0])]
def b_M_setMouth_24 : List RI := [(.aload_n 0, []), (.invokevirtual 78, [91, 1, 16]), (.aload_n 0, []), (.iload_n 1, []), (.invokevirtual 50, [94, 2, 16]), (.iload_n 2, []), (.invokestatic 54, [88, 2, 0]), (.aload_n 0, []), (.iload_n 1, []), (.invokevirtual 58, [95, 2, 16]), (.iload_n 3, []), (.invokestatic 54, [88, 2, 0]), (.invokestatic 61, [89, 2, 0]), (.istore 4, []), (.aload_n 0, []), (.getfield 7, [6, 0]), (.iconst 1, []), (.iconst 2, []), (.iload_n 1, []), (.imul, []), (.iadd, []), (.iload_n 2, []), (.iastore, []), (.aload_n 0, []), (.getfield 7, [6, 0]), (.iconst 1, []), (.iconst 2, []), (.iload_n 1, []), (.imul, []), (.iadd, []), (.iconst 1, []), (.iadd, []), (.iload_n 3, []), (.iastore, []), (.iload 4, []), (.ireturn, [0])]
def p_M_setMouth (L : Nat) : List RI := cond (Nat.blt L 22) (cond (Nat.beq L 0) b_M_setMouth_0 []) (cond (Nat.blt L 24) (cond (Nat.beq L 22) b_M_setMouth_22 []) (cond (Nat.beq L 24) b_M_setMouth_24 []))
def b_M_setSound_0 : List RI := [(.iload_n 1, []), (.iconst 0, []), (.bipush 8, []), (.invokestatic 46, [87, 3, 0]), (.ifCond .eq 31, [38]), (.iload_n 2, []), (.iconst 0, []), (.iconst 3, []), (.invokestatic 46, [87, 3, 0]), (.ifCond .eq 22, [38]), (.iload_n 3, []), (.iconst 0, []), (.iload_n 2, []), (.iconst 3, []), (.if_icmp .ne 7, [30]), (.iconst 3, []), (.goto 5, [32])]
def b_M_setSound_30 : List RI := [(.bipush 9, []), (.nop, [32])]
def b_M_setSound_32 : List RI := [(.invokestatic 46, [87, 3, 0]), (.ifCond .ne 5, [40]), (.nop, [38])]
def b_M_setSound_38 : List RI := [(.iconst (-1), []), (.ireturn, [0])]
def b_M_setSound_40 : List RI := [(.aload_n 0, []), (.invokevirtual 78, [91, 1, 16]), (.aload_n 0, []), (.getfield 7, [6, 0]), (.bipush 17, []), (.iconst 4, []), (.iload_n 1, []), (.imul, []), (.iadd, []), (.iload_n 2, []), (.iadd, []), (.iaload, []), (.istore 4, []), (.aload_n 0, []), (.getfield 7, [6, 0]), (.bipush 17, []), (.iconst 4, []), (.iload_n 1, []), (.imul, []), (.iadd, []), (.iload_n 2, []), (.iadd, []), (.iload_n 3, []), (.iastore, []), (.iload 4, []), (.ireturn, [0])]
def p_M_setSound (L : Nat) : List RI := cond (Nat.blt L 32) (cond (Nat.blt L 30) (cond (Nat.beq L 0) b_M_setSound_0 []) (cond (Nat.beq L 30) b_M_setSound_30 [])) (cond (Nat.blt L 38) (cond (Nat.beq L 32) b_M_setSound_32 []) (cond (Nat.blt L 40) (cond (Nat.beq L 38) b_M_setSound_38 []) (cond (Nat.beq L 40) b_M_setSound_40 [])))
def b_M_isSetting_0 : List RI := [(.iload_n 0, []), (.tableswitch 62 0 3 #[31, 39, 46, 54], [63, 32, 40, 47, 55])]
def b_M_isSetting_32 : List RI := [(.iload_n 1, []), (.iconst 1, []), (.bipush 9, []), (.invokestatic 46, [87, 3, 0]), (.ireturn, [1])]
def b_M_isSetting_40 : List RI := [(.iload_n 1, []), (.iconst 1, []), (.iconst 3, []), (.invokestatic 46, [87, 3, 0]), (.ireturn, [1])]
def b_M_isSetting_47 : List RI := [(.iload_n 1, []), (.iconst 0, []), (.bipush 9, []), (.invokestatic 46, [87, 3, 0]), (.ireturn, [1])]
def b_M_isSetting_55 : List RI := [(.iload_n 1, []), (.iconst 1, []), (.bipush 99, []), (.invokestatic 46, [87, 3, 0]), (.ireturn, [1])]
def b_M_isSetting_63 : List RI := [(.iload_n 0, []), (.iconst 4, []), (.if_icmp .ne 17, [82]), (.iload_n 1, []), (.iconst 1, []), (.bipush 20, []), (.invokestatic 46, [87, 3, 0]), (.ifCond .eq 7, [82]), (.iconst 1, []), (.goto 4, [83])]
def b_M_isSetting_82 : List RI := [(.iconst 0, []), (.nop, [83])]
def b_M_isSetting_83 : List RI := [(.ireturn, [1])]
def p_M_isSetting (L : Nat) : List RI := cond (Nat.blt L 55) (cond (Nat.blt L 40) (cond (Nat.blt L 32) (cond (Nat.beq L 0) b_M_isSetting_0 []) (cond (Nat.beq L 32) b_M_isSetting_32 [])) (cond (Nat.blt L 47) (cond (Nat.beq L 40) b_M_isSetting_40 []) (cond (Nat.beq L 47) b_M_isSetting_47 []))) (cond (Nat.blt L 82) (cond (Nat.blt L 63) (cond (Nat.beq L 55) b_M_isSetting_55 []) (cond (Nat.beq L 63) b_M_isSetting_63 [])) (cond (Nat.blt L 83) (cond (Nat.beq L 82) b_M_isSetting_82 []) (cond (Nat.beq L 83) b_M_isSetting_83 [])))
def b_M_setNumber_0 : List RI := [(.iload_n 1, []), (.iload_n 2, []), (.invokestatic 84, [108, 2, 0]), (.ifCond .ne 5, [10]), (.iconst (-1), []), (.ireturn, [0])]
def b_M_setNumber_10 : List RI := [(.aload_n 0, []), (.invokevirtual 78, [91, 1, 16]), (.aload_n 0, []), (.iload_n 1, []), (.invokevirtual 88, [99, 2, 16]), (.istore_n 3, []), (.aload_n 0, []), (.getfield 7, [6, 0]), (.bipush 53, []), (.iload_n 1, []), (.iadd, []), (.iload_n 2, []), (.iastore, []), (.iload_n 3, []), (.ireturn, [0])]
def p_M_setNumber (L : Nat) : List RI := cond (Nat.blt L 10) (cond (Nat.beq L 0) b_M_setNumber_0 []) (cond (Nat.beq L 10) b_M_setNumber_10 [])
def b_M_opens_0 : List RI := [(.iload_n 3, []), (.iconst 1, []), (.isub, []), (.istore 4, []), (.nop, [5])]
def b_M_opens_5 : List RI := [(.iload 4, []), (.iload_n 1, []), (.if_icmp .lt 43, [51]), (.aload_n 0, []), (.bipush 119, []), (.iload 4, []), (.iadd, []), (.iload_n 2, []), (.iadd, []), (.aload_n 0, []), (.bipush 119, []), (.iload 4, []), (.iadd, []), (.iaload, []), (.iastore, []), (.aload_n 0, []), (.sipush 218, []), (.iload 4, []), (.iadd, []), (.iload_n 2, []), (.iadd, []), (.aload_n 0, []), (.sipush 218, []), (.iload 4, []), (.iadd, []), (.iaload, []), (.iastore, []), (.iinc 4 (-1), []), (.goto (-43), [5])]
def b_M_opens_51 : List RI := [(.iload_n 1, []), (.istore 4, []), (.nop, [54])]
def b_M_opens_54 : List RI := [(.iload 4, []), (.iload_n 1, []), (.iload_n 2, []), (.iadd, []), (.if_icmp .ge 26, [85]), (.aload_n 0, []), (.bipush 119, []), (.iload 4, []), (.iadd, []), (.iconst (-1), []), (.iastore, []), (.aload_n 0, []), (.sipush 218, []), (.iload 4, []), (.iadd, []), (.iconst (-1), []), (.iastore, []), (.iinc 4 1, []), (.goto (-28), [54])]
def b_M_opens_85 : List RI := [(.return_, [])]
def p_M_opens (L : Nat) : List RI := cond (Nat.blt L 51) (cond (Nat.blt L 5) (cond (Nat.beq L 0) b_M_opens_0 []) (cond (Nat.beq L 5) b_M_opens_5 [])) (cond (Nat.blt L 54) (cond (Nat.beq L 51) b_M_opens_51 []) (cond (Nat.blt L 85) (cond (Nat.beq L 54) b_M_opens_54 []) (cond (Nat.beq L 85) b_M_opens_85 [])))
def b_M_closes_0 : List RI := [(.iload_n 1, []), (.istore 4, []), (.nop, [3])]
def b_M_closes_3 : List RI := [(.iload 4, []), (.iload_n 3, []), (.iload_n 2, []), (.isub, []), (.if_icmp .ge 43, [51]), (.aload_n 0, []), (.bipush 119, []), (.iload 4, []), (.iadd, []), (.aload_n 0, []), (.bipush 119, []), (.iload 4, []), (.iadd, []), (.iload_n 2, []), (.iadd, []), (.iaload, []), (.iastore, []), (.aload_n 0, []), (.sipush 218, []), (.iload 4, []), (.iadd, []), (.aload_n 0, []), (.sipush 218, []), (.iload 4, []), (.iadd, []), (.iload_n 2, []), (.iadd, []), (.iaload, []), (.iastore, []), (.iinc 4 1, []), (.goto (-45), [3])]
def b_M_closes_51 : List RI := [(.return_, [])]
def p_M_closes (L : Nat) : List RI := cond (Nat.blt L 3) (cond (Nat.beq L 0) b_M_closes_0 []) (cond (Nat.blt L 51) (cond (Nat.beq L 3) b_M_closes_3 []) (cond (Nat.beq L 51) b_M_closes_51 []))
def b_M_allOf_0 : List RI := [(.iconst 0, []), (.istore_n 1, []), (.iconst 0, []), (.istore_n 2, []), (.nop, [4])]
def b_M_allOf_4 : List RI := [(.iload_n 2, []), (.aload_n 0, []), (.bipush 58, []), (.iaload, []), (.if_icmp .ge 22, [31]), (.iload_n 1, []), (.aload_n 0, []), (.bipush 59, []), (.iconst 2, []), (.iload_n 2, []), (.imul, []), (.iadd, []), (.iconst 1, []), (.iadd, []), (.iaload, []), (.iadd, []), (.istore_n 1, []), (.iinc 2 1, []), (.goto (-24), [4])]
def b_M_allOf_31 : List RI := [(.iload_n 1, []), (.ireturn, [0])]
def p_M_allOf (L : Nat) : List RI := cond (Nat.blt L 4) (cond (Nat.beq L 0) b_M_allOf_0 []) (cond (Nat.blt L 31) (cond (Nat.beq L 4) b_M_allOf_4 []) (cond (Nat.beq L 31) b_M_allOf_31 []))
def b_M_inserts_0 : List RI := [(.aload_n 0, []), (.invokestatic 91, [112, 1, 0]), (.istore 4, []), (.iconst 0, []), (.istore 5, []), (.iconst 0, []), (.istore 6, []), (.nop, [12])]
def b_M_inserts_12 : List RI := [(.iload 6, []), (.iload_n 1, []), (.if_icmp .ge 25, [40]), (.iload 5, []), (.aload_n 0, []), (.bipush 59, []), (.iconst 2, []), (.iload 6, []), (.imul, []), (.iadd, []), (.iconst 1, []), (.iadd, []), (.iaload, []), (.iadd, []), (.istore 5, []), (.iinc 6 1, []), (.goto (-25), [12])]
def b_M_inserts_40 : List RI := [(.aload_n 0, []), (.iload 5, []), (.iload_n 3, []), (.iload 4, []), (.invokestatic 95, [110, 4, 0]), (.bipush 59, []), (.iconst 2, []), (.aload_n 0, []), (.bipush 58, []), (.iaload, []), (.imul, []), (.iadd, []), (.iconst 1, []), (.isub, []), (.istore 6, []), (.nop, [62])]
def b_M_inserts_62 : List RI := [(.iload 6, []), (.bipush 59, []), (.iconst 2, []), (.iload_n 1, []), (.imul, []), (.iadd, []), (.if_icmp .lt 19, [89]), (.aload_n 0, []), (.iload 6, []), (.iconst 2, []), (.iadd, []), (.aload_n 0, []), (.iload 6, []), (.iaload, []), (.iastore, []), (.iinc 6 (-1), []), (.goto (-24), [62])]
def b_M_inserts_89 : List RI := [(.aload_n 0, []), (.bipush 59, []), (.iconst 2, []), (.iload_n 1, []), (.imul, []), (.iadd, []), (.iload_n 2, []), (.iastore, []), (.aload_n 0, []), (.bipush 59, []), (.iconst 2, []), (.iload_n 1, []), (.imul, []), (.iadd, []), (.iconst 1, []), (.iadd, []), (.iload_n 3, []), (.iastore, []), (.aload_n 0, []), (.bipush 58, []), (.dup2, []), (.iaload, []), (.iconst 1, []), (.iadd, []), (.iastore, []), (.return_, [])]
def p_M_inserts (L : Nat) : List RI := cond (Nat.blt L 40) (cond (Nat.blt L 12) (cond (Nat.beq L 0) b_M_inserts_0 []) (cond (Nat.beq L 12) b_M_inserts_12 [])) (cond (Nat.blt L 62) (cond (Nat.beq L 40) b_M_inserts_40 []) (cond (Nat.blt L 89) (cond (Nat.beq L 62) b_M_inserts_62 []) (cond (Nat.beq L 89) b_M_inserts_89 [])))
def b_M_hasRoom_0 : List RI := [(.aload_n 0, []), (.bipush 58, []), (.iaload, []), (.bipush 30, []), (.if_icmp .ge 18, [24]), (.aload_n 0, []), (.invokestatic 91, [112, 1, 0]), (.iload_n 1, []), (.iadd, []), (.bipush 99, []), (.if_icmp .gt 7, [24]), (.iconst 1, []), (.goto 4, [25])]
def b_M_hasRoom_24 : List RI := [(.iconst 0, []), (.nop, [25])]
def b_M_hasRoom_25 : List RI := [(.ireturn, [1])]
def p_M_hasRoom (L : Nat) : List RI := cond (Nat.blt L 24) (cond (Nat.beq L 0) b_M_hasRoom_0 []) (cond (Nat.blt L 25) (cond (Nat.beq L 24) b_M_hasRoom_24 []) (cond (Nat.beq L 25) b_M_hasRoom_25 []))
def b_M_insert_0 : List RI := [(.iload_n 1, []), (.iconst 0, []), (.aload_n 0, []), (.getfield 7, [6, 0]), (.bipush 58, []), (.iaload, []), (.invokestatic 46, [87, 3, 0]), (.ifCond .eq 23, [35]), (.iload_n 2, []), (.iconst 0, []), (.bipush 9, []), (.invokestatic 46, [87, 3, 0]), (.ifCond .eq 13, [35]), (.iload_n 3, []), (.iconst 1, []), (.bipush 20, []), (.invokestatic 46, [87, 3, 0]), (.ifCond .ne 5, [37]), (.nop, [35])]
def b_M_insert_35 : List RI := [(.iconst (-1), []), (.ireturn, [0])]
def b_M_insert_37 : List RI := [(.aload_n 0, []), (.getfield 7, [6, 0]), (.iload_n 3, []), (.invokestatic 99, [114, 2, 0]), (.ifCond .ne 6, [51]), (.bipush (-3), []), (.ireturn, [0])]
def b_M_insert_51 : List RI := [(.aload_n 0, []), (.invokevirtual 78, [91, 1, 16]), (.aload_n 0, []), (.getfield 7, [6, 0]), (.iload_n 1, []), (.iload_n 2, []), (.iload_n 3, []), (.invokestatic 103, [113, 4, 0]), (.aload_n 0, []), (.invokevirtual 70, [101, 1, 16]), (.ireturn, [0])]
def p_M_insert (L : Nat) : List RI := cond (Nat.blt L 37) (cond (Nat.blt L 35) (cond (Nat.beq L 0) b_M_insert_0 []) (cond (Nat.beq L 35) b_M_insert_35 [])) (cond (Nat.blt L 51) (cond (Nat.beq L 37) b_M_insert_37 []) (cond (Nat.beq L 51) b_M_insert_51 []))
def b_M_remove_0 : List RI := [(.aload_n 0, []), (.iload_n 1, []), (.invokevirtual 106, [93, 2, 16]), (.ifCond .ne 5, [10]), (.iconst (-1), []), (.ireturn, [0])]
def b_M_remove_10 : List RI := [(.aload_n 0, []), (.invokevirtual 78, [91, 1, 16]), (.aload_n 0, []), (.getfield 7, [6, 0]), (.aload_n 0, []), (.iload_n 1, []), (.invokevirtual 67, [100, 2, 16]), (.aload_n 0, []), (.iload_n 1, []), (.invokevirtual 64, [98, 2, 16]), (.aload_n 0, []), (.invokevirtual 70, [101, 1, 16]), (.invokestatic 109, [111, 4, 0]), (.aload_n 0, []), (.getfield 7, [6, 0]), (.bipush 58, []), (.dup2, []), (.iaload, []), (.iconst 1, []), (.isub, []), (.iastore, []), (.bipush 59, []), (.iconst 2, []), (.iload_n 1, []), (.imul, []), (.iadd, []), (.istore_n 2, []), (.nop, [53])]
def b_M_remove_53 : List RI := [(.iload_n 2, []), (.bipush 59, []), (.iconst 2, []), (.aload_n 0, []), (.getfield 7, [6, 0]), (.bipush 58, []), (.iaload, []), (.imul, []), (.iadd, []), (.if_icmp .ge 23, [89]), (.aload_n 0, []), (.getfield 7, [6, 0]), (.iload_n 2, []), (.aload_n 0, []), (.getfield 7, [6, 0]), (.iload_n 2, []), (.iconst 2, []), (.iadd, []), (.iaload, []), (.iastore, []), (.iinc 2 1, []), (.goto (-33), [53])]
def b_M_remove_89 : List RI := [(.aload_n 0, []), (.invokevirtual 70, [101, 1, 16]), (.ireturn, [0])]
def p_M_remove (L : Nat) : List RI := cond (Nat.blt L 53) (cond (Nat.blt L 10) (cond (Nat.beq L 0) b_M_remove_0 []) (cond (Nat.beq L 10) b_M_remove_10 [])) (cond (Nat.blt L 89) (cond (Nat.beq L 53) b_M_remove_53 []) (cond (Nat.beq L 89) b_M_remove_89 []))
def b_M_stretch_0 : List RI := [(.aload_n 0, []), (.iload_n 1, []), (.invokevirtual 106, [93, 2, 16]), (.ifCond .eq 13, [18]), (.iload_n 2, []), (.iconst 1, []), (.bipush 20, []), (.invokestatic 46, [87, 3, 0]), (.ifCond .ne 5, [20]), (.nop, [18])]
def b_M_stretch_18 : List RI := [(.iconst (-1), []), (.ireturn, [0])]
def b_M_stretch_20 : List RI := [(.aload_n 0, []), (.iload_n 1, []), (.invokevirtual 64, [98, 2, 16]), (.istore_n 3, []), (.aload_n 0, []), (.invokevirtual 70, [101, 1, 16]), (.iload_n 3, []), (.isub, []), (.iload_n 2, []), (.iadd, []), (.bipush 99, []), (.if_icmp .le 6, [42]), (.bipush (-3), []), (.ireturn, [0])]
def b_M_stretch_42 : List RI := [(.aload_n 0, []), (.invokevirtual 78, [91, 1, 16]), (.aload_n 0, []), (.iload_n 1, []), (.invokevirtual 67, [100, 2, 16]), (.istore 4, []), (.iload_n 2, []), (.iload_n 3, []), (.if_icmp .ge 24, [79]), (.aload_n 0, []), (.getfield 7, [6, 0]), (.iload 4, []), (.iload_n 2, []), (.iadd, []), (.iload_n 3, []), (.iload_n 2, []), (.isub, []), (.aload_n 0, []), (.invokevirtual 70, [101, 1, 16]), (.invokestatic 109, [111, 4, 0]), (.goto 21, [97])]
def b_M_stretch_79 : List RI := [(.aload_n 0, []), (.getfield 7, [6, 0]), (.iload 4, []), (.iload_n 3, []), (.iadd, []), (.iload_n 2, []), (.iload_n 3, []), (.isub, []), (.aload_n 0, []), (.invokevirtual 70, [101, 1, 16]), (.invokestatic 95, [110, 4, 0]), (.nop, [97])]
def b_M_stretch_97 : List RI := [(.aload_n 0, []), (.getfield 7, [6, 0]), (.bipush 59, []), (.iconst 2, []), (.iload_n 1, []), (.imul, []), (.iadd, []), (.iconst 1, []), (.iadd, []), (.iload_n 2, []), (.iastore, []), (.iload_n 3, []), (.ireturn, [0])]
def p_M_stretch (L : Nat) : List RI := cond (Nat.blt L 42) (cond (Nat.blt L 18) (cond (Nat.beq L 0) b_M_stretch_0 []) (cond (Nat.blt L 20) (cond (Nat.beq L 18) b_M_stretch_18 []) (cond (Nat.beq L 20) b_M_stretch_20 []))) (cond (Nat.blt L 79) (cond (Nat.beq L 42) b_M_stretch_42 []) (cond (Nat.blt L 97) (cond (Nat.beq L 79) b_M_stretch_79 []) (cond (Nat.beq L 97) b_M_stretch_97 [])))
def b_M_puts_0 : List RI := [(.aload_n 0, []), (.iload_n 2, []), (.invokevirtual 112, [102, 2, 16]), (.ifCond .eq 16, [21]), (.iload_n 3, []), (.iconst (-1), []), (.if_icmp .eq 13, [23]), (.aload_n 0, []), (.iload_n 3, []), (.invokevirtual 81, [92, 2, 16]), (.ifCond .ne 5, [23]), (.nop, [21])]
def b_M_puts_21 : List RI := [(.iconst (-1), []), (.ireturn, [0])]
def b_M_puts_23 : List RI := [(.aload_n 0, []), (.invokevirtual 78, [91, 1, 16]), (.aload_n 0, []), (.getfield 7, [6, 0]), (.iload_n 1, []), (.iload_n 2, []), (.iadd, []), (.iaload, []), (.istore 4, []), (.aload_n 0, []), (.getfield 7, [6, 0]), (.iload_n 1, []), (.iload_n 2, []), (.iadd, []), (.iload_n 3, []), (.iastore, []), (.iload 4, []), (.ifCond .ge 8, [56]), (.bipush (-99), []), (.goto 5, [58])]
def b_M_puts_56 : List RI := [(.iload 4, []), (.nop, [58])]
def b_M_puts_58 : List RI := [(.ireturn, [0])]
def p_M_puts (L : Nat) : List RI := cond (Nat.blt L 23) (cond (Nat.blt L 21) (cond (Nat.beq L 0) b_M_puts_0 []) (cond (Nat.beq L 21) b_M_puts_21 [])) (cond (Nat.blt L 56) (cond (Nat.beq L 23) b_M_puts_23 []) (cond (Nat.blt L 58) (cond (Nat.beq L 56) b_M_puts_56 []) (cond (Nat.beq L 58) b_M_puts_58 [])))
def b_M_pin_0 : List RI := [(.aload_n 0, []), (.bipush 119, []), (.iload_n 1, []), (.iload_n 2, []), (.invokevirtual 115, [118, 4, 16]), (.ireturn, [0])]
def p_M_pin (L : Nat) : List RI := cond (Nat.beq L 0) b_M_pin_0 []
def b_M_draw_0 : List RI := [(.aload_n 0, []), (.sipush 218, []), (.iload_n 1, []), (.iload_n 2, []), (.invokevirtual 115, [118, 4, 16]), (.ireturn, [0])]
def p_M_draw (L : Nat) : List RI := cond (Nat.beq L 0) b_M_draw_0 []
def b_M_nearestTo_0 : List RI := [(.bipush (-99), []), (.istore 4, []), (.ldc 119, [1000000]), (.istore 5, []), (.iconst 0, []), (.istore 6, []), (.nop, [11])]
def b_M_nearestTo_11 : List RI := [(.iload 6, []), (.aload_n 0, []), (.getfield 7, [6, 0]), (.iconst 0, []), (.iaload, []), (.if_icmp .ge 95, [114]), (.aload_n 0, []), (.iload 6, []), (.invokevirtual 50, [94, 2, 16]), (.iload_n 1, []), (.invokestatic 54, [88, 2, 0]), (.aload_n 0, []), (.iload 6, []), (.invokevirtual 58, [95, 2, 16]), (.iload_n 2, []), (.invokestatic 54, [88, 2, 0]), (.invokestatic 61, [89, 2, 0]), (.istore 7, []), (.iload_n 3, []), (.ifCond .lt 18, [66]), (.aload_n 0, []), (.iload_n 3, []), (.iload 6, []), (.invokevirtual 120, [96, 3, 16]), (.aload_n 0, []), (.iconst 0, []), (.invokevirtual 88, [99, 2, 16]), (.if_icmp .gt 14, [77]), (.nop, [66])]
def b_M_nearestTo_66 : List RI := [(.iload 7, []), (.iload 5, []), (.if_icmp .ge 7, [77]), (.iconst 1, []), (.goto 4, [78])]
def b_M_nearestTo_77 : List RI := [(.iconst 0, []), (.nop, [78])]
def b_M_nearestTo_78 : List RI := [(.istore 8, []), (.iload 8, []), (.ifCond .eq 8, [90]), (.iload 6, []), (.goto 5, [92])]
def b_M_nearestTo_90 : List RI := [(.iload 4, []), (.nop, [92])]
def b_M_nearestTo_92 : List RI := [(.istore 4, []), (.iload 8, []), (.ifCond .eq 8, [104]), (.iload 7, []), (.goto 5, [106])]
def b_M_nearestTo_104 : List RI := [(.iload 5, []), (.nop, [106])]
def b_M_nearestTo_106 : List RI := [(.istore 5, []), (.iinc 6 1, []), (.goto (-100), [11])]
def b_M_nearestTo_114 : List RI := [(.iload 4, []), (.ireturn, [0])]
def p_M_nearestTo (L : Nat) : List RI := cond (Nat.blt L 90) (cond (Nat.blt L 66) (cond (Nat.blt L 11) (cond (Nat.beq L 0) b_M_nearestTo_0 []) (cond (Nat.beq L 11) b_M_nearestTo_11 [])) (cond (Nat.blt L 77) (cond (Nat.beq L 66) b_M_nearestTo_66 []) (cond (Nat.blt L 78) (cond (Nat.beq L 77) b_M_nearestTo_77 []) (cond (Nat.beq L 78) b_M_nearestTo_78 [])))) (cond (Nat.blt L 104) (cond (Nat.blt L 92) (cond (Nat.beq L 90) b_M_nearestTo_90 []) (cond (Nat.beq L 92) b_M_nearestTo_92 [])) (cond (Nat.blt L 106) (cond (Nat.beq L 104) b_M_nearestTo_104 []) (cond (Nat.blt L 114) (cond (Nat.beq L 106) b_M_nearestTo_106 []) (cond (Nat.beq L 114) b_M_nearestTo_114 []))))
def b_M_between_0 : List RI := [(.aload_n 0, []), (.iload_n 1, []), (.invokevirtual 112, [102, 2, 16]), (.ifCond .eq 16, [21]), (.aload_n 0, []), (.iload_n 2, []), (.invokevirtual 112, [102, 2, 16]), (.ifCond .eq 8, [21]), (.iload_n 2, []), (.iload_n 1, []), (.if_icmp .gt 5, [23]), (.nop, [21])]
def b_M_between_21 : List RI := [(.iconst (-1), []), (.ireturn, [0])]
def b_M_between_23 : List RI := [(.aload_n 0, []), (.getfield 7, [6, 0]), (.sipush 218, []), (.iload_n 1, []), (.iadd, []), (.iaload, []), (.istore_n 3, []), (.aload_n 0, []), (.getfield 7, [6, 0]), (.sipush 218, []), (.iload_n 2, []), (.iadd, []), (.iaload, []), (.istore 4, []), (.iload_n 3, []), (.ifCond .lt 8, [55]), (.iload 4, []), (.ifCond .ge 6, [58]), (.nop, [55])]
def b_M_between_55 : List RI := [(.bipush (-2), []), (.ireturn, [0])]
def b_M_between_58 : List RI := [(.aload_n 0, []), (.invokevirtual 78, [91, 1, 16]), (.iload_n 1, []), (.iconst 1, []), (.iadd, []), (.istore 5, []), (.nop, [67])]
def b_M_between_67 : List RI := [(.iload 5, []), (.iload_n 2, []), (.if_icmp .ge 99, [169]), (.aload_n 0, []), (.iload_n 3, []), (.invokevirtual 50, [94, 2, 16]), (.aload_n 0, []), (.iload 4, []), (.invokevirtual 50, [94, 2, 16]), (.aload_n 0, []), (.iload_n 3, []), (.invokevirtual 50, [94, 2, 16]), (.isub, []), (.iload 5, []), (.iload_n 1, []), (.isub, []), (.imul, []), (.iload_n 2, []), (.iload_n 1, []), (.isub, []), (.idiv, []), (.iadd, []), (.istore 6, []), (.aload_n 0, []), (.iload_n 3, []), (.invokevirtual 58, [95, 2, 16]), (.aload_n 0, []), (.iload 4, []), (.invokevirtual 58, [95, 2, 16]), (.aload_n 0, []), (.iload_n 3, []), (.invokevirtual 58, [95, 2, 16]), (.isub, []), (.iload 5, []), (.iload_n 1, []), (.isub, []), (.imul, []), (.iload_n 2, []), (.iload_n 1, []), (.isub, []), (.idiv, []), (.iadd, []), (.istore 7, []), (.aload_n 0, []), (.getfield 7, [6, 0]), (.sipush 218, []), (.iload 5, []), (.iadd, []), (.aload_n 0, []), (.iload 6, []), (.iload 7, []), (.aload_n 0, []), (.getfield 7, [6, 0]), (.sipush 218, []), (.iload 5, []), (.iadd, []), (.iconst 1, []), (.isub, []), (.iaload, []), (.invokevirtual 123, [121, 4, 16]), (.iastore, []), (.iinc 5 1, []), (.goto (-99), [67])]
def b_M_between_169 : List RI := [(.aload_n 0, []), (.aload_n 0, []), (.getfield 7, [6, 0]), (.sipush 218, []), (.iload_n 2, []), (.iadd, []), (.iconst 1, []), (.isub, []), (.iaload, []), (.iload 4, []), (.invokevirtual 120, [96, 3, 16]), (.ireturn, [0])]
def p_M_between (L : Nat) : List RI := cond (Nat.blt L 55) (cond (Nat.blt L 21) (cond (Nat.beq L 0) b_M_between_0 []) (cond (Nat.blt L 23) (cond (Nat.beq L 21) b_M_between_21 []) (cond (Nat.beq L 23) b_M_between_23 []))) (cond (Nat.blt L 67) (cond (Nat.blt L 58) (cond (Nat.beq L 55) b_M_between_55 []) (cond (Nat.beq L 58) b_M_between_58 [])) (cond (Nat.blt L 169) (cond (Nat.beq L 67) b_M_between_67 []) (cond (Nat.beq L 169) b_M_between_169 [])))
def b_M_finish_0 : List RI := [(.aload_n 0, []), (.aload_n 0, []), (.iconst 0, []), (.invokevirtual 88, [99, 2, 16]), (.bipush (-99), []), (.bipush (-99), []), (.invokevirtual 126, [141, 4, 16]), (.istore_n 1, []), (.iload_n 1, []), (.bipush (-99), []), (.if_icmp .ne 6, [23]), (.bipush (-2), []), (.ireturn, [0])]
def b_M_finish_23 : List RI := [(.aload_n 0, []), (.invokevirtual 78, [91, 1, 16]), (.aload_n 0, []), (.getfield 32, [6, 11]), (.iconst 0, []), (.aload_n 0, []), (.getfield 7, [6, 0]), (.sipush 218, []), (.aload_n 0, []), (.invokevirtual 70, [101, 1, 16]), (.invokestatic 42, [90, 5, 0]), (.iload_n 1, []), (.ireturn, [0])]
def p_M_finish (L : Nat) : List RI := cond (Nat.blt L 23) (cond (Nat.beq L 0) b_M_finish_0 []) (cond (Nat.beq L 23) b_M_finish_23 [])
def b_M_breathes_0 : List RI := [(.aload_n 1, []), (.bipush 56, []), (.iaload, []), (.istore_n 2, []), (.iconst 0, []), (.istore_n 3, []), (.bipush 99, []), (.istore 4, []), (.iconst 0, []), (.istore 5, []), (.nop, [14])]
def b_M_breathes_14 : List RI := [(.iload 5, []), (.aload_n 1, []), (.bipush 58, []), (.iaload, []), (.if_icmp .ge 173, [193]), (.aload_n 1, []), (.bipush 59, []), (.iconst 2, []), (.iload 5, []), (.imul, []), (.iadd, []), (.iaload, []), (.istore 6, []), (.iconst 0, []), (.istore 7, []), (.nop, [37])]
def b_M_breathes_37 : List RI := [(.iload 7, []), (.aload_n 1, []), (.bipush 59, []), (.iconst 2, []), (.iload 5, []), (.imul, []), (.iadd, []), (.iconst 1, []), (.iadd, []), (.iaload, []), (.if_icmp .ge 137, [187]), (.iload 6, []), (.bipush 9, []), (.if_icmp .ne 7, [64]), (.iconst 0, []), (.goto 14, [75])]
def b_M_breathes_64 : List RI := [(.aload_n 1, []), (.bipush 17, []), (.iconst 4, []), (.iload 6, []), (.imul, []), (.iadd, []), (.iconst 3, []), (.iadd, []), (.iaload, []), (.nop, [75])]
def b_M_breathes_75 : List RI := [(.istore 8, []), (.aload_n 0, []), (.getfield 25, [6, 7]), (.iload_n 3, []), (.iload_n 2, []), (.iload 8, []), (.if_icmp .ge 7, [92]), (.iconst 1, []), (.goto 4, [93])]
def b_M_breathes_92 : List RI := [(.iconst 0, []), (.nop, [93])]
def b_M_breathes_93 : List RI := [(.bastore, []), (.aload_n 0, []), (.getfield 25, [6, 7]), (.iload_n 3, []), (.baload, []), (.ifCond .eq 14, [114]), (.iload 4, []), (.bipush 99, []), (.if_icmp .ne 7, [114]), (.iload_n 3, []), (.goto 5, [116])]
def b_M_breathes_114 : List RI := [(.iload 4, []), (.nop, [116])]
def b_M_breathes_116 : List RI := [(.istore 4, []), (.aload_n 0, []), (.getfield 25, [6, 7]), (.iload_n 3, []), (.baload, []), (.ifCond .eq 7, [131]), (.iconst 0, []), (.goto 7, [135])]
def b_M_breathes_131 : List RI := [(.iload_n 2, []), (.iload 8, []), (.isub, []), (.nop, [135])]
def b_M_breathes_135 : List RI := [(.istore_n 2, []), (.iload_n 2, []), (.iload 6, []), (.bipush 9, []), (.if_icmp .ne 10, [151]), (.aload_n 1, []), (.bipush 57, []), (.iaload, []), (.goto 4, [152])]
def b_M_breathes_151 : List RI := [(.iconst 0, []), (.nop, [152])]
def b_M_breathes_152 : List RI := [(.iadd, []), (.istore_n 2, []), (.iload_n 2, []), (.aload_n 1, []), (.bipush 56, []), (.iaload, []), (.if_icmp .le 10, [169]), (.aload_n 1, []), (.bipush 56, []), (.iaload, []), (.goto 4, [170])]
def b_M_breathes_169 : List RI := [(.iload_n 2, []), (.nop, [170])]
def b_M_breathes_170 : List RI := [(.istore_n 2, []), (.aload_n 0, []), (.getfield 22, [6, 6]), (.iload_n 3, []), (.iload_n 2, []), (.iastore, []), (.iinc 3 1, []), (.iinc 7 1, []), (.goto (-147), [37])]
def b_M_breathes_187 : List RI := [(.iinc 5 1, []), (.goto (-176), [14])]
def b_M_breathes_193 : List RI := [(.iload 4, []), (.ireturn, [0])]
def p_M_breathes (L : Nat) : List RI := cond (Nat.blt L 116) (cond (Nat.blt L 75) (cond (Nat.blt L 37) (cond (Nat.blt L 14) (cond (Nat.beq L 0) b_M_breathes_0 []) (cond (Nat.beq L 14) b_M_breathes_14 [])) (cond (Nat.blt L 64) (cond (Nat.beq L 37) b_M_breathes_37 []) (cond (Nat.beq L 64) b_M_breathes_64 []))) (cond (Nat.blt L 93) (cond (Nat.blt L 92) (cond (Nat.beq L 75) b_M_breathes_75 []) (cond (Nat.beq L 92) b_M_breathes_92 [])) (cond (Nat.blt L 114) (cond (Nat.beq L 93) b_M_breathes_93 []) (cond (Nat.beq L 114) b_M_breathes_114 [])))) (cond (Nat.blt L 152) (cond (Nat.blt L 135) (cond (Nat.blt L 131) (cond (Nat.beq L 116) b_M_breathes_116 []) (cond (Nat.beq L 131) b_M_breathes_131 [])) (cond (Nat.blt L 151) (cond (Nat.beq L 135) b_M_breathes_135 []) (cond (Nat.beq L 151) b_M_breathes_151 []))) (cond (Nat.blt L 170) (cond (Nat.blt L 169) (cond (Nat.beq L 152) b_M_breathes_152 []) (cond (Nat.beq L 169) b_M_breathes_169 [])) (cond (Nat.blt L 187) (cond (Nat.beq L 170) b_M_breathes_170 []) (cond (Nat.blt L 193) (cond (Nat.beq L 187) b_M_breathes_187 []) (cond (Nat.beq L 193) b_M_breathes_193 [])))))
def b_M_segmentIn_0 : List RI := [(.iconst 0, []), (.istore_n 2, []), (.iload_n 1, []), (.istore_n 3, []), (.nop, [4])]
def b_M_segmentIn_4 : List RI := [(.iload_n 3, []), (.aload_n 0, []), (.bipush 59, []), (.iconst 2, []), (.iload_n 2, []), (.imul, []), (.iadd, []), (.iconst 1, []), (.iadd, []), (.iaload, []), (.if_icmp .lt 22, [37]), (.iload_n 3, []), (.aload_n 0, []), (.bipush 59, []), (.iconst 2, []), (.iload_n 2, []), (.imul, []), (.iadd, []), (.iconst 1, []), (.iadd, []), (.iaload, []), (.isub, []), (.istore_n 3, []), (.iinc 2 1, []), (.goto (-30), [4])]
def b_M_segmentIn_37 : List RI := [(.iload_n 2, []), (.ireturn, [0])]
def p_M_segmentIn (L : Nat) : List RI := cond (Nat.blt L 4) (cond (Nat.beq L 0) b_M_segmentIn_0 []) (cond (Nat.blt L 37) (cond (Nat.beq L 4) b_M_segmentIn_4 []) (cond (Nat.beq L 37) b_M_segmentIn_37 []))
def b_M_breathe_0 : List RI := [(.iload_n 1, []), (.iconst 1, []), (.bipush 20, []), (.invokestatic 46, [87, 3, 0]), (.ifCond .ne 5, [12]), (.iconst (-1), []), (.ireturn, [0])]
def b_M_breathe_12 : List RI := [(.aload_n 0, []), (.getfield 7, [6, 0]), (.iconst 0, []), (.aload_n 0, []), (.getfield 13, [6, 1]), (.iconst 0, []), (.sipush 953, []), (.invokestatic 42, [90, 5, 0]), (.iconst 0, []), (.istore_n 2, []), (.aload_n 0, []), (.aload_n 0, []), (.getfield 13, [6, 1]), (.invokevirtual 129, [124, 2, 16]), (.istore_n 3, []), (.nop, [39])]
def b_M_breathe_39 : List RI := [(.iload_n 3, []), (.bipush 99, []), (.if_icmp .ge 81, [123]), (.aload_n 0, []), (.getfield 13, [6, 1]), (.iload_n 3, []), (.invokestatic 132, [125, 2, 0]), (.istore 4, []), (.iload 4, []), (.ifCond .eq 22, [79]), (.aload_n 0, []), (.getfield 13, [6, 1]), (.bipush 59, []), (.iconst 2, []), (.iload 4, []), (.imul, []), (.iadd, []), (.iconst 2, []), (.isub, []), (.iaload, []), (.bipush 9, []), (.if_icmp .ne 6, [82]), (.nop, [79])]
def b_M_breathe_79 : List RI := [(.bipush (-2), []), (.ireturn, [0])]
def b_M_breathe_82 : List RI := [(.aload_n 0, []), (.getfield 13, [6, 1]), (.iload_n 1, []), (.invokestatic 99, [114, 2, 0]), (.ifCond .ne 6, [96]), (.bipush (-3), []), (.ireturn, [0])]
def b_M_breathe_96 : List RI := [(.aload_n 0, []), (.getfield 13, [6, 1]), (.iload 4, []), (.bipush 9, []), (.iload_n 1, []), (.invokestatic 103, [113, 4, 0]), (.iinc 2 1, []), (.aload_n 0, []), (.aload_n 0, []), (.getfield 13, [6, 1]), (.invokevirtual 129, [124, 2, 16]), (.istore_n 3, []), (.goto (-81), [39])]
def b_M_breathe_123 : List RI := [(.aload_n 0, []), (.invokevirtual 78, [91, 1, 16]), (.aload_n 0, []), (.getfield 13, [6, 1]), (.iconst 0, []), (.aload_n 0, []), (.getfield 7, [6, 0]), (.iconst 0, []), (.sipush 953, []), (.invokestatic 42, [90, 5, 0]), (.iload_n 2, []), (.ireturn, [0])]
def p_M_breathe (L : Nat) : List RI := cond (Nat.blt L 79) (cond (Nat.blt L 12) (cond (Nat.beq L 0) b_M_breathe_0 []) (cond (Nat.blt L 39) (cond (Nat.beq L 12) b_M_breathe_12 []) (cond (Nat.beq L 39) b_M_breathe_39 []))) (cond (Nat.blt L 96) (cond (Nat.blt L 82) (cond (Nat.beq L 79) b_M_breathe_79 []) (cond (Nat.beq L 82) b_M_breathe_82 [])) (cond (Nat.blt L 123) (cond (Nat.beq L 96) b_M_breathe_96 []) (cond (Nat.beq L 123) b_M_breathe_123 [])))
def b_M_take_0 : List RI := [(.iload_n 1, []), (.iconst 0, []), (.iconst 1, []), (.invokestatic 46, [87, 3, 0]), (.ifCond .ne 5, [11]), (.iconst (-1), []), (.ireturn, [0])]
def b_M_take_11 : List RI := [(.aload_n 0, []), (.invokevirtual 78, [91, 1, 16]), (.sipush 317, []), (.sipush 318, []), (.iload_n 1, []), (.imul, []), (.iadd, []), (.istore_n 2, []), (.aload_n 0, []), (.getfield 7, [6, 0]), (.iload_n 2, []), (.iconst 1, []), (.iastore, []), (.aload_n 0, []), (.getfield 7, [6, 0]), (.iconst 0, []), (.aload_n 0, []), (.getfield 7, [6, 0]), (.iload_n 2, []), (.iconst 1, []), (.iadd, []), (.sipush 317, []), (.invokestatic 42, [90, 5, 0]), (.aload_n 0, []), (.invokevirtual 70, [101, 1, 16]), (.ireturn, [0])]
def p_M_take (L : Nat) : List RI := cond (Nat.blt L 11) (cond (Nat.beq L 0) b_M_take_0 []) (cond (Nat.beq L 11) b_M_take_11 [])
def b_M_restore_0 : List RI := [(.iload_n 1, []), (.iconst 0, []), (.iconst 1, []), (.invokestatic 46, [87, 3, 0]), (.ifCond .ne 5, [11]), (.iconst (-1), []), (.ireturn, [0])]
def b_M_restore_11 : List RI := [(.sipush 317, []), (.sipush 318, []), (.iload_n 1, []), (.imul, []), (.iadd, []), (.istore_n 2, []), (.aload_n 0, []), (.getfield 7, [6, 0]), (.iload_n 2, []), (.iaload, []), (.ifCond .ne 6, [33]), (.bipush (-2), []), (.ireturn, [0])]
def b_M_restore_33 : List RI := [(.aload_n 0, []), (.invokevirtual 78, [91, 1, 16]), (.aload_n 0, []), (.getfield 7, [6, 0]), (.iload_n 2, []), (.iconst 1, []), (.iadd, []), (.aload_n 0, []), (.getfield 7, [6, 0]), (.iconst 0, []), (.sipush 317, []), (.invokestatic 42, [90, 5, 0]), (.aload_n 0, []), (.invokevirtual 70, [101, 1, 16]), (.ireturn, [0])]
def p_M_restore (L : Nat) : List RI := cond (Nat.blt L 11) (cond (Nat.beq L 0) b_M_restore_0 []) (cond (Nat.blt L 33) (cond (Nat.beq L 11) b_M_restore_11 []) (cond (Nat.beq L 33) b_M_restore_33 []))
def b_M_undo_0 : List RI := [(.aload_n 0, []), (.getfield 38, [6, 3]), (.ifCond .ne 6, [10]), (.bipush (-2), []), (.ireturn, [0])]
def b_M_undo_10 : List RI := [(.aload_n 0, []), (.dup, []), (.getfield 38, [6, 3]), (.iconst 1, []), (.isub, []), (.putfield 38, [6, 3]), (.aload_n 0, []), (.getfield 16, [6, 2]), (.sipush 953, []), (.aload_n 0, []), (.getfield 38, [6, 3]), (.imul, []), (.aload_n 0, []), (.getfield 7, [6, 0]), (.iconst 0, []), (.sipush 953, []), (.invokestatic 42, [90, 5, 0]), (.aload_n 0, []), (.getfield 38, [6, 3]), (.ireturn, [0])]
def p_M_undo (L : Nat) : List RI := cond (Nat.blt L 10) (cond (Nat.beq L 0) b_M_undo_0 []) (cond (Nat.beq L 10) b_M_undo_10 [])
def b_M_append_0 : List RI := [(.iload_n 1, []), (.iconst 1, []), (.sipush 255, []), (.invokestatic 46, [87, 3, 0]), (.ifCond .ne 5, [13]), (.iconst (-1), []), (.ireturn, [0])]
def b_M_append_13 : List RI := [(.aload_n 0, []), (.getfield 136, [6, 5]), (.bipush 120, []), (.if_icmp .ne 6, [25]), (.bipush (-3), []), (.ireturn, [0])]
def b_M_append_25 : List RI := [(.aload_n 0, []), (.getfield 19, [6, 4]), (.aload_n 0, []), (.getfield 136, [6, 5]), (.iload_n 1, []), (.iastore, []), (.aload_n 0, []), (.dup, []), (.getfield 136, [6, 5]), (.iconst 1, []), (.iadd, []), (.putfield 136, [6, 5]), (.aload_n 0, []), (.getfield 136, [6, 5]), (.ireturn, [0])]
def p_M_append (L : Nat) : List RI := cond (Nat.blt L 13) (cond (Nat.beq L 0) b_M_append_0 []) (cond (Nat.blt L 25) (cond (Nat.beq L 13) b_M_append_13 []) (cond (Nat.beq L 25) b_M_append_25 []))
def b_M_clearText_0 : List RI := [(.aload_n 0, []), (.getfield 136, [6, 5]), (.istore_n 1, []), (.aload_n 0, []), (.iconst 0, []), (.putfield 136, [6, 5]), (.iload_n 1, []), (.ireturn, [0])]
def p_M_clearText (L : Nat) : List RI := cond (Nat.beq L 0) b_M_clearText_0 []
def b_M_here_0 : List RI := [(.aload_n 0, []), (.getfield 139, [6, 8]), (.aload_n 0, []), (.getfield 136, [6, 5]), (.if_icmp .ge 15, [23]), (.aload_n 0, []), (.getfield 19, [6, 4]), (.aload_n 0, []), (.getfield 139, [6, 8]), (.iaload, []), (.goto 4, [24])]
def b_M_here_23 : List RI := [(.iconst 0, []), (.nop, [24])]
def b_M_here_24 : List RI := [(.ireturn, [0])]
def p_M_here (L : Nat) : List RI := cond (Nat.blt L 23) (cond (Nat.beq L 0) b_M_here_0 []) (cond (Nat.blt L 24) (cond (Nat.beq L 23) b_M_here_23 []) (cond (Nat.beq L 24) b_M_here_24 []))
def b_M_overSpaces_0 : List RI := [(.aload_n 0, []), (.invokevirtual 142, [132, 1, 16]), (.bipush 32, []), (.if_icmp .ne 16, [22]), (.aload_n 0, []), (.dup, []), (.getfield 139, [6, 8]), (.iconst 1, []), (.iadd, []), (.putfield 139, [6, 8]), (.goto (-19), [0])]
def b_M_overSpaces_22 : List RI := [(.return_, [])]
def p_M_overSpaces (L : Nat) : List RI := cond (Nat.blt L 22) (cond (Nat.beq L 0) b_M_overSpaces_0 []) (cond (Nat.beq L 22) b_M_overSpaces_22 [])
def b_M_readNumber_0 : List RI := [(.aload_n 0, []), (.invokevirtual 145, [133, 1, 16]), (.aload_n 0, []), (.getfield 139, [6, 8]), (.istore_n 3, []), (.aload_n 0, []), (.iconst 0, []), (.putfield 148, [6, 9]), (.nop, [14])]
def b_M_readNumber_14 : List RI := [(.aload_n 0, []), (.invokevirtual 142, [132, 1, 16]), (.bipush 48, []), (.bipush 57, []), (.invokestatic 46, [87, 3, 0]), (.ifCond .eq 52, [77]), (.aload_n 0, []), (.aload_n 0, []), (.getfield 148, [6, 9]), (.sipush 999, []), (.if_icmp .le 10, [46]), (.aload_n 0, []), (.getfield 148, [6, 9]), (.goto 18, [61])]
def b_M_readNumber_46 : List RI := [(.bipush 10, []), (.aload_n 0, []), (.getfield 148, [6, 9]), (.imul, []), (.aload_n 0, []), (.invokevirtual 142, [132, 1, 16]), (.iadd, []), (.bipush 48, []), (.isub, []), (.nop, [61])]
def b_M_readNumber_61 : List RI := [(.putfield 148, [6, 9]), (.aload_n 0, []), (.dup, []), (.getfield 139, [6, 8]), (.iconst 1, []), (.iadd, []), (.putfield 139, [6, 8]), (.goto (-60), [14])]
def b_M_readNumber_77 : List RI := [(.aload_n 0, []), (.getfield 139, [6, 8]), (.iload_n 3, []), (.if_icmp .le 40, [122]), (.aload_n 0, []), (.getfield 148, [6, 9]), (.iload_n 1, []), (.iload_n 2, []), (.invokestatic 46, [87, 3, 0]), (.ifCond .eq 28, [122]), (.aload_n 0, []), (.getfield 19, [6, 4]), (.iload_n 3, []), (.iaload, []), (.bipush 48, []), (.if_icmp .ne 13, [118]), (.aload_n 0, []), (.getfield 139, [6, 8]), (.iload_n 3, []), (.iconst 1, []), (.iadd, []), (.if_icmp .ne 7, [122]), (.nop, [118])]
def b_M_readNumber_118 : List RI := [(.iconst 1, []), (.goto 4, [123])]
def b_M_readNumber_122 : List RI := [(.iconst 0, []), (.nop, [123])]
def b_M_readNumber_123 : List RI := [(.istore 4, []), (.aload_n 0, []), (.iload 4, []), (.ifCond .eq 10, [138]), (.aload_n 0, []), (.getfield 139, [6, 8]), (.goto 4, [139])]
def b_M_readNumber_138 : List RI := [(.iload_n 3, []), (.nop, [139])]
def b_M_readNumber_139 : List RI := [(.putfield 139, [6, 8]), (.iload 4, []), (.ireturn, [1])]
def p_M_readNumber (L : Nat) : List RI := cond (Nat.blt L 118) (cond (Nat.blt L 46) (cond (Nat.blt L 14) (cond (Nat.beq L 0) b_M_readNumber_0 []) (cond (Nat.beq L 14) b_M_readNumber_14 [])) (cond (Nat.blt L 61) (cond (Nat.beq L 46) b_M_readNumber_46 []) (cond (Nat.blt L 77) (cond (Nat.beq L 61) b_M_readNumber_61 []) (cond (Nat.beq L 77) b_M_readNumber_77 [])))) (cond (Nat.blt L 123) (cond (Nat.blt L 122) (cond (Nat.beq L 118) b_M_readNumber_118 []) (cond (Nat.beq L 122) b_M_readNumber_122 [])) (cond (Nat.blt L 138) (cond (Nat.beq L 123) b_M_readNumber_123 []) (cond (Nat.blt L 139) (cond (Nat.beq L 138) b_M_readNumber_138 []) (cond (Nat.beq L 139) b_M_readNumber_139 []))))
def b_M_readItem_0 : List RI := [(.aload_n 0, []), (.invokevirtual 142, [132, 1, 16]), (.istore_n 1, []), (.iload_n 1, []), (.bipush 46, []), (.if_icmp .eq 14, [22]), (.iload_n 1, []), (.bipush 97, []), (.bipush 105, []), (.invokestatic 46, [87, 3, 0]), (.ifCond .eq 7, [26]), (.nop, [22])]
def b_M_readItem_22 : List RI := [(.iconst 1, []), (.goto 4, [27])]
def b_M_readItem_26 : List RI := [(.iconst 0, []), (.nop, [27])]
def b_M_readItem_27 : List RI := [(.istore_n 2, []), (.iload_n 2, []), (.ifCond .eq 15, [44]), (.aload_n 0, []), (.getfield 13, [6, 1]), (.bipush 58, []), (.iaload, []), (.bipush 30, []), (.if_icmp .ne 5, [46]), (.nop, [44])]
def b_M_readItem_44 : List RI := [(.iconst 0, []), (.ireturn, [1])]
def b_M_readItem_46 : List RI := [(.aload_n 0, []), (.dup, []), (.getfield 139, [6, 8]), (.iconst 1, []), (.iadd, []), (.putfield 139, [6, 8]), (.bipush 99, []), (.aload_n 0, []), (.getfield 13, [6, 1]), (.invokestatic 91, [112, 1, 0]), (.isub, []), (.istore_n 3, []), (.aload_n 0, []), (.iconst 1, []), (.iload_n 3, []), (.bipush 20, []), (.if_icmp .ge 7, [79]), (.iload_n 3, []), (.goto 5, [81])]
def b_M_readItem_79 : List RI := [(.bipush 20, []), (.nop, [81])]
def b_M_readItem_81 : List RI := [(.invokevirtual 151, [134, 3, 16]), (.ifCond .ne 5, [89]), (.iconst 0, []), (.ireturn, [1])]
def b_M_readItem_89 : List RI := [(.aload_n 0, []), (.getfield 13, [6, 1]), (.invokestatic 91, [112, 1, 0]), (.istore 4, []), (.aload_n 0, []), (.getfield 13, [6, 1]), (.aload_n 0, []), (.getfield 13, [6, 1]), (.bipush 58, []), (.iaload, []), (.iload_n 1, []), (.bipush 46, []), (.if_icmp .ne 8, [120]), (.bipush 9, []), (.goto 7, [124])]
def b_M_readItem_120 : List RI := [(.iload_n 1, []), (.bipush 97, []), (.isub, []), (.nop, [124])]
def b_M_readItem_124 : List RI := [(.aload_n 0, []), (.getfield 148, [6, 9]), (.invokestatic 103, [113, 4, 0]), (.aload_n 0, []), (.invokevirtual 145, [133, 1, 16]), (.aload_n 0, []), (.invokevirtual 142, [132, 1, 16]), (.bipush 33, []), (.if_icmp .eq 5, [146]), (.iconst 1, []), (.ireturn, [1])]
def b_M_readItem_146 : List RI := [(.aload_n 0, []), (.dup, []), (.getfield 139, [6, 8]), (.iconst 1, []), (.iadd, []), (.putfield 139, [6, 8]), (.aload_n 0, []), (.iconst 0, []), (.aload_n 0, []), (.getfield 13, [6, 1]), (.iconst 0, []), (.iaload, []), (.iconst 1, []), (.isub, []), (.invokevirtual 151, [134, 3, 16]), (.ifCond .ne 5, [174]), (.iconst 0, []), (.ireturn, [1])]
def b_M_readItem_174 : List RI := [(.aload_n 0, []), (.getfield 13, [6, 1]), (.bipush 119, []), (.iload 4, []), (.iadd, []), (.aload_n 0, []), (.getfield 148, [6, 9]), (.iastore, []), (.iconst 1, []), (.ireturn, [1])]
def p_M_readItem (L : Nat) : List RI := cond (Nat.blt L 79) (cond (Nat.blt L 27) (cond (Nat.blt L 22) (cond (Nat.beq L 0) b_M_readItem_0 []) (cond (Nat.blt L 26) (cond (Nat.beq L 22) b_M_readItem_22 []) (cond (Nat.beq L 26) b_M_readItem_26 []))) (cond (Nat.blt L 44) (cond (Nat.beq L 27) b_M_readItem_27 []) (cond (Nat.blt L 46) (cond (Nat.beq L 44) b_M_readItem_44 []) (cond (Nat.beq L 46) b_M_readItem_46 [])))) (cond (Nat.blt L 120) (cond (Nat.blt L 81) (cond (Nat.beq L 79) b_M_readItem_79 []) (cond (Nat.blt L 89) (cond (Nat.beq L 81) b_M_readItem_81 []) (cond (Nat.beq L 89) b_M_readItem_89 []))) (cond (Nat.blt L 146) (cond (Nat.blt L 124) (cond (Nat.beq L 120) b_M_readItem_120 []) (cond (Nat.beq L 124) b_M_readItem_124 [])) (cond (Nat.blt L 174) (cond (Nat.beq L 146) b_M_readItem_146 []) (cond (Nat.beq L 174) b_M_readItem_174 []))))
def b_M_load_0 : List RI := [(.aload_n 0, []), (.getfield 7, [6, 0]), (.iconst 0, []), (.aload_n 0, []), (.getfield 13, [6, 1]), (.iconst 0, []), (.sipush 953, []), (.invokestatic 42, [90, 5, 0]), (.aload_n 0, []), (.iconst 0, []), (.putfield 139, [6, 8]), (.iconst 0, []), (.istore_n 1, []), (.aload_n 0, []), (.invokevirtual 145, [133, 1, 16]), (.nop, [27])]
def b_M_load_27 : List RI := [(.aload_n 0, []), (.getfield 139, [6, 8]), (.aload_n 0, []), (.getfield 136, [6, 5]), (.if_icmp .ge 29, [64]), (.aload_n 0, []), (.invokevirtual 154, [135, 1, 16]), (.ifCond .ne 12, [54]), (.sipush (-1000), []), (.aload_n 0, []), (.getfield 139, [6, 8]), (.isub, []), (.ireturn, [0])]
def b_M_load_54 : List RI := [(.iinc 1 1, []), (.aload_n 0, []), (.invokevirtual 145, [133, 1, 16]), (.goto (-34), [27])]
def b_M_load_64 : List RI := [(.aload_n 0, []), (.invokevirtual 78, [91, 1, 16]), (.aload_n 0, []), (.getfield 13, [6, 1]), (.iconst 0, []), (.aload_n 0, []), (.getfield 7, [6, 0]), (.iconst 0, []), (.sipush 953, []), (.invokestatic 42, [90, 5, 0]), (.aload_n 0, []), (.iconst 0, []), (.putfield 136, [6, 5]), (.iload_n 1, []), (.ireturn, [0])]
def p_M_load (L : Nat) : List RI := cond (Nat.blt L 54) (cond (Nat.blt L 27) (cond (Nat.beq L 0) b_M_load_0 []) (cond (Nat.beq L 27) b_M_load_27 [])) (cond (Nat.blt L 64) (cond (Nat.beq L 54) b_M_load_54 []) (cond (Nat.beq L 64) b_M_load_64 []))
def b_M_layKinds_0 : List RI := [(.iconst 0, []), (.istore_n 1, []), (.iconst 0, []), (.istore_n 2, []), (.nop, [4])]
def b_M_layKinds_4 : List RI := [(.iload_n 2, []), (.aload_n 0, []), (.getfield 7, [6, 0]), (.bipush 58, []), (.iaload, []), (.if_icmp .ge 40, [52]), (.iconst 0, []), (.istore_n 3, []), (.nop, [17])]
def b_M_layKinds_17 : List RI := [(.iload_n 3, []), (.aload_n 0, []), (.iload_n 2, []), (.invokevirtual 64, [98, 2, 16]), (.if_icmp .ge 23, [46]), (.aload_n 0, []), (.getfield 35, [6, 12]), (.iload_n 1, []), (.aload_n 0, []), (.iload_n 2, []), (.invokevirtual 158, [97, 2, 16]), (.iastore, []), (.iinc 1 1, []), (.iinc 3 1, []), (.goto (-26), [17])]
def b_M_layKinds_46 : List RI := [(.iinc 2 1, []), (.goto (-45), [4])]
def b_M_layKinds_52 : List RI := [(.return_, [])]
def p_M_layKinds (L : Nat) : List RI := cond (Nat.blt L 17) (cond (Nat.blt L 4) (cond (Nat.beq L 0) b_M_layKinds_0 []) (cond (Nat.beq L 4) b_M_layKinds_4 [])) (cond (Nat.blt L 46) (cond (Nat.beq L 17) b_M_layKinds_17 []) (cond (Nat.blt L 52) (cond (Nat.beq L 46) b_M_layKinds_46 []) (cond (Nat.beq L 52) b_M_layKinds_52 [])))
def b_M_wrongBy_0 : List RI := [(.iload_n 1, []), (.bipush 9, []), (.if_icmp .ne 35, [38]), (.aload_n 0, []), (.iload_n 2, []), (.invokevirtual 50, [94, 2, 16]), (.aload_n 0, []), (.iconst 2, []), (.invokevirtual 88, [99, 2, 16]), (.if_icmp .le 7, [23]), (.iconst 0, []), (.goto 17, [37])]
def b_M_wrongBy_23 : List RI := [(.bipush 9, []), (.aload_n 0, []), (.iconst 2, []), (.invokevirtual 88, [99, 2, 16]), (.aload_n 0, []), (.iload_n 2, []), (.invokevirtual 50, [94, 2, 16]), (.isub, []), (.imul, []), (.nop, [37])]
def b_M_wrongBy_37 : List RI := [(.ireturn, [0])]
def b_M_wrongBy_38 : List RI := [(.bipush 17, []), (.iconst 4, []), (.iload_n 1, []), (.imul, []), (.iadd, []), (.istore_n 3, []), (.aload_n 0, []), (.getfield 7, [6, 0]), (.iload_n 3, []), (.iconst 2, []), (.iadd, []), (.iaload, []), (.aload_n 0, []), (.iload_n 2, []), (.invokevirtual 50, [94, 2, 16]), (.aload_n 0, []), (.getfield 7, [6, 0]), (.iload_n 3, []), (.iaload, []), (.invokestatic 54, [88, 2, 0]), (.aload_n 0, []), (.iload_n 2, []), (.invokevirtual 58, [95, 2, 16]), (.aload_n 0, []), (.getfield 7, [6, 0]), (.iload_n 3, []), (.iconst 1, []), (.iadd, []), (.iaload, []), (.invokestatic 54, [88, 2, 0]), (.iadd, []), (.imul, []), (.ireturn, [0])]
def p_M_wrongBy (L : Nat) : List RI := cond (Nat.blt L 37) (cond (Nat.blt L 23) (cond (Nat.beq L 0) b_M_wrongBy_0 []) (cond (Nat.beq L 23) b_M_wrongBy_23 [])) (cond (Nat.blt L 38) (cond (Nat.beq L 37) b_M_wrongBy_37 []) (cond (Nat.beq L 38) b_M_wrongBy_38 []))
def b_M_cellOf_0 : List RI := [(.bipush 24, []), (.iload_n 0, []), (.imul, []), (.iconst 3, []), (.iload_n 1, []), (.imul, []), (.iadd, []), (.iload_n 2, []), (.iadd, []), (.iconst 1, []), (.isub, []), (.ireturn, [0])]
def p_M_cellOf (L : Nat) : List RI := cond (Nat.beq L 0) b_M_cellOf_0 []
def b_M_behind_0 : List RI := [(.iload_n 1, []), (.iload 4, []), (.iconst 1, []), (.isub, []), (.if_icmp .ne 5, [10]), (.iconst 0, []), (.ireturn, [0])]
def b_M_behind_10 : List RI := [(.aload_n 0, []), (.iconst 1, []), (.invokevirtual 88, [99, 2, 16]), (.istore 6, []), (.aload_n 0, []), (.getfield 29, [6, 10]), (.iload_n 1, []), (.iconst 1, []), (.iadd, []), (.iload_n 2, []), (.iload_n 3, []), (.iload 6, []), (.if_icmp .ge 9, [37]), (.iload_n 3, []), (.iconst 1, []), (.iadd, []), (.goto 5, [39])]
def b_M_behind_37 : List RI := [(.iload 6, []), (.nop, [39])]
def b_M_behind_39 : List RI := [(.invokestatic 161, [139, 3, 0]), (.iaload, []), (.istore 7, []), (.iconst 0, []), (.istore 8, []), (.nop, [48])]
def b_M_behind_48 : List RI := [(.iload 8, []), (.aload_n 0, []), (.getfield 7, [6, 0]), (.iconst 0, []), (.iaload, []), (.if_icmp .ge 70, [126]), (.iload_n 3, []), (.iload 6, []), (.if_icmp .ne 64, [126]), (.iload 8, []), (.iload_n 2, []), (.if_icmp .eq 32, [100]), (.aload_n 0, []), (.iload_n 2, []), (.iload 8, []), (.invokevirtual 120, [96, 3, 16]), (.iload 5, []), (.if_icmp .gt 20, [100]), (.aload_n 0, []), (.getfield 29, [6, 10]), (.iload_n 1, []), (.iconst 1, []), (.iadd, []), (.iload 8, []), (.iconst 1, []), (.invokestatic 161, [139, 3, 0]), (.iaload, []), (.goto 5, [102])]
def b_M_behind_100 : List RI := [(.ldc 119, [1000000]), (.nop, [102])]
def b_M_behind_102 : List RI := [(.istore 9, []), (.iload 9, []), (.iload 7, []), (.if_icmp .ge 8, [116]), (.iload 9, []), (.goto 5, [118])]
def b_M_behind_116 : List RI := [(.iload 7, []), (.nop, [118])]
def b_M_behind_118 : List RI := [(.istore 7, []), (.iinc 8 1, []), (.goto (-75), [48])]
def b_M_behind_126 : List RI := [(.iload 7, []), (.ireturn, [0])]
def p_M_behind (L : Nat) : List RI := cond (Nat.blt L 100) (cond (Nat.blt L 37) (cond (Nat.blt L 10) (cond (Nat.beq L 0) b_M_behind_0 []) (cond (Nat.beq L 10) b_M_behind_10 [])) (cond (Nat.blt L 39) (cond (Nat.beq L 37) b_M_behind_37 []) (cond (Nat.blt L 48) (cond (Nat.beq L 39) b_M_behind_39 []) (cond (Nat.beq L 48) b_M_behind_48 [])))) (cond (Nat.blt L 116) (cond (Nat.blt L 102) (cond (Nat.beq L 100) b_M_behind_100 []) (cond (Nat.beq L 102) b_M_behind_102 [])) (cond (Nat.blt L 118) (cond (Nat.beq L 116) b_M_behind_116 []) (cond (Nat.blt L 126) (cond (Nat.beq L 118) b_M_behind_118 []) (cond (Nat.beq L 126) b_M_behind_126 []))))
def b_M_findPlan_0 : List RI := [(.aload_n 0, []), (.invokevirtual 164, [137, 1, 16]), (.aload_n 0, []), (.invokevirtual 70, [101, 1, 16]), (.istore 4, []), (.iload 4, []), (.iconst 1, []), (.isub, []), (.istore 5, []), (.nop, [16])]
def b_M_findPlan_16 : List RI := [(.iload 5, []), (.ifCond .lt 166, [184]), (.iconst 0, []), (.istore 6, []), (.nop, [24])]
def b_M_findPlan_24 : List RI := [(.iload 6, []), (.aload_n 0, []), (.getfield 7, [6, 0]), (.iconst 0, []), (.iaload, []), (.if_icmp .ge 146, [178]), (.aload_n 0, []), (.getfield 7, [6, 0]), (.bipush 119, []), (.iload 5, []), (.iadd, []), (.iaload, []), (.ifCond .lt 18, [63]), (.aload_n 0, []), (.getfield 7, [6, 0]), (.bipush 119, []), (.iload 5, []), (.iadd, []), (.iaload, []), (.iload 6, []), (.if_icmp .ne 19, [79]), (.nop, [63])]
def b_M_findPlan_63 : List RI := [(.iload 5, []), (.iload_n 2, []), (.if_icmp .ne 9, [75]), (.iload 6, []), (.iload_n 3, []), (.if_icmp .ne 7, [79]), (.nop, [75])]
def b_M_findPlan_75 : List RI := [(.iconst 1, []), (.goto 4, [80])]
def b_M_findPlan_79 : List RI := [(.iconst 0, []), (.nop, [80])]
def b_M_findPlan_80 : List RI := [(.istore 7, []), (.aload_n 0, []), (.aload_n 0, []), (.getfield 35, [6, 12]), (.iload 5, []), (.iaload, []), (.iload 6, []), (.invokevirtual 167, [138, 3, 16]), (.istore 8, []), (.iconst 1, []), (.istore 9, []), (.nop, [100])]
def b_M_findPlan_100 : List RI := [(.iload 9, []), (.aload_n 0, []), (.iconst 1, []), (.invokevirtual 88, [99, 2, 16]), (.if_icmp .gt 65, [172]), (.iload 7, []), (.ifCond .eq 22, [134]), (.iload 8, []), (.aload_n 0, []), (.iload 5, []), (.iload 6, []), (.iload 9, []), (.iload 4, []), (.iload_n 1, []), (.invokevirtual 170, [140, 6, 16]), (.iadd, []), (.goto 5, [136])]
def b_M_findPlan_134 : List RI := [(.ldc 119, [1000000]), (.nop, [136])]
def b_M_findPlan_136 : List RI := [(.istore 10, []), (.aload_n 0, []), (.getfield 29, [6, 10]), (.iload 5, []), (.iload 6, []), (.iload 9, []), (.invokestatic 161, [139, 3, 0]), (.iload 10, []), (.ldc 119, [1000000]), (.if_icmp .ge 8, [163]), (.iload 10, []), (.goto 5, [165])]
def b_M_findPlan_163 : List RI := [(.ldc 119, [1000000]), (.nop, [165])]
def b_M_findPlan_165 : List RI := [(.iastore, []), (.iinc 9 1, []), (.goto (-69), [100])]
def b_M_findPlan_172 : List RI := [(.iinc 6 1, []), (.goto (-151), [24])]
def b_M_findPlan_178 : List RI := [(.iinc 5 (-1), []), (.goto (-165), [16])]
def b_M_findPlan_184 : List RI := [(.iload 4, []), (.ifCond .ne 7, [193]), (.iconst 0, []), (.goto 10, [200])]
def b_M_findPlan_193 : List RI := [(.aload_n 0, []), (.iload 4, []), (.iload_n 1, []), (.invokevirtual 174, [142, 3, 16]), (.nop, [200])]
def b_M_findPlan_200 : List RI := [(.ireturn, [0])]
def p_M_findPlan (L : Nat) : List RI := cond (Nat.blt L 134) (cond (Nat.blt L 75) (cond (Nat.blt L 24) (cond (Nat.blt L 16) (cond (Nat.beq L 0) b_M_findPlan_0 []) (cond (Nat.beq L 16) b_M_findPlan_16 [])) (cond (Nat.blt L 63) (cond (Nat.beq L 24) b_M_findPlan_24 []) (cond (Nat.beq L 63) b_M_findPlan_63 []))) (cond (Nat.blt L 80) (cond (Nat.blt L 79) (cond (Nat.beq L 75) b_M_findPlan_75 []) (cond (Nat.beq L 79) b_M_findPlan_79 [])) (cond (Nat.blt L 100) (cond (Nat.beq L 80) b_M_findPlan_80 []) (cond (Nat.beq L 100) b_M_findPlan_100 [])))) (cond (Nat.blt L 172) (cond (Nat.blt L 163) (cond (Nat.blt L 136) (cond (Nat.beq L 134) b_M_findPlan_134 []) (cond (Nat.beq L 136) b_M_findPlan_136 [])) (cond (Nat.blt L 165) (cond (Nat.beq L 163) b_M_findPlan_163 []) (cond (Nat.beq L 165) b_M_findPlan_165 []))) (cond (Nat.blt L 184) (cond (Nat.blt L 178) (cond (Nat.beq L 172) b_M_findPlan_172 []) (cond (Nat.beq L 178) b_M_findPlan_178 [])) (cond (Nat.blt L 193) (cond (Nat.beq L 184) b_M_findPlan_184 []) (cond (Nat.blt L 200) (cond (Nat.beq L 193) b_M_findPlan_193 []) (cond (Nat.beq L 200) b_M_findPlan_200 [])))))
def b_M_lays_0 : List RI := [(.aload_n 0, []), (.iconst 1, []), (.invokevirtual 88, [99, 2, 16]), (.istore_n 3, []), (.ldc 119, [1000000]), (.istore 4, []), (.aload_n 0, []), (.getfield 7, [6, 0]), (.iconst 0, []), (.iaload, []), (.iconst 1, []), (.isub, []), (.istore 5, []), (.nop, [20])]
def b_M_lays_20 : List RI := [(.iload 5, []), (.ifCond .lt 63, [85]), (.aload_n 0, []), (.getfield 29, [6, 10]), (.iconst 0, []), (.iload 5, []), (.iconst 1, []), (.invokestatic 161, [139, 3, 0]), (.iaload, []), (.istore 6, []), (.aload_n 0, []), (.getfield 32, [6, 11]), (.iconst 0, []), (.iload 6, []), (.iload 4, []), (.if_icmp .gt 8, [56]), (.iload 5, []), (.goto 9, [62])]
def b_M_lays_56 : List RI := [(.aload_n 0, []), (.getfield 32, [6, 11]), (.iconst 0, []), (.iaload, []), (.nop, [62])]
def b_M_lays_62 : List RI := [(.iastore, []), (.iload 6, []), (.iload 4, []), (.if_icmp .gt 8, [75]), (.iload 6, []), (.goto 5, [77])]
def b_M_lays_75 : List RI := [(.iload 4, []), (.nop, [77])]
def b_M_lays_77 : List RI := [(.istore 4, []), (.iinc 5 (-1), []), (.goto (-62), [20])]
def b_M_lays_85 : List RI := [(.iload 4, []), (.ldc 119, [1000000]), (.if_icmp .ne 6, [95]), (.bipush (-99), []), (.ireturn, [0])]
def b_M_lays_95 : List RI := [(.iconst 1, []), (.istore 5, []), (.iconst 1, []), (.istore 6, []), (.nop, [101])]
def b_M_lays_101 : List RI := [(.iload 6, []), (.iload_n 1, []), (.if_icmp .ge 204, [308]), (.aload_n 0, []), (.getfield 32, [6, 11]), (.iload 6, []), (.iconst 1, []), (.isub, []), (.iaload, []), (.istore 7, []), (.aload_n 0, []), (.iload 6, []), (.iconst 1, []), (.isub, []), (.iload 7, []), (.iload 5, []), (.iload_n 1, []), (.iload_n 2, []), (.invokevirtual 170, [140, 6, 16]), (.istore 8, []), (.bipush (-99), []), (.istore 9, []), (.aload_n 0, []), (.getfield 7, [6, 0]), (.iconst 0, []), (.iaload, []), (.iconst 1, []), (.isub, []), (.istore 10, []), (.nop, [148])]
def b_M_lays_148 : List RI := [(.iload 10, []), (.ifCond .lt 116, [266]), (.iload 10, []), (.iload 7, []), (.if_icmp .ne 7, [164]), (.iconst 1, []), (.goto 4, [165])]
def b_M_lays_164 : List RI := [(.iconst 0, []), (.nop, [165])]
def b_M_lays_165 : List RI := [(.istore 11, []), (.iload 11, []), (.ifCond .ne 21, [190]), (.iload 5, []), (.iload_n 3, []), (.if_icmp .ne 19, [194]), (.aload_n 0, []), (.iload 7, []), (.iload 10, []), (.invokevirtual 120, [96, 3, 16]), (.iload_n 2, []), (.if_icmp .gt 7, [194]), (.nop, [190])]
def b_M_lays_190 : List RI := [(.iconst 1, []), (.goto 4, [195])]
def b_M_lays_194 : List RI := [(.iconst 0, []), (.nop, [195])]
def b_M_lays_195 : List RI := [(.istore 12, []), (.iload 11, []), (.ifCond .eq 16, [215]), (.iload 5, []), (.iload_n 3, []), (.if_icmp .ge 10, [215]), (.iload 5, []), (.iconst 1, []), (.iadd, []), (.goto 13, [225])]
def b_M_lays_215 : List RI := [(.iload 11, []), (.ifCond .eq 7, [224]), (.iload_n 3, []), (.goto 4, [225])]
def b_M_lays_224 : List RI := [(.iconst 1, []), (.nop, [225])]
def b_M_lays_225 : List RI := [(.istore 13, []), (.iload 12, []), (.ifCond .eq 27, [256]), (.aload_n 0, []), (.getfield 29, [6, 10]), (.iload 6, []), (.iload 10, []), (.iload 13, []), (.invokestatic 161, [139, 3, 0]), (.iaload, []), (.iload 8, []), (.if_icmp .ne 8, [256]), (.iload 10, []), (.goto 5, [258])]
def b_M_lays_256 : List RI := [(.iload 9, []), (.nop, [258])]
def b_M_lays_258 : List RI := [(.istore 9, []), (.iinc 10 (-1), []), (.goto (-115), [148])]
def b_M_lays_266 : List RI := [(.iload 9, []), (.iload 7, []), (.if_icmp .eq 7, [277]), (.iconst 1, []), (.goto 17, [291])]
def b_M_lays_277 : List RI := [(.iload 5, []), (.iload_n 3, []), (.if_icmp .ge 10, [290]), (.iload 5, []), (.iconst 1, []), (.iadd, []), (.goto 4, [291])]
def b_M_lays_290 : List RI := [(.iload_n 3, []), (.nop, [291])]
def b_M_lays_291 : List RI := [(.istore 5, []), (.aload_n 0, []), (.getfield 32, [6, 11]), (.iload 6, []), (.iload 9, []), (.iastore, []), (.iinc 6 1, []), (.goto (-204), [101])]
def b_M_lays_308 : List RI := [(.iload 4, []), (.ireturn, [0])]
def p_M_lays (L : Nat) : List RI := cond (Nat.blt L 190) (cond (Nat.blt L 85) (cond (Nat.blt L 62) (cond (Nat.blt L 20) (cond (Nat.beq L 0) b_M_lays_0 []) (cond (Nat.blt L 56) (cond (Nat.beq L 20) b_M_lays_20 []) (cond (Nat.beq L 56) b_M_lays_56 []))) (cond (Nat.blt L 75) (cond (Nat.beq L 62) b_M_lays_62 []) (cond (Nat.blt L 77) (cond (Nat.beq L 75) b_M_lays_75 []) (cond (Nat.beq L 77) b_M_lays_77 [])))) (cond (Nat.blt L 148) (cond (Nat.blt L 95) (cond (Nat.beq L 85) b_M_lays_85 []) (cond (Nat.blt L 101) (cond (Nat.beq L 95) b_M_lays_95 []) (cond (Nat.beq L 101) b_M_lays_101 []))) (cond (Nat.blt L 164) (cond (Nat.beq L 148) b_M_lays_148 []) (cond (Nat.blt L 165) (cond (Nat.beq L 164) b_M_lays_164 []) (cond (Nat.beq L 165) b_M_lays_165 []))))) (cond (Nat.blt L 256) (cond (Nat.blt L 215) (cond (Nat.blt L 194) (cond (Nat.beq L 190) b_M_lays_190 []) (cond (Nat.blt L 195) (cond (Nat.beq L 194) b_M_lays_194 []) (cond (Nat.beq L 195) b_M_lays_195 []))) (cond (Nat.blt L 224) (cond (Nat.beq L 215) b_M_lays_215 []) (cond (Nat.blt L 225) (cond (Nat.beq L 224) b_M_lays_224 []) (cond (Nat.beq L 225) b_M_lays_225 [])))) (cond (Nat.blt L 277) (cond (Nat.blt L 258) (cond (Nat.beq L 256) b_M_lays_256 []) (cond (Nat.blt L 266) (cond (Nat.beq L 258) b_M_lays_258 []) (cond (Nat.beq L 266) b_M_lays_266 []))) (cond (Nat.blt L 291) (cond (Nat.blt L 290) (cond (Nat.beq L 277) b_M_lays_277 []) (cond (Nat.beq L 290) b_M_lays_290 [])) (cond (Nat.blt L 308) (cond (Nat.beq L 291) b_M_lays_291 []) (cond (Nat.beq L 308) b_M_lays_308 [])))))
def b_M_manyOf_0 : List RI := [(.iconst 0, []), (.istore_n 2, []), (.iconst 0, []), (.istore_n 3, []), (.nop, [4])]
def b_M_manyOf_4 : List RI := [(.iload_n 3, []), (.aload_n 0, []), (.invokevirtual 70, [101, 1, 16]), (.if_icmp .ge 28, [37]), (.iload_n 2, []), (.aload_n 0, []), (.getfield 7, [6, 0]), (.iload_n 1, []), (.iload_n 3, []), (.iadd, []), (.iaload, []), (.ifCond .ge 7, [28]), (.iconst 0, []), (.goto 4, [29])]
def b_M_manyOf_28 : List RI := [(.iconst 1, []), (.nop, [29])]
def b_M_manyOf_29 : List RI := [(.iadd, []), (.istore_n 2, []), (.iinc 3 1, []), (.goto (-30), [4])]
def b_M_manyOf_37 : List RI := [(.iload_n 2, []), (.ireturn, [0])]
def p_M_manyOf (L : Nat) : List RI := cond (Nat.blt L 28) (cond (Nat.blt L 4) (cond (Nat.beq L 0) b_M_manyOf_0 []) (cond (Nat.beq L 4) b_M_manyOf_4 [])) (cond (Nat.blt L 29) (cond (Nat.beq L 28) b_M_manyOf_28 []) (cond (Nat.blt L 37) (cond (Nat.beq L 29) b_M_manyOf_29 []) (cond (Nat.beq L 37) b_M_manyOf_37 [])))
def b_M_manyGasps_0 : List RI := [(.aload_n 0, []), (.aload_n 0, []), (.getfield 7, [6, 0]), (.invokevirtual 129, [124, 2, 16]), (.istore_n 1, []), (.iconst 0, []), (.istore_n 2, []), (.iload_n 1, []), (.istore_n 3, []), (.nop, [13])]
def b_M_manyGasps_13 : List RI := [(.iload_n 3, []), (.aload_n 0, []), (.invokevirtual 70, [101, 1, 16]), (.if_icmp .ge 26, [44]), (.iload_n 2, []), (.aload_n 0, []), (.getfield 25, [6, 7]), (.iload_n 3, []), (.baload, []), (.ifCond .eq 7, [35]), (.iconst 1, []), (.goto 4, [36])]
def b_M_manyGasps_35 : List RI := [(.iconst 0, []), (.nop, [36])]
def b_M_manyGasps_36 : List RI := [(.iadd, []), (.istore_n 2, []), (.iinc 3 1, []), (.goto (-28), [13])]
def b_M_manyGasps_44 : List RI := [(.iload_n 2, []), (.ireturn, [0])]
def p_M_manyGasps (L : Nat) : List RI := cond (Nat.blt L 35) (cond (Nat.blt L 13) (cond (Nat.beq L 0) b_M_manyGasps_0 []) (cond (Nat.beq L 13) b_M_manyGasps_13 [])) (cond (Nat.blt L 36) (cond (Nat.beq L 35) b_M_manyGasps_35 []) (cond (Nat.blt L 44) (cond (Nat.beq L 36) b_M_manyGasps_36 []) (cond (Nat.beq L 44) b_M_manyGasps_44 [])))
def b_M_count_0 : List RI := [(.iload_n 1, []), (.tableswitch 119 0 8 #[51, 58, 66, 71, 78, 86, 91, 109, 114], [120, 52, 59, 67, 72, 79, 87, 92, 110, 115])]
def b_M_count_52 : List RI := [(.aload_n 0, []), (.getfield 7, [6, 0]), (.iconst 0, []), (.iaload, []), (.ireturn, [0])]
def b_M_count_59 : List RI := [(.aload_n 0, []), (.getfield 7, [6, 0]), (.bipush 58, []), (.iaload, []), (.ireturn, [0])]
def b_M_count_67 : List RI := [(.aload_n 0, []), (.invokevirtual 70, [101, 1, 16]), (.ireturn, [0])]
def b_M_count_72 : List RI := [(.aload_n 0, []), (.bipush 119, []), (.invokevirtual 177, [143, 2, 16]), (.ireturn, [0])]
def b_M_count_79 : List RI := [(.aload_n 0, []), (.sipush 218, []), (.invokevirtual 177, [143, 2, 16]), (.ireturn, [0])]
def b_M_count_87 : List RI := [(.aload_n 0, []), (.invokevirtual 180, [144, 1, 16]), (.ireturn, [0])]
def b_M_count_92 : List RI := [(.aload_n 0, []), (.getfield 7, [6, 0]), (.sipush 317, []), (.iaload, []), (.aload_n 0, []), (.getfield 7, [6, 0]), (.sipush 635, []), (.iaload, []), (.iadd, []), (.ireturn, [0])]
def b_M_count_110 : List RI := [(.aload_n 0, []), (.getfield 38, [6, 3]), (.ireturn, [0])]
def b_M_count_115 : List RI := [(.aload_n 0, []), (.getfield 136, [6, 5]), (.ireturn, [0])]
def b_M_count_120 : List RI := [(.iconst (-1), []), (.ireturn, [0])]
def p_M_count (L : Nat) : List RI := cond (Nat.blt L 79) (cond (Nat.blt L 59) (cond (Nat.blt L 52) (cond (Nat.beq L 0) b_M_count_0 []) (cond (Nat.beq L 52) b_M_count_52 [])) (cond (Nat.blt L 67) (cond (Nat.beq L 59) b_M_count_59 []) (cond (Nat.blt L 72) (cond (Nat.beq L 67) b_M_count_67 []) (cond (Nat.beq L 72) b_M_count_72 [])))) (cond (Nat.blt L 110) (cond (Nat.blt L 87) (cond (Nat.beq L 79) b_M_count_79 []) (cond (Nat.blt L 92) (cond (Nat.beq L 87) b_M_count_87 []) (cond (Nat.beq L 92) b_M_count_92 []))) (cond (Nat.blt L 115) (cond (Nat.beq L 110) b_M_count_110 []) (cond (Nat.blt L 120) (cond (Nat.beq L 115) b_M_count_115 []) (cond (Nat.beq L 120) b_M_count_120 []))))
def b_M_mouth_0 : List RI := [(.aload_n 0, []), (.iload_n 1, []), (.invokevirtual 81, [92, 2, 16]), (.ifCond .eq 27, [32]), (.iload_n 2, []), (.iconst 0, []), (.iconst 1, []), (.invokestatic 46, [87, 3, 0]), (.ifCond .eq 18, [32]), (.aload_n 0, []), (.getfield 7, [6, 0]), (.iconst 1, []), (.iconst 2, []), (.iload_n 1, []), (.imul, []), (.iadd, []), (.iload_n 2, []), (.iadd, []), (.iaload, []), (.goto 4, [33])]
def b_M_mouth_32 : List RI := [(.iconst (-1), []), (.nop, [33])]
def b_M_mouth_33 : List RI := [(.ireturn, [0])]
def p_M_mouth (L : Nat) : List RI := cond (Nat.blt L 32) (cond (Nat.beq L 0) b_M_mouth_0 []) (cond (Nat.blt L 33) (cond (Nat.beq L 32) b_M_mouth_32 []) (cond (Nat.beq L 33) b_M_mouth_33 []))
def b_M_jump_0 : List RI := [(.aload_n 0, []), (.iload_n 1, []), (.invokevirtual 81, [92, 2, 16]), (.ifCond .eq 20, [25]), (.aload_n 0, []), (.iload_n 2, []), (.invokevirtual 81, [92, 2, 16]), (.ifCond .eq 12, [25]), (.aload_n 0, []), (.iload_n 1, []), (.iload_n 2, []), (.invokevirtual 120, [96, 3, 16]), (.goto 4, [26])]
def b_M_jump_25 : List RI := [(.iconst (-1), []), (.nop, [26])]
def b_M_jump_26 : List RI := [(.ireturn, [0])]
def p_M_jump (L : Nat) : List RI := cond (Nat.blt L 25) (cond (Nat.beq L 0) b_M_jump_0 []) (cond (Nat.blt L 26) (cond (Nat.beq L 25) b_M_jump_25 []) (cond (Nat.beq L 26) b_M_jump_26 []))
def b_M_sound_0 : List RI := [(.iload_n 1, []), (.iconst 0, []), (.bipush 8, []), (.invokestatic 46, [87, 3, 0]), (.ifCond .eq 28, [35]), (.iload_n 2, []), (.iconst 0, []), (.iconst 3, []), (.invokestatic 46, [87, 3, 0]), (.ifCond .eq 19, [35]), (.aload_n 0, []), (.getfield 7, [6, 0]), (.bipush 17, []), (.iconst 4, []), (.iload_n 1, []), (.imul, []), (.iadd, []), (.iload_n 2, []), (.iadd, []), (.iaload, []), (.goto 4, [36])]
def b_M_sound_35 : List RI := [(.iconst (-1), []), (.nop, [36])]
def b_M_sound_36 : List RI := [(.ireturn, [0])]
def p_M_sound (L : Nat) : List RI := cond (Nat.blt L 35) (cond (Nat.beq L 0) b_M_sound_0 []) (cond (Nat.blt L 36) (cond (Nat.beq L 35) b_M_sound_35 []) (cond (Nat.beq L 36) b_M_sound_36 []))
def b_M_number_0 : List RI := [(.iload_n 1, []), (.iconst 0, []), (.iconst 4, []), (.invokestatic 46, [87, 3, 0]), (.ifCond .eq 11, [17]), (.aload_n 0, []), (.iload_n 1, []), (.invokevirtual 88, [99, 2, 16]), (.goto 4, [18])]
def b_M_number_17 : List RI := [(.iconst (-1), []), (.nop, [18])]
def b_M_number_18 : List RI := [(.ireturn, [0])]
def p_M_number (L : Nat) : List RI := cond (Nat.blt L 17) (cond (Nat.beq L 0) b_M_number_0 []) (cond (Nat.blt L 18) (cond (Nat.beq L 17) b_M_number_17 []) (cond (Nat.beq L 18) b_M_number_18 []))
def b_M_segment_0 : List RI := [(.aload_n 0, []), (.iload_n 1, []), (.invokevirtual 106, [93, 2, 16]), (.ifCond .eq 12, [17]), (.iload_n 2, []), (.iconst 0, []), (.iconst 2, []), (.invokestatic 46, [87, 3, 0]), (.ifCond .ne 5, [19]), (.nop, [17])]
def b_M_segment_17 : List RI := [(.iconst (-1), []), (.ireturn, [0])]
def b_M_segment_19 : List RI := [(.iload_n 2, []), (.ifCond .ne 11, [31]), (.aload_n 0, []), (.iload_n 1, []), (.invokevirtual 158, [97, 2, 16]), (.goto 21, [49])]
def b_M_segment_31 : List RI := [(.iload_n 2, []), (.iconst 1, []), (.if_icmp .ne 11, [44]), (.aload_n 0, []), (.iload_n 1, []), (.invokevirtual 64, [98, 2, 16]), (.goto 8, [49])]
def b_M_segment_44 : List RI := [(.aload_n 0, []), (.iload_n 1, []), (.invokevirtual 67, [100, 2, 16]), (.nop, [49])]
def b_M_segment_49 : List RI := [(.ireturn, [0])]
def p_M_segment (L : Nat) : List RI := cond (Nat.blt L 31) (cond (Nat.blt L 17) (cond (Nat.beq L 0) b_M_segment_0 []) (cond (Nat.blt L 19) (cond (Nat.beq L 17) b_M_segment_17 []) (cond (Nat.beq L 19) b_M_segment_19 []))) (cond (Nat.blt L 44) (cond (Nat.beq L 31) b_M_segment_31 []) (cond (Nat.blt L 49) (cond (Nat.beq L 44) b_M_segment_44 []) (cond (Nat.beq L 49) b_M_segment_49 [])))
def b_M_orNone_0 : List RI := [(.iload_n 0, []), (.ifCond .ge 8, [9]), (.bipush (-99), []), (.goto 4, [10])]
def b_M_orNone_9 : List RI := [(.iload_n 0, []), (.nop, [10])]
def b_M_orNone_10 : List RI := [(.ireturn, [0])]
def p_M_orNone (L : Nat) : List RI := cond (Nat.blt L 9) (cond (Nat.beq L 0) b_M_orNone_0 []) (cond (Nat.blt L 10) (cond (Nat.beq L 9) b_M_orNone_9 []) (cond (Nat.beq L 10) b_M_orNone_10 []))
def b_M_tellAir_0 : List RI := [(.aload_n 0, []), (.aload_n 0, []), (.getfield 7, [6, 0]), (.invokevirtual 129, [124, 2, 16]), (.istore_n 3, []), (.iload_n 2, []), (.iconst 4, []), (.if_icmp .ne 12, [23]), (.aload_n 0, []), (.getfield 22, [6, 6]), (.iload_n 1, []), (.iaload, []), (.goto 22, [42])]
def b_M_tellAir_23 : List RI := [(.iload_n 1, []), (.iload_n 3, []), (.if_icmp .lt 16, [41]), (.aload_n 0, []), (.getfield 25, [6, 7]), (.iload_n 1, []), (.baload, []), (.ifCond .eq 7, [41]), (.iconst 1, []), (.goto 4, [42])]
def b_M_tellAir_41 : List RI := [(.iconst 0, []), (.nop, [42])]
def b_M_tellAir_42 : List RI := [(.ireturn, [0])]
def p_M_tellAir (L : Nat) : List RI := cond (Nat.blt L 41) (cond (Nat.blt L 23) (cond (Nat.beq L 0) b_M_tellAir_0 []) (cond (Nat.beq L 23) b_M_tellAir_23 [])) (cond (Nat.blt L 42) (cond (Nat.beq L 41) b_M_tellAir_41 []) (cond (Nat.beq L 42) b_M_tellAir_42 []))
def b_M_frame_0 : List RI := [(.aload_n 0, []), (.iload_n 1, []), (.invokevirtual 112, [102, 2, 16]), (.ifCond .eq 13, [18]), (.iload_n 2, []), (.iconst 0, []), (.bipush 6, []), (.invokestatic 46, [87, 3, 0]), (.ifCond .ne 5, [20]), (.nop, [18])]
def b_M_frame_18 : List RI := [(.iconst (-1), []), (.ireturn, [0])]
def b_M_frame_20 : List RI := [(.iload_n 2, []), (.tableswitch 89 0 5 #[39, 45, 55, 68, 82, 82], [110, 60, 66, 76, 89, 103, 103])]
def b_M_frame_60 : List RI := [(.aload_n 0, []), (.iload_n 1, []), (.invokevirtual 183, [103, 2, 16]), (.ireturn, [0])]
def b_M_frame_66 : List RI := [(.aload_n 0, []), (.aload_n 0, []), (.iload_n 1, []), (.invokevirtual 183, [103, 2, 16]), (.invokevirtual 158, [97, 2, 16]), (.ireturn, [0])]
def b_M_frame_76 : List RI := [(.aload_n 0, []), (.getfield 7, [6, 0]), (.bipush 119, []), (.iload_n 1, []), (.iadd, []), (.iaload, []), (.invokestatic 186, [151, 1, 0]), (.ireturn, [0])]
def b_M_frame_89 : List RI := [(.aload_n 0, []), (.getfield 7, [6, 0]), (.sipush 218, []), (.iload_n 1, []), (.iadd, []), (.iaload, []), (.invokestatic 186, [151, 1, 0]), (.ireturn, [0])]
def b_M_frame_103 : List RI := [(.aload_n 0, []), (.iload_n 1, []), (.iload_n 2, []), (.invokevirtual 189, [152, 3, 16]), (.ireturn, [0])]
def b_M_frame_110 : List RI := [(.aload_n 0, []), (.aload_n 0, []), (.iconst 0, []), (.invokevirtual 88, [99, 2, 16]), (.bipush (-99), []), (.bipush (-99), []), (.invokevirtual 126, [141, 4, 16]), (.bipush (-99), []), (.if_icmp .ne 8, [133]), (.bipush (-99), []), (.goto 9, [139])]
def b_M_frame_133 : List RI := [(.aload_n 0, []), (.getfield 32, [6, 11]), (.iload_n 1, []), (.iaload, []), (.nop, [139])]
def b_M_frame_139 : List RI := [(.ireturn, [0])]
def p_M_frame (L : Nat) : List RI := cond (Nat.blt L 76) (cond (Nat.blt L 20) (cond (Nat.blt L 18) (cond (Nat.beq L 0) b_M_frame_0 []) (cond (Nat.beq L 18) b_M_frame_18 [])) (cond (Nat.blt L 60) (cond (Nat.beq L 20) b_M_frame_20 []) (cond (Nat.blt L 66) (cond (Nat.beq L 60) b_M_frame_60 []) (cond (Nat.beq L 66) b_M_frame_66 [])))) (cond (Nat.blt L 110) (cond (Nat.blt L 89) (cond (Nat.beq L 76) b_M_frame_76 []) (cond (Nat.blt L 103) (cond (Nat.beq L 89) b_M_frame_89 []) (cond (Nat.beq L 103) b_M_frame_103 []))) (cond (Nat.blt L 133) (cond (Nat.beq L 110) b_M_frame_110 []) (cond (Nat.blt L 139) (cond (Nat.beq L 133) b_M_frame_133 []) (cond (Nat.beq L 139) b_M_frame_139 []))))
def b_M_wrongness_0 : List RI := [(.aload_n 0, []), (.iload_n 1, []), (.invokevirtual 112, [102, 2, 16]), (.ifCond .eq 28, [33]), (.aload_n 0, []), (.iload_n 2, []), (.invokevirtual 81, [92, 2, 16]), (.ifCond .eq 20, [33]), (.aload_n 0, []), (.aload_n 0, []), (.aload_n 0, []), (.iload_n 1, []), (.invokevirtual 183, [103, 2, 16]), (.invokevirtual 158, [97, 2, 16]), (.iload_n 2, []), (.invokevirtual 167, [138, 3, 16]), (.goto 4, [34])]
def b_M_wrongness_33 : List RI := [(.iconst (-1), []), (.nop, [34])]
def b_M_wrongness_34 : List RI := [(.ireturn, [0])]
def p_M_wrongness (L : Nat) : List RI := cond (Nat.blt L 33) (cond (Nat.beq L 0) b_M_wrongness_0 []) (cond (Nat.blt L 34) (cond (Nat.beq L 33) b_M_wrongness_33 []) (cond (Nat.beq L 34) b_M_wrongness_34 []))
def b_M_least_0 : List RI := [(.iload_n 1, []), (.iconst 0, []), (.iconst 1, []), (.invokestatic 46, [87, 3, 0]), (.ifCond .eq 19, [25]), (.aload_n 0, []), (.aload_n 0, []), (.iconst 0, []), (.invokevirtual 88, [99, 2, 16]), (.bipush (-99), []), (.bipush (-99), []), (.invokevirtual 126, [141, 4, 16]), (.goto 4, [26])]
def b_M_least_25 : List RI := [(.iconst (-1), []), (.nop, [26])]
def b_M_least_26 : List RI := [(.ireturn, [0])]
def p_M_least (L : Nat) : List RI := cond (Nat.blt L 25) (cond (Nat.beq L 0) b_M_least_0 []) (cond (Nat.blt L 26) (cond (Nat.beq L 25) b_M_least_25 []) (cond (Nat.beq L 26) b_M_least_26 []))
def b_M_leastWith_0 : List RI := [(.aload_n 0, []), (.iload_n 1, []), (.invokevirtual 112, [102, 2, 16]), (.ifCond .eq 25, [30]), (.aload_n 0, []), (.iload_n 2, []), (.invokevirtual 81, [92, 2, 16]), (.ifCond .eq 17, [30]), (.aload_n 0, []), (.aload_n 0, []), (.iconst 0, []), (.invokevirtual 88, [99, 2, 16]), (.iload_n 1, []), (.iload_n 2, []), (.invokevirtual 126, [141, 4, 16]), (.goto 4, [31])]
def b_M_leastWith_30 : List RI := [(.iconst (-1), []), (.nop, [31])]
def b_M_leastWith_31 : List RI := [(.ireturn, [0])]
def p_M_leastWith (L : Nat) : List RI := cond (Nat.blt L 30) (cond (Nat.beq L 0) b_M_leastWith_0 []) (cond (Nat.blt L 31) (cond (Nat.beq L 30) b_M_leastWith_30 []) (cond (Nat.beq L 31) b_M_leastWith_31 []))
def b_M_why_0 : List RI := [(.aload_n 0, []), (.iload_n 1, []), (.invokevirtual 112, [102, 2, 16]), (.ifCond .ne 5, [10]), (.iconst (-1), []), (.ireturn, [0])]
def b_M_why_10 : List RI := [(.aload_n 0, []), (.iconst 0, []), (.invokevirtual 88, [99, 2, 16]), (.istore_n 2, []), (.aload_n 0, []), (.iload_n 2, []), (.bipush (-99), []), (.bipush (-99), []), (.invokevirtual 126, [141, 4, 16]), (.bipush (-99), []), (.if_icmp .ne 6, [33]), (.bipush (-99), []), (.ireturn, [0])]
def b_M_why_33 : List RI := [(.iconst 0, []), (.istore_n 3, []), (.iconst 1, []), (.istore 4, []), (.nop, [38])]
def b_M_why_38 : List RI := [(.iload 4, []), (.aload_n 0, []), (.getfield 7, [6, 0]), (.iconst 0, []), (.iaload, []), (.if_icmp .ge 42, [88]), (.aload_n 0, []), (.aload_n 0, []), (.getfield 35, [6, 12]), (.iload_n 1, []), (.iaload, []), (.iload 4, []), (.invokevirtual 167, [138, 3, 16]), (.aload_n 0, []), (.aload_n 0, []), (.getfield 35, [6, 12]), (.iload_n 1, []), (.iaload, []), (.iload_n 3, []), (.invokevirtual 167, [138, 3, 16]), (.if_icmp .ge 8, [80]), (.iload 4, []), (.goto 4, [81])]
def b_M_why_80 : List RI := [(.iload_n 3, []), (.nop, [81])]
def b_M_why_81 : List RI := [(.istore_n 3, []), (.iinc 4 1, []), (.goto (-47), [38])]
def b_M_why_88 : List RI := [(.aload_n 0, []), (.aload_n 0, []), (.getfield 35, [6, 12]), (.iload_n 1, []), (.iaload, []), (.aload_n 0, []), (.getfield 32, [6, 11]), (.iload_n 1, []), (.iaload, []), (.invokevirtual 167, [138, 3, 16]), (.aload_n 0, []), (.aload_n 0, []), (.getfield 35, [6, 12]), (.iload_n 1, []), (.iaload, []), (.iload_n 3, []), (.invokevirtual 167, [138, 3, 16]), (.if_icmp .ne 5, [120]), (.iconst 0, []), (.ireturn, [0])]
def b_M_why_120 : List RI := [(.aload_n 0, []), (.getfield 7, [6, 0]), (.bipush 119, []), (.iload_n 1, []), (.iadd, []), (.iaload, []), (.ifCond .lt 5, [134]), (.iconst 1, []), (.ireturn, [0])]
def b_M_why_134 : List RI := [(.iload_n 1, []), (.ifCond .le 22, [157]), (.aload_n 0, []), (.aload_n 0, []), (.getfield 32, [6, 11]), (.iload_n 1, []), (.iconst 1, []), (.isub, []), (.iaload, []), (.iload_n 3, []), (.invokevirtual 120, [96, 3, 16]), (.iload_n 2, []), (.if_icmp .le 5, [157]), (.iconst 2, []), (.ireturn, [0])]
def b_M_why_157 : List RI := [(.iload_n 1, []), (.aload_n 0, []), (.invokevirtual 70, [101, 1, 16]), (.iconst 1, []), (.isub, []), (.if_icmp .ge 24, [188]), (.aload_n 0, []), (.iload_n 3, []), (.aload_n 0, []), (.getfield 32, [6, 11]), (.iload_n 1, []), (.iconst 1, []), (.iadd, []), (.iaload, []), (.invokevirtual 120, [96, 3, 16]), (.iload_n 2, []), (.if_icmp .le 7, [188]), (.iconst 3, []), (.goto 4, [189])]
def b_M_why_188 : List RI := [(.iconst 4, []), (.nop, [189])]
def b_M_why_189 : List RI := [(.ireturn, [0])]
def p_M_why (L : Nat) : List RI := cond (Nat.blt L 88) (cond (Nat.blt L 38) (cond (Nat.blt L 10) (cond (Nat.beq L 0) b_M_why_0 []) (cond (Nat.blt L 33) (cond (Nat.beq L 10) b_M_why_10 []) (cond (Nat.beq L 33) b_M_why_33 []))) (cond (Nat.blt L 80) (cond (Nat.beq L 38) b_M_why_38 []) (cond (Nat.blt L 81) (cond (Nat.beq L 80) b_M_why_80 []) (cond (Nat.beq L 81) b_M_why_81 [])))) (cond (Nat.blt L 157) (cond (Nat.blt L 120) (cond (Nat.beq L 88) b_M_why_88 []) (cond (Nat.blt L 134) (cond (Nat.beq L 120) b_M_why_120 []) (cond (Nat.beq L 134) b_M_why_134 []))) (cond (Nat.blt L 188) (cond (Nat.beq L 157) b_M_why_157 []) (cond (Nat.blt L 189) (cond (Nat.beq L 188) b_M_why_188 []) (cond (Nat.beq L 189) b_M_why_189 []))))
def b_M_faultIn_0 : List RI := [(.aload_n 0, []), (.getfield 7, [6, 0]), (.sipush 218, []), (.iload_n 1, []), (.iadd, []), (.iaload, []), (.istore_n 2, []), (.iload_n 2, []), (.ifCond .ge 5, [17]), (.iconst 1, []), (.ireturn, [0])]
def b_M_faultIn_17 : List RI := [(.aload_n 0, []), (.getfield 7, [6, 0]), (.bipush 119, []), (.iload_n 1, []), (.iadd, []), (.iaload, []), (.ifCond .lt 18, [44]), (.aload_n 0, []), (.getfield 7, [6, 0]), (.bipush 119, []), (.iload_n 1, []), (.iadd, []), (.iaload, []), (.iload_n 2, []), (.if_icmp .eq 5, [44]), (.iconst 2, []), (.ireturn, [0])]
def b_M_faultIn_44 : List RI := [(.iload_n 1, []), (.ifCond .ne 5, [50]), (.iconst 0, []), (.ireturn, [0])]
def b_M_faultIn_50 : List RI := [(.aload_n 0, []), (.getfield 7, [6, 0]), (.sipush 218, []), (.iload_n 1, []), (.iadd, []), (.iconst 1, []), (.isub, []), (.iaload, []), (.istore_n 3, []), (.aload_n 0, []), (.iload_n 3, []), (.iload_n 2, []), (.invokevirtual 120, [96, 3, 16]), (.aload_n 0, []), (.iconst 0, []), (.invokevirtual 88, [99, 2, 16]), (.if_icmp .le 5, [79]), (.iconst 3, []), (.ireturn, [0])]
def b_M_faultIn_79 : List RI := [(.iconst 0, []), (.istore 4, []), (.iload_n 1, []), (.iconst 1, []), (.isub, []), (.istore 5, []), (.nop, [87])]
def b_M_faultIn_87 : List RI := [(.iload 5, []), (.ifCond .lt 27, [116]), (.aload_n 0, []), (.getfield 7, [6, 0]), (.sipush 218, []), (.iload 5, []), (.iadd, []), (.iaload, []), (.iload_n 3, []), (.if_icmp .ne 12, [116]), (.iinc 4 1, []), (.iinc 5 (-1), []), (.goto (-26), [87])]
def b_M_faultIn_116 : List RI := [(.iload_n 2, []), (.iload_n 3, []), (.if_icmp .eq 17, [135]), (.iload 4, []), (.aload_n 0, []), (.iconst 1, []), (.invokevirtual 88, [99, 2, 16]), (.if_icmp .ge 7, [135]), (.iconst 4, []), (.goto 4, [136])]
def b_M_faultIn_135 : List RI := [(.iconst 0, []), (.nop, [136])]
def b_M_faultIn_136 : List RI := [(.ireturn, [0])]
def p_M_faultIn (L : Nat) : List RI := cond (Nat.blt L 79) (cond (Nat.blt L 44) (cond (Nat.blt L 17) (cond (Nat.beq L 0) b_M_faultIn_0 []) (cond (Nat.beq L 17) b_M_faultIn_17 [])) (cond (Nat.blt L 50) (cond (Nat.beq L 44) b_M_faultIn_44 []) (cond (Nat.beq L 50) b_M_faultIn_50 []))) (cond (Nat.blt L 116) (cond (Nat.blt L 87) (cond (Nat.beq L 79) b_M_faultIn_79 []) (cond (Nat.beq L 87) b_M_faultIn_87 [])) (cond (Nat.blt L 135) (cond (Nat.beq L 116) b_M_faultIn_116 []) (cond (Nat.blt L 136) (cond (Nat.beq L 135) b_M_faultIn_135 []) (cond (Nat.beq L 136) b_M_faultIn_136 []))))
def b_M_fault_0 : List RI := [(.iload_n 1, []), (.iconst 0, []), (.iconst 1, []), (.invokestatic 46, [87, 3, 0]), (.ifCond .ne 5, [11]), (.iconst (-1), []), (.ireturn, [0])]
def b_M_fault_11 : List RI := [(.iconst 0, []), (.istore_n 2, []), (.nop, [13])]
def b_M_fault_13 : List RI := [(.iload_n 2, []), (.aload_n 0, []), (.invokevirtual 70, [101, 1, 16]), (.if_icmp .ge 29, [47]), (.aload_n 0, []), (.iload_n 2, []), (.invokevirtual 192, [158, 2, 16]), (.istore_n 3, []), (.iload_n 3, []), (.ifCond .le 13, [41]), (.iload_n 1, []), (.ifCond .ne 7, [39]), (.iload_n 2, []), (.goto 4, [40])]
def b_M_fault_39 : List RI := [(.iload_n 3, []), (.nop, [40])]
def b_M_fault_40 : List RI := [(.ireturn, [0])]
def b_M_fault_41 : List RI := [(.iinc 2 1, []), (.goto (-31), [13])]
def b_M_fault_47 : List RI := [(.bipush (-99), []), (.ireturn, [0])]
def p_M_fault (L : Nat) : List RI := cond (Nat.blt L 39) (cond (Nat.blt L 11) (cond (Nat.beq L 0) b_M_fault_0 []) (cond (Nat.blt L 13) (cond (Nat.beq L 11) b_M_fault_11 []) (cond (Nat.beq L 13) b_M_fault_13 []))) (cond (Nat.blt L 41) (cond (Nat.blt L 40) (cond (Nat.beq L 39) b_M_fault_39 []) (cond (Nat.beq L 40) b_M_fault_40 [])) (cond (Nat.blt L 47) (cond (Nat.beq L 41) b_M_fault_41 []) (cond (Nat.beq L 47) b_M_fault_47 [])))
def b_M_drawnSum_0 : List RI := [(.aload_n 0, []), (.invokevirtual 164, [137, 1, 16]), (.iconst 0, []), (.istore_n 1, []), (.iconst 0, []), (.istore_n 2, []), (.nop, [8])]
def b_M_drawnSum_8 : List RI := [(.iload_n 2, []), (.aload_n 0, []), (.invokevirtual 70, [101, 1, 16]), (.if_icmp .ge 48, [61]), (.aload_n 0, []), (.getfield 7, [6, 0]), (.sipush 218, []), (.iload_n 2, []), (.iadd, []), (.iaload, []), (.ifCond .ge 6, [32]), (.bipush (-99), []), (.ireturn, [0])]
def b_M_drawnSum_32 : List RI := [(.iload_n 1, []), (.aload_n 0, []), (.aload_n 0, []), (.getfield 35, [6, 12]), (.iload_n 2, []), (.iaload, []), (.aload_n 0, []), (.getfield 7, [6, 0]), (.sipush 218, []), (.iload_n 2, []), (.iadd, []), (.iaload, []), (.invokevirtual 167, [138, 3, 16]), (.iadd, []), (.istore_n 1, []), (.iinc 2 1, []), (.goto (-50), [8])]
def b_M_drawnSum_61 : List RI := [(.iload_n 1, []), (.ireturn, [0])]
def p_M_drawnSum (L : Nat) : List RI := cond (Nat.blt L 32) (cond (Nat.blt L 8) (cond (Nat.beq L 0) b_M_drawnSum_0 []) (cond (Nat.beq L 8) b_M_drawnSum_8 [])) (cond (Nat.blt L 61) (cond (Nat.beq L 32) b_M_drawnSum_32 []) (cond (Nat.beq L 61) b_M_drawnSum_61 []))
def b_M_speedFor_0 : List RI := [(.iload_n 1, []), (.iconst 0, []), (.ldc 195, [99999]), (.invokestatic 46, [87, 3, 0]), (.ifCond .ne 5, [12]), (.iconst (-1), []), (.ireturn, [0])]
def b_M_speedFor_12 : List RI := [(.iconst 1, []), (.istore_n 2, []), (.nop, [14])]
def b_M_speedFor_14 : List RI := [(.iload_n 2, []), (.bipush 9, []), (.if_icmp .gt 32, [49]), (.aload_n 0, []), (.iload_n 2, []), (.bipush (-99), []), (.bipush (-99), []), (.invokevirtual 126, [141, 4, 16]), (.istore_n 3, []), (.iload_n 3, []), (.bipush (-99), []), (.if_icmp .eq 10, [43]), (.iload_n 3, []), (.iload_n 1, []), (.if_icmp .gt 5, [43]), (.iload_n 2, []), (.ireturn, [0])]
def b_M_speedFor_43 : List RI := [(.iinc 2 1, []), (.goto (-32), [14])]
def b_M_speedFor_49 : List RI := [(.bipush (-99), []), (.ireturn, [0])]
def p_M_speedFor (L : Nat) : List RI := cond (Nat.blt L 14) (cond (Nat.blt L 12) (cond (Nat.beq L 0) b_M_speedFor_0 []) (cond (Nat.beq L 12) b_M_speedFor_12 [])) (cond (Nat.blt L 43) (cond (Nat.beq L 14) b_M_speedFor_14 []) (cond (Nat.blt L 49) (cond (Nat.beq L 43) b_M_speedFor_43 []) (cond (Nat.beq L 49) b_M_speedFor_49 [])))
def b_M_nearest_0 : List RI := [(.iload_n 1, []), (.invokestatic 74, [104, 1, 0]), (.ifCond .eq 21, [25]), (.iload_n 2, []), (.invokestatic 74, [104, 1, 0]), (.ifCond .eq 14, [25]), (.aload_n 0, []), (.iload_n 1, []), (.iload_n 2, []), (.bipush (-99), []), (.invokevirtual 123, [121, 4, 16]), (.goto 4, [26])]
def b_M_nearest_25 : List RI := [(.iconst (-1), []), (.nop, [26])]
def b_M_nearest_26 : List RI := [(.ireturn, [0])]
def p_M_nearest (L : Nat) : List RI := cond (Nat.blt L 25) (cond (Nat.beq L 0) b_M_nearest_0 []) (cond (Nat.blt L 26) (cond (Nat.beq L 25) b_M_nearest_25 []) (cond (Nat.beq L 26) b_M_nearest_26 []))
def b_W_law_0 : List RI := [(.new 7, [5]), (.dup, []), (.invokespecial 9, [48, 1, 15]), (.astore_n 1, []), (.new 10, [6]), (.dup, []), (.invokespecial 12, [86, 1, 16]), (.astore_n 2, []), (.iconst 0, []), (.istore_n 3, []), (.nop, [18])]
def b_W_law_18 : List RI := [(.iload_n 3, []), (.aload_n 0, []), (.arraylength, []), (.iconst 4, []), (.isub, []), (.if_icmp .gt 1072, [1095]), (.aload_n 0, []), (.iload_n 3, []), (.iaload, []), (.bipush 63, []), (.iand, []), (.tableswitch 1057 0 32 #[148, 181, 224, 267, 300, 343, 366, 399, 432, 465, 498, 511, 534, 557, 580, 593, 616, 629, 642, 665, 698, 731, 764, 787, 820, 853, 886, 909, 942, 965, 988, 1001, 1024], [1089, 180, 213, 256, 299, 332, 375, 398, 431, 464, 497, 530, 543, 566, 589, 612, 625, 648, 661, 674, 697, 730, 763, 796, 819, 852, 885, 918, 941, 974, 997, 1020, 1033, 1056])]
def b_W_law_180 : List RI := [(.aload_n 1, []), (.aload_n 0, []), (.iload_n 3, []), (.iconst 1, []), (.iadd, []), (.iaload, []), (.aload_n 0, []), (.iload_n 3, []), (.iconst 2, []), (.iadd, []), (.iaload, []), (.invokevirtual 13, [49, 3, 15]), (.aload_n 2, []), (.aload_n 0, []), (.iload_n 3, []), (.iconst 1, []), (.iadd, []), (.iaload, []), (.aload_n 0, []), (.iload_n 3, []), (.iconst 2, []), (.iadd, []), (.iaload, []), (.invokevirtual 17, [105, 3, 16]), (.if_icmp .eq 881, [1089]), (.iconst 0, []), (.ireturn, [1])]
def b_W_law_213 : List RI := [(.aload_n 1, []), (.aload_n 0, []), (.iload_n 3, []), (.iconst 1, []), (.iadd, []), (.iaload, []), (.aload_n 0, []), (.iload_n 3, []), (.iconst 2, []), (.iadd, []), (.iaload, []), (.aload_n 0, []), (.iload_n 3, []), (.iconst 3, []), (.iadd, []), (.iaload, []), (.invokevirtual 18, [50, 4, 15]), (.aload_n 2, []), (.aload_n 0, []), (.iload_n 3, []), (.iconst 1, []), (.iadd, []), (.iaload, []), (.aload_n 0, []), (.iload_n 3, []), (.iconst 2, []), (.iadd, []), (.iaload, []), (.aload_n 0, []), (.iload_n 3, []), (.iconst 3, []), (.iadd, []), (.iaload, []), (.invokevirtual 22, [106, 4, 16]), (.if_icmp .eq 838, [1089]), (.iconst 0, []), (.ireturn, [1])]
def b_W_law_256 : List RI := [(.aload_n 1, []), (.aload_n 0, []), (.iload_n 3, []), (.iconst 1, []), (.iadd, []), (.iaload, []), (.aload_n 0, []), (.iload_n 3, []), (.iconst 2, []), (.iadd, []), (.iaload, []), (.aload_n 0, []), (.iload_n 3, []), (.iconst 3, []), (.iadd, []), (.iaload, []), (.invokevirtual 23, [51, 4, 15]), (.aload_n 2, []), (.aload_n 0, []), (.iload_n 3, []), (.iconst 1, []), (.iadd, []), (.iaload, []), (.aload_n 0, []), (.iload_n 3, []), (.iconst 2, []), (.iadd, []), (.iaload, []), (.aload_n 0, []), (.iload_n 3, []), (.iconst 3, []), (.iadd, []), (.iaload, []), (.invokevirtual 26, [107, 4, 16]), (.if_icmp .eq 795, [1089]), (.iconst 0, []), (.ireturn, [1])]
def b_W_law_299 : List RI := [(.aload_n 1, []), (.aload_n 0, []), (.iload_n 3, []), (.iconst 1, []), (.iadd, []), (.iaload, []), (.aload_n 0, []), (.iload_n 3, []), (.iconst 2, []), (.iadd, []), (.iaload, []), (.invokevirtual 27, [52, 3, 15]), (.aload_n 2, []), (.aload_n 0, []), (.iload_n 3, []), (.iconst 1, []), (.iadd, []), (.iaload, []), (.aload_n 0, []), (.iload_n 3, []), (.iconst 2, []), (.iadd, []), (.iaload, []), (.invokevirtual 30, [109, 3, 16]), (.if_icmp .eq 762, [1089]), (.iconst 0, []), (.ireturn, [1])]
def b_W_law_332 : List RI := [(.aload_n 1, []), (.aload_n 0, []), (.iload_n 3, []), (.iconst 1, []), (.iadd, []), (.iaload, []), (.aload_n 0, []), (.iload_n 3, []), (.iconst 2, []), (.iadd, []), (.iaload, []), (.aload_n 0, []), (.iload_n 3, []), (.iconst 3, []), (.iadd, []), (.iaload, []), (.invokevirtual 31, [53, 4, 15]), (.aload_n 2, []), (.aload_n 0, []), (.iload_n 3, []), (.iconst 1, []), (.iadd, []), (.iaload, []), (.aload_n 0, []), (.iload_n 3, []), (.iconst 2, []), (.iadd, []), (.iaload, []), (.aload_n 0, []), (.iload_n 3, []), (.iconst 3, []), (.iadd, []), (.iaload, []), (.invokevirtual 34, [115, 4, 16]), (.if_icmp .eq 719, [1089]), (.iconst 0, []), (.ireturn, [1])]
def b_W_law_375 : List RI := [(.aload_n 1, []), (.aload_n 0, []), (.iload_n 3, []), (.iconst 1, []), (.iadd, []), (.iaload, []), (.invokevirtual 35, [54, 2, 15]), (.aload_n 2, []), (.aload_n 0, []), (.iload_n 3, []), (.iconst 1, []), (.iadd, []), (.iaload, []), (.invokevirtual 39, [116, 2, 16]), (.if_icmp .eq 696, [1089]), (.iconst 0, []), (.ireturn, [1])]
def b_W_law_398 : List RI := [(.aload_n 1, []), (.aload_n 0, []), (.iload_n 3, []), (.iconst 1, []), (.iadd, []), (.iaload, []), (.aload_n 0, []), (.iload_n 3, []), (.iconst 2, []), (.iadd, []), (.iaload, []), (.invokevirtual 40, [55, 3, 15]), (.aload_n 2, []), (.aload_n 0, []), (.iload_n 3, []), (.iconst 1, []), (.iadd, []), (.iaload, []), (.aload_n 0, []), (.iload_n 3, []), (.iconst 2, []), (.iadd, []), (.iaload, []), (.invokevirtual 43, [117, 3, 16]), (.if_icmp .eq 663, [1089]), (.iconst 0, []), (.ireturn, [1])]
def b_W_law_431 : List RI := [(.aload_n 1, []), (.aload_n 0, []), (.iload_n 3, []), (.iconst 1, []), (.iadd, []), (.iaload, []), (.aload_n 0, []), (.iload_n 3, []), (.iconst 2, []), (.iadd, []), (.iaload, []), (.invokevirtual 44, [56, 3, 15]), (.aload_n 2, []), (.aload_n 0, []), (.iload_n 3, []), (.iconst 1, []), (.iadd, []), (.iaload, []), (.aload_n 0, []), (.iload_n 3, []), (.iconst 2, []), (.iadd, []), (.iaload, []), (.invokevirtual 47, [119, 3, 16]), (.if_icmp .eq 630, [1089]), (.iconst 0, []), (.ireturn, [1])]
def b_W_law_464 : List RI := [(.aload_n 1, []), (.aload_n 0, []), (.iload_n 3, []), (.iconst 1, []), (.iadd, []), (.iaload, []), (.aload_n 0, []), (.iload_n 3, []), (.iconst 2, []), (.iadd, []), (.iaload, []), (.invokevirtual 48, [57, 3, 15]), (.aload_n 2, []), (.aload_n 0, []), (.iload_n 3, []), (.iconst 1, []), (.iadd, []), (.iaload, []), (.aload_n 0, []), (.iload_n 3, []), (.iconst 2, []), (.iadd, []), (.iaload, []), (.invokevirtual 51, [120, 3, 16]), (.if_icmp .eq 597, [1089]), (.iconst 0, []), (.ireturn, [1])]
def b_W_law_497 : List RI := [(.aload_n 1, []), (.aload_n 0, []), (.iload_n 3, []), (.iconst 1, []), (.iadd, []), (.iaload, []), (.aload_n 0, []), (.iload_n 3, []), (.iconst 2, []), (.iadd, []), (.iaload, []), (.invokevirtual 52, [58, 3, 15]), (.aload_n 2, []), (.aload_n 0, []), (.iload_n 3, []), (.iconst 1, []), (.iadd, []), (.iaload, []), (.aload_n 0, []), (.iload_n 3, []), (.iconst 2, []), (.iadd, []), (.iaload, []), (.invokevirtual 55, [122, 3, 16]), (.if_icmp .eq 564, [1089]), (.iconst 0, []), (.ireturn, [1])]
def b_W_law_530 : List RI := [(.aload_n 1, []), (.invokevirtual 56, [59, 1, 15]), (.aload_n 2, []), (.invokevirtual 60, [123, 1, 16]), (.if_icmp .eq 551, [1089]), (.iconst 0, []), (.ireturn, [1])]
def b_W_law_543 : List RI := [(.aload_n 1, []), (.aload_n 0, []), (.iload_n 3, []), (.iconst 1, []), (.iadd, []), (.iaload, []), (.invokevirtual 61, [60, 2, 15]), (.aload_n 2, []), (.aload_n 0, []), (.iload_n 3, []), (.iconst 1, []), (.iadd, []), (.iaload, []), (.invokevirtual 64, [126, 2, 16]), (.if_icmp .eq 528, [1089]), (.iconst 0, []), (.ireturn, [1])]
def b_W_law_566 : List RI := [(.aload_n 1, []), (.aload_n 0, []), (.iload_n 3, []), (.iconst 1, []), (.iadd, []), (.iaload, []), (.invokevirtual 65, [61, 2, 15]), (.aload_n 2, []), (.aload_n 0, []), (.iload_n 3, []), (.iconst 1, []), (.iadd, []), (.iaload, []), (.invokevirtual 68, [127, 2, 16]), (.if_icmp .eq 505, [1089]), (.iconst 0, []), (.ireturn, [1])]
def b_W_law_589 : List RI := [(.aload_n 1, []), (.aload_n 0, []), (.iload_n 3, []), (.iconst 1, []), (.iadd, []), (.iaload, []), (.invokevirtual 69, [62, 2, 15]), (.aload_n 2, []), (.aload_n 0, []), (.iload_n 3, []), (.iconst 1, []), (.iadd, []), (.iaload, []), (.invokevirtual 72, [128, 2, 16]), (.if_icmp .eq 482, [1089]), (.iconst 0, []), (.ireturn, [1])]
def b_W_law_612 : List RI := [(.aload_n 1, []), (.invokevirtual 73, [63, 1, 15]), (.aload_n 2, []), (.invokevirtual 76, [129, 1, 16]), (.if_icmp .eq 469, [1089]), (.iconst 0, []), (.ireturn, [1])]
def b_W_law_625 : List RI := [(.aload_n 1, []), (.aload_n 0, []), (.iload_n 3, []), (.iconst 1, []), (.iadd, []), (.iaload, []), (.invokevirtual 77, [64, 2, 15]), (.aload_n 2, []), (.aload_n 0, []), (.iload_n 3, []), (.iconst 1, []), (.iadd, []), (.iaload, []), (.invokevirtual 80, [130, 2, 16]), (.if_icmp .eq 446, [1089]), (.iconst 0, []), (.ireturn, [1])]
def b_W_law_648 : List RI := [(.aload_n 1, []), (.invokevirtual 81, [65, 1, 15]), (.aload_n 2, []), (.invokevirtual 84, [131, 1, 16]), (.if_icmp .eq 433, [1089]), (.iconst 0, []), (.ireturn, [1])]
def b_W_law_661 : List RI := [(.aload_n 1, []), (.invokevirtual 85, [66, 1, 15]), (.aload_n 2, []), (.invokevirtual 88, [136, 1, 16]), (.if_icmp .eq 420, [1089]), (.iconst 0, []), (.ireturn, [1])]
def b_W_law_674 : List RI := [(.aload_n 1, []), (.aload_n 0, []), (.iload_n 3, []), (.iconst 1, []), (.iadd, []), (.iaload, []), (.invokevirtual 89, [67, 2, 15]), (.aload_n 2, []), (.aload_n 0, []), (.iload_n 3, []), (.iconst 1, []), (.iadd, []), (.iaload, []), (.invokevirtual 92, [145, 2, 16]), (.if_icmp .eq 397, [1089]), (.iconst 0, []), (.ireturn, [1])]
def b_W_law_697 : List RI := [(.aload_n 1, []), (.aload_n 0, []), (.iload_n 3, []), (.iconst 1, []), (.iadd, []), (.iaload, []), (.aload_n 0, []), (.iload_n 3, []), (.iconst 2, []), (.iadd, []), (.iaload, []), (.invokevirtual 93, [68, 3, 15]), (.aload_n 2, []), (.aload_n 0, []), (.iload_n 3, []), (.iconst 1, []), (.iadd, []), (.iaload, []), (.aload_n 0, []), (.iload_n 3, []), (.iconst 2, []), (.iadd, []), (.iaload, []), (.invokevirtual 96, [146, 3, 16]), (.if_icmp .eq 364, [1089]), (.iconst 0, []), (.ireturn, [1])]
def b_W_law_730 : List RI := [(.aload_n 1, []), (.aload_n 0, []), (.iload_n 3, []), (.iconst 1, []), (.iadd, []), (.iaload, []), (.aload_n 0, []), (.iload_n 3, []), (.iconst 2, []), (.iadd, []), (.iaload, []), (.invokevirtual 97, [69, 3, 15]), (.aload_n 2, []), (.aload_n 0, []), (.iload_n 3, []), (.iconst 1, []), (.iadd, []), (.iaload, []), (.aload_n 0, []), (.iload_n 3, []), (.iconst 2, []), (.iadd, []), (.iaload, []), (.invokevirtual 100, [147, 3, 16]), (.if_icmp .eq 331, [1089]), (.iconst 0, []), (.ireturn, [1])]
def b_W_law_763 : List RI := [(.aload_n 1, []), (.aload_n 0, []), (.iload_n 3, []), (.iconst 1, []), (.iadd, []), (.iaload, []), (.aload_n 0, []), (.iload_n 3, []), (.iconst 2, []), (.iadd, []), (.iaload, []), (.invokevirtual 101, [70, 3, 15]), (.aload_n 2, []), (.aload_n 0, []), (.iload_n 3, []), (.iconst 1, []), (.iadd, []), (.iaload, []), (.aload_n 0, []), (.iload_n 3, []), (.iconst 2, []), (.iadd, []), (.iaload, []), (.invokevirtual 104, [148, 3, 16]), (.if_icmp .eq 298, [1089]), (.iconst 0, []), (.ireturn, [1])]
def b_W_law_796 : List RI := [(.aload_n 1, []), (.aload_n 0, []), (.iload_n 3, []), (.iconst 1, []), (.iadd, []), (.iaload, []), (.invokevirtual 105, [71, 2, 15]), (.aload_n 2, []), (.aload_n 0, []), (.iload_n 3, []), (.iconst 1, []), (.iadd, []), (.iaload, []), (.invokevirtual 108, [149, 2, 16]), (.if_icmp .eq 275, [1089]), (.iconst 0, []), (.ireturn, [1])]
def b_W_law_819 : List RI := [(.aload_n 1, []), (.aload_n 0, []), (.iload_n 3, []), (.iconst 1, []), (.iadd, []), (.iaload, []), (.aload_n 0, []), (.iload_n 3, []), (.iconst 2, []), (.iadd, []), (.iaload, []), (.invokevirtual 109, [72, 3, 15]), (.aload_n 2, []), (.aload_n 0, []), (.iload_n 3, []), (.iconst 1, []), (.iadd, []), (.iaload, []), (.aload_n 0, []), (.iload_n 3, []), (.iconst 2, []), (.iadd, []), (.iaload, []), (.invokevirtual 112, [150, 3, 16]), (.if_icmp .eq 242, [1089]), (.iconst 0, []), (.ireturn, [1])]
def b_W_law_852 : List RI := [(.aload_n 1, []), (.aload_n 0, []), (.iload_n 3, []), (.iconst 1, []), (.iadd, []), (.iaload, []), (.aload_n 0, []), (.iload_n 3, []), (.iconst 2, []), (.iadd, []), (.iaload, []), (.invokevirtual 113, [73, 3, 15]), (.aload_n 2, []), (.aload_n 0, []), (.iload_n 3, []), (.iconst 1, []), (.iadd, []), (.iaload, []), (.aload_n 0, []), (.iload_n 3, []), (.iconst 2, []), (.iadd, []), (.iaload, []), (.invokevirtual 116, [153, 3, 16]), (.if_icmp .eq 209, [1089]), (.iconst 0, []), (.ireturn, [1])]
def b_W_law_885 : List RI := [(.aload_n 1, []), (.aload_n 0, []), (.iload_n 3, []), (.iconst 1, []), (.iadd, []), (.iaload, []), (.aload_n 0, []), (.iload_n 3, []), (.iconst 2, []), (.iadd, []), (.iaload, []), (.invokevirtual 117, [74, 3, 15]), (.aload_n 2, []), (.aload_n 0, []), (.iload_n 3, []), (.iconst 1, []), (.iadd, []), (.iaload, []), (.aload_n 0, []), (.iload_n 3, []), (.iconst 2, []), (.iadd, []), (.iaload, []), (.invokevirtual 120, [154, 3, 16]), (.if_icmp .eq 176, [1089]), (.iconst 0, []), (.ireturn, [1])]
def b_W_law_918 : List RI := [(.aload_n 1, []), (.aload_n 0, []), (.iload_n 3, []), (.iconst 1, []), (.iadd, []), (.iaload, []), (.invokevirtual 121, [75, 2, 15]), (.aload_n 2, []), (.aload_n 0, []), (.iload_n 3, []), (.iconst 1, []), (.iadd, []), (.iaload, []), (.invokevirtual 124, [155, 2, 16]), (.if_icmp .eq 153, [1089]), (.iconst 0, []), (.ireturn, [1])]
def b_W_law_941 : List RI := [(.aload_n 1, []), (.aload_n 0, []), (.iload_n 3, []), (.iconst 1, []), (.iadd, []), (.iaload, []), (.aload_n 0, []), (.iload_n 3, []), (.iconst 2, []), (.iadd, []), (.iaload, []), (.invokevirtual 125, [76, 3, 15]), (.aload_n 2, []), (.aload_n 0, []), (.iload_n 3, []), (.iconst 1, []), (.iadd, []), (.iaload, []), (.aload_n 0, []), (.iload_n 3, []), (.iconst 2, []), (.iadd, []), (.iaload, []), (.invokevirtual 128, [156, 3, 16]), (.if_icmp .eq 120, [1089]), (.iconst 0, []), (.ireturn, [1])]
def b_W_law_974 : List RI := [(.aload_n 1, []), (.aload_n 0, []), (.iload_n 3, []), (.iconst 1, []), (.iadd, []), (.iaload, []), (.invokevirtual 129, [77, 2, 15]), (.aload_n 2, []), (.aload_n 0, []), (.iload_n 3, []), (.iconst 1, []), (.iadd, []), (.iaload, []), (.invokevirtual 132, [157, 2, 16]), (.if_icmp .eq 97, [1089]), (.iconst 0, []), (.ireturn, [1])]
def b_W_law_997 : List RI := [(.aload_n 1, []), (.aload_n 0, []), (.iload_n 3, []), (.iconst 1, []), (.iadd, []), (.iaload, []), (.invokevirtual 133, [78, 2, 15]), (.aload_n 2, []), (.aload_n 0, []), (.iload_n 3, []), (.iconst 1, []), (.iadd, []), (.iaload, []), (.invokevirtual 136, [159, 2, 16]), (.if_icmp .eq 74, [1089]), (.iconst 0, []), (.ireturn, [1])]
def b_W_law_1020 : List RI := [(.aload_n 1, []), (.invokevirtual 137, [79, 1, 15]), (.aload_n 2, []), (.invokevirtual 140, [160, 1, 16]), (.if_icmp .eq 61, [1089]), (.iconst 0, []), (.ireturn, [1])]
def b_W_law_1033 : List RI := [(.aload_n 1, []), (.aload_n 0, []), (.iload_n 3, []), (.iconst 1, []), (.iadd, []), (.iaload, []), (.invokevirtual 141, [80, 2, 15]), (.aload_n 2, []), (.aload_n 0, []), (.iload_n 3, []), (.iconst 1, []), (.iadd, []), (.iaload, []), (.invokevirtual 144, [161, 2, 16]), (.if_icmp .eq 38, [1089]), (.iconst 0, []), (.ireturn, [1])]
def b_W_law_1056 : List RI := [(.aload_n 1, []), (.aload_n 0, []), (.iload_n 3, []), (.iconst 1, []), (.iadd, []), (.iaload, []), (.aload_n 0, []), (.iload_n 3, []), (.iconst 2, []), (.iadd, []), (.iaload, []), (.invokevirtual 145, [81, 3, 15]), (.aload_n 2, []), (.aload_n 0, []), (.iload_n 3, []), (.iconst 1, []), (.iadd, []), (.iaload, []), (.aload_n 0, []), (.iload_n 3, []), (.iconst 2, []), (.iadd, []), (.iaload, []), (.invokevirtual 148, [162, 3, 16]), (.if_icmp .eq 5, [1089]), (.iconst 0, []), (.ireturn, [1])]
def b_W_law_1089 : List RI := [(.iinc 3 4, []), (.goto (-1074), [18])]
def b_W_law_1095 : List RI := [(.iconst 1, []), (.ireturn, [1])]
def p_W_law (L : Nat) : List RI := cond (Nat.blt L 648) (cond (Nat.blt L 431) (cond (Nat.blt L 256) (cond (Nat.blt L 180) (cond (Nat.blt L 18) (cond (Nat.beq L 0) b_W_law_0 []) (cond (Nat.beq L 18) b_W_law_18 [])) (cond (Nat.blt L 213) (cond (Nat.beq L 180) b_W_law_180 []) (cond (Nat.beq L 213) b_W_law_213 []))) (cond (Nat.blt L 332) (cond (Nat.blt L 299) (cond (Nat.beq L 256) b_W_law_256 []) (cond (Nat.beq L 299) b_W_law_299 [])) (cond (Nat.blt L 375) (cond (Nat.beq L 332) b_W_law_332 []) (cond (Nat.blt L 398) (cond (Nat.beq L 375) b_W_law_375 []) (cond (Nat.beq L 398) b_W_law_398 []))))) (cond (Nat.blt L 543) (cond (Nat.blt L 497) (cond (Nat.blt L 464) (cond (Nat.beq L 431) b_W_law_431 []) (cond (Nat.beq L 464) b_W_law_464 [])) (cond (Nat.blt L 530) (cond (Nat.beq L 497) b_W_law_497 []) (cond (Nat.beq L 530) b_W_law_530 []))) (cond (Nat.blt L 589) (cond (Nat.blt L 566) (cond (Nat.beq L 543) b_W_law_543 []) (cond (Nat.beq L 566) b_W_law_566 [])) (cond (Nat.blt L 612) (cond (Nat.beq L 589) b_W_law_589 []) (cond (Nat.blt L 625) (cond (Nat.beq L 612) b_W_law_612 []) (cond (Nat.beq L 625) b_W_law_625 [])))))) (cond (Nat.blt L 885) (cond (Nat.blt L 730) (cond (Nat.blt L 674) (cond (Nat.blt L 661) (cond (Nat.beq L 648) b_W_law_648 []) (cond (Nat.beq L 661) b_W_law_661 [])) (cond (Nat.blt L 697) (cond (Nat.beq L 674) b_W_law_674 []) (cond (Nat.beq L 697) b_W_law_697 []))) (cond (Nat.blt L 796) (cond (Nat.blt L 763) (cond (Nat.beq L 730) b_W_law_730 []) (cond (Nat.beq L 763) b_W_law_763 [])) (cond (Nat.blt L 819) (cond (Nat.beq L 796) b_W_law_796 []) (cond (Nat.blt L 852) (cond (Nat.beq L 819) b_W_law_819 []) (cond (Nat.beq L 852) b_W_law_852 []))))) (cond (Nat.blt L 1020) (cond (Nat.blt L 941) (cond (Nat.blt L 918) (cond (Nat.beq L 885) b_W_law_885 []) (cond (Nat.beq L 918) b_W_law_918 [])) (cond (Nat.blt L 974) (cond (Nat.beq L 941) b_W_law_941 []) (cond (Nat.blt L 997) (cond (Nat.beq L 974) b_W_law_974 []) (cond (Nat.beq L 997) b_W_law_997 [])))) (cond (Nat.blt L 1056) (cond (Nat.blt L 1033) (cond (Nat.beq L 1020) b_W_law_1020 []) (cond (Nat.beq L 1033) b_W_law_1033 [])) (cond (Nat.blt L 1089) (cond (Nat.beq L 1056) b_W_law_1056 []) (cond (Nat.blt L 1095) (cond (Nat.beq L 1089) b_W_law_1089 []) (cond (Nat.beq L 1095) b_W_law_1095 []))))))
def P (k : Nat) : Nat → List RI := cond (Nat.blt k 82) (cond (Nat.blt k 41) (cond (Nat.blt k 20) (cond (Nat.blt k 10) (cond (Nat.blt k 5) (cond (Nat.blt k 2) (cond (Nat.blt k 1) (cond (Nat.beq k 0) p_A_init (fun _ => [])) (cond (Nat.beq k 1) p_A_follow (fun _ => []))) (cond (Nat.blt k 3) (cond (Nat.beq k 2) p_A_changeIn (fun _ => [])) (cond (Nat.blt k 4) (cond (Nat.beq k 3) p_P_init (fun _ => [])) (cond (Nat.beq k 4) p_P_prepare (fun _ => []))))) (cond (Nat.blt k 7) (cond (Nat.blt k 6) (cond (Nat.beq k 5) p_P_fillCosts (fun _ => [])) (cond (Nat.beq k 6) p_P_useSpeed (fun _ => []))) (cond (Nat.blt k 8) (cond (Nat.beq k 7) p_P_barOthers (fun _ => [])) (cond (Nat.blt k 9) (cond (Nat.beq k 8) p_P_leastFromEnd (fun _ => [])) (cond (Nat.beq k 9) p_P_fillRest (fun _ => [])))))) (cond (Nat.blt k 15) (cond (Nat.blt k 12) (cond (Nat.blt k 11) (cond (Nat.beq k 10) p_P_leastOfLeaving (fun _ => [])) (cond (Nat.beq k 11) p_P_longer (fun _ => []))) (cond (Nat.blt k 13) (cond (Nat.beq k 12) p_P_leastFromStart (fun _ => [])) (cond (Nat.blt k 14) (cond (Nat.beq k 13) p_P_fillHere (fun _ => [])) (cond (Nat.beq k 14) p_P_leastOfEntering (fun _ => []))))) (cond (Nat.blt k 17) (cond (Nat.blt k 16) (cond (Nat.beq k 15) p_P_choose (fun _ => [])) (cond (Nat.beq k 16) p_P_bestFirst (fun _ => []))) (cond (Nat.blt k 18) (cond (Nat.beq k 17) p_P_bestNext (fun _ => [])) (cond (Nat.blt k 19) (cond (Nat.beq k 18) p_R_init (fun _ => [])) (cond (Nat.beq k 19) p_R_readItems (fun _ => []))))))) (cond (Nat.blt k 30) (cond (Nat.blt k 25) (cond (Nat.blt k 22) (cond (Nat.blt k 21) (cond (Nat.beq k 20) p_R_readItem (fun _ => [])) (cond (Nat.beq k 21) p_R_readNumber (fun _ => []))) (cond (Nat.blt k 23) (cond (Nat.beq k 22) p_R_skipSpaces (fun _ => [])) (cond (Nat.blt k 24) (cond (Nat.beq k 23) p_R_isDigit (fun _ => [])) (cond (Nat.beq k 24) p_R_kindOf (fun _ => []))))) (cond (Nat.blt k 27) (cond (Nat.blt k 26) (cond (Nat.beq k 25) p_S_init (fun _ => [])) (cond (Nat.beq k 26) p_S_copyFrom (fun _ => []))) (cond (Nat.blt k 28) (cond (Nat.beq k 27) p_S_hasMouth (fun _ => [])) (cond (Nat.blt k 29) (cond (Nat.beq k 28) p_S_hasSegment (fun _ => [])) (cond (Nat.beq k 29) p_S_hasFrame (fun _ => [])))))) (cond (Nat.blt k 35) (cond (Nat.blt k 32) (cond (Nat.blt k 31) (cond (Nat.beq k 30) p_S_hasRoomFor (fun _ => [])) (cond (Nat.beq k 31) p_S_distanceOf (fun _ => []))) (cond (Nat.blt k 33) (cond (Nat.beq k 32) p_S_jumpOf (fun _ => [])) (cond (Nat.blt k 34) (cond (Nat.beq k 33) p_S_nearestOfAll (fun _ => [])) (cond (Nat.beq k 34) p_S_nearestWithin (fun _ => []))))) (cond (Nat.blt k 38) (cond (Nat.blt k 36) (cond (Nat.beq k 35) p_S_wrongOf (fun _ => [])) (cond (Nat.blt k 37) (cond (Nat.beq k 36) p_S_leastWrongFor (fun _ => [])) (cond (Nat.beq k 37) p_S_countSet (fun _ => [])))) (cond (Nat.blt k 39) (cond (Nat.beq k 38) p_S_firstFrameOf (fun _ => [])) (cond (Nat.blt k 40) (cond (Nat.beq k 39) p_S_segmentAt (fun _ => [])) (cond (Nat.beq k 40) p_S_kindAt (fun _ => [])))))))) (cond (Nat.blt k 61) (cond (Nat.blt k 51) (cond (Nat.blt k 46) (cond (Nat.blt k 43) (cond (Nat.blt k 42) (cond (Nat.beq k 41) p_S_openSegment (fun _ => [])) (cond (Nat.beq k 42) p_S_closeSegment (fun _ => []))) (cond (Nat.blt k 44) (cond (Nat.beq k 43) p_S_openFrames (fun _ => [])) (cond (Nat.blt k 45) (cond (Nat.beq k 44) p_S_closeFrames (fun _ => [])) (cond (Nat.beq k 45) p_T_init (fun _ => []))))) (cond (Nat.blt k 48) (cond (Nat.blt k 47) (cond (Nat.beq k 46) p_T_copyFrom (fun _ => [])) (cond (Nat.beq k 47) p_T_countTaken (fun _ => []))) (cond (Nat.blt k 49) (cond (Nat.beq k 48) p_L_init (fun _ => [])) (cond (Nat.blt k 50) (cond (Nat.beq k 49) p_L_addMouth (fun _ => [])) (cond (Nat.beq k 50) p_L_setMouth (fun _ => [])))))) (cond (Nat.blt k 56) (cond (Nat.blt k 53) (cond (Nat.blt k 52) (cond (Nat.beq k 51) p_L_setSound (fun _ => [])) (cond (Nat.beq k 52) p_L_setNumber (fun _ => []))) (cond (Nat.blt k 54) (cond (Nat.beq k 53) p_L_insert (fun _ => [])) (cond (Nat.blt k 55) (cond (Nat.beq k 54) p_L_remove (fun _ => [])) (cond (Nat.beq k 55) p_L_stretch (fun _ => []))))) (cond (Nat.blt k 58) (cond (Nat.blt k 57) (cond (Nat.beq k 56) p_L_pin (fun _ => [])) (cond (Nat.beq k 57) p_L_draw (fun _ => []))) (cond (Nat.blt k 59) (cond (Nat.beq k 58) p_L_between (fun _ => [])) (cond (Nat.blt k 60) (cond (Nat.beq k 59) p_L_finish (fun _ => [])) (cond (Nat.beq k 60) p_L_breathe (fun _ => []))))))) (cond (Nat.blt k 71) (cond (Nat.blt k 66) (cond (Nat.blt k 63) (cond (Nat.blt k 62) (cond (Nat.beq k 61) p_L_take (fun _ => [])) (cond (Nat.beq k 62) p_L_restore (fun _ => []))) (cond (Nat.blt k 64) (cond (Nat.beq k 63) p_L_undo (fun _ => [])) (cond (Nat.blt k 65) (cond (Nat.beq k 64) p_L_append (fun _ => [])) (cond (Nat.beq k 65) p_L_clearText (fun _ => []))))) (cond (Nat.blt k 68) (cond (Nat.blt k 67) (cond (Nat.beq k 66) p_L_load (fun _ => [])) (cond (Nat.beq k 67) p_L_count (fun _ => []))) (cond (Nat.blt k 69) (cond (Nat.beq k 68) p_L_mouth (fun _ => [])) (cond (Nat.blt k 70) (cond (Nat.beq k 69) p_L_jump (fun _ => [])) (cond (Nat.beq k 70) p_L_sound (fun _ => [])))))) (cond (Nat.blt k 76) (cond (Nat.blt k 73) (cond (Nat.blt k 72) (cond (Nat.beq k 71) p_L_number (fun _ => [])) (cond (Nat.beq k 72) p_L_segment (fun _ => []))) (cond (Nat.blt k 74) (cond (Nat.beq k 73) p_L_frame (fun _ => [])) (cond (Nat.blt k 75) (cond (Nat.beq k 74) p_L_wrongness (fun _ => [])) (cond (Nat.beq k 75) p_L_least (fun _ => []))))) (cond (Nat.blt k 79) (cond (Nat.blt k 77) (cond (Nat.beq k 76) p_L_leastWith (fun _ => [])) (cond (Nat.blt k 78) (cond (Nat.beq k 77) p_L_why (fun _ => [])) (cond (Nat.beq k 78) p_L_fault (fun _ => [])))) (cond (Nat.blt k 80) (cond (Nat.beq k 79) p_L_drawnSum (fun _ => [])) (cond (Nat.blt k 81) (cond (Nat.beq k 80) p_L_speedFor (fun _ => [])) (cond (Nat.beq k 81) p_L_nearest (fun _ => []))))))))) (cond (Nat.blt k 123) (cond (Nat.blt k 102) (cond (Nat.blt k 92) (cond (Nat.blt k 87) (cond (Nat.blt k 84) (cond (Nat.blt k 83) (cond (Nat.beq k 82) p_L_isOutside (fun _ => [])) (cond (Nat.beq k 83) p_L_recordState (fun _ => []))) (cond (Nat.blt k 85) (cond (Nat.beq k 84) p_L_partWay (fun _ => [])) (cond (Nat.blt k 86) (cond (Nat.beq k 85) p_L_faultAt (fun _ => [])) (cond (Nat.beq k 86) p_M_init (fun _ => []))))) (cond (Nat.blt k 89) (cond (Nat.blt k 88) (cond (Nat.beq k 87) p_M_in (fun _ => [])) (cond (Nat.beq k 88) p_M_apart (fun _ => []))) (cond (Nat.blt k 90) (cond (Nat.beq k 89) p_M_greater (fun _ => [])) (cond (Nat.blt k 91) (cond (Nat.beq k 90) p_M_bring (fun _ => [])) (cond (Nat.beq k 91) p_M_keep (fun _ => [])))))) (cond (Nat.blt k 97) (cond (Nat.blt k 94) (cond (Nat.blt k 93) (cond (Nat.beq k 92) p_M_isMouth (fun _ => [])) (cond (Nat.beq k 93) p_M_isSegment (fun _ => []))) (cond (Nat.blt k 95) (cond (Nat.beq k 94) p_M_opening (fun _ => [])) (cond (Nat.blt k 96) (cond (Nat.beq k 95) p_M_width (fun _ => [])) (cond (Nat.beq k 96) p_M_farBetween (fun _ => []))))) (cond (Nat.blt k 99) (cond (Nat.blt k 98) (cond (Nat.beq k 97) p_M_kindOf (fun _ => [])) (cond (Nat.beq k 98) p_M_framesOf (fun _ => []))) (cond (Nat.blt k 100) (cond (Nat.beq k 99) p_M_setting (fun _ => [])) (cond (Nat.blt k 101) (cond (Nat.beq k 100) p_M_firstOf (fun _ => [])) (cond (Nat.beq k 101) p_M_frames (fun _ => []))))))) (cond (Nat.blt k 112) (cond (Nat.blt k 107) (cond (Nat.blt k 104) (cond (Nat.blt k 103) (cond (Nat.beq k 102) p_M_isFrame (fun _ => [])) (cond (Nat.beq k 103) p_M_segmentOf (fun _ => []))) (cond (Nat.blt k 105) (cond (Nat.beq k 104) p_M_isSize (fun _ => [])) (cond (Nat.blt k 106) (cond (Nat.beq k 105) p_M_addMouth (fun _ => [])) (cond (Nat.beq k 106) p_M_setMouth (fun _ => []))))) (cond (Nat.blt k 109) (cond (Nat.blt k 108) (cond (Nat.beq k 107) p_M_setSound (fun _ => [])) (cond (Nat.beq k 108) p_M_isSetting (fun _ => []))) (cond (Nat.blt k 110) (cond (Nat.beq k 109) p_M_setNumber (fun _ => [])) (cond (Nat.blt k 111) (cond (Nat.beq k 110) p_M_opens (fun _ => [])) (cond (Nat.beq k 111) p_M_closes (fun _ => [])))))) (cond (Nat.blt k 117) (cond (Nat.blt k 114) (cond (Nat.blt k 113) (cond (Nat.beq k 112) p_M_allOf (fun _ => [])) (cond (Nat.beq k 113) p_M_inserts (fun _ => []))) (cond (Nat.blt k 115) (cond (Nat.beq k 114) p_M_hasRoom (fun _ => [])) (cond (Nat.blt k 116) (cond (Nat.beq k 115) p_M_insert (fun _ => [])) (cond (Nat.beq k 116) p_M_remove (fun _ => []))))) (cond (Nat.blt k 120) (cond (Nat.blt k 118) (cond (Nat.beq k 117) p_M_stretch (fun _ => [])) (cond (Nat.blt k 119) (cond (Nat.beq k 118) p_M_puts (fun _ => [])) (cond (Nat.beq k 119) p_M_pin (fun _ => [])))) (cond (Nat.blt k 121) (cond (Nat.beq k 120) p_M_draw (fun _ => [])) (cond (Nat.blt k 122) (cond (Nat.beq k 121) p_M_nearestTo (fun _ => [])) (cond (Nat.beq k 122) p_M_between (fun _ => [])))))))) (cond (Nat.blt k 143) (cond (Nat.blt k 133) (cond (Nat.blt k 128) (cond (Nat.blt k 125) (cond (Nat.blt k 124) (cond (Nat.beq k 123) p_M_finish (fun _ => [])) (cond (Nat.beq k 124) p_M_breathes (fun _ => []))) (cond (Nat.blt k 126) (cond (Nat.beq k 125) p_M_segmentIn (fun _ => [])) (cond (Nat.blt k 127) (cond (Nat.beq k 126) p_M_breathe (fun _ => [])) (cond (Nat.beq k 127) p_M_take (fun _ => []))))) (cond (Nat.blt k 130) (cond (Nat.blt k 129) (cond (Nat.beq k 128) p_M_restore (fun _ => [])) (cond (Nat.beq k 129) p_M_undo (fun _ => []))) (cond (Nat.blt k 131) (cond (Nat.beq k 130) p_M_append (fun _ => [])) (cond (Nat.blt k 132) (cond (Nat.beq k 131) p_M_clearText (fun _ => [])) (cond (Nat.beq k 132) p_M_here (fun _ => [])))))) (cond (Nat.blt k 138) (cond (Nat.blt k 135) (cond (Nat.blt k 134) (cond (Nat.beq k 133) p_M_overSpaces (fun _ => [])) (cond (Nat.beq k 134) p_M_readNumber (fun _ => []))) (cond (Nat.blt k 136) (cond (Nat.beq k 135) p_M_readItem (fun _ => [])) (cond (Nat.blt k 137) (cond (Nat.beq k 136) p_M_load (fun _ => [])) (cond (Nat.beq k 137) p_M_layKinds (fun _ => []))))) (cond (Nat.blt k 140) (cond (Nat.blt k 139) (cond (Nat.beq k 138) p_M_wrongBy (fun _ => [])) (cond (Nat.beq k 139) p_M_cellOf (fun _ => []))) (cond (Nat.blt k 141) (cond (Nat.beq k 140) p_M_behind (fun _ => [])) (cond (Nat.blt k 142) (cond (Nat.beq k 141) p_M_findPlan (fun _ => [])) (cond (Nat.beq k 142) p_M_lays (fun _ => []))))))) (cond (Nat.blt k 153) (cond (Nat.blt k 148) (cond (Nat.blt k 145) (cond (Nat.blt k 144) (cond (Nat.beq k 143) p_M_manyOf (fun _ => [])) (cond (Nat.beq k 144) p_M_manyGasps (fun _ => []))) (cond (Nat.blt k 146) (cond (Nat.beq k 145) p_M_count (fun _ => [])) (cond (Nat.blt k 147) (cond (Nat.beq k 146) p_M_mouth (fun _ => [])) (cond (Nat.beq k 147) p_M_jump (fun _ => []))))) (cond (Nat.blt k 150) (cond (Nat.blt k 149) (cond (Nat.beq k 148) p_M_sound (fun _ => [])) (cond (Nat.beq k 149) p_M_number (fun _ => []))) (cond (Nat.blt k 151) (cond (Nat.beq k 150) p_M_segment (fun _ => [])) (cond (Nat.blt k 152) (cond (Nat.beq k 151) p_M_orNone (fun _ => [])) (cond (Nat.beq k 152) p_M_tellAir (fun _ => [])))))) (cond (Nat.blt k 158) (cond (Nat.blt k 155) (cond (Nat.blt k 154) (cond (Nat.beq k 153) p_M_frame (fun _ => [])) (cond (Nat.beq k 154) p_M_wrongness (fun _ => []))) (cond (Nat.blt k 156) (cond (Nat.beq k 155) p_M_least (fun _ => [])) (cond (Nat.blt k 157) (cond (Nat.beq k 156) p_M_leastWith (fun _ => [])) (cond (Nat.beq k 157) p_M_why (fun _ => []))))) (cond (Nat.blt k 161) (cond (Nat.blt k 159) (cond (Nat.beq k 158) p_M_faultIn (fun _ => [])) (cond (Nat.blt k 160) (cond (Nat.beq k 159) p_M_fault (fun _ => [])) (cond (Nat.beq k 160) p_M_drawnSum (fun _ => [])))) (cond (Nat.blt k 162) (cond (Nat.beq k 161) p_M_speedFor (fun _ => [])) (cond (Nat.blt k 163) (cond (Nat.beq k 162) p_M_nearest (fun _ => [])) (cond (Nat.beq k 163) p_W_law (fun _ => [])))))))))
def lbM (k : Nat) : List Nat := cond (Nat.blt k 82) (cond (Nat.blt k 41) (cond (Nat.blt k 20) (cond (Nat.blt k 10) (cond (Nat.blt k 5) (cond (Nat.blt k 2) (cond (Nat.blt k 1) (cond (Nat.beq k 0) ([0]) []) (cond (Nat.beq k 1) ([0, 22, 49, 84, 85, 108, 112, 125, 156, 162]) [])) (cond (Nat.blt k 3) (cond (Nat.beq k 2) ([0, 15, 26]) []) (cond (Nat.blt k 4) (cond (Nat.beq k 3) ([0]) []) (cond (Nat.beq k 4) ([0, 41, 66, 90, 96]) [])))) (cond (Nat.blt k 7) (cond (Nat.blt k 6) (cond (Nat.beq k 5) ([0, 3, 37, 59]) []) (cond (Nat.beq k 6) ([0, 2, 13, 48, 49, 56, 62]) [])) (cond (Nat.blt k 8) (cond (Nat.beq k 7) ([0, 2, 28, 34]) []) (cond (Nat.blt k 9) (cond (Nat.beq k 8) ([0, 9, 16, 22, 42, 48, 53, 80, 90, 92]) []) (cond (Nat.beq k 9) ([0, 23, 24, 29, 47, 63, 96, 130]) []))))) (cond (Nat.blt k 15) (cond (Nat.blt k 12) (cond (Nat.blt k 11) (cond (Nat.beq k 10) ([0, 6, 55, 61]) []) (cond (Nat.beq k 11) ([0]) [])) (cond (Nat.blt k 13) (cond (Nat.beq k 12) ([0, 9, 11, 36, 56, 62, 67, 77, 106, 112, 122, 124]) []) (cond (Nat.blt k 14) (cond (Nat.beq k 13) ([0, 7, 33, 46, 51, 60, 64, 69, 120, 123, 173]) []) (cond (Nat.beq k 14) ([0, 5, 52, 58]) [])))) (cond (Nat.blt k 17) (cond (Nat.blt k 16) (cond (Nat.beq k 15) ([0, 11, 15, 39, 53, 83, 84, 91]) []) (cond (Nat.beq k 16) ([0, 4, 33, 39]) [])) (cond (Nat.blt k 18) (cond (Nat.beq k 17) ([0, 10, 54, 95, 110, 116]) []) (cond (Nat.blt k 19) (cond (Nat.beq k 18) ([0]) []) (cond (Nat.beq k 19) ([0, 32, 73]) [])))))) (cond (Nat.blt k 30) (cond (Nat.blt k 25) (cond (Nat.blt k 22) (cond (Nat.blt k 21) (cond (Nat.beq k 20) ([0, 27, 36, 76, 155]) []) (cond (Nat.beq k 21) ([0, 12, 77, 102, 103, 130, 135]) [])) (cond (Nat.blt k 23) (cond (Nat.beq k 22) ([0, 38]) []) (cond (Nat.blt k 24) (cond (Nat.beq k 23) ([0, 16, 17]) []) (cond (Nat.beq k 24) ([0, 9, 28, 29]) [])))) (cond (Nat.blt k 27) (cond (Nat.blt k 26) (cond (Nat.beq k 25) ([0, 81, 106, 108, 130]) []) (cond (Nat.beq k 26) ([0]) [])) (cond (Nat.blt k 28) (cond (Nat.beq k 27) ([0, 16, 17]) []) (cond (Nat.blt k 29) (cond (Nat.beq k 28) ([0, 16, 17]) []) (cond (Nat.beq k 29) ([0, 16, 17]) []))))) (cond (Nat.blt k 35) (cond (Nat.blt k 32) (cond (Nat.blt k 31) (cond (Nat.beq k 30) ([0, 24, 25]) []) (cond (Nat.beq k 31) ([0]) [])) (cond (Nat.blt k 33) (cond (Nat.beq k 32) ([0]) []) (cond (Nat.blt k 34) (cond (Nat.beq k 33) ([0, 5, 35, 41]) []) (cond (Nat.beq k 34) ([0, 6, 56, 60, 66, 76, 78]) [])))) (cond (Nat.blt k 38) (cond (Nat.blt k 36) (cond (Nat.beq k 35) ([0, 27]) []) (cond (Nat.blt k 37) (cond (Nat.beq k 36) ([0, 4, 29, 35]) []) (cond (Nat.beq k 37) ([0, 4, 23, 29]) []))) (cond (Nat.blt k 39) (cond (Nat.beq k 38) ([0, 4, 24]) []) (cond (Nat.blt k 40) (cond (Nat.beq k 39) ([0, 4, 28, 34]) []) (cond (Nat.beq k 40) ([0]) []))))))) (cond (Nat.blt k 61) (cond (Nat.blt k 51) (cond (Nat.blt k 46) (cond (Nat.blt k 43) (cond (Nat.blt k 42) (cond (Nat.beq k 41) ([0, 16, 60]) []) (cond (Nat.beq k 42) ([0, 19, 61]) [])) (cond (Nat.blt k 44) (cond (Nat.beq k 43) ([0, 7, 46, 48, 77]) []) (cond (Nat.blt k 45) (cond (Nat.beq k 44) ([0, 4, 46]) []) (cond (Nat.beq k 45) ([0, 25, 49]) [])))) (cond (Nat.blt k 48) (cond (Nat.blt k 47) (cond (Nat.beq k 46) ([0, 13, 54, 60]) []) (cond (Nat.beq k 47) ([0, 4, 21, 27]) [])) (cond (Nat.blt k 49) (cond (Nat.beq k 48) ([0, 25, 49]) []) (cond (Nat.blt k 50) (cond (Nat.beq k 49) ([0, 28, 30, 42]) []) (cond (Nat.beq k 50) ([0, 38, 40]) []))))) (cond (Nat.blt k 56) (cond (Nat.blt k 53) (cond (Nat.blt k 52) (cond (Nat.beq k 51) ([0, 32, 34]) []) (cond (Nat.beq k 52) ([0, 26, 28]) [])) (cond (Nat.blt k 54) (cond (Nat.beq k 53) ([0, 42, 44, 56]) []) (cond (Nat.blt k 55) (cond (Nat.beq k 54) ([0, 18]) []) (cond (Nat.beq k 55) ([0, 26, 28, 53, 85, 98]) [])))) (cond (Nat.blt k 58) (cond (Nat.blt k 57) (cond (Nat.beq k 56) ([0, 29, 31, 58, 59]) []) (cond (Nat.beq k 57) ([0, 29, 31, 58, 59]) [])) (cond (Nat.blt k 59) (cond (Nat.beq k 58) ([0, 29, 31, 65, 68, 81, 166]) []) (cond (Nat.blt k 60) (cond (Nat.beq k 59) ([0, 31, 45, 86]) []) (cond (Nat.beq k 60) ([0, 12, 28, 61, 81, 84, 98, 115]) [])))))) (cond (Nat.blt k 71) (cond (Nat.blt k 66) (cond (Nat.blt k 63) (cond (Nat.blt k 62) (cond (Nat.beq k 61) ([0, 11]) []) (cond (Nat.beq k 62) ([0, 11, 26]) [])) (cond (Nat.blt k 64) (cond (Nat.beq k 63) ([0, 10]) []) (cond (Nat.blt k 65) (cond (Nat.beq k 64) ([0, 13, 25]) []) (cond (Nat.beq k 65) ([0]) [])))) (cond (Nat.blt k 68) (cond (Nat.blt k 67) (cond (Nat.beq k 66) ([0, 57]) []) (cond (Nat.beq k 67) ([0, 60, 65, 70, 75, 84, 93, 109, 117, 122, 127]) [])) (cond (Nat.blt k 69) (cond (Nat.beq k 68) ([0, 23, 25, 44, 56]) []) (cond (Nat.blt k 70) (cond (Nat.beq k 69) ([0, 28, 30]) []) (cond (Nat.beq k 70) ([0, 19, 21]) []))))) (cond (Nat.blt k 76) (cond (Nat.blt k 73) (cond (Nat.blt k 72) (cond (Nat.beq k 71) ([0, 11]) []) (cond (Nat.beq k 72) ([0, 18, 44, 51, 58, 64]) [])) (cond (Nat.blt k 74) (cond (Nat.beq k 73) ([0, 18, 60, 66, 72, 79, 86, 104, 128, 129, 130, 160, 162, 163]) []) (cond (Nat.blt k 75) (cond (Nat.beq k 74) ([0, 28, 30]) []) (cond (Nat.beq k 75) ([0, 11, 39, 46]) [])))) (cond (Nat.blt k 79) (cond (Nat.blt k 77) (cond (Nat.beq k 76) ([0, 28, 30]) []) (cond (Nat.blt k 78) (cond (Nat.beq k 77) ([0, 18, 39, 86, 99, 127, 161]) []) (cond (Nat.beq k 78) ([0, 11, 24, 56, 58, 59, 89, 90, 97]) []))) (cond (Nat.blt k 80) (cond (Nat.beq k 79) ([0, 12, 36, 60]) []) (cond (Nat.blt k 81) (cond (Nat.beq k 80) ([0, 12, 32, 77, 83]) []) (cond (Nat.beq k 81) ([0, 20, 22]) [])))))))) (cond (Nat.blt k 123) (cond (Nat.blt k 102) (cond (Nat.blt k 92) (cond (Nat.blt k 87) (cond (Nat.blt k 84) (cond (Nat.blt k 83) (cond (Nat.beq k 82) ([0, 10, 14, 15]) []) (cond (Nat.beq k 83) ([0, 17, 42, 54]) [])) (cond (Nat.blt k 85) (cond (Nat.beq k 84) ([0, 16, 17]) []) (cond (Nat.blt k 86) (cond (Nat.beq k 85) ([0, 17, 40, 46, 74, 94, 95]) []) (cond (Nat.beq k 86) ([0, 96, 162]) [])))) (cond (Nat.blt k 89) (cond (Nat.blt k 88) (cond (Nat.beq k 87) ([0, 14, 15]) []) (cond (Nat.beq k 88) ([0, 11, 14]) [])) (cond (Nat.blt k 90) (cond (Nat.beq k 89) ([0, 9, 10]) []) (cond (Nat.blt k 91) (cond (Nat.beq k 90) ([0, 3, 28]) []) (cond (Nat.beq k 91) ([0, 36]) []))))) (cond (Nat.blt k 97) (cond (Nat.blt k 94) (cond (Nat.blt k 93) (cond (Nat.beq k 92) ([0]) []) (cond (Nat.beq k 93) ([0]) [])) (cond (Nat.blt k 95) (cond (Nat.beq k 94) ([0]) []) (cond (Nat.blt k 96) (cond (Nat.beq k 95) ([0]) []) (cond (Nat.beq k 96) ([0]) [])))) (cond (Nat.blt k 99) (cond (Nat.blt k 98) (cond (Nat.beq k 97) ([0]) []) (cond (Nat.beq k 98) ([0]) [])) (cond (Nat.blt k 100) (cond (Nat.beq k 99) ([0]) []) (cond (Nat.blt k 101) (cond (Nat.beq k 100) ([0, 4, 23]) []) (cond (Nat.beq k 101) ([0]) [])))))) (cond (Nat.blt k 112) (cond (Nat.blt k 107) (cond (Nat.blt k 104) (cond (Nat.blt k 103) (cond (Nat.beq k 102) ([0]) []) (cond (Nat.beq k 103) ([0, 2, 19]) [])) (cond (Nat.blt k 105) (cond (Nat.beq k 104) ([0]) []) (cond (Nat.blt k 106) (cond (Nat.beq k 105) ([0, 14, 16, 30]) []) (cond (Nat.beq k 106) ([0, 22, 24]) [])))) (cond (Nat.blt k 109) (cond (Nat.blt k 108) (cond (Nat.beq k 107) ([0, 30, 32, 38, 40]) []) (cond (Nat.beq k 108) ([0, 32, 40, 47, 55, 63, 82, 83]) [])) (cond (Nat.blt k 110) (cond (Nat.beq k 109) ([0, 10]) []) (cond (Nat.blt k 111) (cond (Nat.beq k 110) ([0, 5, 51, 54, 85]) []) (cond (Nat.beq k 111) ([0, 3, 51]) []))))) (cond (Nat.blt k 117) (cond (Nat.blt k 114) (cond (Nat.blt k 113) (cond (Nat.beq k 112) ([0, 4, 31]) []) (cond (Nat.beq k 113) ([0, 12, 40, 62, 89]) [])) (cond (Nat.blt k 115) (cond (Nat.beq k 114) ([0, 24, 25]) []) (cond (Nat.blt k 116) (cond (Nat.beq k 115) ([0, 35, 37, 51]) []) (cond (Nat.beq k 116) ([0, 10, 53, 89]) [])))) (cond (Nat.blt k 120) (cond (Nat.blt k 118) (cond (Nat.beq k 117) ([0, 18, 20, 42, 79, 97]) []) (cond (Nat.blt k 119) (cond (Nat.beq k 118) ([0, 21, 23, 56, 58]) []) (cond (Nat.beq k 119) ([0]) []))) (cond (Nat.blt k 121) (cond (Nat.beq k 120) ([0]) []) (cond (Nat.blt k 122) (cond (Nat.beq k 121) ([0, 11, 66, 77, 78, 90, 92, 104, 106, 114]) []) (cond (Nat.beq k 122) ([0, 21, 23, 55, 58, 67, 169]) []))))))) (cond (Nat.blt k 143) (cond (Nat.blt k 133) (cond (Nat.blt k 128) (cond (Nat.blt k 125) (cond (Nat.blt k 124) (cond (Nat.beq k 123) ([0, 23]) []) (cond (Nat.beq k 124) ([0, 14, 37, 64, 75, 92, 93, 114, 116, 131, 135, 151, 152, 169, 170, 187, 193]) [])) (cond (Nat.blt k 126) (cond (Nat.beq k 125) ([0, 4, 37]) []) (cond (Nat.blt k 127) (cond (Nat.beq k 126) ([0, 12, 39, 79, 82, 96, 123]) []) (cond (Nat.beq k 127) ([0, 11]) [])))) (cond (Nat.blt k 130) (cond (Nat.blt k 129) (cond (Nat.beq k 128) ([0, 11, 33]) []) (cond (Nat.beq k 129) ([0, 10]) [])) (cond (Nat.blt k 131) (cond (Nat.beq k 130) ([0, 13, 25]) []) (cond (Nat.blt k 132) (cond (Nat.beq k 131) ([0]) []) (cond (Nat.beq k 132) ([0, 23, 24]) []))))) (cond (Nat.blt k 138) (cond (Nat.blt k 135) (cond (Nat.blt k 134) (cond (Nat.beq k 133) ([0, 22]) []) (cond (Nat.beq k 134) ([0, 14, 46, 61, 77, 118, 122, 123, 138, 139]) [])) (cond (Nat.blt k 136) (cond (Nat.beq k 135) ([0, 22, 26, 27, 44, 46, 79, 81, 89, 120, 124, 146, 174]) []) (cond (Nat.blt k 137) (cond (Nat.beq k 136) ([0, 27, 54, 64]) []) (cond (Nat.beq k 137) ([0, 4, 17, 46, 52]) [])))) (cond (Nat.blt k 140) (cond (Nat.blt k 139) (cond (Nat.beq k 138) ([0, 23, 37, 38]) []) (cond (Nat.beq k 139) ([0]) [])) (cond (Nat.blt k 141) (cond (Nat.beq k 140) ([0, 10, 37, 39, 48, 100, 102, 116, 118, 126]) []) (cond (Nat.blt k 142) (cond (Nat.beq k 141) ([0, 16, 24, 63, 75, 79, 80, 100, 134, 136, 163, 165, 172, 178, 184, 193, 200]) []) (cond (Nat.beq k 142) ([0, 20, 56, 62, 75, 77, 85, 95, 101, 148, 164, 165, 190, 194, 195, 215, 224, 225, 256, 258, 266, 277, 290, 291, 308]) [])))))) (cond (Nat.blt k 153) (cond (Nat.blt k 148) (cond (Nat.blt k 145) (cond (Nat.blt k 144) (cond (Nat.beq k 143) ([0, 4, 28, 29, 37]) []) (cond (Nat.beq k 144) ([0, 13, 35, 36, 44]) [])) (cond (Nat.blt k 146) (cond (Nat.beq k 145) ([0, 52, 59, 67, 72, 79, 87, 92, 110, 115, 120]) []) (cond (Nat.blt k 147) (cond (Nat.beq k 146) ([0, 32, 33]) []) (cond (Nat.beq k 147) ([0, 25, 26]) [])))) (cond (Nat.blt k 150) (cond (Nat.blt k 149) (cond (Nat.beq k 148) ([0, 35, 36]) []) (cond (Nat.beq k 149) ([0, 17, 18]) [])) (cond (Nat.blt k 151) (cond (Nat.beq k 150) ([0, 17, 19, 31, 44, 49]) []) (cond (Nat.blt k 152) (cond (Nat.beq k 151) ([0, 9, 10]) []) (cond (Nat.beq k 152) ([0, 23, 41, 42]) []))))) (cond (Nat.blt k 158) (cond (Nat.blt k 155) (cond (Nat.blt k 154) (cond (Nat.beq k 153) ([0, 18, 20, 60, 66, 76, 89, 103, 110, 133, 139]) []) (cond (Nat.beq k 154) ([0, 33, 34]) [])) (cond (Nat.blt k 156) (cond (Nat.beq k 155) ([0, 25, 26]) []) (cond (Nat.blt k 157) (cond (Nat.beq k 156) ([0, 30, 31]) []) (cond (Nat.beq k 157) ([0, 10, 33, 38, 80, 81, 88, 120, 134, 157, 188, 189]) [])))) (cond (Nat.blt k 161) (cond (Nat.blt k 159) (cond (Nat.beq k 158) ([0, 17, 44, 50, 79, 87, 116, 135, 136]) []) (cond (Nat.blt k 160) (cond (Nat.beq k 159) ([0, 11, 13, 39, 40, 41, 47]) []) (cond (Nat.beq k 160) ([0, 8, 32, 61]) []))) (cond (Nat.blt k 162) (cond (Nat.beq k 161) ([0, 12, 14, 43, 49]) []) (cond (Nat.blt k 163) (cond (Nat.beq k 162) ([0, 25, 26]) []) (cond (Nat.beq k 163) ([0, 18, 180, 213, 256, 299, 332, 375, 398, 431, 464, 497, 530, 543, 566, 589, 612, 625, 648, 661, 674, 697, 730, 763, 796, 819, 852, 885, 918, 941, 974, 997, 1020, 1033, 1056, 1089, 1095]) []))))))))
theorem P_A_init_0 : P 0 0 = b_A_init_0 := rfl
theorem P_A_follow_0 : P 1 0 = b_A_follow_0 := rfl
theorem P_A_follow_22 : P 1 22 = b_A_follow_22 := rfl
theorem P_A_follow_49 : P 1 49 = b_A_follow_49 := rfl
theorem P_A_follow_84 : P 1 84 = b_A_follow_84 := rfl
theorem P_A_follow_85 : P 1 85 = b_A_follow_85 := rfl
theorem P_A_follow_108 : P 1 108 = b_A_follow_108 := rfl
theorem P_A_follow_112 : P 1 112 = b_A_follow_112 := rfl
theorem P_A_follow_125 : P 1 125 = b_A_follow_125 := rfl
theorem P_A_follow_156 : P 1 156 = b_A_follow_156 := rfl
theorem P_A_follow_162 : P 1 162 = b_A_follow_162 := rfl
theorem P_A_changeIn_0 : P 2 0 = b_A_changeIn_0 := rfl
theorem P_A_changeIn_15 : P 2 15 = b_A_changeIn_15 := rfl
theorem P_A_changeIn_26 : P 2 26 = b_A_changeIn_26 := rfl
theorem P_P_init_0 : P 3 0 = b_P_init_0 := rfl
theorem P_P_prepare_0 : P 4 0 = b_P_prepare_0 := rfl
theorem P_P_prepare_41 : P 4 41 = b_P_prepare_41 := rfl
theorem P_P_prepare_66 : P 4 66 = b_P_prepare_66 := rfl
theorem P_P_prepare_90 : P 4 90 = b_P_prepare_90 := rfl
theorem P_P_prepare_96 : P 4 96 = b_P_prepare_96 := rfl
theorem P_P_fillCosts_0 : P 5 0 = b_P_fillCosts_0 := rfl
theorem P_P_fillCosts_3 : P 5 3 = b_P_fillCosts_3 := rfl
theorem P_P_fillCosts_37 : P 5 37 = b_P_fillCosts_37 := rfl
theorem P_P_fillCosts_59 : P 5 59 = b_P_fillCosts_59 := rfl
theorem P_P_useSpeed_0 : P 6 0 = b_P_useSpeed_0 := rfl
theorem P_P_useSpeed_2 : P 6 2 = b_P_useSpeed_2 := rfl
theorem P_P_useSpeed_13 : P 6 13 = b_P_useSpeed_13 := rfl
theorem P_P_useSpeed_48 : P 6 48 = b_P_useSpeed_48 := rfl
theorem P_P_useSpeed_49 : P 6 49 = b_P_useSpeed_49 := rfl
theorem P_P_useSpeed_56 : P 6 56 = b_P_useSpeed_56 := rfl
theorem P_P_useSpeed_62 : P 6 62 = b_P_useSpeed_62 := rfl
theorem P_P_barOthers_0 : P 7 0 = b_P_barOthers_0 := rfl
theorem P_P_barOthers_2 : P 7 2 = b_P_barOthers_2 := rfl
theorem P_P_barOthers_28 : P 7 28 = b_P_barOthers_28 := rfl
theorem P_P_barOthers_34 : P 7 34 = b_P_barOthers_34 := rfl
theorem P_P_leastFromEnd_0 : P 8 0 = b_P_leastFromEnd_0 := rfl
theorem P_P_leastFromEnd_9 : P 8 9 = b_P_leastFromEnd_9 := rfl
theorem P_P_leastFromEnd_16 : P 8 16 = b_P_leastFromEnd_16 := rfl
theorem P_P_leastFromEnd_22 : P 8 22 = b_P_leastFromEnd_22 := rfl
theorem P_P_leastFromEnd_42 : P 8 42 = b_P_leastFromEnd_42 := rfl
theorem P_P_leastFromEnd_48 : P 8 48 = b_P_leastFromEnd_48 := rfl
theorem P_P_leastFromEnd_53 : P 8 53 = b_P_leastFromEnd_53 := rfl
theorem P_P_leastFromEnd_80 : P 8 80 = b_P_leastFromEnd_80 := rfl
theorem P_P_leastFromEnd_90 : P 8 90 = b_P_leastFromEnd_90 := rfl
theorem P_P_leastFromEnd_92 : P 8 92 = b_P_leastFromEnd_92 := rfl
theorem P_P_fillRest_0 : P 9 0 = b_P_fillRest_0 := rfl
theorem P_P_fillRest_23 : P 9 23 = b_P_fillRest_23 := rfl
theorem P_P_fillRest_24 : P 9 24 = b_P_fillRest_24 := rfl
theorem P_P_fillRest_29 : P 9 29 = b_P_fillRest_29 := rfl
theorem P_P_fillRest_47 : P 9 47 = b_P_fillRest_47 := rfl
theorem P_P_fillRest_63 : P 9 63 = b_P_fillRest_63 := rfl
theorem P_P_fillRest_96 : P 9 96 = b_P_fillRest_96 := rfl
theorem P_P_fillRest_130 : P 9 130 = b_P_fillRest_130 := rfl
theorem P_P_leastOfLeaving_0 : P 10 0 = b_P_leastOfLeaving_0 := rfl
theorem P_P_leastOfLeaving_6 : P 10 6 = b_P_leastOfLeaving_6 := rfl
theorem P_P_leastOfLeaving_55 : P 10 55 = b_P_leastOfLeaving_55 := rfl
theorem P_P_leastOfLeaving_61 : P 10 61 = b_P_leastOfLeaving_61 := rfl
theorem P_P_longer_0 : P 11 0 = b_P_longer_0 := rfl
theorem P_P_leastFromStart_0 : P 12 0 = b_P_leastFromStart_0 := rfl
theorem P_P_leastFromStart_9 : P 12 9 = b_P_leastFromStart_9 := rfl
theorem P_P_leastFromStart_11 : P 12 11 = b_P_leastFromStart_11 := rfl
theorem P_P_leastFromStart_36 : P 12 36 = b_P_leastFromStart_36 := rfl
theorem P_P_leastFromStart_56 : P 12 56 = b_P_leastFromStart_56 := rfl
theorem P_P_leastFromStart_62 : P 12 62 = b_P_leastFromStart_62 := rfl
theorem P_P_leastFromStart_67 : P 12 67 = b_P_leastFromStart_67 := rfl
theorem P_P_leastFromStart_77 : P 12 77 = b_P_leastFromStart_77 := rfl
theorem P_P_leastFromStart_106 : P 12 106 = b_P_leastFromStart_106 := rfl
theorem P_P_leastFromStart_112 : P 12 112 = b_P_leastFromStart_112 := rfl
theorem P_P_leastFromStart_122 : P 12 122 = b_P_leastFromStart_122 := rfl
theorem P_P_leastFromStart_124 : P 12 124 = b_P_leastFromStart_124 := rfl
theorem P_P_fillHere_0 : P 13 0 = b_P_fillHere_0 := rfl
theorem P_P_fillHere_7 : P 13 7 = b_P_fillHere_7 := rfl
theorem P_P_fillHere_33 : P 13 33 = b_P_fillHere_33 := rfl
theorem P_P_fillHere_46 : P 13 46 = b_P_fillHere_46 := rfl
theorem P_P_fillHere_51 : P 13 51 = b_P_fillHere_51 := rfl
theorem P_P_fillHere_60 : P 13 60 = b_P_fillHere_60 := rfl
theorem P_P_fillHere_64 : P 13 64 = b_P_fillHere_64 := rfl
theorem P_P_fillHere_69 : P 13 69 = b_P_fillHere_69 := rfl
theorem P_P_fillHere_120 : P 13 120 = b_P_fillHere_120 := rfl
theorem P_P_fillHere_123 : P 13 123 = b_P_fillHere_123 := rfl
theorem P_P_fillHere_173 : P 13 173 = b_P_fillHere_173 := rfl
theorem P_P_leastOfEntering_0 : P 14 0 = b_P_leastOfEntering_0 := rfl
theorem P_P_leastOfEntering_5 : P 14 5 = b_P_leastOfEntering_5 := rfl
theorem P_P_leastOfEntering_52 : P 14 52 = b_P_leastOfEntering_52 := rfl
theorem P_P_leastOfEntering_58 : P 14 58 = b_P_leastOfEntering_58 := rfl
theorem P_P_choose_0 : P 15 0 = b_P_choose_0 := rfl
theorem P_P_choose_11 : P 15 11 = b_P_choose_11 := rfl
theorem P_P_choose_15 : P 15 15 = b_P_choose_15 := rfl
theorem P_P_choose_39 : P 15 39 = b_P_choose_39 := rfl
theorem P_P_choose_53 : P 15 53 = b_P_choose_53 := rfl
theorem P_P_choose_83 : P 15 83 = b_P_choose_83 := rfl
theorem P_P_choose_84 : P 15 84 = b_P_choose_84 := rfl
theorem P_P_choose_91 : P 15 91 = b_P_choose_91 := rfl
theorem P_P_bestFirst_0 : P 16 0 = b_P_bestFirst_0 := rfl
theorem P_P_bestFirst_4 : P 16 4 = b_P_bestFirst_4 := rfl
theorem P_P_bestFirst_33 : P 16 33 = b_P_bestFirst_33 := rfl
theorem P_P_bestFirst_39 : P 16 39 = b_P_bestFirst_39 := rfl
theorem P_P_bestNext_0 : P 17 0 = b_P_bestNext_0 := rfl
theorem P_P_bestNext_10 : P 17 10 = b_P_bestNext_10 := rfl
theorem P_P_bestNext_54 : P 17 54 = b_P_bestNext_54 := rfl
theorem P_P_bestNext_95 : P 17 95 = b_P_bestNext_95 := rfl
theorem P_P_bestNext_110 : P 17 110 = b_P_bestNext_110 := rfl
theorem P_P_bestNext_116 : P 17 116 = b_P_bestNext_116 := rfl
theorem P_R_init_0 : P 18 0 = b_R_init_0 := rfl
theorem P_R_readItems_0 : P 19 0 = b_R_readItems_0 := rfl
theorem P_R_readItems_32 : P 19 32 = b_R_readItems_32 := rfl
theorem P_R_readItems_73 : P 19 73 = b_R_readItems_73 := rfl
theorem P_R_readItem_0 : P 20 0 = b_R_readItem_0 := rfl
theorem P_R_readItem_27 : P 20 27 = b_R_readItem_27 := rfl
theorem P_R_readItem_36 : P 20 36 = b_R_readItem_36 := rfl
theorem P_R_readItem_76 : P 20 76 = b_R_readItem_76 := rfl
theorem P_R_readItem_155 : P 20 155 = b_R_readItem_155 := rfl
theorem P_R_readNumber_0 : P 21 0 = b_R_readNumber_0 := rfl
theorem P_R_readNumber_12 : P 21 12 = b_R_readNumber_12 := rfl
theorem P_R_readNumber_77 : P 21 77 = b_R_readNumber_77 := rfl
theorem P_R_readNumber_102 : P 21 102 = b_R_readNumber_102 := rfl
theorem P_R_readNumber_103 : P 21 103 = b_R_readNumber_103 := rfl
theorem P_R_readNumber_130 : P 21 130 = b_R_readNumber_130 := rfl
theorem P_R_readNumber_135 : P 21 135 = b_R_readNumber_135 := rfl
theorem P_R_skipSpaces_0 : P 22 0 = b_R_skipSpaces_0 := rfl
theorem P_R_skipSpaces_38 : P 22 38 = b_R_skipSpaces_38 := rfl
theorem P_R_isDigit_0 : P 23 0 = b_R_isDigit_0 := rfl
theorem P_R_isDigit_16 : P 23 16 = b_R_isDigit_16 := rfl
theorem P_R_isDigit_17 : P 23 17 = b_R_isDigit_17 := rfl
theorem P_R_kindOf_0 : P 24 0 = b_R_kindOf_0 := rfl
theorem P_R_kindOf_9 : P 24 9 = b_R_kindOf_9 := rfl
theorem P_R_kindOf_28 : P 24 28 = b_R_kindOf_28 := rfl
theorem P_R_kindOf_29 : P 24 29 = b_R_kindOf_29 := rfl
theorem P_S_init_0 : P 25 0 = b_S_init_0 := rfl
theorem P_S_init_81 : P 25 81 = b_S_init_81 := rfl
theorem P_S_init_106 : P 25 106 = b_S_init_106 := rfl
theorem P_S_init_108 : P 25 108 = b_S_init_108 := rfl
theorem P_S_init_130 : P 25 130 = b_S_init_130 := rfl
theorem P_S_copyFrom_0 : P 26 0 = b_S_copyFrom_0 := rfl
theorem P_S_hasMouth_0 : P 27 0 = b_S_hasMouth_0 := rfl
theorem P_S_hasMouth_16 : P 27 16 = b_S_hasMouth_16 := rfl
theorem P_S_hasMouth_17 : P 27 17 = b_S_hasMouth_17 := rfl
theorem P_S_hasSegment_0 : P 28 0 = b_S_hasSegment_0 := rfl
theorem P_S_hasSegment_16 : P 28 16 = b_S_hasSegment_16 := rfl
theorem P_S_hasSegment_17 : P 28 17 = b_S_hasSegment_17 := rfl
theorem P_S_hasFrame_0 : P 29 0 = b_S_hasFrame_0 := rfl
theorem P_S_hasFrame_16 : P 29 16 = b_S_hasFrame_16 := rfl
theorem P_S_hasFrame_17 : P 29 17 = b_S_hasFrame_17 := rfl
theorem P_S_hasRoomFor_0 : P 30 0 = b_S_hasRoomFor_0 := rfl
theorem P_S_hasRoomFor_24 : P 30 24 = b_S_hasRoomFor_24 := rfl
theorem P_S_hasRoomFor_25 : P 30 25 = b_S_hasRoomFor_25 := rfl
theorem P_S_distanceOf_0 : P 31 0 = b_S_distanceOf_0 := rfl
theorem P_S_jumpOf_0 : P 32 0 = b_S_jumpOf_0 := rfl
theorem P_S_nearestOfAll_0 : P 33 0 = b_S_nearestOfAll_0 := rfl
theorem P_S_nearestOfAll_5 : P 33 5 = b_S_nearestOfAll_5 := rfl
theorem P_S_nearestOfAll_35 : P 33 35 = b_S_nearestOfAll_35 := rfl
theorem P_S_nearestOfAll_41 : P 33 41 = b_S_nearestOfAll_41 := rfl
theorem P_S_nearestWithin_0 : P 34 0 = b_S_nearestWithin_0 := rfl
theorem P_S_nearestWithin_6 : P 34 6 = b_S_nearestWithin_6 := rfl
theorem P_S_nearestWithin_56 : P 34 56 = b_S_nearestWithin_56 := rfl
theorem P_S_nearestWithin_60 : P 34 60 = b_S_nearestWithin_60 := rfl
theorem P_S_nearestWithin_66 : P 34 66 = b_S_nearestWithin_66 := rfl
theorem P_S_nearestWithin_76 : P 34 76 = b_S_nearestWithin_76 := rfl
theorem P_S_nearestWithin_78 : P 34 78 = b_S_nearestWithin_78 := rfl
theorem P_S_wrongOf_0 : P 35 0 = b_S_wrongOf_0 := rfl
theorem P_S_wrongOf_27 : P 35 27 = b_S_wrongOf_27 := rfl
theorem P_S_leastWrongFor_0 : P 36 0 = b_S_leastWrongFor_0 := rfl
theorem P_S_leastWrongFor_4 : P 36 4 = b_S_leastWrongFor_4 := rfl
theorem P_S_leastWrongFor_29 : P 36 29 = b_S_leastWrongFor_29 := rfl
theorem P_S_leastWrongFor_35 : P 36 35 = b_S_leastWrongFor_35 := rfl
theorem P_S_countSet_0 : P 37 0 = b_S_countSet_0 := rfl
theorem P_S_countSet_4 : P 37 4 = b_S_countSet_4 := rfl
theorem P_S_countSet_23 : P 37 23 = b_S_countSet_23 := rfl
theorem P_S_countSet_29 : P 37 29 = b_S_countSet_29 := rfl
theorem P_S_firstFrameOf_0 : P 38 0 = b_S_firstFrameOf_0 := rfl
theorem P_S_firstFrameOf_4 : P 38 4 = b_S_firstFrameOf_4 := rfl
theorem P_S_firstFrameOf_24 : P 38 24 = b_S_firstFrameOf_24 := rfl
theorem P_S_segmentAt_0 : P 39 0 = b_S_segmentAt_0 := rfl
theorem P_S_segmentAt_4 : P 39 4 = b_S_segmentAt_4 := rfl
theorem P_S_segmentAt_28 : P 39 28 = b_S_segmentAt_28 := rfl
theorem P_S_segmentAt_34 : P 39 34 = b_S_segmentAt_34 := rfl
theorem P_S_kindAt_0 : P 40 0 = b_S_kindAt_0 := rfl
theorem P_S_openSegment_0 : P 41 0 = b_S_openSegment_0 := rfl
theorem P_S_openSegment_16 : P 41 16 = b_S_openSegment_16 := rfl
theorem P_S_openSegment_60 : P 41 60 = b_S_openSegment_60 := rfl
theorem P_S_closeSegment_0 : P 42 0 = b_S_closeSegment_0 := rfl
theorem P_S_closeSegment_19 : P 42 19 = b_S_closeSegment_19 := rfl
theorem P_S_closeSegment_61 : P 42 61 = b_S_closeSegment_61 := rfl
theorem P_S_openFrames_0 : P 43 0 = b_S_openFrames_0 := rfl
theorem P_S_openFrames_7 : P 43 7 = b_S_openFrames_7 := rfl
theorem P_S_openFrames_46 : P 43 46 = b_S_openFrames_46 := rfl
theorem P_S_openFrames_48 : P 43 48 = b_S_openFrames_48 := rfl
theorem P_S_openFrames_77 : P 43 77 = b_S_openFrames_77 := rfl
theorem P_S_closeFrames_0 : P 44 0 = b_S_closeFrames_0 := rfl
theorem P_S_closeFrames_4 : P 44 4 = b_S_closeFrames_4 := rfl
theorem P_S_closeFrames_46 : P 44 46 = b_S_closeFrames_46 := rfl
theorem P_T_init_0 : P 45 0 = b_T_init_0 := rfl
theorem P_T_init_25 : P 45 25 = b_T_init_25 := rfl
theorem P_T_init_49 : P 45 49 = b_T_init_49 := rfl
theorem P_T_copyFrom_0 : P 46 0 = b_T_copyFrom_0 := rfl
theorem P_T_copyFrom_13 : P 46 13 = b_T_copyFrom_13 := rfl
theorem P_T_copyFrom_54 : P 46 54 = b_T_copyFrom_54 := rfl
theorem P_T_copyFrom_60 : P 46 60 = b_T_copyFrom_60 := rfl
theorem P_T_countTaken_0 : P 47 0 = b_T_countTaken_0 := rfl
theorem P_T_countTaken_4 : P 47 4 = b_T_countTaken_4 := rfl
theorem P_T_countTaken_21 : P 47 21 = b_T_countTaken_21 := rfl
theorem P_T_countTaken_27 : P 47 27 = b_T_countTaken_27 := rfl
theorem P_L_init_0 : P 48 0 = b_L_init_0 := rfl
theorem P_L_init_25 : P 48 25 = b_L_init_25 := rfl
theorem P_L_init_49 : P 48 49 = b_L_init_49 := rfl
theorem P_L_addMouth_0 : P 49 0 = b_L_addMouth_0 := rfl
theorem P_L_addMouth_28 : P 49 28 = b_L_addMouth_28 := rfl
theorem P_L_addMouth_30 : P 49 30 = b_L_addMouth_30 := rfl
theorem P_L_addMouth_42 : P 49 42 = b_L_addMouth_42 := rfl
theorem P_L_setMouth_0 : P 50 0 = b_L_setMouth_0 := rfl
theorem P_L_setMouth_38 : P 50 38 = b_L_setMouth_38 := rfl
theorem P_L_setMouth_40 : P 50 40 = b_L_setMouth_40 := rfl
theorem P_L_setSound_0 : P 51 0 = b_L_setSound_0 := rfl
theorem P_L_setSound_32 : P 51 32 = b_L_setSound_32 := rfl
theorem P_L_setSound_34 : P 51 34 = b_L_setSound_34 := rfl
theorem P_L_setNumber_0 : P 52 0 = b_L_setNumber_0 := rfl
theorem P_L_setNumber_26 : P 52 26 = b_L_setNumber_26 := rfl
theorem P_L_setNumber_28 : P 52 28 = b_L_setNumber_28 := rfl
theorem P_L_insert_0 : P 53 0 = b_L_insert_0 := rfl
theorem P_L_insert_42 : P 53 42 = b_L_insert_42 := rfl
theorem P_L_insert_44 : P 53 44 = b_L_insert_44 := rfl
theorem P_L_insert_56 : P 53 56 = b_L_insert_56 := rfl
theorem P_L_remove_0 : P 54 0 = b_L_remove_0 := rfl
theorem P_L_remove_18 : P 54 18 = b_L_remove_18 := rfl
theorem P_L_stretch_0 : P 55 0 = b_L_stretch_0 := rfl
theorem P_L_stretch_26 : P 55 26 = b_L_stretch_26 := rfl
theorem P_L_stretch_28 : P 55 28 = b_L_stretch_28 := rfl
theorem P_L_stretch_53 : P 55 53 = b_L_stretch_53 := rfl
theorem P_L_stretch_85 : P 55 85 = b_L_stretch_85 := rfl
theorem P_L_stretch_98 : P 55 98 = b_L_stretch_98 := rfl
theorem P_L_pin_0 : P 56 0 = b_L_pin_0 := rfl
theorem P_L_pin_29 : P 56 29 = b_L_pin_29 := rfl
theorem P_L_pin_31 : P 56 31 = b_L_pin_31 := rfl
theorem P_L_pin_58 : P 56 58 = b_L_pin_58 := rfl
theorem P_L_pin_59 : P 56 59 = b_L_pin_59 := rfl
theorem P_L_draw_0 : P 57 0 = b_L_draw_0 := rfl
theorem P_L_draw_29 : P 57 29 = b_L_draw_29 := rfl
theorem P_L_draw_31 : P 57 31 = b_L_draw_31 := rfl
theorem P_L_draw_58 : P 57 58 = b_L_draw_58 := rfl
theorem P_L_draw_59 : P 57 59 = b_L_draw_59 := rfl
theorem P_L_between_0 : P 58 0 = b_L_between_0 := rfl
theorem P_L_between_29 : P 58 29 = b_L_between_29 := rfl
theorem P_L_between_31 : P 58 31 = b_L_between_31 := rfl
theorem P_L_between_65 : P 58 65 = b_L_between_65 := rfl
theorem P_L_between_68 : P 58 68 = b_L_between_68 := rfl
theorem P_L_between_81 : P 58 81 = b_L_between_81 := rfl
theorem P_L_between_166 : P 58 166 = b_L_between_166 := rfl
theorem P_L_finish_0 : P 59 0 = b_L_finish_0 := rfl
theorem P_L_finish_31 : P 59 31 = b_L_finish_31 := rfl
theorem P_L_finish_45 : P 59 45 = b_L_finish_45 := rfl
theorem P_L_finish_86 : P 59 86 = b_L_finish_86 := rfl
theorem P_L_breathe_0 : P 60 0 = b_L_breathe_0 := rfl
theorem P_L_breathe_12 : P 60 12 = b_L_breathe_12 := rfl
theorem P_L_breathe_28 : P 60 28 = b_L_breathe_28 := rfl
theorem P_L_breathe_61 : P 60 61 = b_L_breathe_61 := rfl
theorem P_L_breathe_81 : P 60 81 = b_L_breathe_81 := rfl
theorem P_L_breathe_84 : P 60 84 = b_L_breathe_84 := rfl
theorem P_L_breathe_98 : P 60 98 = b_L_breathe_98 := rfl
theorem P_L_breathe_115 : P 60 115 = b_L_breathe_115 := rfl
theorem P_L_take_0 : P 61 0 = b_L_take_0 := rfl
theorem P_L_take_11 : P 61 11 = b_L_take_11 := rfl
theorem P_L_restore_0 : P 62 0 = b_L_restore_0 := rfl
theorem P_L_restore_11 : P 62 11 = b_L_restore_11 := rfl
theorem P_L_restore_26 : P 62 26 = b_L_restore_26 := rfl
theorem P_L_undo_0 : P 63 0 = b_L_undo_0 := rfl
theorem P_L_undo_10 : P 63 10 = b_L_undo_10 := rfl
theorem P_L_append_0 : P 64 0 = b_L_append_0 := rfl
theorem P_L_append_13 : P 64 13 = b_L_append_13 := rfl
theorem P_L_append_25 : P 64 25 = b_L_append_25 := rfl
theorem P_L_clearText_0 : P 65 0 = b_L_clearText_0 := rfl
theorem P_L_load_0 : P 66 0 = b_L_load_0 := rfl
theorem P_L_load_57 : P 66 57 = b_L_load_57 := rfl
theorem P_L_count_0 : P 67 0 = b_L_count_0 := rfl
theorem P_L_count_60 : P 67 60 = b_L_count_60 := rfl
theorem P_L_count_65 : P 67 65 = b_L_count_65 := rfl
theorem P_L_count_70 : P 67 70 = b_L_count_70 := rfl
theorem P_L_count_75 : P 67 75 = b_L_count_75 := rfl
theorem P_L_count_84 : P 67 84 = b_L_count_84 := rfl
theorem P_L_count_93 : P 67 93 = b_L_count_93 := rfl
theorem P_L_count_109 : P 67 109 = b_L_count_109 := rfl
theorem P_L_count_117 : P 67 117 = b_L_count_117 := rfl
theorem P_L_count_122 : P 67 122 = b_L_count_122 := rfl
theorem P_L_count_127 : P 67 127 = b_L_count_127 := rfl
theorem P_L_mouth_0 : P 68 0 = b_L_mouth_0 := rfl
theorem P_L_mouth_23 : P 68 23 = b_L_mouth_23 := rfl
theorem P_L_mouth_25 : P 68 25 = b_L_mouth_25 := rfl
theorem P_L_mouth_44 : P 68 44 = b_L_mouth_44 := rfl
theorem P_L_mouth_56 : P 68 56 = b_L_mouth_56 := rfl
theorem P_L_jump_0 : P 69 0 = b_L_jump_0 := rfl
theorem P_L_jump_28 : P 69 28 = b_L_jump_28 := rfl
theorem P_L_jump_30 : P 69 30 = b_L_jump_30 := rfl
theorem P_L_sound_0 : P 70 0 = b_L_sound_0 := rfl
theorem P_L_sound_19 : P 70 19 = b_L_sound_19 := rfl
theorem P_L_sound_21 : P 70 21 = b_L_sound_21 := rfl
theorem P_L_number_0 : P 71 0 = b_L_number_0 := rfl
theorem P_L_number_11 : P 71 11 = b_L_number_11 := rfl
theorem P_L_segment_0 : P 72 0 = b_L_segment_0 := rfl
theorem P_L_segment_18 : P 72 18 = b_L_segment_18 := rfl
theorem P_L_segment_44 : P 72 44 = b_L_segment_44 := rfl
theorem P_L_segment_51 : P 72 51 = b_L_segment_51 := rfl
theorem P_L_segment_58 : P 72 58 = b_L_segment_58 := rfl
theorem P_L_segment_64 : P 72 64 = b_L_segment_64 := rfl
theorem P_L_frame_0 : P 73 0 = b_L_frame_0 := rfl
theorem P_L_frame_18 : P 73 18 = b_L_frame_18 := rfl
theorem P_L_frame_60 : P 73 60 = b_L_frame_60 := rfl
theorem P_L_frame_66 : P 73 66 = b_L_frame_66 := rfl
theorem P_L_frame_72 : P 73 72 = b_L_frame_72 := rfl
theorem P_L_frame_79 : P 73 79 = b_L_frame_79 := rfl
theorem P_L_frame_86 : P 73 86 = b_L_frame_86 := rfl
theorem P_L_frame_104 : P 73 104 = b_L_frame_104 := rfl
theorem P_L_frame_128 : P 73 128 = b_L_frame_128 := rfl
theorem P_L_frame_129 : P 73 129 = b_L_frame_129 := rfl
theorem P_L_frame_130 : P 73 130 = b_L_frame_130 := rfl
theorem P_L_frame_160 : P 73 160 = b_L_frame_160 := rfl
theorem P_L_frame_162 : P 73 162 = b_L_frame_162 := rfl
theorem P_L_frame_163 : P 73 163 = b_L_frame_163 := rfl
theorem P_L_wrongness_0 : P 74 0 = b_L_wrongness_0 := rfl
theorem P_L_wrongness_28 : P 74 28 = b_L_wrongness_28 := rfl
theorem P_L_wrongness_30 : P 74 30 = b_L_wrongness_30 := rfl
theorem P_L_least_0 : P 75 0 = b_L_least_0 := rfl
theorem P_L_least_11 : P 75 11 = b_L_least_11 := rfl
theorem P_L_least_39 : P 75 39 = b_L_least_39 := rfl
theorem P_L_least_46 : P 75 46 = b_L_least_46 := rfl
theorem P_L_leastWith_0 : P 76 0 = b_L_leastWith_0 := rfl
theorem P_L_leastWith_28 : P 76 28 = b_L_leastWith_28 := rfl
theorem P_L_leastWith_30 : P 76 30 = b_L_leastWith_30 := rfl
theorem P_L_why_0 : P 77 0 = b_L_why_0 := rfl
theorem P_L_why_18 : P 77 18 = b_L_why_18 := rfl
theorem P_L_why_39 : P 77 39 = b_L_why_39 := rfl
theorem P_L_why_86 : P 77 86 = b_L_why_86 := rfl
theorem P_L_why_99 : P 77 99 = b_L_why_99 := rfl
theorem P_L_why_127 : P 77 127 = b_L_why_127 := rfl
theorem P_L_why_161 : P 77 161 = b_L_why_161 := rfl
theorem P_L_fault_0 : P 78 0 = b_L_fault_0 := rfl
theorem P_L_fault_11 : P 78 11 = b_L_fault_11 := rfl
theorem P_L_fault_24 : P 78 24 = b_L_fault_24 := rfl
theorem P_L_fault_56 : P 78 56 = b_L_fault_56 := rfl
theorem P_L_fault_58 : P 78 58 = b_L_fault_58 := rfl
theorem P_L_fault_59 : P 78 59 = b_L_fault_59 := rfl
theorem P_L_fault_89 : P 78 89 = b_L_fault_89 := rfl
theorem P_L_fault_90 : P 78 90 = b_L_fault_90 := rfl
theorem P_L_fault_97 : P 78 97 = b_L_fault_97 := rfl
theorem P_L_drawnSum_0 : P 79 0 = b_L_drawnSum_0 := rfl
theorem P_L_drawnSum_12 : P 79 12 = b_L_drawnSum_12 := rfl
theorem P_L_drawnSum_36 : P 79 36 = b_L_drawnSum_36 := rfl
theorem P_L_drawnSum_60 : P 79 60 = b_L_drawnSum_60 := rfl
theorem P_L_speedFor_0 : P 80 0 = b_L_speedFor_0 := rfl
theorem P_L_speedFor_12 : P 80 12 = b_L_speedFor_12 := rfl
theorem P_L_speedFor_32 : P 80 32 = b_L_speedFor_32 := rfl
theorem P_L_speedFor_77 : P 80 77 = b_L_speedFor_77 := rfl
theorem P_L_speedFor_83 : P 80 83 = b_L_speedFor_83 := rfl
theorem P_L_nearest_0 : P 81 0 = b_L_nearest_0 := rfl
theorem P_L_nearest_20 : P 81 20 = b_L_nearest_20 := rfl
theorem P_L_nearest_22 : P 81 22 = b_L_nearest_22 := rfl
theorem P_L_isOutside_0 : P 82 0 = b_L_isOutside_0 := rfl
theorem P_L_isOutside_10 : P 82 10 = b_L_isOutside_10 := rfl
theorem P_L_isOutside_14 : P 82 14 = b_L_isOutside_14 := rfl
theorem P_L_isOutside_15 : P 82 15 = b_L_isOutside_15 := rfl
theorem P_L_recordState_0 : P 83 0 = b_L_recordState_0 := rfl
theorem P_L_recordState_17 : P 83 17 = b_L_recordState_17 := rfl
theorem P_L_recordState_42 : P 83 42 = b_L_recordState_42 := rfl
theorem P_L_recordState_54 : P 83 54 = b_L_recordState_54 := rfl
theorem P_L_partWay_0 : P 84 0 = b_L_partWay_0 := rfl
theorem P_L_partWay_16 : P 84 16 = b_L_partWay_16 := rfl
theorem P_L_partWay_17 : P 84 17 = b_L_partWay_17 := rfl
theorem P_L_faultAt_0 : P 85 0 = b_L_faultAt_0 := rfl
theorem P_L_faultAt_17 : P 85 17 = b_L_faultAt_17 := rfl
theorem P_L_faultAt_40 : P 85 40 = b_L_faultAt_40 := rfl
theorem P_L_faultAt_46 : P 85 46 = b_L_faultAt_46 := rfl
theorem P_L_faultAt_74 : P 85 74 = b_L_faultAt_74 := rfl
theorem P_L_faultAt_94 : P 85 94 = b_L_faultAt_94 := rfl
theorem P_L_faultAt_95 : P 85 95 = b_L_faultAt_95 := rfl
theorem P_M_init_0 : P 86 0 = b_M_init_0 := rfl
theorem P_M_init_96 : P 86 96 = b_M_init_96 := rfl
theorem P_M_init_162 : P 86 162 = b_M_init_162 := rfl
theorem P_M_in_0 : P 87 0 = b_M_in_0 := rfl
theorem P_M_in_14 : P 87 14 = b_M_in_14 := rfl
theorem P_M_in_15 : P 87 15 = b_M_in_15 := rfl
theorem P_M_apart_0 : P 88 0 = b_M_apart_0 := rfl
theorem P_M_apart_11 : P 88 11 = b_M_apart_11 := rfl
theorem P_M_apart_14 : P 88 14 = b_M_apart_14 := rfl
theorem P_M_greater_0 : P 89 0 = b_M_greater_0 := rfl
theorem P_M_greater_9 : P 89 9 = b_M_greater_9 := rfl
theorem P_M_greater_10 : P 89 10 = b_M_greater_10 := rfl
theorem P_M_bring_0 : P 90 0 = b_M_bring_0 := rfl
theorem P_M_bring_3 : P 90 3 = b_M_bring_3 := rfl
theorem P_M_bring_28 : P 90 28 = b_M_bring_28 := rfl
theorem P_M_keep_0 : P 91 0 = b_M_keep_0 := rfl
theorem P_M_keep_36 : P 91 36 = b_M_keep_36 := rfl
theorem P_M_isMouth_0 : P 92 0 = b_M_isMouth_0 := rfl
theorem P_M_isSegment_0 : P 93 0 = b_M_isSegment_0 := rfl
theorem P_M_opening_0 : P 94 0 = b_M_opening_0 := rfl
theorem P_M_width_0 : P 95 0 = b_M_width_0 := rfl
theorem P_M_farBetween_0 : P 96 0 = b_M_farBetween_0 := rfl
theorem P_M_kindOf_0 : P 97 0 = b_M_kindOf_0 := rfl
theorem P_M_framesOf_0 : P 98 0 = b_M_framesOf_0 := rfl
theorem P_M_setting_0 : P 99 0 = b_M_setting_0 := rfl
theorem P_M_firstOf_0 : P 100 0 = b_M_firstOf_0 := rfl
theorem P_M_firstOf_4 : P 100 4 = b_M_firstOf_4 := rfl
theorem P_M_firstOf_23 : P 100 23 = b_M_firstOf_23 := rfl
theorem P_M_frames_0 : P 101 0 = b_M_frames_0 := rfl
theorem P_M_isFrame_0 : P 102 0 = b_M_isFrame_0 := rfl
theorem P_M_segmentOf_0 : P 103 0 = b_M_segmentOf_0 := rfl
theorem P_M_segmentOf_2 : P 103 2 = b_M_segmentOf_2 := rfl
theorem P_M_segmentOf_19 : P 103 19 = b_M_segmentOf_19 := rfl
theorem P_M_isSize_0 : P 104 0 = b_M_isSize_0 := rfl
theorem P_M_addMouth_0 : P 105 0 = b_M_addMouth_0 := rfl
theorem P_M_addMouth_14 : P 105 14 = b_M_addMouth_14 := rfl
theorem P_M_addMouth_16 : P 105 16 = b_M_addMouth_16 := rfl
theorem P_M_addMouth_30 : P 105 30 = b_M_addMouth_30 := rfl
theorem P_M_setMouth_0 : P 106 0 = b_M_setMouth_0 := rfl
theorem P_M_setMouth_22 : P 106 22 = b_M_setMouth_22 := rfl
theorem P_M_setMouth_24 : P 106 24 = b_M_setMouth_24 := rfl
theorem P_M_setSound_0 : P 107 0 = b_M_setSound_0 := rfl
theorem P_M_setSound_30 : P 107 30 = b_M_setSound_30 := rfl
theorem P_M_setSound_32 : P 107 32 = b_M_setSound_32 := rfl
theorem P_M_setSound_38 : P 107 38 = b_M_setSound_38 := rfl
theorem P_M_setSound_40 : P 107 40 = b_M_setSound_40 := rfl
theorem P_M_isSetting_0 : P 108 0 = b_M_isSetting_0 := rfl
theorem P_M_isSetting_32 : P 108 32 = b_M_isSetting_32 := rfl
theorem P_M_isSetting_40 : P 108 40 = b_M_isSetting_40 := rfl
theorem P_M_isSetting_47 : P 108 47 = b_M_isSetting_47 := rfl
theorem P_M_isSetting_55 : P 108 55 = b_M_isSetting_55 := rfl
theorem P_M_isSetting_63 : P 108 63 = b_M_isSetting_63 := rfl
theorem P_M_isSetting_82 : P 108 82 = b_M_isSetting_82 := rfl
theorem P_M_isSetting_83 : P 108 83 = b_M_isSetting_83 := rfl
theorem P_M_setNumber_0 : P 109 0 = b_M_setNumber_0 := rfl
theorem P_M_setNumber_10 : P 109 10 = b_M_setNumber_10 := rfl
theorem P_M_opens_0 : P 110 0 = b_M_opens_0 := rfl
theorem P_M_opens_5 : P 110 5 = b_M_opens_5 := rfl
theorem P_M_opens_51 : P 110 51 = b_M_opens_51 := rfl
theorem P_M_opens_54 : P 110 54 = b_M_opens_54 := rfl
theorem P_M_opens_85 : P 110 85 = b_M_opens_85 := rfl
theorem P_M_closes_0 : P 111 0 = b_M_closes_0 := rfl
theorem P_M_closes_3 : P 111 3 = b_M_closes_3 := rfl
theorem P_M_closes_51 : P 111 51 = b_M_closes_51 := rfl
theorem P_M_allOf_0 : P 112 0 = b_M_allOf_0 := rfl
theorem P_M_allOf_4 : P 112 4 = b_M_allOf_4 := rfl
theorem P_M_allOf_31 : P 112 31 = b_M_allOf_31 := rfl
theorem P_M_inserts_0 : P 113 0 = b_M_inserts_0 := rfl
theorem P_M_inserts_12 : P 113 12 = b_M_inserts_12 := rfl
theorem P_M_inserts_40 : P 113 40 = b_M_inserts_40 := rfl
theorem P_M_inserts_62 : P 113 62 = b_M_inserts_62 := rfl
theorem P_M_inserts_89 : P 113 89 = b_M_inserts_89 := rfl
theorem P_M_hasRoom_0 : P 114 0 = b_M_hasRoom_0 := rfl
theorem P_M_hasRoom_24 : P 114 24 = b_M_hasRoom_24 := rfl
theorem P_M_hasRoom_25 : P 114 25 = b_M_hasRoom_25 := rfl
theorem P_M_insert_0 : P 115 0 = b_M_insert_0 := rfl
theorem P_M_insert_35 : P 115 35 = b_M_insert_35 := rfl
theorem P_M_insert_37 : P 115 37 = b_M_insert_37 := rfl
theorem P_M_insert_51 : P 115 51 = b_M_insert_51 := rfl
theorem P_M_remove_0 : P 116 0 = b_M_remove_0 := rfl
theorem P_M_remove_10 : P 116 10 = b_M_remove_10 := rfl
theorem P_M_remove_53 : P 116 53 = b_M_remove_53 := rfl
theorem P_M_remove_89 : P 116 89 = b_M_remove_89 := rfl
theorem P_M_stretch_0 : P 117 0 = b_M_stretch_0 := rfl
theorem P_M_stretch_18 : P 117 18 = b_M_stretch_18 := rfl
theorem P_M_stretch_20 : P 117 20 = b_M_stretch_20 := rfl
theorem P_M_stretch_42 : P 117 42 = b_M_stretch_42 := rfl
theorem P_M_stretch_79 : P 117 79 = b_M_stretch_79 := rfl
theorem P_M_stretch_97 : P 117 97 = b_M_stretch_97 := rfl
theorem P_M_puts_0 : P 118 0 = b_M_puts_0 := rfl
theorem P_M_puts_21 : P 118 21 = b_M_puts_21 := rfl
theorem P_M_puts_23 : P 118 23 = b_M_puts_23 := rfl
theorem P_M_puts_56 : P 118 56 = b_M_puts_56 := rfl
theorem P_M_puts_58 : P 118 58 = b_M_puts_58 := rfl
theorem P_M_pin_0 : P 119 0 = b_M_pin_0 := rfl
theorem P_M_draw_0 : P 120 0 = b_M_draw_0 := rfl
theorem P_M_nearestTo_0 : P 121 0 = b_M_nearestTo_0 := rfl
theorem P_M_nearestTo_11 : P 121 11 = b_M_nearestTo_11 := rfl
theorem P_M_nearestTo_66 : P 121 66 = b_M_nearestTo_66 := rfl
theorem P_M_nearestTo_77 : P 121 77 = b_M_nearestTo_77 := rfl
theorem P_M_nearestTo_78 : P 121 78 = b_M_nearestTo_78 := rfl
theorem P_M_nearestTo_90 : P 121 90 = b_M_nearestTo_90 := rfl
theorem P_M_nearestTo_92 : P 121 92 = b_M_nearestTo_92 := rfl
theorem P_M_nearestTo_104 : P 121 104 = b_M_nearestTo_104 := rfl
theorem P_M_nearestTo_106 : P 121 106 = b_M_nearestTo_106 := rfl
theorem P_M_nearestTo_114 : P 121 114 = b_M_nearestTo_114 := rfl
theorem P_M_between_0 : P 122 0 = b_M_between_0 := rfl
theorem P_M_between_21 : P 122 21 = b_M_between_21 := rfl
theorem P_M_between_23 : P 122 23 = b_M_between_23 := rfl
theorem P_M_between_55 : P 122 55 = b_M_between_55 := rfl
theorem P_M_between_58 : P 122 58 = b_M_between_58 := rfl
theorem P_M_between_67 : P 122 67 = b_M_between_67 := rfl
theorem P_M_between_169 : P 122 169 = b_M_between_169 := rfl
theorem P_M_finish_0 : P 123 0 = b_M_finish_0 := rfl
theorem P_M_finish_23 : P 123 23 = b_M_finish_23 := rfl
theorem P_M_breathes_0 : P 124 0 = b_M_breathes_0 := rfl
theorem P_M_breathes_14 : P 124 14 = b_M_breathes_14 := rfl
theorem P_M_breathes_37 : P 124 37 = b_M_breathes_37 := rfl
theorem P_M_breathes_64 : P 124 64 = b_M_breathes_64 := rfl
theorem P_M_breathes_75 : P 124 75 = b_M_breathes_75 := rfl
theorem P_M_breathes_92 : P 124 92 = b_M_breathes_92 := rfl
theorem P_M_breathes_93 : P 124 93 = b_M_breathes_93 := rfl
theorem P_M_breathes_114 : P 124 114 = b_M_breathes_114 := rfl
theorem P_M_breathes_116 : P 124 116 = b_M_breathes_116 := rfl
theorem P_M_breathes_131 : P 124 131 = b_M_breathes_131 := rfl
theorem P_M_breathes_135 : P 124 135 = b_M_breathes_135 := rfl
theorem P_M_breathes_151 : P 124 151 = b_M_breathes_151 := rfl
theorem P_M_breathes_152 : P 124 152 = b_M_breathes_152 := rfl
theorem P_M_breathes_169 : P 124 169 = b_M_breathes_169 := rfl
theorem P_M_breathes_170 : P 124 170 = b_M_breathes_170 := rfl
theorem P_M_breathes_187 : P 124 187 = b_M_breathes_187 := rfl
theorem P_M_breathes_193 : P 124 193 = b_M_breathes_193 := rfl
theorem P_M_segmentIn_0 : P 125 0 = b_M_segmentIn_0 := rfl
theorem P_M_segmentIn_4 : P 125 4 = b_M_segmentIn_4 := rfl
theorem P_M_segmentIn_37 : P 125 37 = b_M_segmentIn_37 := rfl
theorem P_M_breathe_0 : P 126 0 = b_M_breathe_0 := rfl
theorem P_M_breathe_12 : P 126 12 = b_M_breathe_12 := rfl
theorem P_M_breathe_39 : P 126 39 = b_M_breathe_39 := rfl
theorem P_M_breathe_79 : P 126 79 = b_M_breathe_79 := rfl
theorem P_M_breathe_82 : P 126 82 = b_M_breathe_82 := rfl
theorem P_M_breathe_96 : P 126 96 = b_M_breathe_96 := rfl
theorem P_M_breathe_123 : P 126 123 = b_M_breathe_123 := rfl
theorem P_M_take_0 : P 127 0 = b_M_take_0 := rfl
theorem P_M_take_11 : P 127 11 = b_M_take_11 := rfl
theorem P_M_restore_0 : P 128 0 = b_M_restore_0 := rfl
theorem P_M_restore_11 : P 128 11 = b_M_restore_11 := rfl
theorem P_M_restore_33 : P 128 33 = b_M_restore_33 := rfl
theorem P_M_undo_0 : P 129 0 = b_M_undo_0 := rfl
theorem P_M_undo_10 : P 129 10 = b_M_undo_10 := rfl
theorem P_M_append_0 : P 130 0 = b_M_append_0 := rfl
theorem P_M_append_13 : P 130 13 = b_M_append_13 := rfl
theorem P_M_append_25 : P 130 25 = b_M_append_25 := rfl
theorem P_M_clearText_0 : P 131 0 = b_M_clearText_0 := rfl
theorem P_M_here_0 : P 132 0 = b_M_here_0 := rfl
theorem P_M_here_23 : P 132 23 = b_M_here_23 := rfl
theorem P_M_here_24 : P 132 24 = b_M_here_24 := rfl
theorem P_M_overSpaces_0 : P 133 0 = b_M_overSpaces_0 := rfl
theorem P_M_overSpaces_22 : P 133 22 = b_M_overSpaces_22 := rfl
theorem P_M_readNumber_0 : P 134 0 = b_M_readNumber_0 := rfl
theorem P_M_readNumber_14 : P 134 14 = b_M_readNumber_14 := rfl
theorem P_M_readNumber_46 : P 134 46 = b_M_readNumber_46 := rfl
theorem P_M_readNumber_61 : P 134 61 = b_M_readNumber_61 := rfl
theorem P_M_readNumber_77 : P 134 77 = b_M_readNumber_77 := rfl
theorem P_M_readNumber_118 : P 134 118 = b_M_readNumber_118 := rfl
theorem P_M_readNumber_122 : P 134 122 = b_M_readNumber_122 := rfl
theorem P_M_readNumber_123 : P 134 123 = b_M_readNumber_123 := rfl
theorem P_M_readNumber_138 : P 134 138 = b_M_readNumber_138 := rfl
theorem P_M_readNumber_139 : P 134 139 = b_M_readNumber_139 := rfl
theorem P_M_readItem_0 : P 135 0 = b_M_readItem_0 := rfl
theorem P_M_readItem_22 : P 135 22 = b_M_readItem_22 := rfl
theorem P_M_readItem_26 : P 135 26 = b_M_readItem_26 := rfl
theorem P_M_readItem_27 : P 135 27 = b_M_readItem_27 := rfl
theorem P_M_readItem_44 : P 135 44 = b_M_readItem_44 := rfl
theorem P_M_readItem_46 : P 135 46 = b_M_readItem_46 := rfl
theorem P_M_readItem_79 : P 135 79 = b_M_readItem_79 := rfl
theorem P_M_readItem_81 : P 135 81 = b_M_readItem_81 := rfl
theorem P_M_readItem_89 : P 135 89 = b_M_readItem_89 := rfl
theorem P_M_readItem_120 : P 135 120 = b_M_readItem_120 := rfl
theorem P_M_readItem_124 : P 135 124 = b_M_readItem_124 := rfl
theorem P_M_readItem_146 : P 135 146 = b_M_readItem_146 := rfl
theorem P_M_readItem_174 : P 135 174 = b_M_readItem_174 := rfl
theorem P_M_load_0 : P 136 0 = b_M_load_0 := rfl
theorem P_M_load_27 : P 136 27 = b_M_load_27 := rfl
theorem P_M_load_54 : P 136 54 = b_M_load_54 := rfl
theorem P_M_load_64 : P 136 64 = b_M_load_64 := rfl
theorem P_M_layKinds_0 : P 137 0 = b_M_layKinds_0 := rfl
theorem P_M_layKinds_4 : P 137 4 = b_M_layKinds_4 := rfl
theorem P_M_layKinds_17 : P 137 17 = b_M_layKinds_17 := rfl
theorem P_M_layKinds_46 : P 137 46 = b_M_layKinds_46 := rfl
theorem P_M_layKinds_52 : P 137 52 = b_M_layKinds_52 := rfl
theorem P_M_wrongBy_0 : P 138 0 = b_M_wrongBy_0 := rfl
theorem P_M_wrongBy_23 : P 138 23 = b_M_wrongBy_23 := rfl
theorem P_M_wrongBy_37 : P 138 37 = b_M_wrongBy_37 := rfl
theorem P_M_wrongBy_38 : P 138 38 = b_M_wrongBy_38 := rfl
theorem P_M_cellOf_0 : P 139 0 = b_M_cellOf_0 := rfl
theorem P_M_behind_0 : P 140 0 = b_M_behind_0 := rfl
theorem P_M_behind_10 : P 140 10 = b_M_behind_10 := rfl
theorem P_M_behind_37 : P 140 37 = b_M_behind_37 := rfl
theorem P_M_behind_39 : P 140 39 = b_M_behind_39 := rfl
theorem P_M_behind_48 : P 140 48 = b_M_behind_48 := rfl
theorem P_M_behind_100 : P 140 100 = b_M_behind_100 := rfl
theorem P_M_behind_102 : P 140 102 = b_M_behind_102 := rfl
theorem P_M_behind_116 : P 140 116 = b_M_behind_116 := rfl
theorem P_M_behind_118 : P 140 118 = b_M_behind_118 := rfl
theorem P_M_behind_126 : P 140 126 = b_M_behind_126 := rfl
theorem P_M_findPlan_0 : P 141 0 = b_M_findPlan_0 := rfl
theorem P_M_findPlan_16 : P 141 16 = b_M_findPlan_16 := rfl
theorem P_M_findPlan_24 : P 141 24 = b_M_findPlan_24 := rfl
theorem P_M_findPlan_63 : P 141 63 = b_M_findPlan_63 := rfl
theorem P_M_findPlan_75 : P 141 75 = b_M_findPlan_75 := rfl
theorem P_M_findPlan_79 : P 141 79 = b_M_findPlan_79 := rfl
theorem P_M_findPlan_80 : P 141 80 = b_M_findPlan_80 := rfl
theorem P_M_findPlan_100 : P 141 100 = b_M_findPlan_100 := rfl
theorem P_M_findPlan_134 : P 141 134 = b_M_findPlan_134 := rfl
theorem P_M_findPlan_136 : P 141 136 = b_M_findPlan_136 := rfl
theorem P_M_findPlan_163 : P 141 163 = b_M_findPlan_163 := rfl
theorem P_M_findPlan_165 : P 141 165 = b_M_findPlan_165 := rfl
theorem P_M_findPlan_172 : P 141 172 = b_M_findPlan_172 := rfl
theorem P_M_findPlan_178 : P 141 178 = b_M_findPlan_178 := rfl
theorem P_M_findPlan_184 : P 141 184 = b_M_findPlan_184 := rfl
theorem P_M_findPlan_193 : P 141 193 = b_M_findPlan_193 := rfl
theorem P_M_findPlan_200 : P 141 200 = b_M_findPlan_200 := rfl
theorem P_M_lays_0 : P 142 0 = b_M_lays_0 := rfl
theorem P_M_lays_20 : P 142 20 = b_M_lays_20 := rfl
theorem P_M_lays_56 : P 142 56 = b_M_lays_56 := rfl
theorem P_M_lays_62 : P 142 62 = b_M_lays_62 := rfl
theorem P_M_lays_75 : P 142 75 = b_M_lays_75 := rfl
theorem P_M_lays_77 : P 142 77 = b_M_lays_77 := rfl
theorem P_M_lays_85 : P 142 85 = b_M_lays_85 := rfl
theorem P_M_lays_95 : P 142 95 = b_M_lays_95 := rfl
theorem P_M_lays_101 : P 142 101 = b_M_lays_101 := rfl
theorem P_M_lays_148 : P 142 148 = b_M_lays_148 := rfl
theorem P_M_lays_164 : P 142 164 = b_M_lays_164 := rfl
theorem P_M_lays_165 : P 142 165 = b_M_lays_165 := rfl
theorem P_M_lays_190 : P 142 190 = b_M_lays_190 := rfl
theorem P_M_lays_194 : P 142 194 = b_M_lays_194 := rfl
theorem P_M_lays_195 : P 142 195 = b_M_lays_195 := rfl
theorem P_M_lays_215 : P 142 215 = b_M_lays_215 := rfl
theorem P_M_lays_224 : P 142 224 = b_M_lays_224 := rfl
theorem P_M_lays_225 : P 142 225 = b_M_lays_225 := rfl
theorem P_M_lays_256 : P 142 256 = b_M_lays_256 := rfl
theorem P_M_lays_258 : P 142 258 = b_M_lays_258 := rfl
theorem P_M_lays_266 : P 142 266 = b_M_lays_266 := rfl
theorem P_M_lays_277 : P 142 277 = b_M_lays_277 := rfl
theorem P_M_lays_290 : P 142 290 = b_M_lays_290 := rfl
theorem P_M_lays_291 : P 142 291 = b_M_lays_291 := rfl
theorem P_M_lays_308 : P 142 308 = b_M_lays_308 := rfl
theorem P_M_manyOf_0 : P 143 0 = b_M_manyOf_0 := rfl
theorem P_M_manyOf_4 : P 143 4 = b_M_manyOf_4 := rfl
theorem P_M_manyOf_28 : P 143 28 = b_M_manyOf_28 := rfl
theorem P_M_manyOf_29 : P 143 29 = b_M_manyOf_29 := rfl
theorem P_M_manyOf_37 : P 143 37 = b_M_manyOf_37 := rfl
theorem P_M_manyGasps_0 : P 144 0 = b_M_manyGasps_0 := rfl
theorem P_M_manyGasps_13 : P 144 13 = b_M_manyGasps_13 := rfl
theorem P_M_manyGasps_35 : P 144 35 = b_M_manyGasps_35 := rfl
theorem P_M_manyGasps_36 : P 144 36 = b_M_manyGasps_36 := rfl
theorem P_M_manyGasps_44 : P 144 44 = b_M_manyGasps_44 := rfl
theorem P_M_count_0 : P 145 0 = b_M_count_0 := rfl
theorem P_M_count_52 : P 145 52 = b_M_count_52 := rfl
theorem P_M_count_59 : P 145 59 = b_M_count_59 := rfl
theorem P_M_count_67 : P 145 67 = b_M_count_67 := rfl
theorem P_M_count_72 : P 145 72 = b_M_count_72 := rfl
theorem P_M_count_79 : P 145 79 = b_M_count_79 := rfl
theorem P_M_count_87 : P 145 87 = b_M_count_87 := rfl
theorem P_M_count_92 : P 145 92 = b_M_count_92 := rfl
theorem P_M_count_110 : P 145 110 = b_M_count_110 := rfl
theorem P_M_count_115 : P 145 115 = b_M_count_115 := rfl
theorem P_M_count_120 : P 145 120 = b_M_count_120 := rfl
theorem P_M_mouth_0 : P 146 0 = b_M_mouth_0 := rfl
theorem P_M_mouth_32 : P 146 32 = b_M_mouth_32 := rfl
theorem P_M_mouth_33 : P 146 33 = b_M_mouth_33 := rfl
theorem P_M_jump_0 : P 147 0 = b_M_jump_0 := rfl
theorem P_M_jump_25 : P 147 25 = b_M_jump_25 := rfl
theorem P_M_jump_26 : P 147 26 = b_M_jump_26 := rfl
theorem P_M_sound_0 : P 148 0 = b_M_sound_0 := rfl
theorem P_M_sound_35 : P 148 35 = b_M_sound_35 := rfl
theorem P_M_sound_36 : P 148 36 = b_M_sound_36 := rfl
theorem P_M_number_0 : P 149 0 = b_M_number_0 := rfl
theorem P_M_number_17 : P 149 17 = b_M_number_17 := rfl
theorem P_M_number_18 : P 149 18 = b_M_number_18 := rfl
theorem P_M_segment_0 : P 150 0 = b_M_segment_0 := rfl
theorem P_M_segment_17 : P 150 17 = b_M_segment_17 := rfl
theorem P_M_segment_19 : P 150 19 = b_M_segment_19 := rfl
theorem P_M_segment_31 : P 150 31 = b_M_segment_31 := rfl
theorem P_M_segment_44 : P 150 44 = b_M_segment_44 := rfl
theorem P_M_segment_49 : P 150 49 = b_M_segment_49 := rfl
theorem P_M_orNone_0 : P 151 0 = b_M_orNone_0 := rfl
theorem P_M_orNone_9 : P 151 9 = b_M_orNone_9 := rfl
theorem P_M_orNone_10 : P 151 10 = b_M_orNone_10 := rfl
theorem P_M_tellAir_0 : P 152 0 = b_M_tellAir_0 := rfl
theorem P_M_tellAir_23 : P 152 23 = b_M_tellAir_23 := rfl
theorem P_M_tellAir_41 : P 152 41 = b_M_tellAir_41 := rfl
theorem P_M_tellAir_42 : P 152 42 = b_M_tellAir_42 := rfl
theorem P_M_frame_0 : P 153 0 = b_M_frame_0 := rfl
theorem P_M_frame_18 : P 153 18 = b_M_frame_18 := rfl
theorem P_M_frame_20 : P 153 20 = b_M_frame_20 := rfl
theorem P_M_frame_60 : P 153 60 = b_M_frame_60 := rfl
theorem P_M_frame_66 : P 153 66 = b_M_frame_66 := rfl
theorem P_M_frame_76 : P 153 76 = b_M_frame_76 := rfl
theorem P_M_frame_89 : P 153 89 = b_M_frame_89 := rfl
theorem P_M_frame_103 : P 153 103 = b_M_frame_103 := rfl
theorem P_M_frame_110 : P 153 110 = b_M_frame_110 := rfl
theorem P_M_frame_133 : P 153 133 = b_M_frame_133 := rfl
theorem P_M_frame_139 : P 153 139 = b_M_frame_139 := rfl
theorem P_M_wrongness_0 : P 154 0 = b_M_wrongness_0 := rfl
theorem P_M_wrongness_33 : P 154 33 = b_M_wrongness_33 := rfl
theorem P_M_wrongness_34 : P 154 34 = b_M_wrongness_34 := rfl
theorem P_M_least_0 : P 155 0 = b_M_least_0 := rfl
theorem P_M_least_25 : P 155 25 = b_M_least_25 := rfl
theorem P_M_least_26 : P 155 26 = b_M_least_26 := rfl
theorem P_M_leastWith_0 : P 156 0 = b_M_leastWith_0 := rfl
theorem P_M_leastWith_30 : P 156 30 = b_M_leastWith_30 := rfl
theorem P_M_leastWith_31 : P 156 31 = b_M_leastWith_31 := rfl
theorem P_M_why_0 : P 157 0 = b_M_why_0 := rfl
theorem P_M_why_10 : P 157 10 = b_M_why_10 := rfl
theorem P_M_why_33 : P 157 33 = b_M_why_33 := rfl
theorem P_M_why_38 : P 157 38 = b_M_why_38 := rfl
theorem P_M_why_80 : P 157 80 = b_M_why_80 := rfl
theorem P_M_why_81 : P 157 81 = b_M_why_81 := rfl
theorem P_M_why_88 : P 157 88 = b_M_why_88 := rfl
theorem P_M_why_120 : P 157 120 = b_M_why_120 := rfl
theorem P_M_why_134 : P 157 134 = b_M_why_134 := rfl
theorem P_M_why_157 : P 157 157 = b_M_why_157 := rfl
theorem P_M_why_188 : P 157 188 = b_M_why_188 := rfl
theorem P_M_why_189 : P 157 189 = b_M_why_189 := rfl
theorem P_M_faultIn_0 : P 158 0 = b_M_faultIn_0 := rfl
theorem P_M_faultIn_17 : P 158 17 = b_M_faultIn_17 := rfl
theorem P_M_faultIn_44 : P 158 44 = b_M_faultIn_44 := rfl
theorem P_M_faultIn_50 : P 158 50 = b_M_faultIn_50 := rfl
theorem P_M_faultIn_79 : P 158 79 = b_M_faultIn_79 := rfl
theorem P_M_faultIn_87 : P 158 87 = b_M_faultIn_87 := rfl
theorem P_M_faultIn_116 : P 158 116 = b_M_faultIn_116 := rfl
theorem P_M_faultIn_135 : P 158 135 = b_M_faultIn_135 := rfl
theorem P_M_faultIn_136 : P 158 136 = b_M_faultIn_136 := rfl
theorem P_M_fault_0 : P 159 0 = b_M_fault_0 := rfl
theorem P_M_fault_11 : P 159 11 = b_M_fault_11 := rfl
theorem P_M_fault_13 : P 159 13 = b_M_fault_13 := rfl
theorem P_M_fault_39 : P 159 39 = b_M_fault_39 := rfl
theorem P_M_fault_40 : P 159 40 = b_M_fault_40 := rfl
theorem P_M_fault_41 : P 159 41 = b_M_fault_41 := rfl
theorem P_M_fault_47 : P 159 47 = b_M_fault_47 := rfl
theorem P_M_drawnSum_0 : P 160 0 = b_M_drawnSum_0 := rfl
theorem P_M_drawnSum_8 : P 160 8 = b_M_drawnSum_8 := rfl
theorem P_M_drawnSum_32 : P 160 32 = b_M_drawnSum_32 := rfl
theorem P_M_drawnSum_61 : P 160 61 = b_M_drawnSum_61 := rfl
theorem P_M_speedFor_0 : P 161 0 = b_M_speedFor_0 := rfl
theorem P_M_speedFor_12 : P 161 12 = b_M_speedFor_12 := rfl
theorem P_M_speedFor_14 : P 161 14 = b_M_speedFor_14 := rfl
theorem P_M_speedFor_43 : P 161 43 = b_M_speedFor_43 := rfl
theorem P_M_speedFor_49 : P 161 49 = b_M_speedFor_49 := rfl
theorem P_M_nearest_0 : P 162 0 = b_M_nearest_0 := rfl
theorem P_M_nearest_25 : P 162 25 = b_M_nearest_25 := rfl
theorem P_M_nearest_26 : P 162 26 = b_M_nearest_26 := rfl
theorem P_W_law_0 : P 163 0 = b_W_law_0 := rfl
theorem P_W_law_18 : P 163 18 = b_W_law_18 := rfl
theorem P_W_law_180 : P 163 180 = b_W_law_180 := rfl
theorem P_W_law_213 : P 163 213 = b_W_law_213 := rfl
theorem P_W_law_256 : P 163 256 = b_W_law_256 := rfl
theorem P_W_law_299 : P 163 299 = b_W_law_299 := rfl
theorem P_W_law_332 : P 163 332 = b_W_law_332 := rfl
theorem P_W_law_375 : P 163 375 = b_W_law_375 := rfl
theorem P_W_law_398 : P 163 398 = b_W_law_398 := rfl
theorem P_W_law_431 : P 163 431 = b_W_law_431 := rfl
theorem P_W_law_464 : P 163 464 = b_W_law_464 := rfl
theorem P_W_law_497 : P 163 497 = b_W_law_497 := rfl
theorem P_W_law_530 : P 163 530 = b_W_law_530 := rfl
theorem P_W_law_543 : P 163 543 = b_W_law_543 := rfl
theorem P_W_law_566 : P 163 566 = b_W_law_566 := rfl
theorem P_W_law_589 : P 163 589 = b_W_law_589 := rfl
theorem P_W_law_612 : P 163 612 = b_W_law_612 := rfl
theorem P_W_law_625 : P 163 625 = b_W_law_625 := rfl
theorem P_W_law_648 : P 163 648 = b_W_law_648 := rfl
theorem P_W_law_661 : P 163 661 = b_W_law_661 := rfl
theorem P_W_law_674 : P 163 674 = b_W_law_674 := rfl
theorem P_W_law_697 : P 163 697 = b_W_law_697 := rfl
theorem P_W_law_730 : P 163 730 = b_W_law_730 := rfl
theorem P_W_law_763 : P 163 763 = b_W_law_763 := rfl
theorem P_W_law_796 : P 163 796 = b_W_law_796 := rfl
theorem P_W_law_819 : P 163 819 = b_W_law_819 := rfl
theorem P_W_law_852 : P 163 852 = b_W_law_852 := rfl
theorem P_W_law_885 : P 163 885 = b_W_law_885 := rfl
theorem P_W_law_918 : P 163 918 = b_W_law_918 := rfl
theorem P_W_law_941 : P 163 941 = b_W_law_941 := rfl
theorem P_W_law_974 : P 163 974 = b_W_law_974 := rfl
theorem P_W_law_997 : P 163 997 = b_W_law_997 := rfl
theorem P_W_law_1020 : P 163 1020 = b_W_law_1020 := rfl
theorem P_W_law_1033 : P 163 1033 = b_W_law_1033 := rfl
theorem P_W_law_1056 : P 163 1056 = b_W_law_1056 := rfl
theorem P_W_law_1089 : P 163 1089 = b_W_law_1089 := rfl
theorem P_W_law_1095 : P 163 1095 = b_W_law_1095 := rfl
end
section
/-! THE ABSTRACT MACHINE: ints are Int (their Int32 by Int32.ofInt), references are addresses; a store is (ints, (references, shapes, top, slots)) by address and slot.
Shapes: 0 int[], 1 boolean[], 2 State[], 3 Scene[], 4 an int[] that nobody writes, 10 + c an object of class c. -/
abbrev AV : Type := Int ⊕ Option Nat
abbrev Ri : Type := (Nat → Nat → Option Nat) × (Nat → Option (Nat × Nat)) × Nat × Nat
abbrev Sto : Type := (Nat → Nat → Int) × Ri
abbrev LsT : Type := List (Option AV)
abbrev AI (z : Int) : AV := .inl z
abbrev AR (a : Nat) : AV := .inr (some a)
abbrev Out : Type := (LsT × List AV × Sto) ⊕ (Nat × List AV) ⊕ (Nat × List AV × List AV) ⊕ Option AV
abbrev rng (z : Int) : Prop := -2147483648 ≤ z ∧ z < 2147483648
abbrev shp (σ : Sto) (a : Nat) : Option (Nat × Nat) := σ.2.2.1 a
abbrev topS (σ : Sto) : Nat := σ.2.2.2.1
abbrev usdS (σ : Sto) : Nat := σ.2.2.2.2
def lget : LsT → Nat → Option AV
  | [], _ => none
  | x :: _, 0 => x
  | _ :: t, i + 1 => lget t i
def lset : LsT → Nat → AV → LsT
  | [], _, _ => []
  | _ :: t, 0, v => some v :: t
  | x :: t, i + 1, v => x :: lset t i v
def wrI (f : Nat → Nat → Int) (a k : Nat) (v : Int) : Nat → Nat → Int := fun x y => if x = a ∧ y = k then v else f x y
def wrR (f : Nat → Nat → Option Nat) (a k : Nat) (v : Option Nat) : Nat → Nat → Option Nat := fun x y => if x = a ∧ y = k then v else f x y
def cpI (f : Nat → Nat → Int) (src sp dst dp n : Nat) : Nat → Nat → Int := fun x y => if x = dst ∧ dp ≤ y ∧ y < dp + n then f src (sp + (y - dp)) else f x y
def mkS (σ : Sto) (kd N : Nat) : Sto := (fun x y => if x = topS σ then 0 else σ.1 x y, fun x y => if x = topS σ then none else σ.2.1 x y, fun x => if x = topS σ then some (kd, N) else σ.2.2.1 x, topS σ + 1, usdS σ + N)
def nx (ls : LsT) (st : List AV) (σ : Sto) : Option Out := some (.inl (ls, st, σ))
def jp (L : Nat) (st : List AV) : Option Out := some (.inr (.inl (L, st)))
def ldI (ls : LsT) (i : Nat) (st : List AV) (σ : Sto) : Option Out := match lget ls i with
  | some (.inl z) => nx ls (.inl z :: st) σ
  | _ => none
def ldR (ls : LsT) (i : Nat) (st : List AV) (σ : Sto) : Option Out := match lget ls i with
  | some (.inr (some a)) => nx ls (.inr (some a) :: st) σ
  | _ => none
def stI (ls : LsT) (i : Nat) (st : List AV) (σ : Sto) : Option Out := match st with
  | .inl z :: st => nx (lset ls i (.inl z)) st σ
  | _ => none
def stR (ls : LsT) (i : Nat) (st : List AV) (σ : Sto) : Option Out := match st with
  | .inr (some a) :: st => nx (lset ls i (.inr (some a))) st σ
  | _ => none
def bin (f : Int → Int → Option Int) (ls : LsT) (st : List AV) (σ : Sto) : Option Out := match st with
  | .inl b :: .inl a :: st => match f a b with
    | some z => nx ls (.inl z :: st) σ
    | none => none
  | _ => none
def cj (c : Jvm.ClassFile.Cond) (a b : Int) (t f : Option Out) : Option Out := match c with
  | .eq => if a = b then t else if rng a ∧ rng b then f else none
  | .ne => if a = b then f else if rng a ∧ rng b then t else none
  | .lt => if rng a ∧ rng b then (if a < b then t else f) else none
  | .ge => if rng a ∧ rng b then (if b ≤ a then t else f) else none
  | .gt => if rng a ∧ rng b then (if b < a then t else f) else none
  | .le => if rng a ∧ rng b then (if a ≤ b then t else f) else none
def natC (k : Nat) (ls : LsT) (st : List AV) (σ : Sto) : Option Out :=
  if k = 1000 then (match st with
    | .inr (some _) :: st => nx ls st σ
    | _ => none)
  else if k = 1001 then (match st with
    | .inl n :: .inl dp :: .inr (some d) :: .inl sp :: .inr (some s) :: st => match shp σ s, shp σ d with
      | some (ks, n0), some (kd, n1) => if ks = 0 ∧ kd = 0 ∧ 0 ≤ n ∧ 0 ≤ dp ∧ 0 ≤ sp ∧ sp + n ≤ n0 ∧ dp + n ≤ n1 ∧ n0 < 65536 ∧ n1 < 65536 then nx ls st (cpI σ.1 s sp.toNat d dp.toNat n.toNat, σ.2) else none
      | _, _ => none
    | _ => none)
  else if k = 1002 then (match st with
    | .inl a :: st => if rng a ∧ a ≠ -2147483648 then nx ls (.inl (a.natAbs : Int) :: st) σ else none
    | _ => none)
  else if k = 1003 then bin (fun a b => if rng a ∧ rng b then some (min a b) else none) ls st σ
  else if k = 1004 then bin (fun a b => if rng a ∧ rng b then some (max a b) else none) ls st σ
  else none
def rcv (σ : Sto) (rk : Nat) (a : AV) : Prop := match a with
  | .inr (some b) => ∃ N, shp σ b = some (rk, N)
  | _ => False
def rcB (σ : Sto) (rk : Nat) (as : List AV) : Bool := rk == 0 || match as with
  | .inr (some b) :: _ => (match shp σ b with
    | some (kd, _) => kd == rk
    | none => false)
  | _ => false
def cal (x : List Nat) (st : List AV) (σ : Sto) : Option Out := match x with
  | [k, na, rk] => if na ≤ st.length ∧ st.length ≤ na + 7 ∧ rcB σ rk (st.take na).reverse = true then some (.inr (.inr (.inl (k, (st.take na).reverse, st.drop na)))) else none
  | _ => none
def x0 (x : List Nat) : Nat := match x with
  | a :: _ => a
  | [] => 0
def x1 (x : List Nat) : Nat := match x with
  | _ :: b :: _ => b
  | _ => 0
def aldI (ok : Nat → Bool) (ls : LsT) (st : List AV) (σ : Sto) : Option Out := match st with
  | .inl i :: .inr (some a) :: st => match shp σ a with
    | some (kd, N) => if ok kd = true ∧ 0 ≤ i ∧ i < N ∧ i < 65536 then nx ls (.inl (σ.1 a i.toNat) :: st) σ else none
    | none => none
  | _ => none
def eff (zt : Nat → Nat) (q : RI) (ls : LsT) (st : List AV) (σ : Sto) : Option Out := match q.1 with
  | .aload i => ldR ls i st σ
  | .aload_n i => ldR ls i.val st σ
  | .iload i => ldI ls i st σ
  | .iload_n i => ldI ls i.val st σ
  | .istore i => stI ls i st σ
  | .istore_n i => stI ls i.val st σ
  | .astore i => stR ls i st σ
  | .astore_n i => stR ls i.val st σ
  | .iconst v => nx ls (.inl v :: st) σ
  | .bipush v => nx ls (.inl v :: st) σ
  | .sipush v => nx ls (.inl v :: st) σ
  | .ldc _ => nx ls (.inl (x0 q.2 : Int) :: st) σ
  | .iadd => bin (fun a b => some (a + b)) ls st σ
  | .isub => bin (fun a b => some (a - b)) ls st σ
  | .imul => bin (fun a b => some (a * b)) ls st σ
  | .iand => bin (fun a b => if b = 63 then some (a % 64) else none) ls st σ
  | .idiv => bin (fun a b => if rng a ∧ 0 < b ∧ rng b then some (a.tdiv b) else none) ls st σ
  | .irem => bin (fun a b => if 0 ≤ a ∧ rng a ∧ 0 < b ∧ rng b then some (a % b) else none) ls st σ
  | .ineg => (match st with
    | .inl a :: st => nx ls (.inl (-a) :: st) σ
    | _ => none)
  | .iinc i d => (match lget ls i with
    | some (.inl z) => nx (lset ls i (.inl (z + d))) st σ
    | _ => none)
  | .dup => (match st with
    | a :: st => nx ls (a :: a :: st) σ
    | _ => none)
  | .dup2 => (match st with
    | b :: a :: st => nx ls (b :: a :: b :: a :: st) σ
    | _ => none)
  | .pop => (match st with
    | _ :: st => nx ls st σ
    | _ => none)
  | .nop => jp (x0 q.2) st
  | .goto _ => jp (x0 q.2) st
  | .if_icmp c _ => (match st with
    | .inl b :: .inl a :: st => cj c a b (jp (x0 q.2) st) (nx ls st σ)
    | _ => none)
  | .ifCond c _ => (match st with
    | .inl a :: st => cj c a 0 (jp (x0 q.2) st) (nx ls st σ)
    | _ => none)
  | .tableswitch _ lo hi _ => (match st, q.2 with
    | .inl a :: st, d :: ts => if rng a then (if a < lo ∨ hi < a then jp d st else match ts[(a - lo).toNat]? with
      | some L => jp L st
      | none => none) else none
    | _, _ => none)
  | .getfield _ => (match st with
    | .inr (some a) :: st => match shp σ a with
      | some (kd, _) => if kd = 10 + x0 q.2 then nx ls ((if fI (x0 q.2) (x1 q.2) = true then .inl (σ.1 a (x1 q.2)) else .inr (σ.2.1 a (x1 q.2))) :: st) σ else none
      | none => none
    | _ => none)
  | .putfield _ => (match st with
    | .inl v :: .inr (some a) :: st => (match shp σ a with
      | some (kd, _) => if kd = 10 + x0 q.2 ∧ fI (x0 q.2) (x1 q.2) = true then nx ls st (wrI σ.1 a (x1 q.2) v, σ.2) else none
      | none => none)
    | .inr (some b) :: .inr (some a) :: st => (match shp σ a with
      | some (kd, _) => if kd = 10 + x0 q.2 ∧ fI (x0 q.2) (x1 q.2) = false then nx ls st (σ.1, wrR σ.2.1 a (x1 q.2) (some b), σ.2.2) else none
      | none => none)
    | _ => none)
  | .getstatic _ => nx ls (.inr (some (zt (x0 q.2))) :: st) σ
  | .iaload => aldI (fun kd => kd == 0 || kd == 4) ls st σ
  | .baload => aldI (fun kd => kd == 1) ls st σ
  | .iastore => (match st with
    | .inl v :: .inl i :: .inr (some a) :: st => match shp σ a with
      | some (kd, N) => if kd = 0 ∧ 0 ≤ i ∧ i < N ∧ i < 65536 then nx ls st (wrI σ.1 a i.toNat v, σ.2) else none
      | none => none
    | _ => none)
  | .bastore => (match st with
    | .inl v :: .inl i :: .inr (some a) :: st => match shp σ a with
      | some (kd, N) => if kd = 1 ∧ 0 ≤ i ∧ i < N ∧ i < 65536 ∧ (v = 0 ∨ v = 1) then nx ls st (wrI σ.1 a i.toNat v, σ.2) else none
      | none => none
    | _ => none)
  | .aaload => (match st with
    | .inl i :: .inr (some a) :: st => match shp σ a with
      | some (kd, N) => if (kd = 2 ∨ kd = 3) ∧ 0 ≤ i ∧ i < N ∧ i < 65536 then nx ls (.inr (σ.2.1 a i.toNat) :: st) σ else none
      | none => none
    | _ => none)
  | .aastore => (match st with
    | .inr (some b) :: .inl i :: .inr (some a) :: st => match shp σ a, shp σ b with
      | some (kd, N), some (kb, _) => if (kd = 2 ∧ kb = 14 ∨ kd = 3 ∧ kb = 13) ∧ 0 ≤ i ∧ i < N ∧ i < 65536 then nx ls st (σ.1, wrR σ.2.1 a i.toNat (some b), σ.2.2) else none
      | _, _ => none
    | _ => none)
  | .arraylength => (match st with
    | .inr (some a) :: st => match shp σ a with
      | some (kd, N) => if kd ≤ 4 then nx ls (.inl (N : Int) :: st) σ else none
      | none => none
    | _ => none)
  | .newarray _ => (match st with
    | .inl n :: st => if 0 ≤ n ∧ n < 65536 then nx ls (.inr (some (topS σ)) :: st) (mkS σ (x0 q.2) n.toNat) else none
    | _ => none)
  | .anewarray _ => (match st with
    | .inl n :: st => if 0 ≤ n ∧ n < 65536 then nx ls (.inr (some (topS σ)) :: st) (mkS σ (x0 q.2) n.toNat) else none
    | _ => none)
  | .new _ => nx ls (.inr (some (topS σ)) :: st) (mkS σ (10 + x0 q.2) (NF (x0 q.2)))
  | .invokevirtual _ => cal q.2 st σ
  | .invokestatic _ => if 1000 ≤ x0 q.2 then (if st.length ≤ 8 then natC (x0 q.2) ls st σ else none) else cal q.2 st σ
  | .invokespecial _ => if 1000 ≤ x0 q.2 then (if st.length ≤ 8 then natC (x0 q.2) ls st σ else none) else cal q.2 st σ
  | .ireturn => (match st with
    | [.inl z] => if x0 q.2 = 0 ∨ z = 0 ∨ z = 1 then some (.inr (.inr (.inr (some (.inl z))))) else none
    | _ => none)
  | .return_ => (match st with
    | [] => some (.inr (.inr (.inr none)))
    | _ => none)
  | _ => none
def ent (k : Nat) (as : List AV) : LsT := as.map some ++ List.replicate (mxM k - as.length) none
def run (zt : Nat → Nat) : Nat → Nat → List RI → LsT → List AV → Sto → Option (Option AV × Sto)
  | 0, _, _, _, _, _ => none
  | n + 1, k, c, ls, st, σ => match c with
    | [] => none
    | q :: c => match eff zt q ls st σ with
      | none => none
      | some (.inl (ls', st', σ')) => run zt n k c ls' st' σ'
      | some (.inr (.inl (L, st'))) => run zt n k (P k L) ls st' σ
      | some (.inr (.inr (.inl (k', as, rest)))) => (match run zt n k' (P k' 0) (ent k' as) [] σ with
        | some (v, σ') => run zt n k c ls (v.toList ++ rest) σ'
        | none => none)
      | some (.inr (.inr (.inr v))) => some (v, σ)
def Wp (zt : Nat → Nat) (k : Nat) (c : List RI) (ls : LsT) (st : List AV) (σ : Sto) (Q : Option AV → Sto → Prop) : Prop := ∃ n v σ', run zt n k c ls st σ = some (v, σ') ∧ Q v σ'
def WpM (zt : Nat → Nat) (k : Nat) (as : List AV) (σ : Sto) (Q : Option AV → Sto → Prop) : Prop := Wp zt k (P k 0) (ent k as) [] σ Q
end
section
/-! THE TABLES ARE THE MACHINE'S: each row of the resolved code is what the bytes decode to, and each entry of the tables a word of the Statement. -/
def inW (w : Jvm.Cond) : Bool := decide (w ∈ lw_tbl) && goodWord w
def bigW : List Jvm.Cond := lw_tbl.filter goodWord
theorem inW_mem {w : Jvm.Cond} (h : inW w = true) : w ∈ bigW := by
  unfold inW at h
  rw [Bool.and_eq_true] at h
  exact List.mem_filter.mpr ⟨of_decide_eq_true h.1, h.2⟩
def lenI : Instr → Nat
  | .aload _ | .iload _ | .istore _ | .astore _ | .bipush _ | .ldc _ | .newarray _ => 2
  | .sipush _ | .iinc _ _ | .goto _ | .if_icmp _ _ | .ifCond _ _ | .getfield _ | .putfield _ | .getstatic _ | .anewarray _ | .new _ | .invokevirtual _ | .invokestatic _ | .invokespecial _ => 3
  | _ => 1
def isSw : Instr → Bool
  | .tableswitch _ _ _ _ => true
  | _ => false
def isTm : Instr → Bool
  | .tableswitch _ _ _ _ | .goto _ | .ireturn | .return_ => true
  | _ => false
def tgB (k pc : Nat) (off : Int) (L : Nat) : Bool := decide ((pc : Int) + off = (L : Int)) && (lbM k).contains L
def swB (k pc : Nat) : List Int → List Nat → Bool
  | [], [] => true
  | o :: os, L :: Ls => tgB k pc o L && swB k pc os Ls
  | _, _ => false
def mtB (k i k' na rk : Nat) (st : Bool) : Bool := methT.contains [clM k, i, k'] && (stM k' == st) && (naM k' == na) && (rk == (if st then 0 else 10 + clM k')) && decide (dpM k' + 1 ≤ dpM k) && decide (k' + 1 < NM)
def ntB (k i k' na : Nat) : Bool := natT.contains [clM k, i, k'] && decide (1 ≤ dpM k) && (na == (if k' = 1000 then 1 else if k' = 1001 then 5 else if k' = 1002 then 1 else 2))
def exI (k pc : Nat) (q : RI) : Bool := match q.1 with
  | .aload _ | .aload_n _ | .iload _ | .iload_n _ | .iconst _ | .iadd | .isub | .imul | .ineg | .iand | .idiv | .irem | .dup | .dup2 | .pop | .iaload | .iastore | .baload | .bastore | .aaload | .aastore | .arraylength => true
  | .istore i | .astore i => decide (i < mxM k)
  | .istore_n i | .astore_n i => decide (i.val < mxM k)
  | .bipush v => decide (-128 ≤ v ∧ v < 128)
  | .sipush v => decide (-32768 ≤ v ∧ v < 32768)
  | .ldc i => ldcT.contains [clM k, i, x0 q.2] && decide (x0 q.2 < 2147483648)
  | .iinc i _ => decide (i < mxM k)
  | .goto off => tgB k pc off (x0 q.2)
  | .if_icmp _ off => tgB k pc off (x0 q.2)
  | .ifCond _ off => tgB k pc off (x0 q.2)
  | .tableswitch d _ _ offs => swB k pc (d :: offs.toList) q.2
  | .getfield i => fldT.contains [clM k, i, x0 q.2, x1 q.2]
  | .putfield i => fldT.contains [clM k, i, x0 q.2, x1 q.2] && (!(TN (x0 q.2) (x1 q.2)).2.2.2 || (inM k && decide ((TN (x0 q.2) (x1 q.2)).1 = RN (clM k))))
  | .getstatic i => statT.contains [clM k, i, x0 q.2]
  | .newarray t => (decide (t = .int) && (x0 q.2 == 0)) || (decide (t = .boolean) && (x0 q.2 == 1))
  | .anewarray i => anewT.contains [clM k, i, x0 q.2]
  | .new i => newT.contains [clM k, i, x0 q.2]
  | .invokevirtual i => match q.2 with
    | [k', na, rk] => mtB k i k' na rk false && !(inM k')
    | _ => false
  | .invokestatic i => match q.2 with
    | [k', na, rk] => if 1000 ≤ k' then ntB k i k' na && decide (1001 ≤ k') else mtB k i k' na rk true
    | _ => false
  | .invokespecial i => match q.2 with
    | [k', na, rk] => if 1000 ≤ k' then ntB k i k' na && decide (k' = 1000) else mtB k i k' na rk false && inM k'
    | _ => false
  | .ireturn => (x0 q.2 == 0 && decide (rtM k = some .int)) || (x0 q.2 == 1 && decide (rtM k = some .boolean))
  | .return_ => decide (rtM k = none)
  | _ => false
def isNop : Instr → Bool
  | .nop => true
  | _ => false
def maB (k : Nat) : Nat → List RI → Bool
  | _, [] => false
  | pc, q :: c => if isNop q.1 = true then (pc == x0 q.2) && (lbM k).contains pc else match decode (byM k) pc with
    | .ok r => decide (r.1 = q.1) && (isSw q.1 || decide (r.2 = lenI q.1)) && exI k pc q && (isTm q.1 || maB k (pc + lenI q.1) c)
    | .error _ => false
def chM (k : Nat) : Bool := (lbM k).contains 0 && (lbM k).all (fun L => maB k L (P k L))
end
section
/-! THE WORDS: what the tables name is in the Statement, by its place in lw_tbl. -/
def inP (i : Nat) (w : Jvm.Cond) : Bool := decide (lw_tbl[i]? = some w) && goodWord w
theorem inP_mem {i : Nat} {w : Jvm.Cond} (h : inP i w = true) : w ∈ bigW := by
  unfold inP at h
  rw [Bool.and_eq_true] at h
  exact List.mem_filter.mpr ⟨List.mem_of_getElem? (of_decide_eq_true h.1), h.2⟩
def sN (j : Nat) : String := cond (Nat.beq j 0) "SOUND_FIRST" (cond (Nat.beq j 1) "NUMBER_FIRST" (cond (Nat.beq j 2) "SOUND_HIGH" (cond (Nat.beq j 3) "NUMBER_LOW" "NUMBER_HIGH")))
def kN (kd : Nat) : String := cond (Nat.beq kd 2) RX4 RX3
def at4 (e : List Nat) (j : Nat) : Nat := e.getD j 0
def ntN (k : Nat) : MethodName := cond (Nat.beq k 1000) objectInit (cond (Nat.beq k 1001) arraycopyName (cond (Nat.beq k 1002) Lib.Math.abs.name (cond (Nat.beq k 1003) Lib.Math.min.name Lib.Math.max.name)))
def fldL : List (List Nat) := [[0, 9, 0, 0, 162], [0, 15, 0, 1, 164], [0, 19, 3, 4, 87], [0, 24, 0, 2, 166], [0, 28, 0, 3, 168], [0, 31, 3, 5, 91], [0, 34, 3, 7, 100], [0, 37, 3, 8, 105], [0, 46, 3, 6, 96], [0, 56, 3, 3, 84], [1, 9, 1, 0, 185], [1, 15, 1, 1, 187], [1, 18, 1, 2, 188], [1, 22, 1, 3, 189], [1, 25, 1, 4, 190], [1, 28, 1, 5, 191], [1, 31, 3, 8, 103], [1, 37, 1, 6, 192], [1, 38, 3, 0, 76], [1, 41, 1, 7, 193], [1, 42, 3, 4, 88], [1, 45, 1, 8, 194], [1, 52, 3, 5, 92], [1, 55, 3, 7, 101], [1, 64, 3, 6, 97], [1, 74, 3, 9, 109], [2, 9, 2, 0, 220], [2, 15, 2, 1, 222], [2, 25, 2, 2, 223], [2, 28, 2, 3, 224], [2, 42, 3, 5, 93], [2, 47, 3, 8, 106], [2, 57, 3, 0, 78], [2, 60, 3, 9, 110], [3, 9, 3, 1, 79], [3, 15, 3, 2, 81], [3, 18, 3, 3, 83], [3, 21, 3, 4, 86], [3, 24, 3, 6, 95], [3, 27, 3, 7, 99], [3, 30, 3, 9, 108], [3, 33, 3, 10, 112], [3, 36, 3, 0, 75], [3, 46, 3, 5, 90], [3, 49, 3, 8, 104], [4, 12, 4, 0, 139], [4, 18, 4, 1, 141], [4, 22, 4, 2, 143], [5, 10, 5, 0, 234], [5, 16, 5, 1, 235], [5, 20, 5, 2, 236], [5, 27, 5, 3, 237], [5, 34, 5, 4, 238], [5, 41, 5, 5, 239], [5, 48, 5, 6, 240], [5, 52, 5, 7, 241], [5, 56, 5, 8, 242], [5, 59, 4, 0, 140], [5, 66, 3, 0, 77], [5, 72, 3, 1, 80], [5, 75, 3, 2, 82], [5, 89, 3, 3, 85], [5, 98, 3, 4, 89], [5, 101, 3, 5, 94], [5, 111, 3, 8, 107], [5, 121, 3, 7, 102], [5, 138, 3, 9, 111], [5, 141, 3, 10, 113], [5, 167, 1, 0, 186], [5, 176, 0, 3, 169], [5, 179, 3, 6, 98], [5, 182, 4, 1, 142], [5, 186, 4, 2, 144], [5, 197, 2, 0, 221], [5, 204, 0, 2, 167], [5, 216, 0, 0, 163], [5, 219, 0, 1, 165], [6, 7, 6, 0, 620], [6, 13, 6, 1, 621], [6, 16, 6, 2, 622], [6, 19, 6, 4, 624], [6, 22, 6, 6, 626], [6, 25, 6, 7, 627], [6, 29, 6, 10, 630], [6, 32, 6, 11, 631], [6, 35, 6, 12, 632], [6, 38, 6, 3, 623], [6, 136, 6, 5, 625], [6, 139, 6, 8, 628], [6, 148, 6, 9, 629]]
def okF (e : List Nat) : Bool := inP (at4 e 4) (.fieldLink (RN (at4 e 0)) (at4 e 1) (TN (at4 e 2) (at4 e 3)).1 (TN (at4 e 2) (at4 e 3)).2.1 (TN (at4 e 2) (at4 e 3)).2.2.1) && decide (at4 e 2 < 7) && decide (at4 e 3 < NF (at4 e 2)) && decide (tyN (at4 e 2) (at4 e 3) = .int ↔ fI (at4 e 2) (at4 e 3) = true) && decide ((tyN (at4 e 2) (at4 e 3)).isReference = true ↔ fI (at4 e 2) (at4 e 3) = false)
def statL : List (List Nat) := [[3, 40, 0, 71], [3, 43, 1, 73], [5, 86, 2, 306], [5, 92, 3, 312], [5, 95, 4, 314]]
def okS (e : List Nat) : Bool := decide (at4 e 2 < 5) && (if at4 e 0 = 3 then decide (lw_tbl[at4 e 3]? = some (.fieldLinkNest RX3 (at4 e 1) RX5 (sN (at4 e 2)) "[I" RX5)) && decide ((at4 e 1 = 40 ∧ at4 e 2 = 0) ∨ (at4 e 1 = 43 ∧ at4 e 2 = 1)) else decide (at4 e 0 = 5) && inP (at4 e 3) (.fieldLink RX5 (at4 e 1) RX5 (sN (at4 e 2)) "[I"))
def newL : List (List Nat) := [[4, 9, 3, 65, 66, 44], [5, 7, 4, 59, 60, 43], [5, 24, 3, 154, 66, 44], [5, 31, 0, 156, 157, 45], [5, 38, 1, 179, 180, 46], [5, 45, 2, 214, 215, 47], [7, 7, 5, 51, 52, 42], [7, 10, 6, 614, 615, 48]]
def okN (e : List Nat) : Bool := inP (at4 e 3) (.classLink (RN (at4 e 0)) (at4 e 1) (RN (at4 e 2))) && decide (at4 e 2 < 7) && inP (at4 e 4) (.instantiable (RN (at4 e 2)) (NF (at4 e 2))) && inP (at4 e 5) (.initialized (RN (at4 e 2)))
def anewL : List (List Nat) := [[4, 9, 3, 65], [5, 7, 2, 59]]
def okA (e : List Nat) : Bool := inP (at4 e 3) (.classLink (RN (at4 e 0)) (at4 e 1) (kN (at4 e 2))) && decide (at4 e 2 = 2 ∨ at4 e 2 = 3)
def ldcL : List (List Nat) := [[1, 84, 1000000, 416], [5, 238, 99999, 604], [6, 119, 1000000, 781], [6, 195, 99999, 947]]
def okL (e : List Nat) : Bool := inP (at4 e 3) (.constant (RN (at4 e 0)) (at4 e 1) (Int32.ofNat (at4 e 2)))
def methL : List (List Nat) := [[0, 49, 2, 456], [1, 48, 6, 396], [1, 67, 5, 404], [1, 71, 35, 408], [1, 77, 7, 412], [1, 81, 32, 400], [1, 85, 9, 421], [1, 88, 11, 425], [1, 92, 10, 429], [1, 101, 13, 567], [1, 104, 14, 571], [1, 107, 8, 437], [1, 111, 16, 438], [1, 114, 17, 442], [2, 31, 22, 489], [2, 34, 20, 493], [2, 38, 24, 497], [2, 50, 21, 500], [2, 53, 41, 507], [2, 63, 23, 504], [3, 68, 31, 386], [3, 72, 32, 382], [3, 75, 35, 588], [3, 78, 39, 552], [3, 81, 38, 328], [3, 84, 43, 332], [3, 88, 44, 348], [4, 11, 25, 67], [4, 26, 26, 277], [5, 9, 45, 61], [5, 26, 25, 155], [5, 33, 0, 158], [5, 40, 3, 181], [5, 47, 18, 216], [5, 62, 82, 266], [5, 69, 83, 269], [5, 78, 27, 288], [5, 82, 31, 292], [5, 104, 30, 320], [5, 107, 41, 324], [5, 114, 28, 340], [5, 117, 42, 344], [5, 124, 38, 356], [5, 128, 44, 357], [5, 132, 43, 358], [5, 135, 29, 363], [5, 144, 84, 375], [5, 148, 34, 378], [5, 151, 32, 387], [5, 155, 4, 392], [5, 159, 8, 417], [5, 163, 15, 433], [5, 170, 26, 450], [5, 173, 1, 451], [5, 190, 46, 273], [5, 193, 19, 484], [5, 200, 37, 512], [5, 207, 47, 516], [5, 210, 39, 544], [5, 213, 40, 548], [5, 222, 35, 557], [5, 225, 12, 562], [5, 228, 7, 579], [5, 231, 36, 584], [5, 234, 85, 593], [5, 239, 6, 605], [5, 243, 33, 610], [6, 42, 90, 674], [6, 46, 87, 667], [6, 50, 94, 685], [6, 54, 88, 689], [6, 58, 95, 692], [6, 61, 89, 696], [6, 64, 98, 738], [6, 67, 100, 734], [6, 70, 101, 730], [6, 74, 104, 664], [6, 78, 91, 670], [6, 81, 92, 681], [6, 84, 108, 707], [6, 88, 99, 710], [6, 91, 112, 721], [6, 95, 110, 727], [6, 99, 114, 718], [6, 103, 113, 724], [6, 106, 93, 746], [6, 109, 111, 750], [6, 112, 102, 765], [6, 115, 118, 761], [6, 120, 96, 782], [6, 123, 121, 777], [6, 126, 141, 790], [6, 129, 124, 821], [6, 132, 125, 825], [6, 142, 132, 856], [6, 145, 133, 852], [6, 151, 134, 864], [6, 154, 135, 860], [6, 158, 97, 798], [6, 161, 139, 810], [6, 164, 137, 794], [6, 167, 138, 802], [6, 170, 140, 806], [6, 174, 142, 813], [6, 177, 143, 872], [6, 180, 144, 876], [6, 183, 103, 904], [6, 186, 151, 908], [6, 189, 152, 911], [6, 192, 158, 935], [7, 9, 48, 53], [7, 12, 86, 616], [7, 13, 49, 262], [7, 17, 105, 660], [7, 18, 50, 284], [7, 22, 106, 677], [7, 23, 51, 302], [7, 26, 107, 699], [7, 27, 52, 308], [7, 30, 109, 703], [7, 31, 53, 316], [7, 34, 115, 714], [7, 35, 54, 336], [7, 39, 116, 742], [7, 40, 55, 352], [7, 43, 117, 753], [7, 44, 56, 359], [7, 47, 119, 757], [7, 48, 57, 367], [7, 51, 120, 769], [7, 52, 58, 371], [7, 55, 122, 773], [7, 56, 59, 388], [7, 60, 123, 786], [7, 61, 60, 446], [7, 64, 126, 817], [7, 65, 61, 460], [7, 68, 127, 828], [7, 69, 62, 464], [7, 72, 128, 832], [7, 73, 63, 468], [7, 76, 129, 836], [7, 77, 64, 472], [7, 80, 130, 840], [7, 81, 65, 476], [7, 84, 131, 844], [7, 85, 66, 480], [7, 88, 136, 848], [7, 89, 67, 508], [7, 92, 145, 868], [7, 93, 68, 520], [7, 96, 146, 880], [7, 97, 69, 524], [7, 100, 147, 884], [7, 101, 70, 528], [7, 104, 148, 888], [7, 105, 71, 532], [7, 108, 149, 892], [7, 109, 72, 536], [7, 112, 150, 896], [7, 113, 73, 540], [7, 116, 153, 900], [7, 117, 74, 553], [7, 120, 154, 915], [7, 121, 75, 558], [7, 124, 155, 919], [7, 125, 76, 575], [7, 128, 156, 923], [7, 129, 77, 580], [7, 132, 157, 927], [7, 133, 78, 589], [7, 136, 159, 931], [7, 137, 79, 596], [7, 140, 160, 939], [7, 141, 80, 600], [7, 144, 161, 943], [7, 145, 81, 606], [7, 148, 162, 948]]
def okC (e : List Nat) : Bool := inP (at4 e 3) (.methodLink (RN (at4 e 0)) (at4 e 1) (yM (at4 e 2)))
def natL : List (List Nat) := [[0, 3, 1000, 161], [0, 40, 1003, 455], [0, 53, 1004, 459], [1, 3, 1000, 184], [1, 58, 1003, 401], [1, 95, 1001, 566], [2, 3, 1000, 219], [2, 19, 1003, 488], [3, 3, 1000, 70], [3, 52, 1001, 281], [3, 58, 1002, 296], [3, 64, 1004, 299], [4, 3, 1000, 64], [5, 1, 1000, 56], [6, 1, 1000, 619]]
def okT (e : List Nat) : Bool := inP (at4 e 3) (.methodLink (RN (at4 e 0)) (at4 e 1) (ntN (at4 e 2))) && decide (1000 ≤ at4 e 2 ∧ at4 e 2 ≤ 1004)
def uwP (c : Nat) : List Nat := cond (Nat.blt c 3) (cond (Nat.blt c 1) (cond (Nat.beq c 0) ([170, 172, 174, 176]) []) (cond (Nat.blt c 2) (cond (Nat.beq c 1) ([195, 197, 199, 201, 203, 205, 207, 209, 211]) []) (cond (Nat.beq c 2) ([225, 227, 229, 231]) []))) (cond (Nat.blt c 5) (cond (Nat.blt c 4) (cond (Nat.beq c 3) ([114, 116, 118, 120, 122, 124, 126, 128, 130, 132, 134]) []) (cond (Nat.beq c 4) ([145, 147, 149]) [])) (cond (Nat.blt c 6) (cond (Nat.beq c 5) ([243, 245, 247, 249, 251, 253, 255, 257, 259]) []) (cond (Nat.beq c 6) ([633, 635, 637, 639, 641, 643, 645, 647, 649, 651, 653, 655, 657]) [])))
def okU (c : Nat) : Bool := (List.range (NF c)).all (fun k => inP ((uwP c).getD k 0) (u_lay (RN c) (TN c) k))
def mPs (k : Nat) : List Nat := cond (Nat.blt k 81) (cond (Nat.blt k 40) (cond (Nat.blt k 20) (cond (Nat.blt k 10) (cond (Nat.blt k 5) (cond (Nat.blt k 2) (cond (Nat.blt k 1) (cond (Nat.beq k 0) ([160, 159, 0, 45]) []) (cond (Nat.beq k 1) ([454, 452, 453, 45]) [])) (cond (Nat.blt k 3) (cond (Nat.beq k 2) ([458, 457, 0, 45]) []) (cond (Nat.blt k 4) (cond (Nat.beq k 3) ([183, 182, 0, 46]) []) (cond (Nat.beq k 4) ([395, 393, 394, 46]) [])))) (cond (Nat.blt k 7) (cond (Nat.blt k 6) (cond (Nat.beq k 5) ([407, 406, 1, 46]) []) (cond (Nat.beq k 6) ([399, 397, 398, 46]) [])) (cond (Nat.blt k 8) (cond (Nat.beq k 7) ([415, 413, 414, 46]) []) (cond (Nat.blt k 9) (cond (Nat.beq k 8) ([420, 418, 419, 46]) []) (cond (Nat.beq k 9) ([424, 423, 2, 46]) []))))) (cond (Nat.blt k 15) (cond (Nat.blt k 12) (cond (Nat.blt k 11) (cond (Nat.beq k 10) ([432, 431, 4, 46]) []) (cond (Nat.beq k 11) ([428, 427, 3, 46]) [])) (cond (Nat.blt k 13) (cond (Nat.beq k 12) ([565, 563, 564, 46]) []) (cond (Nat.blt k 14) (cond (Nat.beq k 13) ([570, 569, 10, 46]) []) (cond (Nat.beq k 14) ([574, 573, 11, 46]) [])))) (cond (Nat.blt k 17) (cond (Nat.blt k 16) (cond (Nat.beq k 15) ([436, 434, 435, 46]) []) (cond (Nat.beq k 16) ([441, 440, 5, 46]) [])) (cond (Nat.blt k 18) (cond (Nat.beq k 17) ([445, 444, 6, 46]) []) (cond (Nat.blt k 19) (cond (Nat.beq k 18) ([218, 217, 0, 47]) []) (cond (Nat.beq k 19) ([487, 485, 486, 47]) [])))))) (cond (Nat.blt k 30) (cond (Nat.blt k 25) (cond (Nat.blt k 22) (cond (Nat.blt k 21) (cond (Nat.beq k 20) ([496, 495, 8, 47]) []) (cond (Nat.beq k 21) ([503, 502, 9, 47]) [])) (cond (Nat.blt k 23) (cond (Nat.beq k 22) ([492, 491, 7, 47]) []) (cond (Nat.blt k 24) (cond (Nat.beq k 23) ([506, 505, 0, 47]) []) (cond (Nat.beq k 24) ([499, 498, 0, 47]) [])))) (cond (Nat.blt k 27) (cond (Nat.blt k 26) (cond (Nat.beq k 25) ([69, 68, 0, 44]) []) (cond (Nat.beq k 26) ([280, 278, 279, 44]) [])) (cond (Nat.blt k 28) (cond (Nat.beq k 27) ([291, 289, 290, 44]) []) (cond (Nat.blt k 29) (cond (Nat.beq k 28) ([343, 341, 342, 44]) []) (cond (Nat.beq k 29) ([366, 364, 365, 44]) []))))) (cond (Nat.blt k 35) (cond (Nat.blt k 32) (cond (Nat.blt k 31) (cond (Nat.beq k 30) ([323, 321, 322, 44]) []) (cond (Nat.beq k 31) ([295, 293, 294, 44]) [])) (cond (Nat.blt k 33) (cond (Nat.beq k 32) ([385, 383, 384, 44]) []) (cond (Nat.blt k 34) (cond (Nat.beq k 33) ([613, 611, 612, 44]) []) (cond (Nat.beq k 34) ([381, 379, 380, 44]) [])))) (cond (Nat.blt k 37) (cond (Nat.blt k 36) (cond (Nat.beq k 35) ([411, 409, 410, 44]) []) (cond (Nat.beq k 36) ([587, 585, 586, 44]) [])) (cond (Nat.blt k 38) (cond (Nat.beq k 37) ([515, 513, 514, 44]) []) (cond (Nat.blt k 39) (cond (Nat.beq k 38) ([331, 329, 330, 44]) []) (cond (Nat.beq k 39) ([547, 545, 546, 44]) []))))))) (cond (Nat.blt k 60) (cond (Nat.blt k 50) (cond (Nat.blt k 45) (cond (Nat.blt k 42) (cond (Nat.blt k 41) (cond (Nat.beq k 40) ([551, 549, 550, 44]) []) (cond (Nat.beq k 41) ([327, 325, 326, 44]) [])) (cond (Nat.blt k 43) (cond (Nat.beq k 42) ([347, 345, 346, 44]) []) (cond (Nat.blt k 44) (cond (Nat.beq k 43) ([335, 333, 334, 44]) []) (cond (Nat.beq k 44) ([351, 349, 350, 44]) [])))) (cond (Nat.blt k 47) (cond (Nat.blt k 46) (cond (Nat.beq k 45) ([63, 62, 0, 43]) []) (cond (Nat.beq k 46) ([276, 274, 275, 43]) [])) (cond (Nat.blt k 48) (cond (Nat.beq k 47) ([519, 517, 518, 43]) []) (cond (Nat.blt k 49) (cond (Nat.beq k 48) ([55, 54, 0, 42]) []) (cond (Nat.beq k 49) ([265, 263, 264, 42]) []))))) (cond (Nat.blt k 55) (cond (Nat.blt k 52) (cond (Nat.blt k 51) (cond (Nat.beq k 50) ([287, 285, 286, 42]) []) (cond (Nat.beq k 51) ([305, 303, 304, 42]) [])) (cond (Nat.blt k 53) (cond (Nat.beq k 52) ([311, 309, 310, 42]) []) (cond (Nat.blt k 54) (cond (Nat.beq k 53) ([319, 317, 318, 42]) []) (cond (Nat.beq k 54) ([339, 337, 338, 42]) [])))) (cond (Nat.blt k 57) (cond (Nat.blt k 56) (cond (Nat.beq k 55) ([355, 353, 354, 42]) []) (cond (Nat.beq k 56) ([362, 360, 361, 42]) [])) (cond (Nat.blt k 58) (cond (Nat.beq k 57) ([370, 368, 369, 42]) []) (cond (Nat.blt k 59) (cond (Nat.beq k 58) ([374, 372, 373, 42]) []) (cond (Nat.beq k 59) ([391, 389, 390, 42]) [])))))) (cond (Nat.blt k 70) (cond (Nat.blt k 65) (cond (Nat.blt k 62) (cond (Nat.blt k 61) (cond (Nat.beq k 60) ([449, 447, 448, 42]) []) (cond (Nat.beq k 61) ([463, 461, 462, 42]) [])) (cond (Nat.blt k 63) (cond (Nat.beq k 62) ([467, 465, 466, 42]) []) (cond (Nat.blt k 64) (cond (Nat.beq k 63) ([471, 469, 470, 42]) []) (cond (Nat.beq k 64) ([475, 473, 474, 42]) [])))) (cond (Nat.blt k 67) (cond (Nat.blt k 66) (cond (Nat.beq k 65) ([479, 477, 478, 42]) []) (cond (Nat.beq k 66) ([483, 481, 482, 42]) [])) (cond (Nat.blt k 68) (cond (Nat.beq k 67) ([511, 509, 510, 42]) []) (cond (Nat.blt k 69) (cond (Nat.beq k 68) ([523, 521, 522, 42]) []) (cond (Nat.beq k 69) ([527, 525, 526, 42]) []))))) (cond (Nat.blt k 75) (cond (Nat.blt k 72) (cond (Nat.blt k 71) (cond (Nat.beq k 70) ([531, 529, 530, 42]) []) (cond (Nat.beq k 71) ([535, 533, 534, 42]) [])) (cond (Nat.blt k 73) (cond (Nat.beq k 72) ([539, 537, 538, 42]) []) (cond (Nat.blt k 74) (cond (Nat.beq k 73) ([543, 541, 542, 42]) []) (cond (Nat.beq k 74) ([556, 554, 555, 42]) [])))) (cond (Nat.blt k 78) (cond (Nat.blt k 76) (cond (Nat.beq k 75) ([561, 559, 560, 42]) []) (cond (Nat.blt k 77) (cond (Nat.beq k 76) ([578, 576, 577, 42]) []) (cond (Nat.beq k 77) ([583, 581, 582, 42]) []))) (cond (Nat.blt k 79) (cond (Nat.beq k 78) ([592, 590, 591, 42]) []) (cond (Nat.blt k 80) (cond (Nat.beq k 79) ([599, 597, 598, 42]) []) (cond (Nat.beq k 80) ([603, 601, 602, 42]) [])))))))) (cond (Nat.blt k 122) (cond (Nat.blt k 101) (cond (Nat.blt k 91) (cond (Nat.blt k 86) (cond (Nat.blt k 83) (cond (Nat.blt k 82) (cond (Nat.beq k 81) ([609, 607, 608, 42]) []) (cond (Nat.beq k 82) ([268, 267, 0, 42]) [])) (cond (Nat.blt k 84) (cond (Nat.beq k 83) ([272, 271, 0, 42]) []) (cond (Nat.blt k 85) (cond (Nat.beq k 84) ([377, 376, 0, 42]) []) (cond (Nat.beq k 85) ([595, 594, 0, 42]) [])))) (cond (Nat.blt k 88) (cond (Nat.blt k 87) (cond (Nat.beq k 86) ([618, 617, 0, 48]) []) (cond (Nat.beq k 87) ([669, 668, 0, 48]) [])) (cond (Nat.blt k 89) (cond (Nat.beq k 88) ([691, 690, 0, 48]) []) (cond (Nat.blt k 90) (cond (Nat.beq k 89) ([698, 697, 0, 48]) []) (cond (Nat.beq k 90) ([676, 675, 0, 48]) []))))) (cond (Nat.blt k 96) (cond (Nat.blt k 93) (cond (Nat.blt k 92) (cond (Nat.beq k 91) ([673, 672, 12, 48]) []) (cond (Nat.beq k 92) ([684, 683, 13, 48]) [])) (cond (Nat.blt k 94) (cond (Nat.beq k 93) ([749, 748, 20, 48]) []) (cond (Nat.blt k 95) (cond (Nat.beq k 94) ([688, 687, 14, 48]) []) (cond (Nat.beq k 95) ([695, 694, 15, 48]) [])))) (cond (Nat.blt k 98) (cond (Nat.blt k 97) (cond (Nat.beq k 96) ([785, 784, 24, 48]) []) (cond (Nat.beq k 97) ([801, 800, 27, 48]) [])) (cond (Nat.blt k 99) (cond (Nat.beq k 98) ([741, 740, 19, 48]) []) (cond (Nat.blt k 100) (cond (Nat.beq k 99) ([713, 712, 16, 48]) []) (cond (Nat.beq k 100) ([737, 736, 18, 48]) [])))))) (cond (Nat.blt k 111) (cond (Nat.blt k 106) (cond (Nat.blt k 103) (cond (Nat.blt k 102) (cond (Nat.beq k 101) ([733, 732, 17, 48]) []) (cond (Nat.beq k 102) ([768, 767, 22, 48]) [])) (cond (Nat.blt k 104) (cond (Nat.beq k 103) ([907, 906, 38, 48]) []) (cond (Nat.blt k 105) (cond (Nat.beq k 104) ([666, 665, 0, 48]) []) (cond (Nat.beq k 105) ([663, 661, 662, 48]) [])))) (cond (Nat.blt k 108) (cond (Nat.blt k 107) (cond (Nat.beq k 106) ([680, 678, 679, 48]) []) (cond (Nat.beq k 107) ([702, 700, 701, 48]) [])) (cond (Nat.blt k 109) (cond (Nat.beq k 108) ([709, 708, 0, 48]) []) (cond (Nat.blt k 110) (cond (Nat.beq k 109) ([706, 704, 705, 48]) []) (cond (Nat.beq k 110) ([729, 728, 0, 48]) []))))) (cond (Nat.blt k 116) (cond (Nat.blt k 113) (cond (Nat.blt k 112) (cond (Nat.beq k 111) ([752, 751, 0, 48]) []) (cond (Nat.beq k 112) ([723, 722, 0, 48]) [])) (cond (Nat.blt k 114) (cond (Nat.beq k 113) ([726, 725, 0, 48]) []) (cond (Nat.blt k 115) (cond (Nat.beq k 114) ([720, 719, 0, 48]) []) (cond (Nat.beq k 115) ([717, 715, 716, 48]) [])))) (cond (Nat.blt k 119) (cond (Nat.blt k 117) (cond (Nat.beq k 116) ([745, 743, 744, 48]) []) (cond (Nat.blt k 118) (cond (Nat.beq k 117) ([756, 754, 755, 48]) []) (cond (Nat.beq k 118) ([764, 763, 21, 48]) []))) (cond (Nat.blt k 120) (cond (Nat.beq k 119) ([760, 758, 759, 48]) []) (cond (Nat.blt k 121) (cond (Nat.beq k 120) ([772, 770, 771, 48]) []) (cond (Nat.beq k 121) ([780, 779, 23, 48]) []))))))) (cond (Nat.blt k 142) (cond (Nat.blt k 132) (cond (Nat.blt k 127) (cond (Nat.blt k 124) (cond (Nat.blt k 123) (cond (Nat.beq k 122) ([776, 774, 775, 48]) []) (cond (Nat.beq k 123) ([789, 787, 788, 48]) [])) (cond (Nat.blt k 125) (cond (Nat.beq k 124) ([824, 823, 31, 48]) []) (cond (Nat.blt k 126) (cond (Nat.beq k 125) ([827, 826, 0, 48]) []) (cond (Nat.beq k 126) ([820, 818, 819, 48]) [])))) (cond (Nat.blt k 129) (cond (Nat.blt k 128) (cond (Nat.beq k 127) ([831, 829, 830, 48]) []) (cond (Nat.beq k 128) ([835, 833, 834, 48]) [])) (cond (Nat.blt k 130) (cond (Nat.beq k 129) ([839, 837, 838, 48]) []) (cond (Nat.blt k 131) (cond (Nat.beq k 130) ([843, 841, 842, 48]) []) (cond (Nat.beq k 131) ([847, 845, 846, 48]) []))))) (cond (Nat.blt k 137) (cond (Nat.blt k 134) (cond (Nat.blt k 133) (cond (Nat.beq k 132) ([859, 858, 33, 48]) []) (cond (Nat.beq k 133) ([855, 854, 32, 48]) [])) (cond (Nat.blt k 135) (cond (Nat.beq k 134) ([867, 866, 35, 48]) []) (cond (Nat.blt k 136) (cond (Nat.beq k 135) ([863, 862, 34, 48]) []) (cond (Nat.beq k 136) ([851, 849, 850, 48]) [])))) (cond (Nat.blt k 139) (cond (Nat.blt k 138) (cond (Nat.beq k 137) ([797, 796, 26, 48]) []) (cond (Nat.beq k 138) ([805, 804, 28, 48]) [])) (cond (Nat.blt k 140) (cond (Nat.beq k 139) ([812, 811, 0, 48]) []) (cond (Nat.blt k 141) (cond (Nat.beq k 140) ([809, 808, 29, 48]) []) (cond (Nat.beq k 141) ([793, 792, 25, 48]) [])))))) (cond (Nat.blt k 152) (cond (Nat.blt k 147) (cond (Nat.blt k 144) (cond (Nat.blt k 143) (cond (Nat.beq k 142) ([816, 815, 30, 48]) []) (cond (Nat.beq k 143) ([875, 874, 36, 48]) [])) (cond (Nat.blt k 145) (cond (Nat.beq k 144) ([879, 878, 37, 48]) []) (cond (Nat.blt k 146) (cond (Nat.beq k 145) ([871, 869, 870, 48]) []) (cond (Nat.beq k 146) ([883, 881, 882, 48]) [])))) (cond (Nat.blt k 149) (cond (Nat.blt k 148) (cond (Nat.beq k 147) ([887, 885, 886, 48]) []) (cond (Nat.beq k 148) ([891, 889, 890, 48]) [])) (cond (Nat.blt k 150) (cond (Nat.beq k 149) ([895, 893, 894, 48]) []) (cond (Nat.blt k 151) (cond (Nat.beq k 150) ([899, 897, 898, 48]) []) (cond (Nat.beq k 151) ([910, 909, 0, 48]) []))))) (cond (Nat.blt k 157) (cond (Nat.blt k 154) (cond (Nat.blt k 153) (cond (Nat.beq k 152) ([914, 913, 39, 48]) []) (cond (Nat.beq k 153) ([903, 901, 902, 48]) [])) (cond (Nat.blt k 155) (cond (Nat.beq k 154) ([918, 916, 917, 48]) []) (cond (Nat.blt k 156) (cond (Nat.beq k 155) ([922, 920, 921, 48]) []) (cond (Nat.beq k 156) ([926, 924, 925, 48]) [])))) (cond (Nat.blt k 160) (cond (Nat.blt k 158) (cond (Nat.beq k 157) ([930, 928, 929, 48]) []) (cond (Nat.blt k 159) (cond (Nat.beq k 158) ([938, 937, 40, 48]) []) (cond (Nat.beq k 159) ([934, 932, 933, 48]) []))) (cond (Nat.blt k 161) (cond (Nat.beq k 160) ([942, 940, 941, 48]) []) (cond (Nat.blt k 162) (cond (Nat.beq k 161) ([946, 944, 945, 48]) []) (cond (Nat.beq k 162) ([951, 949, 950, 48]) []))))))))
/-- what the words say of a method -/
def okM (k : Nat) : Bool := inP (at4 (mPs k) 0) (.code (yM k) (byM k) (mxM k) (rtM k)) && (if stM k then inP (at4 (mPs k) 1) (.static (yM k)) else inP (at4 (mPs k) 1) (.instanceMethod (yM k)) && (inM k || inP (at4 (mPs k) 2) (.selects (RN (clM k)) (yM k) (yM k)))) && inP (at4 (mPs k) 3) (.initialized (RN (clM k))) && decide ((yM k).cls = RN (clM k)) && plainName (yM k).cls &&
  decide ((yM k).cls ≠ "java/lang/invoke/MethodHandle" ∧ (yM k).cls ≠ "java/lang/invoke/VarHandle") && decide ((parseMethodDescriptor (yM k).desc).map (fun d => d.parameters.length) = some (naM k - (if stM k then 0 else 1))) && (!(inM k) || decide ((yM k).name = "<init>" ∧ rtM k = none)) && decide (naM k ≤ mxM k) && decide (1 ≤ naM k ∨ stM k = true) && decide (clM k < 7) && decide (8 + (mxM k + 11) ≤ 40)
/-- all that the tables owe -/
def Tbs : Prop := (fldT = fldL.map (fun e => e.take 4)) ∧ (fldL.all okF = true) ∧ (statT = statL.map (fun e => e.take 3)) ∧ (statL.all okS = true) ∧ (newT = newL.map (fun e => e.take 3)) ∧ (newL.all okN = true) ∧ (anewT = anewL.map (fun e => e.take 3)) ∧ (anewL.all okA = true) ∧ (ldcT = ldcL.map (fun e => e.take 3)) ∧ (ldcL.all okL = true) ∧ (methT = methL.map (fun e => e.take 3)) ∧ (methL.all okC = true) ∧ (natT = natL.map (fun e => e.take 3)) ∧ (natL.all okT = true) ∧ ((List.range 7).all okU = true) ∧ (inP 58 (.code objectInit ⟨#[0xb1]⟩ 1 none) = true) ∧ (inP 57 (.instanceMethod objectInit) = true) ∧ (inP 283 (.native arraycopyName) = true) ∧ (inP 282 (.static arraycopyName) = true) ∧ (inP 49 (.initialized "java/lang/System") = true) ∧ (inP 50 (.initialized "java/lang/Math") = true) ∧ (inP 298 (.code Lib.Math.abs.name Lib.Math.abs.code 1 (some .int)) = true) ∧ (inP 297 (.static Lib.Math.abs.name) = true) ∧ (inP 403 (.code Lib.Math.min.name Lib.Math.min.code 2 (some .int)) = true) ∧ (inP 402 (.static Lib.Math.min.name) = true) ∧ (inP 301 (.code Lib.Math.max.name Lib.Math.max.code 2 (some .int)) = true) ∧ (inP 300 (.static Lib.Math.max.name) = true) ∧ (inP 137 (.arrayClass .int) = true) ∧ (inP 152 (.arrayClass .boolean) = true) ∧ (lw_tbl[153]? = some (Jvm.Cond.arrayOver (.object RX4))) ∧ (lw_tbl[138]? = some (Jvm.Cond.arrayOver (.object RX3))) ∧ (lw_tbl[71]? = some (Jvm.Cond.fieldLinkNest RX3 40 RX5 "SOUND_FIRST" "[I" RX5)) ∧ (lw_tbl[73]? = some (Jvm.Cond.fieldLinkNest RX3 43 RX5 "NUMBER_FIRST" "[I" RX5)) ∧ (∀ k, k < 163 → okM k = true)
theorem t_okF_map (h : Tbs) : fldT = fldL.map (fun e => e.take 4) := h.1
theorem t_okF_all (h : Tbs) : fldL.all okF = true := h.2.1
theorem t_okS_map (h : Tbs) : statT = statL.map (fun e => e.take 3) := h.2.2.1
theorem t_okS_all (h : Tbs) : statL.all okS = true := h.2.2.2.1
theorem t_okN_map (h : Tbs) : newT = newL.map (fun e => e.take 3) := h.2.2.2.2.1
theorem t_okN_all (h : Tbs) : newL.all okN = true := h.2.2.2.2.2.1
theorem t_okA_map (h : Tbs) : anewT = anewL.map (fun e => e.take 3) := h.2.2.2.2.2.2.1
theorem t_okA_all (h : Tbs) : anewL.all okA = true := h.2.2.2.2.2.2.2.1
theorem t_okL_map (h : Tbs) : ldcT = ldcL.map (fun e => e.take 3) := h.2.2.2.2.2.2.2.2.1
theorem t_okL_all (h : Tbs) : ldcL.all okL = true := h.2.2.2.2.2.2.2.2.2.1
theorem t_okC_map (h : Tbs) : methT = methL.map (fun e => e.take 3) := h.2.2.2.2.2.2.2.2.2.2.1
theorem t_okC_all (h : Tbs) : methL.all okC = true := h.2.2.2.2.2.2.2.2.2.2.2.1
theorem t_okT_map (h : Tbs) : natT = natL.map (fun e => e.take 3) := h.2.2.2.2.2.2.2.2.2.2.2.2.1
theorem t_okT_all (h : Tbs) : natL.all okT = true := h.2.2.2.2.2.2.2.2.2.2.2.2.2.1
theorem t_okU_all (h : Tbs) : (List.range 7).all okU = true := h.2.2.2.2.2.2.2.2.2.2.2.2.2.2.1
theorem t_wd_obj (h : Tbs) : inP 58 (.code objectInit ⟨#[0xb1]⟩ 1 none) = true := h.2.2.2.2.2.2.2.2.2.2.2.2.2.2.2.1
theorem t_wd_obi (h : Tbs) : inP 57 (.instanceMethod objectInit) = true := h.2.2.2.2.2.2.2.2.2.2.2.2.2.2.2.2.1
theorem t_wd_acn (h : Tbs) : inP 283 (.native arraycopyName) = true := h.2.2.2.2.2.2.2.2.2.2.2.2.2.2.2.2.2.1
theorem t_wd_acs (h : Tbs) : inP 282 (.static arraycopyName) = true := h.2.2.2.2.2.2.2.2.2.2.2.2.2.2.2.2.2.2.1
theorem t_wd_sys (h : Tbs) : inP 49 (.initialized "java/lang/System") = true := h.2.2.2.2.2.2.2.2.2.2.2.2.2.2.2.2.2.2.2.1
theorem t_wd_mat (h : Tbs) : inP 50 (.initialized "java/lang/Math") = true := h.2.2.2.2.2.2.2.2.2.2.2.2.2.2.2.2.2.2.2.2.1
theorem t_wd_cabs (h : Tbs) : inP 298 (.code Lib.Math.abs.name Lib.Math.abs.code 1 (some .int)) = true := h.2.2.2.2.2.2.2.2.2.2.2.2.2.2.2.2.2.2.2.2.2.1
theorem t_wd_sabs (h : Tbs) : inP 297 (.static Lib.Math.abs.name) = true := h.2.2.2.2.2.2.2.2.2.2.2.2.2.2.2.2.2.2.2.2.2.2.1
theorem t_wd_cmin (h : Tbs) : inP 403 (.code Lib.Math.min.name Lib.Math.min.code 2 (some .int)) = true := h.2.2.2.2.2.2.2.2.2.2.2.2.2.2.2.2.2.2.2.2.2.2.2.1
theorem t_wd_smin (h : Tbs) : inP 402 (.static Lib.Math.min.name) = true := h.2.2.2.2.2.2.2.2.2.2.2.2.2.2.2.2.2.2.2.2.2.2.2.2.1
theorem t_wd_cmax (h : Tbs) : inP 301 (.code Lib.Math.max.name Lib.Math.max.code 2 (some .int)) = true := h.2.2.2.2.2.2.2.2.2.2.2.2.2.2.2.2.2.2.2.2.2.2.2.2.2.1
theorem t_wd_smax (h : Tbs) : inP 300 (.static Lib.Math.max.name) = true := h.2.2.2.2.2.2.2.2.2.2.2.2.2.2.2.2.2.2.2.2.2.2.2.2.2.2.1
theorem t_wd_ari (h : Tbs) : inP 137 (.arrayClass .int) = true := h.2.2.2.2.2.2.2.2.2.2.2.2.2.2.2.2.2.2.2.2.2.2.2.2.2.2.2.1
theorem t_wd_arz (h : Tbs) : inP 152 (.arrayClass .boolean) = true := h.2.2.2.2.2.2.2.2.2.2.2.2.2.2.2.2.2.2.2.2.2.2.2.2.2.2.2.2.1
theorem t_wd_ao4 (h : Tbs) : lw_tbl[153]? = some (Jvm.Cond.arrayOver (.object RX4)) := h.2.2.2.2.2.2.2.2.2.2.2.2.2.2.2.2.2.2.2.2.2.2.2.2.2.2.2.2.2.1
theorem t_wd_ao3 (h : Tbs) : lw_tbl[138]? = some (Jvm.Cond.arrayOver (.object RX3)) := h.2.2.2.2.2.2.2.2.2.2.2.2.2.2.2.2.2.2.2.2.2.2.2.2.2.2.2.2.2.2.1
theorem t_wd_n40 (h : Tbs) : lw_tbl[71]? = some (Jvm.Cond.fieldLinkNest RX3 40 RX5 "SOUND_FIRST" "[I" RX5) := h.2.2.2.2.2.2.2.2.2.2.2.2.2.2.2.2.2.2.2.2.2.2.2.2.2.2.2.2.2.2.2.1
theorem t_wd_n43 (h : Tbs) : lw_tbl[73]? = some (Jvm.Cond.fieldLinkNest RX3 43 RX5 "NUMBER_FIRST" "[I" RX5) := h.2.2.2.2.2.2.2.2.2.2.2.2.2.2.2.2.2.2.2.2.2.2.2.2.2.2.2.2.2.2.2.2.1
theorem t_okM (h : Tbs) : ∀ k, k < 163 → okM k = true := h.2.2.2.2.2.2.2.2.2.2.2.2.2.2.2.2.2.2.2.2.2.2.2.2.2.2.2.2.2.2.2.2.2
end
section
/-! WHAT THE ABSTRACT MACHINE'S STATES ARE IN THE MACHINE -/
def con : AV → Value
  | .inl z => .int (Int32.ofInt z)
  | .inr none => .null
  | .inr (some a) => .ref a
theorem con_cat (v : AV) : (con v).category = 1 := by
  rcases v with z | _ | a <;> rfl
theorem con_sum (l : List AV) : ((l.map con).map fun v => v.category).sum = l.length := by
  induction l with
  | nil => rfl
  | cons a l ih => simp only [List.map_cons, List.sum_cons, con_cat, ih, List.length_cons]; omega
-- numbers
theorem z_toInt {z : Int} (h : rng z) : (Int32.ofInt z).toInt = z := Int32.toInt_ofInt_of_le (by have := h.1; omega) (by have := h.2; omega)
theorem z_nat {z : Int} (h0 : 0 ≤ z) (h1 : z < 65536) : (Int32.ofInt z).toNatClampNeg = z.toNat := by
  show (Int32.ofInt z).toInt.toNat = z.toNat
  rw [z_toInt ⟨by omega, by omega⟩]
theorem z_lt {a b : Int} (ha : rng a) (hb : rng b) : Int32.ofInt a < Int32.ofInt b ↔ a < b := by rw [Int32.lt_iff_toInt_lt, z_toInt ha, z_toInt hb]
theorem z_le {a b : Int} (ha : rng a) (hb : rng b) : Int32.ofInt a ≤ Int32.ofInt b ↔ a ≤ b := by rw [Int32.le_iff_toInt_le, z_toInt ha, z_toInt hb]
theorem z_eq {a b : Int} (ha : rng a) (hb : rng b) : Int32.ofInt a = Int32.ofInt b ↔ a = b := by rw [← Int32.toInt_inj, z_toInt ha, z_toInt hb]
theorem r0 : rng 0 := by decide
theorem z_0 : Int32.ofInt 0 = 0 := rfl
theorem z_in {i : Int} {N : Nat} (h0 : 0 ≤ i) (h1 : i < N) (h2 : i < 65536) : vp_in (Int32.ofInt i) N := by
  rintro (h | h)
  · rw [← z_0, z_lt ⟨by omega, by omega⟩ r0] at h
    omega
  · rw [z_nat h0 h2] at h
    omega
theorem z_nn {i : Int} (h0 : 0 ≤ i) (h2 : i < 65536) : ¬ Int32.ofInt i < 0 := by
  rw [← z_0, z_lt ⟨by omega, by omega⟩ r0]
  omega
theorem z_and (a : Int) : Int32.ofInt a &&& Int32.ofInt 63 = Int32.ofInt (a % 64) := by
  apply Int32.toBitVec_inj.mp
  rw [Int32.toBitVec_and, Int32.toBitVec_ofInt, Int32.toBitVec_ofInt, Int32.toBitVec_ofInt]
  apply BitVec.eq_of_toNat_eq
  rw [BitVec.toNat_and, BitVec.toNat_ofInt, BitVec.toNat_ofInt, BitVec.toNat_ofInt]
  have h63 : ((63 : Int) % ((2 ^ 32 : Nat) : Int)).toNat = 2 ^ 6 - 1 := by decide
  rw [h63, Nat.and_two_pow_sub_one_eq_mod]
  omega
theorem z_div {a b : Int} (ha : rng a) (hb : rng b) (h0 : 0 < b) : Int32.ofInt a / Int32.ofInt b = Int32.ofInt (a.tdiv b) := by
  have hr : rng (a.tdiv b) := by
    have h1 := Int.natAbs_tdiv_le_natAbs a b
    refine ⟨?_, ?_⟩
    · rcases Int.le_total 0 a with h | h
      · have := Int.tdiv_nonneg h (Int.le_of_lt h0); omega
      · have := ha.1; omega
    · have h2 := ha.2
      rcases Int.le_total 0 a with h | h
      · omega
      · have h3 : a.tdiv b ≤ 0 := by
          have := Int.tdiv_nonneg (a := -a) (b := b) (by omega) (Int.le_of_lt h0)
          rw [Int.neg_tdiv] at this
          omega
        omega
  apply Int32.toInt_inj.mp
  rw [Int32.toInt_div, z_toInt ha, z_toInt hb, z_toInt hr]
  have e := z_toInt hr
  rw [Int32.toInt_ofInt] at e
  exact e
theorem z_rem {a b : Int} (ha : rng a) (h00 : 0 ≤ a) (hb : rng b) (h0 : 0 < b) : Int32.ofInt a - Int32.ofInt a / Int32.ofInt b * Int32.ofInt b = Int32.ofInt (a % b) := by
  have h1 := Int.emod_nonneg a (by omega : b ≠ 0)
  have h2 := Int.emod_lt_of_pos a h0
  apply Int32.toInt_inj.mp
  rw [rem_toInt, z_toInt ha, z_toInt hb, z_toInt ⟨by omega, by have := hb.2; omega⟩, Int.tmod_eq_emod_of_nonneg h00]
theorem z_ne {b : Int} (hb : rng b) (h0 : 0 < b) : ¬ Int32.ofInt b = 0 := by
  rw [← z_0, z_eq hb r0]
  omega
theorem z_i8 : ∀ v : Int, -128 ≤ v → v < 128 → (Int8.ofInt v).toInt32 = Int32.ofInt v := by
  intro v h1 h2
  apply Int32.toInt_inj.mp
  rw [Int8.toInt_toInt32, Int8.toInt_ofInt_of_le (by omega) (by omega), z_toInt ⟨by omega, by omega⟩]
theorem z_i16 : ∀ v : Int, -32768 ≤ v → v < 32768 → (Int16.ofInt v).toInt32 = Int32.ofInt v := by
  intro v h1 h2
  apply Int32.toInt_inj.mp
  rw [Int16.toInt_toInt32, Int16.toInt_ofInt_of_le (by omega) (by omega), z_toInt ⟨by omega, by omega⟩]
theorem z_min {a b : Int} (ha : rng a) (hb : rng b) : (if Int32.ofInt b < Int32.ofInt a then Int32.ofInt b else Int32.ofInt a) = Int32.ofInt (min a b) := by
  by_cases h : b < a
  · rw [if_pos ((z_lt hb ha).mpr h), Int.min_eq_right (by omega)]
  · rw [if_neg (fun q => h ((z_lt hb ha).mp q)), Int.min_eq_left (by omega)]
theorem z_max {a b : Int} (ha : rng a) (hb : rng b) : (if Int32.ofInt a < Int32.ofInt b then Int32.ofInt b else Int32.ofInt a) = Int32.ofInt (max a b) := by
  by_cases h : a < b
  · rw [if_pos ((z_lt ha hb).mpr h), Int.max_eq_right (by omega)]
  · rw [if_neg (fun q => h ((z_lt ha hb).mp q)), Int.max_eq_left (by omega)]
theorem z_abs {a : Int} (ha : rng a) : (if 0 ≤ Int32.ofInt a then Int32.ofInt a else 0 - Int32.ofInt a) = Int32.ofInt (a.natAbs : Int) := by
  by_cases h : 0 ≤ a
  · rw [← z_0, if_pos ((z_le r0 ha).mpr h), Int.natAbs_of_nonneg h]
  · rw [← z_0, if_neg (fun q => h ((z_le r0 ha).mp q)), ← Int32.ofInt_sub]
    congr 1
    omega
-- locals
def locR (lsA : Array Slot) (nL : Nat) (ls : LsT) : Prop := lsA.size = nL ∧ lv_wf lsA ∧ ∀ i v, lget ls i = some v → lsA[i]? = some (.val (con v))
theorem lget_lt : ∀ (ls : LsT) (i : Nat) (v : AV), lget ls i = some v → i < ls.length
  | [], _, _, h => by cases h
  | _ :: _, 0, _, _ => Nat.succ_pos _
  | _ :: t, i + 1, v, h => Nat.succ_lt_succ (lget_lt t i v h)
theorem lget_lset : ∀ (ls : LsT) (i j : Nat) (v w : AV), lget (lset ls i v) j = some w → (j = i ∧ w = v) ∨ (j ≠ i ∧ lget ls j = some w)
  | [], _, _, _, _, h => by cases h
  | _ :: _, 0, 0, v, w, h => by
    cases h
    exact Or.inl ⟨rfl, rfl⟩
  | _ :: _, 0, j + 1, v, w, h => Or.inr ⟨Nat.succ_ne_zero j, h⟩
  | _ :: _, i + 1, 0, v, w, h => Or.inr ⟨Nat.succ_ne_zero i |>.symm, h⟩
  | _ :: t, i + 1, j + 1, v, w, h => by
    rcases lget_lset t i j v w h with ⟨h1, h2⟩ | ⟨h1, h2⟩
    · exact Or.inl ⟨by rw [h1], h2⟩
    · exact Or.inr ⟨by omega, h2⟩
def lvOf (ls : LsT) : List (Nat × Value) := (List.range ls.length).filterMap (fun i => (lget ls i).map (fun v => (i, con v)))
theorem lvOf_mem {ls : LsT} {i : Nat} {v : AV} (h : lget ls i = some v) : (i, con v) ∈ lvOf ls :=
  List.mem_filterMap.mpr ⟨i, List.mem_range.mpr (lget_lt _ _ _ h), by rw [h]; rfl⟩
theorem locR.has {lsA : Array Slot} {nL : Nat} {ls : LsT} (h : locR lsA nL ls) : lv_has lsA nL (lvOf ls) := by
  refine ⟨h.1, h.2.1, fun q hq => ?_⟩
  obtain ⟨i, -, hi⟩ := List.mem_filterMap.mp hq
  cases hg : lget ls i with
  | none => rw [hg] at hi; cases hi
  | some v =>
    rw [hg] at hi
    cases hi
    exact h.2.2 i v hg
theorem locR.set {lsA : Array Slot} {nL : Nat} {ls : LsT} {i : Nat} {v : AV} (h : lv_has lsA nL ((i, con v) :: (lvOf ls).filter (fun q => !(q.1 == i) && !(q.1 + 1 == i && q.2.category == 2)))) : locR lsA nL (lset ls i v) := by
  refine ⟨h.1, h.2.1, fun j w hj => ?_⟩
  rcases lget_lset ls i j v w hj with ⟨rfl, rfl⟩ | ⟨h1, h2⟩
  · exact h.2.2 (j, con w) List.mem_cons_self
  · refine h.2.2 (j, con w) (List.mem_cons_of_mem _ (List.mem_filter.mpr ⟨lvOf_mem h2, ?_⟩))
    simp [h1, con_cat]
-- the heap
def fval (σ : Sto) (ci a k : Nat) : AV := if fI ci k = true then .inl (σ.1 a k) else .inr (σ.2.1 a k)
def celR (D : va_G) (cA : Nat → ClassId) (b0 : Nat) (s : State) (σ : Sto) (H : Heap) (a kd N : Nat) : Prop :=
  (kd = 0 ∨ kd = 1 → H[a]? = some (arrV (cA kd) N (fun j => .int (Int32.ofInt (σ.1 a j)))) ∧ b0 ≤ a) ∧
  (kd = 2 ∨ kd = 3 → H[a]? = some (arrV (cA kd) N (fun j => con (.inr (σ.2.1 a j)))) ∧ b0 ≤ a) ∧
  (kd = 4 → va_T .int a N (fun j => .int (Int32.ofInt (σ.1 a j))) (fun q => b0 ≤ q) s H) ∧
  (4 < kd → ∃ ci, kd = 10 + ci ∧ ci < 7 ∧ t_OB a (D.1 ci) (NF ci) (D.2 ci) H (fun k => con (fval σ ci a k)) ∧ b0 ≤ a)
def Rep (D : va_G) (cA : Nat → ClassId) (b0 : Nat) (zt : Nat → Nat) (s : State) (σ : Sto) (H : Heap) : Prop :=
  H.size = topS σ ∧ b0 ≤ H.size ∧ (∀ a kd N, shp σ a = some (kd, N) → celR D cA b0 s σ H a kd N) ∧ ∀ j, j < 5 → va_Z RX5 (sN j) "[I" (.ref (zt j)) (fun q => b0 ≤ q) s H
def tyL (cA : Nat → ClassId) : List (ClassId × FieldType) := [(cA 0, .int), (cA 1, .boolean), (cA 2, .object RX4), (cA 3, .object RX3)]
def Kx (D : va_G) (cA : Nat → ClassId) (s : State) : Prop := va_K D clN (tyL cA) s ∧ va_Nw (.fieldLinkNest RX3 40 RX5 "SOUND_FIRST" "[I" RX5) s ∧ va_Nw (.fieldLinkNest RX3 43 RX5 "NUMBER_FIRST" "[I" RX5) s ∧ va_AO RX4 s ∧ va_AO RX3 s
theorem Kx.warm {D : va_G} {cA : Nat → ClassId} {s U : State} (h : Kx D cA s) (hW : s.WarmedH U.vm) : Kx D cA U := ⟨va_K.moved hW.alike h.1, va_Nw.warmF hW h.2.1, va_Nw.warmF hW h.2.2.1, va_AO.moved hW.alike h.2.2.2.1, va_AO.moved hW.alike h.2.2.2.2⟩
theorem Rep.moved {D : va_G} {cA : Nat → ClassId} {b0 : Nat} {zt : Nat → Nat} {s U : State} {σ : Sto} {H : Heap} (hvm : s.vm.Alike U.vm) (h : Rep D cA b0 zt s σ H) : Rep D cA b0 zt U σ H :=
  ⟨h.1, h.2.1, fun a kd N hs => ⟨(h.2.2.1 a kd N hs).1, (h.2.2.1 a kd N hs).2.1, fun q => va_T.moved hvm ((h.2.2.1 a kd N hs).2.2.1 q), (h.2.2.1 a kd N hs).2.2.2⟩, fun j hj => va_Z.moved hvm (h.2.2.2 j hj)⟩
/-- a cell of ours changes: the others stay -/
theorem celR.kept {D : va_G} {cA : Nat → ClassId} {b0 : Nat} {s : State} {σ σ' : Sto} {H H1 : Heap} {a kd N : Nat} (h : celR D cA b0 s σ H a kd N) (hq : H1[a]? = H[a]?) (h1 : ∀ j, σ'.1 a j = σ.1 a j) (h2 : ∀ j, σ'.2.1 a j = σ.2.1 a j) : celR D cA b0 s σ' H1 a kd N := by
  obtain ⟨c1, c2, c3, c4⟩ := h
  refine ⟨fun q => ?_, fun q => ?_, fun q => ?_, fun q => ?_⟩
  · simp only [h1, hq]; exact c1 q
  · simp only [h2, hq]; exact c2 q
  · obtain ⟨cell, d1, d2⟩ := c3 q
    simp only [h1]
    exact ⟨cell, by rw [hq]; exact d1, d2⟩
  · obtain ⟨ci, d1, d2, d3, d4⟩ := c4 q
    refine ⟨ci, d1, d2, ?_, d4⟩
    simp only [fval, h1, h2]
    exact d3.kept hq
theorem Rep.put {D : va_G} {cA : Nat → ClassId} {b0 : Nat} {zt : Nat → Nat} {s : State} {σ σ' : Sto} {H H1 : Heap} {a : Nat} (h : Rep D cA b0 zt s σ H) (ht : σ'.2.2 = σ.2.2) (hz : H1.size = H.size) (hq : ∀ q : Nat, q ≠ a → H1[q]? = H[q]?) (ha : b0 ≤ a)
    (h1 : ∀ x, x ≠ a → ∀ j, σ'.1 x j = σ.1 x j) (h2 : ∀ x, x ≠ a → ∀ j, σ'.2.1 x j = σ.2.1 x j) (hc : ∀ kd N, shp σ a = some (kd, N) → celR D cA b0 s σ' H1 a kd N) : Rep D cA b0 zt s σ' H1 := by
  have hs : ∀ x, shp σ' x = shp σ x := fun x => by show σ'.2.2.1 x = σ.2.2.1 x; rw [ht]
  refine ⟨by rw [hz, h.1]; show σ.2.2.2.1 = σ'.2.2.2.1; rw [ht], by rw [hz]; exact h.2.1, fun x kd N hx => ?_, fun j hj => va_Z.kept (h.2.2.2 j hj) (fun q _ hn => hq q (fun e => hn (by rw [e]; exact ha)))⟩
  rw [hs] at hx
  by_cases hxa : x = a
  · subst hxa; exact hc kd N hx
  · exact (h.2.2.1 x kd N hx).kept (hq x hxa) (h1 x hxa) (h2 x hxa)
theorem celR.lt {D : va_G} {cA : Nat → ClassId} {b0 : Nat} {s : State} {σ : Sto} {H : Heap} {a kd N : Nat} (h : celR D cA b0 s σ H a kd N) : a < H.size := by
  obtain ⟨c1, c2, c3, c4⟩ := h
  rcases (show (kd = 0 ∨ kd = 1) ∨ (kd = 2 ∨ kd = 3) ∨ kd = 4 ∨ 4 < kd by omega) with q | q | q | q
  · exact (Array.getElem?_eq_some_iff.mp (c1 q).1).1
  · exact (Array.getElem?_eq_some_iff.mp (c2 q).1).1
  · obtain ⟨cell, d1, -⟩ := c3 q
    exact (Array.getElem?_eq_some_iff.mp d1).1
  · obtain ⟨ci, -, -, ⟨cell, d1, -⟩, -⟩ := c4 q
    exact (Array.getElem?_eq_some_iff.mp d1).1
theorem Rep.new {D : va_G} {cA : Nat → ClassId} {b0 : Nat} {zt : Nat → Nat} {s : State} {σ : Sto} {H H1 : Heap} {kd N : Nat} (h : Rep D cA b0 zt s σ H) (hz : H1.size = H.size + 1) (hq : ∀ q : Nat, q < H.size → H1[q]? = H[q]?) (hc : celR D cA b0 s (mkS σ kd N) H1 (topS σ) kd N) : Rep D cA b0 zt s (mkS σ kd N) H1 := by
  refine ⟨by rw [hz, h.1]; rfl, by rw [hz]; have := h.2.1; omega, fun x k n hx => ?_, fun j hj => va_Z.kept (h.2.2.2 j hj) (fun q hl _ => hq q hl)⟩
  by_cases hxa : x = topS σ
  · subst hxa
    have e : shp (mkS σ kd N) (topS σ) = some (kd, N) := if_pos rfl
    rw [e] at hx
    cases hx
    exact hc
  · have e : shp (mkS σ kd N) x = shp σ x := if_neg hxa
    rw [e] at hx
    have hh := h.2.2.1 x k n hx
    exact hh.kept (hq x hh.lt) (fun j => if_neg hxa) (fun j => if_neg hxa)
end
section
/-! EACH STEP OF THE ABSTRACT MACHINE IS ONE OF THE MACHINE (simple instructions) -/
def Cx (D : va_G) (cA : Nat → ClassId) (p : Program) (s : State) (args : Array Value) (m : MethodId) (meth : Method) (c : Code) (k : Nat) : Prop :=
  p.tables.exec = Jvm.exec ∧ c.code = byM k ∧ c.maxLocals = mxM k ∧ s.vm.findClass (RN (clM k)) = some m.cls ∧ (∀ w ∈ bigW, w.before args s = true) ∧ (inM k = true → meth.name = "<init>") ∧ Kx D cA s ∧ Tbs
def Knt (p : Program) (l : Launch) (e : Env) (R : Room) (s : State) (m : MethodId) (args : Array Value) (below : List Frame) (meth : Method) (c : Code) (Q : State → Prop) (D : va_G) (cA : Nat → ClassId) (b0 : Nat) (zt : Nat → Nat) (k pc cells slots : Nat) (σ : Sto) (ls' : LsT) (st' : List AV) (σ' : Sto) : Prop :=
  ∀ (H' : Heap) (locs' : List Loc) (lsA' : Array Slot) (cells' slots' : Nat), locR lsA' (mxM k) ls' → Rep D cA b0 zt s σ' H' → (∀ x ∈ locs', b0 ≤ x.base) → topS σ' + cells = topS σ + cells' → usdS σ' + slots = usdS σ + slots' → W p l e R s m args below meth c H' locs' cells' slots' Q (F0 m pc lsA' (st'.map con))
theorem lo_put {b0 a i : Nat} {locs : List Loc} (h : ∀ x ∈ locs, b0 ≤ x.base) (ha : b0 ≤ a) : ∀ x ∈ locs ++ [(⟨a, i⟩ : Loc)], b0 ≤ x.base := by
  intro x hx
  rcases List.mem_append.mp hx with q | q
  · exact h x q
  · rw [List.mem_singleton.mp q]; exact ha
theorem fld_word (hT : Tbs) {o i ci f : Nat} (h : fldT.contains [o, i, ci, f] = true) : (Jvm.Cond.fieldLink (RN o) i (TN ci f).1 (TN ci f).2.1 (TN ci f).2.2.1) ∈ bigW ∧ ci < 7 ∧ f < NF ci ∧ (tyN ci f = .int ↔ fI ci f = true) ∧ ((tyN ci f).isReference = true ↔ fI ci f = false) := by
  have h1 : [o, i, ci, f] ∈ fldT := by simpa using h
  rw [t_okF_map hT] at h1
  obtain ⟨e, he, he2⟩ := List.mem_map.mp h1
  have h2 := List.all_eq_true.mp (t_okF_all hT) e he
  unfold okF at h2
  simp only [Bool.and_eq_true, decide_eq_true_eq] at h2
  obtain ⟨⟨⟨⟨a1, a2⟩, a3⟩, a4⟩, a5⟩ := h2
  have e0 : at4 e 0 = o ∧ at4 e 1 = i ∧ at4 e 2 = ci ∧ at4 e 3 = f := by
    match e, he2 with
    | x0 :: x1 :: x2 :: x3 :: _, he2 =>
      simp only [List.take_succ_cons, List.take_zero, List.cons.injEq, and_true] at he2
      exact he2
    | [], he2 => cases he2
    | [_], he2 => cases he2
    | [_, _], he2 => cases he2
    | [_, _, _], he2 => cases he2
  obtain ⟨rfl, rfl, rfl, rfl⟩ := e0
  exact ⟨inP_mem a1, a2, a3, a4, a5⟩
theorem uw_in (hT : Tbs) {ci : Nat} (h : ci < 7) : ∀ w ∈ u_ws (RN ci) (TN ci) (NF ci), w ∈ bigW := by
  intro w hw
  obtain ⟨k, hk, rfl⟩ := List.mem_map.mp hw
  have h1 := List.all_eq_true.mp (t_okU_all hT) ci (List.mem_range.mpr h)
  unfold okU at h1
  exact inP_mem (List.all_eq_true.mp h1 k hk)
theorem cl_at {ci : Nat} (h : ci < 7) : clN[ci]? = some (RN ci, TN ci, NF ci) := by
  rcases (show ci = 0 ∨ ci = 1 ∨ ci = 2 ∨ ci = 3 ∨ ci = 4 ∨ ci = 5 ∨ ci = 6 by omega) with rfl | rfl | rfl | rfl | rfl | rfl | rfl <;> rfl
theorem ty_ok {ci : Nat} (h : ci < 7) : ∀ k, k < NF ci → parseFieldDescriptor (TN ci k).2.2.1 = some (tyN ci k) := by
  rcases (show ci = 0 ∨ ci = 1 ∨ ci = 2 ∨ ci = 3 ∨ ci = 4 ∨ ci = 5 ∨ ci = 6 by omega) with rfl | rfl | rfl | rfl | rfl | rfl | rfl
  · exact tyX0_ok
  · exact tyX1_ok
  · exact tyX2_ok
  · exact tyX3_ok
  · exact tyX4_ok
  · exact tyX5_ok
  · exact tyX6_ok
theorem nm_ok {ci : Nat} (h : ci < 7) : ∀ a, a < NF ci → ∀ b, b < NF ci → a ≠ b → (TN ci a).2.1 ≠ (TN ci b).2.1 := by
  rcases (show ci = 0 ∨ ci = 1 ∨ ci = 2 ∨ ci = 3 ∨ ci = 4 ∨ ci = 5 ∨ ci = 6 by omega) with rfl | rfl | rfl | rfl | rfl | rfl | rfl
  · exact nmX0
  · exact nmX1
  · exact nmX2
  · exact nmX3
  · exact nmX4
  · exact nmX5
  · exact nmX6
section SND
variable {p : Program} {l : Launch} {e : Env} {R : Room} {s : State} {m : MethodId} {args : Array Value} {below : List Frame} {meth : Method} {c : Code} {H : Heap} {locs : List Loc} {cells slots : Nat} {Q : State → Prop}
variable {D : va_G} {cA : Nat → ClassId} {b0 : Nat} {zt : Nat → Nat} {k pc pc' : Nat} {lsA : Array Slot} {ls ls' : LsT} {st st' : List AV} {σ σ' : Sto} {x : List Nat}
theorem s_ldI {i : Nat} (hl : locR lsA (mxM k) ls) (hR : Rep D cA b0 zt s σ H) (hlo : ∀ x ∈ locs, b0 ≤ x.base) (hef : ldI ls i st σ = some (.inl (ls', st', σ')))
    (row : ∀ z : Int, lsA[i]? = some (.val (.int (Int32.ofInt z))) → W p l e R s m args below meth c H locs cells slots Q (F0 m pc' lsA (.int (Int32.ofInt z) :: st.map con)) → W p l e R s m args below meth c H locs cells slots Q (F0 m pc lsA (st.map con)))
    (kk : Knt p l e R s m args below meth c Q D cA b0 zt k pc' cells slots σ ls' st' σ') : W p l e R s m args below meth c H locs cells slots Q (F0 m pc lsA (st.map con)) := by
  unfold ldI at hef
  split at hef
  · next z hz =>
    cases hef
    exact row z (hl.2.2 i _ hz) (kk H locs lsA cells slots hl hR hlo rfl rfl)
  · cases hef
theorem s_ldR {i : Nat} (hl : locR lsA (mxM k) ls) (hR : Rep D cA b0 zt s σ H) (hlo : ∀ x ∈ locs, b0 ≤ x.base) (hef : ldR ls i st σ = some (.inl (ls', st', σ')))
    (row : ∀ a : Nat, lsA[i]? = some (.val (.ref a)) → W p l e R s m args below meth c H locs cells slots Q (F0 m pc' lsA (.ref a :: st.map con)) → W p l e R s m args below meth c H locs cells slots Q (F0 m pc lsA (st.map con)))
    (kk : Knt p l e R s m args below meth c Q D cA b0 zt k pc' cells slots σ ls' st' σ') : W p l e R s m args below meth c H locs cells slots Q (F0 m pc lsA (st.map con)) := by
  unfold ldR at hef
  split at hef
  · next a hz =>
    cases hef
    exact row a (hl.2.2 i _ hz) (kk H locs lsA cells slots hl hR hlo rfl rfl)
  · cases hef
theorem s_stI {i : Nat} (hl : locR lsA (mxM k) ls) (hR : Rep D cA b0 zt s σ H) (hlo : ∀ x ∈ locs, b0 ≤ x.base) (hef : stI ls i st σ = some (.inl (ls', st', σ')))
    (row : ∀ (z : Int) (rest : List Value), lv_has lsA (mxM k) (lvOf ls) → (∀ lsB : Array Slot, lv_has lsB (mxM k) ((i, con (.inl z)) :: (lvOf ls).filter (fun q => !(q.1 == i) && !(q.1 + 1 == i && q.2.category == 2))) → W p l e R s m args below meth c H locs cells slots Q (F0 m pc' lsB rest)) → W p l e R s m args below meth c H locs cells slots Q (F0 m pc lsA (.int (Int32.ofInt z) :: rest)))
    (kk : Knt p l e R s m args below meth c Q D cA b0 zt k pc' cells slots σ ls' st' σ') : W p l e R s m args below meth c H locs cells slots Q (F0 m pc lsA (st.map con)) := by
  unfold stI at hef
  split at hef
  · next z st2 =>
    cases hef
    exact row z _ hl.has (fun lsB hB => kk H locs lsB cells slots (locR.set hB) hR hlo rfl rfl)
  · cases hef
theorem s_stR {i : Nat} (hl : locR lsA (mxM k) ls) (hR : Rep D cA b0 zt s σ H) (hlo : ∀ x ∈ locs, b0 ≤ x.base) (hef : stR ls i st σ = some (.inl (ls', st', σ')))
    (row : ∀ (a : Nat) (rest : List Value), lv_has lsA (mxM k) (lvOf ls) → (∀ lsB : Array Slot, lv_has lsB (mxM k) ((i, con (.inr (some a))) :: (lvOf ls).filter (fun q => !(q.1 == i) && !(q.1 + 1 == i && q.2.category == 2))) → W p l e R s m args below meth c H locs cells slots Q (F0 m pc' lsB rest)) → W p l e R s m args below meth c H locs cells slots Q (F0 m pc lsA (.ref a :: rest)))
    (kk : Knt p l e R s m args below meth c Q D cA b0 zt k pc' cells slots σ ls' st' σ') : W p l e R s m args below meth c H locs cells slots Q (F0 m pc lsA (st.map con)) := by
  unfold stR at hef
  split at hef
  · next a st2 =>
    cases hef
    exact row a _ hl.has (fun lsB hB => kk H locs lsB cells slots (locR.set hB) hR hlo rfl rfl)
  · cases hef
theorem s_bin {f : Int → Int → Option Int} (hl : locR lsA (mxM k) ls) (hR : Rep D cA b0 zt s σ H) (hlo : ∀ x ∈ locs, b0 ≤ x.base) (hef : bin f ls st σ = some (.inl (ls', st', σ')))
    (row : ∀ (a b z : Int) (rest : List AV), st = .inl b :: .inl a :: rest → f a b = some z → W p l e R s m args below meth c H locs cells slots Q (F0 m pc' lsA (.int (Int32.ofInt z) :: rest.map con)) → W p l e R s m args below meth c H locs cells slots Q (F0 m pc lsA (.int (Int32.ofInt b) :: .int (Int32.ofInt a) :: rest.map con)))
    (kk : Knt p l e R s m args below meth c Q D cA b0 zt k pc' cells slots σ ls' st' σ') : W p l e R s m args below meth c H locs cells slots Q (F0 m pc lsA (st.map con)) := by
  unfold bin at hef
  split at hef
  · next b a st2 =>
    split at hef
    · next z hz =>
      cases hef
      exact row a b z st2 rfl hz (kk H locs lsA cells slots hl hR hlo rfl rfl)
    · cases hef
  · cases hef
/-- an int array's element is read -/
theorem s_ald {ok : Nat → Bool} (hl : locR lsA (mxM k) ls) (hR : Rep D cA b0 zt s σ H) (hlo : ∀ x ∈ locs, b0 ≤ x.base) (hef : aldI ok ls st σ = some (.inl (ls', st', σ')))
    (row : ∀ (a : Nat) (i : Int) (kd N : Nat) (rest : List Value), ok kd = true → 0 ≤ i → i < N → i < 65536 → celR D cA b0 s σ H a kd N → W p l e R s m args below meth c H locs cells slots Q (F0 m pc' lsA (.int (Int32.ofInt (σ.1 a i.toNat)) :: rest)) → W p l e R s m args below meth c H locs cells slots Q (F0 m pc lsA (.int (Int32.ofInt i) :: .ref a :: rest)))
    (kk : Knt p l e R s m args below meth c Q D cA b0 zt k pc' cells slots σ ls' st' σ') : W p l e R s m args below meth c H locs cells slots Q (F0 m pc lsA (st.map con)) := by
  unfold aldI at hef
  split at hef
  · next i a st2 =>
    split at hef
    · next kd N hs =>
      split at hef
      · next hh =>
        cases hef
        exact row a i kd N _ hh.1 hh.2.1 hh.2.2.1 hh.2.2.2 (hR.2.2.1 a kd N hs) (kk H locs lsA cells slots hl hR hlo rfl rfl)
      · cases hef
    · cases hef
  · cases hef
/-- what stands in a field -/
theorem c_get (C : Cx D cA p s args m meth c k) {i ci f a kd N : Nat} (hc : celR D cA b0 s σ H a kd N) (hkd : kd = 10 + ci) (hf : fldT.contains [clM k, i, ci, f] = true) (hd : decode (byM k) pc = .ok (.getfield i, 3)) {rest : List Value}
    (kk : W p l e R s m args below meth c H locs cells slots Q (F0 m (pc + 3) lsA (con (fval σ ci a f) :: rest))) : W p l e R s m args below meth c H locs cells slots Q (F0 m pc lsA (.ref a :: rest)) := by
  obtain ⟨hx, hb, hml, hown, hts, hin, hK, hT⟩ := C
  obtain ⟨fw, hci, hfn, -, -⟩ := fld_word hT hf
  obtain ⟨ci', e1, -, ⟨cell, q1, q2, q3, q4⟩, -⟩ := hc.2.2.2 (by omega)
  have e2 : ci' = ci := by omega
  subst e2
  obtain ⟨hS, hfc, kC, hkC, hkind⟩ := hK.1.1 ci' _ (cl_at hci)
  obtain ⟨cf, kf, fi, fd, hi, hsl⟩ := hS f hfn
  refine W.getf hx hb hown (hts _ fw) hi (u_facts hfc hkC (u_lays hts (uw_in hT hci) hfn) hi).1 q1 (by rw [q3]; exact fun h => by cases h) ?_ rfl rfl hd kk
  rw [hsl]
  exact q4 f hfn
/-- a value is put into a field -/
theorem c_put (C : Cx D cA p s args m meth c k) {i ci f a kd N : Nat} {v : AV} (hR : Rep D cA b0 zt s σ H) (hs : shp σ a = some (kd, N)) (hkd : kd = 10 + ci) (hf : fldT.contains [clM k, i, ci, f] = true) (hfin : (!(TN ci f).2.2.2 || (inM k && decide ((TN ci f).1 = RN (clM k)))) = true) (hd : decode (byM k) pc = .ok (.putfield i, 3)) {rest : List Value}
    (hv : (∃ z, v = .inl z ∧ fI ci f = true) ∨ ∃ b, v = .inr (some b) ∧ fI ci f = false) (hσ : σ'.2.2 = σ.2.2) (h1 : ∀ x, x ≠ a → ∀ j, σ'.1 x j = σ.1 x j) (h2 : ∀ x, x ≠ a → ∀ j, σ'.2.1 x j = σ.2.1 x j) (hval : ∀ j, fval σ' ci a j = if j = f then v else fval σ ci a j) (hlo : ∀ x ∈ locs, b0 ≤ x.base)
    (kk : ∀ (H1 : Heap) (locs1 : List Loc), Rep D cA b0 zt s σ' H1 → (∀ x ∈ locs1, b0 ≤ x.base) → W p l e R s m args below meth c H1 locs1 cells slots Q (F0 m (pc + 3) lsA rest)) : W p l e R s m args below meth c H locs cells slots Q (F0 m pc lsA (con v :: .ref a :: rest)) := by
  have hc := hR.2.2.1 a kd N hs
  obtain ⟨hx, hb, hml, hown, hts, hin, hK, hT⟩ := C
  obtain ⟨fw, hci, hfn, hti, htr⟩ := fld_word hT hf
  obtain ⟨ci', e1, -, ⟨cell, q1, q2, q3, q4⟩, hba⟩ := hc.2.2.2 (by omega)
  have e2 : ci' = ci := by omega
  subst e2
  obtain ⟨hS, hfc, kC, hkC, hkind⟩ := hK.1.1 ci' _ (cl_at hci)
  have hap : ∀ x y, x < NF ci' → y < NF ci' → x ≠ y → (D.2 ci') x ≠ (D.2 ci') y := va_apart (own := RN (clM k)) hts (uw_in hT hci) (tyN ci') (ty_ok hci) (nm_ok hci) hK.1 (cl_at hci)
  obtain ⟨cf, kf, fi, fd, hi, hsl⟩ := hS f hfn
  have hty : parseFieldDescriptor (TN ci' f).2.2.1 = some (tyN ci' f) := ty_ok hci f hfn
  have hst := (u_facts hfc hkC (u_lays hts (uw_in hT hci) hfn) hi).1
  have hn : narrow (tyN ci' f) (con v) = con v := by
    rcases hv with ⟨z, rfl, hz⟩ | ⟨b, rfl, hz⟩
    · rw [hti.mpr hz]; rfl
    · have := htr.mpr hz
      cases ht : tyN ci' f <;> rw [ht] at this <;> first | rfl | cases this
  have hfit : fits (tyN ci' f) (con v) = true := by
    rcases hv with ⟨z, rfl, hz⟩ | ⟨b, rfl, hz⟩
    · rw [hti.mpr hz]; rfl
    · have := htr.mpr hz
      cases ht : tyN ci' f <;> rw [ht] at this <;> first | rfl | cases this
  have hlay := hts _ (uw_in hT hci _ (u_in_lay hfn))
  have hrep : ∀ H1 : Heap, H1[a]? = some (cell.setSlot (D.2 ci' f) (con v)) → H1.size = H.size → (∀ q, q ≠ a → H1[q]? = H[q]?) → Rep D cA b0 zt s σ' H1 := by
    intro H1 e1' e2' e3'
    refine hR.put hσ e2' e3' hba h1 h2 (fun kd' N' hs' => ?_)
    rw [hs] at hs'
    cases hs'
    refine ⟨fun q => by omega, fun q => by omega, fun q => by omega, fun _ => ⟨ci', hkd, hci, ⟨_, e1', q2, q3, fun j hj => ?_⟩, hba⟩⟩
    rw [t_set q4 hap hfn (con v) j hj]
    show some (if j = f then con v else con (fval σ ci' a j)) = some (con (fval σ' ci' a j))
    rw [hval j]
    split <;> rfl
  unfold u_lay at hlay
  by_cases hff : (TN ci' f).2.2.2 = true
  · rw [if_pos hff] at hlay
    rw [hff] at hfin
    simp only [Bool.not_true, Bool.false_or, Bool.and_eq_true, decide_eq_true_eq] at hfin
    have hcf : m.cls = cf := by
      obtain ⟨_, _, c', _, _, _, -, -, hf', -, -, -, hown2, -⟩ := Cond.laysFinal_spec hlay
      have e1 : c' = cf := by have := hi.symm.trans hf'; simp at this; exact this.1.symm
      rw [hfin.2] at hown2
      rw [← e1]; exact Option.some.inj (hown.symm.trans hown2)
    have h6 := u_fits hfc hkC hkind (Or.inr hlay) hi hty hn hfit
    refine W.putFinK hx hb hown (hts _ fw) hi hst hcf (hin hfin.1) (by rw [q2]; exact h6) q1 q3 (by rw [hsl]; exact k2_hasslot (q4 f hfn)) rfl rfl hd fun H' e1 e2 e3 => ?_
    rw [hsl] at e1 ⊢
    exact kk H' _ (hrep H' e1 e2 e3) (lo_put hlo hba)
  · rw [if_neg hff] at hlay
    have h6 := u_store hfc hkC hkind hlay hi hty hn hfit
    refine W.putK hx hb (f := fd) ⟨hown, hts _ fw, ⟨_, _, _, hi⟩, hst⟩ (by rw [q2]; exact h6) q1 q3 (by rw [hsl]; exact k2_hasslot (q4 f hfn)) rfl rfl hd fun H' e1 e2 e3 => ?_
    rw [hsl] at e1 ⊢
    exact kk H' _ (hrep H' e1 e2 e3) (lo_put hlo hba)
end SND
end
section
/-! steps: arrays, new cells, statics, natives -/
section SNE
variable {p : Program} {l : Launch} {e : Env} {R : Room} {s : State} {m : MethodId} {args : Array Value} {below : List Frame} {meth : Method} {c : Code} {H : Heap} {locs : List Loc} {cells slots : Nat} {Q : State → Prop}
variable {D : va_G} {cA : Nat → ClassId} {b0 : Nat} {zt : Nat → Nat} {k pc pc' : Nat} {lsA : Array Slot} {ls ls' : LsT} {st st' : List AV} {σ σ' : Sto} {x : List Nat}
theorem ty_at (hK : Kx D cA s) {kd : Nat} {ty : FieldType} (h : (tyL cA)[kd]? = some (cA kd, ty)) : ArrOfT s (cA kd) ty ∧ va_RA s (cA kd) ty := hK.1.2 kd _ h
theorem wrI_ne {f : Nat → Nat → Int} {a i : Nat} {v : Int} {x : Nat} (h : x ≠ a) (j : Nat) : wrI f a i v x j = f x j := if_neg (fun q => h q.1)
theorem wrR_ne {f : Nat → Nat → Option Nat} {a i : Nat} {v : Option Nat} {x : Nat} (h : x ≠ a) (j : Nat) : wrR f a i v x j = f x j := if_neg (fun q => h q.1)
theorem c_ald (C : Cx D cA p s args m meth c k) {a kd N : Nat} {i : Int} (hc : celR D cA b0 s σ H a kd N) (hkd : kd = 0 ∨ kd = 4) (h0 : 0 ≤ i) (h1 : i < N) (h2 : i < 65536) (hd : decode (byM k) pc = .ok (.iaload, 1)) {rest : List Value}
    (kk : W p l e R s m args below meth c H locs cells slots Q (F0 m (pc + 1) lsA (.int (Int32.ofInt (σ.1 a i.toNat)) :: rest))) : W p l e R s m args below meth c H locs cells slots Q (F0 m pc lsA (.int (Int32.ofInt i) :: .ref a :: rest)) := by
  obtain ⟨hx, hb, hml, hown, hts, hin, hK, hT⟩ := C
  have hvi := z_in h0 h1 h2
  have hlt : i.toNat < N := by omega
  rcases hkd with rfl | rfl
  · have hcell := (hc.1 (Or.inl rfl)).1
    exact W.iald (v := .int (Int32.ofInt (σ.1 a i.toNat))) hx hb hcell ((ty_at hK (kd := 0) rfl).1 N _) (fun q => by cases q) (by rw [arrV_size]; exact hvi) (by rw [z_nat h0 h2, arrV_read _ _ hlt]) rfl rfl hd kk
  · obtain ⟨cell, d1, d2, d3, d4, d5, d6, d7⟩ := hc.2.2.1 rfl
    have hvi2 : vp_in (Int32.ofInt i) cell.slots.size := z_in h0 (by omega) h2
    exact W.iald (v := .int (Int32.ofInt (σ.1 a i.toNat))) hx hb d1 d2 d3 hvi2 (by rw [z_nat h0 h2]; exact d6 _ hlt) rfl rfl hd kk
theorem c_bld (C : Cx D cA p s args m meth c k) {a kd N : Nat} {i : Int} (hc : celR D cA b0 s σ H a kd N) (hkd : kd = 1) (h0 : 0 ≤ i) (h1 : i < N) (h2 : i < 65536) (hd : decode (byM k) pc = .ok (.baload, 1)) {rest : List Value}
    (kk : W p l e R s m args below meth c H locs cells slots Q (F0 m (pc + 1) lsA (.int (Int32.ofInt (σ.1 a i.toNat)) :: rest))) : W p l e R s m args below meth c H locs cells slots Q (F0 m pc lsA (.int (Int32.ofInt i) :: .ref a :: rest)) := by
  obtain ⟨hx, hb, hml, hown, hts, hin, hK, hT⟩ := C
  subst hkd
  have hcell := (hc.1 (Or.inr rfl)).1
  exact W.zald (v := .int (Int32.ofInt (σ.1 a i.toNat))) hx hb hcell ((ty_at hK (kd := 1) rfl).1 N _) (fun q => by cases q) (by rw [arrV_size]; exact z_in h0 h1 h2) (by rw [z_nat h0 h2, arrV_read _ _ (by omega)]) rfl rfl hd kk
theorem rep_wrI (hR : Rep D cA b0 zt s σ H) {H1 : Heap} {a kd N i : Nat} {v : Int} (hs : shp σ a = some (kd, N)) (hkd : kd = 0 ∨ kd = 1) (e1 : H1[a]? = some ((arrV (cA kd) N (fun j => .int (Int32.ofInt (σ.1 a j)))).setSlot i (.int (Int32.ofInt v)))) (e2 : H1.size = H.size) (e3 : ∀ q, q ≠ a → H1[q]? = H[q]?) : Rep D cA b0 zt s (wrI σ.1 a i v, σ.2) H1 := by
  have hc := hR.2.2.1 a kd N hs
  refine hR.put rfl e2 e3 (hc.1 hkd).2 (fun x hx j => wrI_ne hx j) (fun x _ j => rfl) (fun kd' N' hs' => ?_)
  rw [hs] at hs'
  cases hs'
  refine ⟨fun q => ⟨?_, (hc.1 hkd).2⟩, fun q => by omega, fun q => by omega, fun q => by omega⟩
  rw [e1, arrV_store]
  congr 2
  funext j
  show (if j = i then _ else _) = Value.int (Int32.ofInt (if a = a ∧ j = i then v else σ.1 a j))
  by_cases hj : j = i
  · rw [if_pos hj, if_pos ⟨rfl, hj⟩]
  · rw [if_neg hj, if_neg (fun q => hj q.2)]
theorem c_ast (C : Cx D cA p s args m meth c k) {a N : Nat} {i v : Int} (hR : Rep D cA b0 zt s σ H) (hs : shp σ a = some (0, N)) (h0 : 0 ≤ i) (h1 : i < N) (h2 : i < 65536) (hd : decode (byM k) pc = .ok (.iastore, 1)) {rest : List Value} (hlo : ∀ x ∈ locs, b0 ≤ x.base)
    (kk : ∀ (H1 : Heap) (locs1 : List Loc), Rep D cA b0 zt s (wrI σ.1 a i.toNat v, σ.2) H1 → (∀ x ∈ locs1, b0 ≤ x.base) → W p l e R s m args below meth c H1 locs1 cells slots Q (F0 m (pc + 1) lsA rest)) : W p l e R s m args below meth c H locs cells slots Q (F0 m pc lsA (.int (Int32.ofInt v) :: .int (Int32.ofInt i) :: .ref a :: rest)) := by
  obtain ⟨hx, hb, hml, hown, hts, hin, hK, hT⟩ := C
  have hc := hR.2.2.1 a 0 N hs
  have hcell := hc.1 (Or.inl rfl)
  refine W.iast hx hb hcell.1 ((ty_at hK (kd := 0) rfl).1 N _) (fun q => by cases q) (by rw [arrV_size]; exact z_in h0 h1 h2) rfl rfl hd fun H1 e1 e2 e3 => ?_
  rw [z_nat h0 h2] at e1 ⊢
  exact kk H1 _ (rep_wrI hR hs (Or.inl rfl) e1 e2 e3) (lo_put hlo hcell.2)
theorem c_bst (C : Cx D cA p s args m meth c k) {a N : Nat} {i v : Int} (hR : Rep D cA b0 zt s σ H) (hs : shp σ a = some (1, N)) (h0 : 0 ≤ i) (h1 : i < N) (h2 : i < 65536) (hv : v = 0 ∨ v = 1) (hd : decode (byM k) pc = .ok (.bastore, 1)) {rest : List Value} (hlo : ∀ x ∈ locs, b0 ≤ x.base)
    (kk : ∀ (H1 : Heap) (locs1 : List Loc), Rep D cA b0 zt s (wrI σ.1 a i.toNat v, σ.2) H1 → (∀ x ∈ locs1, b0 ≤ x.base) → W p l e R s m args below meth c H1 locs1 cells slots Q (F0 m (pc + 1) lsA rest)) : W p l e R s m args below meth c H locs cells slots Q (F0 m pc lsA (.int (Int32.ofInt v) :: .int (Int32.ofInt i) :: .ref a :: rest)) := by
  obtain ⟨hx, hb, hml, hown, hts, hin, hK, hT⟩ := C
  have hc := hR.2.2.1 a 1 N hs
  have hcell := hc.1 (Or.inr rfl)
  refine W.zast hx hb hcell.1 ((ty_at hK (kd := 1) rfl).1 N _) (fun q => by cases q) (by rw [arrV_size]; exact z_in h0 h1 h2) rfl rfl hd fun H1 e1 e2 e3 => ?_
  have hn : narrow .boolean (.int (Int32.ofInt v)) = .int (Int32.ofInt v) := by rcases hv with rfl | rfl <;> rfl
  rw [z_nat h0 h2, hn] at e1
  rw [z_nat h0 h2]
  exact kk H1 _ (rep_wrI hR hs (Or.inr rfl) e1 e2 e3) (lo_put hlo hcell.2)
theorem c_qld (C : Cx D cA p s args m meth c k) {a kd N : Nat} {i : Int} (hc : celR D cA b0 s σ H a kd N) (hkd : kd = 2 ∨ kd = 3) (h0 : 0 ≤ i) (h1 : i < N) (h2 : i < 65536) (hd : decode (byM k) pc = .ok (.aaload, 1)) {rest : List Value}
    (kk : W p l e R s m args below meth c H locs cells slots Q (F0 m (pc + 1) lsA (con (.inr (σ.2.1 a i.toNat)) :: rest))) : W p l e R s m args below meth c H locs cells slots Q (F0 m pc lsA (.int (Int32.ofInt i) :: .ref a :: rest)) := by
  obtain ⟨hx, hb, hml, hown, hts, hin, hK, hT⟩ := C
  have hcell := (hc.2.1 hkd).1
  have hlt : i.toNat < N := by omega
  rcases hkd with rfl | rfl
  · exact W.aald (v := con (.inr (σ.2.1 a i.toNat))) (ty := .object RX4) hx hb hcell ((ty_at hK (kd := 2) rfl).1 N _) rfl (fun q => by cases q) (by rw [arrV_size]; exact z_in h0 h1 h2) (by rw [z_nat h0 h2, arrV_read _ _ hlt]) rfl rfl hd kk
  · exact W.aald (v := con (.inr (σ.2.1 a i.toNat))) (ty := .object RX3) hx hb hcell ((ty_at hK (kd := 3) rfl).1 N _) rfl (fun q => by cases q) (by rw [arrV_size]; exact z_in h0 h1 h2) (by rw [z_nat h0 h2, arrV_read _ _ hlt]) rfl rfl hd kk
theorem c_qst (C : Cx D cA p s args m meth c k) {a b kd kb N M : Nat} {i : Int} (hR : Rep D cA b0 zt s σ H) (hs : shp σ a = some (kd, N)) (hs2 : shp σ b = some (kb, M)) (hkd : kd = 2 ∧ kb = 14 ∨ kd = 3 ∧ kb = 13) (h0 : 0 ≤ i) (h1 : i < N) (h2 : i < 65536) (hd : decode (byM k) pc = .ok (.aastore, 1)) {rest : List Value} (hlo : ∀ x ∈ locs, b0 ≤ x.base)
    (kk : ∀ (H1 : Heap) (locs1 : List Loc), Rep D cA b0 zt s (σ.1, wrR σ.2.1 a i.toNat (some b), σ.2.2) H1 → (∀ x ∈ locs1, b0 ≤ x.base) → W p l e R s m args below meth c H1 locs1 cells slots Q (F0 m (pc + 1) lsA rest)) : W p l e R s m args below meth c H locs cells slots Q (F0 m pc lsA (.ref b :: .int (Int32.ofInt i) :: .ref a :: rest)) := by
  obtain ⟨hx, hb, hml, hown, hts, hin, hK, hT⟩ := C
  have hc := hR.2.2.1 a kd N hs
  have hkd2 : kd = 2 ∨ kd = 3 := by omega
  have hcell := hc.2.1 hkd2
  obtain ⟨ci, e1, hci, ⟨cellV, g1, g2, g3, -⟩, -⟩ := (hR.2.2.1 b kb M hs2).2.2.2 (by omega)
  have hcls := (hK.1.1 ci _ (cl_at hci)).2
  have key : ∃ (kA : Class) (t : FieldType), s.vm.classes[cA kd]? = some kA ∧ kA.kind = .array (D.1 ci) t ∧ t.isReference = true := by
    rcases hkd with ⟨rfl, rfl⟩ | ⟨rfl, rfl⟩
    · have e2 : ci = 4 := by omega
      subst e2
      obtain ⟨kA, comp, k1, k2, k3, -⟩ := (ty_at hK (kd := 2) rfl).2
      have hcomp : comp = D.1 4 := Option.some.inj (k3.symm.trans hcls.1)
      subst hcomp
      exact ⟨kA, _, k1, k2, rfl⟩
    · have e2 : ci = 3 := by omega
      subst e2
      obtain ⟨kA, comp, k1, k2, k3, -⟩ := (ty_at hK (kd := 3) rfl).2
      have hcomp : comp = D.1 3 := Option.some.inj (k3.symm.trans hcls.1)
      subst hcomp
      exact ⟨kA, _, k1, k2, rfl⟩
  obtain ⟨kA, t, k1, k2, kr⟩ := key
  obtain ⟨kC, hkC, -⟩ := hcls.2
  have hlt : i.toNat < N := by omega
  refine W.aast hx hb hcell.1 (fun q h => by cases h) (fun h => by cases h) k1 k2 kr hkC ⟨z_nn h0 h2, by rw [z_nat h0 h2, arrV_size]; exact hlt⟩ g1 (fun q h => by rw [g3] at h; cases h) (by rw [g2]; exact hkC) (by rw [g2]; exact va_assign hcls) rfl rfl hd fun H1 e1 e2 e3 => ?_
  rw [z_nat h0 h2] at e1 ⊢
  refine kk H1 _ (hR.put rfl e2 e3 hcell.2 (fun x _ j => rfl) (fun x hx j => wrR_ne hx j) (fun kd' N' hs' => ?_)) (lo_put hlo hcell.2)
  rw [hs] at hs'
  cases hs'
  refine ⟨fun q => by omega, fun q => ⟨?_, hcell.2⟩, fun q => by omega, fun q => by omega⟩
  rw [e1, arrV_store]
  congr 2
  funext j
  show (if j = i.toNat then _ else _) = con (.inr (if a = a ∧ j = i.toNat then some b else σ.2.1 a j))
  by_cases hj : j = i.toNat
  · rw [if_pos hj, if_pos ⟨rfl, hj⟩]; rfl
  · rw [if_neg hj, if_neg (fun q => hj q.2)]
theorem c_len (C : Cx D cA p s args m meth c k) {a kd N : Nat} (hc : celR D cA b0 s σ H a kd N) (hkd : kd ≤ 4) (hd : decode (byM k) pc = .ok (.arraylength, 1)) {rest : List Value}
    (kk : W p l e R s m args below meth c H locs cells slots Q (F0 m (pc + 1) lsA (.int (Int32.ofInt (N : Int)) :: rest))) : W p l e R s m args below meth c H locs cells slots Q (F0 m pc lsA (.ref a :: rest)) := by
  obtain ⟨hx, hb, hml, hown, hts, hin, hK, hT⟩ := C
  have hN : ∀ n : Nat, n.toInt32 = Int32.ofInt (n : Int) := fun n => Int32.ofInt_eq_ofNat.symm
  rcases (show kd = 0 ∨ kd = 1 ∨ kd = 2 ∨ kd = 3 ∨ kd = 4 by omega) with rfl | rfl | rfl | rfl | rfl
  · exact W.alen hx hb (hc.1 (Or.inl rfl)).1 ((ty_at hK (kd := 0) rfl).1 N _) (by rw [arrV_size]; exact hN N) rfl rfl hd kk
  · exact W.alen hx hb (hc.1 (Or.inr rfl)).1 ((ty_at hK (kd := 1) rfl).1 N _) (by rw [arrV_size]; exact hN N) rfl rfl hd kk
  · exact W.alen hx hb (hc.2.1 (Or.inl rfl)).1 ((ty_at hK (kd := 2) rfl).1 N _) (by rw [arrV_size]; exact hN N) rfl rfl hd kk
  · exact W.alen hx hb (hc.2.1 (Or.inr rfl)).1 ((ty_at hK (kd := 3) rfl).1 N _) (by rw [arrV_size]; exact hN N) rfl rfl hd kk
  · obtain ⟨cell, d1, d2, d3, d4, d5, -⟩ := hc.2.2.1 rfl
    exact W.alen hx hb d1 d2 (by rw [d5]; exact Int32.ofInt_eq_ofNat.symm) rfl rfl hd kk
theorem mk_lt {a : Nat} {kd N : Nat} : (mkS σ kd N).1 (topS σ) a = 0 ∧ (mkS σ kd N).2.1 (topS σ) a = none := ⟨if_pos rfl, if_pos rfl⟩
theorem c_newa (C : Cx D cA p s args m meth c k) {t : ArrayType} {kd : Nat} {n : Int} (hR : Rep D cA b0 zt s σ H) (ht : (t = .int ∧ kd = 0) ∨ (t = .boolean ∧ kd = 1)) (h0 : 0 ≤ n) (h2 : n < 65536) (hd : decode (byM k) pc = .ok (.newarray t, 2)) {rest : List Value} (hc1 : cells + 1 ≤ R.cells) (hs1 : slots + n.toNat ≤ R.slots)
    (kk : ∀ H1 : Heap, Rep D cA b0 zt s (mkS σ kd n.toNat) H1 → W p l e R s m args below meth c H1 locs (cells + 1) (slots + n.toNat) Q (F0 m (pc + 2) lsA (.ref (topS σ) :: rest))) : W p l e R s m args below meth c H locs cells slots Q (F0 m pc lsA (.int (Int32.ofInt n) :: rest)) := by
  obtain ⟨hx, hb, hml, hown, hts, hin, hK, hT⟩ := C
  have hw : (Jvm.Cond.arrayClass (newarray.typeOf t)).before args s = true := by
    rcases ht with ⟨rfl, -⟩ | ⟨rfl, -⟩
    · exact hts _ (inP_mem (t_wd_ari hT))
    · exact hts _ (inP_mem (t_wd_arz hT))
  have hby : n.toNat * componentBytes (newarray.typeOf t) ≤ 536870912 := by
    rcases ht with ⟨rfl, -⟩ | ⟨rfl, -⟩
    · show n.toNat * 4 ≤ _; omega
    · show n.toNat * 1 ≤ _; omega
  refine va_newaK hx hb hw rfl hd rfl (z_nn h0 h2) (z_nat h0 h2) hby hc1 hs1 hR.1 fun H1 cB e1 z1 o1 hAr hNm => ?_
  refine kk H1 (hR.new (by rw [z1, hR.1]) (fun q hq => o1 q (by rw [← hR.1]; exact hq)) ?_)
  have hb0 : b0 ≤ topS σ := by rw [← hR.1]; exact hR.2.1
  rcases ht with ⟨rfl, rfl⟩ | ⟨rfl, rfl⟩
  · have hcB : cB = cA 0 := Option.some.inj (hNm.symm.trans (ty_at hK (kd := 0) rfl).2)
    subst hcB
    refine ⟨fun q => ⟨?_, hb0⟩, fun q => by omega, fun q => by omega, fun q => by omega⟩
    rw [e1]
    congr 2
    funext j
    rw [mk_lt.1]; rfl
  · have hcB : cB = cA 1 := Option.some.inj (hNm.symm.trans (ty_at hK (kd := 1) rfl).2)
    subst hcB
    refine ⟨fun q => ⟨?_, hb0⟩, fun q => by omega, fun q => by omega, fun q => by omega⟩
    rw [e1]
    congr 2
    funext j
    rw [mk_lt.1]; rfl
theorem anew_word (hT : Tbs) {o i kd : Nat} (h : anewT.contains [o, i, kd] = true) : (Jvm.Cond.classLink (RN o) i (kN kd)) ∈ bigW ∧ (kd = 2 ∨ kd = 3) := by
  have h1 : [o, i, kd] ∈ anewT := by simpa using h
  rw [t_okA_map hT] at h1
  obtain ⟨e, he, he2⟩ := List.mem_map.mp h1
  have h2 := List.all_eq_true.mp (t_okA_all hT) e he
  unfold okA at h2
  simp only [Bool.and_eq_true, decide_eq_true_eq] at h2
  have e0 : at4 e 0 = o ∧ at4 e 1 = i ∧ at4 e 2 = kd := by
    match e, he2 with
    | x0 :: x1 :: x2 :: _, he2 =>
      simp only [List.take_succ_cons, List.take_zero, List.cons.injEq, and_true] at he2
      exact he2
    | [], he2 => cases he2
    | [_], he2 => cases he2
    | [_, _], he2 => cases he2
  obtain ⟨rfl, rfl, rfl⟩ := e0
  exact ⟨inP_mem h2.1, h2.2⟩
theorem c_newq (C : Cx D cA p s args m meth c k) {i kd : Nat} {n : Int} (hR : Rep D cA b0 zt s σ H) (ht : anewT.contains [clM k, i, kd] = true) (h0 : 0 ≤ n) (h2 : n < 65536) (hd : decode (byM k) pc = .ok (.anewarray i, 3)) {rest : List Value} (hc1 : cells + 1 ≤ R.cells) (hs1 : slots + n.toNat ≤ R.slots)
    (kk : ∀ H1 : Heap, Rep D cA b0 zt s (mkS σ kd n.toNat) H1 → W p l e R s m args below meth c H1 locs (cells + 1) (slots + n.toNat) Q (F0 m (pc + 3) lsA (.ref (topS σ) :: rest))) : W p l e R s m args below meth c H locs cells slots Q (F0 m pc lsA (.int (Int32.ofInt n) :: rest)) := by
  obtain ⟨hx, hb, hml, hown, hts, hin, hK, hT⟩ := C
  obtain ⟨hw, hkd⟩ := anew_word hT ht
  have hov : va_AO (kN kd) s := by
    rcases hkd with rfl | rfl
    · exact hK.2.2.2.1
    · exact hK.2.2.2.2
  refine W.anew hx hb hown (hts _ hw) (va_AO.use hov) rfl hd rfl (z_nn h0 h2) (by rw [z_nat h0 h2]; omega) hc1 (by rw [z_nat h0 h2]; exact hs1) fun cB kA comp f1 f2 f3 f4 => ?_
  rw [z_nat h0 h2, hR.1]
  generalize hH1 : H.push ({ cls := cB, slots := Array.replicate n.toNat .null, vm := .none } : Cell) = H1
  have z1 : H1.size = H.size + 1 := by rw [← hH1, Array.size_push]
  have e1 : H1[topS σ]? = some (arrV cB n.toNat (fun _ => .null)) := by rw [← hR.1, ← hH1, Array.getElem?_push_size, ← arrV_new]
  have o1 : ∀ q : Nat, q < H.size → H1[q]? = H[q]? := fun q hq => by rw [← hH1, Array.getElem?_push, if_neg (Nat.ne_of_lt hq)]
  have hb0 : b0 ≤ topS σ := by rw [← hR.1]; exact hR.2.1
  refine kk H1 (hR.new z1 o1 ?_)
  rcases hkd with rfl | rfl
  · have hcB : cB = cA 2 := by
      obtain ⟨_, _, _, _, _, h4⟩ := (ty_at hK (kd := 2) rfl).2
      exact Option.some.inj (f1.symm.trans h4)
    subst hcB
    refine ⟨fun q => by omega, fun q => ⟨?_, hb0⟩, fun q => by omega, fun q => by omega⟩
    rw [e1]
    congr 2
    funext j
    rw [mk_lt.2]; rfl
  · have hcB : cB = cA 3 := by
      obtain ⟨_, _, _, _, _, h4⟩ := (ty_at hK (kd := 3) rfl).2
      exact Option.some.inj (f1.symm.trans h4)
    subst hcB
    refine ⟨fun q => by omega, fun q => ⟨?_, hb0⟩, fun q => by omega, fun q => by omega⟩
    rw [e1]
    congr 2
    funext j
    rw [mk_lt.2]; rfl
theorem new_word (hT : Tbs) {o i ci : Nat} (h : newT.contains [o, i, ci] = true) : (Jvm.Cond.classLink (RN o) i (RN ci)) ∈ bigW ∧ ci < 7 ∧ (Jvm.Cond.instantiable (RN ci) (NF ci)) ∈ bigW ∧ (Jvm.Cond.initialized (RN ci)) ∈ bigW := by
  have h1 : [o, i, ci] ∈ newT := by simpa using h
  rw [t_okN_map hT] at h1
  obtain ⟨e, he, he2⟩ := List.mem_map.mp h1
  have h2 := List.all_eq_true.mp (t_okN_all hT) e he
  unfold okN at h2
  simp only [Bool.and_eq_true, decide_eq_true_eq] at h2
  have e0 : at4 e 0 = o ∧ at4 e 1 = i ∧ at4 e 2 = ci := by
    match e, he2 with
    | x0 :: x1 :: x2 :: _, he2 =>
      simp only [List.take_succ_cons, List.take_zero, List.cons.injEq, and_true] at he2
      exact he2
    | [], he2 => cases he2
    | [_], he2 => cases he2
    | [_, _], he2 => cases he2
  obtain ⟨rfl, rfl, rfl⟩ := e0
  exact ⟨inP_mem h2.1.1.1, h2.1.1.2, inP_mem h2.1.2, inP_mem h2.2⟩
theorem ty_def {ci : Nat} (h : ci < 7) : ∀ j, j < NF ci → defaultValue (tyN ci j) = con (if fI ci j = true then .inl 0 else .inr none) := by
  have key : (List.range 7).all (fun ci => (List.range (NF ci)).all (fun j => decide (defaultValue (tyN ci j) = con (if fI ci j = true then .inl 0 else .inr none)))) = true := by decide +kernel
  intro j hj
  have h1 := List.all_eq_true.mp key ci (List.mem_range.mpr h)
  exact of_decide_eq_true (List.all_eq_true.mp h1 j (List.mem_range.mpr hj))
theorem c_new (C : Cx D cA p s args m meth c k) {i ci : Nat} (hR : Rep D cA b0 zt s σ H) (ht : newT.contains [clM k, i, ci] = true) (hd : decode (byM k) pc = .ok (.new i, 3)) {rest : List Value} (hc1 : cells + 1 ≤ R.cells) (hs1 : slots + NF ci ≤ R.slots)
    (kk : ∀ H1 : Heap, Rep D cA b0 zt s (mkS σ (10 + ci) (NF ci)) H1 → W p l e R s m args below meth c H1 locs (cells + 1) (slots + NF ci) Q (F0 m (pc + 3) lsA (.ref (topS σ) :: rest))) : W p l e R s m args below meth c H locs cells slots Q (F0 m pc lsA rest) := by
  obtain ⟨hx, hb, hml, hown, hts, hin, hK, hT⟩ := C
  obtain ⟨hw, hci, hi, hn⟩ := new_word hT ht
  have hKn := hK.1.1 ci _ (cl_at hci)
  refine W.newcK hx hb hown (hts _ hw) (hts _ hi) (hts _ hn) rfl hd hc1 hs1 hKn.2.1 hR.1 fun H1 kC hkC e1 z1 o1 => ?_
  have hb0 : b0 ≤ topS σ := by rw [← hR.1]; exact hR.2.1
  refine kk H1 (hR.new (by rw [z1, hR.1]) (fun q hq => o1 q (by rw [← hR.1]; exact hq)) ?_)
  refine ⟨fun q => by omega, fun q => by omega, fun q => by omega, fun _ => ⟨ci, rfl, hci, ?_, hb0⟩⟩
  refine (u_born (tyN ci) hts (uw_in hT hci) hKn hkC e1 (ty_ok hci)).to (fun j hj => ?_)
  rw [ty_def hci j hj]
  unfold fval
  rw [mk_lt.1, mk_lt.2]
theorem stat_word (hT : Tbs) {o i j : Nat} (h : statT.contains [o, i, j] = true) : j < 5 ∧ ((o = 3 ∧ ((i = 40 ∧ j = 0) ∨ (i = 43 ∧ j = 1))) ∨ (o = 5 ∧ (Jvm.Cond.fieldLink RX5 i RX5 (sN j) "[I") ∈ bigW)) := by
  have h1 : [o, i, j] ∈ statT := by simpa using h
  rw [t_okS_map hT] at h1
  obtain ⟨e, he, he2⟩ := List.mem_map.mp h1
  have h2 := List.all_eq_true.mp (t_okS_all hT) e he
  unfold okS at h2
  simp only [Bool.and_eq_true, decide_eq_true_eq] at h2
  have e0 : at4 e 0 = o ∧ at4 e 1 = i ∧ at4 e 2 = j := by
    match e, he2 with
    | x0 :: x1 :: x2 :: _, he2 =>
      simp only [List.take_succ_cons, List.take_zero, List.cons.injEq, and_true] at he2
      exact he2
    | [], he2 => cases he2
    | [_], he2 => cases he2
    | [_, _], he2 => cases he2
  obtain ⟨rfl, rfl, rfl⟩ := e0
  refine ⟨h2.1, ?_⟩
  have h3 := h2.2
  by_cases h30 : at4 e 0 = 3
  · rw [if_pos h30] at h3
    simp only [Bool.and_eq_true, decide_eq_true_eq] at h3
    exact Or.inl ⟨h30, h3.2⟩
  · rw [if_neg h30] at h3
    simp only [Bool.and_eq_true, decide_eq_true_eq] at h3
    exact Or.inr ⟨h3.1, inP_mem h3.2⟩
theorem c_gets (C : Cx D cA p s args m meth c k) {i j : Nat} (hR : Rep D cA b0 zt s σ H) (ht : statT.contains [clM k, i, j] = true) (hd : decode (byM k) pc = .ok (.getstatic i, 3)) {rest : List Value}
    (kk : W p l e R s m args below meth c H locs cells slots Q (F0 m (pc + 3) lsA (.ref (zt j) :: rest))) : W p l e R s m args below meth c H locs cells slots Q (F0 m pc lsA rest) := by
  obtain ⟨hx, hb, hml, hown, hts, hin, hK, hT⟩ := C
  obtain ⟨hj, hw⟩ := stat_word hT ht
  obtain ⟨cf, kf, fi, f, a, cell, h1, h2, h3, h4, h5, h6, h7, h8⟩ := hR.2.2.2 j hj
  rcases hw with ⟨ho, ⟨rfl, rfl⟩ | ⟨rfl, rfl⟩⟩ | ⟨ho, hw⟩
  · rw [ho] at hown
    exact va_WgetsN hx hb hown (va_Nw.use rfl hK.2.1) h1 h2 h3 h4 h5 (fun e => by rw [e] at h6; cases h6) h7 rfl hd kk
  · rw [ho] at hown
    exact va_WgetsN hx hb hown (va_Nw.use rfl hK.2.2.1) h1 h2 h3 h4 h5 (fun e => by rw [e] at h6; cases h6) h7 rfl hd kk
  · rw [ho] at hown
    exact W.gets hx hb hown (hts _ hw) h1 h2 h3 h4 h5 (fun e => by rw [e] at h6; cases h6) h7 rfl hd kk
theorem nat_word (hT : Tbs) {o i kk : Nat} (h : natT.contains [o, i, kk] = true) : (Jvm.Cond.methodLink (RN o) i (ntN kk)) ∈ bigW := by
  have h1 : [o, i, kk] ∈ natT := by simpa using h
  rw [t_okT_map hT] at h1
  obtain ⟨e, he, he2⟩ := List.mem_map.mp h1
  have h2 := List.all_eq_true.mp (t_okT_all hT) e he
  unfold okT at h2
  simp only [Bool.and_eq_true, decide_eq_true_eq] at h2
  have e0 : at4 e 0 = o ∧ at4 e 1 = i ∧ at4 e 2 = kk := by
    match e, he2 with
    | x0 :: x1 :: x2 :: _, he2 =>
      simp only [List.take_succ_cons, List.take_zero, List.cons.injEq, and_true] at he2
      exact he2
    | [], he2 => cases he2
    | [_], he2 => cases he2
    | [_, _], he2 => cases he2
  obtain ⟨rfl, rfl, rfl⟩ := e0
  exact inP_mem h2.1
end SNE
end
section
/-! steps: natives, branches, and every instruction that goes on to the next one -/
section SNF
variable {p : Program} {l : Launch} {e : Env} {R : Room} {s : State} {m : MethodId} {args : Array Value} {below : List Frame} {meth : Method} {c : Code} {H : Heap} {locs : List Loc} {cells slots : Nat} {Q : State → Prop}
variable {D : va_G} {cA : Nat → ClassId} {b0 : Nat} {zt : Nat → Nat} {k pc pc' : Nat} {lsA : Array Slot} {ls ls' : LsT} {st st' : List AV} {σ σ' : Sto} {x : List Nat}
theorem c_copy (C : Cx D cA p s args m meth c k) {i a0 a n0 n1 : Nat} {sp dp n : Int} (hR : Rep D cA b0 zt s σ H) (hs0 : shp σ a0 = some (0, n0)) (hs1 : shp σ a = some (0, n1)) (h1 : 0 ≤ sp) (h2 : 0 ≤ dp) (h3 : 0 ≤ n) (h4 : sp + n ≤ n0) (h5 : dp + n ≤ n1) (h6 : n0 < 65536) (h7 : n1 < 65536) (hn : natT.contains [clM k, i, 1001] = true) (hml : lsA.size = mxM k) (hd : decode (byM k) pc = .ok (.invokestatic i, 3)) {rest : List Value}
    (hframes : 1 ≤ R.frames) (hlocals : (rest.map fun v => v.category).sum + 18 ≤ R.locals) (hlo : ∀ x ∈ locs, b0 ≤ x.base)
    (kk : ∀ (H1 : Heap) (locs1 : List Loc), Rep D cA b0 zt s (cpI σ.1 a0 sp.toNat a dp.toNat n.toNat, σ.2) H1 → (∀ x ∈ locs1, b0 ≤ x.base) → W p l e R s m args below meth c H1 locs1 cells slots Q (F0 m (pc + 3) lsA rest)) : W p l e R s m args below meth c H locs cells slots Q (F0 m pc lsA (.int (Int32.ofInt n) :: .int (Int32.ofInt dp) :: .ref a :: .int (Int32.ofInt sp) :: .ref a0 :: rest)) := by
  obtain ⟨hx, hb, hmc, hown, hts, hin, hK, hT⟩ := C
  have hc0 := (hR.2.2.1 a0 0 n0 hs0).1 (Or.inl rfl)
  have hc1 := (hR.2.2.1 a 0 n1 hs1).1 (Or.inl rfl)
  have tsp : (Int32.ofInt sp).toInt = sp := z_toInt ⟨by omega, by omega⟩
  have tdp : (Int32.ofInt dp).toInt = dp := z_toInt ⟨by omega, by omega⟩
  have tn : (Int32.ofInt n).toInt = n := z_toInt ⟨by omega, by omega⟩
  have nsp : (Int32.ofInt sp).toNatClampNeg = sp.toNat := z_nat h1 (by omega)
  have ndp : (Int32.ofInt dp).toNatClampNeg = dp.toNat := z_nat h2 (by omega)
  have nn : (Int32.ofInt n).toNatClampNeg = n.toNat := z_nat h3 (by omega)
  intro T hTh X
  obtain ⟨-, k0, hk0, cm0, hkk0⟩ := (ty_at hK (kd := 0) rfl).1 n0 (fun j => .int (Int32.ofInt (σ.1 a0 j)))
  obtain ⟨-, k1, hk1, cm1, hkk1⟩ := (ty_at hK (kd := 0) rfl).1 n1 (fun j => .int (Int32.ofInt (σ.1 a j)))
  have e1 : copied (arrV (cA 0) n0 (fun j => .int (Int32.ofInt (σ.1 a0 j)))) (arrV (cA 0) n1 (fun j => .int (Int32.ofInt (σ.1 a j)))) (Int32.ofInt sp) (Int32.ofInt dp) (Int32.ofInt n) = arrV (cA 0) n1 (fun j => .int (va_cpy (fun j => Int32.ofInt (σ.1 a0 j)) (fun j => Int32.ofInt (σ.1 a j)) sp.toNat dp.toNat n.toNat j)) := by
    have h := va_copied (fun z => Value.int z) (cA 0) (cA 0) (n0 := n0) (n1 := n1) (sp := sp.toNat) (dp := dp.toNat) (n := n.toNat) (fun j => Int32.ofInt (σ.1 a0 j)) (fun j => Int32.ofInt (σ.1 a j)) (by omega)
    unfold copied
    rw [nsp, ndp, nn]
    exact h
  obtain ⟨vm', X', step⟩ := X.arraycopy hx hown (hts _ (nat_word hT hn)) (hts _ (inP_mem (t_wd_acn hT))) (hts _ (inP_mem (t_wd_acs hT))) (hts _ (inP_mem (t_wd_sys hT))) (src := a0) (dst := a) (cs := arrV (cA 0) n0 (fun j => .int (Int32.ofInt (σ.1 a0 j)))) (cd := arrV (cA 0) n1 (fun j => .int (Int32.ofInt (σ.1 a j)))) (srcPos := Int32.ofInt sp) (destPos := Int32.ofInt dp) (n := Int32.ofInt n) (by rw [hTh]; exact hc0.1) (by rw [hTh]; exact hc1.1)
    (fun _ h => by cases h) (fun _ h => by cases h) (fun h => by cases h) (fun h => by cases h) hk0 hk1 hkk0 hkk1 (by simp [refKind]) (z_nn h1 (by omega)) (z_nn h2 (by omega)) (z_nn h3 (by omega))
    (by rw [tsp, tn, arrV_size]; omega)
    (by rw [tdp, tn, arrV_size]; omega)
    (fun vm₁ _ i hi => by
      rw [nn] at hi
      have e : (arrV (cA 0) n0 (fun j => .int (Int32.ofInt (σ.1 a0 j)))).slots.getD ((Int32.ofInt sp).toNatClampNeg + i) .null = .int (Int32.ofInt (σ.1 a0 ((Int32.ofInt sp).toNatClampNeg + i))) := by
        rw [Array.getD_eq_getD_getElem?, arrV_read _ _ (by rw [nsp]; omega)]
        rfl
      refine ⟨?_, ?_⟩
      · rw [e]; rfl
      · rw [e]; exact trivial)
    (g := F0 m pc lsA (.int (Int32.ofInt n) :: .int (Int32.ofInt dp) :: .ref a :: .int (Int32.ofInt sp) :: .ref a0 :: rest)) rfl (by rw [hmc]; exact hml) (rest := rest) rfl (by rw [hb]; exact hd) hframes (by
      have : nativeFrameWords "java/lang/System" "arraycopy" 5 = 7 := by decide
      show 2 * 0 + _ + _ ≤ _; omega)
  rw [e1] at X' step
  have hl : a < H.size := (Array.getElem?_eq_some_iff.mp hc1.1).1
  generalize hcell : arrV (cA 0) n1 (fun j => .int (va_cpy (fun j => Int32.ofInt (σ.1 a0 j)) (fun j => Int32.ofInt (σ.1 a j)) sp.toNat dp.toNat n.toNat j)) = cl at X' step
  have hheap : ((T.setVm vm').setCell a cl).heap = H.setIfInBounds a cl := by rw [← hTh]; rfl
  have oq : ∀ q : Nat, q ≠ a → (H.setIfInBounds a cl)[q]? = H[q]? := fun q hq => by simp [Array.getElem?_setIfInBounds, Ne.symm hq]
  have oa : (H.setIfInBounds a cl)[a]? = some cl := by simp [Array.getElem?_setIfInBounds, hl]
  obtain ⟨t, a1, b1⟩ := kk _ _ (hR.put (σ' := (cpI σ.1 a0 sp.toNat a dp.toNat n.toNat, σ.2)) rfl (by simp) oq hc1.2 (fun x hx j => if_neg (fun q => hx q.1)) (fun x _ j => rfl) (fun kd' N' hs' => by
      rw [hs1] at hs'
      cases hs'
      refine ⟨fun q => ⟨?_, hc1.2⟩, fun q => by omega, fun q => by omega, fun q => by omega⟩
      rw [oa, ← hcell]
      congr 2
      funext j
      show Value.int (if dp.toNat ≤ j ∧ j < dp.toNat + n.toNat then _ else _) = Value.int (Int32.ofInt (if a = a ∧ dp.toNat ≤ j ∧ j < dp.toNat + n.toNat then σ.1 a0 (sp.toNat + (j - dp.toNat)) else σ.1 a j))
      by_cases hj : dp.toNat ≤ j ∧ j < dp.toNat + n.toNat
      · rw [if_pos hj, if_pos ⟨rfl, hj⟩]
      · rw [if_neg hj, if_neg (fun q => hj q.2)])) (fun q hq => by
      rcases List.mem_append.mp hq with h | h
      · exact hlo q h
      · obtain ⟨z, -, hz⟩ := List.mem_map.mp h
        rw [← hz]
        exact hc1.2) _ hheap X'
  exact ⟨t, step t a1, b1⟩
theorem c_icmp (C : Cx D cA p s args m meth c k) {cc : Jvm.ClassFile.Cond} {a b off : Int} {tgt : Nat} {t f : Option Out} {o : Out} (h : cj cc a b t f = some o) (hd : decode (byM k) pc = .ok (.if_icmp cc off, 3)) (ht : (pc : Int) + off = (tgt : Int)) {rest : List Value}
    (kt : t = some o → W p l e R s m args below meth c H locs cells slots Q (F0 m tgt lsA rest)) (kf : f = some o → W p l e R s m args below meth c H locs cells slots Q (F0 m (pc + 3) lsA rest)) : W p l e R s m args below meth c H locs cells slots Q (F0 m pc lsA (.int (Int32.ofInt b) :: .int (Int32.ofInt a) :: rest)) := by
  obtain ⟨hx, hb, hmc, hown, hts, hin, hK, hT⟩ := C
  cases cc <;> simp only [cj] at h
  · by_cases hab : a = b
    · rw [if_pos hab] at h
      exact lv_icmp_eq hx hb hd ht (fun _ => kt h) (fun q => absurd (by rw [hab]) q)
    · rw [if_neg hab] at h
      by_cases hr : rng a ∧ rng b
      · rw [if_pos hr] at h
        exact lv_icmp_eq hx hb hd ht (fun q => absurd ((z_eq hr.1 hr.2).mp q) hab) (fun _ => kf h)
      · rw [if_neg hr] at h; cases h
  · by_cases hab : a = b
    · rw [if_pos hab] at h
      exact lv_icmp_ne hx hb hd ht (fun q => absurd (by rw [hab]) q) (fun _ => kf h)
    · rw [if_neg hab] at h
      by_cases hr : rng a ∧ rng b
      · rw [if_pos hr] at h
        exact lv_icmp_ne hx hb hd ht (fun _ => kt h) (fun q => absurd ((z_eq hr.1 hr.2).mp q) hab)
      · rw [if_neg hr] at h; cases h
  · by_cases hr : rng a ∧ rng b
    · rw [if_pos hr] at h
      exact lv_icmp_lt hx hb hd ht (fun q => kt (by rw [if_pos ((z_lt hr.1 hr.2).mp q)] at h; exact h)) (fun q => kf (by rw [if_neg (fun z => q ((z_lt hr.1 hr.2).mpr z))] at h; exact h))
    · rw [if_neg hr] at h; cases h
  · by_cases hr : rng a ∧ rng b
    · rw [if_pos hr] at h
      exact lv_icmp_ge hx hb hd ht (fun q => kt (by rw [if_pos ((z_le hr.2 hr.1).mp q)] at h; exact h)) (fun q => kf (by rw [if_neg (fun z => q ((z_le hr.2 hr.1).mpr z))] at h; exact h))
    · rw [if_neg hr] at h; cases h
  · by_cases hr : rng a ∧ rng b
    · rw [if_pos hr] at h
      exact lv_icmp_gt hx hb hd ht (fun q => kt (by rw [if_pos ((z_lt hr.2 hr.1).mp q)] at h; exact h)) (fun q => kf (by rw [if_neg (fun z => q ((z_lt hr.2 hr.1).mpr z))] at h; exact h))
    · rw [if_neg hr] at h; cases h
  · by_cases hr : rng a ∧ rng b
    · rw [if_pos hr] at h
      exact lv_icmp_le hx hb hd ht (fun q => kt (by rw [if_pos ((z_le hr.1 hr.2).mp q)] at h; exact h)) (fun q => kf (by rw [if_neg (fun z => q ((z_le hr.1 hr.2).mpr z))] at h; exact h))
    · rw [if_neg hr] at h; cases h
theorem c_ifc (C : Cx D cA p s args m meth c k) {cc : Jvm.ClassFile.Cond} {a off : Int} {tgt : Nat} {t f : Option Out} {o : Out} (h : cj cc a 0 t f = some o) (hd : decode (byM k) pc = .ok (.ifCond cc off, 3)) (ht : (pc : Int) + off = (tgt : Int)) {rest : List Value}
    (kt : t = some o → W p l e R s m args below meth c H locs cells slots Q (F0 m tgt lsA rest)) (kf : f = some o → W p l e R s m args below meth c H locs cells slots Q (F0 m (pc + 3) lsA rest)) : W p l e R s m args below meth c H locs cells slots Q (F0 m pc lsA (.int (Int32.ofInt a) :: rest)) := by
  obtain ⟨hx, hb, hmc, hown, hts, hin, hK, hT⟩ := C
  cases cc <;> simp only [cj] at h
  · by_cases hab : a = 0
    · rw [if_pos hab] at h
      exact lv_if_eq hx hb hd ht (fun _ => kt h) (fun q => absurd (by rw [hab]; rfl) q)
    · rw [if_neg hab] at h
      by_cases hr : rng a ∧ rng 0
      · rw [if_pos hr] at h
        exact lv_if_eq hx hb hd ht (fun q => absurd ((z_eq hr.1 hr.2).mp q) hab) (fun _ => kf h)
      · rw [if_neg hr] at h; cases h
  · by_cases hab : a = 0
    · rw [if_pos hab] at h
      exact lv_if_ne hx hb hd ht (fun q => absurd (by rw [hab]; rfl) q) (fun _ => kf h)
    · rw [if_neg hab] at h
      by_cases hr : rng a ∧ rng 0
      · rw [if_pos hr] at h
        exact lv_if_ne hx hb hd ht (fun _ => kt h) (fun q => absurd ((z_eq hr.1 hr.2).mp q) hab)
      · rw [if_neg hr] at h; cases h
  · by_cases hr : rng a ∧ rng 0
    · rw [if_pos hr] at h
      exact lv_if_lt hx hb hd ht (fun q => kt (by rw [if_pos ((z_lt hr.1 hr.2).mp q)] at h; exact h)) (fun q => kf (by rw [if_neg (fun z => q ((z_lt hr.1 hr.2).mpr z))] at h; exact h))
    · rw [if_neg hr] at h; cases h
  · by_cases hr : rng a ∧ rng 0
    · rw [if_pos hr] at h
      exact lv_if_ge hx hb hd ht (fun q => kt (by rw [if_pos ((z_le hr.2 hr.1).mp q)] at h; exact h)) (fun q => kf (by rw [if_neg (fun z => q ((z_le hr.2 hr.1).mpr z))] at h; exact h))
    · rw [if_neg hr] at h; cases h
  · by_cases hr : rng a ∧ rng 0
    · rw [if_pos hr] at h
      exact lv_if_gt hx hb hd ht (fun q => kt (by rw [if_pos ((z_lt hr.2 hr.1).mp q)] at h; exact h)) (fun q => kf (by rw [if_neg (fun z => q ((z_lt hr.2 hr.1).mpr z))] at h; exact h))
    · rw [if_neg hr] at h; cases h
  · by_cases hr : rng a ∧ rng 0
    · rw [if_pos hr] at h
      exact lv_if_le hx hb hd ht (fun q => kt (by rw [if_pos ((z_le hr.1 hr.2).mp q)] at h; exact h)) (fun q => kf (by rw [if_neg (fun z => q ((z_le hr.1 hr.2).mpr z))] at h; exact h))
    · rw [if_neg hr] at h; cases h
theorem bin_same {f : Int → Int → Option Int} (h : bin f ls st σ = some (.inl (ls', st', σ'))) : σ' = σ := by
  unfold bin at h
  split at h
  · split at h
    · cases h; rfl
    · cases h
  · cases h
theorem c_nat (C : Cx D cA p s args m meth c k) {i kn na : Nat} (hR : Rep D cA b0 zt s σ H) (hl : locR lsA (mxM k) ls) (hdp : dpM k ≤ R.frames ∧ 40 * dpM k ≤ R.locals) (hlo : ∀ x ∈ locs, b0 ≤ x.base) (hcl : topS σ' + cells ≤ topS σ + R.cells) (hsl : usdS σ' + slots ≤ usdS σ + R.slots) (hlen : st.length ≤ 8) (hn : ntB k i kn na = true)
    (hd : (kn = 1000 ∧ decode (byM k) pc = .ok (.invokespecial i, 3)) ∨ (1001 ≤ kn ∧ decode (byM k) pc = .ok (.invokestatic i, 3))) (hef : natC kn ls st σ = some (.inl (ls', st', σ')))
    (kk : Knt p l e R s m args below meth c Q D cA b0 zt k (pc + 3) cells slots σ ls' st' σ') : W p l e R s m args below meth c H locs cells slots Q (F0 m pc lsA (st.map con)) := by
  have C0 := C
  obtain ⟨hx, hb, hmc, hown, hts, hin, hK, hT⟩ := C
  unfold ntB at hn
  simp only [Bool.and_eq_true, decide_eq_true_eq] at hn
  obtain ⟨⟨hn1, hn2⟩, -⟩ := hn
  have hw := hts _ (nat_word hT hn1)
  have hfr : 1 ≤ R.frames := by omega
  have hlc : 40 ≤ R.locals := by omega
  unfold natC at hef
  by_cases h0 : kn = 1000
  · rw [if_pos h0] at hef
    have hd1 : decode (byM k) pc = .ok (.invokespecial i, 3) := by
      rcases hd with h | h
      · exact h.2
      · omega
    subst h0
    split at hef
    · next a st2 =>
      have hlen2 : st2.length + 1 ≤ 8 := hlen
      have hrm : 2 * (F0 m pc lsA (.ref a :: st2.map con)).monitorRoom + ((st2.map con).map fun v => v.category).sum + 12 ≤ R.locals := by
        rw [con_sum]
        show 2 * 0 + _ + _ ≤ _
        omega
      cases hef
      exact W.objInit (g := F0 m pc lsA (.ref a :: _)) hx hb hown hw (hts _ (inP_mem (t_wd_obi hT))) (hts _ (inP_mem (t_wd_obj hT))) rfl (by rw [hmc]; exact hl.1) rfl hd1 hfr hrm (kk H locs lsA cells slots hl hR hlo rfl rfl)
    · cases hef
  · rw [if_neg h0] at hef
    have hd1 : decode (byM k) pc = .ok (.invokestatic i, 3) := by
      rcases hd with h | h
      · exact absurd h.1 h0
      · exact h.2
    by_cases h1 : kn = 1001
    · rw [if_pos h1] at hef
      subst h1
      split at hef
      · next n dp d sp a st2 =>
        have hlen2 : st2.length + 5 ≤ 8 := hlen
        have hrm : ((st2.map con).map fun v => v.category).sum + 18 ≤ R.locals := by rw [con_sum]; omega
        split at hef
        · next ks n0 kd n1 hs0 hs1 =>
          split at hef
          · next hh =>
            obtain ⟨rfl, rfl, h3, h4, h5, h6, h7, h8, h9⟩ := hh
            cases hef
            exact c_copy C0 hR hs0 hs1 h5 h4 h3 h6 h7 h8 h9 hn1 hl.1 hd1 hfr hrm hlo (fun H1 locs1 hR1 hlo1 => kk H1 locs1 lsA cells slots hl hR1 hlo1 rfl rfl)
          · cases hef
        · cases hef
      · cases hef
    · rw [if_neg h1] at hef
      by_cases h2 : kn = 1002
      · rw [if_pos h2] at hef
        subst h2
        split at hef
        · next a st2 =>
          have hlen2 : st2.length + 1 ≤ 8 := hlen
          have hrm : ((st2.map con).map fun v => v.category).sum + 13 ≤ R.locals := by rw [con_sum]; omega
          split at hef
          · next hh =>
            cases hef
            refine va_mabs hx hb (by rw [hmc]; exact hl.1.symm) hown hw (hts _ (inP_mem (t_wd_sabs hT))) (hts _ (inP_mem (t_wd_mat hT))) (hts _ (inP_mem (t_wd_cabs hT))) hfr hrm (by omega) (by omega) hd1 ?_
            · rw [z_abs hh.1]
              exact kk H locs lsA cells slots hl hR hlo rfl rfl
          · cases hef
        · cases hef
      · rw [if_neg h2] at hef
        by_cases h3 : kn = 1003
        · rw [if_pos h3] at hef
          subst h3
          have hsm := bin_same hef
          have hb1 : cells ≤ R.cells := by rw [hsm] at hcl; omega
          have hb2 : slots ≤ R.slots := by rw [hsm] at hsl; omega
          refine s_bin hl hR hlo hef (fun a b z rest hst hf hk => ?_) (fun H' locs' lsA' cells' slots' q1 q2 q3 q4 q5 => kk H' locs' lsA' cells' slots' q1 q2 q3 q4 q5)
          subst hst
          split at hf
          · next hh =>
            cases hf
            refine va_mmin hx hb (by rw [hmc]; exact hl.1.symm) hown hw (hts _ (inP_mem (t_wd_smin hT))) (hts _ (inP_mem (t_wd_mat hT))) (hts _ (inP_mem (t_wd_cmin hT))) hfr ?_ ?_ ?_ hd1 ?_
            · rw [con_sum]
              have : rest.length + 2 ≤ 8 := hlen
              omega
            · exact hb1
            · exact hb2
            · rw [z_min hh.1 hh.2]; exact hk
          · cases hf
        · rw [if_neg h3] at hef
          by_cases h4 : kn = 1004
          · rw [if_pos h4] at hef
            subst h4
            have hsm := bin_same hef
            have hb1 : cells ≤ R.cells := by rw [hsm] at hcl; omega
            have hb2 : slots ≤ R.slots := by rw [hsm] at hsl; omega
            refine s_bin hl hR hlo hef (fun a b z rest hst hf hk => ?_) (fun H' locs' lsA' cells' slots' q1 q2 q3 q4 q5 => kk H' locs' lsA' cells' slots' q1 q2 q3 q4 q5)
            subst hst
            split at hf
            · next hh =>
              cases hf
              refine va_mmax hx hb (by rw [hmc]; exact hl.1.symm) hown hw (hts _ (inP_mem (t_wd_smax hT))) (hts _ (inP_mem (t_wd_mat hT))) (hts _ (inP_mem (t_wd_cmax hT))) hfr ?_ ?_ ?_ hd1 ?_
              · rw [con_sum]
                have : rest.length + 2 ≤ 8 := hlen
                omega
              · exact hb1
              · exact hb2
              · rw [z_max hh.1 hh.2]; exact hk
            · cases hf
          · rw [if_neg h4] at hef
            cases hef
end SNF
end
section
/-! every instruction that goes on to the next one -/
section SNG
variable {p : Program} {l : Launch} {e : Env} {R : Room} {s : State} {m : MethodId} {args : Array Value} {below : List Frame} {meth : Method} {c : Code} {H : Heap} {locs : List Loc} {cells slots : Nat} {Q : State → Prop}
variable {D : va_G} {cA : Nat → ClassId} {b0 : Nat} {zt : Nat → Nat} {k pc pc' : Nat} {lsA : Array Slot} {ls ls' : LsT} {st st' : List AV} {σ σ' : Sto} {x : List Nat}
theorem ldc_word (hT : Tbs) {o i v : Nat} (h : ldcT.contains [o, i, v] = true) : (Jvm.Cond.constant (RN o) i (Int32.ofNat v)) ∈ bigW := by
  have h1 : [o, i, v] ∈ ldcT := by simpa using h
  rw [t_okL_map hT] at h1
  obtain ⟨e, he, he2⟩ := List.mem_map.mp h1
  have h2 := List.all_eq_true.mp (t_okL_all hT) e he
  unfold okL at h2
  have e0 : at4 e 0 = o ∧ at4 e 1 = i ∧ at4 e 2 = v := by
    match e, he2 with
    | x0 :: x1 :: x2 :: _, he2 =>
      simp only [List.take_succ_cons, List.take_zero, List.cons.injEq, and_true] at he2
      exact he2
    | [], he2 => cases he2
    | [_], he2 => cases he2
    | [_, _], he2 => cases he2
  obtain ⟨rfl, rfl, rfl⟩ := e0
  exact inP_mem h2
theorem cj_nx {cc : Jvm.ClassFile.Cond} {a b : Int} {L : Nat} {stt : List AV} {o : Out} (h : cj cc a b (jp L stt) (nx ls stt σ) = some o) : o = .inl (ls, stt, σ) ∨ o = .inr (.inl (L, stt)) := by
  unfold jp nx at h
  cases cc <;> simp only [cj] at h <;> (repeat' split at h) <;> cases h <;> first | exact Or.inl rfl | exact Or.inr rfl
theorem ex_s {i : Nat} {y : List Nat} (he : exI k pc (.invokestatic i, y) = true) : ∃ k' na rk, y = [k', na, rk] ∧ (if 1000 ≤ k' then ntB k i k' na && decide (1001 ≤ k') else mtB k i k' na rk true) = true := by
  match y, he with
  | [k', na, rk], he => exact ⟨k', na, rk, rfl, he⟩
  | [], he => exact Bool.noConfusion he
  | [_], he => exact Bool.noConfusion he
  | [_, _], he => exact Bool.noConfusion he
  | _ :: _ :: _ :: _ :: _, he => exact Bool.noConfusion he
theorem ex_i {i : Nat} {y : List Nat} (he : exI k pc (.invokespecial i, y) = true) : ∃ k' na rk, y = [k', na, rk] ∧ (if 1000 ≤ k' then ntB k i k' na && decide (k' = 1000) else mtB k i k' na rk false && inM k') = true := by
  match y, he with
  | [k', na, rk], he => exact ⟨k', na, rk, rfl, he⟩
  | [], he => exact Bool.noConfusion he
  | [_], he => exact Bool.noConfusion he
  | [_, _], he => exact Bool.noConfusion he
  | _ :: _ :: _ :: _ :: _, he => exact Bool.noConfusion he
theorem ex_v {i : Nat} {y : List Nat} (he : exI k pc (.invokevirtual i, y) = true) : ∃ k' na rk, y = [k', na, rk] ∧ (mtB k i k' na rk false && !(inM k')) = true := by
  match y, he with
  | [k', na, rk], he => exact ⟨k', na, rk, rfl, he⟩
  | [], he => exact Bool.noConfusion he
  | [_], he => exact Bool.noConfusion he
  | [_, _], he => exact Bool.noConfusion he
  | _ :: _ :: _ :: _ :: _, he => exact Bool.noConfusion he
theorem cal_no {y : List Nat} {o : LsT × List AV × Sto} (h : cal y st σ = some (.inl o)) : False := by
  unfold cal at h
  split at h
  · split at h <;> cases h
  · cases h
set_option maxHeartbeats 8000000 in
theorem s_next {q : RI} (C : Cx D cA p s args m meth c k) (hd : decode (byM k) pc = .ok (q.1, lenI q.1)) (he : exI k pc q = true) (hdp : dpM k ≤ R.frames ∧ 40 * dpM k ≤ R.locals) (hl : locR lsA (mxM k) ls) (hR : Rep D cA b0 zt s σ H) (hlo : ∀ x ∈ locs, b0 ≤ x.base) (hcl : topS σ' + cells ≤ topS σ + R.cells) (hsl : usdS σ' + slots ≤ usdS σ + R.slots)
    (hef : eff zt q ls st σ = some (.inl (ls', st', σ'))) (kk : Knt p l e R s m args below meth c Q D cA b0 zt k (pc + lenI q.1) cells slots σ ls' st' σ') : W p l e R s m args below meth c H locs cells slots Q (F0 m pc lsA (st.map con)) := by
  have C0 := C
  obtain ⟨hx, hb, hmc, hown, hts, hin, hK, hT⟩ := C
  obtain ⟨i, y⟩ := q
  have same : ls' = ls → σ' = σ → W p l e R s m args below meth c H locs cells slots Q (F0 m (pc + lenI i) lsA (st'.map con)) := fun e1 e2 => kk H locs lsA cells slots (by rw [e1]; exact hl) (by rw [e2]; exact hR) hlo (by rw [e2]) (by rw [e2])
  cases i
  case aload i => exact s_ldR hl hR hlo (show ldR ls i st σ = _ from hef) (fun a h hk => lv_aload hx hb hd h hk) kk
  case aload_n i => exact s_ldR hl hR hlo (show ldR ls i.val st σ = _ from hef) (fun a h hk => lv_aload_n hx hb hd rfl h hk) kk
  case iload i => exact s_ldI hl hR hlo (show ldI ls i st σ = _ from hef) (fun a h hk => lv_iload hx hb hd h hk) kk
  case iload_n i => exact s_ldI hl hR hlo (show ldI ls i.val st σ = _ from hef) (fun a h hk => lv_iload_n hx hb hd rfl h hk) kk
  case istore i => exact s_stI hl hR hlo (show stI ls i st σ = _ from hef) (fun z rest h hk => lv_istore hx hb hd h (of_decide_eq_true he) rfl hk) kk
  case istore_n i => exact s_stI hl hR hlo (show stI ls i.val st σ = _ from hef) (fun z rest h hk => lv_istore_n hx hb hd rfl h (of_decide_eq_true he) rfl hk) kk
  case astore i => exact s_stR hl hR hlo (show stR ls i st σ = _ from hef) (fun z rest h hk => lv_astore hx hb hd h (of_decide_eq_true he) rfl hk) kk
  case astore_n i => exact s_stR hl hR hlo (show stR ls i.val st σ = _ from hef) (fun z rest h hk => lv_astore_n hx hb hd rfl h (of_decide_eq_true he) rfl hk) kk
  case iconst v =>
    cases (show some (Sum.inl (ls, .inl v :: st, σ)) = _ from hef)
    exact lv_iconst hx hb hd rfl (same rfl rfl)
  case bipush v =>
    cases (show some (Sum.inl (ls, .inl v :: st, σ)) = _ from hef)
    have hv := of_decide_eq_true he
    exact lv_bipush hx hb hd (z_i8 v hv.1 hv.2) (same rfl rfl)
  case sipush v =>
    cases (show some (Sum.inl (ls, .inl v :: st, σ)) = _ from hef)
    have hv := of_decide_eq_true he
    exact lv_sipush hx hb hd (z_i16 v hv.1 hv.2) (same rfl rfl)
  case ldc i =>
    cases (show some (Sum.inl (ls, .inl (x0 y : Int) :: st, σ)) = _ from hef)
    have he2 : (ldcT.contains [clM k, i, x0 y] && decide (x0 y < 2147483648)) = true := he
    rw [Bool.and_eq_true] at he2
    refine lv_ldc hx hb hown (hts _ (ldc_word hT he2.1)) hd ?_
    have e1 := same rfl rfl
    rw [← Int32.ofInt_eq_ofNat]
    exact e1
  case iadd =>
    refine s_bin hl hR hlo (show bin (fun a b => some (a + b)) ls st σ = _ from hef) (fun a b z rest hst hf hk => ?_) kk
    cases hf
    rw [Int32.ofInt_add] at hk
    exact lv_iadd hx hb hd hk
  case isub =>
    refine s_bin hl hR hlo (show bin (fun a b => some (a - b)) ls st σ = _ from hef) (fun a b z rest hst hf hk => ?_) kk
    cases hf
    rw [Int32.ofInt_sub] at hk
    exact lv_isub hx hb hd hk
  case imul =>
    refine s_bin hl hR hlo (show bin (fun a b => some (a * b)) ls st σ = _ from hef) (fun a b z rest hst hf hk => ?_) kk
    cases hf
    rw [Int32.ofInt_mul] at hk
    exact lv_imul hx hb hd hk
  case iand =>
    refine s_bin hl hR hlo (show bin (fun a b => if b = 63 then some (a % 64) else none) ls st σ = _ from hef) (fun a b z rest hst hf hk => ?_) kk
    split at hf
    · next h63 =>
      cases hf
      subst h63
      rw [← z_and] at hk
      exact lv_iand hx hb hd hk
    · cases hf
  case idiv =>
    refine s_bin hl hR hlo (show bin (fun a b => if rng a ∧ 0 < b ∧ rng b then some (a.tdiv b) else none) ls st σ = _ from hef) (fun a b z rest hst hf hk => ?_) kk
    split at hf
    · next hh =>
      cases hf
      rw [← z_div hh.1 hh.2.2 hh.2.1] at hk
      exact lv_idiv hx hb hd (z_ne hh.2.2 hh.2.1) hk
    · cases hf
  case irem =>
    refine s_bin hl hR hlo (show bin (fun a b => if 0 ≤ a ∧ rng a ∧ 0 < b ∧ rng b then some (a % b) else none) ls st σ = _ from hef) (fun a b z rest hst hf hk => ?_) kk
    split at hf
    · next hh =>
      cases hf
      rw [← z_rem hh.2.1 hh.1 hh.2.2.2 hh.2.2.1] at hk
      exact lv_irem hx hb hd (z_ne hh.2.2.2 hh.2.2.1) hk
    · cases hf
  case ineg =>
    simp only [eff] at hef
    split at hef
    · next a st2 =>
      cases hef
      have hk := same rfl rfl
      refine lv_ineg hx hb hd ?_
      rw [← Int32.ofInt_neg]
      exact hk
    · cases hef
  case iinc i d =>
    simp only [eff] at hef
    split at hef
    · next z hz =>
      cases hef
      have hm := lvOf_mem hz
      obtain ⟨j, hj⟩ := List.getElem?_of_mem hm
      exact lv_iinc hx hb hd hl.has hj (by rw [← Int32.ofInt_add]) (of_decide_eq_true he) rfl (fun lsB hB => kk H locs lsB cells slots (locR.set (v := .inl (z + d)) hB) hR hlo rfl rfl)
    · cases hef
  case dup =>
    simp only [eff] at hef
    split at hef
    · next a st2 =>
      cases hef
      exact lv_dup hx hb hd (con_cat a) (same rfl rfl)
    · cases hef
  case dup2 =>
    simp only [eff] at hef
    split at hef
    · next b a st2 =>
      cases hef
      exact lv_dup2_11 hx hb hd (con_cat b) (con_cat a) (same rfl rfl)
    · cases hef
  case pop =>
    simp only [eff] at hef
    split at hef
    · next a st2 =>
      cases hef
      exact lv_pop hx hb hd (con_cat a) (same rfl rfl)
    · cases hef
  case if_icmp cc off =>
    simp only [eff] at hef
    split at hef
    · next b a st2 =>
      have he2 : tgB k pc off (x0 y) = true := he
      unfold tgB at he2
      rw [Bool.and_eq_true] at he2
      have e0 := cj_nx hef
      rcases e0 with e0 | e0
      · cases e0
        refine c_icmp C0 hef hd (of_decide_eq_true he2.1) (fun q => ?_) (fun _ => same rfl rfl)
        cases q
      · cases e0
    · cases hef
  case ifCond cc off =>
    simp only [eff] at hef
    split at hef
    · next a st2 =>
      have he2 : tgB k pc off (x0 y) = true := he
      unfold tgB at he2
      rw [Bool.and_eq_true] at he2
      have e0 := cj_nx hef
      rcases e0 with e0 | e0
      · cases e0
        refine c_ifc C0 hef hd (of_decide_eq_true he2.1) (fun q => ?_) (fun _ => same rfl rfl)
        cases q
      · cases e0
    · cases hef
  case tableswitch d lo hi offs =>
    simp only [eff, jp] at hef
    repeat' split at hef
    all_goals cases hef
  case nop => cases hef
  case goto off => cases hef
  case getfield i =>
    simp only [eff] at hef
    split at hef
    · next a st2 =>
      split at hef
      · next kd N hs =>
        split at hef
        · next hkd =>
          cases hef
          exact c_get C0 (hR.2.2.1 a kd N hs) hkd (show fldT.contains [clM k, i, x0 y, x1 y] = true from he) hd (same rfl rfl)
        · cases hef
      · cases hef
    · cases hef
  case putfield i =>
    have he2 : (fldT.contains [clM k, i, x0 y, x1 y] && (!(TN (x0 y) (x1 y)).2.2.2 || (inM k && decide ((TN (x0 y) (x1 y)).1 = RN (clM k))))) = true := he
    rw [Bool.and_eq_true] at he2
    simp only [eff] at hef
    split at hef
    · next v a st2 =>
      split at hef
      · next kd N hs =>
        split at hef
        · next hkd =>
          cases hef
          refine c_put C0 (σ' := (wrI σ.1 a (x1 y) v, σ.2)) (v := .inl v) hR hs hkd.1 he2.1 he2.2 hd (Or.inl ⟨v, rfl, hkd.2⟩) rfl (fun x hx j => wrI_ne hx j) (fun x _ j => rfl) (fun j => ?_) hlo (fun H1 locs1 hR1 hlo1 => kk H1 locs1 lsA cells slots hl hR1 hlo1 rfl rfl)
          unfold fval wrI
          by_cases hj : j = x1 y
          · subst hj; simp [hkd.2]
          · simp [hj]
        · cases hef
      · cases hef
    · next b a st2 =>
      split at hef
      · next kd N hs =>
        split at hef
        · next hkd =>
          cases hef
          refine c_put C0 (σ' := (σ.1, wrR σ.2.1 a (x1 y) (some b), σ.2.2)) (v := .inr (some b)) hR hs hkd.1 he2.1 he2.2 hd (Or.inr ⟨b, rfl, hkd.2⟩) rfl (fun x _ j => rfl) (fun x hx j => wrR_ne hx j) (fun j => ?_) hlo (fun H1 locs1 hR1 hlo1 => kk H1 locs1 lsA cells slots hl hR1 hlo1 rfl rfl)
          unfold fval wrR
          by_cases hj : j = x1 y
          · subst hj; simp [hkd.2]
          · simp [hj]
        · cases hef
      · cases hef
    · cases hef
  case getstatic i =>
    cases (show some (Sum.inl (ls, .inr (some (zt (x0 y))) :: st, σ)) = _ from hef)
    exact c_gets C0 hR (show statT.contains [clM k, i, x0 y] = true from he) hd (same rfl rfl)
  case iaload =>
    refine s_ald hl hR hlo (show aldI _ ls st σ = _ from hef) (fun a i kd N rest hok h0 h1 h2 hc hk => ?_) kk
    simp only [Bool.or_eq_true, beq_iff_eq] at hok
    exact c_ald C0 hc hok h0 h1 h2 hd hk
  case baload =>
    refine s_ald hl hR hlo (show aldI _ ls st σ = _ from hef) (fun a i kd N rest hok h0 h1 h2 hc hk => ?_) kk
    exact c_bld C0 hc (by simpa using hok) h0 h1 h2 hd hk
  case iastore =>
    simp only [eff] at hef
    split at hef
    · next v i a st2 =>
      split at hef
      · next kd N hs =>
        split at hef
        · next hh =>
          obtain ⟨rfl, h0, h1, h2⟩ := hh
          cases hef
          exact c_ast C0 hR hs h0 h1 h2 hd hlo (fun H1 locs1 hR1 hlo1 => kk H1 locs1 lsA cells slots hl hR1 hlo1 rfl rfl)
        · cases hef
      · cases hef
    · cases hef
  case bastore =>
    simp only [eff] at hef
    split at hef
    · next v i a st2 =>
      split at hef
      · next kd N hs =>
        split at hef
        · next hh =>
          obtain ⟨rfl, h0, h1, h2, h3⟩ := hh
          cases hef
          exact c_bst C0 hR hs h0 h1 h2 h3 hd hlo (fun H1 locs1 hR1 hlo1 => kk H1 locs1 lsA cells slots hl hR1 hlo1 rfl rfl)
        · cases hef
      · cases hef
    · cases hef
  case aaload =>
    simp only [eff] at hef
    split at hef
    · next i a st2 =>
      split at hef
      · next kd N hs =>
        split at hef
        · next hh =>
          obtain ⟨hkd, h0, h1, h2⟩ := hh
          cases hef
          exact c_qld C0 (hR.2.2.1 a kd N hs) hkd h0 h1 h2 hd (same rfl rfl)
        · cases hef
      · cases hef
    · cases hef
  case aastore =>
    simp only [eff] at hef
    split at hef
    · next b i a st2 =>
      split at hef
      · next kd N kb M hs hs2 =>
        split at hef
        · next hh =>
          obtain ⟨hkd, h0, h1, h2⟩ := hh
          cases hef
          exact c_qst C0 hR hs hs2 hkd h0 h1 h2 hd hlo (fun H1 locs1 hR1 hlo1 => kk H1 locs1 lsA cells slots hl hR1 hlo1 rfl rfl)
        · cases hef
      · cases hef
    · cases hef
  case arraylength =>
    simp only [eff] at hef
    split at hef
    · next a st2 =>
      split at hef
      · next kd N hs =>
        split at hef
        · next hkd =>
          cases hef
          exact c_len C0 (hR.2.2.1 a kd N hs) hkd hd (same rfl rfl)
        · cases hef
      · cases hef
    · cases hef
  case newarray t =>
    have he2 : ((decide (t = .int) && (x0 y == 0)) || (decide (t = .boolean) && (x0 y == 1))) = true := he
    simp only [Bool.or_eq_true, Bool.and_eq_true, decide_eq_true_eq, beq_iff_eq] at he2
    simp only [eff] at hef
    split at hef
    · next n st2 =>
      split at hef
      · next hh =>
        cases hef
        have e1 : topS (mkS σ (x0 y) n.toNat) = topS σ + 1 := rfl
        have e2 : usdS (mkS σ (x0 y) n.toNat) = usdS σ + n.toNat := rfl
        exact c_newa C0 hR he2 hh.1 hh.2 hd (by omega) (by omega) (fun H1 hR1 => kk H1 locs lsA _ _ hl hR1 hlo (by omega) (by omega))
      · cases hef
    · cases hef
  case anewarray i =>
    simp only [eff] at hef
    split at hef
    · next n st2 =>
      split at hef
      · next hh =>
        cases hef
        have e1 : topS (mkS σ (x0 y) n.toNat) = topS σ + 1 := rfl
        have e2 : usdS (mkS σ (x0 y) n.toNat) = usdS σ + n.toNat := rfl
        exact c_newq C0 hR (show anewT.contains [clM k, i, x0 y] = true from he) hh.1 hh.2 hd (by omega) (by omega) (fun H1 hR1 => kk H1 locs lsA _ _ hl hR1 hlo (by omega) (by omega))
      · cases hef
    · cases hef
  case new i =>
    cases (show some (Sum.inl (ls, .inr (some (topS σ)) :: st, mkS σ (10 + x0 y) (NF (x0 y)))) = _ from hef)
    have e1 : topS (mkS σ (10 + x0 y) (NF (x0 y))) = topS σ + 1 := rfl
    have e2 : usdS (mkS σ (10 + x0 y) (NF (x0 y))) = usdS σ + NF (x0 y) := rfl
    exact c_new C0 hR (show newT.contains [clM k, i, x0 y] = true from he) hd (by omega) (by omega) (fun H1 hR1 => kk H1 locs lsA _ _ hl hR1 hlo (by omega) (by omega))
  case invokevirtual i => exact absurd hef (fun h => cal_no h)
  case invokestatic i =>
    obtain ⟨k', na, rk, rfl, he2⟩ := ex_s he
    simp only [eff] at hef
    split at hef
    · next h1000 =>
      split at hef
      · next hlen =>
        rw [if_pos (show 1000 ≤ k' from h1000), Bool.and_eq_true] at he2
        exact c_nat C0 hR hl hdp hlo hcl hsl hlen he2.1 (Or.inr ⟨of_decide_eq_true he2.2, hd⟩) hef kk
      · cases hef
    · exact absurd hef (fun h => cal_no h)
  case invokespecial i =>
    obtain ⟨k', na, rk, rfl, he2⟩ := ex_i he
    simp only [eff] at hef
    split at hef
    · next h1000 =>
      split at hef
      · next hlen =>
        rw [if_pos (show 1000 ≤ k' from h1000), Bool.and_eq_true] at he2
        exact c_nat C0 hR hl hdp hlo hcl hsl hlen he2.1 (Or.inl ⟨of_decide_eq_true he2.2, hd⟩) hef kk
      · cases hef
    · exact absurd hef (fun h => cal_no h)
  case ireturn =>
    simp only [eff] at hef
    split at hef
    · split at hef <;> cases hef
    · cases hef
  case return_ =>
    simp only [eff] at hef
    split at hef <;> cases hef
  all_goals cases hef
end SNG
end
section
/-! what an effect tells of its instruction; jumps -/
section INV
variable {p : Program} {l : Launch} {e : Env} {R : Room} {s : State} {m : MethodId} {args : Array Value} {below : List Frame} {meth : Method} {c : Code} {H : Heap} {locs : List Loc} {cells slots : Nat} {Q : State → Prop}
variable {D : va_G} {cA : Nat → ClassId} {b0 : Nat} {zt : Nat → Nat} {k pc pc' : Nat} {lsA : Array Slot} {ls ls' : LsT} {st st' : List AV} {σ σ' : Sto} {x : List Nat}
set_option maxHeartbeats 8000000 in
theorem eff_mono {q : RI} (h : eff zt q ls st σ = some (.inl (ls', st', σ'))) : topS σ ≤ topS σ' ∧ usdS σ ≤ usdS σ' := by
  obtain ⟨i, y⟩ := q
  cases i
  case if_icmp cc off =>
    simp only [eff] at h
    split at h
    · rcases cj_nx h with e0 | e0
      · cases e0; exact ⟨Nat.le_refl _, Nat.le_refl _⟩
      · cases e0
    · cases h
  case ifCond cc off =>
    simp only [eff] at h
    split at h
    · rcases cj_nx h with e0 | e0
      · cases e0; exact ⟨Nat.le_refl _, Nat.le_refl _⟩
      · cases e0
    · cases h
  all_goals first
    | (cases h; done)
    | (simp only [eff, ldI, ldR, stI, stR, bin, nx, jp, natC, cal, aldI] at h
       (repeat' split at h)
       all_goals first
         | (cases h; done)
         | (cases h; exact ⟨Nat.le_refl _, Nat.le_refl _⟩)
         | (cases h; exact ⟨Nat.le_succ _, Nat.le_add_right _ _⟩))
theorem run_mono : ∀ (n k : Nat) (c : List RI) (ls : LsT) (st : List AV) (σ : Sto) (v : Option AV) (σ' : Sto), run zt n k c ls st σ = some (v, σ') → topS σ ≤ topS σ' ∧ usdS σ ≤ usdS σ'
  | 0, _, _, _, _, _, _, _, h => by cases h
  | n + 1, k, [], _, _, _, _, _, h => by cases h
  | n + 1, k, q :: c, ls, st, σ, v, σ', h => by
    simp only [run] at h
    split at h
    · cases h
    · next ls' st' σ1 hef =>
      have h1 := eff_mono hef
      have h2 := run_mono n _ _ _ _ _ _ _ h
      exact ⟨Nat.le_trans h1.1 h2.1, Nat.le_trans h1.2 h2.2⟩
    · exact run_mono n _ _ _ _ _ _ _ h
    · split at h
      · next hc =>
        have h1 := run_mono n _ _ _ _ _ _ _ hc
        have h2 := run_mono n _ _ _ _ _ _ _ h
        exact ⟨Nat.le_trans h1.1 h2.1, Nat.le_trans h1.2 h2.2⟩
      · cases h
    · cases h
      exact ⟨Nat.le_refl _, Nat.le_refl _⟩
set_option maxHeartbeats 8000000 in
theorem eff_ret {q : RI} {v : Option AV} (h : eff zt q ls st σ = some (.inr (.inr (.inr v)))) : (q.1 = .ireturn ∧ ∃ z, st = [.inl z] ∧ v = some (.inl z) ∧ (x0 q.2 = 0 ∨ z = 0 ∨ z = 1)) ∨ (q.1 = .return_ ∧ st = [] ∧ v = none) := by
  obtain ⟨i, y⟩ := q
  cases i
  case if_icmp cc off =>
    simp only [eff] at h
    split at h
    · rcases cj_nx h with e0 | e0 <;> cases e0
    · cases h
  case ifCond cc off =>
    simp only [eff] at h
    split at h
    · rcases cj_nx h with e0 | e0 <;> cases e0
    · cases h
  case ireturn =>
    simp only [eff] at h
    split at h
    · next z =>
      split at h
      · next hh =>
        cases h
        exact Or.inl ⟨rfl, z, rfl, rfl, hh⟩
      · cases h
    · cases h
  case return_ =>
    simp only [eff] at h
    split at h
    · cases h
      exact Or.inr ⟨rfl, rfl, rfl⟩
    · cases h
  all_goals first
    | (cases h; done)
    | (simp only [eff, ldI, ldR, stI, stR, bin, nx, jp, natC, cal, aldI] at h
       (repeat' split at h)
       all_goals (cases h; done))
set_option maxHeartbeats 8000000 in
theorem eff_cal {q : RI} {k' : Nat} {as rest : List AV} (h : eff zt q ls st σ = some (.inr (.inr (.inl (k', as, rest))))) : cal q.2 st σ = some (.inr (.inr (.inl (k', as, rest)))) ∧ ((∃ i, q.1 = .invokevirtual i) ∨ (∃ i, q.1 = .invokestatic i ∧ ¬ 1000 ≤ x0 q.2) ∨ ∃ i, q.1 = .invokespecial i ∧ ¬ 1000 ≤ x0 q.2) := by
  obtain ⟨i, y⟩ := q
  cases i
  case if_icmp cc off =>
    simp only [eff] at h
    split at h
    · rcases cj_nx h with e0 | e0 <;> cases e0
    · cases h
  case ifCond cc off =>
    simp only [eff] at h
    split at h
    · rcases cj_nx h with e0 | e0 <;> cases e0
    · cases h
  case invokevirtual i => exact ⟨h, Or.inl ⟨i, rfl⟩⟩
  case invokestatic i =>
    simp only [eff] at h
    split at h
    · simp only [bin, nx, natC] at h
      (repeat' split at h)
      all_goals (cases h; done)
    · next hk => exact ⟨h, Or.inr (Or.inl ⟨i, rfl, hk⟩)⟩
  case invokespecial i =>
    simp only [eff] at h
    split at h
    · simp only [bin, nx, natC] at h
      (repeat' split at h)
      all_goals (cases h; done)
    · next hk => exact ⟨h, Or.inr (Or.inr ⟨i, rfl, hk⟩)⟩
  all_goals first
    | (cases h; done)
    | (simp only [eff, ldI, ldR, stI, stR, bin, nx, jp, aldI] at h
       (repeat' split at h)
       all_goals (cases h; done))
theorem swB_get : ∀ (os : List Int) (Ls : List Nat), swB k pc os Ls = true → ∀ (j L : Nat), Ls[j]? = some L → ∃ o, os[j]? = some o ∧ tgB k pc o L = true
  | [], [], _, _, _, h => by simp at h
  | [], _ :: _, h, _, _, _ => Bool.noConfusion h
  | _ :: _, [], h, _, _, _ => Bool.noConfusion h
  | o :: os, L0 :: Ls, h, 0, L, hj => by
    simp only [swB, Bool.and_eq_true] at h
    cases hj
    exact ⟨o, rfl, h.1⟩
  | o :: os, L0 :: Ls, h, j + 1, L, hj => by
    simp only [swB, Bool.and_eq_true] at h
    exact swB_get os Ls h.2 j L hj
set_option maxHeartbeats 8000000 in
theorem s_jump {q : RI} {len L : Nat} (C : Cx D cA p s args m meth c k) (hd : decode (byM k) pc = .ok (q.1, len)) (hlen : isSw q.1 = true ∨ len = lenI q.1) (hnn : isNop q.1 = false) (he : exI k pc q = true) (hef : eff zt q ls st σ = some (.inr (.inl (L, st')))) :
    (lbM k).contains L = true ∧ (W p l e R s m args below meth c H locs cells slots Q (F0 m L lsA (st'.map con)) → W p l e R s m args below meth c H locs cells slots Q (F0 m pc lsA (st.map con))) := by
  have C0 := C
  obtain ⟨hx, hb, hmc, hown, hts, hin, hK, hT⟩ := C
  obtain ⟨i, y⟩ := q
  cases i
  case nop => cases hnn
  case goto off =>
    have hl3 : len = 3 := hlen.resolve_left (fun h => Bool.noConfusion h)
    subst hl3
    cases (show some (Sum.inr (Sum.inl (x0 y, st))) = _ from hef)
    have he2 : tgB k pc off (x0 y) = true := he
    unfold tgB at he2
    rw [Bool.and_eq_true] at he2
    exact ⟨he2.2, fun hk => lv_goto hx hb hd (of_decide_eq_true he2.1) hk⟩
  case if_icmp cc off =>
    have hl3 : len = 3 := hlen.resolve_left (fun h => Bool.noConfusion h)
    subst hl3
    have he2 : tgB k pc off (x0 y) = true := he
    unfold tgB at he2
    rw [Bool.and_eq_true] at he2
    simp only [eff] at hef
    split at hef
    · next b a st2 =>
      rcases cj_nx hef with e0 | e0
      · cases e0
      · cases e0
        exact ⟨he2.2, fun hk => c_icmp C0 hef hd (of_decide_eq_true he2.1) (fun _ => hk) (fun q => by cases q)⟩
    · cases hef
  case ifCond cc off =>
    have hl3 : len = 3 := hlen.resolve_left (fun h => Bool.noConfusion h)
    subst hl3
    have he2 : tgB k pc off (x0 y) = true := he
    unfold tgB at he2
    rw [Bool.and_eq_true] at he2
    simp only [eff] at hef
    split at hef
    · next a st2 =>
      rcases cj_nx hef with e0 | e0
      · cases e0
      · cases e0
        exact ⟨he2.2, fun hk => c_ifc C0 hef hd (of_decide_eq_true he2.1) (fun _ => hk) (fun q => by cases q)⟩
    · cases hef
  case tableswitch d lo hi offs =>
    have he2 : swB k pc (d :: offs.toList) y = true := he
    have hg := swB_get _ _ he2
    simp only [eff, jp] at hef
    split at hef
    · next a st2 dl ts =>
      split at hef
      · next hr =>
        split at hef
        · next hout =>
          cases hef
          obtain ⟨o, ho, ht⟩ := hg 0 L rfl
          cases ho
          unfold tgB at ht
          rw [Bool.and_eq_true] at ht
          exact ⟨ht.2, fun hk => lv_tableOut hx hb hd (by rw [z_toInt hr]; exact hout) (of_decide_eq_true ht.1) hk⟩
        · next hin2 =>
          split at hef
          · next L0 hL0 =>
            cases hef
            obtain ⟨o, ho, ht⟩ := hg ((a - lo).toNat + 1) L hL0
            unfold tgB at ht
            rw [Bool.and_eq_true] at ht
            refine ⟨ht.2, fun hk => lv_tableIn hx hb hd (by rw [z_toInt hr]; omega) (by rw [z_toInt hr]; omega) (off := o) ?_ (of_decide_eq_true ht.1) hk⟩
            rw [z_toInt hr, ← Array.getElem?_toList]
            exact ho
          · cases hef
      · cases hef
    · cases hef
  all_goals first
    | (cases hef; done)
    | (simp only [eff, ldI, ldR, stI, stR, bin, nx, natC, cal, aldI] at hef
       (repeat' split at hef)
       all_goals (cases hef; done))
end INV
end
section
/-! SOUNDNESS: what the abstract machine runs, the machine does -/
def RetAt (k pc : Nat) (v : Option AV) : Prop :=
  (∃ z, v = some (.inl z) ∧ decode (byM k) pc = .ok (.ireturn, 1) ∧ (rtM k = some .int ∨ (rtM k = some .boolean ∧ (z = 0 ∨ z = 1)))) ∨ (v = none ∧ decode (byM k) pc = .ok (.return_, 1) ∧ rtM k = none)
def wsM (k : Nat) : List Jvm.Cond := Cond.code (yM k) (byM k) (mxM k) (rtM k) :: bigW
/-- the codes are checked -/
def Chs : Prop := ∀ k, k < NM → chM k = true
theorem chs_at (hC : Chs) {k L : Nat} (hk : k < NM) (hL : (lbM k).contains L = true) : maB k L (P k L) = true := by
  have h := hC k hk
  unfold chM at h
  rw [Bool.and_eq_true] at h
  exact List.all_eq_true.mp h.2 L (by simpa using hL)
theorem chs_0 (hC : Chs) {k : Nat} (hk : k < NM) : maB k 0 (P k 0) = true := by
  have h := hC k hk
  unfold chM at h
  rw [Bool.and_eq_true] at h
  exact chs_at hC hk h.1
theorem lget_map : ∀ (as : List AV) (i n : Nat) (v : AV), lget (as.map some ++ List.replicate n none) i = some v → as[i]? = some v
  | [], i, n, v, h => by
    exfalso
    have : ∀ (n i : Nat), lget (List.replicate n (none : Option AV)) i = none := by
      intro n
      induction n with
      | zero => intro i; rfl
      | succ n ih =>
        intro i
        cases i with
        | zero => rfl
        | succ i => exact ih i
    rw [List.map_nil, List.nil_append, this] at h
    cases h
  | a :: as, 0, n, v, h => h
  | a :: as, i + 1, n, v, h => lget_map as i n v h
theorem sl_map : ∀ as : List AV, lg_sl (as.map con) = as.map (fun v => Slot.val (con v))
  | [] => rfl
  | a :: as => by
    have h := sl_map as
    unfold lg_sl at h ⊢
    rw [List.map_cons, List.flatMap_cons, h, if_neg (by rw [con_cat]; decide)]
    rfl
theorem ent_locR {k : Nat} {as : List AV} (h : as.length ≤ mxM k) : locR ((lg_sl (as.map con) ++ List.replicate (mxM k - (lg_sl (as.map con)).length) Slot.unset).toArray) (mxM k) (ent k as) := by
  have hlen : (lg_sl (as.map con)).length = as.length := by rw [sl_map, List.length_map]
  obtain ⟨h1, h2, -⟩ := lv_entry (as.map con) (n := mxM k) (by rw [hlen]; exact h)
  refine ⟨h1, h2, fun i v hv => ?_⟩
  have hi := lget_map as i _ v hv
  rw [List.getElem?_toArray, List.getElem?_append_left (by rw [hlen]; exact (List.getElem?_eq_some_iff.mp hi).1), sl_map, List.getElem?_map, hi]
  rfl
theorem meth_word (hT : Tbs) {o i kk : Nat} (h : methT.contains [o, i, kk] = true) : (Jvm.Cond.methodLink (RN o) i (yM kk)) ∈ bigW := by
  have h1 : [o, i, kk] ∈ methT := by simpa using h
  rw [t_okC_map hT] at h1
  obtain ⟨e, he, he2⟩ := List.mem_map.mp h1
  have h2 := List.all_eq_true.mp (t_okC_all hT) e he
  unfold okC at h2
  have e0 : at4 e 0 = o ∧ at4 e 1 = i ∧ at4 e 2 = kk := by
    match e, he2 with
    | x0 :: x1 :: x2 :: _, he2 =>
      simp only [List.take_succ_cons, List.take_zero, List.cons.injEq, and_true] at he2
      exact he2
    | [], he2 => cases he2
    | [_], he2 => cases he2
    | [_, _], he2 => cases he2
  obtain ⟨rfl, rfl, rfl⟩ := e0
  exact inP_mem h2
/-- what the words say of a method -/
theorem okM_spec (hT : Tbs) {k : Nat} (hk : k < 163) : Cond.code (yM k) (byM k) (mxM k) (rtM k) ∈ bigW ∧ (stM k = true → Cond.static (yM k) ∈ bigW) ∧ (stM k = false → Cond.instanceMethod (yM k) ∈ bigW) ∧ (stM k = false → inM k = false → Cond.selects (RN (clM k)) (yM k) (yM k) ∈ bigW) ∧ Cond.initialized (RN (clM k)) ∈ bigW ∧ (yM k).cls = RN (clM k) ∧ plainName (yM k).cls = true ∧
    ((yM k).cls ≠ "java/lang/invoke/MethodHandle" ∧ (yM k).cls ≠ "java/lang/invoke/VarHandle") ∧ (parseMethodDescriptor (yM k).desc).map (fun d => d.parameters.length) = some (naM k - (if stM k then 0 else 1)) ∧ (inM k = true → (yM k).name = "<init>" ∧ rtM k = none) ∧ naM k ≤ mxM k ∧ (1 ≤ naM k ∨ stM k = true) ∧ clM k < 7 ∧ 8 + (mxM k + 11) ≤ 40 := by
  have h := t_okM hT k hk
  unfold okM at h
  simp only [Bool.and_eq_true, decide_eq_true_eq] at h
  obtain ⟨⟨⟨⟨⟨⟨⟨⟨⟨⟨⟨a1, a2⟩, a3⟩, a4⟩, a5⟩, a6⟩, a7⟩, a8⟩, a9⟩, a10⟩, a11⟩, a12⟩ := h
  refine ⟨inP_mem a1, fun q => ?_, fun q => ?_, fun q q2 => ?_, inP_mem a3, a4, a5, a6, a7, fun q => ?_, a9, a10, a11, a12⟩
  · rw [if_pos q] at a2; exact inP_mem a2
  · rw [if_neg (by rw [q]; decide), Bool.and_eq_true] at a2; exact inP_mem a2.1
  · rw [if_neg (by rw [q]; decide), Bool.and_eq_true, q2, Bool.false_or] at a2; exact inP_mem a2.2
  · rw [q] at a8; simpa using a8
theorem big_good {w : Jvm.Cond} (h : w ∈ bigW) : (w.onTables && w.keeps) = true ∨ ∃ ty, w = .arrayClass ty := good_of_word (List.mem_filter.mp h).2
theorem con_app (v : Option AV) (rest : List AV) : (v.toList ++ rest).map con = (v.map con).toList ++ rest.map con := by
  cases v <;> simp
section SNT
variable {D : va_G} {cA : Nat → ClassId} {b0 : Nat} {zt : Nat → Nat}
/-- the soundness of runs of n steps, from any state of any method -/
def Snd (D : va_G) (cA : Nat → ClassId) (b0 : Nat) (zt : Nat → Nat) (n : Nat) : Prop := ∀ (k : Nat) (c : List RI) (ls : LsT) (st : List AV) (σ : Sto) (v : Option AV) (σ' : Sto), run zt n k c ls st σ = some (v, σ') →
  ∀ (p : Program) (l : Launch) (e : Env) (R : Room) (s : State) (m : MethodId) (args : Array Value) (below : List Frame) (meth : Method) (cd : Code) (H : Heap) (locs : List Loc) (cells slots : Nat) (Q : State → Prop) (pc : Nat) (lsA : Array Slot),
  k < NM → Cx D cA p s args m meth cd k → maB k pc c = true → dpM k ≤ R.frames → 40 * dpM k ≤ R.locals → locR lsA (mxM k) ls → Rep D cA b0 zt s σ H → (∀ x ∈ locs, b0 ≤ x.base) → topS σ' + cells ≤ topS σ + R.cells → usdS σ' + slots ≤ usdS σ + R.slots →
  (∀ (pc' : Nat) (H' : Heap) (locs' : List Loc) (lsA' : Array Slot) (cells' slots' : Nat), RetAt k pc' v → Rep D cA b0 zt s σ' H' → (∀ x ∈ locs', b0 ≤ x.base) → topS σ' + cells = topS σ + cells' → usdS σ' + slots = usdS σ + slots' → W p l e R s m args below meth cd H' locs' cells' slots' Q (F0 m pc' lsA' (v.toList.map con))) →
  W p l e R s m args below meth cd H locs cells slots Q (F0 m pc lsA (st.map con))
/-- a callee's contract for one run of it -/
def PcM (D : va_G) (cA : Nat → ClassId) (b0 : Nat) (zt : Nat → Nat) (as : List AV) (σ : Sto) : Array Value → State → Prop := va_Pc (as.map con) (fun U => Rep D cA b0 zt U σ U.heap ∧ Kx D cA U)
def QcM (D : va_G) (cA : Nat → ClassId) (b0 : Nat) (zt : Nat → Nat) (v : Option AV) (σ' : Sto) : Array Value → State → Outcome → State → Prop := fun _ _ o t => o = .returned (v.map con) ∧ Rep D cA b0 zt t σ' t.heap
def rmM (k mc ms : Nat) : Room := { frames := dpM k, cells := mc, slots := ms, locals := 40 * dpM k }
theorem met_run (hT : Tbs) (hC : Chs) {n k : Nat} (hS : Snd D cA b0 zt n) (hk : k < 163) {as : List AV} (has : as.length = naM k) {σ σ' : Sto} {v : Option AV} (hr : run zt n k (P k 0) (ent k as) [] σ = some (v, σ')) (l : Launch) :
    Met l (yM k) (wsM k) (rmM k (topS σ' - topS σ) (usdS σ' - usdS σ)) (PcM D cA b0 zt as σ) (QcM D cA b0 zt v σ') (topS σ' - topS σ) (usdS σ' - usdS σ) (fun q => b0 ≤ q) := by
  obtain ⟨o1, o2, o3, o4, o5, o6, o7, o8, o9, o10, o11, o12, o13, o14⟩ := okM_spec hT hk
  have hmono := run_mono n _ _ _ _ _ _ _ hr
  have hNM : k < NM := Nat.lt_trans hk (by decide)
  refine Met.ofW (cc := byM k) (maxL := mxM k) (ret := rtM k) o7 rfl ?_
  intro p e s m args below meth c s₁ B hml hv
  obtain ⟨rfl, hR, hK⟩ := hv
  have hts := atoms_spec (ws := wsM k) B.pre
  have hown : s.vm.findClass (yM k).cls = some m.cls := findClass_of_methodNamed B.named
  rw [o6] at hown
  have hlocks := B.notSynchronized
  have hret := B.returns
  have hin : meth.name = (yM k).name := (name_of_methodNamed B.named B.method).1
  rw [lg_entry_eq]
  have hCx : Cx D cA p s (as.map con).toArray m meth c k := ⟨B.exec, B.bytes, hml, hown, fun w hw => hts w (List.mem_cons_of_mem _ hw), fun q => by rw [hin]; exact (o10 q).1, hK, hT⟩
  refine hS k (P k 0) (ent k as) [] σ v σ' hr p l e _ s m _ below meth c s.heap [] 0 0 _ 0 _ hNM hCx (chs_0 hC hNM) (Nat.le_refl _) (Nat.le_refl _) (ent_locR (by rw [has]; exact o11)) hR (fun x hx => by cases hx) ?_ ?_ ?_
  · show topS σ' + 0 ≤ topS σ + (topS σ' - topS σ)
    have := hmono.1; omega
  · show usdS σ' + 0 ≤ usdS σ + (usdS σ' - usdS σ)
    have := hmono.2; omega
  · intro pc' H' locs' lsA' cells' slots' hRA hR' hlo' ec es
    have e1 : cells' = topS σ' - topS σ := by omega
    have e2 : slots' = usdS σ' - usdS σ := by omega
    subst e1; subst e2
    have hq : ∀ t : State, t.heap = H' → s.WarmedH t.vm → QcM D cA b0 zt v σ' (as.map con).toArray s (.returned (v.map con)) t := fun t h1 h2 => ⟨rfl, by rw [h1]; exact hR'.moved h2.alike⟩
    rcases hRA with ⟨z, rfl, hd, hty⟩ | ⟨rfl, hd, hty⟩
    · rcases hty with hty | ⟨hty, hz⟩
      · exact W.iret (v := Int32.ofInt z) B.exec B.bytes (hret.trans hty) hq hlo' hd
      · exact W.zret (v := Int32.ofInt z) (ty := .boolean) B.exec B.bytes (hret.trans hty) (by rcases hz with rfl | rfl <;> rfl) hq hlo' hd
    · exact W.vret B.exec B.bytes (hret.trans hty) hq hlo' hd
theorem pc_blind {as : List AV} {σ : Sto} : FrameBlind (PcM D cA b0 zt as σ) := by
  intro a U g mk h
  exact ⟨h.1, Rep.moved (Vm.Alike.refl U.vm) h.2.1, va_K.moved (u := U) (U := U.calling g mk a) (Vm.Alike.refl U.vm) h.2.2.1, h.2.2.2.1.same rfl rfl, h.2.2.2.2.1.same rfl rfl, va_AO.moved (Vm.Alike.refl U.vm) h.2.2.2.2.2.1, va_AO.moved (Vm.Alike.refl U.vm) h.2.2.2.2.2.2⟩
end SNT
end
section
/-! SOUNDNESS, the induction -/
section SNU
variable {D : va_G} {cA : Nat → ClassId} {b0 : Nat} {zt : Nat → Nat} {k pc pc' : Nat} {ls ls' : LsT} {st st' : List AV} {σ σ' : Sto}
set_option maxHeartbeats 8000000 in
theorem eff_nt {q : RI} {o : LsT × List AV × Sto} (h : eff zt q ls st σ = some (.inl o)) : isSw q.1 = false ∧ isTm q.1 = false := by
  obtain ⟨i, y⟩ := q
  cases i
  case goto off => cases h
  case tableswitch d lo hi offs =>
    simp only [eff, jp] at h
    (repeat' split at h)
    all_goals cases h
  case ireturn =>
    simp only [eff] at h
    (repeat' split at h)
    all_goals cases h
  case return_ =>
    simp only [eff] at h
    (repeat' split at h)
    all_goals cases h
  all_goals exact ⟨rfl, rfl⟩
theorem cal_spec {y : List Nat} {k' : Nat} {as rest : List AV} (h : cal y st σ = some (.inr (.inr (.inl (k', as, rest))))) : ∃ na rk, y = [k', na, rk] ∧ na ≤ st.length ∧ st.length ≤ na + 7 ∧ rcB σ rk as = true ∧ as = (st.take na).reverse ∧ rest = st.drop na := by
  unfold cal at h
  split at h
  · next k0 na rk =>
    split at h
    · next hh =>
      cases h
      exact ⟨na, rk, rfl, hh.1, hh.2.1, hh.2.2, rfl, rfl⟩
    · cases h
  · cases h
theorem run_on {p : Program} {l : Launch} {e : Env} {R : Room} {s : State} {m : MethodId} {args : Array Value} {below : List Frame} {meth : Method} {c : Code} {H : Heap} {locs : List Loc} {cells slots mc ms : Nat} {Q : State → Prop} {lsA : Array Slot} {st0 rest : List Value} {v1 : Option AV} {σ1 : Sto} {arr : Array Value}
    (hr : va_Run p l e R s m args below meth c H locs cells slots mc ms (F0 m pc lsA st0) rest (QcM D cA b0 zt v1 σ1 arr) (fun q => b0 ≤ q)) (hlo : ∀ x ∈ locs, b0 ≤ x.base)
    (kk : ∀ (H1 : Heap) (locs1 : List Loc), Rep D cA b0 zt s σ1 H1 → (∀ x ∈ locs1, b0 ≤ x.base) → W p l e R s m args below meth c H1 locs1 (cells + mc) (slots + ms) Q (F0 m (pc + 3) lsA ((v1.map con).toList ++ rest))) : W p l e R s m args below meth c H locs cells slots Q (F0 m pc lsA st0) := by
  intro T hT X
  obtain ⟨v0, st₀, t, T', L, h0, X', hL, e1, e2, ⟨hv, hRep⟩, stp⟩ := hr T hT X
  cases hv
  have hRs : Rep D cA b0 zt s σ1 T'.heap := by
    rw [e1]
    refine hRep.moved ?_
    rw [← e2]
    exact X'.warmed.alike.symm
  obtain ⟨t2, a1, b1⟩ := kk T'.heap (locs ++ L) hRs (fun x hx => by
    rcases List.mem_append.mp hx with q | q
    · exact hlo x q
    · exact hL x q) T' rfl X'
  exact ⟨t2, stp t2 a1, b1⟩
theorem call_b (hT : Tbs) {p : Program} {R : Room} {s : State} {m : MethodId} {args : Array Value} {meth : Method} {c : Code} {i k' na rk mc ms : Nat} {sf : Bool} (C : Cx D cA p s args m meth c k) (hm : mtB k i k' na rk sf = true) (hfr : dpM k ≤ R.frames) (hlc : 40 * dpM k ≤ R.locals) :
    k' < 163 ∧ stM k' = sf ∧ naM k' = na ∧ rk = (if sf then 0 else 10 + clM k') ∧ CallB R s args (RN (clM k)) i (yM k') (byM k') (mxM k') (rtM k') (wsM k') (rmM k' mc ms) mc ms (na - (if sf then 0 else 1)) := by
  unfold mtB at hm
  simp only [Bool.and_eq_true, decide_eq_true_eq, beq_iff_eq] at hm
  obtain ⟨⟨⟨⟨⟨h1, h2⟩, h3⟩, h4⟩, h5⟩, h6⟩ := hm
  have hk' : k' < 163 := by
    have : NM = 164 := rfl
    omega
  obtain ⟨o1, o2, o3, o4, o5, o6, o7, o8, o9, o10, o11, o12, o13, o14⟩ := okM_spec hT hk'
  obtain ⟨hx, hb, hmc, hown, hts, hin, hK, -⟩ := C
  refine ⟨hk', h2, h3, h4, rfl, rfl, ?_, ?_, ?_, List.mem_cons_self, hts _ o1, ?_, o8, ?_, hts _ (meth_word hT h1)⟩
  · show dpM k' + 1 ≤ R.frames
    omega
  · show 8 + (mxM k' + 11) + 40 * dpM k' ≤ R.locals
    omega
  · intro w hw a' U hW
    have hw2 : w ∈ bigW := by
      rcases List.mem_cons.mp hw with rfl | q
      · exact o1
      · exact q
    exact word_at hW (big_good hw2) (hts _ hw2)
  · rw [o6]; exact hts _ o5
  · intro sig hsig
    rw [hsig] at o9
    have := Option.some.inj o9
    rw [h2, h3] at this
    exact this.symm
set_option maxHeartbeats 8000000 in
theorem sound (hT : Tbs) (hC : Chs) : ∀ n, Snd D cA b0 zt n
  | 0 => fun k c ls st σ v σ' h => by cases h
  | n + 1 => by
    have ih := sound hT hC n
    intro k c ls st σ v σ' h p l e R s m args below meth cd H locs cells slots Q pc lsA hk Cxx hma hfr hlc hl hR hlo hcl hsl kk
    have C0 := Cxx
    obtain ⟨hx, hb, hmc, hown, hts, hin, hK, -⟩ := Cxx
    cases c with
    | nil => cases h
    | cons q c =>
      simp only [run] at h
      unfold maB at hma
      by_cases hnop : isNop q.1 = true
      · rw [if_pos hnop] at hma
        simp only [Bool.and_eq_true, beq_iff_eq] at hma
        obtain ⟨i, y⟩ := q
        cases i <;> first | (cases hnop; done) | skip
        have h2 : run zt n k (P k (x0 y)) ls st σ = some (v, σ') := h
        have hpc : pc = x0 y := hma.1
        rw [← hpc] at h2
        exact ih k _ _ _ _ _ _ h2 p l e R s m args below meth cd H locs cells slots Q pc lsA hk C0 (chs_at hC hk hma.2) hfr hlc hl hR hlo hcl hsl kk
      · rw [if_neg hnop] at hma
        have hnop2 : isNop q.1 = false := by simpa using hnop
        split at hma
        · next r hd0 =>
          simp only [Bool.and_eq_true, Bool.or_eq_true, decide_eq_true_eq] at hma
          obtain ⟨⟨⟨hr1, hr2⟩, he⟩, hnx⟩ := hma
          have hd : decode (byM k) pc = .ok (q.1, r.2) := by rw [hd0, ← hr1]
          split at h
          · cases h
          · next ls' st' σ1 hef =>
            obtain ⟨hns, hnt⟩ := eff_nt hef
            have hr3 : r.2 = lenI q.1 := hr2.resolve_left (by rw [hns]; decide)
            rw [hr3] at hd
            have hm2 : maB k (pc + lenI q.1) c = true := hnx.resolve_left (by rw [hnt]; decide)
            have hmo := run_mono n _ _ _ _ _ _ _ h
            refine s_next C0 hd he ⟨hfr, hlc⟩ hl hR hlo (by omega) (by omega) hef (fun H' locs' lsA' cells' slots' hl' hR' hlo' e1 e2 => ?_)
            exact ih k _ _ _ _ _ _ h p l e R s m args below meth cd H' locs' cells' slots' Q _ lsA' hk C0 hm2 hfr hlc hl' hR' hlo' (by omega) (by omega) (fun pc' H2 locs2 lsA2 cells2 slots2 q1 q2 q3 q4 q5 => kk pc' H2 locs2 lsA2 cells2 slots2 q1 q2 q3 (by omega) (by omega))
          · next L st' hef =>
            obtain ⟨hlb, hj⟩ := s_jump (H := H) (locs := locs) (cells := cells) (slots := slots) (Q := Q) (lsA := lsA) C0 hd hr2 hnop2 he hef
            exact hj (ih k _ _ _ _ _ _ h p l e R s m args below meth cd H locs cells slots Q L lsA hk C0 (chs_at hC hk hlb) hfr hlc hl hR hlo hcl hsl kk)
          · next k' as rest hef =>
            split at h
            · next v1 σ1 hrun =>
              have hmo := run_mono n _ _ _ _ _ _ _ h
              have hmo1 := run_mono n _ _ _ _ _ _ _ hrun
              obtain ⟨hcal, hq⟩ := eff_cal hef
              obtain ⟨hns, hnt⟩ : isSw q.1 = false ∧ isTm q.1 = false := by rcases hq with ⟨i, hi⟩ | ⟨i, hi, -⟩ | ⟨i, hi, -⟩ <;> rw [hi] <;> exact ⟨rfl, rfl⟩
              have hlen3 : lenI q.1 = 3 := by rcases hq with ⟨i, hi⟩ | ⟨i, hi, -⟩ | ⟨i, hi, -⟩ <;> rw [hi] <;> rfl
              have hr3 : r.2 = 3 := (hr2.resolve_left (by rw [hns]; decide)).trans hlen3
              rw [hr3] at hd
              have hm2 : maB k (pc + 3) c = true := by rw [← hlen3]; exact hnx.resolve_left (by rw [hnt]; decide)
              obtain ⟨na, rk, hy, hle, hle2, hrc, has, hrest⟩ := cal_spec hcal
              have hst : st = as.reverse ++ rest := by rw [has, hrest, List.reverse_reverse, List.take_append_drop]
              have haslen : as.length = na := by rw [has, List.length_reverse, List.length_take]; omega
              have hrl : rest.length ≤ 7 := by rw [hrest, List.length_drop]; omega
              have hroom : 2 * (F0 m pc lsA (st.map con)).monitorRoom + ((rest.map con).map fun v => v.category).sum ≤ 8 := lv_room (by rw [con_sum]; omega)
              have hf : cells + (topS σ1 - topS σ) ≤ R.cells ∧ slots + (usdS σ1 - usdS σ) ≤ R.slots := ⟨by omega, by omega⟩
              have hCF : CallFix p m cd (byM k) (mxM k) s args bigW (RN (clM k)) := ⟨hx, hb, hmc, hown, hts⟩
              have hPc : ∀ U : State, U.heap = H → s.WarmedH U.vm → PcM D cA b0 zt as σ (as.map con).toArray U := fun U hU hW => ⟨rfl, by rw [hU]; exact hR.moved hW.alike, hK.warm hW⟩
              have hgo : ∀ (H1 : Heap) (locs1 : List Loc), Rep D cA b0 zt s σ1 H1 → (∀ x ∈ locs1, b0 ≤ x.base) → W p l e R s m args below meth cd H1 locs1 (cells + (topS σ1 - topS σ)) (slots + (usdS σ1 - usdS σ)) Q (F0 m (pc + 3) lsA ((v1.map con).toList ++ rest.map con)) := by
                intro H1 locs1 hR1 hlo1
                rw [← con_app]
                exact ih k _ _ _ _ _ _ h p l e R s m args below meth cd H1 locs1 _ _ Q _ lsA hk C0 hm2 hfr hlc hl hR1 hlo1 (by omega) (by omega) (fun pc' H2 locs2 lsA2 cells2 slots2 q1 q2 q3 q4 q5 => kk pc' H2 locs2 lsA2 cells2 slots2 q1 q2 q3 (by omega) (by omega))
              obtain ⟨i0, y⟩ := q
              have hy2 : y = [k', na, rk] := hy
              subst hy2
              rcases hq with ⟨i, hi⟩ | ⟨i, hi, h1000⟩ | ⟨i, hi, h1000⟩
              · have hi2 : i0 = .invokevirtual i := hi
                subst hi2
                obtain ⟨k2, na2, rk2, he1, he2⟩ := ex_v he
                cases he1
                rw [Bool.and_eq_true] at he2
                obtain ⟨hk', hst', hna', hrk, hCB⟩ := call_b (mc := topS σ1 - topS σ) (ms := usdS σ1 - usdS σ) hT C0 he2.1 hfr hlc
                obtain ⟨o1, o2, o3, o4, o5, o6, o7, o8, o9, o10, o11, o12, o13, o14⟩ := okM_spec hT hk'
                have hM := met_run hT hC ih hk' (haslen.trans hna'.symm) hrun l
                have hrk2 : rk = 10 + clM k' := hrk
                obtain ⟨b, asT, N, hasb, hsb⟩ : ∃ b asT N, as = .inr (some b) :: asT ∧ shp σ b = some (rk, N) := by
                  unfold rcB at hrc
                  rw [Bool.or_eq_true] at hrc
                  rcases hrc with hz | hz
                  · rw [beq_iff_eq] at hz; omega
                  · split at hz
                    · next b tl =>
                      split at hz
                      · next kd N hs =>
                        rw [beq_iff_eq] at hz
                        exact ⟨b, tl, N, rfl, by rw [hs, hz]⟩
                      · cases hz
                    · cases hz
                obtain ⟨ci, e1, -, ⟨cellB, g1, g2, g3, -⟩, -⟩ := (hR.2.2.1 b rk N hsb).2.2.2 (by omega)
                have e2 : ci = clM k' := by omega
                have hfc := (hK.1.1 ci _ (cl_at (by omega))).2.1
                rw [e2] at hfc g2
                have hin' : inM k' = false := by simpa using he2.2
                subst hasb
                refine run_on (va_runV (rest := rest.map con) (As := asT.map con) (b := b) hCF hM ⟨hCB, hts _ (o3 hst'), hts _ (o4 hst' hin')⟩ ⟨pc_blind, ⟨cellB, g1, by rw [g3]; rfl, by rw [g2]; exact hfc⟩, hPc⟩ rfl ?_ hl.1 ?_ hroom hd hf) hlo hgo
                · rw [List.length_map]
                  have : asT.length + 1 = na := haslen
                  simp only [Bool.false_eq_true, if_false]
                  omega
                · show st.map con = _
                  rw [hst]
                  simp [con]
              · have hi2 : i0 = .invokestatic i := hi
                subst hi2
                obtain ⟨k2, na2, rk2, he1, he2⟩ := ex_s he
                cases he1
                rw [if_neg (show ¬ 1000 ≤ k' from h1000)] at he2
                obtain ⟨hk', hst', hna', hrk, hCB⟩ := call_b (mc := topS σ1 - topS σ) (ms := usdS σ1 - usdS σ) hT C0 he2 hfr hlc
                obtain ⟨o1, o2, o3, o4, o5, o6, o7, o8, o9, o10, o11, o12, o13, o14⟩ := okM_spec hT hk'
                have hM := met_run hT hC ih hk' (haslen.trans hna'.symm) hrun l
                refine run_on (va_runS (rest := rest.map con) (As := as.map con) hCF hM ⟨hCB, hts _ (o2 hst')⟩ ⟨pc_blind, hPc⟩ rfl ?_ hl.1 ?_ hroom hd hf) hlo hgo
                · rw [List.length_map, haslen]; rfl
                · show st.map con = _
                  rw [hst]
                  simp
              · have hi2 : i0 = .invokespecial i := hi
                subst hi2
                obtain ⟨k2, na2, rk2, he1, he2⟩ := ex_i he
                cases he1
                rw [if_neg (show ¬ 1000 ≤ k' from h1000), Bool.and_eq_true] at he2
                obtain ⟨hk', hst', hna', hrk, hCB⟩ := call_b (mc := topS σ1 - topS σ) (ms := usdS σ1 - usdS σ) hT C0 he2.1 hfr hlc
                obtain ⟨o1, o2, o3, o4, o5, o6, o7, o8, o9, o10, o11, o12, o13, o14⟩ := okM_spec hT hk'
                have hM := met_run hT hC ih hk' (haslen.trans hna'.symm) hrun l
                have hrk2 : rk = 10 + clM k' := hrk
                obtain ⟨b, asT, hasb⟩ : ∃ b asT, as = .inr (some b) :: asT := by
                  unfold rcB at hrc
                  rw [Bool.or_eq_true] at hrc
                  rcases hrc with hz | hz
                  · rw [beq_iff_eq] at hz; omega
                  · split at hz
                    · next b tl => exact ⟨b, tl, rfl⟩
                    · cases hz
                have hrt := (o10 he2.2).2
                rw [hrt] at hCB
                subst hasb
                refine run_on (va_runI (rest := rest.map con) (As := asT.map con) (b := b) hCF hM ⟨hCB, (o10 he2.2).1, hts _ (o3 hst')⟩ ⟨pc_blind, hPc⟩ rfl ?_ hl.1 ?_ hroom hd hf) hlo hgo
                · rw [List.length_map]
                  have : asT.length + 1 = na := haslen
                  simp only [Bool.false_eq_true, if_false]
                  omega
                · show st.map con = _
                  rw [hst]
                  simp [con]
            · cases h
          · next v2 hef =>
            cases h
            have hrt : RetAt k pc v ∧ st = v.toList := by
              rcases eff_ret hef with ⟨hi, z, h1, h2, h3⟩ | ⟨hi, h1, h2⟩
              · have hr3 : r.2 = 1 := by
                  have := hr2.resolve_left (by rw [hi]; decide)
                  rw [this, hi]; rfl
                refine ⟨Or.inl ⟨z, h2, by rw [hd, hr3, hi], ?_⟩, by rw [h1, h2]; rfl⟩
                obtain ⟨i0, y⟩ := q
                have hi2 : i0 = .ireturn := hi
                subst hi2
                have he2 : ((x0 y == 0 && decide (rtM k = some .int)) || (x0 y == 1 && decide (rtM k = some .boolean))) = true := he
                simp only [Bool.or_eq_true, Bool.and_eq_true, beq_iff_eq, decide_eq_true_eq] at he2
                rcases he2 with q | q
                · exact Or.inl q.2
                · refine Or.inr ⟨q.2, ?_⟩
                  have h4 : x0 y = 0 ∨ z = 0 ∨ z = 1 := h3
                  rcases h4 with h4 | h4
                  · omega
                  · exact h4
              · have hr3 : r.2 = 1 := by
                  have := hr2.resolve_left (by rw [hi]; decide)
                  rw [this, hi]; rfl
                refine ⟨Or.inr ⟨h2, by rw [hd, hr3, hi], ?_⟩, by rw [h1, h2]; rfl⟩
                obtain ⟨i0, y⟩ := q
                have hi2 : i0 = .return_ := hi
                subst hi2
                exact of_decide_eq_true he
            rw [hrt.2]
            exact kk pc H locs lsA cells slots hrt.1 hR hlo rfl rfl
        · cases hma
end SNU
end
