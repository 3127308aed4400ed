section
-- ===== PART A: goes FIRST, ahead of the names: the tables' words, and 'selects' of the private methods out of them =====
/-- a private method of a class that the tables say can be made, by its rows of tables_1 -/
def lw_okq (q : MethodName × Nat) : Prop := (q.1.cls ≠ "java/lang/invoke/MethodHandle" ∧ q.1.cls ≠ "java/lang/invoke/VarHandle") ∧ Cond.instantiable q.1.cls q.2 ∈ tables_1 ∧ Cond.privateMethod q.1 ∈ tables_1 ∧ Cond.instanceMethod q.1 ∈ tables_1
theorem lw_p0 : lw_okq (⟨"OneFromEachLane", "refuse", "(I)I"⟩, 11) := ⟨⟨by decide +kernel, by decide +kernel⟩, List.mem_of_getElem? (i := 17) (by decide +kernel), List.mem_of_getElem? (i := 228) (by decide +kernel), List.mem_of_getElem? (i := 229) (by decide +kernel)⟩
theorem lw_p1 : lw_okq (⟨"OneFromEachLane$Text", "formFault", "()I"⟩, 2) := ⟨⟨by decide +kernel, by decide +kernel⟩, List.mem_of_getElem? (i := 76) (by decide +kernel), List.mem_of_getElem? (i := 249) (by decide +kernel), List.mem_of_getElem? (i := 250) (by decide +kernel)⟩
theorem lw_p2 : lw_okq (⟨"OneFromEachLane$Text", "isInForm", "(II)Z"⟩, 2) := ⟨⟨by decide +kernel, by decide +kernel⟩, List.mem_of_getElem? (i := 76) (by decide +kernel), List.mem_of_getElem? (i := 253) (by decide +kernel), List.mem_of_getElem? (i := 254) (by decide +kernel)⟩
theorem lw_p3 : lw_okq (⟨"OneFromEachLane$Text", "letterAt", "(I)I"⟩, 2) := ⟨⟨by decide +kernel, by decide +kernel⟩, List.mem_of_getElem? (i := 76) (by decide +kernel), List.mem_of_getElem? (i := 257) (by decide +kernel), List.mem_of_getElem? (i := 258) (by decide +kernel)⟩
theorem lw_p4 : lw_okq (⟨"OneFromEachLane$Text", "kindAt", "(I)I"⟩, 2) := ⟨⟨by decide +kernel, by decide +kernel⟩, List.mem_of_getElem? (i := 76) (by decide +kernel), List.mem_of_getElem? (i := 264) (by decide +kernel), List.mem_of_getElem? (i := 265) (by decide +kernel)⟩
theorem lw_p5 : lw_okq (⟨"OneFromEachLane$Text", "tellStatement", "(ILOneFromEachLane$Road;)Z"⟩, 2) := ⟨⟨by decide +kernel, by decide +kernel⟩, List.mem_of_getElem? (i := 76) (by decide +kernel), List.mem_of_getElem? (i := 359) (by decide +kernel), List.mem_of_getElem? (i := 360) (by decide +kernel)⟩
theorem lw_p6 : lw_okq (⟨"OneFromEachLane$Text", "digitAt", "(I)I"⟩, 2) := ⟨⟨by decide +kernel, by decide +kernel⟩, List.mem_of_getElem? (i := 76) (by decide +kernel), List.mem_of_getElem? (i := 363) (by decide +kernel), List.mem_of_getElem? (i := 364) (by decide +kernel)⟩
theorem lw_p7 : lw_okq (⟨"OneFromEachLane$Text", "tellCar", "(ILOneFromEachLane$Road;)Z"⟩, 2) := ⟨⟨by decide +kernel, by decide +kernel⟩, List.mem_of_getElem? (i := 76) (by decide +kernel), List.mem_of_getElem? (i := 367) (by decide +kernel), List.mem_of_getElem? (i := 368) (by decide +kernel)⟩
theorem lw_p8 : lw_okq (⟨"OneFromEachLane$Road", "lineIndex", "(I)I"⟩, 8) := ⟨⟨by decide +kernel, by decide +kernel⟩, List.mem_of_getElem? (i := 25) (by decide +kernel), List.mem_of_getElem? (i := 395) (by decide +kernel), List.mem_of_getElem? (i := 396) (by decide +kernel)⟩
theorem lw_p9 : lw_okq (⟨"OneFromEachLane$Passage", "lineUp", "(LOneFromEachLane$Road;I)V"⟩, 14) := ⟨⟨by decide +kernel, by decide +kernel⟩, List.mem_of_getElem? (i := 90) (by decide +kernel), List.mem_of_getElem? (i := 463) (by decide +kernel), List.mem_of_getElem? (i := 464) (by decide +kernel)⟩
theorem lw_p10 : lw_okq (⟨"OneFromEachLane$Passage", "isLeftNext", "(LOneFromEachLane$Road;)Z"⟩, 14) := ⟨⟨by decide +kernel, by decide +kernel⟩, List.mem_of_getElem? (i := 90) (by decide +kernel), List.mem_of_getElem? (i := 467) (by decide +kernel), List.mem_of_getElem? (i := 468) (by decide +kernel)⟩
theorem lw_p11 : lw_okq (⟨"OneFromEachLane$Passage", "goThrough", "(LOneFromEachLane$Road;I)V"⟩, 14) := ⟨⟨by decide +kernel, by decide +kernel⟩, List.mem_of_getElem? (i := 90) (by decide +kernel), List.mem_of_getElem? (i := 475) (by decide +kernel), List.mem_of_getElem? (i := 476) (by decide +kernel)⟩
theorem lw_p12 : lw_okq (⟨"OneFromEachLane$Changes", "costOf", "(LOneFromEachLane$Road;)I"⟩, 2) := ⟨⟨by decide +kernel, by decide +kernel⟩, List.mem_of_getElem? (i := 147) (by decide +kernel), List.mem_of_getElem? (i := 530) (by decide +kernel), List.mem_of_getElem? (i := 531) (by decide +kernel)⟩
theorem lw_p13 : lw_okq (⟨"OneFromEachLane$Changes", "measured", "(LOneFromEachLane$Road;Z)I"⟩, 2) := ⟨⟨by decide +kernel, by decide +kernel⟩, List.mem_of_getElem? (i := 147) (by decide +kernel), List.mem_of_getElem? (i := 566) (by decide +kernel), List.mem_of_getElem? (i := 567) (by decide +kernel)⟩
theorem lw_p14 : lw_okq (⟨"OneFromEachLane$Changes", "isReached", "(LOneFromEachLane$Road;IZI)Z"⟩, 2) := ⟨⟨by decide +kernel, by decide +kernel⟩, List.mem_of_getElem? (i := 147) (by decide +kernel), List.mem_of_getElem? (i := 576) (by decide +kernel), List.mem_of_getElem? (i := 577) (by decide +kernel)⟩
theorem lw_p15 : lw_okq (⟨"OneFromEachLane$Changes", "isWithin", "(LOneFromEachLane$Road;II)Z"⟩, 2) := ⟨⟨by decide +kernel, by decide +kernel⟩, List.mem_of_getElem? (i := 147) (by decide +kernel), List.mem_of_getElem? (i := 664) (by decide +kernel), List.mem_of_getElem? (i := 665) (by decide +kernel)⟩
def lw_privs_1 : List (MethodName × Nat) := [(⟨"OneFromEachLane", "refuse", "(I)I"⟩, 11), (⟨"OneFromEachLane$Text", "formFault", "()I"⟩, 2), (⟨"OneFromEachLane$Text", "isInForm", "(II)Z"⟩, 2), (⟨"OneFromEachLane$Text", "letterAt", "(I)I"⟩, 2), (⟨"OneFromEachLane$Text", "kindAt", "(I)I"⟩, 2), (⟨"OneFromEachLane$Text", "tellStatement", "(ILOneFromEachLane$Road;)Z"⟩, 2), (⟨"OneFromEachLane$Text", "digitAt", "(I)I"⟩, 2), (⟨"OneFromEachLane$Text", "tellCar", "(ILOneFromEachLane$Road;)Z"⟩, 2), (⟨"OneFromEachLane$Road", "lineIndex", "(I)I"⟩, 8), (⟨"OneFromEachLane$Passage", "lineUp", "(LOneFromEachLane$Road;I)V"⟩, 14), (⟨"OneFromEachLane$Passage", "isLeftNext", "(LOneFromEachLane$Road;)Z"⟩, 14), (⟨"OneFromEachLane$Passage", "goThrough", "(LOneFromEachLane$Road;I)V"⟩, 14), (⟨"OneFromEachLane$Changes", "costOf", "(LOneFromEachLane$Road;)I"⟩, 2), (⟨"OneFromEachLane$Changes", "measured", "(LOneFromEachLane$Road;Z)I"⟩, 2), (⟨"OneFromEachLane$Changes", "isReached", "(LOneFromEachLane$Road;IZI)Z"⟩, 2), (⟨"OneFromEachLane$Changes", "isWithin", "(LOneFromEachLane$Road;II)Z"⟩, 2)]
theorem lw_r1 : ∀ q ∈ lw_privs_1, lw_okq q := List.forall_mem_cons.mpr ⟨lw_p0, List.forall_mem_cons.mpr ⟨lw_p1, List.forall_mem_cons.mpr ⟨lw_p2, List.forall_mem_cons.mpr ⟨lw_p3, List.forall_mem_cons.mpr ⟨lw_p4, List.forall_mem_cons.mpr ⟨lw_p5, List.forall_mem_cons.mpr ⟨lw_p6, List.forall_mem_cons.mpr ⟨lw_p7, List.forall_mem_cons.mpr ⟨lw_p8, List.forall_mem_cons.mpr ⟨lw_p9, List.forall_mem_cons.mpr ⟨lw_p10, List.forall_mem_cons.mpr ⟨lw_p11, List.forall_mem_cons.mpr ⟨lw_p12, List.forall_mem_cons.mpr ⟨lw_p13, List.forall_mem_cons.mpr ⟨lw_p14, List.forall_mem_cons.mpr ⟨lw_p15, fun _ h => absurd h List.not_mem_nil⟩⟩⟩⟩⟩⟩⟩⟩⟩⟩⟩⟩⟩⟩⟩⟩
theorem lw_p16 : lw_okq (⟨"OneFromEachLane", "firstNotSo", "(LOneFromEachLane$Road;)I"⟩, 11) := ⟨⟨by decide +kernel, by decide +kernel⟩, List.mem_of_getElem? (i := 17) (by decide +kernel), List.mem_of_getElem? (i := 673) (by decide +kernel), List.mem_of_getElem? (i := 674) (by decide +kernel)⟩
theorem lw_p17 : lw_okq (⟨"OneFromEachLane$Choices", "drawLane", "()I"⟩, 5) := ⟨⟨by decide +kernel, by decide +kernel⟩, List.mem_of_getElem? (i := 164) (by decide +kernel), List.mem_of_getElem? (i := 697) (by decide +kernel), List.mem_of_getElem? (i := 698) (by decide +kernel)⟩
theorem lw_p18 : lw_okq (⟨"OneFromEachLaneModel", "no", "(I)I"⟩, 27) := ⟨⟨by decide +kernel, by decide +kernel⟩, List.mem_of_getElem? (i := 726) (by decide +kernel), List.mem_of_getElem? (i := 818) (by decide +kernel), List.mem_of_getElem? (i := 819) (by decide +kernel)⟩
theorem lw_p19 : lw_okq (⟨"OneFromEachLaneModel", "statement", "(Z)I"⟩, 27) := ⟨⟨by decide +kernel, by decide +kernel⟩, List.mem_of_getElem? (i := 726) (by decide +kernel), List.mem_of_getElem? (i := 826) (by decide +kernel), List.mem_of_getElem? (i := 827) (by decide +kernel)⟩
theorem lw_p20 : lw_okq (⟨"OneFromEachLaneModel", "is", "(I)Z"⟩, 27) := ⟨⟨by decide +kernel, by decide +kernel⟩, List.mem_of_getElem? (i := 726) (by decide +kernel), List.mem_of_getElem? (i := 830) (by decide +kernel), List.mem_of_getElem? (i := 831) (by decide +kernel)⟩
theorem lw_p21 : lw_okq (⟨"OneFromEachLaneModel", "digits", "(I)Z"⟩, 27) := ⟨⟨by decide +kernel, by decide +kernel⟩, List.mem_of_getElem? (i := 726) (by decide +kernel), List.mem_of_getElem? (i := 836) (by decide +kernel), List.mem_of_getElem? (i := 837) (by decide +kernel)⟩
theorem lw_p22 : lw_okq (⟨"OneFromEachLaneModel", "two", "(I)I"⟩, 27) := ⟨⟨by decide +kernel, by decide +kernel⟩, List.mem_of_getElem? (i := 726) (by decide +kernel), List.mem_of_getElem? (i := 840) (by decide +kernel), List.mem_of_getElem? (i := 841) (by decide +kernel)⟩
theorem lw_p23 : lw_okq (⟨"OneFromEachLaneModel", "inLane", "(I)I"⟩, 27) := ⟨⟨by decide +kernel, by decide +kernel⟩, List.mem_of_getElem? (i := 726) (by decide +kernel), List.mem_of_getElem? (i := 844) (by decide +kernel), List.mem_of_getElem? (i := 845) (by decide +kernel)⟩
theorem lw_p24 : lw_okq (⟨"OneFromEachLaneModel", "isCar", "(I)Z"⟩, 27) := ⟨⟨by decide +kernel, by decide +kernel⟩, List.mem_of_getElem? (i := 726) (by decide +kernel), List.mem_of_getElem? (i := 848) (by decide +kernel), List.mem_of_getElem? (i := 849) (by decide +kernel)⟩
theorem lw_p25 : lw_okq (⟨"OneFromEachLaneModel", "becomes", "(III)V"⟩, 27) := ⟨⟨by decide +kernel, by decide +kernel⟩, List.mem_of_getElem? (i := 726) (by decide +kernel), List.mem_of_getElem? (i := 855) (by decide +kernel), List.mem_of_getElem? (i := 856) (by decide +kernel)⟩
theorem lw_p26 : lw_okq (⟨"OneFromEachLaneModel", "overGoes", "(I)I"⟩, 27) := ⟨⟨by decide +kernel, by decide +kernel⟩, List.mem_of_getElem? (i := 726) (by decide +kernel), List.mem_of_getElem? (i := 859) (by decide +kernel), List.mem_of_getElem? (i := 860) (by decide +kernel)⟩
theorem lw_p27 : lw_okq (⟨"OneFromEachLaneModel", "comes", "(II)I"⟩, 27) := ⟨⟨by decide +kernel, by decide +kernel⟩, List.mem_of_getElem? (i := 726) (by decide +kernel), List.mem_of_getElem? (i := 863) (by decide +kernel), List.mem_of_getElem? (i := 864) (by decide +kernel)⟩
theorem lw_p28 : lw_okq (⟨"OneFromEachLaneModel", "closes", "(II)V"⟩, 27) := ⟨⟨by decide +kernel, by decide +kernel⟩, List.mem_of_getElem? (i := 726) (by decide +kernel), List.mem_of_getElem? (i := 867) (by decide +kernel), List.mem_of_getElem? (i := 868) (by decide +kernel)⟩
theorem lw_p29 : lw_okq (⟨"OneFromEachLaneModel", "firstStands", "(I)I"⟩, 27) := ⟨⟨by decide +kernel, by decide +kernel⟩, List.mem_of_getElem? (i := 726) (by decide +kernel), List.mem_of_getElem? (i := 871) (by decide +kernel), List.mem_of_getElem? (i := 872) (by decide +kernel)⟩
theorem lw_p30 : lw_okq (⟨"OneFromEachLaneModel", "keep", "([I)V"⟩, 27) := ⟨⟨by decide +kernel, by decide +kernel⟩, List.mem_of_getElem? (i := 726) (by decide +kernel), List.mem_of_getElem? (i := 875) (by decide +kernel), List.mem_of_getElem? (i := 876) (by decide +kernel)⟩
theorem lw_p31 : lw_okq (⟨"OneFromEachLaneModel", "again", "([I)V"⟩, 27) := ⟨⟨by decide +kernel, by decide +kernel⟩, List.mem_of_getElem? (i := 726) (by decide +kernel), List.mem_of_getElem? (i := 879) (by decide +kernel), List.mem_of_getElem? (i := 880) (by decide +kernel)⟩
def lw_privs_2 : List (MethodName × Nat) := [(⟨"OneFromEachLane", "firstNotSo", "(LOneFromEachLane$Road;)I"⟩, 11), (⟨"OneFromEachLane$Choices", "drawLane", "()I"⟩, 5), (⟨"OneFromEachLaneModel", "no", "(I)I"⟩, 27), (⟨"OneFromEachLaneModel", "statement", "(Z)I"⟩, 27), (⟨"OneFromEachLaneModel", "is", "(I)Z"⟩, 27), (⟨"OneFromEachLaneModel", "digits", "(I)Z"⟩, 27), (⟨"OneFromEachLaneModel", "two", "(I)I"⟩, 27), (⟨"OneFromEachLaneModel", "inLane", "(I)I"⟩, 27), (⟨"OneFromEachLaneModel", "isCar", "(I)Z"⟩, 27), (⟨"OneFromEachLaneModel", "becomes", "(III)V"⟩, 27), (⟨"OneFromEachLaneModel", "overGoes", "(I)I"⟩, 27), (⟨"OneFromEachLaneModel", "comes", "(II)I"⟩, 27), (⟨"OneFromEachLaneModel", "closes", "(II)V"⟩, 27), (⟨"OneFromEachLaneModel", "firstStands", "(I)I"⟩, 27), (⟨"OneFromEachLaneModel", "keep", "([I)V"⟩, 27), (⟨"OneFromEachLaneModel", "again", "([I)V"⟩, 27)]
theorem lw_r2 : ∀ q ∈ lw_privs_2, lw_okq q := List.forall_mem_cons.mpr ⟨lw_p16, List.forall_mem_cons.mpr ⟨lw_p17, List.forall_mem_cons.mpr ⟨lw_p18, List.forall_mem_cons.mpr ⟨lw_p19, List.forall_mem_cons.mpr ⟨lw_p20, List.forall_mem_cons.mpr ⟨lw_p21, List.forall_mem_cons.mpr ⟨lw_p22, List.forall_mem_cons.mpr ⟨lw_p23, List.forall_mem_cons.mpr ⟨lw_p24, List.forall_mem_cons.mpr ⟨lw_p25, List.forall_mem_cons.mpr ⟨lw_p26, List.forall_mem_cons.mpr ⟨lw_p27, List.forall_mem_cons.mpr ⟨lw_p28, List.forall_mem_cons.mpr ⟨lw_p29, List.forall_mem_cons.mpr ⟨lw_p30, List.forall_mem_cons.mpr ⟨lw_p31, fun _ h => absurd h List.not_mem_nil⟩⟩⟩⟩⟩⟩⟩⟩⟩⟩⟩⟩⟩⟩⟩⟩
theorem lw_p32 : lw_okq (⟨"OneFromEachLaneModel", "letsOf", "(I)I"⟩, 27) := ⟨⟨by decide +kernel, by decide +kernel⟩, List.mem_of_getElem? (i := 726) (by decide +kernel), List.mem_of_getElem? (i := 887) (by decide +kernel), List.mem_of_getElem? (i := 888) (by decide +kernel)⟩
theorem lw_p33 : lw_okq (⟨"OneFromEachLaneModel", "secondsOf", "(I)I"⟩, 27) := ⟨⟨by decide +kernel, by decide +kernel⟩, List.mem_of_getElem? (i := 726) (by decide +kernel), List.mem_of_getElem? (i := 892) (by decide +kernel), List.mem_of_getElem? (i := 893) (by decide +kernel)⟩
theorem lw_p34 : lw_okq (⟨"OneFromEachLaneModel", "run", "()V"⟩, 27) := ⟨⟨by decide +kernel, by decide +kernel⟩, List.mem_of_getElem? (i := 726) (by decide +kernel), List.mem_of_getElem? (i := 916) (by decide +kernel), List.mem_of_getElem? (i := 917) (by decide +kernel)⟩
theorem lw_p35 : lw_okq (⟨"OneFromEachLaneModel", "standsAt", "(II)I"⟩, 27) := ⟨⟨by decide +kernel, by decide +kernel⟩, List.mem_of_getElem? (i := 726) (by decide +kernel), List.mem_of_getElem? (i := 920) (by decide +kernel), List.mem_of_getElem? (i := 921) (by decide +kernel)⟩
theorem lw_p36 : lw_okq (⟨"OneFromEachLaneModel", "seconds", "()I"⟩, 27) := ⟨⟨by decide +kernel, by decide +kernel⟩, List.mem_of_getElem? (i := 726) (by decide +kernel), List.mem_of_getElem? (i := 932) (by decide +kernel), List.mem_of_getElem? (i := 933) (by decide +kernel)⟩
theorem lw_p37 : lw_okq (⟨"OneFromEachLaneModel", "cost", "()I"⟩, 27) := ⟨⟨by decide +kernel, by decide +kernel⟩, List.mem_of_getElem? (i := 726) (by decide +kernel), List.mem_of_getElem? (i := 936) (by decide +kernel), List.mem_of_getElem? (i := 937) (by decide +kernel)⟩
theorem lw_p38 : lw_okq (⟨"OneFromEachLaneModel", "mover", "(ZI)I"⟩, 27) := ⟨⟨by decide +kernel, by decide +kernel⟩, List.mem_of_getElem? (i := 726) (by decide +kernel), List.mem_of_getElem? (i := 952) (by decide +kernel), List.mem_of_getElem? (i := 953) (by decide +kernel)⟩
theorem lw_p39 : lw_okq (⟨"OneFromEachLaneModel", "fewest", "(II)I"⟩, 27) := ⟨⟨by decide +kernel, by decide +kernel⟩, List.mem_of_getElem? (i := 726) (by decide +kernel), List.mem_of_getElem? (i := 968) (by decide +kernel), List.mem_of_getElem? (i := 969) (by decide +kernel)⟩
theorem lw_p40 : lw_okq (⟨"OneFromEachLaneModel", "losesBy", "(II)I"⟩, 27) := ⟨⟨by decide +kernel, by decide +kernel⟩, List.mem_of_getElem? (i := 726) (by decide +kernel), List.mem_of_getElem? (i := 981) (by decide +kernel), List.mem_of_getElem? (i := 982) (by decide +kernel)⟩
theorem lw_p41 : lw_okq (⟨"OneFromEachLaneModel", "leaves", "(I)V"⟩, 27) := ⟨⟨by decide +kernel, by decide +kernel⟩, List.mem_of_getElem? (i := 726) (by decide +kernel), List.mem_of_getElem? (i := 985) (by decide +kernel), List.mem_of_getElem? (i := 986) (by decide +kernel)⟩
theorem lw_p42 : lw_okq (⟨"OneFromEachLaneModel", "waits", "(IIIIZ)I"⟩, 27) := ⟨⟨by decide +kernel, by decide +kernel⟩, List.mem_of_getElem? (i := 726) (by decide +kernel), List.mem_of_getElem? (i := 998) (by decide +kernel), List.mem_of_getElem? (i := 999) (by decide +kernel)⟩
theorem lw_p43 : lw_okq (⟨"OneFromEachLaneModel", "lucks", "(I)I"⟩, 27) := ⟨⟨by decide +kernel, by decide +kernel⟩, List.mem_of_getElem? (i := 726) (by decide +kernel), List.mem_of_getElem? (i := 1006) (by decide +kernel), List.mem_of_getElem? (i := 1007) (by decide +kernel)⟩
theorem lw_p44 : lw_okq (⟨"OneFromEachLaneModel", "wrong", "()I"⟩, 27) := ⟨⟨by decide +kernel, by decide +kernel⟩, List.mem_of_getElem? (i := 726) (by decide +kernel), List.mem_of_getElem? (i := 1038) (by decide +kernel), List.mem_of_getElem? (i := 1039) (by decide +kernel)⟩
def lw_privs_3 : List (MethodName × Nat) := [(⟨"OneFromEachLaneModel", "letsOf", "(I)I"⟩, 27), (⟨"OneFromEachLaneModel", "secondsOf", "(I)I"⟩, 27), (⟨"OneFromEachLaneModel", "run", "()V"⟩, 27), (⟨"OneFromEachLaneModel", "standsAt", "(II)I"⟩, 27), (⟨"OneFromEachLaneModel", "seconds", "()I"⟩, 27), (⟨"OneFromEachLaneModel", "cost", "()I"⟩, 27), (⟨"OneFromEachLaneModel", "mover", "(ZI)I"⟩, 27), (⟨"OneFromEachLaneModel", "fewest", "(II)I"⟩, 27), (⟨"OneFromEachLaneModel", "losesBy", "(II)I"⟩, 27), (⟨"OneFromEachLaneModel", "leaves", "(I)V"⟩, 27), (⟨"OneFromEachLaneModel", "waits", "(IIIIZ)I"⟩, 27), (⟨"OneFromEachLaneModel", "lucks", "(I)I"⟩, 27), (⟨"OneFromEachLaneModel", "wrong", "()I"⟩, 27)]
theorem lw_r3 : ∀ q ∈ lw_privs_3, lw_okq q := List.forall_mem_cons.mpr ⟨lw_p32, List.forall_mem_cons.mpr ⟨lw_p33, List.forall_mem_cons.mpr ⟨lw_p34, List.forall_mem_cons.mpr ⟨lw_p35, List.forall_mem_cons.mpr ⟨lw_p36, List.forall_mem_cons.mpr ⟨lw_p37, List.forall_mem_cons.mpr ⟨lw_p38, List.forall_mem_cons.mpr ⟨lw_p39, List.forall_mem_cons.mpr ⟨lw_p40, List.forall_mem_cons.mpr ⟨lw_p41, List.forall_mem_cons.mpr ⟨lw_p42, List.forall_mem_cons.mpr ⟨lw_p43, List.forall_mem_cons.mpr ⟨lw_p44, fun _ h => absurd h List.not_mem_nil⟩⟩⟩⟩⟩⟩⟩⟩⟩⟩⟩⟩⟩
def lw_privs : List (MethodName × Nat) := lw_privs_1 ++ (lw_privs_2 ++ (lw_privs_3))
def lw_tbl : List Cond := k2_sels lw_privs ++ tables_1
theorem lw_privs_ok : ∀ q ∈ lw_privs, lw_okq q := by
  show ∀ q ∈ lw_privs_1 ++ (lw_privs_2 ++ (lw_privs_3)), lw_okq q
  exact List.forall_mem_append.mpr ⟨lw_r1, List.forall_mem_append.mpr ⟨lw_r2, lw_r3⟩⟩
end
section
def RX0 : String := "OneFromEachLane$Changes"
def TX0 : u_T := fun k => match k with
  | 0 => ("OneFromEachLane$Changes", "tried", "LOneFromEachLane$Road;", true)
  | _ => ("OneFromEachLane$Changes", "passage", "LOneFromEachLane$Passage;", true)
def tyX0 : Nat → FieldType := fun k => match k with
  | 0 => .object "OneFromEachLane$Road"
  | _ => .object "OneFromEachLane$Passage"
theorem nmX0 : ∀ a, a < 2 → ∀ b, b < 2 → a ≠ b → (TX0 a).2.1 ≠ (TX0 b).2.1 := by decide +kernel
theorem tyX0_ok : ∀ k, k < 2 → parseFieldDescriptor (TX0 k).2.2.1 = some (tyX0 k) := by decide +kernel
abbrev cX0_init : ByteArray := prog_2_method_1_code
def yX0_init : MethodName := ⟨RX0, "<init>", "()V"⟩
abbrev cX0_costOf : ByteArray := prog_2_method_2_code
def yX0_costOf : MethodName := ⟨RX0, "costOf", "(LOneFromEachLane$Road;)I"⟩
abbrev cX0_cheapestBoard : ByteArray := prog_2_method_3_code
def yX0_cheapestBoard : MethodName := ⟨RX0, "cheapestBoard", "(LOneFromEachLane$Road;)I"⟩
abbrev cX0_cheapestMove : ByteArray := prog_2_method_4_code
def yX0_cheapestMove : MethodName := ⟨RX0, "cheapestMove", "(LOneFromEachLane$Road;ZZ)I"⟩
abbrev cX0_cheapestKindOne : ByteArray := prog_2_method_5_code
def yX0_cheapestKindOne : MethodName := ⟨RX0, "cheapestKindOne", "(LOneFromEachLane$Road;)I"⟩
abbrev cX0_cheapestWithout : ByteArray := prog_2_method_6_code
def yX0_cheapestWithout : MethodName := ⟨RX0, "cheapestWithout", "(LOneFromEachLane$Road;)I"⟩
abbrev cX0_leastWave : ByteArray := prog_2_method_7_code
def yX0_leastWave : MethodName := ⟨RX0, "leastWave", "(LOneFromEachLane$Road;I)I"⟩
abbrev cX0_fewestTurned : ByteArray := prog_2_method_8_code
def yX0_fewestTurned : MethodName := ⟨RX0, "fewestTurned", "(LOneFromEachLane$Road;Z)I"⟩
abbrev cX0_measured : ByteArray := prog_2_method_9_code
def yX0_measured : MethodName := ⟨RX0, "measured", "(LOneFromEachLane$Road;Z)I"⟩
abbrev cX0_isReached : ByteArray := prog_2_method_10_code
def yX0_isReached : MethodName := ⟨RX0, "isReached", "(LOneFromEachLane$Road;IZI)Z"⟩
abbrev cX0_fewestGone : ByteArray := prog_2_method_11_code
def yX0_fewestGone : MethodName := ⟨RX0, "fewestGone", "(LOneFromEachLane$Road;I)I"⟩
abbrev cX0_isWithin : ByteArray := prog_2_method_12_code
def yX0_isWithin : MethodName := ⟨RX0, "isWithin", "(LOneFromEachLane$Road;II)Z"⟩
def RX1 : String := "OneFromEachLane$Choices"
def TX1 : u_T := fun k => match k with
  | 0 => ("OneFromEachLane$Choices", "tried", "LOneFromEachLane$Road;", true)
  | 1 => ("OneFromEachLane$Choices", "passage", "LOneFromEachLane$Passage;", true)
  | 2 => ("OneFromEachLane$Choices", "waitsOfFirst", "[I", true)
  | 3 => ("OneFromEachLane$Choices", "waitsOfOther", "[I", true)
  | _ => ("OneFromEachLane$Choices", "seed", "I", false)
def tyX1 : Nat → FieldType := fun k => match k with
  | 0 => .object "OneFromEachLane$Road"
  | 1 => .object "OneFromEachLane$Passage"
  | 2 => .array .int
  | 3 => .array .int
  | _ => .int
theorem nmX1 : ∀ a, a < 5 → ∀ b, b < 5 → a ≠ b → (TX1 a).2.1 ≠ (TX1 b).2.1 := by decide +kernel
theorem tyX1_ok : ∀ k, k < 5 → parseFieldDescriptor (TX1 k).2.2.1 = some (tyX1 k) := by decide +kernel
abbrev cX1_init : ByteArray := prog_3_method_1_code
def yX1_init : MethodName := ⟨RX1, "<init>", "()V"⟩
abbrev cX1_loss : ByteArray := prog_3_method_2_code
def yX1_loss : MethodName := ⟨RX1, "loss", "(LOneFromEachLane$Road;II)I"⟩
abbrev cX1_greatestLossBy : ByteArray := prog_3_method_3_code
def yX1_greatestLossBy : MethodName := ⟨RX1, "greatestLossBy", "(LOneFromEachLane$Road;I)I"⟩
abbrev cX1_steadyPair : ByteArray := prog_3_method_4_code
def yX1_steadyPair : MethodName := ⟨RX1, "steadyPair", "(LOneFromEachLane$Road;II)I"⟩
abbrev cX1_byLot : ByteArray := prog_3_method_5_code
def yX1_byLot : MethodName := ⟨RX1, "byLot", "(LOneFromEachLane$Road;IIZ)I"⟩
abbrev cX1_drawLane : ByteArray := prog_3_method_6_code
def yX1_drawLane : MethodName := ⟨RX1, "drawLane", "()I"⟩
def RX2 : String := "OneFromEachLane$Kinds"
def TX2 : u_T := fun k => match k with
  | _ => ("", "", "", false)
def tyX2 : Nat → FieldType := fun k => match k with
  | _ => .int
theorem nmX2 : ∀ a, a < 0 → ∀ b, b < 0 → a ≠ b → (TX2 a).2.1 ≠ (TX2 b).2.1 := by decide +kernel
theorem tyX2_ok : ∀ k, k < 0 → parseFieldDescriptor (TX2 k).2.2.1 = some (tyX2 k) := by decide +kernel
abbrev cX2_lettingIn : ByteArray := prog_4_method_2_code
def yX2_lettingIn : MethodName := ⟨RX2, "lettingIn", "(III)I"⟩
abbrev cX2_secondsOf : ByteArray := prog_4_method_3_code
def yX2_secondsOf : MethodName := ⟨RX2, "secondsOf", "(I)I"⟩
abbrev cX2_isPushing : ByteArray := prog_4_method_4_code
def yX2_isPushing : MethodName := ⟨RX2, "isPushing", "(I)Z"⟩
def RX3 : String := "OneFromEachLane$Passage"
def TX3 : u_T := fun k => match k with
  | 0 => ("OneFromEachLane$Passage", "order", "[I", true)
  | 1 => ("OneFromEachLane$Passage", "waitOf", "[I", true)
  | 2 => ("OneFromEachLane$Passage", "turnOf", "[I", true)
  | 3 => ("OneFromEachLane$Passage", "turns", "I", false)
  | 4 => ("OneFromEachLane$Passage", "seconds", "I", false)
  | 5 => ("OneFromEachLane$Passage", "right", "[I", true)
  | 6 => ("OneFromEachLane$Passage", "left", "[I", true)
  | 7 => ("OneFromEachLane$Passage", "rights", "I", false)
  | 8 => ("OneFromEachLane$Passage", "lefts", "I", false)
  | 9 => ("OneFromEachLane$Passage", "rightGone", "I", false)
  | 10 => ("OneFromEachLane$Passage", "leftGone", "I", false)
  | 11 => ("OneFromEachLane$Passage", "letIn", "I", false)
  | 12 => ("OneFromEachLane$Passage", "lastLane", "I", false)
  | _ => ("OneFromEachLane$Passage", "pushedIn", "Z", false)
def tyX3 : Nat → FieldType := fun k => match k with
  | 0 => .array .int
  | 1 => .array .int
  | 2 => .array .int
  | 3 => .int
  | 4 => .int
  | 5 => .array .int
  | 6 => .array .int
  | 7 => .int
  | 8 => .int
  | 9 => .int
  | 10 => .int
  | 11 => .int
  | 12 => .int
  | _ => .boolean
theorem nmX3 : ∀ a, a < 14 → ∀ b, b < 14 → a ≠ b → (TX3 a).2.1 ≠ (TX3 b).2.1 := by decide +kernel
theorem tyX3_ok : ∀ k, k < 14 → parseFieldDescriptor (TX3 k).2.2.1 = some (tyX3 k) := by decide +kernel
abbrev cX3_init : ByteArray := prog_5_method_1_code
def yX3_init : MethodName := ⟨RX3, "<init>", "()V"⟩
abbrev cX3_drive : ByteArray := prog_5_method_2_code
def yX3_drive : MethodName := ⟨RX3, "drive", "(LOneFromEachLane$Road;I)V"⟩
abbrev cX3_lineUp : ByteArray := prog_5_method_3_code
def yX3_lineUp : MethodName := ⟨RX3, "lineUp", "(LOneFromEachLane$Road;I)V"⟩
abbrev cX3_isLeftNext : ByteArray := prog_5_method_4_code
def yX3_isLeftNext : MethodName := ⟨RX3, "isLeftNext", "(LOneFromEachLane$Road;)Z"⟩
abbrev cX3_goThrough : ByteArray := prog_5_method_5_code
def yX3_goThrough : MethodName := ⟨RX3, "goThrough", "(LOneFromEachLane$Road;I)V"⟩
abbrev cX3_waitInTurn : ByteArray := prog_5_method_6_code
def yX3_waitInTurn : MethodName := ⟨RX3, "waitInTurn", "(I)I"⟩
abbrev cX3_allWaits : ByteArray := prog_5_method_7_code
def yX3_allWaits : MethodName := ⟨RX3, "allWaits", "()I"⟩
abbrev cX3_cost : ByteArray := prog_5_method_8_code
def yX3_cost : MethodName := ⟨RX3, "cost", "(LOneFromEachLane$Road;)I"⟩
abbrev cX3_laneChanges : ByteArray := prog_5_method_9_code
def yX3_laneChanges : MethodName := ⟨RX3, "laneChanges", "(LOneFromEachLane$Road;)I"⟩
abbrev cX3_longestRun : ByteArray := prog_5_method_10_code
def yX3_longestRun : MethodName := ⟨RX3, "longestRun", "(LOneFromEachLane$Road;)I"⟩
abbrev cX3_goneOf : ByteArray := prog_5_method_11_code
def yX3_goneOf : MethodName := ⟨RX3, "goneOf", "(LOneFromEachLane$Road;II)I"⟩
abbrev cX3_overtaken : ByteArray := prog_5_method_12_code
def yX3_overtaken : MethodName := ⟨RX3, "overtaken", "(I)I"⟩
def RX4 : String := "OneFromEachLane$Road"
def TX4 : u_T := fun k => match k with
  | 0 => ("OneFromEachLane$Road", "cars", "I", false)
  | 1 => ("OneFromEachLane$Road", "board", "I", false)
  | 2 => ("OneFromEachLane$Road", "wave", "I", false)
  | 3 => ("OneFromEachLane$Road", "kind", "[I", true)
  | 4 => ("OneFromEachLane$Road", "figure", "[I", true)
  | 5 => ("OneFromEachLane$Road", "lane", "[I", true)
  | 6 => ("OneFromEachLane$Road", "hurry", "[I", true)
  | _ => ("OneFromEachLane$Road", "line", "[I", true)
def tyX4 : Nat → FieldType := fun k => match k with
  | 0 => .int
  | 1 => .int
  | 2 => .int
  | 3 => .array .int
  | 4 => .array .int
  | 5 => .array .int
  | 6 => .array .int
  | _ => .array .int
theorem nmX4 : ∀ a, a < 8 → ∀ b, b < 8 → a ≠ b → (TX4 a).2.1 ≠ (TX4 b).2.1 := by decide +kernel
theorem tyX4_ok : ∀ k, k < 8 → parseFieldDescriptor (TX4 k).2.2.1 = some (tyX4 k) := by decide +kernel
abbrev cX4_init : ByteArray := prog_6_method_1_code
def yX4_init : MethodName := ⟨RX4, "<init>", "()V"⟩
abbrev cX4_has : ByteArray := prog_6_method_2_code
def yX4_has : MethodName := ⟨RX4, "has", "(I)Z"⟩
abbrev cX4_areTwo : ByteArray := prog_6_method_3_code
def yX4_areTwo : MethodName := ⟨RX4, "areTwo", "(II)Z"⟩
abbrev cX4_copyFrom : ByteArray := prog_6_method_4_code
def yX4_copyFrom : MethodName := ⟨RX4, "copyFrom", "(LOneFromEachLane$Road;)V"⟩
abbrev cX4_add : ByteArray := prog_6_method_5_code
def yX4_add : MethodName := ⟨RX4, "add", "(IIII)Z"⟩
abbrev cX4_putBoard : ByteArray := prog_6_method_6_code
def yX4_putBoard : MethodName := ⟨RX4, "putBoard", "(I)Z"⟩
abbrev cX4_putWave : ByteArray := prog_6_method_7_code
def yX4_putWave : MethodName := ⟨RX4, "putWave", "(I)Z"⟩
abbrev cX4_crossOver : ByteArray := prog_6_method_8_code
def yX4_crossOver : MethodName := ⟨RX4, "crossOver", "(I)Z"⟩
abbrev cX4_moveToEndOf : ByteArray := prog_6_method_9_code
def yX4_moveToEndOf : MethodName := ⟨RX4, "moveToEndOf", "(II)Z"⟩
abbrev cX4_moveToFront : ByteArray := prog_6_method_10_code
def yX4_moveToFront : MethodName := ⟨RX4, "moveToFront", "(I)Z"⟩
abbrev cX4_exchangeKinds : ByteArray := prog_6_method_11_code
def yX4_exchangeKinds : MethodName := ⟨RX4, "exchangeKinds", "(II)Z"⟩
abbrev cX4_lineIndex : ByteArray := prog_6_method_12_code
def yX4_lineIndex : MethodName := ⟨RX4, "lineIndex", "(I)I"⟩
abbrev cX4_placeOf : ByteArray := prog_6_method_13_code
def yX4_placeOf : MethodName := ⟨RX4, "placeOf", "(I)I"⟩
abbrev cX4_letsIn : ByteArray := prog_6_method_14_code
def yX4_letsIn : MethodName := ⟨RX4, "letsIn", "(I)I"⟩
abbrev cX4_standing : ByteArray := prog_6_method_15_code
def yX4_standing : MethodName := ⟨RX4, "standing", "(I)I"⟩
abbrev cX4_allHurry : ByteArray := prog_6_method_16_code
def yX4_allHurry : MethodName := ⟨RX4, "allHurry", "()I"⟩
abbrev cX4_secondsAlone : ByteArray := prog_6_method_17_code
def yX4_secondsAlone : MethodName := ⟨RX4, "secondsAlone", "()I"⟩
def RX5 : String := "OneFromEachLane$Text"
def TX5 : u_T := fun k => match k with
  | 0 => ("OneFromEachLane$Text", "length", "I", false)
  | _ => ("OneFromEachLane$Text", "letters", "[I", true)
def tyX5 : Nat → FieldType := fun k => match k with
  | 0 => .int
  | _ => .array .int
theorem nmX5 : ∀ a, a < 2 → ∀ b, b < 2 → a ≠ b → (TX5 a).2.1 ≠ (TX5 b).2.1 := by decide +kernel
theorem tyX5_ok : ∀ k, k < 2 → parseFieldDescriptor (TX5 k).2.2.1 = some (tyX5 k) := by decide +kernel
abbrev cX5_init : ByteArray := prog_7_method_1_code
def yX5_init : MethodName := ⟨RX5, "<init>", "()V"⟩
abbrev cX5_isFull : ByteArray := prog_7_method_2_code
def yX5_isFull : MethodName := ⟨RX5, "isFull", "()Z"⟩
abbrev cX5_append : ByteArray := prog_7_method_3_code
def yX5_append : MethodName := ⟨RX5, "append", "(I)I"⟩
abbrev cX5_empty : ByteArray := prog_7_method_4_code
def yX5_empty : MethodName := ⟨RX5, "empty", "()V"⟩
abbrev cX5_tellTo : ByteArray := prog_7_method_5_code
def yX5_tellTo : MethodName := ⟨RX5, "tellTo", "(LOneFromEachLane$Road;LOneFromEachLane$Road;)I"⟩
abbrev cX5_formFault : ByteArray := prog_7_method_6_code
def yX5_formFault : MethodName := ⟨RX5, "formFault", "()I"⟩
abbrev cX5_isInForm : ByteArray := prog_7_method_7_code
def yX5_isInForm : MethodName := ⟨RX5, "isInForm", "(II)Z"⟩
abbrev cX5_lengthOf : ByteArray := prog_7_method_8_code
def yX5_lengthOf : MethodName := ⟨RX5, "lengthOf", "(I)I"⟩
abbrev cX5_letterAt : ByteArray := prog_7_method_9_code
def yX5_letterAt : MethodName := ⟨RX5, "letterAt", "(I)I"⟩
abbrev cX5_digitAt : ByteArray := prog_7_method_10_code
def yX5_digitAt : MethodName := ⟨RX5, "digitAt", "(I)I"⟩
abbrev cX5_kindAt : ByteArray := prog_7_method_11_code
def yX5_kindAt : MethodName := ⟨RX5, "kindAt", "(I)I"⟩
abbrev cX5_tellStatement : ByteArray := prog_7_method_12_code
def yX5_tellStatement : MethodName := ⟨RX5, "tellStatement", "(ILOneFromEachLane$Road;)Z"⟩
abbrev cX5_tellCar : ByteArray := prog_7_method_13_code
def yX5_tellCar : MethodName := ⟨RX5, "tellCar", "(ILOneFromEachLane$Road;)Z"⟩
def RX6 : String := "OneFromEachLane"
def TX6 : u_T := fun k => match k with
  | 0 => ("OneFromEachLane", "now", "LOneFromEachLane$Road;", true)
  | 1 => ("OneFromEachLane", "kept", "LOneFromEachLane$Road;", true)
  | 2 => ("OneFromEachLane", "isKept", "Z", false)
  | 3 => ("OneFromEachLane", "text", "LOneFromEachLane$Text;", true)
  | 4 => ("OneFromEachLane", "told", "[I", true)
  | 5 => ("OneFromEachLane", "toldCount", "I", false)
  | 6 => ("OneFromEachLane", "refusals", "[I", true)
  | 7 => ("OneFromEachLane", "tried", "LOneFromEachLane$Road;", true)
  | 8 => ("OneFromEachLane", "passage", "LOneFromEachLane$Passage;", true)
  | 9 => ("OneFromEachLane", "changes", "LOneFromEachLane$Changes;", true)
  | _ => ("OneFromEachLane", "choices", "LOneFromEachLane$Choices;", true)
def tyX6 : Nat → FieldType := fun k => match k with
  | 0 => .object "OneFromEachLane$Road"
  | 1 => .object "OneFromEachLane$Road"
  | 2 => .boolean
  | 3 => .object "OneFromEachLane$Text"
  | 4 => .array .int
  | 5 => .int
  | 6 => .array .int
  | 7 => .object "OneFromEachLane$Road"
  | 8 => .object "OneFromEachLane$Passage"
  | 9 => .object "OneFromEachLane$Changes"
  | _ => .object "OneFromEachLane$Choices"
theorem nmX6 : ∀ a, a < 11 → ∀ b, b < 11 → a ≠ b → (TX6 a).2.1 ≠ (TX6 b).2.1 := by decide +kernel
theorem tyX6_ok : ∀ k, k < 11 → parseFieldDescriptor (TX6 k).2.2.1 = some (tyX6 k) := by decide +kernel
abbrev cX6_init : ByteArray := prog_1_method_1_code
def yX6_init : MethodName := ⟨RX6, "<init>", "()V"⟩
abbrev cX6_letter : ByteArray := prog_1_method_2_code
def yX6_letter : MethodName := ⟨RX6, "letter", "(I)I"⟩
abbrev cX6_road : ByteArray := prog_1_method_3_code
def yX6_road : MethodName := ⟨RX6, "road", "()I"⟩
abbrev cX6_car : ByteArray := prog_1_method_4_code
def yX6_car : MethodName := ⟨RX6, "car", "(II)I"⟩
abbrev cX6_hurry : ByteArray := prog_1_method_5_code
def yX6_hurry : MethodName := ⟨RX6, "hurry", "(II)I"⟩
abbrev cX6_goOver : ByteArray := prog_1_method_6_code
def yX6_goOver : MethodName := ⟨RX6, "goOver", "(I)I"⟩
abbrev cX6_standFirst : ByteArray := prog_1_method_7_code
def yX6_standFirst : MethodName := ⟨RX6, "standFirst", "(I)I"⟩
abbrev cX6_set : ByteArray := prog_1_method_8_code
def yX6_set : MethodName := ⟨RX6, "set", "(II)I"⟩
abbrev cX6_order : ByteArray := prog_1_method_9_code
def yX6_order : MethodName := ⟨RX6, "order", "(I)I"⟩
abbrev cX6_of : ByteArray := prog_1_method_10_code
def yX6_of : MethodName := ⟨RX6, "of", "(II)I"⟩
abbrev cX6_sums : ByteArray := prog_1_method_11_code
def yX6_sums : MethodName := ⟨RX6, "sums", "(I)I"⟩
abbrev cX6_queue : ByteArray := prog_1_method_12_code
def yX6_queue : MethodName := ⟨RX6, "queue", "(II)I"⟩
abbrev cX6_bestBoard : ByteArray := prog_1_method_13_code
def yX6_bestBoard : MethodName := ⟨RX6, "bestBoard", "()I"⟩
abbrev cX6_over : ByteArray := prog_1_method_14_code
def yX6_over : MethodName := ⟨RX6, "over", "(I)I"⟩
abbrev cX6_first : ByteArray := prog_1_method_15_code
def yX6_first : MethodName := ⟨RX6, "first", "(I)I"⟩
abbrev cX6_lets : ByteArray := prog_1_method_16_code
def yX6_lets : MethodName := ⟨RX6, "lets", "()I"⟩
abbrev cX6_spoil : ByteArray := prog_1_method_17_code
def yX6_spoil : MethodName := ⟨RX6, "spoil", "(I)I"⟩
abbrev cX6_mend : ByteArray := prog_1_method_18_code
def yX6_mend : MethodName := ⟨RX6, "mend", "(I)I"⟩
abbrev cX6_loses : ByteArray := prog_1_method_19_code
def yX6_loses : MethodName := ⟨RX6, "loses", "(II)I"⟩
abbrev cX6_byWhom : ByteArray := prog_1_method_20_code
def yX6_byWhom : MethodName := ⟨RX6, "byWhom", "(I)I"⟩
abbrev cX6_two : ByteArray := prog_1_method_21_code
def yX6_two : MethodName := ⟨RX6, "two", "(II)I"⟩
abbrev cX6_fair : ByteArray := prog_1_method_22_code
def yX6_fair : MethodName := ⟨RX6, "fair", "()I"⟩
abbrev cX6_lucky : ByteArray := prog_1_method_23_code
def yX6_lucky : MethodName := ⟨RX6, "lucky", "()I"⟩
abbrev cX6_away : ByteArray := prog_1_method_24_code
def yX6_away : MethodName := ⟨RX6, "away", "()I"⟩
abbrev cX6_wider : ByteArray := prog_1_method_25_code
def yX6_wider : MethodName := ⟨RX6, "wider", "()I"⟩
abbrev cX6_gap : ByteArray := prog_1_method_26_code
def yX6_gap : MethodName := ⟨RX6, "gap", "(I)I"⟩
abbrev cX6_even : ByteArray := prog_1_method_27_code
def yX6_even : MethodName := ⟨RX6, "even", "(I)I"⟩
abbrev cX6_keep : ByteArray := prog_1_method_28_code
def yX6_keep : MethodName := ⟨RX6, "keep", "(II)I"⟩
abbrev cX6_who : ByteArray := prog_1_method_29_code
def yX6_who : MethodName := ⟨RX6, "who", "(II)I"⟩
abbrev cX6_row : ByteArray := prog_1_method_30_code
def yX6_row : MethodName := ⟨RX6, "row", "(I)I"⟩
abbrev cX6_judge : ByteArray := prog_1_method_31_code
def yX6_judge : MethodName := ⟨RX6, "judge", "()I"⟩
abbrev cX6_clear : ByteArray := prog_1_method_32_code
def yX6_clear : MethodName := ⟨RX6, "clear", "()I"⟩
abbrev cX6_lots : ByteArray := prog_1_method_33_code
def yX6_lots : MethodName := ⟨RX6, "lots", "(III)I"⟩
abbrev cX6_image : ByteArray := prog_1_method_34_code
def yX6_image : MethodName := ⟨RX6, "image", "()I"⟩
abbrev cX6_on : ByteArray := prog_1_method_35_code
def yX6_on : MethodName := ⟨RX6, "on", "()I"⟩
abbrev cX6_count : ByteArray := prog_1_method_36_code
def yX6_count : MethodName := ⟨RX6, "count", "(I)I"⟩
abbrev cX6_refuse : ByteArray := prog_1_method_37_code
def yX6_refuse : MethodName := ⟨RX6, "refuse", "(I)I"⟩
abbrev cX6_bitsOrHowMany : ByteArray := prog_1_method_38_code
def yX6_bitsOrHowMany : MethodName := ⟨RX6, "bitsOrHowMany", "(II)I"⟩
abbrev cX6_firstNotSo : ByteArray := prog_1_method_39_code
def yX6_firstNotSo : MethodName := ⟨RX6, "firstNotSo", "(LOneFromEachLane$Road;)I"⟩
def RX7 : String := "OneFromEachLaneModel"
def TX7 : u_T := fun k => match k with
  | 0 => ("OneFromEachLaneModel", "cars", "I", false)
  | 1 => ("OneFromEachLaneModel", "kind", "[I", true)
  | 2 => ("OneFromEachLaneModel", "figure", "[I", true)
  | 3 => ("OneFromEachLaneModel", "hurry", "[I", true)
  | 4 => ("OneFromEachLaneModel", "lane", "[I", true)
  | 5 => ("OneFromEachLaneModel", "place", "[I", true)
  | 6 => ("OneFromEachLaneModel", "board", "I", false)
  | 7 => ("OneFromEachLaneModel", "wave", "I", false)
  | 8 => ("OneFromEachLaneModel", "letters", "I", false)
  | 9 => ("OneFromEachLaneModel", "letter", "[I", true)
  | 10 => ("OneFromEachLaneModel", "at", "I", false)
  | 11 => ("OneFromEachLaneModel", "value", "[I", true)
  | 12 => ("OneFromEachLaneModel", "inRow", "I", false)
  | 13 => ("OneFromEachLaneModel", "row", "[I", true)
  | 14 => ("OneFromEachLaneModel", "refusals", "[I", true)
  | 15 => ("OneFromEachLaneModel", "imaged", "Z", false)
  | 16 => ("OneFromEachLaneModel", "old", "[I", true)
  | 17 => ("OneFromEachLaneModel", "ahead", "[I", true)
  | 18 => ("OneFromEachLaneModel", "now", "[I", true)
  | 19 => ("OneFromEachLaneModel", "turns", "I", false)
  | 20 => ("OneFromEachLaneModel", "goes", "[I", true)
  | 21 => ("OneFromEachLaneModel", "wait", "[I", true)
  | 22 => ("OneFromEachLaneModel", "turn", "[I", true)
  | 23 => ("OneFromEachLaneModel", "allSeconds", "I", false)
  | 24 => ("OneFromEachLaneModel", "changes", "I", false)
  | 25 => ("OneFromEachLaneModel", "longest", "I", false)
  | _ => ("OneFromEachLaneModel", "wide", "Z", false)
def tyX7 : Nat → FieldType := fun k => match k with
  | 0 => .int
  | 1 => .array .int
  | 2 => .array .int
  | 3 => .array .int
  | 4 => .array .int
  | 5 => .array .int
  | 6 => .int
  | 7 => .int
  | 8 => .int
  | 9 => .array .int
  | 10 => .int
  | 11 => .array .int
  | 12 => .int
  | 13 => .array .int
  | 14 => .array .int
  | 15 => .boolean
  | 16 => .array .int
  | 17 => .array .int
  | 18 => .array .int
  | 19 => .int
  | 20 => .array .int
  | 21 => .array .int
  | 22 => .array .int
  | 23 => .int
  | 24 => .int
  | 25 => .int
  | _ => .boolean
theorem nmX7 : ∀ a, a < 27 → ∀ b, b < 27 → a ≠ b → (TX7 a).2.1 ≠ (TX7 b).2.1 := by decide +kernel
theorem tyX7_ok : ∀ k, k < 27 → parseFieldDescriptor (TX7 k).2.2.1 = some (tyX7 k) := by decide +kernel
abbrev cX7_init : ByteArray := prog_9_method_1_code
def yX7_init : MethodName := ⟨RX7, "<init>", "()V"⟩
abbrev cX7_no : ByteArray := prog_9_method_2_code
def yX7_no : MethodName := ⟨RX7, "no", "(I)I"⟩
abbrev cX7_within : ByteArray := prog_9_method_3_code
def yX7_within : MethodName := ⟨RX7, "within", "(III)Z"⟩
abbrev cX7_isCar : ByteArray := prog_9_method_4_code
def yX7_isCar : MethodName := ⟨RX7, "isCar", "(I)Z"⟩
abbrev cX7_letter : ByteArray := prog_9_method_5_code
def yX7_letter : MethodName := ⟨RX7, "letter", "(I)I"⟩
abbrev cX7_is : ByteArray := prog_9_method_6_code
def yX7_is : MethodName := ⟨RX7, "is", "(I)Z"⟩
abbrev cX7_digits : ByteArray := prog_9_method_7_code
def yX7_digits : MethodName := ⟨RX7, "digits", "(I)Z"⟩
abbrev cX7_two : ByteArray := prog_9_method_8_code
def yX7_two : MethodName := ⟨RX7, "two", "(I)I"⟩
abbrev cX7_statement : ByteArray := prog_9_method_9_code
def yX7_statement : MethodName := ⟨RX7, "statement", "(Z)I"⟩
abbrev cX7_road : ByteArray := prog_9_method_10_code
def yX7_road : MethodName := ⟨RX7, "road", "()I"⟩
abbrev cX7_becomes : ByteArray := prog_9_method_11_code
def yX7_becomes : MethodName := ⟨RX7, "becomes", "(III)V"⟩
abbrev cX7_inLane : ByteArray := prog_9_method_12_code
def yX7_inLane : MethodName := ⟨RX7, "inLane", "(I)I"⟩
abbrev cX7_closes : ByteArray := prog_9_method_13_code
def yX7_closes : MethodName := ⟨RX7, "closes", "(II)V"⟩
abbrev cX7_comes : ByteArray := prog_9_method_14_code
def yX7_comes : MethodName := ⟨RX7, "comes", "(II)I"⟩
abbrev cX7_overGoes : ByteArray := prog_9_method_15_code
def yX7_overGoes : MethodName := ⟨RX7, "overGoes", "(I)I"⟩
abbrev cX7_firstStands : ByteArray := prog_9_method_16_code
def yX7_firstStands : MethodName := ⟨RX7, "firstStands", "(I)I"⟩
abbrev cX7_leaves : ByteArray := prog_9_method_17_code
def yX7_leaves : MethodName := ⟨RX7, "leaves", "(I)V"⟩
abbrev cX7_letsOf : ByteArray := prog_9_method_18_code
def yX7_letsOf : MethodName := ⟨RX7, "letsOf", "(I)I"⟩
abbrev cX7_secondsOf : ByteArray := prog_9_method_19_code
def yX7_secondsOf : MethodName := ⟨RX7, "secondsOf", "(I)I"⟩
abbrev cX7_car : ByteArray := prog_9_method_20_code
def yX7_car : MethodName := ⟨RX7, "car", "(II)I"⟩
abbrev cX7_hurry : ByteArray := prog_9_method_21_code
def yX7_hurry : MethodName := ⟨RX7, "hurry", "(II)I"⟩
abbrev cX7_goOver : ByteArray := prog_9_method_22_code
def yX7_goOver : MethodName := ⟨RX7, "goOver", "(I)I"⟩
abbrev cX7_standFirst : ByteArray := prog_9_method_23_code
def yX7_standFirst : MethodName := ⟨RX7, "standFirst", "(I)I"⟩
abbrev cX7_set : ByteArray := prog_9_method_24_code
def yX7_set : MethodName := ⟨RX7, "set", "(II)I"⟩
abbrev cX7_standsAt : ByteArray := prog_9_method_25_code
def yX7_standsAt : MethodName := ⟨RX7, "standsAt", "(II)I"⟩
abbrev cX7_run : ByteArray := prog_9_method_26_code
def yX7_run : MethodName := ⟨RX7, "run", "()V"⟩
abbrev cX7_cost : ByteArray := prog_9_method_27_code
def yX7_cost : MethodName := ⟨RX7, "cost", "()I"⟩
abbrev cX7_seconds : ByteArray := prog_9_method_28_code
def yX7_seconds : MethodName := ⟨RX7, "seconds", "()I"⟩
abbrev cX7_order : ByteArray := prog_9_method_29_code
def yX7_order : MethodName := ⟨RX7, "order", "(I)I"⟩
abbrev cX7_of : ByteArray := prog_9_method_30_code
def yX7_of : MethodName := ⟨RX7, "of", "(II)I"⟩
abbrev cX7_sums : ByteArray := prog_9_method_31_code
def yX7_sums : MethodName := ⟨RX7, "sums", "(I)I"⟩
abbrev cX7_queue : ByteArray := prog_9_method_32_code
def yX7_queue : MethodName := ⟨RX7, "queue", "(II)I"⟩
abbrev cX7_bestBoard : ByteArray := prog_9_method_33_code
def yX7_bestBoard : MethodName := ⟨RX7, "bestBoard", "()I"⟩
abbrev cX7_mover : ByteArray := prog_9_method_34_code
def yX7_mover : MethodName := ⟨RX7, "mover", "(ZI)I"⟩
abbrev cX7_over : ByteArray := prog_9_method_35_code
def yX7_over : MethodName := ⟨RX7, "over", "(I)I"⟩
abbrev cX7_first : ByteArray := prog_9_method_36_code
def yX7_first : MethodName := ⟨RX7, "first", "(I)I"⟩
abbrev cX7_lets : ByteArray := prog_9_method_37_code
def yX7_lets : MethodName := ⟨RX7, "lets", "()I"⟩
abbrev cX7_fewest : ByteArray := prog_9_method_38_code
def yX7_fewest : MethodName := ⟨RX7, "fewest", "(II)I"⟩
abbrev cX7_spoil : ByteArray := prog_9_method_39_code
def yX7_spoil : MethodName := ⟨RX7, "spoil", "(I)I"⟩
abbrev cX7_mend : ByteArray := prog_9_method_40_code
def yX7_mend : MethodName := ⟨RX7, "mend", "(I)I"⟩
abbrev cX7_losesBy : ByteArray := prog_9_method_41_code
def yX7_losesBy : MethodName := ⟨RX7, "losesBy", "(II)I"⟩
abbrev cX7_loses : ByteArray := prog_9_method_42_code
def yX7_loses : MethodName := ⟨RX7, "loses", "(II)I"⟩
abbrev cX7_byWhom : ByteArray := prog_9_method_43_code
def yX7_byWhom : MethodName := ⟨RX7, "byWhom", "(I)I"⟩
abbrev cX7_waits : ByteArray := prog_9_method_44_code
def yX7_waits : MethodName := ⟨RX7, "waits", "(IIIIZ)I"⟩
abbrev cX7_two_ : ByteArray := prog_9_method_45_code
def yX7_two_ : MethodName := ⟨RX7, "two", "(II)I"⟩
abbrev cX7_lucks : ByteArray := prog_9_method_46_code
def yX7_lucks : MethodName := ⟨RX7, "lucks", "(I)I"⟩
abbrev cX7_fair : ByteArray := prog_9_method_47_code
def yX7_fair : MethodName := ⟨RX7, "fair", "()I"⟩
abbrev cX7_lucky : ByteArray := prog_9_method_48_code
def yX7_lucky : MethodName := ⟨RX7, "lucky", "()I"⟩
abbrev cX7_away : ByteArray := prog_9_method_49_code
def yX7_away : MethodName := ⟨RX7, "away", "()I"⟩
abbrev cX7_wider : ByteArray := prog_9_method_50_code
def yX7_wider : MethodName := ⟨RX7, "wider", "()I"⟩
abbrev cX7_gap : ByteArray := prog_9_method_51_code
def yX7_gap : MethodName := ⟨RX7, "gap", "(I)I"⟩
abbrev cX7_even : ByteArray := prog_9_method_52_code
def yX7_even : MethodName := ⟨RX7, "even", "(I)I"⟩
abbrev cX7_keep : ByteArray := prog_9_method_53_code
def yX7_keep : MethodName := ⟨RX7, "keep", "(II)I"⟩
abbrev cX7_wrong : ByteArray := prog_9_method_54_code
def yX7_wrong : MethodName := ⟨RX7, "wrong", "()I"⟩
abbrev cX7_who : ByteArray := prog_9_method_55_code
def yX7_who : MethodName := ⟨RX7, "who", "(II)I"⟩
abbrev cX7_row : ByteArray := prog_9_method_56_code
def yX7_row : MethodName := ⟨RX7, "row", "(I)I"⟩
abbrev cX7_judge : ByteArray := prog_9_method_57_code
def yX7_judge : MethodName := ⟨RX7, "judge", "()I"⟩
abbrev cX7_clear : ByteArray := prog_9_method_58_code
def yX7_clear : MethodName := ⟨RX7, "clear", "()I"⟩
abbrev cX7_lots : ByteArray := prog_9_method_59_code
def yX7_lots : MethodName := ⟨RX7, "lots", "(III)I"⟩
abbrev cX7_keep_ : ByteArray := prog_9_method_60_code
def yX7_keep_ : MethodName := ⟨RX7, "keep", "([I)V"⟩
abbrev cX7_again : ByteArray := prog_9_method_61_code
def yX7_again : MethodName := ⟨RX7, "again", "([I)V"⟩
abbrev cX7_image : ByteArray := prog_9_method_62_code
def yX7_image : MethodName := ⟨RX7, "image", "()I"⟩
abbrev cX7_on : ByteArray := prog_9_method_63_code
def yX7_on : MethodName := ⟨RX7, "on", "()I"⟩
abbrev cX7_count : ByteArray := prog_9_method_64_code
def yX7_count : MethodName := ⟨RX7, "count", "(I)I"⟩
def RJ11 : String := "java/lang/Character"
def TJ11 : u_T := fun k => match k with
  | _ => ("", "", "", false)
def tyJ11 : Nat → FieldType := fun k => match k with
  | _ => .int
theorem nmJ11 : ∀ a, a < 0 → ∀ b, b < 0 → a ≠ b → (TJ11 a).2.1 ≠ (TJ11 b).2.1 := by decide +kernel
theorem tyJ11_ok : ∀ k, k < 0 → parseFieldDescriptor (TJ11 k).2.2.1 = some (tyJ11 k) := by decide +kernel
abbrev cJ11_isValidCodePoint_9a6ad : ByteArray := prog_10_method_11_code
def yJ11_isValidCodePoint_9a6ad : MethodName := ⟨RJ11, "isValidCodePoint", "(I)Z"⟩
abbrev cJ11_highSurrogate_5068e : ByteArray := prog_10_method_28_code
def yJ11_highSurrogate_5068e : MethodName := ⟨RJ11, "highSurrogate", "(I)C"⟩
abbrev cJ11_lowSurrogate_5068e : ByteArray := prog_10_method_29_code
def yJ11_lowSurrogate_5068e : MethodName := ⟨RJ11, "lowSurrogate", "(I)C"⟩
def RJ6 : String := "java/lang/Integer"
def TJ6 : u_T := fun k => match k with
  | _ => ("", "", "", false)
def tyJ6 : Nat → FieldType := fun k => match k with
  | _ => .int
theorem nmJ6 : ∀ a, a < 0 → ∀ b, b < 0 → a ≠ b → (TJ6 a).2.1 ≠ (TJ6 b).2.1 := by decide +kernel
theorem tyJ6_ok : ∀ k, k < 0 → parseFieldDescriptor (TJ6 k).2.2.1 = some (tyJ6 k) := by decide +kernel
abbrev cJ6_bitCount_0f7a4 : ByteArray := prog_11_method_49_code
def yJ6_bitCount_0f7a4 : MethodName := ⟨RJ6, "bitCount", "(I)I"⟩
def RJ9 : String := "java/lang/Math"
def TJ9 : u_T := fun k => match k with
  | _ => ("", "", "", false)
def tyJ9 : Nat → FieldType := fun k => match k with
  | _ => .int
theorem nmJ9 : ∀ a, a < 0 → ∀ b, b < 0 → a ≠ b → (TJ9 a).2.1 ≠ (TJ9 b).2.1 := by decide +kernel
theorem tyJ9_ok : ∀ k, k < 0 → parseFieldDescriptor (TJ9 k).2.2.1 = some (tyJ9 k) := by decide +kernel
abbrev cJ9_max_7cf53 : ByteArray := prog_12_method_65_code
def yJ9_max_7cf53 : MethodName := ⟨RJ9, "max", "(II)I"⟩
abbrev cJ9_min_7cf53 : ByteArray := prog_12_method_69_code
def yJ9_min_7cf53 : MethodName := ⟨RJ9, "min", "(II)I"⟩
def RJ0 : String := "java/lang/String"
def TJ0 : u_T := fun k => match k with
  | _ => ("", "", "", false)
def tyJ0 : Nat → FieldType := fun k => match k with
  | _ => .int
theorem nmJ0 : ∀ a, a < 0 → ∀ b, b < 0 → a ≠ b → (TJ0 a).2.1 ≠ (TJ0 b).2.1 := by decide +kernel
theorem tyJ0_ok : ∀ k, k < 0 → parseFieldDescriptor (TJ0 k).2.2.1 = some (tyJ0 k) := by decide +kernel
abbrev cJ0_length_8abf5 : ByteArray := prog_13_method_54_code
def yJ0_length_8abf5 : MethodName := ⟨RJ0, "length", "()I"⟩
abbrev cJ0_indexOf_0f7a4 : ByteArray := prog_13_method_79_code
def yJ0_indexOf_0f7a4 : MethodName := ⟨RJ0, "indexOf", "(I)I"⟩
abbrev cJ0_indexOf_7cf53 : ByteArray := prog_13_method_80_code
def yJ0_indexOf_7cf53 : MethodName := ⟨RJ0, "indexOf", "(II)I"⟩
abbrev cJ0_coder_7d493 : ByteArray := prog_13_method_152_code
def yJ0_coder_7d493 : MethodName := ⟨RJ0, "coder", "()B"⟩
abbrev cJ0_isLatin1_aae02 : ByteArray := prog_13_method_154_code
def yJ0_isLatin1_aae02 : MethodName := ⟨RJ0, "isLatin1", "()Z"⟩
abbrev cJ0_checkBoundsBeginEnd_23922 : ByteArray := prog_13_method_158_code
def yJ0_checkBoundsBeginEnd_23922 : MethodName := ⟨RJ0, "checkBoundsBeginEnd", "(III)V"⟩
def RJ1 : String := "java/lang/StringLatin1"
def TJ1 : u_T := fun k => match k with
  | _ => ("", "", "", false)
def tyJ1 : Nat → FieldType := fun k => match k with
  | _ => .int
theorem nmJ1 : ∀ a, a < 0 → ∀ b, b < 0 → a ≠ b → (TJ1 a).2.1 ≠ (TJ1 b).2.1 := by decide +kernel
theorem tyJ1_ok : ∀ k, k < 0 → parseFieldDescriptor (TJ1 k).2.2.1 = some (tyJ1 k) := by decide +kernel
abbrev cJ1_canEncode_9a6ad : ByteArray := prog_14_method_4_code
def yJ1_canEncode_9a6ad : MethodName := ⟨RJ1, "canEncode", "(I)Z"⟩
abbrev cJ1_indexOf_4cfef : ByteArray := prog_14_method_22_code
def yJ1_indexOf_4cfef : MethodName := ⟨RJ1, "indexOf", "([BIII)I"⟩
abbrev cJ1_indexOfChar_4cfef : ByteArray := prog_14_method_23_code
def yJ1_indexOfChar_4cfef : MethodName := ⟨RJ1, "indexOfChar", "([BIII)I"⟩
def RJ2 : String := "java/lang/StringUTF16"
def TJ2 : u_T := fun k => match k with
  | _ => ("", "", "", false)
def tyJ2 : Nat → FieldType := fun k => match k with
  | _ => .int
theorem nmJ2 : ∀ a, a < 0 → ∀ b, b < 0 → a ≠ b → (TJ2 a).2.1 ≠ (TJ2 b).2.1 := by decide +kernel
theorem tyJ2_ok : ∀ k, k < 0 → parseFieldDescriptor (TJ2 k).2.2.1 = some (tyJ2 k) := by decide +kernel
abbrev cJ2_getChar_3b067 : ByteArray := prog_15_method_5_code
def yJ2_getChar_3b067 : MethodName := ⟨RJ2, "getChar", "([BI)C"⟩
abbrev cJ2_length_9d52b : ByteArray := prog_15_method_6_code
def yJ2_length_9d52b : MethodName := ⟨RJ2, "length", "([B)I"⟩
abbrev cJ2_indexOf_4cfef : ByteArray := prog_15_method_40_code
def yJ2_indexOf_4cfef : MethodName := ⟨RJ2, "indexOf", "([BIII)I"⟩
abbrev cJ2_indexOfChar_4cfef : ByteArray := prog_15_method_47_code
def yJ2_indexOfChar_4cfef : MethodName := ⟨RJ2, "indexOfChar", "([BIII)I"⟩
abbrev cJ2_indexOfCharUnsafe_4cfef : ByteArray := prog_15_method_48_code
def yJ2_indexOfCharUnsafe_4cfef : MethodName := ⟨RJ2, "indexOfCharUnsafe", "([BIII)I"⟩
abbrev cJ2_indexOfSupplementary_4cfef : ByteArray := prog_15_method_49_code
def yJ2_indexOfSupplementary_4cfef : MethodName := ⟨RJ2, "indexOfSupplementary", "([BIII)I"⟩
abbrev cJ2_checkBoundsBeginEnd_d044e : ByteArray := prog_15_method_93_code
def yJ2_checkBoundsBeginEnd_d044e : MethodName := ⟨RJ2, "checkBoundsBeginEnd", "(II[B)V"⟩
def RJ3 : String := "jdk/internal/util/Preconditions"
def TJ3 : u_T := fun k => match k with
  | _ => ("", "", "", false)
def tyJ3 : Nat → FieldType := fun k => match k with
  | _ => .int
theorem nmJ3 : ∀ a, a < 0 → ∀ b, b < 0 → a ≠ b → (TJ3 a).2.1 ≠ (TJ3 b).2.1 := by decide +kernel
theorem tyJ3_ok : ∀ k, k < 0 → parseFieldDescriptor (TJ3 k).2.2.1 = some (tyJ3 k) := by decide +kernel
abbrev cJ3_checkFromToIndex_8c36e : ByteArray := prog_16_method_12_code
def yJ3_checkFromToIndex_8c36e : MethodName := ⟨RJ3, "checkFromToIndex", "(IIILjava/util/function/BiFunction;)I"⟩
def RL : String := "OneFromEachLaneLaw"
abbrev cL_law : ByteArray := code
def yL_law : MethodName := ⟨RL, "law", "([I)Z"⟩
abbrev vwCl : List vw_C := [(RX0, TX0, 2), (RX1, TX1, 5), (RX3, TX3, 14), (RX4, TX4, 8), (RX5, TX5, 2), (RX6, TX6, 11), (RX7, TX7, 27)]
end
section
theorem dX0_init_0 : decode cX0_init 0 = .ok (.aload_n 0, 1) := by decide +kernel
theorem dX0_init_1 : decode cX0_init 1 = .ok (.invokespecial 3, 3) := by decide +kernel
theorem dX0_init_4 : decode cX0_init 4 = .ok (.aload_n 0, 1) := by decide +kernel
theorem dX0_init_5 : decode cX0_init 5 = .ok (.new 9, 3) := by decide +kernel
theorem dX0_init_8 : decode cX0_init 8 = .ok (.dup, 1) := by decide +kernel
theorem dX0_init_9 : decode cX0_init 9 = .ok (.invokespecial 11, 3) := by decide +kernel
theorem dX0_init_12 : decode cX0_init 12 = .ok (.putfield 12, 3) := by decide +kernel
theorem dX0_init_15 : decode cX0_init 15 = .ok (.aload_n 0, 1) := by decide +kernel
theorem dX0_init_16 : decode cX0_init 16 = .ok (.new 18, 3) := by decide +kernel
theorem dX0_init_19 : decode cX0_init 19 = .ok (.dup, 1) := by decide +kernel
theorem dX0_init_20 : decode cX0_init 20 = .ok (.invokespecial 20, 3) := by decide +kernel
theorem dX0_init_23 : decode cX0_init 23 = .ok (.putfield 21, 3) := by decide +kernel
theorem dX0_init_26 : decode cX0_init 26 = .ok (.return_, 1) := by decide +kernel
theorem dX0_costOf_0 : decode cX0_costOf 0 = .ok (.aload_n 0, 1) := by decide +kernel
theorem dX0_costOf_1 : decode cX0_costOf 1 = .ok (.getfield 21, 3) := by decide +kernel
theorem dX0_costOf_4 : decode cX0_costOf 4 = .ok (.aload_n 1, 1) := by decide +kernel
theorem dX0_costOf_5 : decode cX0_costOf 5 = .ok (.iconst 0, 1) := by decide +kernel
theorem dX0_costOf_6 : decode cX0_costOf 6 = .ok (.invokevirtual 25, 3) := by decide +kernel
theorem dX0_costOf_9 : decode cX0_costOf 9 = .ok (.aload_n 0, 1) := by decide +kernel
theorem dX0_costOf_10 : decode cX0_costOf 10 = .ok (.getfield 21, 3) := by decide +kernel
theorem dX0_costOf_13 : decode cX0_costOf 13 = .ok (.aload_n 1, 1) := by decide +kernel
theorem dX0_costOf_14 : decode cX0_costOf 14 = .ok (.invokevirtual 29, 3) := by decide +kernel
theorem dX0_costOf_17 : decode cX0_costOf 17 = .ok (.ireturn, 1) := by decide +kernel
theorem dX0_cheapestBoard_0 : decode cX0_cheapestBoard 0 = .ok (.iconst 0, 1) := by decide +kernel
theorem dX0_cheapestBoard_1 : decode cX0_cheapestBoard 1 = .ok (.istore_n 2, 1) := by decide +kernel
theorem dX0_cheapestBoard_2 : decode cX0_cheapestBoard 2 = .ok (.iconst 0, 1) := by decide +kernel
theorem dX0_cheapestBoard_3 : decode cX0_cheapestBoard 3 = .ok (.istore_n 3, 1) := by decide +kernel
theorem dX0_cheapestBoard_4 : decode cX0_cheapestBoard 4 = .ok (.aload_n 0, 1) := by decide +kernel
theorem dX0_cheapestBoard_5 : decode cX0_cheapestBoard 5 = .ok (.getfield 12, 3) := by decide +kernel
theorem dX0_cheapestBoard_8 : decode cX0_cheapestBoard 8 = .ok (.aload_n 1, 1) := by decide +kernel
theorem dX0_cheapestBoard_9 : decode cX0_cheapestBoard 9 = .ok (.invokevirtual 33, 3) := by decide +kernel
theorem dX0_cheapestBoard_12 : decode cX0_cheapestBoard 12 = .ok (.iconst 0, 1) := by decide +kernel
theorem dX0_cheapestBoard_13 : decode cX0_cheapestBoard 13 = .ok (.istore 4, 2) := by decide +kernel
theorem dX0_cheapestBoard_15 : decode cX0_cheapestBoard 15 = .ok (.iload 4, 2) := by decide +kernel
theorem dX0_cheapestBoard_17 : decode cX0_cheapestBoard 17 = .ok (.iconst 2, 1) := by decide +kernel
theorem dX0_cheapestBoard_18 : decode cX0_cheapestBoard 18 = .ok (.if_icmp .gt 45, 3) := by decide +kernel
theorem dX0_cheapestBoard_21 : decode cX0_cheapestBoard 21 = .ok (.aload_n 0, 1) := by decide +kernel
theorem dX0_cheapestBoard_22 : decode cX0_cheapestBoard 22 = .ok (.getfield 12, 3) := by decide +kernel
theorem dX0_cheapestBoard_25 : decode cX0_cheapestBoard 25 = .ok (.iload 4, 2) := by decide +kernel
theorem dX0_cheapestBoard_27 : decode cX0_cheapestBoard 27 = .ok (.putfield 37, 3) := by decide +kernel
theorem dX0_cheapestBoard_30 : decode cX0_cheapestBoard 30 = .ok (.aload_n 0, 1) := by decide +kernel
theorem dX0_cheapestBoard_31 : decode cX0_cheapestBoard 31 = .ok (.aload_n 0, 1) := by decide +kernel
theorem dX0_cheapestBoard_32 : decode cX0_cheapestBoard 32 = .ok (.getfield 12, 3) := by decide +kernel
theorem dX0_cheapestBoard_35 : decode cX0_cheapestBoard 35 = .ok (.invokevirtual 41, 3) := by decide +kernel
theorem dX0_cheapestBoard_38 : decode cX0_cheapestBoard 38 = .ok (.istore 5, 2) := by decide +kernel
theorem dX0_cheapestBoard_40 : decode cX0_cheapestBoard 40 = .ok (.iload 4, 2) := by decide +kernel
theorem dX0_cheapestBoard_42 : decode cX0_cheapestBoard 42 = .ok (.ifCond .eq 9, 3) := by decide +kernel
theorem dX0_cheapestBoard_45 : decode cX0_cheapestBoard 45 = .ok (.iload 5, 2) := by decide +kernel
theorem dX0_cheapestBoard_47 : decode cX0_cheapestBoard 47 = .ok (.iload_n 3, 1) := by decide +kernel
theorem dX0_cheapestBoard_48 : decode cX0_cheapestBoard 48 = .ok (.if_icmp .ge 9, 3) := by decide +kernel
theorem dX0_cheapestBoard_51 : decode cX0_cheapestBoard 51 = .ok (.iload 4, 2) := by decide +kernel
theorem dX0_cheapestBoard_53 : decode cX0_cheapestBoard 53 = .ok (.istore_n 2, 1) := by decide +kernel
theorem dX0_cheapestBoard_54 : decode cX0_cheapestBoard 54 = .ok (.iload 5, 2) := by decide +kernel
theorem dX0_cheapestBoard_56 : decode cX0_cheapestBoard 56 = .ok (.istore_n 3, 1) := by decide +kernel
theorem dX0_cheapestBoard_57 : decode cX0_cheapestBoard 57 = .ok (.iinc 4 1, 3) := by decide +kernel
theorem dX0_cheapestBoard_60 : decode cX0_cheapestBoard 60 = .ok (.goto (-45), 3) := by decide +kernel
theorem dX0_cheapestBoard_63 : decode cX0_cheapestBoard 63 = .ok (.iload_n 2, 1) := by decide +kernel
theorem dX0_cheapestBoard_64 : decode cX0_cheapestBoard 64 = .ok (.ireturn, 1) := by decide +kernel
theorem dX0_cheapestMove_0 : decode cX0_cheapestMove 0 = .ok (.bipush (-9), 2) := by decide +kernel
theorem dX0_cheapestMove_2 : decode cX0_cheapestMove 2 = .ok (.istore 4, 2) := by decide +kernel
theorem dX0_cheapestMove_4 : decode cX0_cheapestMove 4 = .ok (.aload_n 0, 1) := by decide +kernel
theorem dX0_cheapestMove_5 : decode cX0_cheapestMove 5 = .ok (.aload_n 1, 1) := by decide +kernel
theorem dX0_cheapestMove_6 : decode cX0_cheapestMove 6 = .ok (.invokevirtual 41, 3) := by decide +kernel
theorem dX0_cheapestMove_9 : decode cX0_cheapestMove 9 = .ok (.istore 5, 2) := by decide +kernel
theorem dX0_cheapestMove_11 : decode cX0_cheapestMove 11 = .ok (.iconst 0, 1) := by decide +kernel
theorem dX0_cheapestMove_12 : decode cX0_cheapestMove 12 = .ok (.istore 6, 2) := by decide +kernel
theorem dX0_cheapestMove_14 : decode cX0_cheapestMove 14 = .ok (.iload 6, 2) := by decide +kernel
theorem dX0_cheapestMove_16 : decode cX0_cheapestMove 16 = .ok (.aload_n 1, 1) := by decide +kernel
theorem dX0_cheapestMove_17 : decode cX0_cheapestMove 17 = .ok (.getfield 44, 3) := by decide +kernel
theorem dX0_cheapestMove_20 : decode cX0_cheapestMove 20 = .ok (.if_icmp .ge 69, 3) := by decide +kernel
theorem dX0_cheapestMove_23 : decode cX0_cheapestMove 23 = .ok (.aload_n 0, 1) := by decide +kernel
theorem dX0_cheapestMove_24 : decode cX0_cheapestMove 24 = .ok (.getfield 12, 3) := by decide +kernel
theorem dX0_cheapestMove_27 : decode cX0_cheapestMove 27 = .ok (.aload_n 1, 1) := by decide +kernel
theorem dX0_cheapestMove_28 : decode cX0_cheapestMove 28 = .ok (.invokevirtual 33, 3) := by decide +kernel
theorem dX0_cheapestMove_31 : decode cX0_cheapestMove 31 = .ok (.iload_n 2, 1) := by decide +kernel
theorem dX0_cheapestMove_32 : decode cX0_cheapestMove 32 = .ok (.ifCond .eq 16, 3) := by decide +kernel
theorem dX0_cheapestMove_35 : decode cX0_cheapestMove 35 = .ok (.aload_n 0, 1) := by decide +kernel
theorem dX0_cheapestMove_36 : decode cX0_cheapestMove 36 = .ok (.getfield 12, 3) := by decide +kernel
theorem dX0_cheapestMove_39 : decode cX0_cheapestMove 39 = .ok (.iload 6, 2) := by decide +kernel
theorem dX0_cheapestMove_41 : decode cX0_cheapestMove 41 = .ok (.invokevirtual 47, 3) := by decide +kernel
theorem dX0_cheapestMove_44 : decode cX0_cheapestMove 44 = .ok (.pop, 1) := by decide +kernel
theorem dX0_cheapestMove_45 : decode cX0_cheapestMove 45 = .ok (.goto 13, 3) := by decide +kernel
theorem dX0_cheapestMove_48 : decode cX0_cheapestMove 48 = .ok (.aload_n 0, 1) := by decide +kernel
theorem dX0_cheapestMove_49 : decode cX0_cheapestMove 49 = .ok (.getfield 12, 3) := by decide +kernel
theorem dX0_cheapestMove_52 : decode cX0_cheapestMove 52 = .ok (.iload 6, 2) := by decide +kernel
theorem dX0_cheapestMove_54 : decode cX0_cheapestMove 54 = .ok (.invokevirtual 51, 3) := by decide +kernel
theorem dX0_cheapestMove_57 : decode cX0_cheapestMove 57 = .ok (.pop, 1) := by decide +kernel
theorem dX0_cheapestMove_58 : decode cX0_cheapestMove 58 = .ok (.aload_n 0, 1) := by decide +kernel
theorem dX0_cheapestMove_59 : decode cX0_cheapestMove 59 = .ok (.aload_n 0, 1) := by decide +kernel
theorem dX0_cheapestMove_60 : decode cX0_cheapestMove 60 = .ok (.getfield 12, 3) := by decide +kernel
theorem dX0_cheapestMove_63 : decode cX0_cheapestMove 63 = .ok (.invokevirtual 41, 3) := by decide +kernel
theorem dX0_cheapestMove_66 : decode cX0_cheapestMove 66 = .ok (.istore 7, 2) := by decide +kernel
theorem dX0_cheapestMove_68 : decode cX0_cheapestMove 68 = .ok (.iload 7, 2) := by decide +kernel
theorem dX0_cheapestMove_70 : decode cX0_cheapestMove 70 = .ok (.iload 5, 2) := by decide +kernel
theorem dX0_cheapestMove_72 : decode cX0_cheapestMove 72 = .ok (.if_icmp .ge 11, 3) := by decide +kernel
theorem dX0_cheapestMove_75 : decode cX0_cheapestMove 75 = .ok (.iload 6, 2) := by decide +kernel
theorem dX0_cheapestMove_77 : decode cX0_cheapestMove 77 = .ok (.istore 4, 2) := by decide +kernel
theorem dX0_cheapestMove_79 : decode cX0_cheapestMove 79 = .ok (.iload 7, 2) := by decide +kernel
theorem dX0_cheapestMove_81 : decode cX0_cheapestMove 81 = .ok (.istore 5, 2) := by decide +kernel
theorem dX0_cheapestMove_83 : decode cX0_cheapestMove 83 = .ok (.iinc 6 1, 3) := by decide +kernel
theorem dX0_cheapestMove_86 : decode cX0_cheapestMove 86 = .ok (.goto (-72), 3) := by decide +kernel
theorem dX0_cheapestMove_89 : decode cX0_cheapestMove 89 = .ok (.iload 4, 2) := by decide +kernel
theorem dX0_cheapestMove_91 : decode cX0_cheapestMove 91 = .ok (.bipush (-9), 2) := by decide +kernel
theorem dX0_cheapestMove_93 : decode cX0_cheapestMove 93 = .ok (.if_icmp .eq 12, 3) := by decide +kernel
theorem dX0_cheapestMove_96 : decode cX0_cheapestMove 96 = .ok (.iload_n 3, 1) := by decide +kernel
theorem dX0_cheapestMove_97 : decode cX0_cheapestMove 97 = .ok (.ifCond .eq 8, 3) := by decide +kernel
theorem dX0_cheapestMove_100 : decode cX0_cheapestMove 100 = .ok (.iload 5, 2) := by decide +kernel
theorem dX0_cheapestMove_102 : decode cX0_cheapestMove 102 = .ok (.goto 5, 3) := by decide +kernel
theorem dX0_cheapestMove_105 : decode cX0_cheapestMove 105 = .ok (.iload 4, 2) := by decide +kernel
theorem dX0_cheapestMove_107 : decode cX0_cheapestMove 107 = .ok (.ireturn, 1) := by decide +kernel
theorem dX0_cheapestKindOne_0 : decode cX0_cheapestKindOne 0 = .ok (.bipush (-9), 2) := by decide +kernel
theorem dX0_cheapestKindOne_2 : decode cX0_cheapestKindOne 2 = .ok (.istore_n 2, 1) := by decide +kernel
theorem dX0_cheapestKindOne_3 : decode cX0_cheapestKindOne 3 = .ok (.aload_n 0, 1) := by decide +kernel
theorem dX0_cheapestKindOne_4 : decode cX0_cheapestKindOne 4 = .ok (.aload_n 1, 1) := by decide +kernel
theorem dX0_cheapestKindOne_5 : decode cX0_cheapestKindOne 5 = .ok (.invokevirtual 41, 3) := by decide +kernel
theorem dX0_cheapestKindOne_8 : decode cX0_cheapestKindOne 8 = .ok (.istore_n 3, 1) := by decide +kernel
theorem dX0_cheapestKindOne_9 : decode cX0_cheapestKindOne 9 = .ok (.iconst 0, 1) := by decide +kernel
theorem dX0_cheapestKindOne_10 : decode cX0_cheapestKindOne 10 = .ok (.istore 4, 2) := by decide +kernel
theorem dX0_cheapestKindOne_12 : decode cX0_cheapestKindOne 12 = .ok (.iload 4, 2) := by decide +kernel
theorem dX0_cheapestKindOne_14 : decode cX0_cheapestKindOne 14 = .ok (.aload_n 1, 1) := by decide +kernel
theorem dX0_cheapestKindOne_15 : decode cX0_cheapestKindOne 15 = .ok (.getfield 44, 3) := by decide +kernel
theorem dX0_cheapestKindOne_18 : decode cX0_cheapestKindOne 18 = .ok (.if_icmp .ge 84, 3) := by decide +kernel
theorem dX0_cheapestKindOne_21 : decode cX0_cheapestKindOne 21 = .ok (.aload_n 0, 1) := by decide +kernel
theorem dX0_cheapestKindOne_22 : decode cX0_cheapestKindOne 22 = .ok (.getfield 12, 3) := by decide +kernel
theorem dX0_cheapestKindOne_25 : decode cX0_cheapestKindOne 25 = .ok (.aload_n 1, 1) := by decide +kernel
theorem dX0_cheapestKindOne_26 : decode cX0_cheapestKindOne 26 = .ok (.invokevirtual 33, 3) := by decide +kernel
theorem dX0_cheapestKindOne_29 : decode cX0_cheapestKindOne 29 = .ok (.aload_n 0, 1) := by decide +kernel
theorem dX0_cheapestKindOne_30 : decode cX0_cheapestKindOne 30 = .ok (.getfield 12, 3) := by decide +kernel
theorem dX0_cheapestKindOne_33 : decode cX0_cheapestKindOne 33 = .ok (.getfield 54, 3) := by decide +kernel
theorem dX0_cheapestKindOne_36 : decode cX0_cheapestKindOne 36 = .ok (.iload 4, 2) := by decide +kernel
theorem dX0_cheapestKindOne_38 : decode cX0_cheapestKindOne 38 = .ok (.iconst 1, 1) := by decide +kernel
theorem dX0_cheapestKindOne_39 : decode cX0_cheapestKindOne 39 = .ok (.iastore, 1) := by decide +kernel
theorem dX0_cheapestKindOne_40 : decode cX0_cheapestKindOne 40 = .ok (.iconst 0, 1) := by decide +kernel
theorem dX0_cheapestKindOne_41 : decode cX0_cheapestKindOne 41 = .ok (.istore 5, 2) := by decide +kernel
theorem dX0_cheapestKindOne_43 : decode cX0_cheapestKindOne 43 = .ok (.iload 5, 2) := by decide +kernel
theorem dX0_cheapestKindOne_45 : decode cX0_cheapestKindOne 45 = .ok (.bipush 9, 2) := by decide +kernel
theorem dX0_cheapestKindOne_47 : decode cX0_cheapestKindOne 47 = .ok (.if_icmp .gt 49, 3) := by decide +kernel
theorem dX0_cheapestKindOne_50 : decode cX0_cheapestKindOne 50 = .ok (.aload_n 0, 1) := by decide +kernel
theorem dX0_cheapestKindOne_51 : decode cX0_cheapestKindOne 51 = .ok (.getfield 12, 3) := by decide +kernel
theorem dX0_cheapestKindOne_54 : decode cX0_cheapestKindOne 54 = .ok (.getfield 60, 3) := by decide +kernel
theorem dX0_cheapestKindOne_57 : decode cX0_cheapestKindOne 57 = .ok (.iload 4, 2) := by decide +kernel
theorem dX0_cheapestKindOne_59 : decode cX0_cheapestKindOne 59 = .ok (.iload 5, 2) := by decide +kernel
theorem dX0_cheapestKindOne_61 : decode cX0_cheapestKindOne 61 = .ok (.iastore, 1) := by decide +kernel
theorem dX0_cheapestKindOne_62 : decode cX0_cheapestKindOne 62 = .ok (.aload_n 0, 1) := by decide +kernel
theorem dX0_cheapestKindOne_63 : decode cX0_cheapestKindOne 63 = .ok (.aload_n 0, 1) := by decide +kernel
theorem dX0_cheapestKindOne_64 : decode cX0_cheapestKindOne 64 = .ok (.getfield 12, 3) := by decide +kernel
theorem dX0_cheapestKindOne_67 : decode cX0_cheapestKindOne 67 = .ok (.invokevirtual 41, 3) := by decide +kernel
theorem dX0_cheapestKindOne_70 : decode cX0_cheapestKindOne 70 = .ok (.istore 6, 2) := by decide +kernel
theorem dX0_cheapestKindOne_72 : decode cX0_cheapestKindOne 72 = .ok (.iload 6, 2) := by decide +kernel
theorem dX0_cheapestKindOne_74 : decode cX0_cheapestKindOne 74 = .ok (.iload_n 3, 1) := by decide +kernel
theorem dX0_cheapestKindOne_75 : decode cX0_cheapestKindOne 75 = .ok (.if_icmp .ge 15, 3) := by decide +kernel
theorem dX0_cheapestKindOne_78 : decode cX0_cheapestKindOne 78 = .ok (.bipush 10, 2) := by decide +kernel
theorem dX0_cheapestKindOne_80 : decode cX0_cheapestKindOne 80 = .ok (.iload 4, 2) := by decide +kernel
theorem dX0_cheapestKindOne_82 : decode cX0_cheapestKindOne 82 = .ok (.imul, 1) := by decide +kernel
theorem dX0_cheapestKindOne_83 : decode cX0_cheapestKindOne 83 = .ok (.iload 5, 2) := by decide +kernel
theorem dX0_cheapestKindOne_85 : decode cX0_cheapestKindOne 85 = .ok (.iadd, 1) := by decide +kernel
theorem dX0_cheapestKindOne_86 : decode cX0_cheapestKindOne 86 = .ok (.istore_n 2, 1) := by decide +kernel
theorem dX0_cheapestKindOne_87 : decode cX0_cheapestKindOne 87 = .ok (.iload 6, 2) := by decide +kernel
theorem dX0_cheapestKindOne_89 : decode cX0_cheapestKindOne 89 = .ok (.istore_n 3, 1) := by decide +kernel
theorem dX0_cheapestKindOne_90 : decode cX0_cheapestKindOne 90 = .ok (.iinc 5 1, 3) := by decide +kernel
theorem dX0_cheapestKindOne_93 : decode cX0_cheapestKindOne 93 = .ok (.goto (-50), 3) := by decide +kernel
theorem dX0_cheapestKindOne_96 : decode cX0_cheapestKindOne 96 = .ok (.iinc 4 1, 3) := by decide +kernel
theorem dX0_cheapestKindOne_99 : decode cX0_cheapestKindOne 99 = .ok (.goto (-87), 3) := by decide +kernel
theorem dX0_cheapestKindOne_102 : decode cX0_cheapestKindOne 102 = .ok (.iload_n 2, 1) := by decide +kernel
theorem dX0_cheapestKindOne_103 : decode cX0_cheapestKindOne 103 = .ok (.ireturn, 1) := by decide +kernel
theorem dX0_cheapestWithout_0 : decode cX0_cheapestWithout 0 = .ok (.bipush (-9), 2) := by decide +kernel
theorem dX0_cheapestWithout_2 : decode cX0_cheapestWithout 2 = .ok (.istore_n 2, 1) := by decide +kernel
theorem dX0_cheapestWithout_3 : decode cX0_cheapestWithout 3 = .ok (.iconst 0, 1) := by decide +kernel
theorem dX0_cheapestWithout_4 : decode cX0_cheapestWithout 4 = .ok (.istore_n 3, 1) := by decide +kernel
theorem dX0_cheapestWithout_5 : decode cX0_cheapestWithout 5 = .ok (.iconst 0, 1) := by decide +kernel
theorem dX0_cheapestWithout_6 : decode cX0_cheapestWithout 6 = .ok (.istore 4, 2) := by decide +kernel
theorem dX0_cheapestWithout_8 : decode cX0_cheapestWithout 8 = .ok (.iload 4, 2) := by decide +kernel
theorem dX0_cheapestWithout_10 : decode cX0_cheapestWithout 10 = .ok (.aload_n 1, 1) := by decide +kernel
theorem dX0_cheapestWithout_11 : decode cX0_cheapestWithout 11 = .ok (.getfield 44, 3) := by decide +kernel
theorem dX0_cheapestWithout_14 : decode cX0_cheapestWithout 14 = .ok (.if_icmp .ge 49, 3) := by decide +kernel
theorem dX0_cheapestWithout_17 : decode cX0_cheapestWithout 17 = .ok (.aload_n 0, 1) := by decide +kernel
theorem dX0_cheapestWithout_18 : decode cX0_cheapestWithout 18 = .ok (.getfield 21, 3) := by decide +kernel
theorem dX0_cheapestWithout_21 : decode cX0_cheapestWithout 21 = .ok (.aload_n 1, 1) := by decide +kernel
theorem dX0_cheapestWithout_22 : decode cX0_cheapestWithout 22 = .ok (.iconst 1, 1) := by decide +kernel
theorem dX0_cheapestWithout_23 : decode cX0_cheapestWithout 23 = .ok (.iload 4, 2) := by decide +kernel
theorem dX0_cheapestWithout_25 : decode cX0_cheapestWithout 25 = .ok (.ishl, 1) := by decide +kernel
theorem dX0_cheapestWithout_26 : decode cX0_cheapestWithout 26 = .ok (.invokevirtual 25, 3) := by decide +kernel
theorem dX0_cheapestWithout_29 : decode cX0_cheapestWithout 29 = .ok (.aload_n 0, 1) := by decide +kernel
theorem dX0_cheapestWithout_30 : decode cX0_cheapestWithout 30 = .ok (.getfield 21, 3) := by decide +kernel
theorem dX0_cheapestWithout_33 : decode cX0_cheapestWithout 33 = .ok (.aload_n 1, 1) := by decide +kernel
theorem dX0_cheapestWithout_34 : decode cX0_cheapestWithout 34 = .ok (.invokevirtual 29, 3) := by decide +kernel
theorem dX0_cheapestWithout_37 : decode cX0_cheapestWithout 37 = .ok (.istore 5, 2) := by decide +kernel
theorem dX0_cheapestWithout_39 : decode cX0_cheapestWithout 39 = .ok (.iload_n 2, 1) := by decide +kernel
theorem dX0_cheapestWithout_40 : decode cX0_cheapestWithout 40 = .ok (.bipush (-9), 2) := by decide +kernel
theorem dX0_cheapestWithout_42 : decode cX0_cheapestWithout 42 = .ok (.if_icmp .eq 9, 3) := by decide +kernel
theorem dX0_cheapestWithout_45 : decode cX0_cheapestWithout 45 = .ok (.iload 5, 2) := by decide +kernel
theorem dX0_cheapestWithout_47 : decode cX0_cheapestWithout 47 = .ok (.iload_n 3, 1) := by decide +kernel
theorem dX0_cheapestWithout_48 : decode cX0_cheapestWithout 48 = .ok (.if_icmp .ge 9, 3) := by decide +kernel
theorem dX0_cheapestWithout_51 : decode cX0_cheapestWithout 51 = .ok (.iload 4, 2) := by decide +kernel
theorem dX0_cheapestWithout_53 : decode cX0_cheapestWithout 53 = .ok (.istore_n 2, 1) := by decide +kernel
theorem dX0_cheapestWithout_54 : decode cX0_cheapestWithout 54 = .ok (.iload 5, 2) := by decide +kernel
theorem dX0_cheapestWithout_56 : decode cX0_cheapestWithout 56 = .ok (.istore_n 3, 1) := by decide +kernel
theorem dX0_cheapestWithout_57 : decode cX0_cheapestWithout 57 = .ok (.iinc 4 1, 3) := by decide +kernel
theorem dX0_cheapestWithout_60 : decode cX0_cheapestWithout 60 = .ok (.goto (-52), 3) := by decide +kernel
theorem dX0_cheapestWithout_63 : decode cX0_cheapestWithout 63 = .ok (.iload_n 2, 1) := by decide +kernel
theorem dX0_cheapestWithout_64 : decode cX0_cheapestWithout 64 = .ok (.ireturn, 1) := by decide +kernel
theorem dX0_leastWave_0 : decode cX0_leastWave 0 = .ok (.aload_n 0, 1) := by decide +kernel
theorem dX0_leastWave_1 : decode cX0_leastWave 1 = .ok (.getfield 12, 3) := by decide +kernel
theorem dX0_leastWave_4 : decode cX0_leastWave 4 = .ok (.aload_n 1, 1) := by decide +kernel
theorem dX0_leastWave_5 : decode cX0_leastWave 5 = .ok (.invokevirtual 33, 3) := by decide +kernel
theorem dX0_leastWave_8 : decode cX0_leastWave 8 = .ok (.iconst 0, 1) := by decide +kernel
theorem dX0_leastWave_9 : decode cX0_leastWave 9 = .ok (.istore_n 3, 1) := by decide +kernel
theorem dX0_leastWave_10 : decode cX0_leastWave 10 = .ok (.iload_n 3, 1) := by decide +kernel
theorem dX0_leastWave_11 : decode cX0_leastWave 11 = .ok (.bipush 9, 2) := by decide +kernel
theorem dX0_leastWave_13 : decode cX0_leastWave 13 = .ok (.if_icmp .gt 42, 3) := by decide +kernel
theorem dX0_leastWave_16 : decode cX0_leastWave 16 = .ok (.aload_n 0, 1) := by decide +kernel
theorem dX0_leastWave_17 : decode cX0_leastWave 17 = .ok (.getfield 12, 3) := by decide +kernel
theorem dX0_leastWave_20 : decode cX0_leastWave 20 = .ok (.iload_n 3, 1) := by decide +kernel
theorem dX0_leastWave_21 : decode cX0_leastWave 21 = .ok (.putfield 63, 3) := by decide +kernel
theorem dX0_leastWave_24 : decode cX0_leastWave 24 = .ok (.aload_n 0, 1) := by decide +kernel
theorem dX0_leastWave_25 : decode cX0_leastWave 25 = .ok (.getfield 21, 3) := by decide +kernel
theorem dX0_leastWave_28 : decode cX0_leastWave 28 = .ok (.aload_n 0, 1) := by decide +kernel
theorem dX0_leastWave_29 : decode cX0_leastWave 29 = .ok (.getfield 12, 3) := by decide +kernel
theorem dX0_leastWave_32 : decode cX0_leastWave 32 = .ok (.iconst 0, 1) := by decide +kernel
theorem dX0_leastWave_33 : decode cX0_leastWave 33 = .ok (.invokevirtual 25, 3) := by decide +kernel
theorem dX0_leastWave_36 : decode cX0_leastWave 36 = .ok (.aload_n 0, 1) := by decide +kernel
theorem dX0_leastWave_37 : decode cX0_leastWave 37 = .ok (.getfield 21, 3) := by decide +kernel
theorem dX0_leastWave_40 : decode cX0_leastWave 40 = .ok (.getfield 66, 3) := by decide +kernel
theorem dX0_leastWave_43 : decode cX0_leastWave 43 = .ok (.iload_n 2, 1) := by decide +kernel
theorem dX0_leastWave_44 : decode cX0_leastWave 44 = .ok (.if_icmp .lt 5, 3) := by decide +kernel
theorem dX0_leastWave_47 : decode cX0_leastWave 47 = .ok (.iload_n 3, 1) := by decide +kernel
theorem dX0_leastWave_48 : decode cX0_leastWave 48 = .ok (.ireturn, 1) := by decide +kernel
theorem dX0_leastWave_49 : decode cX0_leastWave 49 = .ok (.iinc 3 1, 3) := by decide +kernel
theorem dX0_leastWave_52 : decode cX0_leastWave 52 = .ok (.goto (-42), 3) := by decide +kernel
theorem dX0_leastWave_55 : decode cX0_leastWave 55 = .ok (.bipush (-9), 2) := by decide +kernel
theorem dX0_leastWave_57 : decode cX0_leastWave 57 = .ok (.ireturn, 1) := by decide +kernel
theorem dX0_fewestTurned_0 : decode cX0_fewestTurned 0 = .ok (.aload_n 0, 1) := by decide +kernel
theorem dX0_fewestTurned_1 : decode cX0_fewestTurned 1 = .ok (.aload_n 1, 1) := by decide +kernel
theorem dX0_fewestTurned_2 : decode cX0_fewestTurned 2 = .ok (.iload_n 2, 1) := by decide +kernel
theorem dX0_fewestTurned_3 : decode cX0_fewestTurned 3 = .ok (.invokevirtual 69, 3) := by decide +kernel
theorem dX0_fewestTurned_6 : decode cX0_fewestTurned 6 = .ok (.istore_n 3, 1) := by decide +kernel
theorem dX0_fewestTurned_7 : decode cX0_fewestTurned 7 = .ok (.iconst 1, 1) := by decide +kernel
theorem dX0_fewestTurned_8 : decode cX0_fewestTurned 8 = .ok (.aload_n 1, 1) := by decide +kernel
theorem dX0_fewestTurned_9 : decode cX0_fewestTurned 9 = .ok (.getfield 44, 3) := by decide +kernel
theorem dX0_fewestTurned_12 : decode cX0_fewestTurned 12 = .ok (.ishl, 1) := by decide +kernel
theorem dX0_fewestTurned_13 : decode cX0_fewestTurned 13 = .ok (.istore 4, 2) := by decide +kernel
theorem dX0_fewestTurned_15 : decode cX0_fewestTurned 15 = .ok (.iconst 1, 1) := by decide +kernel
theorem dX0_fewestTurned_16 : decode cX0_fewestTurned 16 = .ok (.istore 5, 2) := by decide +kernel
theorem dX0_fewestTurned_18 : decode cX0_fewestTurned 18 = .ok (.iload 5, 2) := by decide +kernel
theorem dX0_fewestTurned_20 : decode cX0_fewestTurned 20 = .ok (.aload_n 1, 1) := by decide +kernel
theorem dX0_fewestTurned_21 : decode cX0_fewestTurned 21 = .ok (.getfield 44, 3) := by decide +kernel
theorem dX0_fewestTurned_24 : decode cX0_fewestTurned 24 = .ok (.if_icmp .gt 50, 3) := by decide +kernel
theorem dX0_fewestTurned_27 : decode cX0_fewestTurned 27 = .ok (.iconst 1, 1) := by decide +kernel
theorem dX0_fewestTurned_28 : decode cX0_fewestTurned 28 = .ok (.istore 6, 2) := by decide +kernel
theorem dX0_fewestTurned_30 : decode cX0_fewestTurned 30 = .ok (.iload 6, 2) := by decide +kernel
theorem dX0_fewestTurned_32 : decode cX0_fewestTurned 32 = .ok (.iload 4, 2) := by decide +kernel
theorem dX0_fewestTurned_34 : decode cX0_fewestTurned 34 = .ok (.if_icmp .ge 34, 3) := by decide +kernel
theorem dX0_fewestTurned_37 : decode cX0_fewestTurned 37 = .ok (.iload 6, 2) := by decide +kernel
theorem dX0_fewestTurned_39 : decode cX0_fewestTurned 39 = .ok (.invokestatic 73, 3) := by decide +kernel
theorem dX0_fewestTurned_42 : decode cX0_fewestTurned 42 = .ok (.iload 5, 2) := by decide +kernel
theorem dX0_fewestTurned_44 : decode cX0_fewestTurned 44 = .ok (.if_icmp .ne 18, 3) := by decide +kernel
theorem dX0_fewestTurned_47 : decode cX0_fewestTurned 47 = .ok (.aload_n 0, 1) := by decide +kernel
theorem dX0_fewestTurned_48 : decode cX0_fewestTurned 48 = .ok (.aload_n 1, 1) := by decide +kernel
theorem dX0_fewestTurned_49 : decode cX0_fewestTurned 49 = .ok (.iload 6, 2) := by decide +kernel
theorem dX0_fewestTurned_51 : decode cX0_fewestTurned 51 = .ok (.iload_n 2, 1) := by decide +kernel
theorem dX0_fewestTurned_52 : decode cX0_fewestTurned 52 = .ok (.iload_n 3, 1) := by decide +kernel
theorem dX0_fewestTurned_53 : decode cX0_fewestTurned 53 = .ok (.invokevirtual 79, 3) := by decide +kernel
theorem dX0_fewestTurned_56 : decode cX0_fewestTurned 56 = .ok (.ifCond .eq 6, 3) := by decide +kernel
theorem dX0_fewestTurned_59 : decode cX0_fewestTurned 59 = .ok (.iload 6, 2) := by decide +kernel
theorem dX0_fewestTurned_61 : decode cX0_fewestTurned 61 = .ok (.ireturn, 1) := by decide +kernel
theorem dX0_fewestTurned_62 : decode cX0_fewestTurned 62 = .ok (.iinc 6 1, 3) := by decide +kernel
theorem dX0_fewestTurned_65 : decode cX0_fewestTurned 65 = .ok (.goto (-35), 3) := by decide +kernel
theorem dX0_fewestTurned_68 : decode cX0_fewestTurned 68 = .ok (.iinc 5 1, 3) := by decide +kernel
theorem dX0_fewestTurned_71 : decode cX0_fewestTurned 71 = .ok (.goto (-53), 3) := by decide +kernel
theorem dX0_fewestTurned_74 : decode cX0_fewestTurned 74 = .ok (.bipush (-9), 2) := by decide +kernel
theorem dX0_fewestTurned_76 : decode cX0_fewestTurned 76 = .ok (.ireturn, 1) := by decide +kernel
theorem dX0_measured_0 : decode cX0_measured 0 = .ok (.aload_n 0, 1) := by decide +kernel
theorem dX0_measured_1 : decode cX0_measured 1 = .ok (.getfield 21, 3) := by decide +kernel
theorem dX0_measured_4 : decode cX0_measured 4 = .ok (.aload_n 1, 1) := by decide +kernel
theorem dX0_measured_5 : decode cX0_measured 5 = .ok (.iconst 0, 1) := by decide +kernel
theorem dX0_measured_6 : decode cX0_measured 6 = .ok (.invokevirtual 25, 3) := by decide +kernel
theorem dX0_measured_9 : decode cX0_measured 9 = .ok (.iload_n 2, 1) := by decide +kernel
theorem dX0_measured_10 : decode cX0_measured 10 = .ok (.ifCond .eq 14, 3) := by decide +kernel
theorem dX0_measured_13 : decode cX0_measured 13 = .ok (.aload_n 0, 1) := by decide +kernel
theorem dX0_measured_14 : decode cX0_measured 14 = .ok (.getfield 21, 3) := by decide +kernel
theorem dX0_measured_17 : decode cX0_measured 17 = .ok (.aload_n 1, 1) := by decide +kernel
theorem dX0_measured_18 : decode cX0_measured 18 = .ok (.invokevirtual 29, 3) := by decide +kernel
theorem dX0_measured_21 : decode cX0_measured 21 = .ok (.goto 10, 3) := by decide +kernel
theorem dX0_measured_24 : decode cX0_measured 24 = .ok (.aload_n 0, 1) := by decide +kernel
theorem dX0_measured_25 : decode cX0_measured 25 = .ok (.getfield 21, 3) := by decide +kernel
theorem dX0_measured_28 : decode cX0_measured 28 = .ok (.getfield 66, 3) := by decide +kernel
theorem dX0_measured_31 : decode cX0_measured 31 = .ok (.ireturn, 1) := by decide +kernel
theorem dX0_isReached_0 : decode cX0_isReached 0 = .ok (.iload_n 3, 1) := by decide +kernel
theorem dX0_isReached_1 : decode cX0_isReached 1 = .ok (.ifCond .eq 7, 3) := by decide +kernel
theorem dX0_isReached_4 : decode cX0_isReached 4 = .ok (.iconst 5, 1) := by decide +kernel
theorem dX0_isReached_5 : decode cX0_isReached 5 = .ok (.goto 4, 3) := by decide +kernel
theorem dX0_isReached_8 : decode cX0_isReached 8 = .ok (.iconst 2, 1) := by decide +kernel
theorem dX0_isReached_9 : decode cX0_isReached 9 = .ok (.istore 5, 2) := by decide +kernel
theorem dX0_isReached_11 : decode cX0_isReached 11 = .ok (.aload_n 0, 1) := by decide +kernel
theorem dX0_isReached_12 : decode cX0_isReached 12 = .ok (.getfield 12, 3) := by decide +kernel
theorem dX0_isReached_15 : decode cX0_isReached 15 = .ok (.aload_n 1, 1) := by decide +kernel
theorem dX0_isReached_16 : decode cX0_isReached 16 = .ok (.invokevirtual 33, 3) := by decide +kernel
theorem dX0_isReached_19 : decode cX0_isReached 19 = .ok (.iconst 0, 1) := by decide +kernel
theorem dX0_isReached_20 : decode cX0_isReached 20 = .ok (.istore 6, 2) := by decide +kernel
theorem dX0_isReached_22 : decode cX0_isReached 22 = .ok (.iload 6, 2) := by decide +kernel
theorem dX0_isReached_24 : decode cX0_isReached 24 = .ok (.aload_n 0, 1) := by decide +kernel
theorem dX0_isReached_25 : decode cX0_isReached 25 = .ok (.getfield 12, 3) := by decide +kernel
theorem dX0_isReached_28 : decode cX0_isReached 28 = .ok (.getfield 44, 3) := by decide +kernel
theorem dX0_isReached_31 : decode cX0_isReached 31 = .ok (.if_icmp .ge 30, 3) := by decide +kernel
theorem dX0_isReached_34 : decode cX0_isReached 34 = .ok (.iload_n 2, 1) := by decide +kernel
theorem dX0_isReached_35 : decode cX0_isReached 35 = .ok (.iload 6, 2) := by decide +kernel
theorem dX0_isReached_37 : decode cX0_isReached 37 = .ok (.ishr, 1) := by decide +kernel
theorem dX0_isReached_38 : decode cX0_isReached 38 = .ok (.iconst 1, 1) := by decide +kernel
theorem dX0_isReached_39 : decode cX0_isReached 39 = .ok (.iand, 1) := by decide +kernel
theorem dX0_isReached_40 : decode cX0_isReached 40 = .ok (.ifCond .eq 15, 3) := by decide +kernel
theorem dX0_isReached_43 : decode cX0_isReached 43 = .ok (.aload_n 0, 1) := by decide +kernel
theorem dX0_isReached_44 : decode cX0_isReached 44 = .ok (.getfield 12, 3) := by decide +kernel
theorem dX0_isReached_47 : decode cX0_isReached 47 = .ok (.getfield 54, 3) := by decide +kernel
theorem dX0_isReached_50 : decode cX0_isReached 50 = .ok (.iload 6, 2) := by decide +kernel
theorem dX0_isReached_52 : decode cX0_isReached 52 = .ok (.iload 5, 2) := by decide +kernel
theorem dX0_isReached_54 : decode cX0_isReached 54 = .ok (.iastore, 1) := by decide +kernel
theorem dX0_isReached_55 : decode cX0_isReached 55 = .ok (.iinc 6 1, 3) := by decide +kernel
theorem dX0_isReached_58 : decode cX0_isReached 58 = .ok (.goto (-36), 3) := by decide +kernel
theorem dX0_isReached_61 : decode cX0_isReached 61 = .ok (.aload_n 0, 1) := by decide +kernel
theorem dX0_isReached_62 : decode cX0_isReached 62 = .ok (.aload_n 0, 1) := by decide +kernel
theorem dX0_isReached_63 : decode cX0_isReached 63 = .ok (.getfield 12, 3) := by decide +kernel
theorem dX0_isReached_66 : decode cX0_isReached 66 = .ok (.iload_n 3, 1) := by decide +kernel
theorem dX0_isReached_67 : decode cX0_isReached 67 = .ok (.invokevirtual 69, 3) := by decide +kernel
theorem dX0_isReached_70 : decode cX0_isReached 70 = .ok (.istore 6, 2) := by decide +kernel
theorem dX0_isReached_72 : decode cX0_isReached 72 = .ok (.iload_n 3, 1) := by decide +kernel
theorem dX0_isReached_73 : decode cX0_isReached 73 = .ok (.ifCond .eq 18, 3) := by decide +kernel
theorem dX0_isReached_76 : decode cX0_isReached 76 = .ok (.iload 6, 2) := by decide +kernel
theorem dX0_isReached_78 : decode cX0_isReached 78 = .ok (.iload 4, 2) := by decide +kernel
theorem dX0_isReached_80 : decode cX0_isReached 80 = .ok (.if_icmp .ge 7, 3) := by decide +kernel
theorem dX0_isReached_83 : decode cX0_isReached 83 = .ok (.iconst 1, 1) := by decide +kernel
theorem dX0_isReached_84 : decode cX0_isReached 84 = .ok (.goto 19, 3) := by decide +kernel
theorem dX0_isReached_87 : decode cX0_isReached 87 = .ok (.iconst 0, 1) := by decide +kernel
theorem dX0_isReached_88 : decode cX0_isReached 88 = .ok (.goto 15, 3) := by decide +kernel
theorem dX0_isReached_91 : decode cX0_isReached 91 = .ok (.iload 6, 2) := by decide +kernel
theorem dX0_isReached_93 : decode cX0_isReached 93 = .ok (.iload 4, 2) := by decide +kernel
theorem dX0_isReached_95 : decode cX0_isReached 95 = .ok (.if_icmp .le 7, 3) := by decide +kernel
theorem dX0_isReached_98 : decode cX0_isReached 98 = .ok (.iconst 1, 1) := by decide +kernel
theorem dX0_isReached_99 : decode cX0_isReached 99 = .ok (.goto 4, 3) := by decide +kernel
theorem dX0_isReached_102 : decode cX0_isReached 102 = .ok (.iconst 0, 1) := by decide +kernel
theorem dX0_isReached_103 : decode cX0_isReached 103 = .ok (.ireturn, 1) := by decide +kernel
theorem dX0_fewestGone_0 : decode cX0_fewestGone 0 = .ok (.iconst 1, 1) := by decide +kernel
theorem dX0_fewestGone_1 : decode cX0_fewestGone 1 = .ok (.aload_n 1, 1) := by decide +kernel
theorem dX0_fewestGone_2 : decode cX0_fewestGone 2 = .ok (.getfield 44, 3) := by decide +kernel
theorem dX0_fewestGone_5 : decode cX0_fewestGone 5 = .ok (.ishl, 1) := by decide +kernel
theorem dX0_fewestGone_6 : decode cX0_fewestGone 6 = .ok (.istore_n 3, 1) := by decide +kernel
theorem dX0_fewestGone_7 : decode cX0_fewestGone 7 = .ok (.iconst 0, 1) := by decide +kernel
theorem dX0_fewestGone_8 : decode cX0_fewestGone 8 = .ok (.istore 4, 2) := by decide +kernel
theorem dX0_fewestGone_10 : decode cX0_fewestGone 10 = .ok (.iload 4, 2) := by decide +kernel
theorem dX0_fewestGone_12 : decode cX0_fewestGone 12 = .ok (.aload_n 1, 1) := by decide +kernel
theorem dX0_fewestGone_13 : decode cX0_fewestGone 13 = .ok (.getfield 44, 3) := by decide +kernel
theorem dX0_fewestGone_16 : decode cX0_fewestGone 16 = .ok (.if_icmp .gt 48, 3) := by decide +kernel
theorem dX0_fewestGone_19 : decode cX0_fewestGone 19 = .ok (.iconst 0, 1) := by decide +kernel
theorem dX0_fewestGone_20 : decode cX0_fewestGone 20 = .ok (.istore 5, 2) := by decide +kernel
theorem dX0_fewestGone_22 : decode cX0_fewestGone 22 = .ok (.iload 5, 2) := by decide +kernel
theorem dX0_fewestGone_24 : decode cX0_fewestGone 24 = .ok (.iload_n 3, 1) := by decide +kernel
theorem dX0_fewestGone_25 : decode cX0_fewestGone 25 = .ok (.if_icmp .ge 33, 3) := by decide +kernel
theorem dX0_fewestGone_28 : decode cX0_fewestGone 28 = .ok (.iload 5, 2) := by decide +kernel
theorem dX0_fewestGone_30 : decode cX0_fewestGone 30 = .ok (.invokestatic 73, 3) := by decide +kernel
theorem dX0_fewestGone_33 : decode cX0_fewestGone 33 = .ok (.iload 4, 2) := by decide +kernel
theorem dX0_fewestGone_35 : decode cX0_fewestGone 35 = .ok (.if_icmp .ne 17, 3) := by decide +kernel
theorem dX0_fewestGone_38 : decode cX0_fewestGone 38 = .ok (.aload_n 0, 1) := by decide +kernel
theorem dX0_fewestGone_39 : decode cX0_fewestGone 39 = .ok (.aload_n 1, 1) := by decide +kernel
theorem dX0_fewestGone_40 : decode cX0_fewestGone 40 = .ok (.iload 5, 2) := by decide +kernel
theorem dX0_fewestGone_42 : decode cX0_fewestGone 42 = .ok (.iload_n 2, 1) := by decide +kernel
theorem dX0_fewestGone_43 : decode cX0_fewestGone 43 = .ok (.invokevirtual 83, 3) := by decide +kernel
theorem dX0_fewestGone_46 : decode cX0_fewestGone 46 = .ok (.ifCond .eq 6, 3) := by decide +kernel
theorem dX0_fewestGone_49 : decode cX0_fewestGone 49 = .ok (.iload 5, 2) := by decide +kernel
theorem dX0_fewestGone_51 : decode cX0_fewestGone 51 = .ok (.ireturn, 1) := by decide +kernel
theorem dX0_fewestGone_52 : decode cX0_fewestGone 52 = .ok (.iinc 5 1, 3) := by decide +kernel
theorem dX0_fewestGone_55 : decode cX0_fewestGone 55 = .ok (.goto (-33), 3) := by decide +kernel
theorem dX0_fewestGone_58 : decode cX0_fewestGone 58 = .ok (.iinc 4 1, 3) := by decide +kernel
theorem dX0_fewestGone_61 : decode cX0_fewestGone 61 = .ok (.goto (-51), 3) := by decide +kernel
theorem dX0_fewestGone_64 : decode cX0_fewestGone 64 = .ok (.iload_n 3, 1) := by decide +kernel
theorem dX0_fewestGone_65 : decode cX0_fewestGone 65 = .ok (.iconst 1, 1) := by decide +kernel
theorem dX0_fewestGone_66 : decode cX0_fewestGone 66 = .ok (.isub, 1) := by decide +kernel
theorem dX0_fewestGone_67 : decode cX0_fewestGone 67 = .ok (.ireturn, 1) := by decide +kernel
theorem dX0_isWithin_0 : decode cX0_isWithin 0 = .ok (.aload_n 0, 1) := by decide +kernel
theorem dX0_isWithin_1 : decode cX0_isWithin 1 = .ok (.getfield 21, 3) := by decide +kernel
theorem dX0_isWithin_4 : decode cX0_isWithin 4 = .ok (.aload_n 1, 1) := by decide +kernel
theorem dX0_isWithin_5 : decode cX0_isWithin 5 = .ok (.iload_n 2, 1) := by decide +kernel
theorem dX0_isWithin_6 : decode cX0_isWithin 6 = .ok (.invokevirtual 25, 3) := by decide +kernel
theorem dX0_isWithin_9 : decode cX0_isWithin 9 = .ok (.aload_n 0, 1) := by decide +kernel
theorem dX0_isWithin_10 : decode cX0_isWithin 10 = .ok (.getfield 21, 3) := by decide +kernel
theorem dX0_isWithin_13 : decode cX0_isWithin 13 = .ok (.getfield 66, 3) := by decide +kernel
theorem dX0_isWithin_16 : decode cX0_isWithin 16 = .ok (.iload_n 3, 1) := by decide +kernel
theorem dX0_isWithin_17 : decode cX0_isWithin 17 = .ok (.if_icmp .gt 7, 3) := by decide +kernel
theorem dX0_isWithin_20 : decode cX0_isWithin 20 = .ok (.iconst 1, 1) := by decide +kernel
theorem dX0_isWithin_21 : decode cX0_isWithin 21 = .ok (.goto 4, 3) := by decide +kernel
theorem dX0_isWithin_24 : decode cX0_isWithin 24 = .ok (.iconst 0, 1) := by decide +kernel
theorem dX0_isWithin_25 : decode cX0_isWithin 25 = .ok (.ireturn, 1) := by decide +kernel
theorem dX1_init_0 : decode cX1_init 0 = .ok (.aload_n 0, 1) := by decide +kernel
theorem dX1_init_1 : decode cX1_init 1 = .ok (.invokespecial 3, 3) := by decide +kernel
theorem dX1_init_4 : decode cX1_init 4 = .ok (.aload_n 0, 1) := by decide +kernel
theorem dX1_init_5 : decode cX1_init 5 = .ok (.new 9, 3) := by decide +kernel
theorem dX1_init_8 : decode cX1_init 8 = .ok (.dup, 1) := by decide +kernel
theorem dX1_init_9 : decode cX1_init 9 = .ok (.invokespecial 11, 3) := by decide +kernel
theorem dX1_init_12 : decode cX1_init 12 = .ok (.putfield 12, 3) := by decide +kernel
theorem dX1_init_15 : decode cX1_init 15 = .ok (.aload_n 0, 1) := by decide +kernel
theorem dX1_init_16 : decode cX1_init 16 = .ok (.new 18, 3) := by decide +kernel
theorem dX1_init_19 : decode cX1_init 19 = .ok (.dup, 1) := by decide +kernel
theorem dX1_init_20 : decode cX1_init 20 = .ok (.invokespecial 20, 3) := by decide +kernel
theorem dX1_init_23 : decode cX1_init 23 = .ok (.putfield 21, 3) := by decide +kernel
theorem dX1_init_26 : decode cX1_init 26 = .ok (.aload_n 0, 1) := by decide +kernel
theorem dX1_init_27 : decode cX1_init 27 = .ok (.iconst 4, 1) := by decide +kernel
theorem dX1_init_28 : decode cX1_init 28 = .ok (.newarray .int, 2) := by decide +kernel
theorem dX1_init_30 : decode cX1_init 30 = .ok (.putfield 25, 3) := by decide +kernel
theorem dX1_init_33 : decode cX1_init 33 = .ok (.aload_n 0, 1) := by decide +kernel
theorem dX1_init_34 : decode cX1_init 34 = .ok (.iconst 4, 1) := by decide +kernel
theorem dX1_init_35 : decode cX1_init 35 = .ok (.newarray .int, 2) := by decide +kernel
theorem dX1_init_37 : decode cX1_init 37 = .ok (.putfield 29, 3) := by decide +kernel
theorem dX1_init_40 : decode cX1_init 40 = .ok (.aload_n 0, 1) := by decide +kernel
theorem dX1_init_41 : decode cX1_init 41 = .ok (.iconst 0, 1) := by decide +kernel
theorem dX1_init_42 : decode cX1_init 42 = .ok (.putfield 32, 3) := by decide +kernel
theorem dX1_init_45 : decode cX1_init 45 = .ok (.return_, 1) := by decide +kernel
theorem dX1_loss_0 : decode cX1_loss 0 = .ok (.aload_n 0, 1) := by decide +kernel
theorem dX1_loss_1 : decode cX1_loss 1 = .ok (.getfield 21, 3) := by decide +kernel
theorem dX1_loss_4 : decode cX1_loss 4 = .ok (.aload_n 1, 1) := by decide +kernel
theorem dX1_loss_5 : decode cX1_loss 5 = .ok (.iconst 0, 1) := by decide +kernel
theorem dX1_loss_6 : decode cX1_loss 6 = .ok (.invokevirtual 36, 3) := by decide +kernel
theorem dX1_loss_9 : decode cX1_loss 9 = .ok (.aload_n 0, 1) := by decide +kernel
theorem dX1_loss_10 : decode cX1_loss 10 = .ok (.getfield 21, 3) := by decide +kernel
theorem dX1_loss_13 : decode cX1_loss 13 = .ok (.getfield 40, 3) := by decide +kernel
theorem dX1_loss_16 : decode cX1_loss 16 = .ok (.iload_n 2, 1) := by decide +kernel
theorem dX1_loss_17 : decode cX1_loss 17 = .ok (.iaload, 1) := by decide +kernel
theorem dX1_loss_18 : decode cX1_loss 18 = .ok (.istore 4, 2) := by decide +kernel
theorem dX1_loss_20 : decode cX1_loss 20 = .ok (.aload_n 0, 1) := by decide +kernel
theorem dX1_loss_21 : decode cX1_loss 21 = .ok (.getfield 21, 3) := by decide +kernel
theorem dX1_loss_24 : decode cX1_loss 24 = .ok (.aload_n 1, 1) := by decide +kernel
theorem dX1_loss_25 : decode cX1_loss 25 = .ok (.iconst 1, 1) := by decide +kernel
theorem dX1_loss_26 : decode cX1_loss 26 = .ok (.iload_n 3, 1) := by decide +kernel
theorem dX1_loss_27 : decode cX1_loss 27 = .ok (.ishl, 1) := by decide +kernel
theorem dX1_loss_28 : decode cX1_loss 28 = .ok (.invokevirtual 36, 3) := by decide +kernel
theorem dX1_loss_31 : decode cX1_loss 31 = .ok (.iload 4, 2) := by decide +kernel
theorem dX1_loss_33 : decode cX1_loss 33 = .ok (.aload_n 0, 1) := by decide +kernel
theorem dX1_loss_34 : decode cX1_loss 34 = .ok (.getfield 21, 3) := by decide +kernel
theorem dX1_loss_37 : decode cX1_loss 37 = .ok (.getfield 40, 3) := by decide +kernel
theorem dX1_loss_40 : decode cX1_loss 40 = .ok (.iload_n 2, 1) := by decide +kernel
theorem dX1_loss_41 : decode cX1_loss 41 = .ok (.iaload, 1) := by decide +kernel
theorem dX1_loss_42 : decode cX1_loss 42 = .ok (.isub, 1) := by decide +kernel
theorem dX1_loss_43 : decode cX1_loss 43 = .ok (.ireturn, 1) := by decide +kernel
theorem dX1_greatestLossBy_0 : decode cX1_greatestLossBy 0 = .ok (.bipush (-9), 2) := by decide +kernel
theorem dX1_greatestLossBy_2 : decode cX1_greatestLossBy 2 = .ok (.istore_n 3, 1) := by decide +kernel
theorem dX1_greatestLossBy_3 : decode cX1_greatestLossBy 3 = .ok (.iconst 0, 1) := by decide +kernel
theorem dX1_greatestLossBy_4 : decode cX1_greatestLossBy 4 = .ok (.istore 4, 2) := by decide +kernel
theorem dX1_greatestLossBy_6 : decode cX1_greatestLossBy 6 = .ok (.iconst 0, 1) := by decide +kernel
theorem dX1_greatestLossBy_7 : decode cX1_greatestLossBy 7 = .ok (.istore 5, 2) := by decide +kernel
theorem dX1_greatestLossBy_9 : decode cX1_greatestLossBy 9 = .ok (.iload 5, 2) := by decide +kernel
theorem dX1_greatestLossBy_11 : decode cX1_greatestLossBy 11 = .ok (.aload_n 1, 1) := by decide +kernel
theorem dX1_greatestLossBy_12 : decode cX1_greatestLossBy 12 = .ok (.getfield 43, 3) := by decide +kernel
theorem dX1_greatestLossBy_15 : decode cX1_greatestLossBy 15 = .ok (.if_icmp .ge 48, 3) := by decide +kernel
theorem dX1_greatestLossBy_18 : decode cX1_greatestLossBy 18 = .ok (.iload 5, 2) := by decide +kernel
theorem dX1_greatestLossBy_20 : decode cX1_greatestLossBy 20 = .ok (.iload_n 2, 1) := by decide +kernel
theorem dX1_greatestLossBy_21 : decode cX1_greatestLossBy 21 = .ok (.if_icmp .ne 6, 3) := by decide +kernel
theorem dX1_greatestLossBy_24 : decode cX1_greatestLossBy 24 = .ok (.goto 33, 3) := by decide +kernel
theorem dX1_greatestLossBy_27 : decode cX1_greatestLossBy 27 = .ok (.aload_n 0, 1) := by decide +kernel
theorem dX1_greatestLossBy_28 : decode cX1_greatestLossBy 28 = .ok (.aload_n 1, 1) := by decide +kernel
theorem dX1_greatestLossBy_29 : decode cX1_greatestLossBy 29 = .ok (.iload_n 2, 1) := by decide +kernel
theorem dX1_greatestLossBy_30 : decode cX1_greatestLossBy 30 = .ok (.iload 5, 2) := by decide +kernel
theorem dX1_greatestLossBy_32 : decode cX1_greatestLossBy 32 = .ok (.invokevirtual 46, 3) := by decide +kernel
theorem dX1_greatestLossBy_35 : decode cX1_greatestLossBy 35 = .ok (.istore 6, 2) := by decide +kernel
theorem dX1_greatestLossBy_37 : decode cX1_greatestLossBy 37 = .ok (.iload_n 3, 1) := by decide +kernel
theorem dX1_greatestLossBy_38 : decode cX1_greatestLossBy 38 = .ok (.bipush (-9), 2) := by decide +kernel
theorem dX1_greatestLossBy_40 : decode cX1_greatestLossBy 40 = .ok (.if_icmp .eq 10, 3) := by decide +kernel
theorem dX1_greatestLossBy_43 : decode cX1_greatestLossBy 43 = .ok (.iload 6, 2) := by decide +kernel
theorem dX1_greatestLossBy_45 : decode cX1_greatestLossBy 45 = .ok (.iload 4, 2) := by decide +kernel
theorem dX1_greatestLossBy_47 : decode cX1_greatestLossBy 47 = .ok (.if_icmp .le 10, 3) := by decide +kernel
theorem dX1_greatestLossBy_50 : decode cX1_greatestLossBy 50 = .ok (.iload 5, 2) := by decide +kernel
theorem dX1_greatestLossBy_52 : decode cX1_greatestLossBy 52 = .ok (.istore_n 3, 1) := by decide +kernel
theorem dX1_greatestLossBy_53 : decode cX1_greatestLossBy 53 = .ok (.iload 6, 2) := by decide +kernel
theorem dX1_greatestLossBy_55 : decode cX1_greatestLossBy 55 = .ok (.istore 4, 2) := by decide +kernel
theorem dX1_greatestLossBy_57 : decode cX1_greatestLossBy 57 = .ok (.iinc 5 1, 3) := by decide +kernel
theorem dX1_greatestLossBy_60 : decode cX1_greatestLossBy 60 = .ok (.goto (-51), 3) := by decide +kernel
theorem dX1_greatestLossBy_63 : decode cX1_greatestLossBy 63 = .ok (.iload_n 3, 1) := by decide +kernel
theorem dX1_greatestLossBy_64 : decode cX1_greatestLossBy 64 = .ok (.ireturn, 1) := by decide +kernel
theorem dX1_steadyPair_0 : decode cX1_steadyPair 0 = .ok (.iconst 0, 1) := by decide +kernel
theorem dX1_steadyPair_1 : decode cX1_steadyPair 1 = .ok (.istore 4, 2) := by decide +kernel
theorem dX1_steadyPair_3 : decode cX1_steadyPair 3 = .ok (.iload 4, 2) := by decide +kernel
theorem dX1_steadyPair_5 : decode cX1_steadyPair 5 = .ok (.iconst 4, 1) := by decide +kernel
theorem dX1_steadyPair_6 : decode cX1_steadyPair 6 = .ok (.if_icmp .ge 87, 3) := by decide +kernel
theorem dX1_steadyPair_9 : decode cX1_steadyPair 9 = .ok (.aload_n 0, 1) := by decide +kernel
theorem dX1_steadyPair_10 : decode cX1_steadyPair 10 = .ok (.getfield 12, 3) := by decide +kernel
theorem dX1_steadyPair_13 : decode cX1_steadyPair 13 = .ok (.aload_n 1, 1) := by decide +kernel
theorem dX1_steadyPair_14 : decode cX1_steadyPair 14 = .ok (.invokevirtual 50, 3) := by decide +kernel
theorem dX1_steadyPair_17 : decode cX1_steadyPair 17 = .ok (.aload_n 0, 1) := by decide +kernel
theorem dX1_steadyPair_18 : decode cX1_steadyPair 18 = .ok (.getfield 12, 3) := by decide +kernel
theorem dX1_steadyPair_21 : decode cX1_steadyPair 21 = .ok (.iload 4, 2) := by decide +kernel
theorem dX1_steadyPair_23 : decode cX1_steadyPair 23 = .ok (.iconst 1, 1) := by decide +kernel
theorem dX1_steadyPair_24 : decode cX1_steadyPair 24 = .ok (.ishr, 1) := by decide +kernel
theorem dX1_steadyPair_25 : decode cX1_steadyPair 25 = .ok (.iload_n 2, 1) := by decide +kernel
theorem dX1_steadyPair_26 : decode cX1_steadyPair 26 = .ok (.invokevirtual 54, 3) := by decide +kernel
theorem dX1_steadyPair_29 : decode cX1_steadyPair 29 = .ok (.pop, 1) := by decide +kernel
theorem dX1_steadyPair_30 : decode cX1_steadyPair 30 = .ok (.aload_n 0, 1) := by decide +kernel
theorem dX1_steadyPair_31 : decode cX1_steadyPair 31 = .ok (.getfield 12, 3) := by decide +kernel
theorem dX1_steadyPair_34 : decode cX1_steadyPair 34 = .ok (.iload 4, 2) := by decide +kernel
theorem dX1_steadyPair_36 : decode cX1_steadyPair 36 = .ok (.iconst 1, 1) := by decide +kernel
theorem dX1_steadyPair_37 : decode cX1_steadyPair 37 = .ok (.iand, 1) := by decide +kernel
theorem dX1_steadyPair_38 : decode cX1_steadyPair 38 = .ok (.iload_n 3, 1) := by decide +kernel
theorem dX1_steadyPair_39 : decode cX1_steadyPair 39 = .ok (.invokevirtual 54, 3) := by decide +kernel
theorem dX1_steadyPair_42 : decode cX1_steadyPair 42 = .ok (.pop, 1) := by decide +kernel
theorem dX1_steadyPair_43 : decode cX1_steadyPair 43 = .ok (.aload_n 0, 1) := by decide +kernel
theorem dX1_steadyPair_44 : decode cX1_steadyPair 44 = .ok (.getfield 21, 3) := by decide +kernel
theorem dX1_steadyPair_47 : decode cX1_steadyPair 47 = .ok (.aload_n 0, 1) := by decide +kernel
theorem dX1_steadyPair_48 : decode cX1_steadyPair 48 = .ok (.getfield 12, 3) := by decide +kernel
theorem dX1_steadyPair_51 : decode cX1_steadyPair 51 = .ok (.iconst 0, 1) := by decide +kernel
theorem dX1_steadyPair_52 : decode cX1_steadyPair 52 = .ok (.invokevirtual 36, 3) := by decide +kernel
theorem dX1_steadyPair_55 : decode cX1_steadyPair 55 = .ok (.aload_n 0, 1) := by decide +kernel
theorem dX1_steadyPair_56 : decode cX1_steadyPair 56 = .ok (.getfield 25, 3) := by decide +kernel
theorem dX1_steadyPair_59 : decode cX1_steadyPair 59 = .ok (.iload 4, 2) := by decide +kernel
theorem dX1_steadyPair_61 : decode cX1_steadyPair 61 = .ok (.aload_n 0, 1) := by decide +kernel
theorem dX1_steadyPair_62 : decode cX1_steadyPair 62 = .ok (.getfield 21, 3) := by decide +kernel
theorem dX1_steadyPair_65 : decode cX1_steadyPair 65 = .ok (.getfield 40, 3) := by decide +kernel
theorem dX1_steadyPair_68 : decode cX1_steadyPair 68 = .ok (.iload_n 2, 1) := by decide +kernel
theorem dX1_steadyPair_69 : decode cX1_steadyPair 69 = .ok (.iaload, 1) := by decide +kernel
theorem dX1_steadyPair_70 : decode cX1_steadyPair 70 = .ok (.iastore, 1) := by decide +kernel
theorem dX1_steadyPair_71 : decode cX1_steadyPair 71 = .ok (.aload_n 0, 1) := by decide +kernel
theorem dX1_steadyPair_72 : decode cX1_steadyPair 72 = .ok (.getfield 29, 3) := by decide +kernel
theorem dX1_steadyPair_75 : decode cX1_steadyPair 75 = .ok (.iload 4, 2) := by decide +kernel
theorem dX1_steadyPair_77 : decode cX1_steadyPair 77 = .ok (.aload_n 0, 1) := by decide +kernel
theorem dX1_steadyPair_78 : decode cX1_steadyPair 78 = .ok (.getfield 21, 3) := by decide +kernel
theorem dX1_steadyPair_81 : decode cX1_steadyPair 81 = .ok (.getfield 40, 3) := by decide +kernel
theorem dX1_steadyPair_84 : decode cX1_steadyPair 84 = .ok (.iload_n 3, 1) := by decide +kernel
theorem dX1_steadyPair_85 : decode cX1_steadyPair 85 = .ok (.iaload, 1) := by decide +kernel
theorem dX1_steadyPair_86 : decode cX1_steadyPair 86 = .ok (.iastore, 1) := by decide +kernel
theorem dX1_steadyPair_87 : decode cX1_steadyPair 87 = .ok (.iinc 4 1, 3) := by decide +kernel
theorem dX1_steadyPair_90 : decode cX1_steadyPair 90 = .ok (.goto (-87), 3) := by decide +kernel
theorem dX1_steadyPair_93 : decode cX1_steadyPair 93 = .ok (.iconst 0, 1) := by decide +kernel
theorem dX1_steadyPair_94 : decode cX1_steadyPair 94 = .ok (.istore 4, 2) := by decide +kernel
theorem dX1_steadyPair_96 : decode cX1_steadyPair 96 = .ok (.iload 4, 2) := by decide +kernel
theorem dX1_steadyPair_98 : decode cX1_steadyPair 98 = .ok (.iconst 4, 1) := by decide +kernel
theorem dX1_steadyPair_99 : decode cX1_steadyPair 99 = .ok (.if_icmp .ge 84, 3) := by decide +kernel
theorem dX1_steadyPair_102 : decode cX1_steadyPair 102 = .ok (.aload_n 0, 1) := by decide +kernel
theorem dX1_steadyPair_103 : decode cX1_steadyPair 103 = .ok (.getfield 25, 3) := by decide +kernel
theorem dX1_steadyPair_106 : decode cX1_steadyPair 106 = .ok (.iload 4, 2) := by decide +kernel
theorem dX1_steadyPair_108 : decode cX1_steadyPair 108 = .ok (.iaload, 1) := by decide +kernel
theorem dX1_steadyPair_109 : decode cX1_steadyPair 109 = .ok (.aload_n 0, 1) := by decide +kernel
theorem dX1_steadyPair_110 : decode cX1_steadyPair 110 = .ok (.getfield 25, 3) := by decide +kernel
theorem dX1_steadyPair_113 : decode cX1_steadyPair 113 = .ok (.iload 4, 2) := by decide +kernel
theorem dX1_steadyPair_115 : decode cX1_steadyPair 115 = .ok (.iconst 2, 1) := by decide +kernel
theorem dX1_steadyPair_116 : decode cX1_steadyPair 116 = .ok (.ixor, 1) := by decide +kernel
theorem dX1_steadyPair_117 : decode cX1_steadyPair 117 = .ok (.iaload, 1) := by decide +kernel
theorem dX1_steadyPair_118 : decode cX1_steadyPair 118 = .ok (.if_icmp .gt 7, 3) := by decide +kernel
theorem dX1_steadyPair_121 : decode cX1_steadyPair 121 = .ok (.iconst 1, 1) := by decide +kernel
theorem dX1_steadyPair_122 : decode cX1_steadyPair 122 = .ok (.goto 4, 3) := by decide +kernel
theorem dX1_steadyPair_125 : decode cX1_steadyPair 125 = .ok (.iconst 0, 1) := by decide +kernel
theorem dX1_steadyPair_126 : decode cX1_steadyPair 126 = .ok (.istore 5, 2) := by decide +kernel
theorem dX1_steadyPair_128 : decode cX1_steadyPair 128 = .ok (.aload_n 0, 1) := by decide +kernel
theorem dX1_steadyPair_129 : decode cX1_steadyPair 129 = .ok (.getfield 29, 3) := by decide +kernel
theorem dX1_steadyPair_132 : decode cX1_steadyPair 132 = .ok (.iload 4, 2) := by decide +kernel
theorem dX1_steadyPair_134 : decode cX1_steadyPair 134 = .ok (.iaload, 1) := by decide +kernel
theorem dX1_steadyPair_135 : decode cX1_steadyPair 135 = .ok (.aload_n 0, 1) := by decide +kernel
theorem dX1_steadyPair_136 : decode cX1_steadyPair 136 = .ok (.getfield 29, 3) := by decide +kernel
theorem dX1_steadyPair_139 : decode cX1_steadyPair 139 = .ok (.iload 4, 2) := by decide +kernel
theorem dX1_steadyPair_141 : decode cX1_steadyPair 141 = .ok (.iconst 1, 1) := by decide +kernel
theorem dX1_steadyPair_142 : decode cX1_steadyPair 142 = .ok (.ixor, 1) := by decide +kernel
theorem dX1_steadyPair_143 : decode cX1_steadyPair 143 = .ok (.iaload, 1) := by decide +kernel
theorem dX1_steadyPair_144 : decode cX1_steadyPair 144 = .ok (.if_icmp .gt 7, 3) := by decide +kernel
theorem dX1_steadyPair_147 : decode cX1_steadyPair 147 = .ok (.iconst 1, 1) := by decide +kernel
theorem dX1_steadyPair_148 : decode cX1_steadyPair 148 = .ok (.goto 4, 3) := by decide +kernel
theorem dX1_steadyPair_151 : decode cX1_steadyPair 151 = .ok (.iconst 0, 1) := by decide +kernel
theorem dX1_steadyPair_152 : decode cX1_steadyPair 152 = .ok (.istore 6, 2) := by decide +kernel
theorem dX1_steadyPair_154 : decode cX1_steadyPair 154 = .ok (.iload 5, 2) := by decide +kernel
theorem dX1_steadyPair_156 : decode cX1_steadyPair 156 = .ok (.ifCond .eq 21, 3) := by decide +kernel
theorem dX1_steadyPair_159 : decode cX1_steadyPair 159 = .ok (.iload 6, 2) := by decide +kernel
theorem dX1_steadyPair_161 : decode cX1_steadyPair 161 = .ok (.ifCond .eq 16, 3) := by decide +kernel
theorem dX1_steadyPair_164 : decode cX1_steadyPair 164 = .ok (.bipush 10, 2) := by decide +kernel
theorem dX1_steadyPair_166 : decode cX1_steadyPair 166 = .ok (.iload 4, 2) := by decide +kernel
theorem dX1_steadyPair_168 : decode cX1_steadyPair 168 = .ok (.iconst 1, 1) := by decide +kernel
theorem dX1_steadyPair_169 : decode cX1_steadyPair 169 = .ok (.ishr, 1) := by decide +kernel
theorem dX1_steadyPair_170 : decode cX1_steadyPair 170 = .ok (.imul, 1) := by decide +kernel
theorem dX1_steadyPair_171 : decode cX1_steadyPair 171 = .ok (.iload 4, 2) := by decide +kernel
theorem dX1_steadyPair_173 : decode cX1_steadyPair 173 = .ok (.iconst 1, 1) := by decide +kernel
theorem dX1_steadyPair_174 : decode cX1_steadyPair 174 = .ok (.iand, 1) := by decide +kernel
theorem dX1_steadyPair_175 : decode cX1_steadyPair 175 = .ok (.iadd, 1) := by decide +kernel
theorem dX1_steadyPair_176 : decode cX1_steadyPair 176 = .ok (.ireturn, 1) := by decide +kernel
theorem dX1_steadyPair_177 : decode cX1_steadyPair 177 = .ok (.iinc 4 1, 3) := by decide +kernel
theorem dX1_steadyPair_180 : decode cX1_steadyPair 180 = .ok (.goto (-84), 3) := by decide +kernel
theorem dX1_steadyPair_183 : decode cX1_steadyPair 183 = .ok (.bipush (-9), 2) := by decide +kernel
theorem dX1_steadyPair_185 : decode cX1_steadyPair 185 = .ok (.ireturn, 1) := by decide +kernel
theorem dX1_byLot_0 : decode cX1_byLot 0 = .ok (.aload_n 0, 1) := by decide +kernel
theorem dX1_byLot_1 : decode cX1_byLot 1 = .ok (.iload_n 3, 1) := by decide +kernel
theorem dX1_byLot_2 : decode cX1_byLot 2 = .ok (.putfield 32, 3) := by decide +kernel
theorem dX1_byLot_5 : decode cX1_byLot 5 = .ok (.iconst 0, 1) := by decide +kernel
theorem dX1_byLot_6 : decode cX1_byLot 6 = .ok (.istore 5, 2) := by decide +kernel
theorem dX1_byLot_8 : decode cX1_byLot 8 = .ok (.aload_n 0, 1) := by decide +kernel
theorem dX1_byLot_9 : decode cX1_byLot 9 = .ok (.getfield 12, 3) := by decide +kernel
theorem dX1_byLot_12 : decode cX1_byLot 12 = .ok (.aload_n 1, 1) := by decide +kernel
theorem dX1_byLot_13 : decode cX1_byLot 13 = .ok (.invokevirtual 50, 3) := by decide +kernel
theorem dX1_byLot_16 : decode cX1_byLot 16 = .ok (.iconst 0, 1) := by decide +kernel
theorem dX1_byLot_17 : decode cX1_byLot 17 = .ok (.istore 6, 2) := by decide +kernel
theorem dX1_byLot_19 : decode cX1_byLot 19 = .ok (.iload 6, 2) := by decide +kernel
theorem dX1_byLot_21 : decode cX1_byLot 21 = .ok (.iload_n 2, 1) := by decide +kernel
theorem dX1_byLot_22 : decode cX1_byLot 22 = .ok (.if_icmp .ge 87, 3) := by decide +kernel
theorem dX1_byLot_25 : decode cX1_byLot 25 = .ok (.iconst 0, 1) := by decide +kernel
theorem dX1_byLot_26 : decode cX1_byLot 26 = .ok (.istore 7, 2) := by decide +kernel
theorem dX1_byLot_28 : decode cX1_byLot 28 = .ok (.iload 7, 2) := by decide +kernel
theorem dX1_byLot_30 : decode cX1_byLot 30 = .ok (.aload_n 0, 1) := by decide +kernel
theorem dX1_byLot_31 : decode cX1_byLot 31 = .ok (.getfield 12, 3) := by decide +kernel
theorem dX1_byLot_34 : decode cX1_byLot 34 = .ok (.getfield 43, 3) := by decide +kernel
theorem dX1_byLot_37 : decode cX1_byLot 37 = .ok (.if_icmp .ge 23, 3) := by decide +kernel
theorem dX1_byLot_40 : decode cX1_byLot 40 = .ok (.aload_n 0, 1) := by decide +kernel
theorem dX1_byLot_41 : decode cX1_byLot 41 = .ok (.getfield 12, 3) := by decide +kernel
theorem dX1_byLot_44 : decode cX1_byLot 44 = .ok (.aload_n 0, 1) := by decide +kernel
theorem dX1_byLot_45 : decode cX1_byLot 45 = .ok (.invokevirtual 58, 3) := by decide +kernel
theorem dX1_byLot_48 : decode cX1_byLot 48 = .ok (.iload 7, 2) := by decide +kernel
theorem dX1_byLot_50 : decode cX1_byLot 50 = .ok (.invokevirtual 54, 3) := by decide +kernel
theorem dX1_byLot_53 : decode cX1_byLot 53 = .ok (.pop, 1) := by decide +kernel
theorem dX1_byLot_54 : decode cX1_byLot 54 = .ok (.iinc 7 1, 3) := by decide +kernel
theorem dX1_byLot_57 : decode cX1_byLot 57 = .ok (.goto (-29), 3) := by decide +kernel
theorem dX1_byLot_60 : decode cX1_byLot 60 = .ok (.aload_n 0, 1) := by decide +kernel
theorem dX1_byLot_61 : decode cX1_byLot 61 = .ok (.getfield 21, 3) := by decide +kernel
theorem dX1_byLot_64 : decode cX1_byLot 64 = .ok (.aload_n 0, 1) := by decide +kernel
theorem dX1_byLot_65 : decode cX1_byLot 65 = .ok (.getfield 12, 3) := by decide +kernel
theorem dX1_byLot_68 : decode cX1_byLot 68 = .ok (.iconst 0, 1) := by decide +kernel
theorem dX1_byLot_69 : decode cX1_byLot 69 = .ok (.invokevirtual 36, 3) := by decide +kernel
theorem dX1_byLot_72 : decode cX1_byLot 72 = .ok (.iload 5, 2) := by decide +kernel
theorem dX1_byLot_74 : decode cX1_byLot 74 = .ok (.iload 4, 2) := by decide +kernel
theorem dX1_byLot_76 : decode cX1_byLot 76 = .ok (.ifCond .eq 17, 3) := by decide +kernel
theorem dX1_byLot_79 : decode cX1_byLot 79 = .ok (.aload_n 0, 1) := by decide +kernel
theorem dX1_byLot_80 : decode cX1_byLot 80 = .ok (.getfield 21, 3) := by decide +kernel
theorem dX1_byLot_83 : decode cX1_byLot 83 = .ok (.aload_n 0, 1) := by decide +kernel
theorem dX1_byLot_84 : decode cX1_byLot 84 = .ok (.getfield 12, 3) := by decide +kernel
theorem dX1_byLot_87 : decode cX1_byLot 87 = .ok (.invokevirtual 62, 3) := by decide +kernel
theorem dX1_byLot_90 : decode cX1_byLot 90 = .ok (.goto 10, 3) := by decide +kernel
theorem dX1_byLot_93 : decode cX1_byLot 93 = .ok (.aload_n 0, 1) := by decide +kernel
theorem dX1_byLot_94 : decode cX1_byLot 94 = .ok (.getfield 21, 3) := by decide +kernel
theorem dX1_byLot_97 : decode cX1_byLot 97 = .ok (.getfield 66, 3) := by decide +kernel
theorem dX1_byLot_100 : decode cX1_byLot 100 = .ok (.iadd, 1) := by decide +kernel
theorem dX1_byLot_101 : decode cX1_byLot 101 = .ok (.istore 5, 2) := by decide +kernel
theorem dX1_byLot_103 : decode cX1_byLot 103 = .ok (.iinc 6 1, 3) := by decide +kernel
theorem dX1_byLot_106 : decode cX1_byLot 106 = .ok (.goto (-87), 3) := by decide +kernel
theorem dX1_byLot_109 : decode cX1_byLot 109 = .ok (.iload 5, 2) := by decide +kernel
theorem dX1_byLot_111 : decode cX1_byLot 111 = .ok (.ireturn, 1) := by decide +kernel
theorem dX1_drawLane_0 : decode cX1_drawLane 0 = .ok (.aload_n 0, 1) := by decide +kernel
theorem dX1_drawLane_1 : decode cX1_drawLane 1 = .ok (.aload_n 0, 1) := by decide +kernel
theorem dX1_drawLane_2 : decode cX1_drawLane 2 = .ok (.getfield 32, 3) := by decide +kernel
theorem dX1_drawLane_5 : decode cX1_drawLane 5 = .ok (.ldc 69, 2) := by decide +kernel
theorem dX1_drawLane_7 : decode cX1_drawLane 7 = .ok (.imul, 1) := by decide +kernel
theorem dX1_drawLane_8 : decode cX1_drawLane 8 = .ok (.ldc 70, 2) := by decide +kernel
theorem dX1_drawLane_10 : decode cX1_drawLane 10 = .ok (.iadd, 1) := by decide +kernel
theorem dX1_drawLane_11 : decode cX1_drawLane 11 = .ok (.putfield 32, 3) := by decide +kernel
theorem dX1_drawLane_14 : decode cX1_drawLane 14 = .ok (.aload_n 0, 1) := by decide +kernel
theorem dX1_drawLane_15 : decode cX1_drawLane 15 = .ok (.getfield 32, 3) := by decide +kernel
theorem dX1_drawLane_18 : decode cX1_drawLane 18 = .ok (.ldc 71, 2) := by decide +kernel
theorem dX1_drawLane_20 : decode cX1_drawLane 20 = .ok (.iand, 1) := by decide +kernel
theorem dX1_drawLane_21 : decode cX1_drawLane 21 = .ok (.sipush 256, 3) := by decide +kernel
theorem dX1_drawLane_24 : decode cX1_drawLane 24 = .ok (.idiv, 1) := by decide +kernel
theorem dX1_drawLane_25 : decode cX1_drawLane 25 = .ok (.iconst 2, 1) := by decide +kernel
theorem dX1_drawLane_26 : decode cX1_drawLane 26 = .ok (.irem, 1) := by decide +kernel
theorem dX1_drawLane_27 : decode cX1_drawLane 27 = .ok (.ireturn, 1) := by decide +kernel
theorem dX2_lettingIn_0 : decode cX2_lettingIn 0 = .ok (.iload_n 0, 1) := by decide +kernel
theorem dX2_lettingIn_1 : decode cX2_lettingIn 1 = .ok (.tableswitch 53 1 5 #[35, 37, 49, 53, 51], 35) := by decide +kernel
theorem dX2_lettingIn_36 : decode cX2_lettingIn 36 = .ok (.iload_n 1, 1) := by decide +kernel
theorem dX2_lettingIn_37 : decode cX2_lettingIn 37 = .ok (.ireturn, 1) := by decide +kernel
theorem dX2_lettingIn_38 : decode cX2_lettingIn 38 = .ok (.iload_n 2, 1) := by decide +kernel
theorem dX2_lettingIn_39 : decode cX2_lettingIn 39 = .ok (.ifCond .le 9, 3) := by decide +kernel
theorem dX2_lettingIn_42 : decode cX2_lettingIn 42 = .ok (.iload_n 2, 1) := by decide +kernel
theorem dX2_lettingIn_43 : decode cX2_lettingIn 43 = .ok (.iconst 1, 1) := by decide +kernel
theorem dX2_lettingIn_44 : decode cX2_lettingIn 44 = .ok (.isub, 1) := by decide +kernel
theorem dX2_lettingIn_45 : decode cX2_lettingIn 45 = .ok (.goto 4, 3) := by decide +kernel
theorem dX2_lettingIn_48 : decode cX2_lettingIn 48 = .ok (.iconst 0, 1) := by decide +kernel
theorem dX2_lettingIn_49 : decode cX2_lettingIn 49 = .ok (.ireturn, 1) := by decide +kernel
theorem dX2_lettingIn_50 : decode cX2_lettingIn 50 = .ok (.iconst 0, 1) := by decide +kernel
theorem dX2_lettingIn_51 : decode cX2_lettingIn 51 = .ok (.ireturn, 1) := by decide +kernel
theorem dX2_lettingIn_52 : decode cX2_lettingIn 52 = .ok (.iconst 1, 1) := by decide +kernel
theorem dX2_lettingIn_53 : decode cX2_lettingIn 53 = .ok (.ireturn, 1) := by decide +kernel
theorem dX2_lettingIn_54 : decode cX2_lettingIn 54 = .ok (.iload_n 2, 1) := by decide +kernel
theorem dX2_lettingIn_55 : decode cX2_lettingIn 55 = .ok (.ireturn, 1) := by decide +kernel
theorem dX2_secondsOf_0 : decode cX2_secondsOf 0 = .ok (.iload_n 0, 1) := by decide +kernel
theorem dX2_secondsOf_1 : decode cX2_secondsOf 1 = .ok (.tableswitch 33 2 4 #[27, 29, 31], 27) := by decide +kernel
theorem dX2_secondsOf_28 : decode cX2_secondsOf 28 = .ok (.iconst 1, 1) := by decide +kernel
theorem dX2_secondsOf_29 : decode cX2_secondsOf 29 = .ok (.ireturn, 1) := by decide +kernel
theorem dX2_secondsOf_30 : decode cX2_secondsOf 30 = .ok (.iconst 3, 1) := by decide +kernel
theorem dX2_secondsOf_31 : decode cX2_secondsOf 31 = .ok (.ireturn, 1) := by decide +kernel
theorem dX2_secondsOf_32 : decode cX2_secondsOf 32 = .ok (.iconst 4, 1) := by decide +kernel
theorem dX2_secondsOf_33 : decode cX2_secondsOf 33 = .ok (.ireturn, 1) := by decide +kernel
theorem dX2_secondsOf_34 : decode cX2_secondsOf 34 = .ok (.iconst 2, 1) := by decide +kernel
theorem dX2_secondsOf_35 : decode cX2_secondsOf 35 = .ok (.ireturn, 1) := by decide +kernel
theorem dX2_isPushing_0 : decode cX2_isPushing 0 = .ok (.iload_n 0, 1) := by decide +kernel
theorem dX2_isPushing_1 : decode cX2_isPushing 1 = .ok (.iconst 2, 1) := by decide +kernel
theorem dX2_isPushing_2 : decode cX2_isPushing 2 = .ok (.if_icmp .ne 7, 3) := by decide +kernel
theorem dX2_isPushing_5 : decode cX2_isPushing 5 = .ok (.iconst 1, 1) := by decide +kernel
theorem dX2_isPushing_6 : decode cX2_isPushing 6 = .ok (.goto 4, 3) := by decide +kernel
theorem dX2_isPushing_9 : decode cX2_isPushing 9 = .ok (.iconst 0, 1) := by decide +kernel
theorem dX2_isPushing_10 : decode cX2_isPushing 10 = .ok (.ireturn, 1) := by decide +kernel
theorem dX3_init_0 : decode cX3_init 0 = .ok (.aload_n 0, 1) := by decide +kernel
theorem dX3_init_1 : decode cX3_init 1 = .ok (.invokespecial 3, 3) := by decide +kernel
theorem dX3_init_4 : decode cX3_init 4 = .ok (.aload_n 0, 1) := by decide +kernel
theorem dX3_init_5 : decode cX3_init 5 = .ok (.bipush 9, 2) := by decide +kernel
theorem dX3_init_7 : decode cX3_init 7 = .ok (.newarray .int, 2) := by decide +kernel
theorem dX3_init_9 : decode cX3_init 9 = .ok (.putfield 9, 3) := by decide +kernel
theorem dX3_init_12 : decode cX3_init 12 = .ok (.aload_n 0, 1) := by decide +kernel
theorem dX3_init_13 : decode cX3_init 13 = .ok (.bipush 9, 2) := by decide +kernel
theorem dX3_init_15 : decode cX3_init 15 = .ok (.newarray .int, 2) := by decide +kernel
theorem dX3_init_17 : decode cX3_init 17 = .ok (.putfield 15, 3) := by decide +kernel
theorem dX3_init_20 : decode cX3_init 20 = .ok (.aload_n 0, 1) := by decide +kernel
theorem dX3_init_21 : decode cX3_init 21 = .ok (.bipush 9, 2) := by decide +kernel
theorem dX3_init_23 : decode cX3_init 23 = .ok (.newarray .int, 2) := by decide +kernel
theorem dX3_init_25 : decode cX3_init 25 = .ok (.putfield 18, 3) := by decide +kernel
theorem dX3_init_28 : decode cX3_init 28 = .ok (.aload_n 0, 1) := by decide +kernel
theorem dX3_init_29 : decode cX3_init 29 = .ok (.iconst 0, 1) := by decide +kernel
theorem dX3_init_30 : decode cX3_init 30 = .ok (.putfield 21, 3) := by decide +kernel
theorem dX3_init_33 : decode cX3_init 33 = .ok (.aload_n 0, 1) := by decide +kernel
theorem dX3_init_34 : decode cX3_init 34 = .ok (.iconst 0, 1) := by decide +kernel
theorem dX3_init_35 : decode cX3_init 35 = .ok (.putfield 25, 3) := by decide +kernel
theorem dX3_init_38 : decode cX3_init 38 = .ok (.aload_n 0, 1) := by decide +kernel
theorem dX3_init_39 : decode cX3_init 39 = .ok (.bipush 9, 2) := by decide +kernel
theorem dX3_init_41 : decode cX3_init 41 = .ok (.newarray .int, 2) := by decide +kernel
theorem dX3_init_43 : decode cX3_init 43 = .ok (.putfield 28, 3) := by decide +kernel
theorem dX3_init_46 : decode cX3_init 46 = .ok (.aload_n 0, 1) := by decide +kernel
theorem dX3_init_47 : decode cX3_init 47 = .ok (.bipush 9, 2) := by decide +kernel
theorem dX3_init_49 : decode cX3_init 49 = .ok (.newarray .int, 2) := by decide +kernel
theorem dX3_init_51 : decode cX3_init 51 = .ok (.putfield 31, 3) := by decide +kernel
theorem dX3_init_54 : decode cX3_init 54 = .ok (.aload_n 0, 1) := by decide +kernel
theorem dX3_init_55 : decode cX3_init 55 = .ok (.iconst 0, 1) := by decide +kernel
theorem dX3_init_56 : decode cX3_init 56 = .ok (.putfield 34, 3) := by decide +kernel
theorem dX3_init_59 : decode cX3_init 59 = .ok (.aload_n 0, 1) := by decide +kernel
theorem dX3_init_60 : decode cX3_init 60 = .ok (.iconst 0, 1) := by decide +kernel
theorem dX3_init_61 : decode cX3_init 61 = .ok (.putfield 37, 3) := by decide +kernel
theorem dX3_init_64 : decode cX3_init 64 = .ok (.aload_n 0, 1) := by decide +kernel
theorem dX3_init_65 : decode cX3_init 65 = .ok (.iconst 0, 1) := by decide +kernel
theorem dX3_init_66 : decode cX3_init 66 = .ok (.putfield 40, 3) := by decide +kernel
theorem dX3_init_69 : decode cX3_init 69 = .ok (.aload_n 0, 1) := by decide +kernel
theorem dX3_init_70 : decode cX3_init 70 = .ok (.iconst 0, 1) := by decide +kernel
theorem dX3_init_71 : decode cX3_init 71 = .ok (.putfield 43, 3) := by decide +kernel
theorem dX3_init_74 : decode cX3_init 74 = .ok (.aload_n 0, 1) := by decide +kernel
theorem dX3_init_75 : decode cX3_init 75 = .ok (.iconst 0, 1) := by decide +kernel
theorem dX3_init_76 : decode cX3_init 76 = .ok (.putfield 46, 3) := by decide +kernel
theorem dX3_init_79 : decode cX3_init 79 = .ok (.aload_n 0, 1) := by decide +kernel
theorem dX3_init_80 : decode cX3_init 80 = .ok (.iconst (-1), 1) := by decide +kernel
theorem dX3_init_81 : decode cX3_init 81 = .ok (.putfield 49, 3) := by decide +kernel
theorem dX3_init_84 : decode cX3_init 84 = .ok (.aload_n 0, 1) := by decide +kernel
theorem dX3_init_85 : decode cX3_init 85 = .ok (.iconst 0, 1) := by decide +kernel
theorem dX3_init_86 : decode cX3_init 86 = .ok (.putfield 52, 3) := by decide +kernel
theorem dX3_init_89 : decode cX3_init 89 = .ok (.return_, 1) := by decide +kernel
theorem dX3_drive_0 : decode cX3_drive 0 = .ok (.aload_n 0, 1) := by decide +kernel
theorem dX3_drive_1 : decode cX3_drive 1 = .ok (.aload_n 1, 1) := by decide +kernel
theorem dX3_drive_2 : decode cX3_drive 2 = .ok (.iload_n 2, 1) := by decide +kernel
theorem dX3_drive_3 : decode cX3_drive 3 = .ok (.invokevirtual 56, 3) := by decide +kernel
theorem dX3_drive_6 : decode cX3_drive 6 = .ok (.aload_n 0, 1) := by decide +kernel
theorem dX3_drive_7 : decode cX3_drive 7 = .ok (.getfield 34, 3) := by decide +kernel
theorem dX3_drive_10 : decode cX3_drive 10 = .ok (.aload_n 0, 1) := by decide +kernel
theorem dX3_drive_11 : decode cX3_drive 11 = .ok (.getfield 37, 3) := by decide +kernel
theorem dX3_drive_14 : decode cX3_drive 14 = .ok (.iadd, 1) := by decide +kernel
theorem dX3_drive_15 : decode cX3_drive 15 = .ok (.istore_n 3, 1) := by decide +kernel
theorem dX3_drive_16 : decode cX3_drive 16 = .ok (.iconst 0, 1) := by decide +kernel
theorem dX3_drive_17 : decode cX3_drive 17 = .ok (.istore 4, 2) := by decide +kernel
theorem dX3_drive_19 : decode cX3_drive 19 = .ok (.iload 4, 2) := by decide +kernel
theorem dX3_drive_21 : decode cX3_drive 21 = .ok (.iload_n 3, 1) := by decide +kernel
theorem dX3_drive_22 : decode cX3_drive 22 = .ok (.if_icmp .ge 84, 3) := by decide +kernel
theorem dX3_drive_25 : decode cX3_drive 25 = .ok (.aload_n 0, 1) := by decide +kernel
theorem dX3_drive_26 : decode cX3_drive 26 = .ok (.aload_n 1, 1) := by decide +kernel
theorem dX3_drive_27 : decode cX3_drive 27 = .ok (.invokevirtual 60, 3) := by decide +kernel
theorem dX3_drive_30 : decode cX3_drive 30 = .ok (.istore 5, 2) := by decide +kernel
theorem dX3_drive_32 : decode cX3_drive 32 = .ok (.iload 5, 2) := by decide +kernel
theorem dX3_drive_34 : decode cX3_drive 34 = .ok (.ifCond .eq 15, 3) := by decide +kernel
theorem dX3_drive_37 : decode cX3_drive 37 = .ok (.aload_n 0, 1) := by decide +kernel
theorem dX3_drive_38 : decode cX3_drive 38 = .ok (.getfield 31, 3) := by decide +kernel
theorem dX3_drive_41 : decode cX3_drive 41 = .ok (.aload_n 0, 1) := by decide +kernel
theorem dX3_drive_42 : decode cX3_drive 42 = .ok (.getfield 43, 3) := by decide +kernel
theorem dX3_drive_45 : decode cX3_drive 45 = .ok (.iaload, 1) := by decide +kernel
theorem dX3_drive_46 : decode cX3_drive 46 = .ok (.goto 12, 3) := by decide +kernel
theorem dX3_drive_49 : decode cX3_drive 49 = .ok (.aload_n 0, 1) := by decide +kernel
theorem dX3_drive_50 : decode cX3_drive 50 = .ok (.getfield 28, 3) := by decide +kernel
theorem dX3_drive_53 : decode cX3_drive 53 = .ok (.aload_n 0, 1) := by decide +kernel
theorem dX3_drive_54 : decode cX3_drive 54 = .ok (.getfield 40, 3) := by decide +kernel
theorem dX3_drive_57 : decode cX3_drive 57 = .ok (.iaload, 1) := by decide +kernel
theorem dX3_drive_58 : decode cX3_drive 58 = .ok (.istore 6, 2) := by decide +kernel
theorem dX3_drive_60 : decode cX3_drive 60 = .ok (.iload 5, 2) := by decide +kernel
theorem dX3_drive_62 : decode cX3_drive 62 = .ok (.ifCond .eq 16, 3) := by decide +kernel
theorem dX3_drive_65 : decode cX3_drive 65 = .ok (.aload_n 0, 1) := by decide +kernel
theorem dX3_drive_66 : decode cX3_drive 66 = .ok (.dup, 1) := by decide +kernel
theorem dX3_drive_67 : decode cX3_drive 67 = .ok (.getfield 43, 3) := by decide +kernel
theorem dX3_drive_70 : decode cX3_drive 70 = .ok (.iconst 1, 1) := by decide +kernel
theorem dX3_drive_71 : decode cX3_drive 71 = .ok (.iadd, 1) := by decide +kernel
theorem dX3_drive_72 : decode cX3_drive 72 = .ok (.putfield 43, 3) := by decide +kernel
theorem dX3_drive_75 : decode cX3_drive 75 = .ok (.goto 18, 3) := by decide +kernel
theorem dX3_drive_78 : decode cX3_drive 78 = .ok (.aload_n 0, 1) := by decide +kernel
theorem dX3_drive_79 : decode cX3_drive 79 = .ok (.dup, 1) := by decide +kernel
theorem dX3_drive_80 : decode cX3_drive 80 = .ok (.getfield 40, 3) := by decide +kernel
theorem dX3_drive_83 : decode cX3_drive 83 = .ok (.iconst 1, 1) := by decide +kernel
theorem dX3_drive_84 : decode cX3_drive 84 = .ok (.iadd, 1) := by decide +kernel
theorem dX3_drive_85 : decode cX3_drive 85 = .ok (.putfield 40, 3) := by decide +kernel
theorem dX3_drive_88 : decode cX3_drive 88 = .ok (.aload_n 0, 1) := by decide +kernel
theorem dX3_drive_89 : decode cX3_drive 89 = .ok (.iconst 0, 1) := by decide +kernel
theorem dX3_drive_90 : decode cX3_drive 90 = .ok (.putfield 46, 3) := by decide +kernel
theorem dX3_drive_93 : decode cX3_drive 93 = .ok (.aload_n 0, 1) := by decide +kernel
theorem dX3_drive_94 : decode cX3_drive 94 = .ok (.aload_n 1, 1) := by decide +kernel
theorem dX3_drive_95 : decode cX3_drive 95 = .ok (.iload 6, 2) := by decide +kernel
theorem dX3_drive_97 : decode cX3_drive 97 = .ok (.invokevirtual 64, 3) := by decide +kernel
theorem dX3_drive_100 : decode cX3_drive 100 = .ok (.iinc 4 1, 3) := by decide +kernel
theorem dX3_drive_103 : decode cX3_drive 103 = .ok (.goto (-84), 3) := by decide +kernel
theorem dX3_drive_106 : decode cX3_drive 106 = .ok (.return_, 1) := by decide +kernel
theorem dX3_lineUp_0 : decode cX3_lineUp 0 = .ok (.aload_n 0, 1) := by decide +kernel
theorem dX3_lineUp_1 : decode cX3_lineUp 1 = .ok (.iconst 0, 1) := by decide +kernel
theorem dX3_lineUp_2 : decode cX3_lineUp 2 = .ok (.putfield 21, 3) := by decide +kernel
theorem dX3_lineUp_5 : decode cX3_lineUp 5 = .ok (.aload_n 0, 1) := by decide +kernel
theorem dX3_lineUp_6 : decode cX3_lineUp 6 = .ok (.iconst 0, 1) := by decide +kernel
theorem dX3_lineUp_7 : decode cX3_lineUp 7 = .ok (.putfield 25, 3) := by decide +kernel
theorem dX3_lineUp_10 : decode cX3_lineUp 10 = .ok (.aload_n 0, 1) := by decide +kernel
theorem dX3_lineUp_11 : decode cX3_lineUp 11 = .ok (.iconst 0, 1) := by decide +kernel
theorem dX3_lineUp_12 : decode cX3_lineUp 12 = .ok (.putfield 34, 3) := by decide +kernel
theorem dX3_lineUp_15 : decode cX3_lineUp 15 = .ok (.aload_n 0, 1) := by decide +kernel
theorem dX3_lineUp_16 : decode cX3_lineUp 16 = .ok (.iconst 0, 1) := by decide +kernel
theorem dX3_lineUp_17 : decode cX3_lineUp 17 = .ok (.putfield 37, 3) := by decide +kernel
theorem dX3_lineUp_20 : decode cX3_lineUp 20 = .ok (.aload_n 0, 1) := by decide +kernel
theorem dX3_lineUp_21 : decode cX3_lineUp 21 = .ok (.iconst 0, 1) := by decide +kernel
theorem dX3_lineUp_22 : decode cX3_lineUp 22 = .ok (.putfield 40, 3) := by decide +kernel
theorem dX3_lineUp_25 : decode cX3_lineUp 25 = .ok (.aload_n 0, 1) := by decide +kernel
theorem dX3_lineUp_26 : decode cX3_lineUp 26 = .ok (.iconst 0, 1) := by decide +kernel
theorem dX3_lineUp_27 : decode cX3_lineUp 27 = .ok (.putfield 43, 3) := by decide +kernel
theorem dX3_lineUp_30 : decode cX3_lineUp 30 = .ok (.aload_n 0, 1) := by decide +kernel
theorem dX3_lineUp_31 : decode cX3_lineUp 31 = .ok (.iconst 0, 1) := by decide +kernel
theorem dX3_lineUp_32 : decode cX3_lineUp 32 = .ok (.putfield 46, 3) := by decide +kernel
theorem dX3_lineUp_35 : decode cX3_lineUp 35 = .ok (.aload_n 0, 1) := by decide +kernel
theorem dX3_lineUp_36 : decode cX3_lineUp 36 = .ok (.iconst (-1), 1) := by decide +kernel
theorem dX3_lineUp_37 : decode cX3_lineUp 37 = .ok (.putfield 49, 3) := by decide +kernel
theorem dX3_lineUp_40 : decode cX3_lineUp 40 = .ok (.aload_n 0, 1) := by decide +kernel
theorem dX3_lineUp_41 : decode cX3_lineUp 41 = .ok (.iconst 0, 1) := by decide +kernel
theorem dX3_lineUp_42 : decode cX3_lineUp 42 = .ok (.putfield 52, 3) := by decide +kernel
theorem dX3_lineUp_45 : decode cX3_lineUp 45 = .ok (.iconst 0, 1) := by decide +kernel
theorem dX3_lineUp_46 : decode cX3_lineUp 46 = .ok (.istore_n 3, 1) := by decide +kernel
theorem dX3_lineUp_47 : decode cX3_lineUp 47 = .ok (.iload_n 3, 1) := by decide +kernel
theorem dX3_lineUp_48 : decode cX3_lineUp 48 = .ok (.aload_n 1, 1) := by decide +kernel
theorem dX3_lineUp_49 : decode cX3_lineUp 49 = .ok (.getfield 67, 3) := by decide +kernel
theorem dX3_lineUp_52 : decode cX3_lineUp 52 = .ok (.if_icmp .ge 84, 3) := by decide +kernel
theorem dX3_lineUp_55 : decode cX3_lineUp 55 = .ok (.aload_n 1, 1) := by decide +kernel
theorem dX3_lineUp_56 : decode cX3_lineUp 56 = .ok (.getfield 72, 3) := by decide +kernel
theorem dX3_lineUp_59 : decode cX3_lineUp 59 = .ok (.iload_n 3, 1) := by decide +kernel
theorem dX3_lineUp_60 : decode cX3_lineUp 60 = .ok (.iaload, 1) := by decide +kernel
theorem dX3_lineUp_61 : decode cX3_lineUp 61 = .ok (.istore 4, 2) := by decide +kernel
theorem dX3_lineUp_63 : decode cX3_lineUp 63 = .ok (.iload_n 2, 1) := by decide +kernel
theorem dX3_lineUp_64 : decode cX3_lineUp 64 = .ok (.iload 4, 2) := by decide +kernel
theorem dX3_lineUp_66 : decode cX3_lineUp 66 = .ok (.ishr, 1) := by decide +kernel
theorem dX3_lineUp_67 : decode cX3_lineUp 67 = .ok (.iconst 1, 1) := by decide +kernel
theorem dX3_lineUp_68 : decode cX3_lineUp 68 = .ok (.iand, 1) := by decide +kernel
theorem dX3_lineUp_69 : decode cX3_lineUp 69 = .ok (.ifCond .eq 6, 3) := by decide +kernel
theorem dX3_lineUp_72 : decode cX3_lineUp 72 = .ok (.goto 58, 3) := by decide +kernel
theorem dX3_lineUp_75 : decode cX3_lineUp 75 = .ok (.aload_n 1, 1) := by decide +kernel
theorem dX3_lineUp_76 : decode cX3_lineUp 76 = .ok (.getfield 75, 3) := by decide +kernel
theorem dX3_lineUp_79 : decode cX3_lineUp 79 = .ok (.iload 4, 2) := by decide +kernel
theorem dX3_lineUp_81 : decode cX3_lineUp 81 = .ok (.iaload, 1) := by decide +kernel
theorem dX3_lineUp_82 : decode cX3_lineUp 82 = .ok (.ifCond .ne 27, 3) := by decide +kernel
theorem dX3_lineUp_85 : decode cX3_lineUp 85 = .ok (.aload_n 0, 1) := by decide +kernel
theorem dX3_lineUp_86 : decode cX3_lineUp 86 = .ok (.getfield 28, 3) := by decide +kernel
theorem dX3_lineUp_89 : decode cX3_lineUp 89 = .ok (.aload_n 0, 1) := by decide +kernel
theorem dX3_lineUp_90 : decode cX3_lineUp 90 = .ok (.getfield 34, 3) := by decide +kernel
theorem dX3_lineUp_93 : decode cX3_lineUp 93 = .ok (.iload 4, 2) := by decide +kernel
theorem dX3_lineUp_95 : decode cX3_lineUp 95 = .ok (.iastore, 1) := by decide +kernel
theorem dX3_lineUp_96 : decode cX3_lineUp 96 = .ok (.aload_n 0, 1) := by decide +kernel
theorem dX3_lineUp_97 : decode cX3_lineUp 97 = .ok (.dup, 1) := by decide +kernel
theorem dX3_lineUp_98 : decode cX3_lineUp 98 = .ok (.getfield 34, 3) := by decide +kernel
theorem dX3_lineUp_101 : decode cX3_lineUp 101 = .ok (.iconst 1, 1) := by decide +kernel
theorem dX3_lineUp_102 : decode cX3_lineUp 102 = .ok (.iadd, 1) := by decide +kernel
theorem dX3_lineUp_103 : decode cX3_lineUp 103 = .ok (.putfield 34, 3) := by decide +kernel
theorem dX3_lineUp_106 : decode cX3_lineUp 106 = .ok (.goto 24, 3) := by decide +kernel
theorem dX3_lineUp_109 : decode cX3_lineUp 109 = .ok (.aload_n 0, 1) := by decide +kernel
theorem dX3_lineUp_110 : decode cX3_lineUp 110 = .ok (.getfield 31, 3) := by decide +kernel
theorem dX3_lineUp_113 : decode cX3_lineUp 113 = .ok (.aload_n 0, 1) := by decide +kernel
theorem dX3_lineUp_114 : decode cX3_lineUp 114 = .ok (.getfield 37, 3) := by decide +kernel
theorem dX3_lineUp_117 : decode cX3_lineUp 117 = .ok (.iload 4, 2) := by decide +kernel
theorem dX3_lineUp_119 : decode cX3_lineUp 119 = .ok (.iastore, 1) := by decide +kernel
theorem dX3_lineUp_120 : decode cX3_lineUp 120 = .ok (.aload_n 0, 1) := by decide +kernel
theorem dX3_lineUp_121 : decode cX3_lineUp 121 = .ok (.dup, 1) := by decide +kernel
theorem dX3_lineUp_122 : decode cX3_lineUp 122 = .ok (.getfield 37, 3) := by decide +kernel
theorem dX3_lineUp_125 : decode cX3_lineUp 125 = .ok (.iconst 1, 1) := by decide +kernel
theorem dX3_lineUp_126 : decode cX3_lineUp 126 = .ok (.iadd, 1) := by decide +kernel
theorem dX3_lineUp_127 : decode cX3_lineUp 127 = .ok (.putfield 37, 3) := by decide +kernel
theorem dX3_lineUp_130 : decode cX3_lineUp 130 = .ok (.iinc 3 1, 3) := by decide +kernel
theorem dX3_lineUp_133 : decode cX3_lineUp 133 = .ok (.goto (-86), 3) := by decide +kernel
theorem dX3_lineUp_136 : decode cX3_lineUp 136 = .ok (.return_, 1) := by decide +kernel
theorem dX3_isLeftNext_0 : decode cX3_isLeftNext 0 = .ok (.aload_n 0, 1) := by decide +kernel
theorem dX3_isLeftNext_1 : decode cX3_isLeftNext 1 = .ok (.getfield 52, 3) := by decide +kernel
theorem dX3_isLeftNext_4 : decode cX3_isLeftNext 4 = .ok (.istore_n 2, 1) := by decide +kernel
theorem dX3_isLeftNext_5 : decode cX3_isLeftNext 5 = .ok (.aload_n 0, 1) := by decide +kernel
theorem dX3_isLeftNext_6 : decode cX3_isLeftNext 6 = .ok (.iconst 0, 1) := by decide +kernel
theorem dX3_isLeftNext_7 : decode cX3_isLeftNext 7 = .ok (.putfield 52, 3) := by decide +kernel
theorem dX3_isLeftNext_10 : decode cX3_isLeftNext 10 = .ok (.aload_n 0, 1) := by decide +kernel
theorem dX3_isLeftNext_11 : decode cX3_isLeftNext 11 = .ok (.getfield 43, 3) := by decide +kernel
theorem dX3_isLeftNext_14 : decode cX3_isLeftNext 14 = .ok (.aload_n 0, 1) := by decide +kernel
theorem dX3_isLeftNext_15 : decode cX3_isLeftNext 15 = .ok (.getfield 37, 3) := by decide +kernel
theorem dX3_isLeftNext_18 : decode cX3_isLeftNext 18 = .ok (.if_icmp .lt 5, 3) := by decide +kernel
theorem dX3_isLeftNext_21 : decode cX3_isLeftNext 21 = .ok (.iconst 0, 1) := by decide +kernel
theorem dX3_isLeftNext_22 : decode cX3_isLeftNext 22 = .ok (.ireturn, 1) := by decide +kernel
theorem dX3_isLeftNext_23 : decode cX3_isLeftNext 23 = .ok (.aload_n 0, 1) := by decide +kernel
theorem dX3_isLeftNext_24 : decode cX3_isLeftNext 24 = .ok (.getfield 40, 3) := by decide +kernel
theorem dX3_isLeftNext_27 : decode cX3_isLeftNext 27 = .ok (.aload_n 0, 1) := by decide +kernel
theorem dX3_isLeftNext_28 : decode cX3_isLeftNext 28 = .ok (.getfield 34, 3) := by decide +kernel
theorem dX3_isLeftNext_31 : decode cX3_isLeftNext 31 = .ok (.if_icmp .lt 5, 3) := by decide +kernel
theorem dX3_isLeftNext_34 : decode cX3_isLeftNext 34 = .ok (.iconst 1, 1) := by decide +kernel
theorem dX3_isLeftNext_35 : decode cX3_isLeftNext 35 = .ok (.ireturn, 1) := by decide +kernel
theorem dX3_isLeftNext_36 : decode cX3_isLeftNext 36 = .ok (.aload_n 0, 1) := by decide +kernel
theorem dX3_isLeftNext_37 : decode cX3_isLeftNext 37 = .ok (.getfield 46, 3) := by decide +kernel
theorem dX3_isLeftNext_40 : decode cX3_isLeftNext 40 = .ok (.aload_n 1, 1) := by decide +kernel
theorem dX3_isLeftNext_41 : decode cX3_isLeftNext 41 = .ok (.aload_n 0, 1) := by decide +kernel
theorem dX3_isLeftNext_42 : decode cX3_isLeftNext 42 = .ok (.getfield 28, 3) := by decide +kernel
theorem dX3_isLeftNext_45 : decode cX3_isLeftNext 45 = .ok (.aload_n 0, 1) := by decide +kernel
theorem dX3_isLeftNext_46 : decode cX3_isLeftNext 46 = .ok (.getfield 40, 3) := by decide +kernel
theorem dX3_isLeftNext_49 : decode cX3_isLeftNext 49 = .ok (.iaload, 1) := by decide +kernel
theorem dX3_isLeftNext_50 : decode cX3_isLeftNext 50 = .ok (.invokevirtual 78, 3) := by decide +kernel
theorem dX3_isLeftNext_53 : decode cX3_isLeftNext 53 = .ok (.if_icmp .ge 15, 3) := by decide +kernel
theorem dX3_isLeftNext_56 : decode cX3_isLeftNext 56 = .ok (.aload_n 0, 1) := by decide +kernel
theorem dX3_isLeftNext_57 : decode cX3_isLeftNext 57 = .ok (.dup, 1) := by decide +kernel
theorem dX3_isLeftNext_58 : decode cX3_isLeftNext 58 = .ok (.getfield 46, 3) := by decide +kernel
theorem dX3_isLeftNext_61 : decode cX3_isLeftNext 61 = .ok (.iconst 1, 1) := by decide +kernel
theorem dX3_isLeftNext_62 : decode cX3_isLeftNext 62 = .ok (.iadd, 1) := by decide +kernel
theorem dX3_isLeftNext_63 : decode cX3_isLeftNext 63 = .ok (.putfield 46, 3) := by decide +kernel
theorem dX3_isLeftNext_66 : decode cX3_isLeftNext 66 = .ok (.iconst 1, 1) := by decide +kernel
theorem dX3_isLeftNext_67 : decode cX3_isLeftNext 67 = .ok (.ireturn, 1) := by decide +kernel
theorem dX3_isLeftNext_68 : decode cX3_isLeftNext 68 = .ok (.aload_n 0, 1) := by decide +kernel
theorem dX3_isLeftNext_69 : decode cX3_isLeftNext 69 = .ok (.aload_n 0, 1) := by decide +kernel
theorem dX3_isLeftNext_70 : decode cX3_isLeftNext 70 = .ok (.getfield 49, 3) := by decide +kernel
theorem dX3_isLeftNext_73 : decode cX3_isLeftNext 73 = .ok (.iconst 1, 1) := by decide +kernel
theorem dX3_isLeftNext_74 : decode cX3_isLeftNext 74 = .ok (.if_icmp .ne 31, 3) := by decide +kernel
theorem dX3_isLeftNext_77 : decode cX3_isLeftNext 77 = .ok (.iload_n 2, 1) := by decide +kernel
theorem dX3_isLeftNext_78 : decode cX3_isLeftNext 78 = .ok (.ifCond .ne 27, 3) := by decide +kernel
theorem dX3_isLeftNext_81 : decode cX3_isLeftNext 81 = .ok (.aload_n 1, 1) := by decide +kernel
theorem dX3_isLeftNext_82 : decode cX3_isLeftNext 82 = .ok (.getfield 82, 3) := by decide +kernel
theorem dX3_isLeftNext_85 : decode cX3_isLeftNext 85 = .ok (.aload_n 0, 1) := by decide +kernel
theorem dX3_isLeftNext_86 : decode cX3_isLeftNext 86 = .ok (.getfield 31, 3) := by decide +kernel
theorem dX3_isLeftNext_89 : decode cX3_isLeftNext 89 = .ok (.aload_n 0, 1) := by decide +kernel
theorem dX3_isLeftNext_90 : decode cX3_isLeftNext 90 = .ok (.getfield 43, 3) := by decide +kernel
theorem dX3_isLeftNext_93 : decode cX3_isLeftNext 93 = .ok (.iaload, 1) := by decide +kernel
theorem dX3_isLeftNext_94 : decode cX3_isLeftNext 94 = .ok (.iaload, 1) := by decide +kernel
theorem dX3_isLeftNext_95 : decode cX3_isLeftNext 95 = .ok (.invokestatic 85, 3) := by decide +kernel
theorem dX3_isLeftNext_98 : decode cX3_isLeftNext 98 = .ok (.ifCond .eq 7, 3) := by decide +kernel
theorem dX3_isLeftNext_101 : decode cX3_isLeftNext 101 = .ok (.iconst 1, 1) := by decide +kernel
theorem dX3_isLeftNext_102 : decode cX3_isLeftNext 102 = .ok (.goto 4, 3) := by decide +kernel
theorem dX3_isLeftNext_105 : decode cX3_isLeftNext 105 = .ok (.iconst 0, 1) := by decide +kernel
theorem dX3_isLeftNext_106 : decode cX3_isLeftNext 106 = .ok (.putfield 52, 3) := by decide +kernel
theorem dX3_isLeftNext_109 : decode cX3_isLeftNext 109 = .ok (.aload_n 0, 1) := by decide +kernel
theorem dX3_isLeftNext_110 : decode cX3_isLeftNext 110 = .ok (.getfield 52, 3) := by decide +kernel
theorem dX3_isLeftNext_113 : decode cX3_isLeftNext 113 = .ok (.ireturn, 1) := by decide +kernel
theorem dX3_goThrough_0 : decode cX3_goThrough 0 = .ok (.aload_n 1, 1) := by decide +kernel
theorem dX3_goThrough_1 : decode cX3_goThrough 1 = .ok (.getfield 75, 3) := by decide +kernel
theorem dX3_goThrough_4 : decode cX3_goThrough 4 = .ok (.iload_n 2, 1) := by decide +kernel
theorem dX3_goThrough_5 : decode cX3_goThrough 5 = .ok (.iaload, 1) := by decide +kernel
theorem dX3_goThrough_6 : decode cX3_goThrough 6 = .ok (.istore_n 3, 1) := by decide +kernel
theorem dX3_goThrough_7 : decode cX3_goThrough 7 = .ok (.aload_n 0, 1) := by decide +kernel
theorem dX3_goThrough_8 : decode cX3_goThrough 8 = .ok (.dup, 1) := by decide +kernel
theorem dX3_goThrough_9 : decode cX3_goThrough 9 = .ok (.getfield 25, 3) := by decide +kernel
theorem dX3_goThrough_12 : decode cX3_goThrough 12 = .ok (.aload_n 1, 1) := by decide +kernel
theorem dX3_goThrough_13 : decode cX3_goThrough 13 = .ok (.getfield 82, 3) := by decide +kernel
theorem dX3_goThrough_16 : decode cX3_goThrough 16 = .ok (.iload_n 2, 1) := by decide +kernel
theorem dX3_goThrough_17 : decode cX3_goThrough 17 = .ok (.iaload, 1) := by decide +kernel
theorem dX3_goThrough_18 : decode cX3_goThrough 18 = .ok (.invokestatic 91, 3) := by decide +kernel
theorem dX3_goThrough_21 : decode cX3_goThrough 21 = .ok (.iadd, 1) := by decide +kernel
theorem dX3_goThrough_22 : decode cX3_goThrough 22 = .ok (.putfield 25, 3) := by decide +kernel
theorem dX3_goThrough_25 : decode cX3_goThrough 25 = .ok (.aload_n 0, 1) := by decide +kernel
theorem dX3_goThrough_26 : decode cX3_goThrough 26 = .ok (.getfield 21, 3) := by decide +kernel
theorem dX3_goThrough_29 : decode cX3_goThrough 29 = .ok (.ifCond .le 24, 3) := by decide +kernel
theorem dX3_goThrough_32 : decode cX3_goThrough 32 = .ok (.iload_n 3, 1) := by decide +kernel
theorem dX3_goThrough_33 : decode cX3_goThrough 33 = .ok (.aload_n 0, 1) := by decide +kernel
theorem dX3_goThrough_34 : decode cX3_goThrough 34 = .ok (.getfield 49, 3) := by decide +kernel
theorem dX3_goThrough_37 : decode cX3_goThrough 37 = .ok (.if_icmp .eq 16, 3) := by decide +kernel
theorem dX3_goThrough_40 : decode cX3_goThrough 40 = .ok (.aload_n 0, 1) := by decide +kernel
theorem dX3_goThrough_41 : decode cX3_goThrough 41 = .ok (.dup, 1) := by decide +kernel
theorem dX3_goThrough_42 : decode cX3_goThrough 42 = .ok (.getfield 25, 3) := by decide +kernel
theorem dX3_goThrough_45 : decode cX3_goThrough 45 = .ok (.aload_n 1, 1) := by decide +kernel
theorem dX3_goThrough_46 : decode cX3_goThrough 46 = .ok (.getfield 94, 3) := by decide +kernel
theorem dX3_goThrough_49 : decode cX3_goThrough 49 = .ok (.iadd, 1) := by decide +kernel
theorem dX3_goThrough_50 : decode cX3_goThrough 50 = .ok (.putfield 25, 3) := by decide +kernel
theorem dX3_goThrough_53 : decode cX3_goThrough 53 = .ok (.aload_n 0, 1) := by decide +kernel
theorem dX3_goThrough_54 : decode cX3_goThrough 54 = .ok (.iload_n 3, 1) := by decide +kernel
theorem dX3_goThrough_55 : decode cX3_goThrough 55 = .ok (.putfield 49, 3) := by decide +kernel
theorem dX3_goThrough_58 : decode cX3_goThrough 58 = .ok (.aload_n 0, 1) := by decide +kernel
theorem dX3_goThrough_59 : decode cX3_goThrough 59 = .ok (.getfield 15, 3) := by decide +kernel
theorem dX3_goThrough_62 : decode cX3_goThrough 62 = .ok (.iload_n 2, 1) := by decide +kernel
theorem dX3_goThrough_63 : decode cX3_goThrough 63 = .ok (.aload_n 0, 1) := by decide +kernel
theorem dX3_goThrough_64 : decode cX3_goThrough 64 = .ok (.getfield 25, 3) := by decide +kernel
theorem dX3_goThrough_67 : decode cX3_goThrough 67 = .ok (.iastore, 1) := by decide +kernel
theorem dX3_goThrough_68 : decode cX3_goThrough 68 = .ok (.aload_n 0, 1) := by decide +kernel
theorem dX3_goThrough_69 : decode cX3_goThrough 69 = .ok (.getfield 18, 3) := by decide +kernel
theorem dX3_goThrough_72 : decode cX3_goThrough 72 = .ok (.iload_n 2, 1) := by decide +kernel
theorem dX3_goThrough_73 : decode cX3_goThrough 73 = .ok (.aload_n 0, 1) := by decide +kernel
theorem dX3_goThrough_74 : decode cX3_goThrough 74 = .ok (.getfield 21, 3) := by decide +kernel
theorem dX3_goThrough_77 : decode cX3_goThrough 77 = .ok (.iastore, 1) := by decide +kernel
theorem dX3_goThrough_78 : decode cX3_goThrough 78 = .ok (.aload_n 0, 1) := by decide +kernel
theorem dX3_goThrough_79 : decode cX3_goThrough 79 = .ok (.getfield 9, 3) := by decide +kernel
theorem dX3_goThrough_82 : decode cX3_goThrough 82 = .ok (.aload_n 0, 1) := by decide +kernel
theorem dX3_goThrough_83 : decode cX3_goThrough 83 = .ok (.getfield 21, 3) := by decide +kernel
theorem dX3_goThrough_86 : decode cX3_goThrough 86 = .ok (.iload_n 2, 1) := by decide +kernel
theorem dX3_goThrough_87 : decode cX3_goThrough 87 = .ok (.iastore, 1) := by decide +kernel
theorem dX3_goThrough_88 : decode cX3_goThrough 88 = .ok (.aload_n 0, 1) := by decide +kernel
theorem dX3_goThrough_89 : decode cX3_goThrough 89 = .ok (.dup, 1) := by decide +kernel
theorem dX3_goThrough_90 : decode cX3_goThrough 90 = .ok (.getfield 21, 3) := by decide +kernel
theorem dX3_goThrough_93 : decode cX3_goThrough 93 = .ok (.iconst 1, 1) := by decide +kernel
theorem dX3_goThrough_94 : decode cX3_goThrough 94 = .ok (.iadd, 1) := by decide +kernel
theorem dX3_goThrough_95 : decode cX3_goThrough 95 = .ok (.putfield 21, 3) := by decide +kernel
theorem dX3_goThrough_98 : decode cX3_goThrough 98 = .ok (.return_, 1) := by decide +kernel
theorem dX3_waitInTurn_0 : decode cX3_waitInTurn 0 = .ok (.aload_n 0, 1) := by decide +kernel
theorem dX3_waitInTurn_1 : decode cX3_waitInTurn 1 = .ok (.getfield 15, 3) := by decide +kernel
theorem dX3_waitInTurn_4 : decode cX3_waitInTurn 4 = .ok (.aload_n 0, 1) := by decide +kernel
theorem dX3_waitInTurn_5 : decode cX3_waitInTurn 5 = .ok (.getfield 9, 3) := by decide +kernel
theorem dX3_waitInTurn_8 : decode cX3_waitInTurn 8 = .ok (.iload_n 1, 1) := by decide +kernel
theorem dX3_waitInTurn_9 : decode cX3_waitInTurn 9 = .ok (.iaload, 1) := by decide +kernel
theorem dX3_waitInTurn_10 : decode cX3_waitInTurn 10 = .ok (.iaload, 1) := by decide +kernel
theorem dX3_waitInTurn_11 : decode cX3_waitInTurn 11 = .ok (.ireturn, 1) := by decide +kernel
theorem dX3_allWaits_0 : decode cX3_allWaits 0 = .ok (.iconst 0, 1) := by decide +kernel
theorem dX3_allWaits_1 : decode cX3_allWaits 1 = .ok (.istore_n 1, 1) := by decide +kernel
theorem dX3_allWaits_2 : decode cX3_allWaits 2 = .ok (.iconst 0, 1) := by decide +kernel
theorem dX3_allWaits_3 : decode cX3_allWaits 3 = .ok (.istore_n 2, 1) := by decide +kernel
theorem dX3_allWaits_4 : decode cX3_allWaits 4 = .ok (.iload_n 2, 1) := by decide +kernel
theorem dX3_allWaits_5 : decode cX3_allWaits 5 = .ok (.aload_n 0, 1) := by decide +kernel
theorem dX3_allWaits_6 : decode cX3_allWaits 6 = .ok (.getfield 21, 3) := by decide +kernel
theorem dX3_allWaits_9 : decode cX3_allWaits 9 = .ok (.if_icmp .ge 17, 3) := by decide +kernel
theorem dX3_allWaits_12 : decode cX3_allWaits 12 = .ok (.iload_n 1, 1) := by decide +kernel
theorem dX3_allWaits_13 : decode cX3_allWaits 13 = .ok (.aload_n 0, 1) := by decide +kernel
theorem dX3_allWaits_14 : decode cX3_allWaits 14 = .ok (.iload_n 2, 1) := by decide +kernel
theorem dX3_allWaits_15 : decode cX3_allWaits 15 = .ok (.invokevirtual 97, 3) := by decide +kernel
theorem dX3_allWaits_18 : decode cX3_allWaits 18 = .ok (.iadd, 1) := by decide +kernel
theorem dX3_allWaits_19 : decode cX3_allWaits 19 = .ok (.istore_n 1, 1) := by decide +kernel
theorem dX3_allWaits_20 : decode cX3_allWaits 20 = .ok (.iinc 2 1, 3) := by decide +kernel
theorem dX3_allWaits_23 : decode cX3_allWaits 23 = .ok (.goto (-19), 3) := by decide +kernel
theorem dX3_allWaits_26 : decode cX3_allWaits 26 = .ok (.iload_n 1, 1) := by decide +kernel
theorem dX3_allWaits_27 : decode cX3_allWaits 27 = .ok (.ireturn, 1) := by decide +kernel
theorem dX3_cost_0 : decode cX3_cost 0 = .ok (.iconst 0, 1) := by decide +kernel
theorem dX3_cost_1 : decode cX3_cost 1 = .ok (.istore_n 2, 1) := by decide +kernel
theorem dX3_cost_2 : decode cX3_cost 2 = .ok (.iconst 0, 1) := by decide +kernel
theorem dX3_cost_3 : decode cX3_cost 3 = .ok (.istore_n 3, 1) := by decide +kernel
theorem dX3_cost_4 : decode cX3_cost 4 = .ok (.iload_n 3, 1) := by decide +kernel
theorem dX3_cost_5 : decode cX3_cost 5 = .ok (.aload_n 0, 1) := by decide +kernel
theorem dX3_cost_6 : decode cX3_cost 6 = .ok (.getfield 21, 3) := by decide +kernel
theorem dX3_cost_9 : decode cX3_cost 9 = .ok (.if_icmp .ge 29, 3) := by decide +kernel
theorem dX3_cost_12 : decode cX3_cost 12 = .ok (.iload_n 2, 1) := by decide +kernel
theorem dX3_cost_13 : decode cX3_cost 13 = .ok (.aload_n 0, 1) := by decide +kernel
theorem dX3_cost_14 : decode cX3_cost 14 = .ok (.iload_n 3, 1) := by decide +kernel
theorem dX3_cost_15 : decode cX3_cost 15 = .ok (.invokevirtual 97, 3) := by decide +kernel
theorem dX3_cost_18 : decode cX3_cost 18 = .ok (.aload_n 1, 1) := by decide +kernel
theorem dX3_cost_19 : decode cX3_cost 19 = .ok (.getfield 100, 3) := by decide +kernel
theorem dX3_cost_22 : decode cX3_cost 22 = .ok (.aload_n 0, 1) := by decide +kernel
theorem dX3_cost_23 : decode cX3_cost 23 = .ok (.getfield 9, 3) := by decide +kernel
theorem dX3_cost_26 : decode cX3_cost 26 = .ok (.iload_n 3, 1) := by decide +kernel
theorem dX3_cost_27 : decode cX3_cost 27 = .ok (.iaload, 1) := by decide +kernel
theorem dX3_cost_28 : decode cX3_cost 28 = .ok (.iaload, 1) := by decide +kernel
theorem dX3_cost_29 : decode cX3_cost 29 = .ok (.imul, 1) := by decide +kernel
theorem dX3_cost_30 : decode cX3_cost 30 = .ok (.iadd, 1) := by decide +kernel
theorem dX3_cost_31 : decode cX3_cost 31 = .ok (.istore_n 2, 1) := by decide +kernel
theorem dX3_cost_32 : decode cX3_cost 32 = .ok (.iinc 3 1, 3) := by decide +kernel
theorem dX3_cost_35 : decode cX3_cost 35 = .ok (.goto (-31), 3) := by decide +kernel
theorem dX3_cost_38 : decode cX3_cost 38 = .ok (.iload_n 2, 1) := by decide +kernel
theorem dX3_cost_39 : decode cX3_cost 39 = .ok (.ireturn, 1) := by decide +kernel
theorem dX3_laneChanges_0 : decode cX3_laneChanges 0 = .ok (.iconst 0, 1) := by decide +kernel
theorem dX3_laneChanges_1 : decode cX3_laneChanges 1 = .ok (.istore_n 2, 1) := by decide +kernel
theorem dX3_laneChanges_2 : decode cX3_laneChanges 2 = .ok (.iconst 1, 1) := by decide +kernel
theorem dX3_laneChanges_3 : decode cX3_laneChanges 3 = .ok (.istore_n 3, 1) := by decide +kernel
theorem dX3_laneChanges_4 : decode cX3_laneChanges 4 = .ok (.iload_n 3, 1) := by decide +kernel
theorem dX3_laneChanges_5 : decode cX3_laneChanges 5 = .ok (.aload_n 0, 1) := by decide +kernel
theorem dX3_laneChanges_6 : decode cX3_laneChanges 6 = .ok (.getfield 21, 3) := by decide +kernel
theorem dX3_laneChanges_9 : decode cX3_laneChanges 9 = .ok (.if_icmp .ge 39, 3) := by decide +kernel
theorem dX3_laneChanges_12 : decode cX3_laneChanges 12 = .ok (.aload_n 1, 1) := by decide +kernel
theorem dX3_laneChanges_13 : decode cX3_laneChanges 13 = .ok (.getfield 75, 3) := by decide +kernel
theorem dX3_laneChanges_16 : decode cX3_laneChanges 16 = .ok (.aload_n 0, 1) := by decide +kernel
theorem dX3_laneChanges_17 : decode cX3_laneChanges 17 = .ok (.getfield 9, 3) := by decide +kernel
theorem dX3_laneChanges_20 : decode cX3_laneChanges 20 = .ok (.iload_n 3, 1) := by decide +kernel
theorem dX3_laneChanges_21 : decode cX3_laneChanges 21 = .ok (.iaload, 1) := by decide +kernel
theorem dX3_laneChanges_22 : decode cX3_laneChanges 22 = .ok (.iaload, 1) := by decide +kernel
theorem dX3_laneChanges_23 : decode cX3_laneChanges 23 = .ok (.aload_n 1, 1) := by decide +kernel
theorem dX3_laneChanges_24 : decode cX3_laneChanges 24 = .ok (.getfield 75, 3) := by decide +kernel
theorem dX3_laneChanges_27 : decode cX3_laneChanges 27 = .ok (.aload_n 0, 1) := by decide +kernel
theorem dX3_laneChanges_28 : decode cX3_laneChanges 28 = .ok (.getfield 9, 3) := by decide +kernel
theorem dX3_laneChanges_31 : decode cX3_laneChanges 31 = .ok (.iload_n 3, 1) := by decide +kernel
theorem dX3_laneChanges_32 : decode cX3_laneChanges 32 = .ok (.iconst 1, 1) := by decide +kernel
theorem dX3_laneChanges_33 : decode cX3_laneChanges 33 = .ok (.isub, 1) := by decide +kernel
theorem dX3_laneChanges_34 : decode cX3_laneChanges 34 = .ok (.iaload, 1) := by decide +kernel
theorem dX3_laneChanges_35 : decode cX3_laneChanges 35 = .ok (.iaload, 1) := by decide +kernel
theorem dX3_laneChanges_36 : decode cX3_laneChanges 36 = .ok (.if_icmp .eq 6, 3) := by decide +kernel
theorem dX3_laneChanges_39 : decode cX3_laneChanges 39 = .ok (.iinc 2 1, 3) := by decide +kernel
theorem dX3_laneChanges_42 : decode cX3_laneChanges 42 = .ok (.iinc 3 1, 3) := by decide +kernel
theorem dX3_laneChanges_45 : decode cX3_laneChanges 45 = .ok (.goto (-41), 3) := by decide +kernel
theorem dX3_laneChanges_48 : decode cX3_laneChanges 48 = .ok (.iload_n 2, 1) := by decide +kernel
theorem dX3_laneChanges_49 : decode cX3_laneChanges 49 = .ok (.ireturn, 1) := by decide +kernel
theorem dX3_longestRun_0 : decode cX3_longestRun 0 = .ok (.iconst 0, 1) := by decide +kernel
theorem dX3_longestRun_1 : decode cX3_longestRun 1 = .ok (.istore_n 2, 1) := by decide +kernel
theorem dX3_longestRun_2 : decode cX3_longestRun 2 = .ok (.iconst 0, 1) := by decide +kernel
theorem dX3_longestRun_3 : decode cX3_longestRun 3 = .ok (.istore_n 3, 1) := by decide +kernel
theorem dX3_longestRun_4 : decode cX3_longestRun 4 = .ok (.iconst 0, 1) := by decide +kernel
theorem dX3_longestRun_5 : decode cX3_longestRun 5 = .ok (.istore 4, 2) := by decide +kernel
theorem dX3_longestRun_7 : decode cX3_longestRun 7 = .ok (.iload 4, 2) := by decide +kernel
theorem dX3_longestRun_9 : decode cX3_longestRun 9 = .ok (.aload_n 0, 1) := by decide +kernel
theorem dX3_longestRun_10 : decode cX3_longestRun 10 = .ok (.getfield 21, 3) := by decide +kernel
theorem dX3_longestRun_13 : decode cX3_longestRun 13 = .ok (.if_icmp .ge 69, 3) := by decide +kernel
theorem dX3_longestRun_16 : decode cX3_longestRun 16 = .ok (.iload 4, 2) := by decide +kernel
theorem dX3_longestRun_18 : decode cX3_longestRun 18 = .ok (.ifCond .le 36, 3) := by decide +kernel
theorem dX3_longestRun_21 : decode cX3_longestRun 21 = .ok (.aload_n 1, 1) := by decide +kernel
theorem dX3_longestRun_22 : decode cX3_longestRun 22 = .ok (.getfield 75, 3) := by decide +kernel
theorem dX3_longestRun_25 : decode cX3_longestRun 25 = .ok (.aload_n 0, 1) := by decide +kernel
theorem dX3_longestRun_26 : decode cX3_longestRun 26 = .ok (.getfield 9, 3) := by decide +kernel
theorem dX3_longestRun_29 : decode cX3_longestRun 29 = .ok (.iload 4, 2) := by decide +kernel
theorem dX3_longestRun_31 : decode cX3_longestRun 31 = .ok (.iaload, 1) := by decide +kernel
theorem dX3_longestRun_32 : decode cX3_longestRun 32 = .ok (.iaload, 1) := by decide +kernel
theorem dX3_longestRun_33 : decode cX3_longestRun 33 = .ok (.aload_n 1, 1) := by decide +kernel
theorem dX3_longestRun_34 : decode cX3_longestRun 34 = .ok (.getfield 75, 3) := by decide +kernel
theorem dX3_longestRun_37 : decode cX3_longestRun 37 = .ok (.aload_n 0, 1) := by decide +kernel
theorem dX3_longestRun_38 : decode cX3_longestRun 38 = .ok (.getfield 9, 3) := by decide +kernel
theorem dX3_longestRun_41 : decode cX3_longestRun 41 = .ok (.iload 4, 2) := by decide +kernel
theorem dX3_longestRun_43 : decode cX3_longestRun 43 = .ok (.iconst 1, 1) := by decide +kernel
theorem dX3_longestRun_44 : decode cX3_longestRun 44 = .ok (.isub, 1) := by decide +kernel
theorem dX3_longestRun_45 : decode cX3_longestRun 45 = .ok (.iaload, 1) := by decide +kernel
theorem dX3_longestRun_46 : decode cX3_longestRun 46 = .ok (.iaload, 1) := by decide +kernel
theorem dX3_longestRun_47 : decode cX3_longestRun 47 = .ok (.if_icmp .ne 7, 3) := by decide +kernel
theorem dX3_longestRun_50 : decode cX3_longestRun 50 = .ok (.iconst 1, 1) := by decide +kernel
theorem dX3_longestRun_51 : decode cX3_longestRun 51 = .ok (.goto 4, 3) := by decide +kernel
theorem dX3_longestRun_54 : decode cX3_longestRun 54 = .ok (.iconst 0, 1) := by decide +kernel
theorem dX3_longestRun_55 : decode cX3_longestRun 55 = .ok (.istore 5, 2) := by decide +kernel
theorem dX3_longestRun_57 : decode cX3_longestRun 57 = .ok (.iload 5, 2) := by decide +kernel
theorem dX3_longestRun_59 : decode cX3_longestRun 59 = .ok (.ifCond .eq 9, 3) := by decide +kernel
theorem dX3_longestRun_62 : decode cX3_longestRun 62 = .ok (.iload_n 3, 1) := by decide +kernel
theorem dX3_longestRun_63 : decode cX3_longestRun 63 = .ok (.iconst 1, 1) := by decide +kernel
theorem dX3_longestRun_64 : decode cX3_longestRun 64 = .ok (.iadd, 1) := by decide +kernel
theorem dX3_longestRun_65 : decode cX3_longestRun 65 = .ok (.goto 4, 3) := by decide +kernel
theorem dX3_longestRun_68 : decode cX3_longestRun 68 = .ok (.iconst 1, 1) := by decide +kernel
theorem dX3_longestRun_69 : decode cX3_longestRun 69 = .ok (.istore_n 3, 1) := by decide +kernel
theorem dX3_longestRun_70 : decode cX3_longestRun 70 = .ok (.iload_n 2, 1) := by decide +kernel
theorem dX3_longestRun_71 : decode cX3_longestRun 71 = .ok (.iload_n 3, 1) := by decide +kernel
theorem dX3_longestRun_72 : decode cX3_longestRun 72 = .ok (.invokestatic 103, 3) := by decide +kernel
theorem dX3_longestRun_75 : decode cX3_longestRun 75 = .ok (.istore_n 2, 1) := by decide +kernel
theorem dX3_longestRun_76 : decode cX3_longestRun 76 = .ok (.iinc 4 1, 3) := by decide +kernel
theorem dX3_longestRun_79 : decode cX3_longestRun 79 = .ok (.goto (-72), 3) := by decide +kernel
theorem dX3_longestRun_82 : decode cX3_longestRun 82 = .ok (.iload_n 2, 1) := by decide +kernel
theorem dX3_longestRun_83 : decode cX3_longestRun 83 = .ok (.ireturn, 1) := by decide +kernel
theorem dX3_goneOf_0 : decode cX3_goneOf 0 = .ok (.iconst 0, 1) := by decide +kernel
theorem dX3_goneOf_1 : decode cX3_goneOf 1 = .ok (.istore 4, 2) := by decide +kernel
theorem dX3_goneOf_3 : decode cX3_goneOf 3 = .ok (.iconst 0, 1) := by decide +kernel
theorem dX3_goneOf_4 : decode cX3_goneOf 4 = .ok (.istore 5, 2) := by decide +kernel
theorem dX3_goneOf_6 : decode cX3_goneOf 6 = .ok (.iload 5, 2) := by decide +kernel
theorem dX3_goneOf_8 : decode cX3_goneOf 8 = .ok (.iload_n 3, 1) := by decide +kernel
theorem dX3_goneOf_9 : decode cX3_goneOf 9 = .ok (.if_icmp .ge 37, 3) := by decide +kernel
theorem dX3_goneOf_12 : decode cX3_goneOf 12 = .ok (.iload 5, 2) := by decide +kernel
theorem dX3_goneOf_14 : decode cX3_goneOf 14 = .ok (.aload_n 0, 1) := by decide +kernel
theorem dX3_goneOf_15 : decode cX3_goneOf 15 = .ok (.getfield 21, 3) := by decide +kernel
theorem dX3_goneOf_18 : decode cX3_goneOf 18 = .ok (.if_icmp .ge 28, 3) := by decide +kernel
theorem dX3_goneOf_21 : decode cX3_goneOf 21 = .ok (.aload_n 1, 1) := by decide +kernel
theorem dX3_goneOf_22 : decode cX3_goneOf 22 = .ok (.getfield 75, 3) := by decide +kernel
theorem dX3_goneOf_25 : decode cX3_goneOf 25 = .ok (.aload_n 0, 1) := by decide +kernel
theorem dX3_goneOf_26 : decode cX3_goneOf 26 = .ok (.getfield 9, 3) := by decide +kernel
theorem dX3_goneOf_29 : decode cX3_goneOf 29 = .ok (.iload 5, 2) := by decide +kernel
theorem dX3_goneOf_31 : decode cX3_goneOf 31 = .ok (.iaload, 1) := by decide +kernel
theorem dX3_goneOf_32 : decode cX3_goneOf 32 = .ok (.iaload, 1) := by decide +kernel
theorem dX3_goneOf_33 : decode cX3_goneOf 33 = .ok (.iload_n 2, 1) := by decide +kernel
theorem dX3_goneOf_34 : decode cX3_goneOf 34 = .ok (.if_icmp .ne 6, 3) := by decide +kernel
theorem dX3_goneOf_37 : decode cX3_goneOf 37 = .ok (.iinc 4 1, 3) := by decide +kernel
theorem dX3_goneOf_40 : decode cX3_goneOf 40 = .ok (.iinc 5 1, 3) := by decide +kernel
theorem dX3_goneOf_43 : decode cX3_goneOf 43 = .ok (.goto (-37), 3) := by decide +kernel
theorem dX3_goneOf_46 : decode cX3_goneOf 46 = .ok (.iload 4, 2) := by decide +kernel
theorem dX3_goneOf_48 : decode cX3_goneOf 48 = .ok (.ireturn, 1) := by decide +kernel
theorem dX3_overtaken_0 : decode cX3_overtaken 0 = .ok (.iconst 0, 1) := by decide +kernel
theorem dX3_overtaken_1 : decode cX3_overtaken 1 = .ok (.istore_n 2, 1) := by decide +kernel
theorem dX3_overtaken_2 : decode cX3_overtaken 2 = .ok (.iconst 0, 1) := by decide +kernel
theorem dX3_overtaken_3 : decode cX3_overtaken 3 = .ok (.istore_n 3, 1) := by decide +kernel
theorem dX3_overtaken_4 : decode cX3_overtaken 4 = .ok (.iload_n 3, 1) := by decide +kernel
theorem dX3_overtaken_5 : decode cX3_overtaken 5 = .ok (.iload_n 1, 1) := by decide +kernel
theorem dX3_overtaken_6 : decode cX3_overtaken 6 = .ok (.if_icmp .ge 27, 3) := by decide +kernel
theorem dX3_overtaken_9 : decode cX3_overtaken 9 = .ok (.aload_n 0, 1) := by decide +kernel
theorem dX3_overtaken_10 : decode cX3_overtaken 10 = .ok (.getfield 18, 3) := by decide +kernel
theorem dX3_overtaken_13 : decode cX3_overtaken 13 = .ok (.iload_n 3, 1) := by decide +kernel
theorem dX3_overtaken_14 : decode cX3_overtaken 14 = .ok (.iaload, 1) := by decide +kernel
theorem dX3_overtaken_15 : decode cX3_overtaken 15 = .ok (.aload_n 0, 1) := by decide +kernel
theorem dX3_overtaken_16 : decode cX3_overtaken 16 = .ok (.getfield 18, 3) := by decide +kernel
theorem dX3_overtaken_19 : decode cX3_overtaken 19 = .ok (.iload_n 1, 1) := by decide +kernel
theorem dX3_overtaken_20 : decode cX3_overtaken 20 = .ok (.iaload, 1) := by decide +kernel
theorem dX3_overtaken_21 : decode cX3_overtaken 21 = .ok (.if_icmp .le 6, 3) := by decide +kernel
theorem dX3_overtaken_24 : decode cX3_overtaken 24 = .ok (.iinc 2 1, 3) := by decide +kernel
theorem dX3_overtaken_27 : decode cX3_overtaken 27 = .ok (.iinc 3 1, 3) := by decide +kernel
theorem dX3_overtaken_30 : decode cX3_overtaken 30 = .ok (.goto (-26), 3) := by decide +kernel
theorem dX3_overtaken_33 : decode cX3_overtaken 33 = .ok (.iload_n 2, 1) := by decide +kernel
theorem dX3_overtaken_34 : decode cX3_overtaken 34 = .ok (.ireturn, 1) := by decide +kernel
theorem dX4_init_0 : decode cX4_init 0 = .ok (.aload_n 0, 1) := by decide +kernel
theorem dX4_init_1 : decode cX4_init 1 = .ok (.invokespecial 3, 3) := by decide +kernel
theorem dX4_init_4 : decode cX4_init 4 = .ok (.aload_n 0, 1) := by decide +kernel
theorem dX4_init_5 : decode cX4_init 5 = .ok (.iconst 0, 1) := by decide +kernel
theorem dX4_init_6 : decode cX4_init 6 = .ok (.putfield 9, 3) := by decide +kernel
theorem dX4_init_9 : decode cX4_init 9 = .ok (.aload_n 0, 1) := by decide +kernel
theorem dX4_init_10 : decode cX4_init 10 = .ok (.iconst 0, 1) := by decide +kernel
theorem dX4_init_11 : decode cX4_init 11 = .ok (.putfield 15, 3) := by decide +kernel
theorem dX4_init_14 : decode cX4_init 14 = .ok (.aload_n 0, 1) := by decide +kernel
theorem dX4_init_15 : decode cX4_init 15 = .ok (.iconst 1, 1) := by decide +kernel
theorem dX4_init_16 : decode cX4_init 16 = .ok (.putfield 18, 3) := by decide +kernel
theorem dX4_init_19 : decode cX4_init 19 = .ok (.aload_n 0, 1) := by decide +kernel
theorem dX4_init_20 : decode cX4_init 20 = .ok (.bipush 9, 2) := by decide +kernel
theorem dX4_init_22 : decode cX4_init 22 = .ok (.newarray .int, 2) := by decide +kernel
theorem dX4_init_24 : decode cX4_init 24 = .ok (.putfield 21, 3) := by decide +kernel
theorem dX4_init_27 : decode cX4_init 27 = .ok (.aload_n 0, 1) := by decide +kernel
theorem dX4_init_28 : decode cX4_init 28 = .ok (.bipush 9, 2) := by decide +kernel
theorem dX4_init_30 : decode cX4_init 30 = .ok (.newarray .int, 2) := by decide +kernel
theorem dX4_init_32 : decode cX4_init 32 = .ok (.putfield 25, 3) := by decide +kernel
theorem dX4_init_35 : decode cX4_init 35 = .ok (.aload_n 0, 1) := by decide +kernel
theorem dX4_init_36 : decode cX4_init 36 = .ok (.bipush 9, 2) := by decide +kernel
theorem dX4_init_38 : decode cX4_init 38 = .ok (.newarray .int, 2) := by decide +kernel
theorem dX4_init_40 : decode cX4_init 40 = .ok (.putfield 28, 3) := by decide +kernel
theorem dX4_init_43 : decode cX4_init 43 = .ok (.aload_n 0, 1) := by decide +kernel
theorem dX4_init_44 : decode cX4_init 44 = .ok (.bipush 9, 2) := by decide +kernel
theorem dX4_init_46 : decode cX4_init 46 = .ok (.newarray .int, 2) := by decide +kernel
theorem dX4_init_48 : decode cX4_init 48 = .ok (.putfield 31, 3) := by decide +kernel
theorem dX4_init_51 : decode cX4_init 51 = .ok (.aload_n 0, 1) := by decide +kernel
theorem dX4_init_52 : decode cX4_init 52 = .ok (.bipush 9, 2) := by decide +kernel
theorem dX4_init_54 : decode cX4_init 54 = .ok (.newarray .int, 2) := by decide +kernel
theorem dX4_init_56 : decode cX4_init 56 = .ok (.putfield 34, 3) := by decide +kernel
theorem dX4_init_59 : decode cX4_init 59 = .ok (.return_, 1) := by decide +kernel
theorem dX4_has_0 : decode cX4_has 0 = .ok (.iload_n 1, 1) := by decide +kernel
theorem dX4_has_1 : decode cX4_has 1 = .ok (.ifCond .lt 15, 3) := by decide +kernel
theorem dX4_has_4 : decode cX4_has 4 = .ok (.iload_n 1, 1) := by decide +kernel
theorem dX4_has_5 : decode cX4_has 5 = .ok (.aload_n 0, 1) := by decide +kernel
theorem dX4_has_6 : decode cX4_has 6 = .ok (.getfield 9, 3) := by decide +kernel
theorem dX4_has_9 : decode cX4_has 9 = .ok (.if_icmp .ge 7, 3) := by decide +kernel
theorem dX4_has_12 : decode cX4_has 12 = .ok (.iconst 1, 1) := by decide +kernel
theorem dX4_has_13 : decode cX4_has 13 = .ok (.goto 4, 3) := by decide +kernel
theorem dX4_has_16 : decode cX4_has 16 = .ok (.iconst 0, 1) := by decide +kernel
theorem dX4_has_17 : decode cX4_has 17 = .ok (.ireturn, 1) := by decide +kernel
theorem dX4_areTwo_0 : decode cX4_areTwo 0 = .ok (.aload_n 0, 1) := by decide +kernel
theorem dX4_areTwo_1 : decode cX4_areTwo 1 = .ok (.iload_n 1, 1) := by decide +kernel
theorem dX4_areTwo_2 : decode cX4_areTwo 2 = .ok (.invokevirtual 37, 3) := by decide +kernel
theorem dX4_areTwo_5 : decode cX4_areTwo 5 = .ok (.ifCond .eq 20, 3) := by decide +kernel
theorem dX4_areTwo_8 : decode cX4_areTwo 8 = .ok (.aload_n 0, 1) := by decide +kernel
theorem dX4_areTwo_9 : decode cX4_areTwo 9 = .ok (.iload_n 2, 1) := by decide +kernel
theorem dX4_areTwo_10 : decode cX4_areTwo 10 = .ok (.invokevirtual 37, 3) := by decide +kernel
theorem dX4_areTwo_13 : decode cX4_areTwo 13 = .ok (.ifCond .eq 12, 3) := by decide +kernel
theorem dX4_areTwo_16 : decode cX4_areTwo 16 = .ok (.iload_n 1, 1) := by decide +kernel
theorem dX4_areTwo_17 : decode cX4_areTwo 17 = .ok (.iload_n 2, 1) := by decide +kernel
theorem dX4_areTwo_18 : decode cX4_areTwo 18 = .ok (.if_icmp .eq 7, 3) := by decide +kernel
theorem dX4_areTwo_21 : decode cX4_areTwo 21 = .ok (.iconst 1, 1) := by decide +kernel
theorem dX4_areTwo_22 : decode cX4_areTwo 22 = .ok (.goto 4, 3) := by decide +kernel
theorem dX4_areTwo_25 : decode cX4_areTwo 25 = .ok (.iconst 0, 1) := by decide +kernel
theorem dX4_areTwo_26 : decode cX4_areTwo 26 = .ok (.ireturn, 1) := by decide +kernel
theorem dX4_copyFrom_0 : decode cX4_copyFrom 0 = .ok (.aload_n 0, 1) := by decide +kernel
theorem dX4_copyFrom_1 : decode cX4_copyFrom 1 = .ok (.aload_n 1, 1) := by decide +kernel
theorem dX4_copyFrom_2 : decode cX4_copyFrom 2 = .ok (.getfield 9, 3) := by decide +kernel
theorem dX4_copyFrom_5 : decode cX4_copyFrom 5 = .ok (.putfield 9, 3) := by decide +kernel
theorem dX4_copyFrom_8 : decode cX4_copyFrom 8 = .ok (.aload_n 0, 1) := by decide +kernel
theorem dX4_copyFrom_9 : decode cX4_copyFrom 9 = .ok (.aload_n 1, 1) := by decide +kernel
theorem dX4_copyFrom_10 : decode cX4_copyFrom 10 = .ok (.getfield 15, 3) := by decide +kernel
theorem dX4_copyFrom_13 : decode cX4_copyFrom 13 = .ok (.putfield 15, 3) := by decide +kernel
theorem dX4_copyFrom_16 : decode cX4_copyFrom 16 = .ok (.aload_n 0, 1) := by decide +kernel
theorem dX4_copyFrom_17 : decode cX4_copyFrom 17 = .ok (.aload_n 1, 1) := by decide +kernel
theorem dX4_copyFrom_18 : decode cX4_copyFrom 18 = .ok (.getfield 18, 3) := by decide +kernel
theorem dX4_copyFrom_21 : decode cX4_copyFrom 21 = .ok (.putfield 18, 3) := by decide +kernel
theorem dX4_copyFrom_24 : decode cX4_copyFrom 24 = .ok (.iconst 0, 1) := by decide +kernel
theorem dX4_copyFrom_25 : decode cX4_copyFrom 25 = .ok (.istore_n 2, 1) := by decide +kernel
theorem dX4_copyFrom_26 : decode cX4_copyFrom 26 = .ok (.iload_n 2, 1) := by decide +kernel
theorem dX4_copyFrom_27 : decode cX4_copyFrom 27 = .ok (.aload_n 0, 1) := by decide +kernel
theorem dX4_copyFrom_28 : decode cX4_copyFrom 28 = .ok (.getfield 9, 3) := by decide +kernel
theorem dX4_copyFrom_31 : decode cX4_copyFrom 31 = .ok (.if_icmp .ge 69, 3) := by decide +kernel
theorem dX4_copyFrom_34 : decode cX4_copyFrom 34 = .ok (.aload_n 0, 1) := by decide +kernel
theorem dX4_copyFrom_35 : decode cX4_copyFrom 35 = .ok (.getfield 21, 3) := by decide +kernel
theorem dX4_copyFrom_38 : decode cX4_copyFrom 38 = .ok (.iload_n 2, 1) := by decide +kernel
theorem dX4_copyFrom_39 : decode cX4_copyFrom 39 = .ok (.aload_n 1, 1) := by decide +kernel
theorem dX4_copyFrom_40 : decode cX4_copyFrom 40 = .ok (.getfield 21, 3) := by decide +kernel
theorem dX4_copyFrom_43 : decode cX4_copyFrom 43 = .ok (.iload_n 2, 1) := by decide +kernel
theorem dX4_copyFrom_44 : decode cX4_copyFrom 44 = .ok (.iaload, 1) := by decide +kernel
theorem dX4_copyFrom_45 : decode cX4_copyFrom 45 = .ok (.iastore, 1) := by decide +kernel
theorem dX4_copyFrom_46 : decode cX4_copyFrom 46 = .ok (.aload_n 0, 1) := by decide +kernel
theorem dX4_copyFrom_47 : decode cX4_copyFrom 47 = .ok (.getfield 25, 3) := by decide +kernel
theorem dX4_copyFrom_50 : decode cX4_copyFrom 50 = .ok (.iload_n 2, 1) := by decide +kernel
theorem dX4_copyFrom_51 : decode cX4_copyFrom 51 = .ok (.aload_n 1, 1) := by decide +kernel
theorem dX4_copyFrom_52 : decode cX4_copyFrom 52 = .ok (.getfield 25, 3) := by decide +kernel
theorem dX4_copyFrom_55 : decode cX4_copyFrom 55 = .ok (.iload_n 2, 1) := by decide +kernel
theorem dX4_copyFrom_56 : decode cX4_copyFrom 56 = .ok (.iaload, 1) := by decide +kernel
theorem dX4_copyFrom_57 : decode cX4_copyFrom 57 = .ok (.iastore, 1) := by decide +kernel
theorem dX4_copyFrom_58 : decode cX4_copyFrom 58 = .ok (.aload_n 0, 1) := by decide +kernel
theorem dX4_copyFrom_59 : decode cX4_copyFrom 59 = .ok (.getfield 28, 3) := by decide +kernel
theorem dX4_copyFrom_62 : decode cX4_copyFrom 62 = .ok (.iload_n 2, 1) := by decide +kernel
theorem dX4_copyFrom_63 : decode cX4_copyFrom 63 = .ok (.aload_n 1, 1) := by decide +kernel
theorem dX4_copyFrom_64 : decode cX4_copyFrom 64 = .ok (.getfield 28, 3) := by decide +kernel
theorem dX4_copyFrom_67 : decode cX4_copyFrom 67 = .ok (.iload_n 2, 1) := by decide +kernel
theorem dX4_copyFrom_68 : decode cX4_copyFrom 68 = .ok (.iaload, 1) := by decide +kernel
theorem dX4_copyFrom_69 : decode cX4_copyFrom 69 = .ok (.iastore, 1) := by decide +kernel
theorem dX4_copyFrom_70 : decode cX4_copyFrom 70 = .ok (.aload_n 0, 1) := by decide +kernel
theorem dX4_copyFrom_71 : decode cX4_copyFrom 71 = .ok (.getfield 31, 3) := by decide +kernel
theorem dX4_copyFrom_74 : decode cX4_copyFrom 74 = .ok (.iload_n 2, 1) := by decide +kernel
theorem dX4_copyFrom_75 : decode cX4_copyFrom 75 = .ok (.aload_n 1, 1) := by decide +kernel
theorem dX4_copyFrom_76 : decode cX4_copyFrom 76 = .ok (.getfield 31, 3) := by decide +kernel
theorem dX4_copyFrom_79 : decode cX4_copyFrom 79 = .ok (.iload_n 2, 1) := by decide +kernel
theorem dX4_copyFrom_80 : decode cX4_copyFrom 80 = .ok (.iaload, 1) := by decide +kernel
theorem dX4_copyFrom_81 : decode cX4_copyFrom 81 = .ok (.iastore, 1) := by decide +kernel
theorem dX4_copyFrom_82 : decode cX4_copyFrom 82 = .ok (.aload_n 0, 1) := by decide +kernel
theorem dX4_copyFrom_83 : decode cX4_copyFrom 83 = .ok (.getfield 34, 3) := by decide +kernel
theorem dX4_copyFrom_86 : decode cX4_copyFrom 86 = .ok (.iload_n 2, 1) := by decide +kernel
theorem dX4_copyFrom_87 : decode cX4_copyFrom 87 = .ok (.aload_n 1, 1) := by decide +kernel
theorem dX4_copyFrom_88 : decode cX4_copyFrom 88 = .ok (.getfield 34, 3) := by decide +kernel
theorem dX4_copyFrom_91 : decode cX4_copyFrom 91 = .ok (.iload_n 2, 1) := by decide +kernel
theorem dX4_copyFrom_92 : decode cX4_copyFrom 92 = .ok (.iaload, 1) := by decide +kernel
theorem dX4_copyFrom_93 : decode cX4_copyFrom 93 = .ok (.iastore, 1) := by decide +kernel
theorem dX4_copyFrom_94 : decode cX4_copyFrom 94 = .ok (.iinc 2 1, 3) := by decide +kernel
theorem dX4_copyFrom_97 : decode cX4_copyFrom 97 = .ok (.goto (-71), 3) := by decide +kernel
theorem dX4_copyFrom_100 : decode cX4_copyFrom 100 = .ok (.return_, 1) := by decide +kernel
theorem dX4_add_0 : decode cX4_add 0 = .ok (.aload_n 0, 1) := by decide +kernel
theorem dX4_add_1 : decode cX4_add 1 = .ok (.getfield 9, 3) := by decide +kernel
theorem dX4_add_4 : decode cX4_add 4 = .ok (.bipush 9, 2) := by decide +kernel
theorem dX4_add_6 : decode cX4_add 6 = .ok (.if_icmp .ge 24, 3) := by decide +kernel
theorem dX4_add_9 : decode cX4_add 9 = .ok (.iload_n 3, 1) := by decide +kernel
theorem dX4_add_10 : decode cX4_add 10 = .ok (.ifCond .lt 20, 3) := by decide +kernel
theorem dX4_add_13 : decode cX4_add 13 = .ok (.iload_n 3, 1) := by decide +kernel
theorem dX4_add_14 : decode cX4_add 14 = .ok (.iconst 2, 1) := by decide +kernel
theorem dX4_add_15 : decode cX4_add 15 = .ok (.if_icmp .ge 15, 3) := by decide +kernel
theorem dX4_add_18 : decode cX4_add 18 = .ok (.iload 4, 2) := by decide +kernel
theorem dX4_add_20 : decode cX4_add 20 = .ok (.ifCond .lt 10, 3) := by decide +kernel
theorem dX4_add_23 : decode cX4_add 23 = .ok (.iload 4, 2) := by decide +kernel
theorem dX4_add_25 : decode cX4_add 25 = .ok (.bipush 20, 2) := by decide +kernel
theorem dX4_add_27 : decode cX4_add 27 = .ok (.if_icmp .le 5, 3) := by decide +kernel
theorem dX4_add_30 : decode cX4_add 30 = .ok (.iconst 0, 1) := by decide +kernel
theorem dX4_add_31 : decode cX4_add 31 = .ok (.ireturn, 1) := by decide +kernel
theorem dX4_add_32 : decode cX4_add 32 = .ok (.aload_n 0, 1) := by decide +kernel
theorem dX4_add_33 : decode cX4_add 33 = .ok (.getfield 21, 3) := by decide +kernel
theorem dX4_add_36 : decode cX4_add 36 = .ok (.aload_n 0, 1) := by decide +kernel
theorem dX4_add_37 : decode cX4_add 37 = .ok (.getfield 9, 3) := by decide +kernel
theorem dX4_add_40 : decode cX4_add 40 = .ok (.iload_n 1, 1) := by decide +kernel
theorem dX4_add_41 : decode cX4_add 41 = .ok (.iastore, 1) := by decide +kernel
theorem dX4_add_42 : decode cX4_add 42 = .ok (.aload_n 0, 1) := by decide +kernel
theorem dX4_add_43 : decode cX4_add 43 = .ok (.getfield 25, 3) := by decide +kernel
theorem dX4_add_46 : decode cX4_add 46 = .ok (.aload_n 0, 1) := by decide +kernel
theorem dX4_add_47 : decode cX4_add 47 = .ok (.getfield 9, 3) := by decide +kernel
theorem dX4_add_50 : decode cX4_add 50 = .ok (.iload_n 2, 1) := by decide +kernel
theorem dX4_add_51 : decode cX4_add 51 = .ok (.iastore, 1) := by decide +kernel
theorem dX4_add_52 : decode cX4_add 52 = .ok (.aload_n 0, 1) := by decide +kernel
theorem dX4_add_53 : decode cX4_add 53 = .ok (.getfield 28, 3) := by decide +kernel
theorem dX4_add_56 : decode cX4_add 56 = .ok (.aload_n 0, 1) := by decide +kernel
theorem dX4_add_57 : decode cX4_add 57 = .ok (.getfield 9, 3) := by decide +kernel
theorem dX4_add_60 : decode cX4_add 60 = .ok (.iload_n 3, 1) := by decide +kernel
theorem dX4_add_61 : decode cX4_add 61 = .ok (.iastore, 1) := by decide +kernel
theorem dX4_add_62 : decode cX4_add 62 = .ok (.aload_n 0, 1) := by decide +kernel
theorem dX4_add_63 : decode cX4_add 63 = .ok (.getfield 31, 3) := by decide +kernel
theorem dX4_add_66 : decode cX4_add 66 = .ok (.aload_n 0, 1) := by decide +kernel
theorem dX4_add_67 : decode cX4_add 67 = .ok (.getfield 9, 3) := by decide +kernel
theorem dX4_add_70 : decode cX4_add 70 = .ok (.iload 4, 2) := by decide +kernel
theorem dX4_add_72 : decode cX4_add 72 = .ok (.iastore, 1) := by decide +kernel
theorem dX4_add_73 : decode cX4_add 73 = .ok (.aload_n 0, 1) := by decide +kernel
theorem dX4_add_74 : decode cX4_add 74 = .ok (.getfield 34, 3) := by decide +kernel
theorem dX4_add_77 : decode cX4_add 77 = .ok (.aload_n 0, 1) := by decide +kernel
theorem dX4_add_78 : decode cX4_add 78 = .ok (.getfield 9, 3) := by decide +kernel
theorem dX4_add_81 : decode cX4_add 81 = .ok (.aload_n 0, 1) := by decide +kernel
theorem dX4_add_82 : decode cX4_add 82 = .ok (.getfield 9, 3) := by decide +kernel
theorem dX4_add_85 : decode cX4_add 85 = .ok (.iastore, 1) := by decide +kernel
theorem dX4_add_86 : decode cX4_add 86 = .ok (.aload_n 0, 1) := by decide +kernel
theorem dX4_add_87 : decode cX4_add 87 = .ok (.dup, 1) := by decide +kernel
theorem dX4_add_88 : decode cX4_add 88 = .ok (.getfield 9, 3) := by decide +kernel
theorem dX4_add_91 : decode cX4_add 91 = .ok (.iconst 1, 1) := by decide +kernel
theorem dX4_add_92 : decode cX4_add 92 = .ok (.iadd, 1) := by decide +kernel
theorem dX4_add_93 : decode cX4_add 93 = .ok (.putfield 9, 3) := by decide +kernel
theorem dX4_add_96 : decode cX4_add 96 = .ok (.iconst 1, 1) := by decide +kernel
theorem dX4_add_97 : decode cX4_add 97 = .ok (.ireturn, 1) := by decide +kernel
theorem dX4_putBoard_0 : decode cX4_putBoard 0 = .ok (.iload_n 1, 1) := by decide +kernel
theorem dX4_putBoard_1 : decode cX4_putBoard 1 = .ok (.ifCond .lt 8, 3) := by decide +kernel
theorem dX4_putBoard_4 : decode cX4_putBoard 4 = .ok (.iload_n 1, 1) := by decide +kernel
theorem dX4_putBoard_5 : decode cX4_putBoard 5 = .ok (.iconst 2, 1) := by decide +kernel
theorem dX4_putBoard_6 : decode cX4_putBoard 6 = .ok (.if_icmp .le 5, 3) := by decide +kernel
theorem dX4_putBoard_9 : decode cX4_putBoard 9 = .ok (.iconst 0, 1) := by decide +kernel
theorem dX4_putBoard_10 : decode cX4_putBoard 10 = .ok (.ireturn, 1) := by decide +kernel
theorem dX4_putBoard_11 : decode cX4_putBoard 11 = .ok (.aload_n 0, 1) := by decide +kernel
theorem dX4_putBoard_12 : decode cX4_putBoard 12 = .ok (.iload_n 1, 1) := by decide +kernel
theorem dX4_putBoard_13 : decode cX4_putBoard 13 = .ok (.putfield 15, 3) := by decide +kernel
theorem dX4_putBoard_16 : decode cX4_putBoard 16 = .ok (.iconst 1, 1) := by decide +kernel
theorem dX4_putBoard_17 : decode cX4_putBoard 17 = .ok (.ireturn, 1) := by decide +kernel
theorem dX4_putWave_0 : decode cX4_putWave 0 = .ok (.iload_n 1, 1) := by decide +kernel
theorem dX4_putWave_1 : decode cX4_putWave 1 = .ok (.ifCond .lt 9, 3) := by decide +kernel
theorem dX4_putWave_4 : decode cX4_putWave 4 = .ok (.iload_n 1, 1) := by decide +kernel
theorem dX4_putWave_5 : decode cX4_putWave 5 = .ok (.bipush 9, 2) := by decide +kernel
theorem dX4_putWave_7 : decode cX4_putWave 7 = .ok (.if_icmp .le 5, 3) := by decide +kernel
theorem dX4_putWave_10 : decode cX4_putWave 10 = .ok (.iconst 0, 1) := by decide +kernel
theorem dX4_putWave_11 : decode cX4_putWave 11 = .ok (.ireturn, 1) := by decide +kernel
theorem dX4_putWave_12 : decode cX4_putWave 12 = .ok (.aload_n 0, 1) := by decide +kernel
theorem dX4_putWave_13 : decode cX4_putWave 13 = .ok (.iload_n 1, 1) := by decide +kernel
theorem dX4_putWave_14 : decode cX4_putWave 14 = .ok (.putfield 18, 3) := by decide +kernel
theorem dX4_putWave_17 : decode cX4_putWave 17 = .ok (.iconst 1, 1) := by decide +kernel
theorem dX4_putWave_18 : decode cX4_putWave 18 = .ok (.ireturn, 1) := by decide +kernel
theorem dX4_crossOver_0 : decode cX4_crossOver 0 = .ok (.aload_n 0, 1) := by decide +kernel
theorem dX4_crossOver_1 : decode cX4_crossOver 1 = .ok (.iload_n 1, 1) := by decide +kernel
theorem dX4_crossOver_2 : decode cX4_crossOver 2 = .ok (.invokevirtual 37, 3) := by decide +kernel
theorem dX4_crossOver_5 : decode cX4_crossOver 5 = .ok (.ifCond .eq 23, 3) := by decide +kernel
theorem dX4_crossOver_8 : decode cX4_crossOver 8 = .ok (.aload_n 0, 1) := by decide +kernel
theorem dX4_crossOver_9 : decode cX4_crossOver 9 = .ok (.iconst 1, 1) := by decide +kernel
theorem dX4_crossOver_10 : decode cX4_crossOver 10 = .ok (.aload_n 0, 1) := by decide +kernel
theorem dX4_crossOver_11 : decode cX4_crossOver 11 = .ok (.getfield 28, 3) := by decide +kernel
theorem dX4_crossOver_14 : decode cX4_crossOver 14 = .ok (.iload_n 1, 1) := by decide +kernel
theorem dX4_crossOver_15 : decode cX4_crossOver 15 = .ok (.iaload, 1) := by decide +kernel
theorem dX4_crossOver_16 : decode cX4_crossOver 16 = .ok (.isub, 1) := by decide +kernel
theorem dX4_crossOver_17 : decode cX4_crossOver 17 = .ok (.iload_n 1, 1) := by decide +kernel
theorem dX4_crossOver_18 : decode cX4_crossOver 18 = .ok (.invokevirtual 41, 3) := by decide +kernel
theorem dX4_crossOver_21 : decode cX4_crossOver 21 = .ok (.ifCond .eq 7, 3) := by decide +kernel
theorem dX4_crossOver_24 : decode cX4_crossOver 24 = .ok (.iconst 1, 1) := by decide +kernel
theorem dX4_crossOver_25 : decode cX4_crossOver 25 = .ok (.goto 4, 3) := by decide +kernel
theorem dX4_crossOver_28 : decode cX4_crossOver 28 = .ok (.iconst 0, 1) := by decide +kernel
theorem dX4_crossOver_29 : decode cX4_crossOver 29 = .ok (.ireturn, 1) := by decide +kernel
theorem dX4_moveToEndOf_0 : decode cX4_moveToEndOf 0 = .ok (.aload_n 0, 1) := by decide +kernel
theorem dX4_moveToEndOf_1 : decode cX4_moveToEndOf 1 = .ok (.iload_n 2, 1) := by decide +kernel
theorem dX4_moveToEndOf_2 : decode cX4_moveToEndOf 2 = .ok (.invokevirtual 37, 3) := by decide +kernel
theorem dX4_moveToEndOf_5 : decode cX4_moveToEndOf 5 = .ok (.ifCond .ne 5, 3) := by decide +kernel
theorem dX4_moveToEndOf_8 : decode cX4_moveToEndOf 8 = .ok (.iconst 0, 1) := by decide +kernel
theorem dX4_moveToEndOf_9 : decode cX4_moveToEndOf 9 = .ok (.ireturn, 1) := by decide +kernel
theorem dX4_moveToEndOf_10 : decode cX4_moveToEndOf 10 = .ok (.aload_n 0, 1) := by decide +kernel
theorem dX4_moveToEndOf_11 : decode cX4_moveToEndOf 11 = .ok (.iload_n 2, 1) := by decide +kernel
theorem dX4_moveToEndOf_12 : decode cX4_moveToEndOf 12 = .ok (.invokevirtual 45, 3) := by decide +kernel
theorem dX4_moveToEndOf_15 : decode cX4_moveToEndOf 15 = .ok (.istore_n 3, 1) := by decide +kernel
theorem dX4_moveToEndOf_16 : decode cX4_moveToEndOf 16 = .ok (.iload_n 3, 1) := by decide +kernel
theorem dX4_moveToEndOf_17 : decode cX4_moveToEndOf 17 = .ok (.iconst 1, 1) := by decide +kernel
theorem dX4_moveToEndOf_18 : decode cX4_moveToEndOf 18 = .ok (.iadd, 1) := by decide +kernel
theorem dX4_moveToEndOf_19 : decode cX4_moveToEndOf 19 = .ok (.aload_n 0, 1) := by decide +kernel
theorem dX4_moveToEndOf_20 : decode cX4_moveToEndOf 20 = .ok (.getfield 9, 3) := by decide +kernel
theorem dX4_moveToEndOf_23 : decode cX4_moveToEndOf 23 = .ok (.if_icmp .ge 23, 3) := by decide +kernel
theorem dX4_moveToEndOf_26 : decode cX4_moveToEndOf 26 = .ok (.aload_n 0, 1) := by decide +kernel
theorem dX4_moveToEndOf_27 : decode cX4_moveToEndOf 27 = .ok (.getfield 34, 3) := by decide +kernel
theorem dX4_moveToEndOf_30 : decode cX4_moveToEndOf 30 = .ok (.iload_n 3, 1) := by decide +kernel
theorem dX4_moveToEndOf_31 : decode cX4_moveToEndOf 31 = .ok (.aload_n 0, 1) := by decide +kernel
theorem dX4_moveToEndOf_32 : decode cX4_moveToEndOf 32 = .ok (.getfield 34, 3) := by decide +kernel
theorem dX4_moveToEndOf_35 : decode cX4_moveToEndOf 35 = .ok (.iload_n 3, 1) := by decide +kernel
theorem dX4_moveToEndOf_36 : decode cX4_moveToEndOf 36 = .ok (.iconst 1, 1) := by decide +kernel
theorem dX4_moveToEndOf_37 : decode cX4_moveToEndOf 37 = .ok (.iadd, 1) := by decide +kernel
theorem dX4_moveToEndOf_38 : decode cX4_moveToEndOf 38 = .ok (.iaload, 1) := by decide +kernel
theorem dX4_moveToEndOf_39 : decode cX4_moveToEndOf 39 = .ok (.iastore, 1) := by decide +kernel
theorem dX4_moveToEndOf_40 : decode cX4_moveToEndOf 40 = .ok (.iinc 3 1, 3) := by decide +kernel
theorem dX4_moveToEndOf_43 : decode cX4_moveToEndOf 43 = .ok (.goto (-27), 3) := by decide +kernel
theorem dX4_moveToEndOf_46 : decode cX4_moveToEndOf 46 = .ok (.aload_n 0, 1) := by decide +kernel
theorem dX4_moveToEndOf_47 : decode cX4_moveToEndOf 47 = .ok (.getfield 34, 3) := by decide +kernel
theorem dX4_moveToEndOf_50 : decode cX4_moveToEndOf 50 = .ok (.aload_n 0, 1) := by decide +kernel
theorem dX4_moveToEndOf_51 : decode cX4_moveToEndOf 51 = .ok (.getfield 9, 3) := by decide +kernel
theorem dX4_moveToEndOf_54 : decode cX4_moveToEndOf 54 = .ok (.iconst 1, 1) := by decide +kernel
theorem dX4_moveToEndOf_55 : decode cX4_moveToEndOf 55 = .ok (.isub, 1) := by decide +kernel
theorem dX4_moveToEndOf_56 : decode cX4_moveToEndOf 56 = .ok (.iload_n 2, 1) := by decide +kernel
theorem dX4_moveToEndOf_57 : decode cX4_moveToEndOf 57 = .ok (.iastore, 1) := by decide +kernel
theorem dX4_moveToEndOf_58 : decode cX4_moveToEndOf 58 = .ok (.aload_n 0, 1) := by decide +kernel
theorem dX4_moveToEndOf_59 : decode cX4_moveToEndOf 59 = .ok (.getfield 28, 3) := by decide +kernel
theorem dX4_moveToEndOf_62 : decode cX4_moveToEndOf 62 = .ok (.iload_n 2, 1) := by decide +kernel
theorem dX4_moveToEndOf_63 : decode cX4_moveToEndOf 63 = .ok (.iload_n 1, 1) := by decide +kernel
theorem dX4_moveToEndOf_64 : decode cX4_moveToEndOf 64 = .ok (.iastore, 1) := by decide +kernel
theorem dX4_moveToEndOf_65 : decode cX4_moveToEndOf 65 = .ok (.iconst 1, 1) := by decide +kernel
theorem dX4_moveToEndOf_66 : decode cX4_moveToEndOf 66 = .ok (.ireturn, 1) := by decide +kernel
theorem dX4_moveToFront_0 : decode cX4_moveToFront 0 = .ok (.aload_n 0, 1) := by decide +kernel
theorem dX4_moveToFront_1 : decode cX4_moveToFront 1 = .ok (.iload_n 1, 1) := by decide +kernel
theorem dX4_moveToFront_2 : decode cX4_moveToFront 2 = .ok (.invokevirtual 37, 3) := by decide +kernel
theorem dX4_moveToFront_5 : decode cX4_moveToFront 5 = .ok (.ifCond .ne 5, 3) := by decide +kernel
theorem dX4_moveToFront_8 : decode cX4_moveToFront 8 = .ok (.iconst 0, 1) := by decide +kernel
theorem dX4_moveToFront_9 : decode cX4_moveToFront 9 = .ok (.ireturn, 1) := by decide +kernel
theorem dX4_moveToFront_10 : decode cX4_moveToFront 10 = .ok (.aload_n 0, 1) := by decide +kernel
theorem dX4_moveToFront_11 : decode cX4_moveToFront 11 = .ok (.iload_n 1, 1) := by decide +kernel
theorem dX4_moveToFront_12 : decode cX4_moveToFront 12 = .ok (.invokevirtual 45, 3) := by decide +kernel
theorem dX4_moveToFront_15 : decode cX4_moveToFront 15 = .ok (.istore_n 2, 1) := by decide +kernel
theorem dX4_moveToFront_16 : decode cX4_moveToFront 16 = .ok (.iload_n 2, 1) := by decide +kernel
theorem dX4_moveToFront_17 : decode cX4_moveToFront 17 = .ok (.ifCond .le 23, 3) := by decide +kernel
theorem dX4_moveToFront_20 : decode cX4_moveToFront 20 = .ok (.aload_n 0, 1) := by decide +kernel
theorem dX4_moveToFront_21 : decode cX4_moveToFront 21 = .ok (.getfield 34, 3) := by decide +kernel
theorem dX4_moveToFront_24 : decode cX4_moveToFront 24 = .ok (.iload_n 2, 1) := by decide +kernel
theorem dX4_moveToFront_25 : decode cX4_moveToFront 25 = .ok (.aload_n 0, 1) := by decide +kernel
theorem dX4_moveToFront_26 : decode cX4_moveToFront 26 = .ok (.getfield 34, 3) := by decide +kernel
theorem dX4_moveToFront_29 : decode cX4_moveToFront 29 = .ok (.iload_n 2, 1) := by decide +kernel
theorem dX4_moveToFront_30 : decode cX4_moveToFront 30 = .ok (.iconst 1, 1) := by decide +kernel
theorem dX4_moveToFront_31 : decode cX4_moveToFront 31 = .ok (.isub, 1) := by decide +kernel
theorem dX4_moveToFront_32 : decode cX4_moveToFront 32 = .ok (.iaload, 1) := by decide +kernel
theorem dX4_moveToFront_33 : decode cX4_moveToFront 33 = .ok (.iastore, 1) := by decide +kernel
theorem dX4_moveToFront_34 : decode cX4_moveToFront 34 = .ok (.iinc 2 (-1), 3) := by decide +kernel
theorem dX4_moveToFront_37 : decode cX4_moveToFront 37 = .ok (.goto (-21), 3) := by decide +kernel
theorem dX4_moveToFront_40 : decode cX4_moveToFront 40 = .ok (.aload_n 0, 1) := by decide +kernel
theorem dX4_moveToFront_41 : decode cX4_moveToFront 41 = .ok (.getfield 34, 3) := by decide +kernel
theorem dX4_moveToFront_44 : decode cX4_moveToFront 44 = .ok (.iconst 0, 1) := by decide +kernel
theorem dX4_moveToFront_45 : decode cX4_moveToFront 45 = .ok (.iload_n 1, 1) := by decide +kernel
theorem dX4_moveToFront_46 : decode cX4_moveToFront 46 = .ok (.iastore, 1) := by decide +kernel
theorem dX4_moveToFront_47 : decode cX4_moveToFront 47 = .ok (.iconst 1, 1) := by decide +kernel
theorem dX4_moveToFront_48 : decode cX4_moveToFront 48 = .ok (.ireturn, 1) := by decide +kernel
theorem dX4_exchangeKinds_0 : decode cX4_exchangeKinds 0 = .ok (.aload_n 0, 1) := by decide +kernel
theorem dX4_exchangeKinds_1 : decode cX4_exchangeKinds 1 = .ok (.iload_n 1, 1) := by decide +kernel
theorem dX4_exchangeKinds_2 : decode cX4_exchangeKinds 2 = .ok (.iload_n 2, 1) := by decide +kernel
theorem dX4_exchangeKinds_3 : decode cX4_exchangeKinds 3 = .ok (.invokevirtual 49, 3) := by decide +kernel
theorem dX4_exchangeKinds_6 : decode cX4_exchangeKinds 6 = .ok (.ifCond .ne 5, 3) := by decide +kernel
theorem dX4_exchangeKinds_9 : decode cX4_exchangeKinds 9 = .ok (.iconst 0, 1) := by decide +kernel
theorem dX4_exchangeKinds_10 : decode cX4_exchangeKinds 10 = .ok (.ireturn, 1) := by decide +kernel
theorem dX4_exchangeKinds_11 : decode cX4_exchangeKinds 11 = .ok (.aload_n 0, 1) := by decide +kernel
theorem dX4_exchangeKinds_12 : decode cX4_exchangeKinds 12 = .ok (.getfield 21, 3) := by decide +kernel
theorem dX4_exchangeKinds_15 : decode cX4_exchangeKinds 15 = .ok (.iload_n 1, 1) := by decide +kernel
theorem dX4_exchangeKinds_16 : decode cX4_exchangeKinds 16 = .ok (.iaload, 1) := by decide +kernel
theorem dX4_exchangeKinds_17 : decode cX4_exchangeKinds 17 = .ok (.istore_n 3, 1) := by decide +kernel
theorem dX4_exchangeKinds_18 : decode cX4_exchangeKinds 18 = .ok (.aload_n 0, 1) := by decide +kernel
theorem dX4_exchangeKinds_19 : decode cX4_exchangeKinds 19 = .ok (.getfield 25, 3) := by decide +kernel
theorem dX4_exchangeKinds_22 : decode cX4_exchangeKinds 22 = .ok (.iload_n 1, 1) := by decide +kernel
theorem dX4_exchangeKinds_23 : decode cX4_exchangeKinds 23 = .ok (.iaload, 1) := by decide +kernel
theorem dX4_exchangeKinds_24 : decode cX4_exchangeKinds 24 = .ok (.istore 4, 2) := by decide +kernel
theorem dX4_exchangeKinds_26 : decode cX4_exchangeKinds 26 = .ok (.aload_n 0, 1) := by decide +kernel
theorem dX4_exchangeKinds_27 : decode cX4_exchangeKinds 27 = .ok (.getfield 21, 3) := by decide +kernel
theorem dX4_exchangeKinds_30 : decode cX4_exchangeKinds 30 = .ok (.iload_n 1, 1) := by decide +kernel
theorem dX4_exchangeKinds_31 : decode cX4_exchangeKinds 31 = .ok (.aload_n 0, 1) := by decide +kernel
theorem dX4_exchangeKinds_32 : decode cX4_exchangeKinds 32 = .ok (.getfield 21, 3) := by decide +kernel
theorem dX4_exchangeKinds_35 : decode cX4_exchangeKinds 35 = .ok (.iload_n 2, 1) := by decide +kernel
theorem dX4_exchangeKinds_36 : decode cX4_exchangeKinds 36 = .ok (.iaload, 1) := by decide +kernel
theorem dX4_exchangeKinds_37 : decode cX4_exchangeKinds 37 = .ok (.iastore, 1) := by decide +kernel
theorem dX4_exchangeKinds_38 : decode cX4_exchangeKinds 38 = .ok (.aload_n 0, 1) := by decide +kernel
theorem dX4_exchangeKinds_39 : decode cX4_exchangeKinds 39 = .ok (.getfield 25, 3) := by decide +kernel
theorem dX4_exchangeKinds_42 : decode cX4_exchangeKinds 42 = .ok (.iload_n 1, 1) := by decide +kernel
theorem dX4_exchangeKinds_43 : decode cX4_exchangeKinds 43 = .ok (.aload_n 0, 1) := by decide +kernel
theorem dX4_exchangeKinds_44 : decode cX4_exchangeKinds 44 = .ok (.getfield 25, 3) := by decide +kernel
theorem dX4_exchangeKinds_47 : decode cX4_exchangeKinds 47 = .ok (.iload_n 2, 1) := by decide +kernel
theorem dX4_exchangeKinds_48 : decode cX4_exchangeKinds 48 = .ok (.iaload, 1) := by decide +kernel
theorem dX4_exchangeKinds_49 : decode cX4_exchangeKinds 49 = .ok (.iastore, 1) := by decide +kernel
theorem dX4_exchangeKinds_50 : decode cX4_exchangeKinds 50 = .ok (.aload_n 0, 1) := by decide +kernel
theorem dX4_exchangeKinds_51 : decode cX4_exchangeKinds 51 = .ok (.getfield 21, 3) := by decide +kernel
theorem dX4_exchangeKinds_54 : decode cX4_exchangeKinds 54 = .ok (.iload_n 2, 1) := by decide +kernel
theorem dX4_exchangeKinds_55 : decode cX4_exchangeKinds 55 = .ok (.iload_n 3, 1) := by decide +kernel
theorem dX4_exchangeKinds_56 : decode cX4_exchangeKinds 56 = .ok (.iastore, 1) := by decide +kernel
theorem dX4_exchangeKinds_57 : decode cX4_exchangeKinds 57 = .ok (.aload_n 0, 1) := by decide +kernel
theorem dX4_exchangeKinds_58 : decode cX4_exchangeKinds 58 = .ok (.getfield 25, 3) := by decide +kernel
theorem dX4_exchangeKinds_61 : decode cX4_exchangeKinds 61 = .ok (.iload_n 2, 1) := by decide +kernel
theorem dX4_exchangeKinds_62 : decode cX4_exchangeKinds 62 = .ok (.iload 4, 2) := by decide +kernel
theorem dX4_exchangeKinds_64 : decode cX4_exchangeKinds 64 = .ok (.iastore, 1) := by decide +kernel
theorem dX4_exchangeKinds_65 : decode cX4_exchangeKinds 65 = .ok (.iconst 1, 1) := by decide +kernel
theorem dX4_exchangeKinds_66 : decode cX4_exchangeKinds 66 = .ok (.ireturn, 1) := by decide +kernel
theorem dX4_lineIndex_0 : decode cX4_lineIndex 0 = .ok (.iconst 0, 1) := by decide +kernel
theorem dX4_lineIndex_1 : decode cX4_lineIndex 1 = .ok (.istore_n 2, 1) := by decide +kernel
theorem dX4_lineIndex_2 : decode cX4_lineIndex 2 = .ok (.iload_n 2, 1) := by decide +kernel
theorem dX4_lineIndex_3 : decode cX4_lineIndex 3 = .ok (.iconst 1, 1) := by decide +kernel
theorem dX4_lineIndex_4 : decode cX4_lineIndex 4 = .ok (.iadd, 1) := by decide +kernel
theorem dX4_lineIndex_5 : decode cX4_lineIndex 5 = .ok (.aload_n 0, 1) := by decide +kernel
theorem dX4_lineIndex_6 : decode cX4_lineIndex 6 = .ok (.getfield 9, 3) := by decide +kernel
theorem dX4_lineIndex_9 : decode cX4_lineIndex 9 = .ok (.if_icmp .ge 19, 3) := by decide +kernel
theorem dX4_lineIndex_12 : decode cX4_lineIndex 12 = .ok (.aload_n 0, 1) := by decide +kernel
theorem dX4_lineIndex_13 : decode cX4_lineIndex 13 = .ok (.getfield 34, 3) := by decide +kernel
theorem dX4_lineIndex_16 : decode cX4_lineIndex 16 = .ok (.iload_n 2, 1) := by decide +kernel
theorem dX4_lineIndex_17 : decode cX4_lineIndex 17 = .ok (.iaload, 1) := by decide +kernel
theorem dX4_lineIndex_18 : decode cX4_lineIndex 18 = .ok (.iload_n 1, 1) := by decide +kernel
theorem dX4_lineIndex_19 : decode cX4_lineIndex 19 = .ok (.if_icmp .eq 9, 3) := by decide +kernel
theorem dX4_lineIndex_22 : decode cX4_lineIndex 22 = .ok (.iinc 2 1, 3) := by decide +kernel
theorem dX4_lineIndex_25 : decode cX4_lineIndex 25 = .ok (.goto (-23), 3) := by decide +kernel
theorem dX4_lineIndex_28 : decode cX4_lineIndex 28 = .ok (.iload_n 2, 1) := by decide +kernel
theorem dX4_lineIndex_29 : decode cX4_lineIndex 29 = .ok (.ireturn, 1) := by decide +kernel
theorem dX4_placeOf_0 : decode cX4_placeOf 0 = .ok (.iconst 0, 1) := by decide +kernel
theorem dX4_placeOf_1 : decode cX4_placeOf 1 = .ok (.istore_n 2, 1) := by decide +kernel
theorem dX4_placeOf_2 : decode cX4_placeOf 2 = .ok (.aload_n 0, 1) := by decide +kernel
theorem dX4_placeOf_3 : decode cX4_placeOf 3 = .ok (.iload_n 1, 1) := by decide +kernel
theorem dX4_placeOf_4 : decode cX4_placeOf 4 = .ok (.invokevirtual 45, 3) := by decide +kernel
theorem dX4_placeOf_7 : decode cX4_placeOf 7 = .ok (.istore_n 3, 1) := by decide +kernel
theorem dX4_placeOf_8 : decode cX4_placeOf 8 = .ok (.iconst 0, 1) := by decide +kernel
theorem dX4_placeOf_9 : decode cX4_placeOf 9 = .ok (.istore 4, 2) := by decide +kernel
theorem dX4_placeOf_11 : decode cX4_placeOf 11 = .ok (.iload 4, 2) := by decide +kernel
theorem dX4_placeOf_13 : decode cX4_placeOf 13 = .ok (.iload_n 3, 1) := by decide +kernel
theorem dX4_placeOf_14 : decode cX4_placeOf 14 = .ok (.if_icmp .ge 33, 3) := by decide +kernel
theorem dX4_placeOf_17 : decode cX4_placeOf 17 = .ok (.aload_n 0, 1) := by decide +kernel
theorem dX4_placeOf_18 : decode cX4_placeOf 18 = .ok (.getfield 28, 3) := by decide +kernel
theorem dX4_placeOf_21 : decode cX4_placeOf 21 = .ok (.aload_n 0, 1) := by decide +kernel
theorem dX4_placeOf_22 : decode cX4_placeOf 22 = .ok (.getfield 34, 3) := by decide +kernel
theorem dX4_placeOf_25 : decode cX4_placeOf 25 = .ok (.iload 4, 2) := by decide +kernel
theorem dX4_placeOf_27 : decode cX4_placeOf 27 = .ok (.iaload, 1) := by decide +kernel
theorem dX4_placeOf_28 : decode cX4_placeOf 28 = .ok (.iaload, 1) := by decide +kernel
theorem dX4_placeOf_29 : decode cX4_placeOf 29 = .ok (.aload_n 0, 1) := by decide +kernel
theorem dX4_placeOf_30 : decode cX4_placeOf 30 = .ok (.getfield 28, 3) := by decide +kernel
theorem dX4_placeOf_33 : decode cX4_placeOf 33 = .ok (.iload_n 1, 1) := by decide +kernel
theorem dX4_placeOf_34 : decode cX4_placeOf 34 = .ok (.iaload, 1) := by decide +kernel
theorem dX4_placeOf_35 : decode cX4_placeOf 35 = .ok (.if_icmp .ne 6, 3) := by decide +kernel
theorem dX4_placeOf_38 : decode cX4_placeOf 38 = .ok (.iinc 2 1, 3) := by decide +kernel
theorem dX4_placeOf_41 : decode cX4_placeOf 41 = .ok (.iinc 4 1, 3) := by decide +kernel
theorem dX4_placeOf_44 : decode cX4_placeOf 44 = .ok (.goto (-33), 3) := by decide +kernel
theorem dX4_placeOf_47 : decode cX4_placeOf 47 = .ok (.iload_n 2, 1) := by decide +kernel
theorem dX4_placeOf_48 : decode cX4_placeOf 48 = .ok (.ireturn, 1) := by decide +kernel
theorem dX4_letsIn_0 : decode cX4_letsIn 0 = .ok (.aload_n 0, 1) := by decide +kernel
theorem dX4_letsIn_1 : decode cX4_letsIn 1 = .ok (.getfield 21, 3) := by decide +kernel
theorem dX4_letsIn_4 : decode cX4_letsIn 4 = .ok (.iload_n 1, 1) := by decide +kernel
theorem dX4_letsIn_5 : decode cX4_letsIn 5 = .ok (.iaload, 1) := by decide +kernel
theorem dX4_letsIn_6 : decode cX4_letsIn 6 = .ok (.aload_n 0, 1) := by decide +kernel
theorem dX4_letsIn_7 : decode cX4_letsIn 7 = .ok (.getfield 25, 3) := by decide +kernel
theorem dX4_letsIn_10 : decode cX4_letsIn 10 = .ok (.iload_n 1, 1) := by decide +kernel
theorem dX4_letsIn_11 : decode cX4_letsIn 11 = .ok (.iaload, 1) := by decide +kernel
theorem dX4_letsIn_12 : decode cX4_letsIn 12 = .ok (.aload_n 0, 1) := by decide +kernel
theorem dX4_letsIn_13 : decode cX4_letsIn 13 = .ok (.getfield 15, 3) := by decide +kernel
theorem dX4_letsIn_16 : decode cX4_letsIn 16 = .ok (.invokestatic 52, 3) := by decide +kernel
theorem dX4_letsIn_19 : decode cX4_letsIn 19 = .ok (.ireturn, 1) := by decide +kernel
theorem dX4_standing_0 : decode cX4_standing 0 = .ok (.iconst 0, 1) := by decide +kernel
theorem dX4_standing_1 : decode cX4_standing 1 = .ok (.istore_n 2, 1) := by decide +kernel
theorem dX4_standing_2 : decode cX4_standing 2 = .ok (.iconst 0, 1) := by decide +kernel
theorem dX4_standing_3 : decode cX4_standing 3 = .ok (.istore_n 3, 1) := by decide +kernel
theorem dX4_standing_4 : decode cX4_standing 4 = .ok (.iload_n 3, 1) := by decide +kernel
theorem dX4_standing_5 : decode cX4_standing 5 = .ok (.aload_n 0, 1) := by decide +kernel
theorem dX4_standing_6 : decode cX4_standing 6 = .ok (.getfield 9, 3) := by decide +kernel
theorem dX4_standing_9 : decode cX4_standing 9 = .ok (.if_icmp .ge 22, 3) := by decide +kernel
theorem dX4_standing_12 : decode cX4_standing 12 = .ok (.aload_n 0, 1) := by decide +kernel
theorem dX4_standing_13 : decode cX4_standing 13 = .ok (.getfield 28, 3) := by decide +kernel
theorem dX4_standing_16 : decode cX4_standing 16 = .ok (.iload_n 3, 1) := by decide +kernel
theorem dX4_standing_17 : decode cX4_standing 17 = .ok (.iaload, 1) := by decide +kernel
theorem dX4_standing_18 : decode cX4_standing 18 = .ok (.iload_n 1, 1) := by decide +kernel
theorem dX4_standing_19 : decode cX4_standing 19 = .ok (.if_icmp .ne 6, 3) := by decide +kernel
theorem dX4_standing_22 : decode cX4_standing 22 = .ok (.iinc 2 1, 3) := by decide +kernel
theorem dX4_standing_25 : decode cX4_standing 25 = .ok (.iinc 3 1, 3) := by decide +kernel
theorem dX4_standing_28 : decode cX4_standing 28 = .ok (.goto (-24), 3) := by decide +kernel
theorem dX4_standing_31 : decode cX4_standing 31 = .ok (.iload_n 2, 1) := by decide +kernel
theorem dX4_standing_32 : decode cX4_standing 32 = .ok (.ireturn, 1) := by decide +kernel
theorem dX4_allHurry_0 : decode cX4_allHurry 0 = .ok (.iconst 0, 1) := by decide +kernel
theorem dX4_allHurry_1 : decode cX4_allHurry 1 = .ok (.istore_n 1, 1) := by decide +kernel
theorem dX4_allHurry_2 : decode cX4_allHurry 2 = .ok (.iconst 0, 1) := by decide +kernel
theorem dX4_allHurry_3 : decode cX4_allHurry 3 = .ok (.istore_n 2, 1) := by decide +kernel
theorem dX4_allHurry_4 : decode cX4_allHurry 4 = .ok (.iload_n 2, 1) := by decide +kernel
theorem dX4_allHurry_5 : decode cX4_allHurry 5 = .ok (.aload_n 0, 1) := by decide +kernel
theorem dX4_allHurry_6 : decode cX4_allHurry 6 = .ok (.getfield 9, 3) := by decide +kernel
theorem dX4_allHurry_9 : decode cX4_allHurry 9 = .ok (.if_icmp .ge 18, 3) := by decide +kernel
theorem dX4_allHurry_12 : decode cX4_allHurry 12 = .ok (.iload_n 1, 1) := by decide +kernel
theorem dX4_allHurry_13 : decode cX4_allHurry 13 = .ok (.aload_n 0, 1) := by decide +kernel
theorem dX4_allHurry_14 : decode cX4_allHurry 14 = .ok (.getfield 31, 3) := by decide +kernel
theorem dX4_allHurry_17 : decode cX4_allHurry 17 = .ok (.iload_n 2, 1) := by decide +kernel
theorem dX4_allHurry_18 : decode cX4_allHurry 18 = .ok (.iaload, 1) := by decide +kernel
theorem dX4_allHurry_19 : decode cX4_allHurry 19 = .ok (.iadd, 1) := by decide +kernel
theorem dX4_allHurry_20 : decode cX4_allHurry 20 = .ok (.istore_n 1, 1) := by decide +kernel
theorem dX4_allHurry_21 : decode cX4_allHurry 21 = .ok (.iinc 2 1, 3) := by decide +kernel
theorem dX4_allHurry_24 : decode cX4_allHurry 24 = .ok (.goto (-20), 3) := by decide +kernel
theorem dX4_allHurry_27 : decode cX4_allHurry 27 = .ok (.iload_n 1, 1) := by decide +kernel
theorem dX4_allHurry_28 : decode cX4_allHurry 28 = .ok (.ireturn, 1) := by decide +kernel
theorem dX4_secondsAlone_0 : decode cX4_secondsAlone 0 = .ok (.iconst 0, 1) := by decide +kernel
theorem dX4_secondsAlone_1 : decode cX4_secondsAlone 1 = .ok (.istore_n 1, 1) := by decide +kernel
theorem dX4_secondsAlone_2 : decode cX4_secondsAlone 2 = .ok (.iconst 0, 1) := by decide +kernel
theorem dX4_secondsAlone_3 : decode cX4_secondsAlone 3 = .ok (.istore_n 2, 1) := by decide +kernel
theorem dX4_secondsAlone_4 : decode cX4_secondsAlone 4 = .ok (.iload_n 2, 1) := by decide +kernel
theorem dX4_secondsAlone_5 : decode cX4_secondsAlone 5 = .ok (.aload_n 0, 1) := by decide +kernel
theorem dX4_secondsAlone_6 : decode cX4_secondsAlone 6 = .ok (.getfield 9, 3) := by decide +kernel
theorem dX4_secondsAlone_9 : decode cX4_secondsAlone 9 = .ok (.if_icmp .ge 21, 3) := by decide +kernel
theorem dX4_secondsAlone_12 : decode cX4_secondsAlone 12 = .ok (.iload_n 1, 1) := by decide +kernel
theorem dX4_secondsAlone_13 : decode cX4_secondsAlone 13 = .ok (.aload_n 0, 1) := by decide +kernel
theorem dX4_secondsAlone_14 : decode cX4_secondsAlone 14 = .ok (.getfield 21, 3) := by decide +kernel
theorem dX4_secondsAlone_17 : decode cX4_secondsAlone 17 = .ok (.iload_n 2, 1) := by decide +kernel
theorem dX4_secondsAlone_18 : decode cX4_secondsAlone 18 = .ok (.iaload, 1) := by decide +kernel
theorem dX4_secondsAlone_19 : decode cX4_secondsAlone 19 = .ok (.invokestatic 58, 3) := by decide +kernel
theorem dX4_secondsAlone_22 : decode cX4_secondsAlone 22 = .ok (.iadd, 1) := by decide +kernel
theorem dX4_secondsAlone_23 : decode cX4_secondsAlone 23 = .ok (.istore_n 1, 1) := by decide +kernel
theorem dX4_secondsAlone_24 : decode cX4_secondsAlone 24 = .ok (.iinc 2 1, 3) := by decide +kernel
theorem dX4_secondsAlone_27 : decode cX4_secondsAlone 27 = .ok (.goto (-23), 3) := by decide +kernel
theorem dX4_secondsAlone_30 : decode cX4_secondsAlone 30 = .ok (.iload_n 1, 1) := by decide +kernel
theorem dX4_secondsAlone_31 : decode cX4_secondsAlone 31 = .ok (.ireturn, 1) := by decide +kernel
theorem dX5_init_0 : decode cX5_init 0 = .ok (.aload_n 0, 1) := by decide +kernel
theorem dX5_init_1 : decode cX5_init 1 = .ok (.invokespecial 3, 3) := by decide +kernel
theorem dX5_init_4 : decode cX5_init 4 = .ok (.aload_n 0, 1) := by decide +kernel
theorem dX5_init_5 : decode cX5_init 5 = .ok (.iconst 0, 1) := by decide +kernel
theorem dX5_init_6 : decode cX5_init 6 = .ok (.putfield 9, 3) := by decide +kernel
theorem dX5_init_9 : decode cX5_init 9 = .ok (.aload_n 0, 1) := by decide +kernel
theorem dX5_init_10 : decode cX5_init 10 = .ok (.bipush 96, 2) := by decide +kernel
theorem dX5_init_12 : decode cX5_init 12 = .ok (.newarray .int, 2) := by decide +kernel
theorem dX5_init_14 : decode cX5_init 14 = .ok (.putfield 15, 3) := by decide +kernel
theorem dX5_init_17 : decode cX5_init 17 = .ok (.return_, 1) := by decide +kernel
theorem dX5_isFull_0 : decode cX5_isFull 0 = .ok (.aload_n 0, 1) := by decide +kernel
theorem dX5_isFull_1 : decode cX5_isFull 1 = .ok (.getfield 9, 3) := by decide +kernel
theorem dX5_isFull_4 : decode cX5_isFull 4 = .ok (.bipush 96, 2) := by decide +kernel
theorem dX5_isFull_6 : decode cX5_isFull 6 = .ok (.if_icmp .lt 7, 3) := by decide +kernel
theorem dX5_isFull_9 : decode cX5_isFull 9 = .ok (.iconst 1, 1) := by decide +kernel
theorem dX5_isFull_10 : decode cX5_isFull 10 = .ok (.goto 4, 3) := by decide +kernel
theorem dX5_isFull_13 : decode cX5_isFull 13 = .ok (.iconst 0, 1) := by decide +kernel
theorem dX5_isFull_14 : decode cX5_isFull 14 = .ok (.ireturn, 1) := by decide +kernel
theorem dX5_append_0 : decode cX5_append 0 = .ok (.aload_n 0, 1) := by decide +kernel
theorem dX5_append_1 : decode cX5_append 1 = .ok (.invokevirtual 19, 3) := by decide +kernel
theorem dX5_append_4 : decode cX5_append 4 = .ok (.ifCond .ne 23, 3) := by decide +kernel
theorem dX5_append_7 : decode cX5_append 7 = .ok (.aload_n 0, 1) := by decide +kernel
theorem dX5_append_8 : decode cX5_append 8 = .ok (.getfield 15, 3) := by decide +kernel
theorem dX5_append_11 : decode cX5_append 11 = .ok (.aload_n 0, 1) := by decide +kernel
theorem dX5_append_12 : decode cX5_append 12 = .ok (.getfield 9, 3) := by decide +kernel
theorem dX5_append_15 : decode cX5_append 15 = .ok (.iload_n 1, 1) := by decide +kernel
theorem dX5_append_16 : decode cX5_append 16 = .ok (.iastore, 1) := by decide +kernel
theorem dX5_append_17 : decode cX5_append 17 = .ok (.aload_n 0, 1) := by decide +kernel
theorem dX5_append_18 : decode cX5_append 18 = .ok (.dup, 1) := by decide +kernel
theorem dX5_append_19 : decode cX5_append 19 = .ok (.getfield 9, 3) := by decide +kernel
theorem dX5_append_22 : decode cX5_append 22 = .ok (.iconst 1, 1) := by decide +kernel
theorem dX5_append_23 : decode cX5_append 23 = .ok (.iadd, 1) := by decide +kernel
theorem dX5_append_24 : decode cX5_append 24 = .ok (.putfield 9, 3) := by decide +kernel
theorem dX5_append_27 : decode cX5_append 27 = .ok (.aload_n 0, 1) := by decide +kernel
theorem dX5_append_28 : decode cX5_append 28 = .ok (.getfield 9, 3) := by decide +kernel
theorem dX5_append_31 : decode cX5_append 31 = .ok (.ireturn, 1) := by decide +kernel
theorem dX5_empty_0 : decode cX5_empty 0 = .ok (.aload_n 0, 1) := by decide +kernel
theorem dX5_empty_1 : decode cX5_empty 1 = .ok (.iconst 0, 1) := by decide +kernel
theorem dX5_empty_2 : decode cX5_empty 2 = .ok (.putfield 9, 3) := by decide +kernel
theorem dX5_empty_5 : decode cX5_empty 5 = .ok (.return_, 1) := by decide +kernel
theorem dX5_tellTo_0 : decode cX5_tellTo 0 = .ok (.aload_n 0, 1) := by decide +kernel
theorem dX5_tellTo_1 : decode cX5_tellTo 1 = .ok (.invokevirtual 23, 3) := by decide +kernel
theorem dX5_tellTo_4 : decode cX5_tellTo 4 = .ok (.istore_n 3, 1) := by decide +kernel
theorem dX5_tellTo_5 : decode cX5_tellTo 5 = .ok (.iload_n 3, 1) := by decide +kernel
theorem dX5_tellTo_6 : decode cX5_tellTo 6 = .ok (.ifCond .lt 9, 3) := by decide +kernel
theorem dX5_tellTo_9 : decode cX5_tellTo 9 = .ok (.sipush (-1000), 3) := by decide +kernel
theorem dX5_tellTo_12 : decode cX5_tellTo 12 = .ok (.iload_n 3, 1) := by decide +kernel
theorem dX5_tellTo_13 : decode cX5_tellTo 13 = .ok (.isub, 1) := by decide +kernel
theorem dX5_tellTo_14 : decode cX5_tellTo 14 = .ok (.ireturn, 1) := by decide +kernel
theorem dX5_tellTo_15 : decode cX5_tellTo 15 = .ok (.aload_n 2, 1) := by decide +kernel
theorem dX5_tellTo_16 : decode cX5_tellTo 16 = .ok (.aload_n 1, 1) := by decide +kernel
theorem dX5_tellTo_17 : decode cX5_tellTo 17 = .ok (.invokevirtual 27, 3) := by decide +kernel
theorem dX5_tellTo_20 : decode cX5_tellTo 20 = .ok (.iconst 0, 1) := by decide +kernel
theorem dX5_tellTo_21 : decode cX5_tellTo 21 = .ok (.istore 4, 2) := by decide +kernel
theorem dX5_tellTo_23 : decode cX5_tellTo 23 = .ok (.iconst 0, 1) := by decide +kernel
theorem dX5_tellTo_24 : decode cX5_tellTo 24 = .ok (.istore 5, 2) := by decide +kernel
theorem dX5_tellTo_26 : decode cX5_tellTo 26 = .ok (.iconst 0, 1) := by decide +kernel
theorem dX5_tellTo_27 : decode cX5_tellTo 27 = .ok (.istore 6, 2) := by decide +kernel
theorem dX5_tellTo_29 : decode cX5_tellTo 29 = .ok (.iload 6, 2) := by decide +kernel
theorem dX5_tellTo_31 : decode cX5_tellTo 31 = .ok (.aload_n 0, 1) := by decide +kernel
theorem dX5_tellTo_32 : decode cX5_tellTo 32 = .ok (.getfield 9, 3) := by decide +kernel
theorem dX5_tellTo_35 : decode cX5_tellTo 35 = .ok (.if_icmp .ge 51, 3) := by decide +kernel
theorem dX5_tellTo_38 : decode cX5_tellTo 38 = .ok (.iload 6, 2) := by decide +kernel
theorem dX5_tellTo_40 : decode cX5_tellTo 40 = .ok (.iload 5, 2) := by decide +kernel
theorem dX5_tellTo_42 : decode cX5_tellTo 42 = .ok (.if_icmp .ne 38, 3) := by decide +kernel
theorem dX5_tellTo_45 : decode cX5_tellTo 45 = .ok (.aload_n 0, 1) := by decide +kernel
theorem dX5_tellTo_46 : decode cX5_tellTo 46 = .ok (.iload 6, 2) := by decide +kernel
theorem dX5_tellTo_48 : decode cX5_tellTo 48 = .ok (.aload_n 2, 1) := by decide +kernel
theorem dX5_tellTo_49 : decode cX5_tellTo 49 = .ok (.invokevirtual 33, 3) := by decide +kernel
theorem dX5_tellTo_52 : decode cX5_tellTo 52 = .ok (.ifCond .ne 10, 3) := by decide +kernel
theorem dX5_tellTo_55 : decode cX5_tellTo 55 = .ok (.sipush (-2000), 3) := by decide +kernel
theorem dX5_tellTo_58 : decode cX5_tellTo 58 = .ok (.iload 6, 2) := by decide +kernel
theorem dX5_tellTo_60 : decode cX5_tellTo 60 = .ok (.isub, 1) := by decide +kernel
theorem dX5_tellTo_61 : decode cX5_tellTo 61 = .ok (.ireturn, 1) := by decide +kernel
theorem dX5_tellTo_62 : decode cX5_tellTo 62 = .ok (.iinc 4 1, 3) := by decide +kernel
theorem dX5_tellTo_65 : decode cX5_tellTo 65 = .ok (.iload 6, 2) := by decide +kernel
theorem dX5_tellTo_67 : decode cX5_tellTo 67 = .ok (.aload_n 0, 1) := by decide +kernel
theorem dX5_tellTo_68 : decode cX5_tellTo 68 = .ok (.getfield 15, 3) := by decide +kernel
theorem dX5_tellTo_71 : decode cX5_tellTo 71 = .ok (.iload 6, 2) := by decide +kernel
theorem dX5_tellTo_73 : decode cX5_tellTo 73 = .ok (.iaload, 1) := by decide +kernel
theorem dX5_tellTo_74 : decode cX5_tellTo 74 = .ok (.invokestatic 37, 3) := by decide +kernel
theorem dX5_tellTo_77 : decode cX5_tellTo 77 = .ok (.iadd, 1) := by decide +kernel
theorem dX5_tellTo_78 : decode cX5_tellTo 78 = .ok (.istore 5, 2) := by decide +kernel
theorem dX5_tellTo_80 : decode cX5_tellTo 80 = .ok (.iinc 6 1, 3) := by decide +kernel
theorem dX5_tellTo_83 : decode cX5_tellTo 83 = .ok (.goto (-54), 3) := by decide +kernel
theorem dX5_tellTo_86 : decode cX5_tellTo 86 = .ok (.aload_n 1, 1) := by decide +kernel
theorem dX5_tellTo_87 : decode cX5_tellTo 87 = .ok (.aload_n 2, 1) := by decide +kernel
theorem dX5_tellTo_88 : decode cX5_tellTo 88 = .ok (.invokevirtual 27, 3) := by decide +kernel
theorem dX5_tellTo_91 : decode cX5_tellTo 91 = .ok (.iload 4, 2) := by decide +kernel
theorem dX5_tellTo_93 : decode cX5_tellTo 93 = .ok (.ireturn, 1) := by decide +kernel
theorem dX5_formFault_0 : decode cX5_formFault 0 = .ok (.iconst 0, 1) := by decide +kernel
theorem dX5_formFault_1 : decode cX5_formFault 1 = .ok (.istore_n 1, 1) := by decide +kernel
theorem dX5_formFault_2 : decode cX5_formFault 2 = .ok (.iconst 0, 1) := by decide +kernel
theorem dX5_formFault_3 : decode cX5_formFault 3 = .ok (.istore_n 2, 1) := by decide +kernel
theorem dX5_formFault_4 : decode cX5_formFault 4 = .ok (.iload_n 2, 1) := by decide +kernel
theorem dX5_formFault_5 : decode cX5_formFault 5 = .ok (.aload_n 0, 1) := by decide +kernel
theorem dX5_formFault_6 : decode cX5_formFault 6 = .ok (.getfield 9, 3) := by decide +kernel
theorem dX5_formFault_9 : decode cX5_formFault 9 = .ok (.if_icmp .ge 40, 3) := by decide +kernel
theorem dX5_formFault_12 : decode cX5_formFault 12 = .ok (.aload_n 0, 1) := by decide +kernel
theorem dX5_formFault_13 : decode cX5_formFault 13 = .ok (.iload_n 1, 1) := by decide +kernel
theorem dX5_formFault_14 : decode cX5_formFault 14 = .ok (.iload_n 2, 1) := by decide +kernel
theorem dX5_formFault_15 : decode cX5_formFault 15 = .ok (.invokevirtual 41, 3) := by decide +kernel
theorem dX5_formFault_18 : decode cX5_formFault 18 = .ok (.ifCond .ne 5, 3) := by decide +kernel
theorem dX5_formFault_21 : decode cX5_formFault 21 = .ok (.iload_n 2, 1) := by decide +kernel
theorem dX5_formFault_22 : decode cX5_formFault 22 = .ok (.ireturn, 1) := by decide +kernel
theorem dX5_formFault_23 : decode cX5_formFault 23 = .ok (.iload_n 2, 1) := by decide +kernel
theorem dX5_formFault_24 : decode cX5_formFault 24 = .ok (.iload_n 1, 1) := by decide +kernel
theorem dX5_formFault_25 : decode cX5_formFault 25 = .ok (.isub, 1) := by decide +kernel
theorem dX5_formFault_26 : decode cX5_formFault 26 = .ok (.aload_n 0, 1) := by decide +kernel
theorem dX5_formFault_27 : decode cX5_formFault 27 = .ok (.iload_n 1, 1) := by decide +kernel
theorem dX5_formFault_28 : decode cX5_formFault 28 = .ok (.invokevirtual 45, 3) := by decide +kernel
theorem dX5_formFault_31 : decode cX5_formFault 31 = .ok (.invokestatic 37, 3) := by decide +kernel
theorem dX5_formFault_34 : decode cX5_formFault 34 = .ok (.iconst 1, 1) := by decide +kernel
theorem dX5_formFault_35 : decode cX5_formFault 35 = .ok (.isub, 1) := by decide +kernel
theorem dX5_formFault_36 : decode cX5_formFault 36 = .ok (.if_icmp .ne 7, 3) := by decide +kernel
theorem dX5_formFault_39 : decode cX5_formFault 39 = .ok (.iload_n 2, 1) := by decide +kernel
theorem dX5_formFault_40 : decode cX5_formFault 40 = .ok (.iconst 1, 1) := by decide +kernel
theorem dX5_formFault_41 : decode cX5_formFault 41 = .ok (.iadd, 1) := by decide +kernel
theorem dX5_formFault_42 : decode cX5_formFault 42 = .ok (.istore_n 1, 1) := by decide +kernel
theorem dX5_formFault_43 : decode cX5_formFault 43 = .ok (.iinc 2 1, 3) := by decide +kernel
theorem dX5_formFault_46 : decode cX5_formFault 46 = .ok (.goto (-42), 3) := by decide +kernel
theorem dX5_formFault_49 : decode cX5_formFault 49 = .ok (.aload_n 0, 1) := by decide +kernel
theorem dX5_formFault_50 : decode cX5_formFault 50 = .ok (.getfield 9, 3) := by decide +kernel
theorem dX5_formFault_53 : decode cX5_formFault 53 = .ok (.ifCond .le 15, 3) := by decide +kernel
theorem dX5_formFault_56 : decode cX5_formFault 56 = .ok (.iload_n 1, 1) := by decide +kernel
theorem dX5_formFault_57 : decode cX5_formFault 57 = .ok (.aload_n 0, 1) := by decide +kernel
theorem dX5_formFault_58 : decode cX5_formFault 58 = .ok (.getfield 9, 3) := by decide +kernel
theorem dX5_formFault_61 : decode cX5_formFault 61 = .ok (.if_icmp .ne 7, 3) := by decide +kernel
theorem dX5_formFault_64 : decode cX5_formFault 64 = .ok (.iconst (-1), 1) := by decide +kernel
theorem dX5_formFault_65 : decode cX5_formFault 65 = .ok (.goto 7, 3) := by decide +kernel
theorem dX5_formFault_68 : decode cX5_formFault 68 = .ok (.aload_n 0, 1) := by decide +kernel
theorem dX5_formFault_69 : decode cX5_formFault 69 = .ok (.getfield 9, 3) := by decide +kernel
theorem dX5_formFault_72 : decode cX5_formFault 72 = .ok (.ireturn, 1) := by decide +kernel
theorem dX5_isInForm_0 : decode cX5_isInForm 0 = .ok (.aload_n 0, 1) := by decide +kernel
theorem dX5_isInForm_1 : decode cX5_isInForm 1 = .ok (.iload_n 1, 1) := by decide +kernel
theorem dX5_isInForm_2 : decode cX5_isInForm 2 = .ok (.invokevirtual 45, 3) := by decide +kernel
theorem dX5_isInForm_5 : decode cX5_isInForm 5 = .ok (.istore_n 3, 1) := by decide +kernel
theorem dX5_isInForm_6 : decode cX5_isInForm 6 = .ok (.aload_n 0, 1) := by decide +kernel
theorem dX5_isInForm_7 : decode cX5_isInForm 7 = .ok (.iload_n 2, 1) := by decide +kernel
theorem dX5_isInForm_8 : decode cX5_isInForm 8 = .ok (.invokevirtual 45, 3) := by decide +kernel
theorem dX5_isInForm_11 : decode cX5_isInForm 11 = .ok (.istore 4, 2) := by decide +kernel
theorem dX5_isInForm_13 : decode cX5_isInForm 13 = .ok (.iload_n 2, 1) := by decide +kernel
theorem dX5_isInForm_14 : decode cX5_isInForm 14 = .ok (.iload_n 1, 1) := by decide +kernel
theorem dX5_isInForm_15 : decode cX5_isInForm 15 = .ok (.if_icmp .ne 16, 3) := by decide +kernel
theorem dX5_isInForm_18 : decode cX5_isInForm 18 = .ok (.iload_n 3, 1) := by decide +kernel
theorem dX5_isInForm_19 : decode cX5_isInForm 19 = .ok (.invokestatic 37, 3) := by decide +kernel
theorem dX5_isInForm_22 : decode cX5_isInForm 22 = .ok (.ifCond .le 7, 3) := by decide +kernel
theorem dX5_isInForm_25 : decode cX5_isInForm 25 = .ok (.iconst 1, 1) := by decide +kernel
theorem dX5_isInForm_26 : decode cX5_isInForm 26 = .ok (.goto 4, 3) := by decide +kernel
theorem dX5_isInForm_29 : decode cX5_isInForm 29 = .ok (.iconst 0, 1) := by decide +kernel
theorem dX5_isInForm_30 : decode cX5_isInForm 30 = .ok (.ireturn, 1) := by decide +kernel
theorem dX5_isInForm_31 : decode cX5_isInForm 31 = .ok (.iload_n 2, 1) := by decide +kernel
theorem dX5_isInForm_32 : decode cX5_isInForm 32 = .ok (.iload_n 1, 1) := by decide +kernel
theorem dX5_isInForm_33 : decode cX5_isInForm 33 = .ok (.isub, 1) := by decide +kernel
theorem dX5_isInForm_34 : decode cX5_isInForm 34 = .ok (.iload_n 3, 1) := by decide +kernel
theorem dX5_isInForm_35 : decode cX5_isInForm 35 = .ok (.invokestatic 37, 3) := by decide +kernel
theorem dX5_isInForm_38 : decode cX5_isInForm 38 = .ok (.iconst 1, 1) := by decide +kernel
theorem dX5_isInForm_39 : decode cX5_isInForm 39 = .ok (.isub, 1) := by decide +kernel
theorem dX5_isInForm_40 : decode cX5_isInForm 40 = .ok (.if_icmp .ne 16, 3) := by decide +kernel
theorem dX5_isInForm_43 : decode cX5_isInForm 43 = .ok (.iload 4, 2) := by decide +kernel
theorem dX5_isInForm_45 : decode cX5_isInForm 45 = .ok (.bipush 59, 2) := by decide +kernel
theorem dX5_isInForm_47 : decode cX5_isInForm 47 = .ok (.if_icmp .ne 7, 3) := by decide +kernel
theorem dX5_isInForm_50 : decode cX5_isInForm 50 = .ok (.iconst 1, 1) := by decide +kernel
theorem dX5_isInForm_51 : decode cX5_isInForm 51 = .ok (.goto 4, 3) := by decide +kernel
theorem dX5_isInForm_54 : decode cX5_isInForm 54 = .ok (.iconst 0, 1) := by decide +kernel
theorem dX5_isInForm_55 : decode cX5_isInForm 55 = .ok (.ireturn, 1) := by decide +kernel
theorem dX5_isInForm_56 : decode cX5_isInForm 56 = .ok (.iload_n 3, 1) := by decide +kernel
theorem dX5_isInForm_57 : decode cX5_isInForm 57 = .ok (.bipush 99, 2) := by decide +kernel
theorem dX5_isInForm_59 : decode cX5_isInForm 59 = .ok (.if_icmp .ne 24, 3) := by decide +kernel
theorem dX5_isInForm_62 : decode cX5_isInForm 62 = .ok (.iload_n 2, 1) := by decide +kernel
theorem dX5_isInForm_63 : decode cX5_isInForm 63 = .ok (.iload_n 1, 1) := by decide +kernel
theorem dX5_isInForm_64 : decode cX5_isInForm 64 = .ok (.iconst 1, 1) := by decide +kernel
theorem dX5_isInForm_65 : decode cX5_isInForm 65 = .ok (.iadd, 1) := by decide +kernel
theorem dX5_isInForm_66 : decode cX5_isInForm 66 = .ok (.if_icmp .ne 17, 3) := by decide +kernel
theorem dX5_isInForm_69 : decode cX5_isInForm 69 = .ok (.aload_n 0, 1) := by decide +kernel
theorem dX5_isInForm_70 : decode cX5_isInForm 70 = .ok (.iload_n 2, 1) := by decide +kernel
theorem dX5_isInForm_71 : decode cX5_isInForm 71 = .ok (.invokevirtual 48, 3) := by decide +kernel
theorem dX5_isInForm_74 : decode cX5_isInForm 74 = .ok (.ifCond .lt 7, 3) := by decide +kernel
theorem dX5_isInForm_77 : decode cX5_isInForm 77 = .ok (.iconst 1, 1) := by decide +kernel
theorem dX5_isInForm_78 : decode cX5_isInForm 78 = .ok (.goto 4, 3) := by decide +kernel
theorem dX5_isInForm_81 : decode cX5_isInForm 81 = .ok (.iconst 0, 1) := by decide +kernel
theorem dX5_isInForm_82 : decode cX5_isInForm 82 = .ok (.ireturn, 1) := by decide +kernel
theorem dX5_isInForm_83 : decode cX5_isInForm 83 = .ok (.iload 4, 2) := by decide +kernel
theorem dX5_isInForm_85 : decode cX5_isInForm 85 = .ok (.bipush 48, 2) := by decide +kernel
theorem dX5_isInForm_87 : decode cX5_isInForm 87 = .ok (.if_icmp .lt 14, 3) := by decide +kernel
theorem dX5_isInForm_90 : decode cX5_isInForm 90 = .ok (.iload 4, 2) := by decide +kernel
theorem dX5_isInForm_92 : decode cX5_isInForm 92 = .ok (.bipush 57, 2) := by decide +kernel
theorem dX5_isInForm_94 : decode cX5_isInForm 94 = .ok (.if_icmp .gt 7, 3) := by decide +kernel
theorem dX5_isInForm_97 : decode cX5_isInForm 97 = .ok (.iconst 1, 1) := by decide +kernel
theorem dX5_isInForm_98 : decode cX5_isInForm 98 = .ok (.goto 4, 3) := by decide +kernel
theorem dX5_isInForm_101 : decode cX5_isInForm 101 = .ok (.iconst 0, 1) := by decide +kernel
theorem dX5_isInForm_102 : decode cX5_isInForm 102 = .ok (.ireturn, 1) := by decide +kernel
theorem dX5_lengthOf_0 : decode cX5_lengthOf 0 = .ok (.iload_n 0, 1) := by decide +kernel
theorem dX5_lengthOf_1 : decode cX5_lengthOf 1 = .ok (.lookupswitch 66 #[(98, 64), (99, 59), (102, 64), (111, 64), (119, 64), (120, 62)], 59) := by decide +kernel
theorem dX5_lengthOf_60 : decode cX5_lengthOf 60 = .ok (.bipush 7, 2) := by decide +kernel
theorem dX5_lengthOf_62 : decode cX5_lengthOf 62 = .ok (.ireturn, 1) := by decide +kernel
theorem dX5_lengthOf_63 : decode cX5_lengthOf 63 = .ok (.iconst 4, 1) := by decide +kernel
theorem dX5_lengthOf_64 : decode cX5_lengthOf 64 = .ok (.ireturn, 1) := by decide +kernel
theorem dX5_lengthOf_65 : decode cX5_lengthOf 65 = .ok (.iconst 3, 1) := by decide +kernel
theorem dX5_lengthOf_66 : decode cX5_lengthOf 66 = .ok (.ireturn, 1) := by decide +kernel
theorem dX5_lengthOf_67 : decode cX5_lengthOf 67 = .ok (.iconst 0, 1) := by decide +kernel
theorem dX5_lengthOf_68 : decode cX5_lengthOf 68 = .ok (.ireturn, 1) := by decide +kernel
theorem dX5_letterAt_0 : decode cX5_letterAt 0 = .ok (.iload_n 1, 1) := by decide +kernel
theorem dX5_letterAt_1 : decode cX5_letterAt 1 = .ok (.ifCond .lt 20, 3) := by decide +kernel
theorem dX5_letterAt_4 : decode cX5_letterAt 4 = .ok (.iload_n 1, 1) := by decide +kernel
theorem dX5_letterAt_5 : decode cX5_letterAt 5 = .ok (.aload_n 0, 1) := by decide +kernel
theorem dX5_letterAt_6 : decode cX5_letterAt 6 = .ok (.getfield 9, 3) := by decide +kernel
theorem dX5_letterAt_9 : decode cX5_letterAt 9 = .ok (.if_icmp .ge 12, 3) := by decide +kernel
theorem dX5_letterAt_12 : decode cX5_letterAt 12 = .ok (.aload_n 0, 1) := by decide +kernel
theorem dX5_letterAt_13 : decode cX5_letterAt 13 = .ok (.getfield 15, 3) := by decide +kernel
theorem dX5_letterAt_16 : decode cX5_letterAt 16 = .ok (.iload_n 1, 1) := by decide +kernel
theorem dX5_letterAt_17 : decode cX5_letterAt 17 = .ok (.iaload, 1) := by decide +kernel
theorem dX5_letterAt_18 : decode cX5_letterAt 18 = .ok (.goto 4, 3) := by decide +kernel
theorem dX5_letterAt_21 : decode cX5_letterAt 21 = .ok (.iconst 0, 1) := by decide +kernel
theorem dX5_letterAt_22 : decode cX5_letterAt 22 = .ok (.ireturn, 1) := by decide +kernel
theorem dX5_digitAt_0 : decode cX5_digitAt 0 = .ok (.aload_n 0, 1) := by decide +kernel
theorem dX5_digitAt_1 : decode cX5_digitAt 1 = .ok (.iload_n 1, 1) := by decide +kernel
theorem dX5_digitAt_2 : decode cX5_digitAt 2 = .ok (.invokevirtual 45, 3) := by decide +kernel
theorem dX5_digitAt_5 : decode cX5_digitAt 5 = .ok (.bipush 48, 2) := by decide +kernel
theorem dX5_digitAt_7 : decode cX5_digitAt 7 = .ok (.isub, 1) := by decide +kernel
theorem dX5_digitAt_8 : decode cX5_digitAt 8 = .ok (.ireturn, 1) := by decide +kernel
theorem dX5_kindAt_0 : decode cX5_kindAt 0 = .ok (.ldc 53, 2) := by decide +kernel
theorem dX5_kindAt_2 : decode cX5_kindAt 2 = .ok (.aload_n 0, 1) := by decide +kernel
theorem dX5_kindAt_3 : decode cX5_kindAt 3 = .ok (.iload_n 1, 1) := by decide +kernel
theorem dX5_kindAt_4 : decode cX5_kindAt 4 = .ok (.invokevirtual 45, 3) := by decide +kernel
theorem dX5_kindAt_7 : decode cX5_kindAt 7 = .ok (.i2c, 1) := by decide +kernel
theorem dX5_kindAt_8 : decode cX5_kindAt 8 = .ok (.invokevirtual 55, 3) := by decide +kernel
theorem dX5_kindAt_11 : decode cX5_kindAt 11 = .ok (.ireturn, 1) := by decide +kernel
theorem dX5_tellStatement_0 : decode cX5_tellStatement 0 = .ok (.aload_n 0, 1) := by decide +kernel
theorem dX5_tellStatement_1 : decode cX5_tellStatement 1 = .ok (.iload_n 1, 1) := by decide +kernel
theorem dX5_tellStatement_2 : decode cX5_tellStatement 2 = .ok (.iconst 1, 1) := by decide +kernel
theorem dX5_tellStatement_3 : decode cX5_tellStatement 3 = .ok (.iadd, 1) := by decide +kernel
theorem dX5_tellStatement_4 : decode cX5_tellStatement 4 = .ok (.invokevirtual 60, 3) := by decide +kernel
theorem dX5_tellStatement_7 : decode cX5_tellStatement 7 = .ok (.istore_n 3, 1) := by decide +kernel
theorem dX5_tellStatement_8 : decode cX5_tellStatement 8 = .ok (.aload_n 0, 1) := by decide +kernel
theorem dX5_tellStatement_9 : decode cX5_tellStatement 9 = .ok (.iload_n 1, 1) := by decide +kernel
theorem dX5_tellStatement_10 : decode cX5_tellStatement 10 = .ok (.invokevirtual 45, 3) := by decide +kernel
theorem dX5_tellStatement_13 : decode cX5_tellStatement 13 = .ok (.lookupswitch 103 #[(98, 66), (99, 59), (102, 84), (111, 78), (119, 72), (120, 90)], 59) := by decide +kernel
theorem dX5_tellStatement_72 : decode cX5_tellStatement 72 = .ok (.aload_n 0, 1) := by decide +kernel
theorem dX5_tellStatement_73 : decode cX5_tellStatement 73 = .ok (.iload_n 1, 1) := by decide +kernel
theorem dX5_tellStatement_74 : decode cX5_tellStatement 74 = .ok (.aload_n 2, 1) := by decide +kernel
theorem dX5_tellStatement_75 : decode cX5_tellStatement 75 = .ok (.invokevirtual 63, 3) := by decide +kernel
theorem dX5_tellStatement_78 : decode cX5_tellStatement 78 = .ok (.ireturn, 1) := by decide +kernel
theorem dX5_tellStatement_79 : decode cX5_tellStatement 79 = .ok (.aload_n 2, 1) := by decide +kernel
theorem dX5_tellStatement_80 : decode cX5_tellStatement 80 = .ok (.iload_n 3, 1) := by decide +kernel
theorem dX5_tellStatement_81 : decode cX5_tellStatement 81 = .ok (.invokevirtual 66, 3) := by decide +kernel
theorem dX5_tellStatement_84 : decode cX5_tellStatement 84 = .ok (.ireturn, 1) := by decide +kernel
theorem dX5_tellStatement_85 : decode cX5_tellStatement 85 = .ok (.aload_n 2, 1) := by decide +kernel
theorem dX5_tellStatement_86 : decode cX5_tellStatement 86 = .ok (.iload_n 3, 1) := by decide +kernel
theorem dX5_tellStatement_87 : decode cX5_tellStatement 87 = .ok (.invokevirtual 70, 3) := by decide +kernel
theorem dX5_tellStatement_90 : decode cX5_tellStatement 90 = .ok (.ireturn, 1) := by decide +kernel
theorem dX5_tellStatement_91 : decode cX5_tellStatement 91 = .ok (.aload_n 2, 1) := by decide +kernel
theorem dX5_tellStatement_92 : decode cX5_tellStatement 92 = .ok (.iload_n 3, 1) := by decide +kernel
theorem dX5_tellStatement_93 : decode cX5_tellStatement 93 = .ok (.invokevirtual 73, 3) := by decide +kernel
theorem dX5_tellStatement_96 : decode cX5_tellStatement 96 = .ok (.ireturn, 1) := by decide +kernel
theorem dX5_tellStatement_97 : decode cX5_tellStatement 97 = .ok (.aload_n 2, 1) := by decide +kernel
theorem dX5_tellStatement_98 : decode cX5_tellStatement 98 = .ok (.iload_n 3, 1) := by decide +kernel
theorem dX5_tellStatement_99 : decode cX5_tellStatement 99 = .ok (.invokevirtual 76, 3) := by decide +kernel
theorem dX5_tellStatement_102 : decode cX5_tellStatement 102 = .ok (.ireturn, 1) := by decide +kernel
theorem dX5_tellStatement_103 : decode cX5_tellStatement 103 = .ok (.aload_n 2, 1) := by decide +kernel
theorem dX5_tellStatement_104 : decode cX5_tellStatement 104 = .ok (.iload_n 3, 1) := by decide +kernel
theorem dX5_tellStatement_105 : decode cX5_tellStatement 105 = .ok (.aload_n 0, 1) := by decide +kernel
theorem dX5_tellStatement_106 : decode cX5_tellStatement 106 = .ok (.iload_n 1, 1) := by decide +kernel
theorem dX5_tellStatement_107 : decode cX5_tellStatement 107 = .ok (.iconst 2, 1) := by decide +kernel
theorem dX5_tellStatement_108 : decode cX5_tellStatement 108 = .ok (.iadd, 1) := by decide +kernel
theorem dX5_tellStatement_109 : decode cX5_tellStatement 109 = .ok (.invokevirtual 60, 3) := by decide +kernel
theorem dX5_tellStatement_112 : decode cX5_tellStatement 112 = .ok (.invokevirtual 79, 3) := by decide +kernel
theorem dX5_tellStatement_115 : decode cX5_tellStatement 115 = .ok (.ireturn, 1) := by decide +kernel
theorem dX5_tellStatement_116 : decode cX5_tellStatement 116 = .ok (.iconst 0, 1) := by decide +kernel
theorem dX5_tellStatement_117 : decode cX5_tellStatement 117 = .ok (.ireturn, 1) := by decide +kernel
theorem dX5_tellCar_0 : decode cX5_tellCar 0 = .ok (.bipush 10, 2) := by decide +kernel
theorem dX5_tellCar_2 : decode cX5_tellCar 2 = .ok (.aload_n 0, 1) := by decide +kernel
theorem dX5_tellCar_3 : decode cX5_tellCar 3 = .ok (.iload_n 1, 1) := by decide +kernel
theorem dX5_tellCar_4 : decode cX5_tellCar 4 = .ok (.iconst 4, 1) := by decide +kernel
theorem dX5_tellCar_5 : decode cX5_tellCar 5 = .ok (.iadd, 1) := by decide +kernel
theorem dX5_tellCar_6 : decode cX5_tellCar 6 = .ok (.invokevirtual 60, 3) := by decide +kernel
theorem dX5_tellCar_9 : decode cX5_tellCar 9 = .ok (.imul, 1) := by decide +kernel
theorem dX5_tellCar_10 : decode cX5_tellCar 10 = .ok (.aload_n 0, 1) := by decide +kernel
theorem dX5_tellCar_11 : decode cX5_tellCar 11 = .ok (.iload_n 1, 1) := by decide +kernel
theorem dX5_tellCar_12 : decode cX5_tellCar 12 = .ok (.iconst 5, 1) := by decide +kernel
theorem dX5_tellCar_13 : decode cX5_tellCar 13 = .ok (.iadd, 1) := by decide +kernel
theorem dX5_tellCar_14 : decode cX5_tellCar 14 = .ok (.invokevirtual 60, 3) := by decide +kernel
theorem dX5_tellCar_17 : decode cX5_tellCar 17 = .ok (.iadd, 1) := by decide +kernel
theorem dX5_tellCar_18 : decode cX5_tellCar 18 = .ok (.istore_n 3, 1) := by decide +kernel
theorem dX5_tellCar_19 : decode cX5_tellCar 19 = .ok (.aload_n 2, 1) := by decide +kernel
theorem dX5_tellCar_20 : decode cX5_tellCar 20 = .ok (.aload_n 0, 1) := by decide +kernel
theorem dX5_tellCar_21 : decode cX5_tellCar 21 = .ok (.iload_n 1, 1) := by decide +kernel
theorem dX5_tellCar_22 : decode cX5_tellCar 22 = .ok (.iconst 1, 1) := by decide +kernel
theorem dX5_tellCar_23 : decode cX5_tellCar 23 = .ok (.iadd, 1) := by decide +kernel
theorem dX5_tellCar_24 : decode cX5_tellCar 24 = .ok (.invokevirtual 48, 3) := by decide +kernel
theorem dX5_tellCar_27 : decode cX5_tellCar 27 = .ok (.aload_n 0, 1) := by decide +kernel
theorem dX5_tellCar_28 : decode cX5_tellCar 28 = .ok (.iload_n 1, 1) := by decide +kernel
theorem dX5_tellCar_29 : decode cX5_tellCar 29 = .ok (.iconst 2, 1) := by decide +kernel
theorem dX5_tellCar_30 : decode cX5_tellCar 30 = .ok (.iadd, 1) := by decide +kernel
theorem dX5_tellCar_31 : decode cX5_tellCar 31 = .ok (.invokevirtual 60, 3) := by decide +kernel
theorem dX5_tellCar_34 : decode cX5_tellCar 34 = .ok (.aload_n 0, 1) := by decide +kernel
theorem dX5_tellCar_35 : decode cX5_tellCar 35 = .ok (.iload_n 1, 1) := by decide +kernel
theorem dX5_tellCar_36 : decode cX5_tellCar 36 = .ok (.iconst 3, 1) := by decide +kernel
theorem dX5_tellCar_37 : decode cX5_tellCar 37 = .ok (.iadd, 1) := by decide +kernel
theorem dX5_tellCar_38 : decode cX5_tellCar 38 = .ok (.invokevirtual 60, 3) := by decide +kernel
theorem dX5_tellCar_41 : decode cX5_tellCar 41 = .ok (.iload_n 3, 1) := by decide +kernel
theorem dX5_tellCar_42 : decode cX5_tellCar 42 = .ok (.invokevirtual 82, 3) := by decide +kernel
theorem dX5_tellCar_45 : decode cX5_tellCar 45 = .ok (.ireturn, 1) := by decide +kernel
end
section
theorem dX6_init_0 : decode cX6_init 0 = .ok (.aload_n 0, 1) := by decide +kernel
theorem dX6_init_1 : decode cX6_init 1 = .ok (.invokespecial 1, 3) := by decide +kernel
theorem dX6_init_4 : decode cX6_init 4 = .ok (.aload_n 0, 1) := by decide +kernel
theorem dX6_init_5 : decode cX6_init 5 = .ok (.new 7, 3) := by decide +kernel
theorem dX6_init_8 : decode cX6_init 8 = .ok (.dup, 1) := by decide +kernel
theorem dX6_init_9 : decode cX6_init 9 = .ok (.invokespecial 9, 3) := by decide +kernel
theorem dX6_init_12 : decode cX6_init 12 = .ok (.putfield 10, 3) := by decide +kernel
theorem dX6_init_15 : decode cX6_init 15 = .ok (.aload_n 0, 1) := by decide +kernel
theorem dX6_init_16 : decode cX6_init 16 = .ok (.new 7, 3) := by decide +kernel
theorem dX6_init_19 : decode cX6_init 19 = .ok (.dup, 1) := by decide +kernel
theorem dX6_init_20 : decode cX6_init 20 = .ok (.invokespecial 9, 3) := by decide +kernel
theorem dX6_init_23 : decode cX6_init 23 = .ok (.putfield 16, 3) := by decide +kernel
theorem dX6_init_26 : decode cX6_init 26 = .ok (.aload_n 0, 1) := by decide +kernel
theorem dX6_init_27 : decode cX6_init 27 = .ok (.iconst 0, 1) := by decide +kernel
theorem dX6_init_28 : decode cX6_init 28 = .ok (.putfield 19, 3) := by decide +kernel
theorem dX6_init_31 : decode cX6_init 31 = .ok (.aload_n 0, 1) := by decide +kernel
theorem dX6_init_32 : decode cX6_init 32 = .ok (.new 23, 3) := by decide +kernel
theorem dX6_init_35 : decode cX6_init 35 = .ok (.dup, 1) := by decide +kernel
theorem dX6_init_36 : decode cX6_init 36 = .ok (.invokespecial 25, 3) := by decide +kernel
theorem dX6_init_39 : decode cX6_init 39 = .ok (.putfield 26, 3) := by decide +kernel
theorem dX6_init_42 : decode cX6_init 42 = .ok (.aload_n 0, 1) := by decide +kernel
theorem dX6_init_43 : decode cX6_init 43 = .ok (.bipush 12, 2) := by decide +kernel
theorem dX6_init_45 : decode cX6_init 45 = .ok (.newarray .int, 2) := by decide +kernel
theorem dX6_init_47 : decode cX6_init 47 = .ok (.putfield 30, 3) := by decide +kernel
theorem dX6_init_50 : decode cX6_init 50 = .ok (.aload_n 0, 1) := by decide +kernel
theorem dX6_init_51 : decode cX6_init 51 = .ok (.iconst 0, 1) := by decide +kernel
theorem dX6_init_52 : decode cX6_init 52 = .ok (.putfield 34, 3) := by decide +kernel
theorem dX6_init_55 : decode cX6_init 55 = .ok (.aload_n 0, 1) := by decide +kernel
theorem dX6_init_56 : decode cX6_init 56 = .ok (.bipush 7, 2) := by decide +kernel
theorem dX6_init_58 : decode cX6_init 58 = .ok (.newarray .int, 2) := by decide +kernel
theorem dX6_init_60 : decode cX6_init 60 = .ok (.putfield 38, 3) := by decide +kernel
theorem dX6_init_63 : decode cX6_init 63 = .ok (.aload_n 0, 1) := by decide +kernel
theorem dX6_init_64 : decode cX6_init 64 = .ok (.new 7, 3) := by decide +kernel
theorem dX6_init_67 : decode cX6_init 67 = .ok (.dup, 1) := by decide +kernel
theorem dX6_init_68 : decode cX6_init 68 = .ok (.invokespecial 9, 3) := by decide +kernel
theorem dX6_init_71 : decode cX6_init 71 = .ok (.putfield 41, 3) := by decide +kernel
theorem dX6_init_74 : decode cX6_init 74 = .ok (.aload_n 0, 1) := by decide +kernel
theorem dX6_init_75 : decode cX6_init 75 = .ok (.new 44, 3) := by decide +kernel
theorem dX6_init_78 : decode cX6_init 78 = .ok (.dup, 1) := by decide +kernel
theorem dX6_init_79 : decode cX6_init 79 = .ok (.invokespecial 46, 3) := by decide +kernel
theorem dX6_init_82 : decode cX6_init 82 = .ok (.putfield 47, 3) := by decide +kernel
theorem dX6_init_85 : decode cX6_init 85 = .ok (.aload_n 0, 1) := by decide +kernel
theorem dX6_init_86 : decode cX6_init 86 = .ok (.new 51, 3) := by decide +kernel
theorem dX6_init_89 : decode cX6_init 89 = .ok (.dup, 1) := by decide +kernel
theorem dX6_init_90 : decode cX6_init 90 = .ok (.invokespecial 53, 3) := by decide +kernel
theorem dX6_init_93 : decode cX6_init 93 = .ok (.putfield 54, 3) := by decide +kernel
theorem dX6_init_96 : decode cX6_init 96 = .ok (.aload_n 0, 1) := by decide +kernel
theorem dX6_init_97 : decode cX6_init 97 = .ok (.new 58, 3) := by decide +kernel
theorem dX6_init_100 : decode cX6_init 100 = .ok (.dup, 1) := by decide +kernel
theorem dX6_init_101 : decode cX6_init 101 = .ok (.invokespecial 60, 3) := by decide +kernel
theorem dX6_init_104 : decode cX6_init 104 = .ok (.putfield 61, 3) := by decide +kernel
theorem dX6_init_107 : decode cX6_init 107 = .ok (.return_, 1) := by decide +kernel
theorem dX6_letter_0 : decode cX6_letter 0 = .ok (.iload_n 1, 1) := by decide +kernel
theorem dX6_letter_1 : decode cX6_letter 1 = .ok (.ifCond .ge 10, 3) := by decide +kernel
theorem dX6_letter_4 : decode cX6_letter 4 = .ok (.aload_n 0, 1) := by decide +kernel
theorem dX6_letter_5 : decode cX6_letter 5 = .ok (.bipush (-4), 2) := by decide +kernel
theorem dX6_letter_7 : decode cX6_letter 7 = .ok (.invokevirtual 65, 3) := by decide +kernel
theorem dX6_letter_10 : decode cX6_letter 10 = .ok (.ireturn, 1) := by decide +kernel
theorem dX6_letter_11 : decode cX6_letter 11 = .ok (.iload_n 1, 1) := by decide +kernel
theorem dX6_letter_12 : decode cX6_letter 12 = .ok (.sipush 255, 3) := by decide +kernel
theorem dX6_letter_15 : decode cX6_letter 15 = .ok (.if_icmp .gt 13, 3) := by decide +kernel
theorem dX6_letter_18 : decode cX6_letter 18 = .ok (.aload_n 0, 1) := by decide +kernel
theorem dX6_letter_19 : decode cX6_letter 19 = .ok (.getfield 26, 3) := by decide +kernel
theorem dX6_letter_22 : decode cX6_letter 22 = .ok (.invokevirtual 69, 3) := by decide +kernel
theorem dX6_letter_25 : decode cX6_letter 25 = .ok (.ifCond .eq 10, 3) := by decide +kernel
theorem dX6_letter_28 : decode cX6_letter 28 = .ok (.aload_n 0, 1) := by decide +kernel
theorem dX6_letter_29 : decode cX6_letter 29 = .ok (.bipush (-6), 2) := by decide +kernel
theorem dX6_letter_31 : decode cX6_letter 31 = .ok (.invokevirtual 65, 3) := by decide +kernel
theorem dX6_letter_34 : decode cX6_letter 34 = .ok (.ireturn, 1) := by decide +kernel
theorem dX6_letter_35 : decode cX6_letter 35 = .ok (.aload_n 0, 1) := by decide +kernel
theorem dX6_letter_36 : decode cX6_letter 36 = .ok (.getfield 26, 3) := by decide +kernel
theorem dX6_letter_39 : decode cX6_letter 39 = .ok (.iload_n 1, 1) := by decide +kernel
theorem dX6_letter_40 : decode cX6_letter 40 = .ok (.invokevirtual 73, 3) := by decide +kernel
theorem dX6_letter_43 : decode cX6_letter 43 = .ok (.ireturn, 1) := by decide +kernel
theorem dX6_road_0 : decode cX6_road 0 = .ok (.aload_n 0, 1) := by decide +kernel
theorem dX6_road_1 : decode cX6_road 1 = .ok (.getfield 26, 3) := by decide +kernel
theorem dX6_road_4 : decode cX6_road 4 = .ok (.aload_n 0, 1) := by decide +kernel
theorem dX6_road_5 : decode cX6_road 5 = .ok (.getfield 10, 3) := by decide +kernel
theorem dX6_road_8 : decode cX6_road 8 = .ok (.aload_n 0, 1) := by decide +kernel
theorem dX6_road_9 : decode cX6_road 9 = .ok (.getfield 41, 3) := by decide +kernel
theorem dX6_road_12 : decode cX6_road 12 = .ok (.invokevirtual 76, 3) := by decide +kernel
theorem dX6_road_15 : decode cX6_road 15 = .ok (.istore_n 1, 1) := by decide +kernel
theorem dX6_road_16 : decode cX6_road 16 = .ok (.aload_n 0, 1) := by decide +kernel
theorem dX6_road_17 : decode cX6_road 17 = .ok (.getfield 26, 3) := by decide +kernel
theorem dX6_road_20 : decode cX6_road 20 = .ok (.invokevirtual 80, 3) := by decide +kernel
theorem dX6_road_23 : decode cX6_road 23 = .ok (.iload_n 1, 1) := by decide +kernel
theorem dX6_road_24 : decode cX6_road 24 = .ok (.ireturn, 1) := by decide +kernel
theorem dX6_car_0 : decode cX6_car 0 = .ok (.aload_n 0, 1) := by decide +kernel
theorem dX6_car_1 : decode cX6_car 1 = .ok (.getfield 10, 3) := by decide +kernel
theorem dX6_car_4 : decode cX6_car 4 = .ok (.iload_n 1, 1) := by decide +kernel
theorem dX6_car_5 : decode cX6_car 5 = .ok (.invokevirtual 83, 3) := by decide +kernel
theorem dX6_car_8 : decode cX6_car 8 = .ok (.ifCond .ne 9, 3) := by decide +kernel
theorem dX6_car_11 : decode cX6_car 11 = .ok (.aload_n 0, 1) := by decide +kernel
theorem dX6_car_12 : decode cX6_car 12 = .ok (.iconst (-1), 1) := by decide +kernel
theorem dX6_car_13 : decode cX6_car 13 = .ok (.invokevirtual 65, 3) := by decide +kernel
theorem dX6_car_16 : decode cX6_car 16 = .ok (.ireturn, 1) := by decide +kernel
theorem dX6_car_17 : decode cX6_car 17 = .ok (.iload_n 2, 1) := by decide +kernel
theorem dX6_car_18 : decode cX6_car 18 = .ok (.tableswitch 113 0 6 #[42, 52, 62, 72, 82, 91, 100], 42) := by decide +kernel
theorem dX6_car_60 : decode cX6_car 60 = .ok (.aload_n 0, 1) := by decide +kernel
theorem dX6_car_61 : decode cX6_car 61 = .ok (.getfield 10, 3) := by decide +kernel
theorem dX6_car_64 : decode cX6_car 64 = .ok (.getfield 87, 3) := by decide +kernel
theorem dX6_car_67 : decode cX6_car 67 = .ok (.iload_n 1, 1) := by decide +kernel
theorem dX6_car_68 : decode cX6_car 68 = .ok (.iaload, 1) := by decide +kernel
theorem dX6_car_69 : decode cX6_car 69 = .ok (.ireturn, 1) := by decide +kernel
theorem dX6_car_70 : decode cX6_car 70 = .ok (.aload_n 0, 1) := by decide +kernel
theorem dX6_car_71 : decode cX6_car 71 = .ok (.getfield 10, 3) := by decide +kernel
theorem dX6_car_74 : decode cX6_car 74 = .ok (.getfield 90, 3) := by decide +kernel
theorem dX6_car_77 : decode cX6_car 77 = .ok (.iload_n 1, 1) := by decide +kernel
theorem dX6_car_78 : decode cX6_car 78 = .ok (.iaload, 1) := by decide +kernel
theorem dX6_car_79 : decode cX6_car 79 = .ok (.ireturn, 1) := by decide +kernel
theorem dX6_car_80 : decode cX6_car 80 = .ok (.aload_n 0, 1) := by decide +kernel
theorem dX6_car_81 : decode cX6_car 81 = .ok (.getfield 10, 3) := by decide +kernel
theorem dX6_car_84 : decode cX6_car 84 = .ok (.getfield 93, 3) := by decide +kernel
theorem dX6_car_87 : decode cX6_car 87 = .ok (.iload_n 1, 1) := by decide +kernel
theorem dX6_car_88 : decode cX6_car 88 = .ok (.iaload, 1) := by decide +kernel
theorem dX6_car_89 : decode cX6_car 89 = .ok (.ireturn, 1) := by decide +kernel
theorem dX6_car_90 : decode cX6_car 90 = .ok (.aload_n 0, 1) := by decide +kernel
theorem dX6_car_91 : decode cX6_car 91 = .ok (.getfield 10, 3) := by decide +kernel
theorem dX6_car_94 : decode cX6_car 94 = .ok (.getfield 96, 3) := by decide +kernel
theorem dX6_car_97 : decode cX6_car 97 = .ok (.iload_n 1, 1) := by decide +kernel
theorem dX6_car_98 : decode cX6_car 98 = .ok (.iaload, 1) := by decide +kernel
theorem dX6_car_99 : decode cX6_car 99 = .ok (.ireturn, 1) := by decide +kernel
theorem dX6_car_100 : decode cX6_car 100 = .ok (.aload_n 0, 1) := by decide +kernel
theorem dX6_car_101 : decode cX6_car 101 = .ok (.getfield 10, 3) := by decide +kernel
theorem dX6_car_104 : decode cX6_car 104 = .ok (.iload_n 1, 1) := by decide +kernel
theorem dX6_car_105 : decode cX6_car 105 = .ok (.invokevirtual 99, 3) := by decide +kernel
theorem dX6_car_108 : decode cX6_car 108 = .ok (.ireturn, 1) := by decide +kernel
theorem dX6_car_109 : decode cX6_car 109 = .ok (.aload_n 0, 1) := by decide +kernel
theorem dX6_car_110 : decode cX6_car 110 = .ok (.getfield 10, 3) := by decide +kernel
theorem dX6_car_113 : decode cX6_car 113 = .ok (.iload_n 1, 1) := by decide +kernel
theorem dX6_car_114 : decode cX6_car 114 = .ok (.invokevirtual 102, 3) := by decide +kernel
theorem dX6_car_117 : decode cX6_car 117 = .ok (.ireturn, 1) := by decide +kernel
theorem dX6_car_118 : decode cX6_car 118 = .ok (.aload_n 0, 1) := by decide +kernel
theorem dX6_car_119 : decode cX6_car 119 = .ok (.getfield 10, 3) := by decide +kernel
theorem dX6_car_122 : decode cX6_car 122 = .ok (.getfield 87, 3) := by decide +kernel
theorem dX6_car_125 : decode cX6_car 125 = .ok (.iload_n 1, 1) := by decide +kernel
theorem dX6_car_126 : decode cX6_car 126 = .ok (.iaload, 1) := by decide +kernel
theorem dX6_car_127 : decode cX6_car 127 = .ok (.invokestatic 105, 3) := by decide +kernel
theorem dX6_car_130 : decode cX6_car 130 = .ok (.ireturn, 1) := by decide +kernel
theorem dX6_car_131 : decode cX6_car 131 = .ok (.aload_n 0, 1) := by decide +kernel
theorem dX6_car_132 : decode cX6_car 132 = .ok (.bipush (-2), 2) := by decide +kernel
theorem dX6_car_134 : decode cX6_car 134 = .ok (.invokevirtual 65, 3) := by decide +kernel
theorem dX6_car_137 : decode cX6_car 137 = .ok (.ireturn, 1) := by decide +kernel
theorem dX6_hurry_0 : decode cX6_hurry 0 = .ok (.aload_n 0, 1) := by decide +kernel
theorem dX6_hurry_1 : decode cX6_hurry 1 = .ok (.getfield 10, 3) := by decide +kernel
theorem dX6_hurry_4 : decode cX6_hurry 4 = .ok (.iload_n 1, 1) := by decide +kernel
theorem dX6_hurry_5 : decode cX6_hurry 5 = .ok (.invokevirtual 83, 3) := by decide +kernel
theorem dX6_hurry_8 : decode cX6_hurry 8 = .ok (.ifCond .ne 9, 3) := by decide +kernel
theorem dX6_hurry_11 : decode cX6_hurry 11 = .ok (.aload_n 0, 1) := by decide +kernel
theorem dX6_hurry_12 : decode cX6_hurry 12 = .ok (.iconst (-1), 1) := by decide +kernel
theorem dX6_hurry_13 : decode cX6_hurry 13 = .ok (.invokevirtual 65, 3) := by decide +kernel
theorem dX6_hurry_16 : decode cX6_hurry 16 = .ok (.ireturn, 1) := by decide +kernel
theorem dX6_hurry_17 : decode cX6_hurry 17 = .ok (.iload_n 2, 1) := by decide +kernel
theorem dX6_hurry_18 : decode cX6_hurry 18 = .ok (.ifCond .ge 10, 3) := by decide +kernel
theorem dX6_hurry_21 : decode cX6_hurry 21 = .ok (.aload_n 0, 1) := by decide +kernel
theorem dX6_hurry_22 : decode cX6_hurry 22 = .ok (.bipush (-4), 2) := by decide +kernel
theorem dX6_hurry_24 : decode cX6_hurry 24 = .ok (.invokevirtual 65, 3) := by decide +kernel
theorem dX6_hurry_27 : decode cX6_hurry 27 = .ok (.ireturn, 1) := by decide +kernel
theorem dX6_hurry_28 : decode cX6_hurry 28 = .ok (.iload_n 2, 1) := by decide +kernel
theorem dX6_hurry_29 : decode cX6_hurry 29 = .ok (.bipush 20, 2) := by decide +kernel
theorem dX6_hurry_31 : decode cX6_hurry 31 = .ok (.if_icmp .le 10, 3) := by decide +kernel
theorem dX6_hurry_34 : decode cX6_hurry 34 = .ok (.aload_n 0, 1) := by decide +kernel
theorem dX6_hurry_35 : decode cX6_hurry 35 = .ok (.bipush (-6), 2) := by decide +kernel
theorem dX6_hurry_37 : decode cX6_hurry 37 = .ok (.invokevirtual 65, 3) := by decide +kernel
theorem dX6_hurry_40 : decode cX6_hurry 40 = .ok (.ireturn, 1) := by decide +kernel
theorem dX6_hurry_41 : decode cX6_hurry 41 = .ok (.aload_n 0, 1) := by decide +kernel
theorem dX6_hurry_42 : decode cX6_hurry 42 = .ok (.getfield 10, 3) := by decide +kernel
theorem dX6_hurry_45 : decode cX6_hurry 45 = .ok (.getfield 96, 3) := by decide +kernel
theorem dX6_hurry_48 : decode cX6_hurry 48 = .ok (.iload_n 1, 1) := by decide +kernel
theorem dX6_hurry_49 : decode cX6_hurry 49 = .ok (.iaload, 1) := by decide +kernel
theorem dX6_hurry_50 : decode cX6_hurry 50 = .ok (.istore_n 3, 1) := by decide +kernel
theorem dX6_hurry_51 : decode cX6_hurry 51 = .ok (.aload_n 0, 1) := by decide +kernel
theorem dX6_hurry_52 : decode cX6_hurry 52 = .ok (.getfield 10, 3) := by decide +kernel
theorem dX6_hurry_55 : decode cX6_hurry 55 = .ok (.getfield 96, 3) := by decide +kernel
theorem dX6_hurry_58 : decode cX6_hurry 58 = .ok (.iload_n 1, 1) := by decide +kernel
theorem dX6_hurry_59 : decode cX6_hurry 59 = .ok (.iload_n 2, 1) := by decide +kernel
theorem dX6_hurry_60 : decode cX6_hurry 60 = .ok (.iastore, 1) := by decide +kernel
theorem dX6_hurry_61 : decode cX6_hurry 61 = .ok (.iload_n 3, 1) := by decide +kernel
theorem dX6_hurry_62 : decode cX6_hurry 62 = .ok (.ireturn, 1) := by decide +kernel
theorem dX6_goOver_0 : decode cX6_goOver 0 = .ok (.aload_n 0, 1) := by decide +kernel
theorem dX6_goOver_1 : decode cX6_goOver 1 = .ok (.getfield 10, 3) := by decide +kernel
theorem dX6_goOver_4 : decode cX6_goOver 4 = .ok (.iload_n 1, 1) := by decide +kernel
theorem dX6_goOver_5 : decode cX6_goOver 5 = .ok (.invokevirtual 83, 3) := by decide +kernel
theorem dX6_goOver_8 : decode cX6_goOver 8 = .ok (.ifCond .ne 9, 3) := by decide +kernel
theorem dX6_goOver_11 : decode cX6_goOver 11 = .ok (.aload_n 0, 1) := by decide +kernel
theorem dX6_goOver_12 : decode cX6_goOver 12 = .ok (.iconst (-1), 1) := by decide +kernel
theorem dX6_goOver_13 : decode cX6_goOver 13 = .ok (.invokevirtual 65, 3) := by decide +kernel
theorem dX6_goOver_16 : decode cX6_goOver 16 = .ok (.ireturn, 1) := by decide +kernel
theorem dX6_goOver_17 : decode cX6_goOver 17 = .ok (.aload_n 0, 1) := by decide +kernel
theorem dX6_goOver_18 : decode cX6_goOver 18 = .ok (.getfield 10, 3) := by decide +kernel
theorem dX6_goOver_21 : decode cX6_goOver 21 = .ok (.iload_n 1, 1) := by decide +kernel
theorem dX6_goOver_22 : decode cX6_goOver 22 = .ok (.invokevirtual 110, 3) := by decide +kernel
theorem dX6_goOver_25 : decode cX6_goOver 25 = .ok (.pop, 1) := by decide +kernel
theorem dX6_goOver_26 : decode cX6_goOver 26 = .ok (.aload_n 0, 1) := by decide +kernel
theorem dX6_goOver_27 : decode cX6_goOver 27 = .ok (.getfield 10, 3) := by decide +kernel
theorem dX6_goOver_30 : decode cX6_goOver 30 = .ok (.iload_n 1, 1) := by decide +kernel
theorem dX6_goOver_31 : decode cX6_goOver 31 = .ok (.invokevirtual 99, 3) := by decide +kernel
theorem dX6_goOver_34 : decode cX6_goOver 34 = .ok (.ireturn, 1) := by decide +kernel
theorem dX6_standFirst_0 : decode cX6_standFirst 0 = .ok (.aload_n 0, 1) := by decide +kernel
theorem dX6_standFirst_1 : decode cX6_standFirst 1 = .ok (.getfield 10, 3) := by decide +kernel
theorem dX6_standFirst_4 : decode cX6_standFirst 4 = .ok (.iload_n 1, 1) := by decide +kernel
theorem dX6_standFirst_5 : decode cX6_standFirst 5 = .ok (.invokevirtual 83, 3) := by decide +kernel
theorem dX6_standFirst_8 : decode cX6_standFirst 8 = .ok (.ifCond .ne 9, 3) := by decide +kernel
theorem dX6_standFirst_11 : decode cX6_standFirst 11 = .ok (.aload_n 0, 1) := by decide +kernel
theorem dX6_standFirst_12 : decode cX6_standFirst 12 = .ok (.iconst (-1), 1) := by decide +kernel
theorem dX6_standFirst_13 : decode cX6_standFirst 13 = .ok (.invokevirtual 65, 3) := by decide +kernel
theorem dX6_standFirst_16 : decode cX6_standFirst 16 = .ok (.ireturn, 1) := by decide +kernel
theorem dX6_standFirst_17 : decode cX6_standFirst 17 = .ok (.aload_n 0, 1) := by decide +kernel
theorem dX6_standFirst_18 : decode cX6_standFirst 18 = .ok (.getfield 10, 3) := by decide +kernel
theorem dX6_standFirst_21 : decode cX6_standFirst 21 = .ok (.iload_n 1, 1) := by decide +kernel
theorem dX6_standFirst_22 : decode cX6_standFirst 22 = .ok (.invokevirtual 99, 3) := by decide +kernel
theorem dX6_standFirst_25 : decode cX6_standFirst 25 = .ok (.istore_n 2, 1) := by decide +kernel
theorem dX6_standFirst_26 : decode cX6_standFirst 26 = .ok (.aload_n 0, 1) := by decide +kernel
theorem dX6_standFirst_27 : decode cX6_standFirst 27 = .ok (.getfield 10, 3) := by decide +kernel
theorem dX6_standFirst_30 : decode cX6_standFirst 30 = .ok (.iload_n 1, 1) := by decide +kernel
theorem dX6_standFirst_31 : decode cX6_standFirst 31 = .ok (.invokevirtual 113, 3) := by decide +kernel
theorem dX6_standFirst_34 : decode cX6_standFirst 34 = .ok (.pop, 1) := by decide +kernel
theorem dX6_standFirst_35 : decode cX6_standFirst 35 = .ok (.iload_n 2, 1) := by decide +kernel
theorem dX6_standFirst_36 : decode cX6_standFirst 36 = .ok (.ireturn, 1) := by decide +kernel
theorem dX6_set_0 : decode cX6_set 0 = .ok (.iload_n 1, 1) := by decide +kernel
theorem dX6_set_1 : decode cX6_set 1 = .ok (.ifCond .eq 15, 3) := by decide +kernel
theorem dX6_set_4 : decode cX6_set 4 = .ok (.iload_n 1, 1) := by decide +kernel
theorem dX6_set_5 : decode cX6_set 5 = .ok (.iconst 1, 1) := by decide +kernel
theorem dX6_set_6 : decode cX6_set 6 = .ok (.if_icmp .eq 10, 3) := by decide +kernel
theorem dX6_set_9 : decode cX6_set 9 = .ok (.aload_n 0, 1) := by decide +kernel
theorem dX6_set_10 : decode cX6_set 10 = .ok (.bipush (-2), 2) := by decide +kernel
theorem dX6_set_12 : decode cX6_set 12 = .ok (.invokevirtual 65, 3) := by decide +kernel
theorem dX6_set_15 : decode cX6_set 15 = .ok (.ireturn, 1) := by decide +kernel
theorem dX6_set_16 : decode cX6_set 16 = .ok (.iload_n 2, 1) := by decide +kernel
theorem dX6_set_17 : decode cX6_set 17 = .ok (.ifCond .ge 10, 3) := by decide +kernel
theorem dX6_set_20 : decode cX6_set 20 = .ok (.aload_n 0, 1) := by decide +kernel
theorem dX6_set_21 : decode cX6_set 21 = .ok (.bipush (-4), 2) := by decide +kernel
theorem dX6_set_23 : decode cX6_set 23 = .ok (.invokevirtual 65, 3) := by decide +kernel
theorem dX6_set_26 : decode cX6_set 26 = .ok (.ireturn, 1) := by decide +kernel
theorem dX6_set_27 : decode cX6_set 27 = .ok (.iload_n 1, 1) := by decide +kernel
theorem dX6_set_28 : decode cX6_set 28 = .ok (.ifCond .ne 13, 3) := by decide +kernel
theorem dX6_set_31 : decode cX6_set 31 = .ok (.aload_n 0, 1) := by decide +kernel
theorem dX6_set_32 : decode cX6_set 32 = .ok (.getfield 10, 3) := by decide +kernel
theorem dX6_set_35 : decode cX6_set 35 = .ok (.getfield 116, 3) := by decide +kernel
theorem dX6_set_38 : decode cX6_set 38 = .ok (.goto 10, 3) := by decide +kernel
theorem dX6_set_41 : decode cX6_set 41 = .ok (.aload_n 0, 1) := by decide +kernel
theorem dX6_set_42 : decode cX6_set 42 = .ok (.getfield 10, 3) := by decide +kernel
theorem dX6_set_45 : decode cX6_set 45 = .ok (.getfield 119, 3) := by decide +kernel
theorem dX6_set_48 : decode cX6_set 48 = .ok (.istore_n 3, 1) := by decide +kernel
theorem dX6_set_49 : decode cX6_set 49 = .ok (.iload_n 1, 1) := by decide +kernel
theorem dX6_set_50 : decode cX6_set 50 = .ok (.ifCond .ne 14, 3) := by decide +kernel
theorem dX6_set_53 : decode cX6_set 53 = .ok (.aload_n 0, 1) := by decide +kernel
theorem dX6_set_54 : decode cX6_set 54 = .ok (.getfield 10, 3) := by decide +kernel
theorem dX6_set_57 : decode cX6_set 57 = .ok (.iload_n 2, 1) := by decide +kernel
theorem dX6_set_58 : decode cX6_set 58 = .ok (.invokevirtual 122, 3) := by decide +kernel
theorem dX6_set_61 : decode cX6_set 61 = .ok (.goto 11, 3) := by decide +kernel
theorem dX6_set_64 : decode cX6_set 64 = .ok (.aload_n 0, 1) := by decide +kernel
theorem dX6_set_65 : decode cX6_set 65 = .ok (.getfield 10, 3) := by decide +kernel
theorem dX6_set_68 : decode cX6_set 68 = .ok (.iload_n 2, 1) := by decide +kernel
theorem dX6_set_69 : decode cX6_set 69 = .ok (.invokevirtual 125, 3) := by decide +kernel
theorem dX6_set_72 : decode cX6_set 72 = .ok (.istore 4, 2) := by decide +kernel
theorem dX6_set_74 : decode cX6_set 74 = .ok (.iload 4, 2) := by decide +kernel
theorem dX6_set_76 : decode cX6_set 76 = .ok (.ifCond .eq 7, 3) := by decide +kernel
theorem dX6_set_79 : decode cX6_set 79 = .ok (.iload_n 3, 1) := by decide +kernel
theorem dX6_set_80 : decode cX6_set 80 = .ok (.goto 9, 3) := by decide +kernel
theorem dX6_set_83 : decode cX6_set 83 = .ok (.aload_n 0, 1) := by decide +kernel
theorem dX6_set_84 : decode cX6_set 84 = .ok (.bipush (-6), 2) := by decide +kernel
theorem dX6_set_86 : decode cX6_set 86 = .ok (.invokevirtual 65, 3) := by decide +kernel
theorem dX6_set_89 : decode cX6_set 89 = .ok (.ireturn, 1) := by decide +kernel
theorem dX6_order_0 : decode cX6_order 0 = .ok (.aload_n 0, 1) := by decide +kernel
theorem dX6_order_1 : decode cX6_order 1 = .ok (.getfield 10, 3) := by decide +kernel
theorem dX6_order_4 : decode cX6_order 4 = .ok (.iload_n 1, 1) := by decide +kernel
theorem dX6_order_5 : decode cX6_order 5 = .ok (.invokevirtual 83, 3) := by decide +kernel
theorem dX6_order_8 : decode cX6_order 8 = .ok (.ifCond .ne 9, 3) := by decide +kernel
theorem dX6_order_11 : decode cX6_order 11 = .ok (.aload_n 0, 1) := by decide +kernel
theorem dX6_order_12 : decode cX6_order 12 = .ok (.iconst (-1), 1) := by decide +kernel
theorem dX6_order_13 : decode cX6_order 13 = .ok (.invokevirtual 65, 3) := by decide +kernel
theorem dX6_order_16 : decode cX6_order 16 = .ok (.ireturn, 1) := by decide +kernel
theorem dX6_order_17 : decode cX6_order 17 = .ok (.aload_n 0, 1) := by decide +kernel
theorem dX6_order_18 : decode cX6_order 18 = .ok (.getfield 47, 3) := by decide +kernel
theorem dX6_order_21 : decode cX6_order 21 = .ok (.aload_n 0, 1) := by decide +kernel
theorem dX6_order_22 : decode cX6_order 22 = .ok (.getfield 10, 3) := by decide +kernel
theorem dX6_order_25 : decode cX6_order 25 = .ok (.iconst 0, 1) := by decide +kernel
theorem dX6_order_26 : decode cX6_order 26 = .ok (.invokevirtual 128, 3) := by decide +kernel
theorem dX6_order_29 : decode cX6_order 29 = .ok (.aload_n 0, 1) := by decide +kernel
theorem dX6_order_30 : decode cX6_order 30 = .ok (.getfield 47, 3) := by decide +kernel
theorem dX6_order_33 : decode cX6_order 33 = .ok (.getfield 132, 3) := by decide +kernel
theorem dX6_order_36 : decode cX6_order 36 = .ok (.iload_n 1, 1) := by decide +kernel
theorem dX6_order_37 : decode cX6_order 37 = .ok (.iaload, 1) := by decide +kernel
theorem dX6_order_38 : decode cX6_order 38 = .ok (.ireturn, 1) := by decide +kernel
theorem dX6_of_0 : decode cX6_of 0 = .ok (.aload_n 0, 1) := by decide +kernel
theorem dX6_of_1 : decode cX6_of 1 = .ok (.getfield 10, 3) := by decide +kernel
theorem dX6_of_4 : decode cX6_of 4 = .ok (.iload_n 1, 1) := by decide +kernel
theorem dX6_of_5 : decode cX6_of 5 = .ok (.invokevirtual 83, 3) := by decide +kernel
theorem dX6_of_8 : decode cX6_of 8 = .ok (.ifCond .ne 9, 3) := by decide +kernel
theorem dX6_of_11 : decode cX6_of 11 = .ok (.aload_n 0, 1) := by decide +kernel
theorem dX6_of_12 : decode cX6_of 12 = .ok (.iconst (-1), 1) := by decide +kernel
theorem dX6_of_13 : decode cX6_of 13 = .ok (.invokevirtual 65, 3) := by decide +kernel
theorem dX6_of_16 : decode cX6_of 16 = .ok (.ireturn, 1) := by decide +kernel
theorem dX6_of_17 : decode cX6_of 17 = .ok (.iload_n 2, 1) := by decide +kernel
theorem dX6_of_18 : decode cX6_of 18 = .ok (.ifCond .eq 15, 3) := by decide +kernel
theorem dX6_of_21 : decode cX6_of 21 = .ok (.iload_n 2, 1) := by decide +kernel
theorem dX6_of_22 : decode cX6_of 22 = .ok (.iconst 1, 1) := by decide +kernel
theorem dX6_of_23 : decode cX6_of 23 = .ok (.if_icmp .eq 10, 3) := by decide +kernel
theorem dX6_of_26 : decode cX6_of 26 = .ok (.aload_n 0, 1) := by decide +kernel
theorem dX6_of_27 : decode cX6_of 27 = .ok (.bipush (-2), 2) := by decide +kernel
theorem dX6_of_29 : decode cX6_of 29 = .ok (.invokevirtual 65, 3) := by decide +kernel
theorem dX6_of_32 : decode cX6_of 32 = .ok (.ireturn, 1) := by decide +kernel
theorem dX6_of_33 : decode cX6_of 33 = .ok (.aload_n 0, 1) := by decide +kernel
theorem dX6_of_34 : decode cX6_of 34 = .ok (.getfield 47, 3) := by decide +kernel
theorem dX6_of_37 : decode cX6_of 37 = .ok (.aload_n 0, 1) := by decide +kernel
theorem dX6_of_38 : decode cX6_of 38 = .ok (.getfield 10, 3) := by decide +kernel
theorem dX6_of_41 : decode cX6_of 41 = .ok (.iconst 0, 1) := by decide +kernel
theorem dX6_of_42 : decode cX6_of 42 = .ok (.invokevirtual 128, 3) := by decide +kernel
theorem dX6_of_45 : decode cX6_of 45 = .ok (.iload_n 2, 1) := by decide +kernel
theorem dX6_of_46 : decode cX6_of 46 = .ok (.ifCond .ne 15, 3) := by decide +kernel
theorem dX6_of_49 : decode cX6_of 49 = .ok (.aload_n 0, 1) := by decide +kernel
theorem dX6_of_50 : decode cX6_of 50 = .ok (.getfield 47, 3) := by decide +kernel
theorem dX6_of_53 : decode cX6_of 53 = .ok (.getfield 135, 3) := by decide +kernel
theorem dX6_of_56 : decode cX6_of 56 = .ok (.iload_n 1, 1) := by decide +kernel
theorem dX6_of_57 : decode cX6_of 57 = .ok (.iaload, 1) := by decide +kernel
theorem dX6_of_58 : decode cX6_of 58 = .ok (.goto 12, 3) := by decide +kernel
theorem dX6_of_61 : decode cX6_of 61 = .ok (.aload_n 0, 1) := by decide +kernel
theorem dX6_of_62 : decode cX6_of 62 = .ok (.getfield 47, 3) := by decide +kernel
theorem dX6_of_65 : decode cX6_of 65 = .ok (.getfield 138, 3) := by decide +kernel
theorem dX6_of_68 : decode cX6_of 68 = .ok (.iload_n 1, 1) := by decide +kernel
theorem dX6_of_69 : decode cX6_of 69 = .ok (.iaload, 1) := by decide +kernel
theorem dX6_of_70 : decode cX6_of 70 = .ok (.ireturn, 1) := by decide +kernel
theorem dX6_sums_0 : decode cX6_sums 0 = .ok (.iload_n 1, 1) := by decide +kernel
theorem dX6_sums_1 : decode cX6_sums 1 = .ok (.ifCond .lt 8, 3) := by decide +kernel
theorem dX6_sums_4 : decode cX6_sums 4 = .ok (.iload_n 1, 1) := by decide +kernel
theorem dX6_sums_5 : decode cX6_sums 5 = .ok (.iconst 4, 1) := by decide +kernel
theorem dX6_sums_6 : decode cX6_sums 6 = .ok (.if_icmp .le 10, 3) := by decide +kernel
theorem dX6_sums_9 : decode cX6_sums 9 = .ok (.aload_n 0, 1) := by decide +kernel
theorem dX6_sums_10 : decode cX6_sums 10 = .ok (.bipush (-2), 2) := by decide +kernel
theorem dX6_sums_12 : decode cX6_sums 12 = .ok (.invokevirtual 65, 3) := by decide +kernel
theorem dX6_sums_15 : decode cX6_sums 15 = .ok (.ireturn, 1) := by decide +kernel
theorem dX6_sums_16 : decode cX6_sums 16 = .ok (.aload_n 0, 1) := by decide +kernel
theorem dX6_sums_17 : decode cX6_sums 17 = .ok (.getfield 47, 3) := by decide +kernel
theorem dX6_sums_20 : decode cX6_sums 20 = .ok (.aload_n 0, 1) := by decide +kernel
theorem dX6_sums_21 : decode cX6_sums 21 = .ok (.getfield 10, 3) := by decide +kernel
theorem dX6_sums_24 : decode cX6_sums 24 = .ok (.iconst 0, 1) := by decide +kernel
theorem dX6_sums_25 : decode cX6_sums 25 = .ok (.invokevirtual 128, 3) := by decide +kernel
theorem dX6_sums_28 : decode cX6_sums 28 = .ok (.iload_n 1, 1) := by decide +kernel
theorem dX6_sums_29 : decode cX6_sums 29 = .ok (.tableswitch 71 0 3 #[31, 39, 47, 59], 31) := by decide +kernel
theorem dX6_sums_60 : decode cX6_sums 60 = .ok (.aload_n 0, 1) := by decide +kernel
theorem dX6_sums_61 : decode cX6_sums 61 = .ok (.getfield 47, 3) := by decide +kernel
theorem dX6_sums_64 : decode cX6_sums 64 = .ok (.getfield 141, 3) := by decide +kernel
theorem dX6_sums_67 : decode cX6_sums 67 = .ok (.ireturn, 1) := by decide +kernel
theorem dX6_sums_68 : decode cX6_sums 68 = .ok (.aload_n 0, 1) := by decide +kernel
theorem dX6_sums_69 : decode cX6_sums 69 = .ok (.getfield 47, 3) := by decide +kernel
theorem dX6_sums_72 : decode cX6_sums 72 = .ok (.invokevirtual 144, 3) := by decide +kernel
theorem dX6_sums_75 : decode cX6_sums 75 = .ok (.ireturn, 1) := by decide +kernel
theorem dX6_sums_76 : decode cX6_sums 76 = .ok (.aload_n 0, 1) := by decide +kernel
theorem dX6_sums_77 : decode cX6_sums 77 = .ok (.getfield 47, 3) := by decide +kernel
theorem dX6_sums_80 : decode cX6_sums 80 = .ok (.aload_n 0, 1) := by decide +kernel
theorem dX6_sums_81 : decode cX6_sums 81 = .ok (.getfield 10, 3) := by decide +kernel
theorem dX6_sums_84 : decode cX6_sums 84 = .ok (.invokevirtual 148, 3) := by decide +kernel
theorem dX6_sums_87 : decode cX6_sums 87 = .ok (.ireturn, 1) := by decide +kernel
theorem dX6_sums_88 : decode cX6_sums 88 = .ok (.aload_n 0, 1) := by decide +kernel
theorem dX6_sums_89 : decode cX6_sums 89 = .ok (.getfield 47, 3) := by decide +kernel
theorem dX6_sums_92 : decode cX6_sums 92 = .ok (.aload_n 0, 1) := by decide +kernel
theorem dX6_sums_93 : decode cX6_sums 93 = .ok (.getfield 10, 3) := by decide +kernel
theorem dX6_sums_96 : decode cX6_sums 96 = .ok (.invokevirtual 152, 3) := by decide +kernel
theorem dX6_sums_99 : decode cX6_sums 99 = .ok (.ireturn, 1) := by decide +kernel
theorem dX6_sums_100 : decode cX6_sums 100 = .ok (.aload_n 0, 1) := by decide +kernel
theorem dX6_sums_101 : decode cX6_sums 101 = .ok (.getfield 47, 3) := by decide +kernel
theorem dX6_sums_104 : decode cX6_sums 104 = .ok (.aload_n 0, 1) := by decide +kernel
theorem dX6_sums_105 : decode cX6_sums 105 = .ok (.getfield 10, 3) := by decide +kernel
theorem dX6_sums_108 : decode cX6_sums 108 = .ok (.invokevirtual 155, 3) := by decide +kernel
theorem dX6_sums_111 : decode cX6_sums 111 = .ok (.ireturn, 1) := by decide +kernel
theorem dX6_queue_0 : decode cX6_queue 0 = .ok (.iload_n 1, 1) := by decide +kernel
theorem dX6_queue_1 : decode cX6_queue 1 = .ok (.ifCond .eq 14, 3) := by decide +kernel
theorem dX6_queue_4 : decode cX6_queue 4 = .ok (.iload_n 1, 1) := by decide +kernel
theorem dX6_queue_5 : decode cX6_queue 5 = .ok (.iconst 1, 1) := by decide +kernel
theorem dX6_queue_6 : decode cX6_queue 6 = .ok (.if_icmp .eq 9, 3) := by decide +kernel
theorem dX6_queue_9 : decode cX6_queue 9 = .ok (.aload_n 0, 1) := by decide +kernel
theorem dX6_queue_10 : decode cX6_queue 10 = .ok (.iconst (-1), 1) := by decide +kernel
theorem dX6_queue_11 : decode cX6_queue 11 = .ok (.invokevirtual 65, 3) := by decide +kernel
theorem dX6_queue_14 : decode cX6_queue 14 = .ok (.ireturn, 1) := by decide +kernel
theorem dX6_queue_15 : decode cX6_queue 15 = .ok (.iload_n 2, 1) := by decide +kernel
theorem dX6_queue_16 : decode cX6_queue 16 = .ok (.ifCond .ge 10, 3) := by decide +kernel
theorem dX6_queue_19 : decode cX6_queue 19 = .ok (.aload_n 0, 1) := by decide +kernel
theorem dX6_queue_20 : decode cX6_queue 20 = .ok (.bipush (-4), 2) := by decide +kernel
theorem dX6_queue_22 : decode cX6_queue 22 = .ok (.invokevirtual 65, 3) := by decide +kernel
theorem dX6_queue_25 : decode cX6_queue 25 = .ok (.ireturn, 1) := by decide +kernel
theorem dX6_queue_26 : decode cX6_queue 26 = .ok (.iload_n 2, 1) := by decide +kernel
theorem dX6_queue_27 : decode cX6_queue 27 = .ok (.aload_n 0, 1) := by decide +kernel
theorem dX6_queue_28 : decode cX6_queue 28 = .ok (.getfield 10, 3) := by decide +kernel
theorem dX6_queue_31 : decode cX6_queue 31 = .ok (.getfield 158, 3) := by decide +kernel
theorem dX6_queue_34 : decode cX6_queue 34 = .ok (.if_icmp .le 10, 3) := by decide +kernel
theorem dX6_queue_37 : decode cX6_queue 37 = .ok (.aload_n 0, 1) := by decide +kernel
theorem dX6_queue_38 : decode cX6_queue 38 = .ok (.bipush (-6), 2) := by decide +kernel
theorem dX6_queue_40 : decode cX6_queue 40 = .ok (.invokevirtual 65, 3) := by decide +kernel
theorem dX6_queue_43 : decode cX6_queue 43 = .ok (.ireturn, 1) := by decide +kernel
theorem dX6_queue_44 : decode cX6_queue 44 = .ok (.aload_n 0, 1) := by decide +kernel
theorem dX6_queue_45 : decode cX6_queue 45 = .ok (.getfield 47, 3) := by decide +kernel
theorem dX6_queue_48 : decode cX6_queue 48 = .ok (.aload_n 0, 1) := by decide +kernel
theorem dX6_queue_49 : decode cX6_queue 49 = .ok (.getfield 10, 3) := by decide +kernel
theorem dX6_queue_52 : decode cX6_queue 52 = .ok (.iconst 0, 1) := by decide +kernel
theorem dX6_queue_53 : decode cX6_queue 53 = .ok (.invokevirtual 128, 3) := by decide +kernel
theorem dX6_queue_56 : decode cX6_queue 56 = .ok (.aload_n 0, 1) := by decide +kernel
theorem dX6_queue_57 : decode cX6_queue 57 = .ok (.getfield 10, 3) := by decide +kernel
theorem dX6_queue_60 : decode cX6_queue 60 = .ok (.iload_n 1, 1) := by decide +kernel
theorem dX6_queue_61 : decode cX6_queue 61 = .ok (.invokevirtual 161, 3) := by decide +kernel
theorem dX6_queue_64 : decode cX6_queue 64 = .ok (.aload_n 0, 1) := by decide +kernel
theorem dX6_queue_65 : decode cX6_queue 65 = .ok (.getfield 47, 3) := by decide +kernel
theorem dX6_queue_68 : decode cX6_queue 68 = .ok (.aload_n 0, 1) := by decide +kernel
theorem dX6_queue_69 : decode cX6_queue 69 = .ok (.getfield 10, 3) := by decide +kernel
theorem dX6_queue_72 : decode cX6_queue 72 = .ok (.iload_n 1, 1) := by decide +kernel
theorem dX6_queue_73 : decode cX6_queue 73 = .ok (.iload_n 2, 1) := by decide +kernel
theorem dX6_queue_74 : decode cX6_queue 74 = .ok (.invokevirtual 164, 3) := by decide +kernel
theorem dX6_queue_77 : decode cX6_queue 77 = .ok (.isub, 1) := by decide +kernel
theorem dX6_queue_78 : decode cX6_queue 78 = .ok (.ireturn, 1) := by decide +kernel
theorem dX6_bestBoard_0 : decode cX6_bestBoard 0 = .ok (.aload_n 0, 1) := by decide +kernel
theorem dX6_bestBoard_1 : decode cX6_bestBoard 1 = .ok (.getfield 54, 3) := by decide +kernel
theorem dX6_bestBoard_4 : decode cX6_bestBoard 4 = .ok (.aload_n 0, 1) := by decide +kernel
theorem dX6_bestBoard_5 : decode cX6_bestBoard 5 = .ok (.getfield 10, 3) := by decide +kernel
theorem dX6_bestBoard_8 : decode cX6_bestBoard 8 = .ok (.invokevirtual 168, 3) := by decide +kernel
theorem dX6_bestBoard_11 : decode cX6_bestBoard 11 = .ok (.ireturn, 1) := by decide +kernel
theorem dX6_over_0 : decode cX6_over 0 = .ok (.iload_n 1, 1) := by decide +kernel
theorem dX6_over_1 : decode cX6_over 1 = .ok (.ifCond .eq 15, 3) := by decide +kernel
theorem dX6_over_4 : decode cX6_over 4 = .ok (.iload_n 1, 1) := by decide +kernel
theorem dX6_over_5 : decode cX6_over 5 = .ok (.iconst 1, 1) := by decide +kernel
theorem dX6_over_6 : decode cX6_over 6 = .ok (.if_icmp .eq 10, 3) := by decide +kernel
theorem dX6_over_9 : decode cX6_over 9 = .ok (.aload_n 0, 1) := by decide +kernel
theorem dX6_over_10 : decode cX6_over 10 = .ok (.bipush (-2), 2) := by decide +kernel
theorem dX6_over_12 : decode cX6_over 12 = .ok (.invokevirtual 65, 3) := by decide +kernel
theorem dX6_over_15 : decode cX6_over 15 = .ok (.ireturn, 1) := by decide +kernel
theorem dX6_over_16 : decode cX6_over 16 = .ok (.aload_n 0, 1) := by decide +kernel
theorem dX6_over_17 : decode cX6_over 17 = .ok (.getfield 54, 3) := by decide +kernel
theorem dX6_over_20 : decode cX6_over 20 = .ok (.aload_n 0, 1) := by decide +kernel
theorem dX6_over_21 : decode cX6_over 21 = .ok (.getfield 10, 3) := by decide +kernel
theorem dX6_over_24 : decode cX6_over 24 = .ok (.iconst 0, 1) := by decide +kernel
theorem dX6_over_25 : decode cX6_over 25 = .ok (.iload_n 1, 1) := by decide +kernel
theorem dX6_over_26 : decode cX6_over 26 = .ok (.iconst 1, 1) := by decide +kernel
theorem dX6_over_27 : decode cX6_over 27 = .ok (.if_icmp .ne 7, 3) := by decide +kernel
theorem dX6_over_30 : decode cX6_over 30 = .ok (.iconst 1, 1) := by decide +kernel
theorem dX6_over_31 : decode cX6_over 31 = .ok (.goto 4, 3) := by decide +kernel
theorem dX6_over_34 : decode cX6_over 34 = .ok (.iconst 0, 1) := by decide +kernel
theorem dX6_over_35 : decode cX6_over 35 = .ok (.invokevirtual 171, 3) := by decide +kernel
theorem dX6_over_38 : decode cX6_over 38 = .ok (.ireturn, 1) := by decide +kernel
theorem dX6_first_0 : decode cX6_first 0 = .ok (.iload_n 1, 1) := by decide +kernel
theorem dX6_first_1 : decode cX6_first 1 = .ok (.ifCond .eq 15, 3) := by decide +kernel
theorem dX6_first_4 : decode cX6_first 4 = .ok (.iload_n 1, 1) := by decide +kernel
theorem dX6_first_5 : decode cX6_first 5 = .ok (.iconst 1, 1) := by decide +kernel
theorem dX6_first_6 : decode cX6_first 6 = .ok (.if_icmp .eq 10, 3) := by decide +kernel
theorem dX6_first_9 : decode cX6_first 9 = .ok (.aload_n 0, 1) := by decide +kernel
theorem dX6_first_10 : decode cX6_first 10 = .ok (.bipush (-2), 2) := by decide +kernel
theorem dX6_first_12 : decode cX6_first 12 = .ok (.invokevirtual 65, 3) := by decide +kernel
theorem dX6_first_15 : decode cX6_first 15 = .ok (.ireturn, 1) := by decide +kernel
theorem dX6_first_16 : decode cX6_first 16 = .ok (.aload_n 0, 1) := by decide +kernel
theorem dX6_first_17 : decode cX6_first 17 = .ok (.getfield 54, 3) := by decide +kernel
theorem dX6_first_20 : decode cX6_first 20 = .ok (.aload_n 0, 1) := by decide +kernel
theorem dX6_first_21 : decode cX6_first 21 = .ok (.getfield 10, 3) := by decide +kernel
theorem dX6_first_24 : decode cX6_first 24 = .ok (.iconst 1, 1) := by decide +kernel
theorem dX6_first_25 : decode cX6_first 25 = .ok (.iload_n 1, 1) := by decide +kernel
theorem dX6_first_26 : decode cX6_first 26 = .ok (.iconst 1, 1) := by decide +kernel
theorem dX6_first_27 : decode cX6_first 27 = .ok (.if_icmp .ne 7, 3) := by decide +kernel
theorem dX6_first_30 : decode cX6_first 30 = .ok (.iconst 1, 1) := by decide +kernel
theorem dX6_first_31 : decode cX6_first 31 = .ok (.goto 4, 3) := by decide +kernel
theorem dX6_first_34 : decode cX6_first 34 = .ok (.iconst 0, 1) := by decide +kernel
theorem dX6_first_35 : decode cX6_first 35 = .ok (.invokevirtual 171, 3) := by decide +kernel
theorem dX6_first_38 : decode cX6_first 38 = .ok (.ireturn, 1) := by decide +kernel
theorem dX6_lets_0 : decode cX6_lets 0 = .ok (.aload_n 0, 1) := by decide +kernel
theorem dX6_lets_1 : decode cX6_lets 1 = .ok (.getfield 54, 3) := by decide +kernel
theorem dX6_lets_4 : decode cX6_lets 4 = .ok (.aload_n 0, 1) := by decide +kernel
theorem dX6_lets_5 : decode cX6_lets 5 = .ok (.getfield 10, 3) := by decide +kernel
theorem dX6_lets_8 : decode cX6_lets 8 = .ok (.invokevirtual 175, 3) := by decide +kernel
theorem dX6_lets_11 : decode cX6_lets 11 = .ok (.ireturn, 1) := by decide +kernel
theorem dX6_spoil_0 : decode cX6_spoil 0 = .ok (.iload_n 1, 1) := by decide +kernel
theorem dX6_spoil_1 : decode cX6_spoil 1 = .ok (.ifCond .eq 15, 3) := by decide +kernel
theorem dX6_spoil_4 : decode cX6_spoil 4 = .ok (.iload_n 1, 1) := by decide +kernel
theorem dX6_spoil_5 : decode cX6_spoil 5 = .ok (.iconst 1, 1) := by decide +kernel
theorem dX6_spoil_6 : decode cX6_spoil 6 = .ok (.if_icmp .eq 10, 3) := by decide +kernel
theorem dX6_spoil_9 : decode cX6_spoil 9 = .ok (.aload_n 0, 1) := by decide +kernel
theorem dX6_spoil_10 : decode cX6_spoil 10 = .ok (.bipush (-2), 2) := by decide +kernel
theorem dX6_spoil_12 : decode cX6_spoil 12 = .ok (.invokevirtual 65, 3) := by decide +kernel
theorem dX6_spoil_15 : decode cX6_spoil 15 = .ok (.ireturn, 1) := by decide +kernel
theorem dX6_spoil_16 : decode cX6_spoil 16 = .ok (.aload_n 0, 1) := by decide +kernel
theorem dX6_spoil_17 : decode cX6_spoil 17 = .ok (.getfield 54, 3) := by decide +kernel
theorem dX6_spoil_20 : decode cX6_spoil 20 = .ok (.aload_n 0, 1) := by decide +kernel
theorem dX6_spoil_21 : decode cX6_spoil 21 = .ok (.getfield 10, 3) := by decide +kernel
theorem dX6_spoil_24 : decode cX6_spoil 24 = .ok (.iconst 0, 1) := by decide +kernel
theorem dX6_spoil_25 : decode cX6_spoil 25 = .ok (.invokevirtual 178, 3) := by decide +kernel
theorem dX6_spoil_28 : decode cX6_spoil 28 = .ok (.iload_n 1, 1) := by decide +kernel
theorem dX6_spoil_29 : decode cX6_spoil 29 = .ok (.invokestatic 182, 3) := by decide +kernel
theorem dX6_spoil_32 : decode cX6_spoil 32 = .ok (.ireturn, 1) := by decide +kernel
theorem dX6_mend_0 : decode cX6_mend 0 = .ok (.iload_n 1, 1) := by decide +kernel
theorem dX6_mend_1 : decode cX6_mend 1 = .ok (.ifCond .eq 15, 3) := by decide +kernel
theorem dX6_mend_4 : decode cX6_mend 4 = .ok (.iload_n 1, 1) := by decide +kernel
theorem dX6_mend_5 : decode cX6_mend 5 = .ok (.iconst 1, 1) := by decide +kernel
theorem dX6_mend_6 : decode cX6_mend 6 = .ok (.if_icmp .eq 10, 3) := by decide +kernel
theorem dX6_mend_9 : decode cX6_mend 9 = .ok (.aload_n 0, 1) := by decide +kernel
theorem dX6_mend_10 : decode cX6_mend 10 = .ok (.bipush (-2), 2) := by decide +kernel
theorem dX6_mend_12 : decode cX6_mend 12 = .ok (.invokevirtual 65, 3) := by decide +kernel
theorem dX6_mend_15 : decode cX6_mend 15 = .ok (.ireturn, 1) := by decide +kernel
theorem dX6_mend_16 : decode cX6_mend 16 = .ok (.aload_n 0, 1) := by decide +kernel
theorem dX6_mend_17 : decode cX6_mend 17 = .ok (.getfield 54, 3) := by decide +kernel
theorem dX6_mend_20 : decode cX6_mend 20 = .ok (.aload_n 0, 1) := by decide +kernel
theorem dX6_mend_21 : decode cX6_mend 21 = .ok (.getfield 10, 3) := by decide +kernel
theorem dX6_mend_24 : decode cX6_mend 24 = .ok (.iconst 1, 1) := by decide +kernel
theorem dX6_mend_25 : decode cX6_mend 25 = .ok (.invokevirtual 178, 3) := by decide +kernel
theorem dX6_mend_28 : decode cX6_mend 28 = .ok (.iload_n 1, 1) := by decide +kernel
theorem dX6_mend_29 : decode cX6_mend 29 = .ok (.invokestatic 182, 3) := by decide +kernel
theorem dX6_mend_32 : decode cX6_mend 32 = .ok (.ireturn, 1) := by decide +kernel
theorem dX6_loses_0 : decode cX6_loses 0 = .ok (.aload_n 0, 1) := by decide +kernel
theorem dX6_loses_1 : decode cX6_loses 1 = .ok (.getfield 10, 3) := by decide +kernel
theorem dX6_loses_4 : decode cX6_loses 4 = .ok (.iload_n 1, 1) := by decide +kernel
theorem dX6_loses_5 : decode cX6_loses 5 = .ok (.iload_n 2, 1) := by decide +kernel
theorem dX6_loses_6 : decode cX6_loses 6 = .ok (.invokevirtual 186, 3) := by decide +kernel
theorem dX6_loses_9 : decode cX6_loses 9 = .ok (.ifCond .ne 12, 3) := by decide +kernel
theorem dX6_loses_12 : decode cX6_loses 12 = .ok (.ldc 190, 2) := by decide +kernel
theorem dX6_loses_14 : decode cX6_loses 14 = .ok (.aload_n 0, 1) := by decide +kernel
theorem dX6_loses_15 : decode cX6_loses 15 = .ok (.iconst (-1), 1) := by decide +kernel
theorem dX6_loses_16 : decode cX6_loses 16 = .ok (.invokevirtual 65, 3) := by decide +kernel
theorem dX6_loses_19 : decode cX6_loses 19 = .ok (.isub, 1) := by decide +kernel
theorem dX6_loses_20 : decode cX6_loses 20 = .ok (.ireturn, 1) := by decide +kernel
theorem dX6_loses_21 : decode cX6_loses 21 = .ok (.aload_n 0, 1) := by decide +kernel
theorem dX6_loses_22 : decode cX6_loses 22 = .ok (.getfield 61, 3) := by decide +kernel
theorem dX6_loses_25 : decode cX6_loses 25 = .ok (.aload_n 0, 1) := by decide +kernel
theorem dX6_loses_26 : decode cX6_loses 26 = .ok (.getfield 10, 3) := by decide +kernel
theorem dX6_loses_29 : decode cX6_loses 29 = .ok (.iload_n 1, 1) := by decide +kernel
theorem dX6_loses_30 : decode cX6_loses 30 = .ok (.iload_n 2, 1) := by decide +kernel
theorem dX6_loses_31 : decode cX6_loses 31 = .ok (.invokevirtual 191, 3) := by decide +kernel
theorem dX6_loses_34 : decode cX6_loses 34 = .ok (.ireturn, 1) := by decide +kernel
theorem dX6_byWhom_0 : decode cX6_byWhom 0 = .ok (.aload_n 0, 1) := by decide +kernel
theorem dX6_byWhom_1 : decode cX6_byWhom 1 = .ok (.getfield 10, 3) := by decide +kernel
theorem dX6_byWhom_4 : decode cX6_byWhom 4 = .ok (.iload_n 1, 1) := by decide +kernel
theorem dX6_byWhom_5 : decode cX6_byWhom 5 = .ok (.invokevirtual 83, 3) := by decide +kernel
theorem dX6_byWhom_8 : decode cX6_byWhom 8 = .ok (.ifCond .ne 9, 3) := by decide +kernel
theorem dX6_byWhom_11 : decode cX6_byWhom 11 = .ok (.aload_n 0, 1) := by decide +kernel
theorem dX6_byWhom_12 : decode cX6_byWhom 12 = .ok (.iconst (-1), 1) := by decide +kernel
theorem dX6_byWhom_13 : decode cX6_byWhom 13 = .ok (.invokevirtual 65, 3) := by decide +kernel
theorem dX6_byWhom_16 : decode cX6_byWhom 16 = .ok (.ireturn, 1) := by decide +kernel
theorem dX6_byWhom_17 : decode cX6_byWhom 17 = .ok (.aload_n 0, 1) := by decide +kernel
theorem dX6_byWhom_18 : decode cX6_byWhom 18 = .ok (.getfield 61, 3) := by decide +kernel
theorem dX6_byWhom_21 : decode cX6_byWhom 21 = .ok (.aload_n 0, 1) := by decide +kernel
theorem dX6_byWhom_22 : decode cX6_byWhom 22 = .ok (.getfield 10, 3) := by decide +kernel
theorem dX6_byWhom_25 : decode cX6_byWhom 25 = .ok (.iload_n 1, 1) := by decide +kernel
theorem dX6_byWhom_26 : decode cX6_byWhom 26 = .ok (.invokevirtual 194, 3) := by decide +kernel
theorem dX6_byWhom_29 : decode cX6_byWhom 29 = .ok (.ireturn, 1) := by decide +kernel
theorem dX6_two_0 : decode cX6_two 0 = .ok (.aload_n 0, 1) := by decide +kernel
theorem dX6_two_1 : decode cX6_two 1 = .ok (.getfield 10, 3) := by decide +kernel
theorem dX6_two_4 : decode cX6_two 4 = .ok (.iload_n 1, 1) := by decide +kernel
theorem dX6_two_5 : decode cX6_two 5 = .ok (.iload_n 2, 1) := by decide +kernel
theorem dX6_two_6 : decode cX6_two 6 = .ok (.invokevirtual 186, 3) := by decide +kernel
theorem dX6_two_9 : decode cX6_two 9 = .ok (.ifCond .ne 9, 3) := by decide +kernel
theorem dX6_two_12 : decode cX6_two 12 = .ok (.aload_n 0, 1) := by decide +kernel
theorem dX6_two_13 : decode cX6_two 13 = .ok (.iconst (-1), 1) := by decide +kernel
theorem dX6_two_14 : decode cX6_two 14 = .ok (.invokevirtual 65, 3) := by decide +kernel
theorem dX6_two_17 : decode cX6_two 17 = .ok (.ireturn, 1) := by decide +kernel
theorem dX6_two_18 : decode cX6_two 18 = .ok (.aload_n 0, 1) := by decide +kernel
theorem dX6_two_19 : decode cX6_two 19 = .ok (.getfield 61, 3) := by decide +kernel
theorem dX6_two_22 : decode cX6_two 22 = .ok (.aload_n 0, 1) := by decide +kernel
theorem dX6_two_23 : decode cX6_two 23 = .ok (.getfield 10, 3) := by decide +kernel
theorem dX6_two_26 : decode cX6_two 26 = .ok (.iload_n 1, 1) := by decide +kernel
theorem dX6_two_27 : decode cX6_two 27 = .ok (.iload_n 2, 1) := by decide +kernel
theorem dX6_two_28 : decode cX6_two 28 = .ok (.invokevirtual 198, 3) := by decide +kernel
theorem dX6_two_31 : decode cX6_two 31 = .ok (.ireturn, 1) := by decide +kernel
theorem dX6_fair_0 : decode cX6_fair 0 = .ok (.aload_n 0, 1) := by decide +kernel
theorem dX6_fair_1 : decode cX6_fair 1 = .ok (.getfield 47, 3) := by decide +kernel
theorem dX6_fair_4 : decode cX6_fair 4 = .ok (.aload_n 0, 1) := by decide +kernel
theorem dX6_fair_5 : decode cX6_fair 5 = .ok (.getfield 10, 3) := by decide +kernel
theorem dX6_fair_8 : decode cX6_fair 8 = .ok (.iconst 0, 1) := by decide +kernel
theorem dX6_fair_9 : decode cX6_fair 9 = .ok (.invokevirtual 128, 3) := by decide +kernel
theorem dX6_fair_12 : decode cX6_fair 12 = .ok (.iconst 0, 1) := by decide +kernel
theorem dX6_fair_13 : decode cX6_fair 13 = .ok (.istore_n 1, 1) := by decide +kernel
theorem dX6_fair_14 : decode cX6_fair 14 = .ok (.iconst 0, 1) := by decide +kernel
theorem dX6_fair_15 : decode cX6_fair 15 = .ok (.istore_n 2, 1) := by decide +kernel
theorem dX6_fair_16 : decode cX6_fair 16 = .ok (.iload_n 2, 1) := by decide +kernel
theorem dX6_fair_17 : decode cX6_fair 17 = .ok (.aload_n 0, 1) := by decide +kernel
theorem dX6_fair_18 : decode cX6_fair 18 = .ok (.getfield 10, 3) := by decide +kernel
theorem dX6_fair_21 : decode cX6_fair 21 = .ok (.getfield 158, 3) := by decide +kernel
theorem dX6_fair_24 : decode cX6_fair 24 = .ok (.if_icmp .ge 20, 3) := by decide +kernel
theorem dX6_fair_27 : decode cX6_fair 27 = .ok (.iload_n 1, 1) := by decide +kernel
theorem dX6_fair_28 : decode cX6_fair 28 = .ok (.aload_n 0, 1) := by decide +kernel
theorem dX6_fair_29 : decode cX6_fair 29 = .ok (.getfield 47, 3) := by decide +kernel
theorem dX6_fair_32 : decode cX6_fair 32 = .ok (.iload_n 2, 1) := by decide +kernel
theorem dX6_fair_33 : decode cX6_fair 33 = .ok (.invokevirtual 201, 3) := by decide +kernel
theorem dX6_fair_36 : decode cX6_fair 36 = .ok (.iadd, 1) := by decide +kernel
theorem dX6_fair_37 : decode cX6_fair 37 = .ok (.istore_n 1, 1) := by decide +kernel
theorem dX6_fair_38 : decode cX6_fair 38 = .ok (.iinc 2 1, 3) := by decide +kernel
theorem dX6_fair_41 : decode cX6_fair 41 = .ok (.goto (-25), 3) := by decide +kernel
theorem dX6_fair_44 : decode cX6_fair 44 = .ok (.iload_n 1, 1) := by decide +kernel
theorem dX6_fair_45 : decode cX6_fair 45 = .ok (.ireturn, 1) := by decide +kernel
theorem dX6_lucky_0 : decode cX6_lucky 0 = .ok (.aload_n 0, 1) := by decide +kernel
theorem dX6_lucky_1 : decode cX6_lucky 1 = .ok (.getfield 47, 3) := by decide +kernel
theorem dX6_lucky_4 : decode cX6_lucky 4 = .ok (.aload_n 0, 1) := by decide +kernel
theorem dX6_lucky_5 : decode cX6_lucky 5 = .ok (.getfield 10, 3) := by decide +kernel
theorem dX6_lucky_8 : decode cX6_lucky 8 = .ok (.iconst 0, 1) := by decide +kernel
theorem dX6_lucky_9 : decode cX6_lucky 9 = .ok (.invokevirtual 128, 3) := by decide +kernel
theorem dX6_lucky_12 : decode cX6_lucky 12 = .ok (.bipush (-9), 2) := by decide +kernel
theorem dX6_lucky_14 : decode cX6_lucky 14 = .ok (.istore_n 1, 1) := by decide +kernel
theorem dX6_lucky_15 : decode cX6_lucky 15 = .ok (.iconst 0, 1) := by decide +kernel
theorem dX6_lucky_16 : decode cX6_lucky 16 = .ok (.istore_n 2, 1) := by decide +kernel
theorem dX6_lucky_17 : decode cX6_lucky 17 = .ok (.iconst 0, 1) := by decide +kernel
theorem dX6_lucky_18 : decode cX6_lucky 18 = .ok (.istore_n 3, 1) := by decide +kernel
theorem dX6_lucky_19 : decode cX6_lucky 19 = .ok (.iload_n 3, 1) := by decide +kernel
theorem dX6_lucky_20 : decode cX6_lucky 20 = .ok (.aload_n 0, 1) := by decide +kernel
theorem dX6_lucky_21 : decode cX6_lucky 21 = .ok (.getfield 10, 3) := by decide +kernel
theorem dX6_lucky_24 : decode cX6_lucky 24 = .ok (.getfield 158, 3) := by decide +kernel
theorem dX6_lucky_27 : decode cX6_lucky 27 = .ok (.if_icmp .ge 30, 3) := by decide +kernel
theorem dX6_lucky_30 : decode cX6_lucky 30 = .ok (.aload_n 0, 1) := by decide +kernel
theorem dX6_lucky_31 : decode cX6_lucky 31 = .ok (.getfield 47, 3) := by decide +kernel
theorem dX6_lucky_34 : decode cX6_lucky 34 = .ok (.iload_n 3, 1) := by decide +kernel
theorem dX6_lucky_35 : decode cX6_lucky 35 = .ok (.invokevirtual 201, 3) := by decide +kernel
theorem dX6_lucky_38 : decode cX6_lucky 38 = .ok (.istore 4, 2) := by decide +kernel
theorem dX6_lucky_40 : decode cX6_lucky 40 = .ok (.iload 4, 2) := by decide +kernel
theorem dX6_lucky_42 : decode cX6_lucky 42 = .ok (.iload_n 2, 1) := by decide +kernel
theorem dX6_lucky_43 : decode cX6_lucky 43 = .ok (.if_icmp .le 8, 3) := by decide +kernel
theorem dX6_lucky_46 : decode cX6_lucky 46 = .ok (.iload 4, 2) := by decide +kernel
theorem dX6_lucky_48 : decode cX6_lucky 48 = .ok (.istore_n 2, 1) := by decide +kernel
theorem dX6_lucky_49 : decode cX6_lucky 49 = .ok (.iload_n 3, 1) := by decide +kernel
theorem dX6_lucky_50 : decode cX6_lucky 50 = .ok (.istore_n 1, 1) := by decide +kernel
theorem dX6_lucky_51 : decode cX6_lucky 51 = .ok (.iinc 3 1, 3) := by decide +kernel
theorem dX6_lucky_54 : decode cX6_lucky 54 = .ok (.goto (-35), 3) := by decide +kernel
theorem dX6_lucky_57 : decode cX6_lucky 57 = .ok (.iload_n 1, 1) := by decide +kernel
theorem dX6_lucky_58 : decode cX6_lucky 58 = .ok (.ireturn, 1) := by decide +kernel
theorem dX6_away_0 : decode cX6_away 0 = .ok (.aload_n 0, 1) := by decide +kernel
theorem dX6_away_1 : decode cX6_away 1 = .ok (.getfield 54, 3) := by decide +kernel
theorem dX6_away_4 : decode cX6_away 4 = .ok (.aload_n 0, 1) := by decide +kernel
theorem dX6_away_5 : decode cX6_away 5 = .ok (.getfield 10, 3) := by decide +kernel
theorem dX6_away_8 : decode cX6_away 8 = .ok (.invokevirtual 204, 3) := by decide +kernel
theorem dX6_away_11 : decode cX6_away 11 = .ok (.ireturn, 1) := by decide +kernel
theorem dX6_wider_0 : decode cX6_wider 0 = .ok (.iconst 0, 1) := by decide +kernel
theorem dX6_wider_1 : decode cX6_wider 1 = .ok (.istore_n 1, 1) := by decide +kernel
theorem dX6_wider_2 : decode cX6_wider 2 = .ok (.iconst 0, 1) := by decide +kernel
theorem dX6_wider_3 : decode cX6_wider 3 = .ok (.istore_n 2, 1) := by decide +kernel
theorem dX6_wider_4 : decode cX6_wider 4 = .ok (.iload_n 2, 1) := by decide +kernel
theorem dX6_wider_5 : decode cX6_wider 5 = .ok (.aload_n 0, 1) := by decide +kernel
theorem dX6_wider_6 : decode cX6_wider 6 = .ok (.getfield 10, 3) := by decide +kernel
theorem dX6_wider_9 : decode cX6_wider 9 = .ok (.getfield 158, 3) := by decide +kernel
theorem dX6_wider_12 : decode cX6_wider 12 = .ok (.if_icmp .ge 34, 3) := by decide +kernel
theorem dX6_wider_15 : decode cX6_wider 15 = .ok (.aload_n 0, 1) := by decide +kernel
theorem dX6_wider_16 : decode cX6_wider 16 = .ok (.getfield 10, 3) := by decide +kernel
theorem dX6_wider_19 : decode cX6_wider 19 = .ok (.getfield 87, 3) := by decide +kernel
theorem dX6_wider_22 : decode cX6_wider 22 = .ok (.iload_n 2, 1) := by decide +kernel
theorem dX6_wider_23 : decode cX6_wider 23 = .ok (.iaload, 1) := by decide +kernel
theorem dX6_wider_24 : decode cX6_wider 24 = .ok (.invokestatic 105, 3) := by decide +kernel
theorem dX6_wider_27 : decode cX6_wider 27 = .ok (.istore_n 3, 1) := by decide +kernel
theorem dX6_wider_28 : decode cX6_wider 28 = .ok (.iload_n 1, 1) := by decide +kernel
theorem dX6_wider_29 : decode cX6_wider 29 = .ok (.iload_n 3, 1) := by decide +kernel
theorem dX6_wider_30 : decode cX6_wider 30 = .ok (.iconst 1, 1) := by decide +kernel
theorem dX6_wider_31 : decode cX6_wider 31 = .ok (.iload_n 3, 1) := by decide +kernel
theorem dX6_wider_32 : decode cX6_wider 32 = .ok (.iconst 1, 1) := by decide +kernel
theorem dX6_wider_33 : decode cX6_wider 33 = .ok (.isub, 1) := by decide +kernel
theorem dX6_wider_34 : decode cX6_wider 34 = .ok (.invokestatic 207, 3) := by decide +kernel
theorem dX6_wider_37 : decode cX6_wider 37 = .ok (.isub, 1) := by decide +kernel
theorem dX6_wider_38 : decode cX6_wider 38 = .ok (.iadd, 1) := by decide +kernel
theorem dX6_wider_39 : decode cX6_wider 39 = .ok (.istore_n 1, 1) := by decide +kernel
theorem dX6_wider_40 : decode cX6_wider 40 = .ok (.iinc 2 1, 3) := by decide +kernel
theorem dX6_wider_43 : decode cX6_wider 43 = .ok (.goto (-39), 3) := by decide +kernel
theorem dX6_wider_46 : decode cX6_wider 46 = .ok (.iload_n 1, 1) := by decide +kernel
theorem dX6_wider_47 : decode cX6_wider 47 = .ok (.ireturn, 1) := by decide +kernel
theorem dX6_gap_0 : decode cX6_gap 0 = .ok (.iload_n 1, 1) := by decide +kernel
theorem dX6_gap_1 : decode cX6_gap 1 = .ok (.ifCond .eq 15, 3) := by decide +kernel
theorem dX6_gap_4 : decode cX6_gap 4 = .ok (.iload_n 1, 1) := by decide +kernel
theorem dX6_gap_5 : decode cX6_gap 5 = .ok (.iconst 1, 1) := by decide +kernel
theorem dX6_gap_6 : decode cX6_gap 6 = .ok (.if_icmp .eq 10, 3) := by decide +kernel
theorem dX6_gap_9 : decode cX6_gap 9 = .ok (.aload_n 0, 1) := by decide +kernel
theorem dX6_gap_10 : decode cX6_gap 10 = .ok (.bipush (-2), 2) := by decide +kernel
theorem dX6_gap_12 : decode cX6_gap 12 = .ok (.invokevirtual 65, 3) := by decide +kernel
theorem dX6_gap_15 : decode cX6_gap 15 = .ok (.ireturn, 1) := by decide +kernel
theorem dX6_gap_16 : decode cX6_gap 16 = .ok (.aload_n 0, 1) := by decide +kernel
theorem dX6_gap_17 : decode cX6_gap 17 = .ok (.getfield 47, 3) := by decide +kernel
theorem dX6_gap_20 : decode cX6_gap 20 = .ok (.aload_n 0, 1) := by decide +kernel
theorem dX6_gap_21 : decode cX6_gap 21 = .ok (.getfield 10, 3) := by decide +kernel
theorem dX6_gap_24 : decode cX6_gap 24 = .ok (.iconst 0, 1) := by decide +kernel
theorem dX6_gap_25 : decode cX6_gap 25 = .ok (.invokevirtual 128, 3) := by decide +kernel
theorem dX6_gap_28 : decode cX6_gap 28 = .ok (.iconst 0, 1) := by decide +kernel
theorem dX6_gap_29 : decode cX6_gap 29 = .ok (.istore_n 2, 1) := by decide +kernel
theorem dX6_gap_30 : decode cX6_gap 30 = .ok (.bipush (-9), 2) := by decide +kernel
theorem dX6_gap_32 : decode cX6_gap 32 = .ok (.istore_n 3, 1) := by decide +kernel
theorem dX6_gap_33 : decode cX6_gap 33 = .ok (.iconst 0, 1) := by decide +kernel
theorem dX6_gap_34 : decode cX6_gap 34 = .ok (.istore 4, 2) := by decide +kernel
theorem dX6_gap_36 : decode cX6_gap 36 = .ok (.iload 4, 2) := by decide +kernel
theorem dX6_gap_38 : decode cX6_gap 38 = .ok (.iconst 1, 1) := by decide +kernel
theorem dX6_gap_39 : decode cX6_gap 39 = .ok (.iadd, 1) := by decide +kernel
theorem dX6_gap_40 : decode cX6_gap 40 = .ok (.aload_n 0, 1) := by decide +kernel
theorem dX6_gap_41 : decode cX6_gap 41 = .ok (.getfield 47, 3) := by decide +kernel
theorem dX6_gap_44 : decode cX6_gap 44 = .ok (.getfield 212, 3) := by decide +kernel
theorem dX6_gap_47 : decode cX6_gap 47 = .ok (.if_icmp .ge 50, 3) := by decide +kernel
theorem dX6_gap_50 : decode cX6_gap 50 = .ok (.aload_n 0, 1) := by decide +kernel
theorem dX6_gap_51 : decode cX6_gap 51 = .ok (.getfield 47, 3) := by decide +kernel
theorem dX6_gap_54 : decode cX6_gap 54 = .ok (.iload 4, 2) := by decide +kernel
theorem dX6_gap_56 : decode cX6_gap 56 = .ok (.iconst 1, 1) := by decide +kernel
theorem dX6_gap_57 : decode cX6_gap 57 = .ok (.iadd, 1) := by decide +kernel
theorem dX6_gap_58 : decode cX6_gap 58 = .ok (.invokevirtual 215, 3) := by decide +kernel
theorem dX6_gap_61 : decode cX6_gap 61 = .ok (.aload_n 0, 1) := by decide +kernel
theorem dX6_gap_62 : decode cX6_gap 62 = .ok (.getfield 47, 3) := by decide +kernel
theorem dX6_gap_65 : decode cX6_gap 65 = .ok (.iload 4, 2) := by decide +kernel
theorem dX6_gap_67 : decode cX6_gap 67 = .ok (.invokevirtual 215, 3) := by decide +kernel
theorem dX6_gap_70 : decode cX6_gap 70 = .ok (.isub, 1) := by decide +kernel
theorem dX6_gap_71 : decode cX6_gap 71 = .ok (.istore 5, 2) := by decide +kernel
theorem dX6_gap_73 : decode cX6_gap 73 = .ok (.iload_n 3, 1) := by decide +kernel
theorem dX6_gap_74 : decode cX6_gap 74 = .ok (.bipush (-9), 2) := by decide +kernel
theorem dX6_gap_76 : decode cX6_gap 76 = .ok (.if_icmp .eq 9, 3) := by decide +kernel
theorem dX6_gap_79 : decode cX6_gap 79 = .ok (.iload 5, 2) := by decide +kernel
theorem dX6_gap_81 : decode cX6_gap 81 = .ok (.iload_n 2, 1) := by decide +kernel
theorem dX6_gap_82 : decode cX6_gap 82 = .ok (.if_icmp .le 9, 3) := by decide +kernel
theorem dX6_gap_85 : decode cX6_gap 85 = .ok (.iload 5, 2) := by decide +kernel
theorem dX6_gap_87 : decode cX6_gap 87 = .ok (.istore_n 2, 1) := by decide +kernel
theorem dX6_gap_88 : decode cX6_gap 88 = .ok (.iload 4, 2) := by decide +kernel
theorem dX6_gap_90 : decode cX6_gap 90 = .ok (.istore_n 3, 1) := by decide +kernel
theorem dX6_gap_91 : decode cX6_gap 91 = .ok (.iinc 4 1, 3) := by decide +kernel
theorem dX6_gap_94 : decode cX6_gap 94 = .ok (.goto (-58), 3) := by decide +kernel
theorem dX6_gap_97 : decode cX6_gap 97 = .ok (.iload_n 1, 1) := by decide +kernel
theorem dX6_gap_98 : decode cX6_gap 98 = .ok (.ifCond .ne 7, 3) := by decide +kernel
theorem dX6_gap_101 : decode cX6_gap 101 = .ok (.iload_n 2, 1) := by decide +kernel
theorem dX6_gap_102 : decode cX6_gap 102 = .ok (.goto 4, 3) := by decide +kernel
theorem dX6_gap_105 : decode cX6_gap 105 = .ok (.iload_n 3, 1) := by decide +kernel
theorem dX6_gap_106 : decode cX6_gap 106 = .ok (.ireturn, 1) := by decide +kernel
theorem dX6_even_0 : decode cX6_even 0 = .ok (.iload_n 1, 1) := by decide +kernel
theorem dX6_even_1 : decode cX6_even 1 = .ok (.ifCond .ge 10, 3) := by decide +kernel
theorem dX6_even_4 : decode cX6_even 4 = .ok (.aload_n 0, 1) := by decide +kernel
theorem dX6_even_5 : decode cX6_even 5 = .ok (.bipush (-4), 2) := by decide +kernel
theorem dX6_even_7 : decode cX6_even 7 = .ok (.invokevirtual 65, 3) := by decide +kernel
theorem dX6_even_10 : decode cX6_even 10 = .ok (.ireturn, 1) := by decide +kernel
theorem dX6_even_11 : decode cX6_even 11 = .ok (.iload_n 1, 1) := by decide +kernel
theorem dX6_even_12 : decode cX6_even 12 = .ok (.bipush 99, 2) := by decide +kernel
theorem dX6_even_14 : decode cX6_even 14 = .ok (.if_icmp .le 10, 3) := by decide +kernel
theorem dX6_even_17 : decode cX6_even 17 = .ok (.aload_n 0, 1) := by decide +kernel
theorem dX6_even_18 : decode cX6_even 18 = .ok (.bipush (-6), 2) := by decide +kernel
theorem dX6_even_20 : decode cX6_even 20 = .ok (.invokevirtual 65, 3) := by decide +kernel
theorem dX6_even_23 : decode cX6_even 23 = .ok (.ireturn, 1) := by decide +kernel
theorem dX6_even_24 : decode cX6_even 24 = .ok (.aload_n 0, 1) := by decide +kernel
theorem dX6_even_25 : decode cX6_even 25 = .ok (.getfield 54, 3) := by decide +kernel
theorem dX6_even_28 : decode cX6_even 28 = .ok (.aload_n 0, 1) := by decide +kernel
theorem dX6_even_29 : decode cX6_even 29 = .ok (.getfield 10, 3) := by decide +kernel
theorem dX6_even_32 : decode cX6_even 32 = .ok (.iload_n 1, 1) := by decide +kernel
theorem dX6_even_33 : decode cX6_even 33 = .ok (.invokevirtual 218, 3) := by decide +kernel
theorem dX6_even_36 : decode cX6_even 36 = .ok (.ireturn, 1) := by decide +kernel
theorem dX6_keep_0 : decode cX6_keep 0 = .ok (.iload_n 1, 1) := by decide +kernel
theorem dX6_keep_1 : decode cX6_keep 1 = .ok (.ifCond .ge 10, 3) := by decide +kernel
theorem dX6_keep_4 : decode cX6_keep 4 = .ok (.aload_n 0, 1) := by decide +kernel
theorem dX6_keep_5 : decode cX6_keep 5 = .ok (.bipush (-4), 2) := by decide +kernel
theorem dX6_keep_7 : decode cX6_keep 7 = .ok (.invokevirtual 65, 3) := by decide +kernel
theorem dX6_keep_10 : decode cX6_keep 10 = .ok (.ireturn, 1) := by decide +kernel
theorem dX6_keep_11 : decode cX6_keep 11 = .ok (.iload_n 1, 1) := by decide +kernel
theorem dX6_keep_12 : decode cX6_keep 12 = .ok (.bipush 99, 2) := by decide +kernel
theorem dX6_keep_14 : decode cX6_keep 14 = .ok (.if_icmp .le 10, 3) := by decide +kernel
theorem dX6_keep_17 : decode cX6_keep 17 = .ok (.aload_n 0, 1) := by decide +kernel
theorem dX6_keep_18 : decode cX6_keep 18 = .ok (.bipush (-6), 2) := by decide +kernel
theorem dX6_keep_20 : decode cX6_keep 20 = .ok (.invokevirtual 65, 3) := by decide +kernel
theorem dX6_keep_23 : decode cX6_keep 23 = .ok (.ireturn, 1) := by decide +kernel
theorem dX6_keep_24 : decode cX6_keep 24 = .ok (.iload_n 2, 1) := by decide +kernel
theorem dX6_keep_25 : decode cX6_keep 25 = .ok (.ifCond .eq 15, 3) := by decide +kernel
theorem dX6_keep_28 : decode cX6_keep 28 = .ok (.iload_n 2, 1) := by decide +kernel
theorem dX6_keep_29 : decode cX6_keep 29 = .ok (.iconst 1, 1) := by decide +kernel
theorem dX6_keep_30 : decode cX6_keep 30 = .ok (.if_icmp .eq 10, 3) := by decide +kernel
theorem dX6_keep_33 : decode cX6_keep 33 = .ok (.aload_n 0, 1) := by decide +kernel
theorem dX6_keep_34 : decode cX6_keep 34 = .ok (.bipush (-2), 2) := by decide +kernel
theorem dX6_keep_36 : decode cX6_keep 36 = .ok (.invokevirtual 65, 3) := by decide +kernel
theorem dX6_keep_39 : decode cX6_keep 39 = .ok (.ireturn, 1) := by decide +kernel
theorem dX6_keep_40 : decode cX6_keep 40 = .ok (.aload_n 0, 1) := by decide +kernel
theorem dX6_keep_41 : decode cX6_keep 41 = .ok (.getfield 54, 3) := by decide +kernel
theorem dX6_keep_44 : decode cX6_keep 44 = .ok (.aload_n 0, 1) := by decide +kernel
theorem dX6_keep_45 : decode cX6_keep 45 = .ok (.getfield 10, 3) := by decide +kernel
theorem dX6_keep_48 : decode cX6_keep 48 = .ok (.iload_n 1, 1) := by decide +kernel
theorem dX6_keep_49 : decode cX6_keep 49 = .ok (.invokevirtual 221, 3) := by decide +kernel
theorem dX6_keep_52 : decode cX6_keep 52 = .ok (.iload_n 2, 1) := by decide +kernel
theorem dX6_keep_53 : decode cX6_keep 53 = .ok (.invokestatic 182, 3) := by decide +kernel
theorem dX6_keep_56 : decode cX6_keep 56 = .ok (.ireturn, 1) := by decide +kernel
theorem dX6_who_0 : decode cX6_who 0 = .ok (.aload_n 0, 1) := by decide +kernel
theorem dX6_who_1 : decode cX6_who 1 = .ok (.getfield 10, 3) := by decide +kernel
theorem dX6_who_4 : decode cX6_who 4 = .ok (.iload_n 1, 1) := by decide +kernel
theorem dX6_who_5 : decode cX6_who 5 = .ok (.invokevirtual 83, 3) := by decide +kernel
theorem dX6_who_8 : decode cX6_who 8 = .ok (.ifCond .ne 9, 3) := by decide +kernel
theorem dX6_who_11 : decode cX6_who 11 = .ok (.aload_n 0, 1) := by decide +kernel
theorem dX6_who_12 : decode cX6_who 12 = .ok (.iconst (-1), 1) := by decide +kernel
theorem dX6_who_13 : decode cX6_who 13 = .ok (.invokevirtual 65, 3) := by decide +kernel
theorem dX6_who_16 : decode cX6_who 16 = .ok (.ireturn, 1) := by decide +kernel
theorem dX6_who_17 : decode cX6_who 17 = .ok (.iload_n 2, 1) := by decide +kernel
theorem dX6_who_18 : decode cX6_who 18 = .ok (.ifCond .eq 15, 3) := by decide +kernel
theorem dX6_who_21 : decode cX6_who 21 = .ok (.iload_n 2, 1) := by decide +kernel
theorem dX6_who_22 : decode cX6_who 22 = .ok (.iconst 1, 1) := by decide +kernel
theorem dX6_who_23 : decode cX6_who 23 = .ok (.if_icmp .eq 10, 3) := by decide +kernel
theorem dX6_who_26 : decode cX6_who 26 = .ok (.aload_n 0, 1) := by decide +kernel
theorem dX6_who_27 : decode cX6_who 27 = .ok (.bipush (-2), 2) := by decide +kernel
theorem dX6_who_29 : decode cX6_who 29 = .ok (.invokevirtual 65, 3) := by decide +kernel
theorem dX6_who_32 : decode cX6_who 32 = .ok (.ireturn, 1) := by decide +kernel
theorem dX6_who_33 : decode cX6_who 33 = .ok (.iconst 0, 1) := by decide +kernel
theorem dX6_who_34 : decode cX6_who 34 = .ok (.istore_n 3, 1) := by decide +kernel
theorem dX6_who_35 : decode cX6_who 35 = .ok (.iload_n 2, 1) := by decide +kernel
theorem dX6_who_36 : decode cX6_who 36 = .ok (.ifCond .ne 7, 3) := by decide +kernel
theorem dX6_who_39 : decode cX6_who 39 = .ok (.iconst 5, 1) := by decide +kernel
theorem dX6_who_40 : decode cX6_who 40 = .ok (.goto 5, 3) := by decide +kernel
theorem dX6_who_43 : decode cX6_who 43 = .ok (.bipush 9, 2) := by decide +kernel
theorem dX6_who_45 : decode cX6_who 45 = .ok (.istore 4, 2) := by decide +kernel
theorem dX6_who_47 : decode cX6_who 47 = .ok (.iconst 0, 1) := by decide +kernel
theorem dX6_who_48 : decode cX6_who 48 = .ok (.istore 5, 2) := by decide +kernel
theorem dX6_who_50 : decode cX6_who 50 = .ok (.iload 5, 2) := by decide +kernel
theorem dX6_who_52 : decode cX6_who 52 = .ok (.iload 4, 2) := by decide +kernel
theorem dX6_who_54 : decode cX6_who 54 = .ok (.if_icmp .gt 69, 3) := by decide +kernel
theorem dX6_who_57 : decode cX6_who 57 = .ok (.aload_n 0, 1) := by decide +kernel
theorem dX6_who_58 : decode cX6_who 58 = .ok (.getfield 41, 3) := by decide +kernel
theorem dX6_who_61 : decode cX6_who 61 = .ok (.aload_n 0, 1) := by decide +kernel
theorem dX6_who_62 : decode cX6_who 62 = .ok (.getfield 10, 3) := by decide +kernel
theorem dX6_who_65 : decode cX6_who 65 = .ok (.invokevirtual 224, 3) := by decide +kernel
theorem dX6_who_68 : decode cX6_who 68 = .ok (.iload_n 2, 1) := by decide +kernel
theorem dX6_who_69 : decode cX6_who 69 = .ok (.ifCond .ne 17, 3) := by decide +kernel
theorem dX6_who_72 : decode cX6_who 72 = .ok (.aload_n 0, 1) := by decide +kernel
theorem dX6_who_73 : decode cX6_who 73 = .ok (.getfield 41, 3) := by decide +kernel
theorem dX6_who_76 : decode cX6_who 76 = .ok (.getfield 87, 3) := by decide +kernel
theorem dX6_who_79 : decode cX6_who 79 = .ok (.iload_n 1, 1) := by decide +kernel
theorem dX6_who_80 : decode cX6_who 80 = .ok (.iload 5, 2) := by decide +kernel
theorem dX6_who_82 : decode cX6_who 82 = .ok (.iastore, 1) := by decide +kernel
theorem dX6_who_83 : decode cX6_who 83 = .ok (.goto 14, 3) := by decide +kernel
theorem dX6_who_86 : decode cX6_who 86 = .ok (.aload_n 0, 1) := by decide +kernel
theorem dX6_who_87 : decode cX6_who 87 = .ok (.getfield 41, 3) := by decide +kernel
theorem dX6_who_90 : decode cX6_who 90 = .ok (.getfield 90, 3) := by decide +kernel
theorem dX6_who_93 : decode cX6_who 93 = .ok (.iload_n 1, 1) := by decide +kernel
theorem dX6_who_94 : decode cX6_who 94 = .ok (.iload 5, 2) := by decide +kernel
theorem dX6_who_96 : decode cX6_who 96 = .ok (.iastore, 1) := by decide +kernel
theorem dX6_who_97 : decode cX6_who 97 = .ok (.aload_n 0, 1) := by decide +kernel
theorem dX6_who_98 : decode cX6_who 98 = .ok (.aload_n 0, 1) := by decide +kernel
theorem dX6_who_99 : decode cX6_who 99 = .ok (.getfield 41, 3) := by decide +kernel
theorem dX6_who_102 : decode cX6_who 102 = .ok (.invokevirtual 228, 3) := by decide +kernel
theorem dX6_who_105 : decode cX6_who 105 = .ok (.bipush (-9), 2) := by decide +kernel
theorem dX6_who_107 : decode cX6_who 107 = .ok (.if_icmp .ne 10, 3) := by decide +kernel
theorem dX6_who_110 : decode cX6_who 110 = .ok (.iload_n 3, 1) := by decide +kernel
theorem dX6_who_111 : decode cX6_who 111 = .ok (.iconst 1, 1) := by decide +kernel
theorem dX6_who_112 : decode cX6_who 112 = .ok (.iload 5, 2) := by decide +kernel
theorem dX6_who_114 : decode cX6_who 114 = .ok (.ishl, 1) := by decide +kernel
theorem dX6_who_115 : decode cX6_who 115 = .ok (.ior, 1) := by decide +kernel
theorem dX6_who_116 : decode cX6_who 116 = .ok (.istore_n 3, 1) := by decide +kernel
theorem dX6_who_117 : decode cX6_who 117 = .ok (.iinc 5 1, 3) := by decide +kernel
theorem dX6_who_120 : decode cX6_who 120 = .ok (.goto (-70), 3) := by decide +kernel
theorem dX6_who_123 : decode cX6_who 123 = .ok (.iload_n 3, 1) := by decide +kernel
theorem dX6_who_124 : decode cX6_who 124 = .ok (.ireturn, 1) := by decide +kernel
theorem dX6_row_0 : decode cX6_row 0 = .ok (.iload_n 1, 1) := by decide +kernel
theorem dX6_row_1 : decode cX6_row 1 = .ok (.ifCond .ge 10, 3) := by decide +kernel
theorem dX6_row_4 : decode cX6_row 4 = .ok (.aload_n 0, 1) := by decide +kernel
theorem dX6_row_5 : decode cX6_row 5 = .ok (.bipush (-4), 2) := by decide +kernel
theorem dX6_row_7 : decode cX6_row 7 = .ok (.invokevirtual 65, 3) := by decide +kernel
theorem dX6_row_10 : decode cX6_row 10 = .ok (.ireturn, 1) := by decide +kernel
theorem dX6_row_11 : decode cX6_row 11 = .ok (.iload_n 1, 1) := by decide +kernel
theorem dX6_row_12 : decode cX6_row 12 = .ok (.bipush 99, 2) := by decide +kernel
theorem dX6_row_14 : decode cX6_row 14 = .ok (.if_icmp .gt 12, 3) := by decide +kernel
theorem dX6_row_17 : decode cX6_row 17 = .ok (.aload_n 0, 1) := by decide +kernel
theorem dX6_row_18 : decode cX6_row 18 = .ok (.getfield 34, 3) := by decide +kernel
theorem dX6_row_21 : decode cX6_row 21 = .ok (.bipush 12, 2) := by decide +kernel
theorem dX6_row_23 : decode cX6_row 23 = .ok (.if_icmp .lt 10, 3) := by decide +kernel
theorem dX6_row_26 : decode cX6_row 26 = .ok (.aload_n 0, 1) := by decide +kernel
theorem dX6_row_27 : decode cX6_row 27 = .ok (.bipush (-6), 2) := by decide +kernel
theorem dX6_row_29 : decode cX6_row 29 = .ok (.invokevirtual 65, 3) := by decide +kernel
theorem dX6_row_32 : decode cX6_row 32 = .ok (.ireturn, 1) := by decide +kernel
theorem dX6_row_33 : decode cX6_row 33 = .ok (.aload_n 0, 1) := by decide +kernel
theorem dX6_row_34 : decode cX6_row 34 = .ok (.getfield 30, 3) := by decide +kernel
theorem dX6_row_37 : decode cX6_row 37 = .ok (.aload_n 0, 1) := by decide +kernel
theorem dX6_row_38 : decode cX6_row 38 = .ok (.getfield 34, 3) := by decide +kernel
theorem dX6_row_41 : decode cX6_row 41 = .ok (.iload_n 1, 1) := by decide +kernel
theorem dX6_row_42 : decode cX6_row 42 = .ok (.iastore, 1) := by decide +kernel
theorem dX6_row_43 : decode cX6_row 43 = .ok (.aload_n 0, 1) := by decide +kernel
theorem dX6_row_44 : decode cX6_row 44 = .ok (.dup, 1) := by decide +kernel
theorem dX6_row_45 : decode cX6_row 45 = .ok (.getfield 34, 3) := by decide +kernel
theorem dX6_row_48 : decode cX6_row 48 = .ok (.iconst 1, 1) := by decide +kernel
theorem dX6_row_49 : decode cX6_row 49 = .ok (.iadd, 1) := by decide +kernel
theorem dX6_row_50 : decode cX6_row 50 = .ok (.putfield 34, 3) := by decide +kernel
theorem dX6_row_53 : decode cX6_row 53 = .ok (.aload_n 0, 1) := by decide +kernel
theorem dX6_row_54 : decode cX6_row 54 = .ok (.getfield 34, 3) := by decide +kernel
theorem dX6_row_57 : decode cX6_row 57 = .ok (.ireturn, 1) := by decide +kernel
theorem dX6_judge_0 : decode cX6_judge 0 = .ok (.aload_n 0, 1) := by decide +kernel
theorem dX6_judge_1 : decode cX6_judge 1 = .ok (.aload_n 0, 1) := by decide +kernel
theorem dX6_judge_2 : decode cX6_judge 2 = .ok (.getfield 10, 3) := by decide +kernel
theorem dX6_judge_5 : decode cX6_judge 5 = .ok (.invokevirtual 228, 3) := by decide +kernel
theorem dX6_judge_8 : decode cX6_judge 8 = .ok (.istore_n 1, 1) := by decide +kernel
theorem dX6_judge_9 : decode cX6_judge 9 = .ok (.aload_n 0, 1) := by decide +kernel
theorem dX6_judge_10 : decode cX6_judge 10 = .ok (.iconst 0, 1) := by decide +kernel
theorem dX6_judge_11 : decode cX6_judge 11 = .ok (.putfield 34, 3) := by decide +kernel
theorem dX6_judge_14 : decode cX6_judge 14 = .ok (.iload_n 1, 1) := by decide +kernel
theorem dX6_judge_15 : decode cX6_judge 15 = .ok (.ireturn, 1) := by decide +kernel
theorem dX6_clear_0 : decode cX6_clear 0 = .ok (.aload_n 0, 1) := by decide +kernel
theorem dX6_clear_1 : decode cX6_clear 1 = .ok (.getfield 34, 3) := by decide +kernel
theorem dX6_clear_4 : decode cX6_clear 4 = .ok (.istore_n 1, 1) := by decide +kernel
theorem dX6_clear_5 : decode cX6_clear 5 = .ok (.aload_n 0, 1) := by decide +kernel
theorem dX6_clear_6 : decode cX6_clear 6 = .ok (.iconst 0, 1) := by decide +kernel
theorem dX6_clear_7 : decode cX6_clear 7 = .ok (.putfield 34, 3) := by decide +kernel
theorem dX6_clear_10 : decode cX6_clear 10 = .ok (.iload_n 1, 1) := by decide +kernel
theorem dX6_clear_11 : decode cX6_clear 11 = .ok (.ireturn, 1) := by decide +kernel
theorem dX6_lots_0 : decode cX6_lots 0 = .ok (.iload_n 1, 1) := by decide +kernel
theorem dX6_lots_1 : decode cX6_lots 1 = .ok (.iconst 1, 1) := by decide +kernel
theorem dX6_lots_2 : decode cX6_lots 2 = .ok (.if_icmp .ge 10, 3) := by decide +kernel
theorem dX6_lots_5 : decode cX6_lots 5 = .ok (.aload_n 0, 1) := by decide +kernel
theorem dX6_lots_6 : decode cX6_lots 6 = .ok (.bipush (-4), 2) := by decide +kernel
theorem dX6_lots_8 : decode cX6_lots 8 = .ok (.invokevirtual 65, 3) := by decide +kernel
theorem dX6_lots_11 : decode cX6_lots 11 = .ok (.ireturn, 1) := by decide +kernel
theorem dX6_lots_12 : decode cX6_lots 12 = .ok (.iload_n 1, 1) := by decide +kernel
theorem dX6_lots_13 : decode cX6_lots 13 = .ok (.bipush 20, 2) := by decide +kernel
theorem dX6_lots_15 : decode cX6_lots 15 = .ok (.if_icmp .le 10, 3) := by decide +kernel
theorem dX6_lots_18 : decode cX6_lots 18 = .ok (.aload_n 0, 1) := by decide +kernel
theorem dX6_lots_19 : decode cX6_lots 19 = .ok (.bipush (-6), 2) := by decide +kernel
theorem dX6_lots_21 : decode cX6_lots 21 = .ok (.invokevirtual 65, 3) := by decide +kernel
theorem dX6_lots_24 : decode cX6_lots 24 = .ok (.ireturn, 1) := by decide +kernel
theorem dX6_lots_25 : decode cX6_lots 25 = .ok (.iload_n 3, 1) := by decide +kernel
theorem dX6_lots_26 : decode cX6_lots 26 = .ok (.ifCond .eq 15, 3) := by decide +kernel
theorem dX6_lots_29 : decode cX6_lots 29 = .ok (.iload_n 3, 1) := by decide +kernel
theorem dX6_lots_30 : decode cX6_lots 30 = .ok (.iconst 1, 1) := by decide +kernel
theorem dX6_lots_31 : decode cX6_lots 31 = .ok (.if_icmp .eq 10, 3) := by decide +kernel
theorem dX6_lots_34 : decode cX6_lots 34 = .ok (.aload_n 0, 1) := by decide +kernel
theorem dX6_lots_35 : decode cX6_lots 35 = .ok (.bipush (-2), 2) := by decide +kernel
theorem dX6_lots_37 : decode cX6_lots 37 = .ok (.invokevirtual 65, 3) := by decide +kernel
theorem dX6_lots_40 : decode cX6_lots 40 = .ok (.ireturn, 1) := by decide +kernel
theorem dX6_lots_41 : decode cX6_lots 41 = .ok (.aload_n 0, 1) := by decide +kernel
theorem dX6_lots_42 : decode cX6_lots 42 = .ok (.getfield 61, 3) := by decide +kernel
theorem dX6_lots_45 : decode cX6_lots 45 = .ok (.aload_n 0, 1) := by decide +kernel
theorem dX6_lots_46 : decode cX6_lots 46 = .ok (.getfield 10, 3) := by decide +kernel
theorem dX6_lots_49 : decode cX6_lots 49 = .ok (.iload_n 1, 1) := by decide +kernel
theorem dX6_lots_50 : decode cX6_lots 50 = .ok (.iload_n 2, 1) := by decide +kernel
theorem dX6_lots_51 : decode cX6_lots 51 = .ok (.iload_n 3, 1) := by decide +kernel
theorem dX6_lots_52 : decode cX6_lots 52 = .ok (.iconst 1, 1) := by decide +kernel
theorem dX6_lots_53 : decode cX6_lots 53 = .ok (.if_icmp .ne 7, 3) := by decide +kernel
theorem dX6_lots_56 : decode cX6_lots 56 = .ok (.iconst 1, 1) := by decide +kernel
theorem dX6_lots_57 : decode cX6_lots 57 = .ok (.goto 4, 3) := by decide +kernel
theorem dX6_lots_60 : decode cX6_lots 60 = .ok (.iconst 0, 1) := by decide +kernel
theorem dX6_lots_61 : decode cX6_lots 61 = .ok (.invokevirtual 231, 3) := by decide +kernel
theorem dX6_lots_64 : decode cX6_lots 64 = .ok (.ireturn, 1) := by decide +kernel
theorem dX6_image_0 : decode cX6_image 0 = .ok (.aload_n 0, 1) := by decide +kernel
theorem dX6_image_1 : decode cX6_image 1 = .ok (.getfield 16, 3) := by decide +kernel
theorem dX6_image_4 : decode cX6_image 4 = .ok (.aload_n 0, 1) := by decide +kernel
theorem dX6_image_5 : decode cX6_image 5 = .ok (.getfield 10, 3) := by decide +kernel
theorem dX6_image_8 : decode cX6_image 8 = .ok (.invokevirtual 224, 3) := by decide +kernel
theorem dX6_image_11 : decode cX6_image 11 = .ok (.aload_n 0, 1) := by decide +kernel
theorem dX6_image_12 : decode cX6_image 12 = .ok (.iconst 1, 1) := by decide +kernel
theorem dX6_image_13 : decode cX6_image 13 = .ok (.putfield 19, 3) := by decide +kernel
theorem dX6_image_16 : decode cX6_image 16 = .ok (.aload_n 0, 1) := by decide +kernel
theorem dX6_image_17 : decode cX6_image 17 = .ok (.getfield 10, 3) := by decide +kernel
theorem dX6_image_20 : decode cX6_image 20 = .ok (.getfield 158, 3) := by decide +kernel
theorem dX6_image_23 : decode cX6_image 23 = .ok (.ireturn, 1) := by decide +kernel
theorem dX6_on_0 : decode cX6_on 0 = .ok (.aload_n 0, 1) := by decide +kernel
theorem dX6_on_1 : decode cX6_on 1 = .ok (.getfield 19, 3) := by decide +kernel
theorem dX6_on_4 : decode cX6_on 4 = .ok (.ifCond .ne 10, 3) := by decide +kernel
theorem dX6_on_7 : decode cX6_on 7 = .ok (.aload_n 0, 1) := by decide +kernel
theorem dX6_on_8 : decode cX6_on 8 = .ok (.bipush (-3), 2) := by decide +kernel
theorem dX6_on_10 : decode cX6_on 10 = .ok (.invokevirtual 65, 3) := by decide +kernel
theorem dX6_on_13 : decode cX6_on 13 = .ok (.ireturn, 1) := by decide +kernel
theorem dX6_on_14 : decode cX6_on 14 = .ok (.aload_n 0, 1) := by decide +kernel
theorem dX6_on_15 : decode cX6_on 15 = .ok (.getfield 10, 3) := by decide +kernel
theorem dX6_on_18 : decode cX6_on 18 = .ok (.aload_n 0, 1) := by decide +kernel
theorem dX6_on_19 : decode cX6_on 19 = .ok (.getfield 16, 3) := by decide +kernel
theorem dX6_on_22 : decode cX6_on 22 = .ok (.invokevirtual 224, 3) := by decide +kernel
theorem dX6_on_25 : decode cX6_on 25 = .ok (.aload_n 0, 1) := by decide +kernel
theorem dX6_on_26 : decode cX6_on 26 = .ok (.getfield 10, 3) := by decide +kernel
theorem dX6_on_29 : decode cX6_on 29 = .ok (.getfield 158, 3) := by decide +kernel
theorem dX6_on_32 : decode cX6_on 32 = .ok (.ireturn, 1) := by decide +kernel
theorem dX6_count_0 : decode cX6_count 0 = .ok (.iload_n 1, 1) := by decide +kernel
theorem dX6_count_1 : decode cX6_count 1 = .ok (.tableswitch 122 0 8 #[51, 59, 68, 77, 85, 93, 101, 109, 114], 51) := by decide +kernel
theorem dX6_count_52 : decode cX6_count 52 = .ok (.aload_n 0, 1) := by decide +kernel
theorem dX6_count_53 : decode cX6_count 53 = .ok (.getfield 10, 3) := by decide +kernel
theorem dX6_count_56 : decode cX6_count 56 = .ok (.getfield 158, 3) := by decide +kernel
theorem dX6_count_59 : decode cX6_count 59 = .ok (.ireturn, 1) := by decide +kernel
theorem dX6_count_60 : decode cX6_count 60 = .ok (.aload_n 0, 1) := by decide +kernel
theorem dX6_count_61 : decode cX6_count 61 = .ok (.getfield 10, 3) := by decide +kernel
theorem dX6_count_64 : decode cX6_count 64 = .ok (.iconst 0, 1) := by decide +kernel
theorem dX6_count_65 : decode cX6_count 65 = .ok (.invokevirtual 161, 3) := by decide +kernel
theorem dX6_count_68 : decode cX6_count 68 = .ok (.ireturn, 1) := by decide +kernel
theorem dX6_count_69 : decode cX6_count 69 = .ok (.aload_n 0, 1) := by decide +kernel
theorem dX6_count_70 : decode cX6_count 70 = .ok (.getfield 10, 3) := by decide +kernel
theorem dX6_count_73 : decode cX6_count 73 = .ok (.iconst 1, 1) := by decide +kernel
theorem dX6_count_74 : decode cX6_count 74 = .ok (.invokevirtual 161, 3) := by decide +kernel
theorem dX6_count_77 : decode cX6_count 77 = .ok (.ireturn, 1) := by decide +kernel
theorem dX6_count_78 : decode cX6_count 78 = .ok (.aload_n 0, 1) := by decide +kernel
theorem dX6_count_79 : decode cX6_count 79 = .ok (.getfield 10, 3) := by decide +kernel
theorem dX6_count_82 : decode cX6_count 82 = .ok (.getfield 116, 3) := by decide +kernel
theorem dX6_count_85 : decode cX6_count 85 = .ok (.ireturn, 1) := by decide +kernel
theorem dX6_count_86 : decode cX6_count 86 = .ok (.aload_n 0, 1) := by decide +kernel
theorem dX6_count_87 : decode cX6_count 87 = .ok (.getfield 10, 3) := by decide +kernel
theorem dX6_count_90 : decode cX6_count 90 = .ok (.getfield 119, 3) := by decide +kernel
theorem dX6_count_93 : decode cX6_count 93 = .ok (.ireturn, 1) := by decide +kernel
theorem dX6_count_94 : decode cX6_count 94 = .ok (.aload_n 0, 1) := by decide +kernel
theorem dX6_count_95 : decode cX6_count 95 = .ok (.getfield 10, 3) := by decide +kernel
theorem dX6_count_98 : decode cX6_count 98 = .ok (.invokevirtual 235, 3) := by decide +kernel
theorem dX6_count_101 : decode cX6_count 101 = .ok (.ireturn, 1) := by decide +kernel
theorem dX6_count_102 : decode cX6_count 102 = .ok (.aload_n 0, 1) := by decide +kernel
theorem dX6_count_103 : decode cX6_count 103 = .ok (.getfield 10, 3) := by decide +kernel
theorem dX6_count_106 : decode cX6_count 106 = .ok (.invokevirtual 238, 3) := by decide +kernel
theorem dX6_count_109 : decode cX6_count 109 = .ok (.ireturn, 1) := by decide +kernel
theorem dX6_count_110 : decode cX6_count 110 = .ok (.aload_n 0, 1) := by decide +kernel
theorem dX6_count_111 : decode cX6_count 111 = .ok (.getfield 34, 3) := by decide +kernel
theorem dX6_count_114 : decode cX6_count 114 = .ok (.ireturn, 1) := by decide +kernel
theorem dX6_count_115 : decode cX6_count 115 = .ok (.aload_n 0, 1) := by decide +kernel
theorem dX6_count_116 : decode cX6_count 116 = .ok (.getfield 26, 3) := by decide +kernel
theorem dX6_count_119 : decode cX6_count 119 = .ok (.getfield 241, 3) := by decide +kernel
theorem dX6_count_122 : decode cX6_count 122 = .ok (.ireturn, 1) := by decide +kernel
theorem dX6_count_123 : decode cX6_count 123 = .ok (.iload_n 1, 1) := by decide +kernel
theorem dX6_count_124 : decode cX6_count 124 = .ok (.bipush 10, 2) := by decide +kernel
theorem dX6_count_126 : decode cX6_count 126 = .ok (.if_icmp .le 21, 3) := by decide +kernel
theorem dX6_count_129 : decode cX6_count 129 = .ok (.iload_n 1, 1) := by decide +kernel
theorem dX6_count_130 : decode cX6_count 130 = .ok (.bipush 16, 2) := by decide +kernel
theorem dX6_count_132 : decode cX6_count 132 = .ok (.if_icmp .gt 15, 3) := by decide +kernel
theorem dX6_count_135 : decode cX6_count 135 = .ok (.aload_n 0, 1) := by decide +kernel
theorem dX6_count_136 : decode cX6_count 136 = .ok (.getfield 38, 3) := by decide +kernel
theorem dX6_count_139 : decode cX6_count 139 = .ok (.iload_n 1, 1) := by decide +kernel
theorem dX6_count_140 : decode cX6_count 140 = .ok (.bipush 10, 2) := by decide +kernel
theorem dX6_count_142 : decode cX6_count 142 = .ok (.isub, 1) := by decide +kernel
theorem dX6_count_143 : decode cX6_count 143 = .ok (.iaload, 1) := by decide +kernel
theorem dX6_count_144 : decode cX6_count 144 = .ok (.goto 5, 3) := by decide +kernel
theorem dX6_count_147 : decode cX6_count 147 = .ok (.bipush (-9), 2) := by decide +kernel
theorem dX6_count_149 : decode cX6_count 149 = .ok (.ireturn, 1) := by decide +kernel
theorem dX6_refuse_0 : decode cX6_refuse 0 = .ok (.iload_n 1, 1) := by decide +kernel
theorem dX6_refuse_1 : decode cX6_refuse 1 = .ok (.ifCond .ge 20, 3) := by decide +kernel
theorem dX6_refuse_4 : decode cX6_refuse 4 = .ok (.iload_n 1, 1) := by decide +kernel
theorem dX6_refuse_5 : decode cX6_refuse 5 = .ok (.bipush (-6), 2) := by decide +kernel
theorem dX6_refuse_7 : decode cX6_refuse 7 = .ok (.if_icmp .lt 14, 3) := by decide +kernel
theorem dX6_refuse_10 : decode cX6_refuse 10 = .ok (.aload_n 0, 1) := by decide +kernel
theorem dX6_refuse_11 : decode cX6_refuse 11 = .ok (.getfield 38, 3) := by decide +kernel
theorem dX6_refuse_14 : decode cX6_refuse 14 = .ok (.iload_n 1, 1) := by decide +kernel
theorem dX6_refuse_15 : decode cX6_refuse 15 = .ok (.ineg, 1) := by decide +kernel
theorem dX6_refuse_16 : decode cX6_refuse 16 = .ok (.dup2, 1) := by decide +kernel
theorem dX6_refuse_17 : decode cX6_refuse 17 = .ok (.iaload, 1) := by decide +kernel
theorem dX6_refuse_18 : decode cX6_refuse 18 = .ok (.iconst 1, 1) := by decide +kernel
theorem dX6_refuse_19 : decode cX6_refuse 19 = .ok (.iadd, 1) := by decide +kernel
theorem dX6_refuse_20 : decode cX6_refuse 20 = .ok (.iastore, 1) := by decide +kernel
theorem dX6_refuse_21 : decode cX6_refuse 21 = .ok (.iload_n 1, 1) := by decide +kernel
theorem dX6_refuse_22 : decode cX6_refuse 22 = .ok (.ireturn, 1) := by decide +kernel
theorem dX6_bitsOrHowMany_0 : decode cX6_bitsOrHowMany 0 = .ok (.iload_n 0, 1) := by decide +kernel
theorem dX6_bitsOrHowMany_1 : decode cX6_bitsOrHowMany 1 = .ok (.bipush (-9), 2) := by decide +kernel
theorem dX6_bitsOrHowMany_3 : decode cX6_bitsOrHowMany 3 = .ok (.if_icmp .eq 7, 3) := by decide +kernel
theorem dX6_bitsOrHowMany_6 : decode cX6_bitsOrHowMany 6 = .ok (.iload_n 1, 1) := by decide +kernel
theorem dX6_bitsOrHowMany_7 : decode cX6_bitsOrHowMany 7 = .ok (.ifCond .ne 7, 3) := by decide +kernel
theorem dX6_bitsOrHowMany_10 : decode cX6_bitsOrHowMany 10 = .ok (.iload_n 0, 1) := by decide +kernel
theorem dX6_bitsOrHowMany_11 : decode cX6_bitsOrHowMany 11 = .ok (.goto 7, 3) := by decide +kernel
theorem dX6_bitsOrHowMany_14 : decode cX6_bitsOrHowMany 14 = .ok (.iload_n 0, 1) := by decide +kernel
theorem dX6_bitsOrHowMany_15 : decode cX6_bitsOrHowMany 15 = .ok (.invokestatic 244, 3) := by decide +kernel
theorem dX6_bitsOrHowMany_18 : decode cX6_bitsOrHowMany 18 = .ok (.ireturn, 1) := by decide +kernel
theorem dX6_firstNotSo_0 : decode cX6_firstNotSo 0 = .ok (.aload_n 0, 1) := by decide +kernel
theorem dX6_firstNotSo_1 : decode cX6_firstNotSo 1 = .ok (.getfield 47, 3) := by decide +kernel
theorem dX6_firstNotSo_4 : decode cX6_firstNotSo 4 = .ok (.aload_n 1, 1) := by decide +kernel
theorem dX6_firstNotSo_5 : decode cX6_firstNotSo 5 = .ok (.iconst 0, 1) := by decide +kernel
theorem dX6_firstNotSo_6 : decode cX6_firstNotSo 6 = .ok (.invokevirtual 128, 3) := by decide +kernel
theorem dX6_firstNotSo_9 : decode cX6_firstNotSo 9 = .ok (.iconst 0, 1) := by decide +kernel
theorem dX6_firstNotSo_10 : decode cX6_firstNotSo 10 = .ok (.istore_n 2, 1) := by decide +kernel
theorem dX6_firstNotSo_11 : decode cX6_firstNotSo 11 = .ok (.iload_n 2, 1) := by decide +kernel
theorem dX6_firstNotSo_12 : decode cX6_firstNotSo 12 = .ok (.aload_n 0, 1) := by decide +kernel
theorem dX6_firstNotSo_13 : decode cX6_firstNotSo 13 = .ok (.getfield 34, 3) := by decide +kernel
theorem dX6_firstNotSo_16 : decode cX6_firstNotSo 16 = .ok (.if_icmp .ge 40, 3) := by decide +kernel
theorem dX6_firstNotSo_19 : decode cX6_firstNotSo 19 = .ok (.iload_n 2, 1) := by decide +kernel
theorem dX6_firstNotSo_20 : decode cX6_firstNotSo 20 = .ok (.aload_n 0, 1) := by decide +kernel
theorem dX6_firstNotSo_21 : decode cX6_firstNotSo 21 = .ok (.getfield 47, 3) := by decide +kernel
theorem dX6_firstNotSo_24 : decode cX6_firstNotSo 24 = .ok (.getfield 212, 3) := by decide +kernel
theorem dX6_firstNotSo_27 : decode cX6_firstNotSo 27 = .ok (.if_icmp .ge 21, 3) := by decide +kernel
theorem dX6_firstNotSo_30 : decode cX6_firstNotSo 30 = .ok (.aload_n 0, 1) := by decide +kernel
theorem dX6_firstNotSo_31 : decode cX6_firstNotSo 31 = .ok (.getfield 47, 3) := by decide +kernel
theorem dX6_firstNotSo_34 : decode cX6_firstNotSo 34 = .ok (.getfield 132, 3) := by decide +kernel
theorem dX6_firstNotSo_37 : decode cX6_firstNotSo 37 = .ok (.iload_n 2, 1) := by decide +kernel
theorem dX6_firstNotSo_38 : decode cX6_firstNotSo 38 = .ok (.iaload, 1) := by decide +kernel
theorem dX6_firstNotSo_39 : decode cX6_firstNotSo 39 = .ok (.aload_n 0, 1) := by decide +kernel
theorem dX6_firstNotSo_40 : decode cX6_firstNotSo 40 = .ok (.getfield 30, 3) := by decide +kernel
theorem dX6_firstNotSo_43 : decode cX6_firstNotSo 43 = .ok (.iload_n 2, 1) := by decide +kernel
theorem dX6_firstNotSo_44 : decode cX6_firstNotSo 44 = .ok (.iaload, 1) := by decide +kernel
theorem dX6_firstNotSo_45 : decode cX6_firstNotSo 45 = .ok (.if_icmp .eq 5, 3) := by decide +kernel
theorem dX6_firstNotSo_48 : decode cX6_firstNotSo 48 = .ok (.iload_n 2, 1) := by decide +kernel
theorem dX6_firstNotSo_49 : decode cX6_firstNotSo 49 = .ok (.ireturn, 1) := by decide +kernel
theorem dX6_firstNotSo_50 : decode cX6_firstNotSo 50 = .ok (.iinc 2 1, 3) := by decide +kernel
theorem dX6_firstNotSo_53 : decode cX6_firstNotSo 53 = .ok (.goto (-42), 3) := by decide +kernel
theorem dX6_firstNotSo_56 : decode cX6_firstNotSo 56 = .ok (.bipush (-9), 2) := by decide +kernel
theorem dX6_firstNotSo_58 : decode cX6_firstNotSo 58 = .ok (.ireturn, 1) := by decide +kernel
theorem dJ11_isValidCodePoint_9a6ad_0 : decode cJ11_isValidCodePoint_9a6ad 0 = .ok (.iload_n 0, 1) := by decide +kernel
theorem dJ11_isValidCodePoint_9a6ad_1 : decode cJ11_isValidCodePoint_9a6ad 1 = .ok (.bipush 16, 2) := by decide +kernel
theorem dJ11_isValidCodePoint_9a6ad_3 : decode cJ11_isValidCodePoint_9a6ad 3 = .ok (.iushr, 1) := by decide +kernel
theorem dJ11_isValidCodePoint_9a6ad_4 : decode cJ11_isValidCodePoint_9a6ad 4 = .ok (.istore_n 1, 1) := by decide +kernel
theorem dJ11_isValidCodePoint_9a6ad_5 : decode cJ11_isValidCodePoint_9a6ad 5 = .ok (.iload_n 1, 1) := by decide +kernel
theorem dJ11_isValidCodePoint_9a6ad_6 : decode cJ11_isValidCodePoint_9a6ad 6 = .ok (.bipush 17, 2) := by decide +kernel
theorem dJ11_isValidCodePoint_9a6ad_8 : decode cJ11_isValidCodePoint_9a6ad 8 = .ok (.if_icmp .ge 7, 3) := by decide +kernel
theorem dJ11_isValidCodePoint_9a6ad_11 : decode cJ11_isValidCodePoint_9a6ad 11 = .ok (.iconst 1, 1) := by decide +kernel
theorem dJ11_isValidCodePoint_9a6ad_12 : decode cJ11_isValidCodePoint_9a6ad 12 = .ok (.goto 4, 3) := by decide +kernel
theorem dJ11_isValidCodePoint_9a6ad_15 : decode cJ11_isValidCodePoint_9a6ad 15 = .ok (.iconst 0, 1) := by decide +kernel
theorem dJ11_isValidCodePoint_9a6ad_16 : decode cJ11_isValidCodePoint_9a6ad 16 = .ok (.ireturn, 1) := by decide +kernel
theorem dJ11_highSurrogate_5068e_0 : decode cJ11_highSurrogate_5068e 0 = .ok (.iload_n 0, 1) := by decide +kernel
theorem dJ11_highSurrogate_5068e_1 : decode cJ11_highSurrogate_5068e 1 = .ok (.bipush 10, 2) := by decide +kernel
theorem dJ11_highSurrogate_5068e_3 : decode cJ11_highSurrogate_5068e 3 = .ok (.iushr, 1) := by decide +kernel
theorem dJ11_highSurrogate_5068e_4 : decode cJ11_highSurrogate_5068e 4 = .ok (.ldc 110, 2) := by decide +kernel
theorem dJ11_highSurrogate_5068e_6 : decode cJ11_highSurrogate_5068e 6 = .ok (.iadd, 1) := by decide +kernel
theorem dJ11_highSurrogate_5068e_7 : decode cJ11_highSurrogate_5068e 7 = .ok (.i2c, 1) := by decide +kernel
theorem dJ11_highSurrogate_5068e_8 : decode cJ11_highSurrogate_5068e 8 = .ok (.ireturn, 1) := by decide +kernel
theorem dJ11_lowSurrogate_5068e_0 : decode cJ11_lowSurrogate_5068e 0 = .ok (.iload_n 0, 1) := by decide +kernel
theorem dJ11_lowSurrogate_5068e_1 : decode cJ11_lowSurrogate_5068e 1 = .ok (.sipush 1023, 3) := by decide +kernel
theorem dJ11_lowSurrogate_5068e_4 : decode cJ11_lowSurrogate_5068e 4 = .ok (.iand, 1) := by decide +kernel
theorem dJ11_lowSurrogate_5068e_5 : decode cJ11_lowSurrogate_5068e 5 = .ok (.ldc 76, 2) := by decide +kernel
theorem dJ11_lowSurrogate_5068e_7 : decode cJ11_lowSurrogate_5068e 7 = .ok (.iadd, 1) := by decide +kernel
theorem dJ11_lowSurrogate_5068e_8 : decode cJ11_lowSurrogate_5068e 8 = .ok (.i2c, 1) := by decide +kernel
theorem dJ11_lowSurrogate_5068e_9 : decode cJ11_lowSurrogate_5068e 9 = .ok (.ireturn, 1) := by decide +kernel
theorem dJ6_bitCount_0f7a4_0 : decode cJ6_bitCount_0f7a4 0 = .ok (.iload_n 0, 1) := by decide +kernel
theorem dJ6_bitCount_0f7a4_1 : decode cJ6_bitCount_0f7a4 1 = .ok (.iload_n 0, 1) := by decide +kernel
theorem dJ6_bitCount_0f7a4_2 : decode cJ6_bitCount_0f7a4 2 = .ok (.iconst 1, 1) := by decide +kernel
theorem dJ6_bitCount_0f7a4_3 : decode cJ6_bitCount_0f7a4 3 = .ok (.iushr, 1) := by decide +kernel
theorem dJ6_bitCount_0f7a4_4 : decode cJ6_bitCount_0f7a4 4 = .ok (.ldc_w 265, 3) := by decide +kernel
theorem dJ6_bitCount_0f7a4_7 : decode cJ6_bitCount_0f7a4 7 = .ok (.iand, 1) := by decide +kernel
theorem dJ6_bitCount_0f7a4_8 : decode cJ6_bitCount_0f7a4 8 = .ok (.isub, 1) := by decide +kernel
theorem dJ6_bitCount_0f7a4_9 : decode cJ6_bitCount_0f7a4 9 = .ok (.istore_n 0, 1) := by decide +kernel
theorem dJ6_bitCount_0f7a4_10 : decode cJ6_bitCount_0f7a4 10 = .ok (.iload_n 0, 1) := by decide +kernel
theorem dJ6_bitCount_0f7a4_11 : decode cJ6_bitCount_0f7a4 11 = .ok (.ldc_w 266, 3) := by decide +kernel
theorem dJ6_bitCount_0f7a4_14 : decode cJ6_bitCount_0f7a4 14 = .ok (.iand, 1) := by decide +kernel
theorem dJ6_bitCount_0f7a4_15 : decode cJ6_bitCount_0f7a4 15 = .ok (.iload_n 0, 1) := by decide +kernel
theorem dJ6_bitCount_0f7a4_16 : decode cJ6_bitCount_0f7a4 16 = .ok (.iconst 2, 1) := by decide +kernel
theorem dJ6_bitCount_0f7a4_17 : decode cJ6_bitCount_0f7a4 17 = .ok (.iushr, 1) := by decide +kernel
theorem dJ6_bitCount_0f7a4_18 : decode cJ6_bitCount_0f7a4 18 = .ok (.ldc_w 266, 3) := by decide +kernel
theorem dJ6_bitCount_0f7a4_21 : decode cJ6_bitCount_0f7a4 21 = .ok (.iand, 1) := by decide +kernel
theorem dJ6_bitCount_0f7a4_22 : decode cJ6_bitCount_0f7a4 22 = .ok (.iadd, 1) := by decide +kernel
theorem dJ6_bitCount_0f7a4_23 : decode cJ6_bitCount_0f7a4 23 = .ok (.istore_n 0, 1) := by decide +kernel
theorem dJ6_bitCount_0f7a4_24 : decode cJ6_bitCount_0f7a4 24 = .ok (.iload_n 0, 1) := by decide +kernel
theorem dJ6_bitCount_0f7a4_25 : decode cJ6_bitCount_0f7a4 25 = .ok (.iload_n 0, 1) := by decide +kernel
theorem dJ6_bitCount_0f7a4_26 : decode cJ6_bitCount_0f7a4 26 = .ok (.iconst 4, 1) := by decide +kernel
theorem dJ6_bitCount_0f7a4_27 : decode cJ6_bitCount_0f7a4 27 = .ok (.iushr, 1) := by decide +kernel
theorem dJ6_bitCount_0f7a4_28 : decode cJ6_bitCount_0f7a4 28 = .ok (.iadd, 1) := by decide +kernel
theorem dJ6_bitCount_0f7a4_29 : decode cJ6_bitCount_0f7a4 29 = .ok (.ldc_w 267, 3) := by decide +kernel
theorem dJ6_bitCount_0f7a4_32 : decode cJ6_bitCount_0f7a4 32 = .ok (.iand, 1) := by decide +kernel
theorem dJ6_bitCount_0f7a4_33 : decode cJ6_bitCount_0f7a4 33 = .ok (.istore_n 0, 1) := by decide +kernel
theorem dJ6_bitCount_0f7a4_34 : decode cJ6_bitCount_0f7a4 34 = .ok (.iload_n 0, 1) := by decide +kernel
theorem dJ6_bitCount_0f7a4_35 : decode cJ6_bitCount_0f7a4 35 = .ok (.iload_n 0, 1) := by decide +kernel
theorem dJ6_bitCount_0f7a4_36 : decode cJ6_bitCount_0f7a4 36 = .ok (.bipush 8, 2) := by decide +kernel
theorem dJ6_bitCount_0f7a4_38 : decode cJ6_bitCount_0f7a4 38 = .ok (.iushr, 1) := by decide +kernel
theorem dJ6_bitCount_0f7a4_39 : decode cJ6_bitCount_0f7a4 39 = .ok (.iadd, 1) := by decide +kernel
theorem dJ6_bitCount_0f7a4_40 : decode cJ6_bitCount_0f7a4 40 = .ok (.istore_n 0, 1) := by decide +kernel
theorem dJ6_bitCount_0f7a4_41 : decode cJ6_bitCount_0f7a4 41 = .ok (.iload_n 0, 1) := by decide +kernel
theorem dJ6_bitCount_0f7a4_42 : decode cJ6_bitCount_0f7a4 42 = .ok (.iload_n 0, 1) := by decide +kernel
theorem dJ6_bitCount_0f7a4_43 : decode cJ6_bitCount_0f7a4 43 = .ok (.bipush 16, 2) := by decide +kernel
theorem dJ6_bitCount_0f7a4_45 : decode cJ6_bitCount_0f7a4 45 = .ok (.iushr, 1) := by decide +kernel
theorem dJ6_bitCount_0f7a4_46 : decode cJ6_bitCount_0f7a4 46 = .ok (.iadd, 1) := by decide +kernel
theorem dJ6_bitCount_0f7a4_47 : decode cJ6_bitCount_0f7a4 47 = .ok (.istore_n 0, 1) := by decide +kernel
theorem dJ6_bitCount_0f7a4_48 : decode cJ6_bitCount_0f7a4 48 = .ok (.iload_n 0, 1) := by decide +kernel
theorem dJ6_bitCount_0f7a4_49 : decode cJ6_bitCount_0f7a4 49 = .ok (.bipush 63, 2) := by decide +kernel
theorem dJ6_bitCount_0f7a4_51 : decode cJ6_bitCount_0f7a4 51 = .ok (.iand, 1) := by decide +kernel
theorem dJ6_bitCount_0f7a4_52 : decode cJ6_bitCount_0f7a4 52 = .ok (.ireturn, 1) := by decide +kernel
theorem dJ9_max_7cf53_0 : decode cJ9_max_7cf53 0 = .ok (.iload_n 0, 1) := by decide +kernel
theorem dJ9_max_7cf53_1 : decode cJ9_max_7cf53 1 = .ok (.iload_n 1, 1) := by decide +kernel
theorem dJ9_max_7cf53_2 : decode cJ9_max_7cf53 2 = .ok (.if_icmp .lt 7, 3) := by decide +kernel
theorem dJ9_max_7cf53_5 : decode cJ9_max_7cf53 5 = .ok (.iload_n 0, 1) := by decide +kernel
theorem dJ9_max_7cf53_6 : decode cJ9_max_7cf53 6 = .ok (.goto 4, 3) := by decide +kernel
theorem dJ9_max_7cf53_9 : decode cJ9_max_7cf53 9 = .ok (.iload_n 1, 1) := by decide +kernel
theorem dJ9_max_7cf53_10 : decode cJ9_max_7cf53 10 = .ok (.ireturn, 1) := by decide +kernel
theorem dJ9_min_7cf53_0 : decode cJ9_min_7cf53 0 = .ok (.iload_n 0, 1) := by decide +kernel
theorem dJ9_min_7cf53_1 : decode cJ9_min_7cf53 1 = .ok (.iload_n 1, 1) := by decide +kernel
theorem dJ9_min_7cf53_2 : decode cJ9_min_7cf53 2 = .ok (.if_icmp .gt 7, 3) := by decide +kernel
theorem dJ9_min_7cf53_5 : decode cJ9_min_7cf53 5 = .ok (.iload_n 0, 1) := by decide +kernel
theorem dJ9_min_7cf53_6 : decode cJ9_min_7cf53 6 = .ok (.goto 4, 3) := by decide +kernel
theorem dJ9_min_7cf53_9 : decode cJ9_min_7cf53 9 = .ok (.iload_n 1, 1) := by decide +kernel
theorem dJ9_min_7cf53_10 : decode cJ9_min_7cf53 10 = .ok (.ireturn, 1) := by decide +kernel
theorem dJ0_length_8abf5_0 : decode cJ0_length_8abf5 0 = .ok (.aload_n 0, 1) := by decide +kernel
theorem dJ0_length_8abf5_1 : decode cJ0_length_8abf5 1 = .ok (.getfield 9, 3) := by decide +kernel
theorem dJ0_length_8abf5_4 : decode cJ0_length_8abf5 4 = .ok (.arraylength, 1) := by decide +kernel
theorem dJ0_length_8abf5_5 : decode cJ0_length_8abf5 5 = .ok (.aload_n 0, 1) := by decide +kernel
theorem dJ0_length_8abf5_6 : decode cJ0_length_8abf5 6 = .ok (.invokevirtual 335, 3) := by decide +kernel
theorem dJ0_length_8abf5_9 : decode cJ0_length_8abf5 9 = .ok (.ishr, 1) := by decide +kernel
theorem dJ0_length_8abf5_10 : decode cJ0_length_8abf5 10 = .ok (.ireturn, 1) := by decide +kernel
theorem dJ0_indexOf_0f7a4_0 : decode cJ0_indexOf_0f7a4 0 = .ok (.aload_n 0, 1) := by decide +kernel
theorem dJ0_indexOf_0f7a4_1 : decode cJ0_indexOf_0f7a4 1 = .ok (.iload_n 1, 1) := by decide +kernel
theorem dJ0_indexOf_0f7a4_2 : decode cJ0_indexOf_0f7a4 2 = .ok (.iconst 0, 1) := by decide +kernel
theorem dJ0_indexOf_0f7a4_3 : decode cJ0_indexOf_0f7a4 3 = .ok (.invokevirtual 633, 3) := by decide +kernel
theorem dJ0_indexOf_0f7a4_6 : decode cJ0_indexOf_0f7a4 6 = .ok (.ireturn, 1) := by decide +kernel
theorem dJ0_indexOf_7cf53_0 : decode cJ0_indexOf_7cf53 0 = .ok (.aload_n 0, 1) := by decide +kernel
theorem dJ0_indexOf_7cf53_1 : decode cJ0_indexOf_7cf53 1 = .ok (.invokevirtual 492, 3) := by decide +kernel
theorem dJ0_indexOf_7cf53_4 : decode cJ0_indexOf_7cf53 4 = .ok (.ifCond .eq 19, 3) := by decide +kernel
theorem dJ0_indexOf_7cf53_7 : decode cJ0_indexOf_7cf53 7 = .ok (.aload_n 0, 1) := by decide +kernel
theorem dJ0_indexOf_7cf53_8 : decode cJ0_indexOf_7cf53 8 = .ok (.getfield 9, 3) := by decide +kernel
theorem dJ0_indexOf_7cf53_11 : decode cJ0_indexOf_7cf53 11 = .ok (.iload_n 1, 1) := by decide +kernel
theorem dJ0_indexOf_7cf53_12 : decode cJ0_indexOf_7cf53 12 = .ok (.iload_n 2, 1) := by decide +kernel
theorem dJ0_indexOf_7cf53_13 : decode cJ0_indexOf_7cf53 13 = .ok (.aload_n 0, 1) := by decide +kernel
theorem dJ0_indexOf_7cf53_14 : decode cJ0_indexOf_7cf53 14 = .ok (.invokevirtual 505, 3) := by decide +kernel
theorem dJ0_indexOf_7cf53_17 : decode cJ0_indexOf_7cf53 17 = .ok (.invokestatic 637, 3) := by decide +kernel
theorem dJ0_indexOf_7cf53_20 : decode cJ0_indexOf_7cf53 20 = .ok (.goto 16, 3) := by decide +kernel
theorem dJ0_indexOf_7cf53_23 : decode cJ0_indexOf_7cf53 23 = .ok (.aload_n 0, 1) := by decide +kernel
theorem dJ0_indexOf_7cf53_24 : decode cJ0_indexOf_7cf53 24 = .ok (.getfield 9, 3) := by decide +kernel
theorem dJ0_indexOf_7cf53_27 : decode cJ0_indexOf_7cf53 27 = .ok (.iload_n 1, 1) := by decide +kernel
theorem dJ0_indexOf_7cf53_28 : decode cJ0_indexOf_7cf53 28 = .ok (.iload_n 2, 1) := by decide +kernel
theorem dJ0_indexOf_7cf53_29 : decode cJ0_indexOf_7cf53 29 = .ok (.aload_n 0, 1) := by decide +kernel
theorem dJ0_indexOf_7cf53_30 : decode cJ0_indexOf_7cf53 30 = .ok (.invokevirtual 505, 3) := by decide +kernel
theorem dJ0_indexOf_7cf53_33 : decode cJ0_indexOf_7cf53 33 = .ok (.invokestatic 640, 3) := by decide +kernel
theorem dJ0_indexOf_7cf53_36 : decode cJ0_indexOf_7cf53 36 = .ok (.ireturn, 1) := by decide +kernel
theorem dJ0_coder_7d493_0 : decode cJ0_coder_7d493 0 = .ok (.getstatic 38, 3) := by decide +kernel
theorem dJ0_coder_7d493_3 : decode cJ0_coder_7d493 3 = .ok (.ifCond .eq 10, 3) := by decide +kernel
theorem dJ0_coder_7d493_6 : decode cJ0_coder_7d493 6 = .ok (.aload_n 0, 1) := by decide +kernel
theorem dJ0_coder_7d493_7 : decode cJ0_coder_7d493 7 = .ok (.getfield 15, 3) := by decide +kernel
theorem dJ0_coder_7d493_10 : decode cJ0_coder_7d493 10 = .ok (.goto 4, 3) := by decide +kernel
theorem dJ0_coder_7d493_13 : decode cJ0_coder_7d493 13 = .ok (.iconst 1, 1) := by decide +kernel
theorem dJ0_coder_7d493_14 : decode cJ0_coder_7d493 14 = .ok (.ireturn, 1) := by decide +kernel
theorem dJ0_isLatin1_aae02_0 : decode cJ0_isLatin1_aae02 0 = .ok (.getstatic 38, 3) := by decide +kernel
theorem dJ0_isLatin1_aae02_3 : decode cJ0_isLatin1_aae02 3 = .ok (.ifCond .eq 14, 3) := by decide +kernel
theorem dJ0_isLatin1_aae02_6 : decode cJ0_isLatin1_aae02 6 = .ok (.aload_n 0, 1) := by decide +kernel
theorem dJ0_isLatin1_aae02_7 : decode cJ0_isLatin1_aae02 7 = .ok (.getfield 15, 3) := by decide +kernel
theorem dJ0_isLatin1_aae02_10 : decode cJ0_isLatin1_aae02 10 = .ok (.ifCond .ne 7, 3) := by decide +kernel
theorem dJ0_isLatin1_aae02_13 : decode cJ0_isLatin1_aae02 13 = .ok (.iconst 1, 1) := by decide +kernel
theorem dJ0_isLatin1_aae02_14 : decode cJ0_isLatin1_aae02 14 = .ok (.goto 4, 3) := by decide +kernel
theorem dJ0_isLatin1_aae02_17 : decode cJ0_isLatin1_aae02 17 = .ok (.iconst 0, 1) := by decide +kernel
theorem dJ0_isLatin1_aae02_18 : decode cJ0_isLatin1_aae02 18 = .ok (.ireturn, 1) := by decide +kernel
theorem dJ0_checkBoundsBeginEnd_23922_0 : decode cJ0_checkBoundsBeginEnd_23922 0 = .ok (.iload_n 0, 1) := by decide +kernel
theorem dJ0_checkBoundsBeginEnd_23922_1 : decode cJ0_checkBoundsBeginEnd_23922 1 = .ok (.iload_n 1, 1) := by decide +kernel
theorem dJ0_checkBoundsBeginEnd_23922_2 : decode cJ0_checkBoundsBeginEnd_23922 2 = .ok (.iload_n 2, 1) := by decide +kernel
theorem dJ0_checkBoundsBeginEnd_23922_3 : decode cJ0_checkBoundsBeginEnd_23922 3 = .ok (.getstatic 1053, 3) := by decide +kernel
theorem dJ0_checkBoundsBeginEnd_23922_6 : decode cJ0_checkBoundsBeginEnd_23922 6 = .ok (.invokestatic 1062, 3) := by decide +kernel
theorem dJ0_checkBoundsBeginEnd_23922_9 : decode cJ0_checkBoundsBeginEnd_23922 9 = .ok (.pop, 1) := by decide +kernel
theorem dJ0_checkBoundsBeginEnd_23922_10 : decode cJ0_checkBoundsBeginEnd_23922 10 = .ok (.return_, 1) := by decide +kernel
theorem dJ1_canEncode_9a6ad_0 : decode cJ1_canEncode_9a6ad 0 = .ok (.iload_n 0, 1) := by decide +kernel
theorem dJ1_canEncode_9a6ad_1 : decode cJ1_canEncode_9a6ad 1 = .ok (.ifCond .lt 14, 3) := by decide +kernel
theorem dJ1_canEncode_9a6ad_4 : decode cJ1_canEncode_9a6ad 4 = .ok (.iload_n 0, 1) := by decide +kernel
theorem dJ1_canEncode_9a6ad_5 : decode cJ1_canEncode_9a6ad 5 = .ok (.sipush 255, 3) := by decide +kernel
theorem dJ1_canEncode_9a6ad_8 : decode cJ1_canEncode_9a6ad 8 = .ok (.if_icmp .gt 7, 3) := by decide +kernel
theorem dJ1_canEncode_9a6ad_11 : decode cJ1_canEncode_9a6ad 11 = .ok (.iconst 1, 1) := by decide +kernel
theorem dJ1_canEncode_9a6ad_12 : decode cJ1_canEncode_9a6ad 12 = .ok (.goto 4, 3) := by decide +kernel
theorem dJ1_canEncode_9a6ad_15 : decode cJ1_canEncode_9a6ad 15 = .ok (.iconst 0, 1) := by decide +kernel
theorem dJ1_canEncode_9a6ad_16 : decode cJ1_canEncode_9a6ad 16 = .ok (.ireturn, 1) := by decide +kernel
theorem dJ1_indexOf_4cfef_0 : decode cJ1_indexOf_4cfef 0 = .ok (.iload_n 1, 1) := by decide +kernel
theorem dJ1_indexOf_4cfef_1 : decode cJ1_indexOf_4cfef 1 = .ok (.invokestatic 88, 3) := by decide +kernel
theorem dJ1_indexOf_4cfef_4 : decode cJ1_indexOf_4cfef 4 = .ok (.ifCond .ne 5, 3) := by decide +kernel
theorem dJ1_indexOf_4cfef_7 : decode cJ1_indexOf_4cfef 7 = .ok (.iconst (-1), 1) := by decide +kernel
theorem dJ1_indexOf_4cfef_8 : decode cJ1_indexOf_4cfef 8 = .ok (.ireturn, 1) := by decide +kernel
theorem dJ1_indexOf_4cfef_9 : decode cJ1_indexOf_4cfef 9 = .ok (.iload_n 2, 1) := by decide +kernel
theorem dJ1_indexOf_4cfef_10 : decode cJ1_indexOf_4cfef 10 = .ok (.iconst 0, 1) := by decide +kernel
theorem dJ1_indexOf_4cfef_11 : decode cJ1_indexOf_4cfef 11 = .ok (.invokestatic 92, 3) := by decide +kernel
theorem dJ1_indexOf_4cfef_14 : decode cJ1_indexOf_4cfef 14 = .ok (.istore_n 2, 1) := by decide +kernel
theorem dJ1_indexOf_4cfef_15 : decode cJ1_indexOf_4cfef 15 = .ok (.iload_n 3, 1) := by decide +kernel
theorem dJ1_indexOf_4cfef_16 : decode cJ1_indexOf_4cfef 16 = .ok (.aload_n 0, 1) := by decide +kernel
theorem dJ1_indexOf_4cfef_17 : decode cJ1_indexOf_4cfef 17 = .ok (.arraylength, 1) := by decide +kernel
theorem dJ1_indexOf_4cfef_18 : decode cJ1_indexOf_4cfef 18 = .ok (.invokestatic 38, 3) := by decide +kernel
theorem dJ1_indexOf_4cfef_21 : decode cJ1_indexOf_4cfef 21 = .ok (.istore_n 3, 1) := by decide +kernel
theorem dJ1_indexOf_4cfef_22 : decode cJ1_indexOf_4cfef 22 = .ok (.iload_n 2, 1) := by decide +kernel
theorem dJ1_indexOf_4cfef_23 : decode cJ1_indexOf_4cfef 23 = .ok (.iload_n 3, 1) := by decide +kernel
theorem dJ1_indexOf_4cfef_24 : decode cJ1_indexOf_4cfef 24 = .ok (.if_icmp .lt 5, 3) := by decide +kernel
theorem dJ1_indexOf_4cfef_27 : decode cJ1_indexOf_4cfef 27 = .ok (.iconst (-1), 1) := by decide +kernel
theorem dJ1_indexOf_4cfef_28 : decode cJ1_indexOf_4cfef 28 = .ok (.ireturn, 1) := by decide +kernel
theorem dJ1_indexOf_4cfef_29 : decode cJ1_indexOf_4cfef 29 = .ok (.aload_n 0, 1) := by decide +kernel
theorem dJ1_indexOf_4cfef_30 : decode cJ1_indexOf_4cfef 30 = .ok (.iload_n 1, 1) := by decide +kernel
theorem dJ1_indexOf_4cfef_31 : decode cJ1_indexOf_4cfef 31 = .ok (.iload_n 2, 1) := by decide +kernel
theorem dJ1_indexOf_4cfef_32 : decode cJ1_indexOf_4cfef 32 = .ok (.iload_n 3, 1) := by decide +kernel
theorem dJ1_indexOf_4cfef_33 : decode cJ1_indexOf_4cfef 33 = .ok (.invokestatic 95, 3) := by decide +kernel
theorem dJ1_indexOf_4cfef_36 : decode cJ1_indexOf_4cfef 36 = .ok (.ireturn, 1) := by decide +kernel
theorem dJ1_indexOfChar_4cfef_0 : decode cJ1_indexOfChar_4cfef 0 = .ok (.iload_n 1, 1) := by decide +kernel
theorem dJ1_indexOfChar_4cfef_1 : decode cJ1_indexOfChar_4cfef 1 = .ok (.i2b, 1) := by decide +kernel
theorem dJ1_indexOfChar_4cfef_2 : decode cJ1_indexOfChar_4cfef 2 = .ok (.istore 4, 2) := by decide +kernel
theorem dJ1_indexOfChar_4cfef_4 : decode cJ1_indexOfChar_4cfef 4 = .ok (.iload_n 2, 1) := by decide +kernel
theorem dJ1_indexOfChar_4cfef_5 : decode cJ1_indexOfChar_4cfef 5 = .ok (.istore 5, 2) := by decide +kernel
theorem dJ1_indexOfChar_4cfef_7 : decode cJ1_indexOfChar_4cfef 7 = .ok (.iload 5, 2) := by decide +kernel
theorem dJ1_indexOfChar_4cfef_9 : decode cJ1_indexOfChar_4cfef 9 = .ok (.iload_n 3, 1) := by decide +kernel
theorem dJ1_indexOfChar_4cfef_10 : decode cJ1_indexOfChar_4cfef 10 = .ok (.if_icmp .ge 21, 3) := by decide +kernel
theorem dJ1_indexOfChar_4cfef_13 : decode cJ1_indexOfChar_4cfef 13 = .ok (.aload_n 0, 1) := by decide +kernel
theorem dJ1_indexOfChar_4cfef_14 : decode cJ1_indexOfChar_4cfef 14 = .ok (.iload 5, 2) := by decide +kernel
theorem dJ1_indexOfChar_4cfef_16 : decode cJ1_indexOfChar_4cfef 16 = .ok (.baload, 1) := by decide +kernel
theorem dJ1_indexOfChar_4cfef_17 : decode cJ1_indexOfChar_4cfef 17 = .ok (.iload 4, 2) := by decide +kernel
theorem dJ1_indexOfChar_4cfef_19 : decode cJ1_indexOfChar_4cfef 19 = .ok (.if_icmp .ne 6, 3) := by decide +kernel
theorem dJ1_indexOfChar_4cfef_22 : decode cJ1_indexOfChar_4cfef 22 = .ok (.iload 5, 2) := by decide +kernel
theorem dJ1_indexOfChar_4cfef_24 : decode cJ1_indexOfChar_4cfef 24 = .ok (.ireturn, 1) := by decide +kernel
theorem dJ1_indexOfChar_4cfef_25 : decode cJ1_indexOfChar_4cfef 25 = .ok (.iinc 5 1, 3) := by decide +kernel
theorem dJ1_indexOfChar_4cfef_28 : decode cJ1_indexOfChar_4cfef 28 = .ok (.goto (-21), 3) := by decide +kernel
theorem dJ1_indexOfChar_4cfef_31 : decode cJ1_indexOfChar_4cfef 31 = .ok (.iconst (-1), 1) := by decide +kernel
theorem dJ1_indexOfChar_4cfef_32 : decode cJ1_indexOfChar_4cfef 32 = .ok (.ireturn, 1) := by decide +kernel
theorem dJ2_getChar_3b067_0 : decode cJ2_getChar_3b067 0 = .ok (.getstatic 44, 3) := by decide +kernel
theorem dJ2_getChar_3b067_3 : decode cJ2_getChar_3b067 3 = .ok (.ifCond .ne 25, 3) := by decide +kernel
theorem dJ2_getChar_3b067_6 : decode cJ2_getChar_3b067 6 = .ok (.iload_n 1, 1) := by decide +kernel
theorem dJ2_getChar_3b067_7 : decode cJ2_getChar_3b067 7 = .ok (.ifCond .lt 11, 3) := by decide +kernel
theorem dJ2_getChar_3b067_10 : decode cJ2_getChar_3b067 10 = .ok (.iload_n 1, 1) := by decide +kernel
theorem dJ2_getChar_3b067_11 : decode cJ2_getChar_3b067 11 = .ok (.aload_n 0, 1) := by decide +kernel
theorem dJ2_getChar_3b067_12 : decode cJ2_getChar_3b067 12 = .ok (.invokestatic 48, 3) := by decide +kernel
theorem dJ2_getChar_3b067_15 : decode cJ2_getChar_3b067 15 = .ok (.if_icmp .lt 13, 3) := by decide +kernel
theorem dJ2_getChar_3b067_18 : decode cJ2_getChar_3b067 18 = .ok (.new 52, 3) := by decide +kernel
theorem dJ2_getChar_3b067_21 : decode cJ2_getChar_3b067 21 = .ok (.dup, 1) := by decide +kernel
theorem dJ2_getChar_3b067_22 : decode cJ2_getChar_3b067 22 = .ok (.ldc 54, 2) := by decide +kernel
theorem dJ2_getChar_3b067_24 : decode cJ2_getChar_3b067 24 = .ok (.invokespecial 56, 3) := by decide +kernel
theorem dJ2_getChar_3b067_27 : decode cJ2_getChar_3b067 27 = .ok (.athrow, 1) := by decide +kernel
theorem dJ2_getChar_3b067_28 : decode cJ2_getChar_3b067 28 = .ok (.iload_n 1, 1) := by decide +kernel
theorem dJ2_getChar_3b067_29 : decode cJ2_getChar_3b067 29 = .ok (.iconst 1, 1) := by decide +kernel
theorem dJ2_getChar_3b067_30 : decode cJ2_getChar_3b067 30 = .ok (.ishl, 1) := by decide +kernel
theorem dJ2_getChar_3b067_31 : decode cJ2_getChar_3b067 31 = .ok (.istore_n 1, 1) := by decide +kernel
theorem dJ2_getChar_3b067_32 : decode cJ2_getChar_3b067 32 = .ok (.aload_n 0, 1) := by decide +kernel
theorem dJ2_getChar_3b067_33 : decode cJ2_getChar_3b067 33 = .ok (.iload_n 1, 1) := by decide +kernel
theorem dJ2_getChar_3b067_34 : decode cJ2_getChar_3b067 34 = .ok (.iinc 1 1, 3) := by decide +kernel
theorem dJ2_getChar_3b067_37 : decode cJ2_getChar_3b067 37 = .ok (.baload, 1) := by decide +kernel
theorem dJ2_getChar_3b067_38 : decode cJ2_getChar_3b067 38 = .ok (.sipush 255, 3) := by decide +kernel
theorem dJ2_getChar_3b067_41 : decode cJ2_getChar_3b067 41 = .ok (.iand, 1) := by decide +kernel
theorem dJ2_getChar_3b067_42 : decode cJ2_getChar_3b067 42 = .ok (.getstatic 59, 3) := by decide +kernel
theorem dJ2_getChar_3b067_45 : decode cJ2_getChar_3b067 45 = .ok (.ishl, 1) := by decide +kernel
theorem dJ2_getChar_3b067_46 : decode cJ2_getChar_3b067 46 = .ok (.aload_n 0, 1) := by decide +kernel
theorem dJ2_getChar_3b067_47 : decode cJ2_getChar_3b067 47 = .ok (.iload_n 1, 1) := by decide +kernel
theorem dJ2_getChar_3b067_48 : decode cJ2_getChar_3b067 48 = .ok (.baload, 1) := by decide +kernel
theorem dJ2_getChar_3b067_49 : decode cJ2_getChar_3b067 49 = .ok (.sipush 255, 3) := by decide +kernel
theorem dJ2_getChar_3b067_52 : decode cJ2_getChar_3b067 52 = .ok (.iand, 1) := by decide +kernel
theorem dJ2_getChar_3b067_53 : decode cJ2_getChar_3b067 53 = .ok (.getstatic 63, 3) := by decide +kernel
theorem dJ2_getChar_3b067_56 : decode cJ2_getChar_3b067 56 = .ok (.ishl, 1) := by decide +kernel
theorem dJ2_getChar_3b067_57 : decode cJ2_getChar_3b067 57 = .ok (.ior, 1) := by decide +kernel
theorem dJ2_getChar_3b067_58 : decode cJ2_getChar_3b067 58 = .ok (.i2c, 1) := by decide +kernel
theorem dJ2_getChar_3b067_59 : decode cJ2_getChar_3b067 59 = .ok (.ireturn, 1) := by decide +kernel
theorem dJ2_length_9d52b_0 : decode cJ2_length_9d52b 0 = .ok (.aload_n 0, 1) := by decide +kernel
theorem dJ2_length_9d52b_1 : decode cJ2_length_9d52b 1 = .ok (.arraylength, 1) := by decide +kernel
theorem dJ2_length_9d52b_2 : decode cJ2_length_9d52b 2 = .ok (.iconst 1, 1) := by decide +kernel
theorem dJ2_length_9d52b_3 : decode cJ2_length_9d52b 3 = .ok (.ishr, 1) := by decide +kernel
theorem dJ2_length_9d52b_4 : decode cJ2_length_9d52b 4 = .ok (.ireturn, 1) := by decide +kernel
theorem dJ2_indexOf_4cfef_0 : decode cJ2_indexOf_4cfef 0 = .ok (.iload_n 2, 1) := by decide +kernel
theorem dJ2_indexOf_4cfef_1 : decode cJ2_indexOf_4cfef 1 = .ok (.iconst 0, 1) := by decide +kernel
theorem dJ2_indexOf_4cfef_2 : decode cJ2_indexOf_4cfef 2 = .ok (.invokestatic 224, 3) := by decide +kernel
theorem dJ2_indexOf_4cfef_5 : decode cJ2_indexOf_4cfef 5 = .ok (.istore_n 2, 1) := by decide +kernel
theorem dJ2_indexOf_4cfef_6 : decode cJ2_indexOf_4cfef 6 = .ok (.iload_n 3, 1) := by decide +kernel
theorem dJ2_indexOf_4cfef_7 : decode cJ2_indexOf_4cfef 7 = .ok (.aload_n 0, 1) := by decide +kernel
theorem dJ2_indexOf_4cfef_8 : decode cJ2_indexOf_4cfef 8 = .ok (.arraylength, 1) := by decide +kernel
theorem dJ2_indexOf_4cfef_9 : decode cJ2_indexOf_4cfef 9 = .ok (.iconst 1, 1) := by decide +kernel
theorem dJ2_indexOf_4cfef_10 : decode cJ2_indexOf_4cfef 10 = .ok (.ishr, 1) := by decide +kernel
theorem dJ2_indexOf_4cfef_11 : decode cJ2_indexOf_4cfef 11 = .ok (.invokestatic 183, 3) := by decide +kernel
theorem dJ2_indexOf_4cfef_14 : decode cJ2_indexOf_4cfef 14 = .ok (.istore_n 3, 1) := by decide +kernel
theorem dJ2_indexOf_4cfef_15 : decode cJ2_indexOf_4cfef 15 = .ok (.iload_n 2, 1) := by decide +kernel
theorem dJ2_indexOf_4cfef_16 : decode cJ2_indexOf_4cfef 16 = .ok (.iload_n 3, 1) := by decide +kernel
theorem dJ2_indexOf_4cfef_17 : decode cJ2_indexOf_4cfef 17 = .ok (.if_icmp .lt 5, 3) := by decide +kernel
theorem dJ2_indexOf_4cfef_20 : decode cJ2_indexOf_4cfef 20 = .ok (.iconst (-1), 1) := by decide +kernel
theorem dJ2_indexOf_4cfef_21 : decode cJ2_indexOf_4cfef 21 = .ok (.ireturn, 1) := by decide +kernel
theorem dJ2_indexOf_4cfef_22 : decode cJ2_indexOf_4cfef 22 = .ok (.iload_n 1, 1) := by decide +kernel
theorem dJ2_indexOf_4cfef_23 : decode cJ2_indexOf_4cfef 23 = .ok (.ldc 227, 2) := by decide +kernel
theorem dJ2_indexOf_4cfef_25 : decode cJ2_indexOf_4cfef 25 = .ok (.if_icmp .ge 11, 3) := by decide +kernel
theorem dJ2_indexOf_4cfef_28 : decode cJ2_indexOf_4cfef 28 = .ok (.aload_n 0, 1) := by decide +kernel
theorem dJ2_indexOf_4cfef_29 : decode cJ2_indexOf_4cfef 29 = .ok (.iload_n 1, 1) := by decide +kernel
theorem dJ2_indexOf_4cfef_30 : decode cJ2_indexOf_4cfef 30 = .ok (.iload_n 2, 1) := by decide +kernel
theorem dJ2_indexOf_4cfef_31 : decode cJ2_indexOf_4cfef 31 = .ok (.iload_n 3, 1) := by decide +kernel
theorem dJ2_indexOf_4cfef_32 : decode cJ2_indexOf_4cfef 32 = .ok (.invokestatic 228, 3) := by decide +kernel
theorem dJ2_indexOf_4cfef_35 : decode cJ2_indexOf_4cfef 35 = .ok (.ireturn, 1) := by decide +kernel
theorem dJ2_indexOf_4cfef_36 : decode cJ2_indexOf_4cfef 36 = .ok (.aload_n 0, 1) := by decide +kernel
theorem dJ2_indexOf_4cfef_37 : decode cJ2_indexOf_4cfef 37 = .ok (.iload_n 1, 1) := by decide +kernel
theorem dJ2_indexOf_4cfef_38 : decode cJ2_indexOf_4cfef 38 = .ok (.iload_n 2, 1) := by decide +kernel
theorem dJ2_indexOf_4cfef_39 : decode cJ2_indexOf_4cfef 39 = .ok (.iload_n 3, 1) := by decide +kernel
theorem dJ2_indexOf_4cfef_40 : decode cJ2_indexOf_4cfef 40 = .ok (.invokestatic 232, 3) := by decide +kernel
theorem dJ2_indexOf_4cfef_43 : decode cJ2_indexOf_4cfef 43 = .ok (.ireturn, 1) := by decide +kernel
theorem dJ2_indexOfChar_4cfef_0 : decode cJ2_indexOfChar_4cfef 0 = .ok (.iload_n 2, 1) := by decide +kernel
theorem dJ2_indexOfChar_4cfef_1 : decode cJ2_indexOfChar_4cfef 1 = .ok (.iload_n 3, 1) := by decide +kernel
theorem dJ2_indexOfChar_4cfef_2 : decode cJ2_indexOfChar_4cfef 2 = .ok (.aload_n 0, 1) := by decide +kernel
theorem dJ2_indexOfChar_4cfef_3 : decode cJ2_indexOfChar_4cfef 3 = .ok (.invokestatic 96, 3) := by decide +kernel
theorem dJ2_indexOfChar_4cfef_6 : decode cJ2_indexOfChar_4cfef 6 = .ok (.aload_n 0, 1) := by decide +kernel
theorem dJ2_indexOfChar_4cfef_7 : decode cJ2_indexOfChar_4cfef 7 = .ok (.iload_n 1, 1) := by decide +kernel
theorem dJ2_indexOfChar_4cfef_8 : decode cJ2_indexOfChar_4cfef 8 = .ok (.iload_n 2, 1) := by decide +kernel
theorem dJ2_indexOfChar_4cfef_9 : decode cJ2_indexOfChar_4cfef 9 = .ok (.iload_n 3, 1) := by decide +kernel
theorem dJ2_indexOfChar_4cfef_10 : decode cJ2_indexOfChar_4cfef 10 = .ok (.invokestatic 244, 3) := by decide +kernel
theorem dJ2_indexOfChar_4cfef_13 : decode cJ2_indexOfChar_4cfef 13 = .ok (.ireturn, 1) := by decide +kernel
theorem dJ2_indexOfCharUnsafe_4cfef_0 : decode cJ2_indexOfCharUnsafe_4cfef 0 = .ok (.iload_n 2, 1) := by decide +kernel
theorem dJ2_indexOfCharUnsafe_4cfef_1 : decode cJ2_indexOfCharUnsafe_4cfef 1 = .ok (.istore 4, 2) := by decide +kernel
theorem dJ2_indexOfCharUnsafe_4cfef_3 : decode cJ2_indexOfCharUnsafe_4cfef 3 = .ok (.iload 4, 2) := by decide +kernel
theorem dJ2_indexOfCharUnsafe_4cfef_5 : decode cJ2_indexOfCharUnsafe_4cfef 5 = .ok (.iload_n 3, 1) := by decide +kernel
theorem dJ2_indexOfCharUnsafe_4cfef_6 : decode cJ2_indexOfCharUnsafe_4cfef 6 = .ok (.if_icmp .ge 22, 3) := by decide +kernel
theorem dJ2_indexOfCharUnsafe_4cfef_9 : decode cJ2_indexOfCharUnsafe_4cfef 9 = .ok (.aload_n 0, 1) := by decide +kernel
theorem dJ2_indexOfCharUnsafe_4cfef_10 : decode cJ2_indexOfCharUnsafe_4cfef 10 = .ok (.iload 4, 2) := by decide +kernel
theorem dJ2_indexOfCharUnsafe_4cfef_12 : decode cJ2_indexOfCharUnsafe_4cfef 12 = .ok (.invokestatic 71, 3) := by decide +kernel
theorem dJ2_indexOfCharUnsafe_4cfef_15 : decode cJ2_indexOfCharUnsafe_4cfef 15 = .ok (.iload_n 1, 1) := by decide +kernel
theorem dJ2_indexOfCharUnsafe_4cfef_16 : decode cJ2_indexOfCharUnsafe_4cfef 16 = .ok (.if_icmp .ne 6, 3) := by decide +kernel
theorem dJ2_indexOfCharUnsafe_4cfef_19 : decode cJ2_indexOfCharUnsafe_4cfef 19 = .ok (.iload 4, 2) := by decide +kernel
theorem dJ2_indexOfCharUnsafe_4cfef_21 : decode cJ2_indexOfCharUnsafe_4cfef 21 = .ok (.ireturn, 1) := by decide +kernel
theorem dJ2_indexOfCharUnsafe_4cfef_22 : decode cJ2_indexOfCharUnsafe_4cfef 22 = .ok (.iinc 4 1, 3) := by decide +kernel
theorem dJ2_indexOfCharUnsafe_4cfef_25 : decode cJ2_indexOfCharUnsafe_4cfef 25 = .ok (.goto (-22), 3) := by decide +kernel
theorem dJ2_indexOfCharUnsafe_4cfef_28 : decode cJ2_indexOfCharUnsafe_4cfef 28 = .ok (.iconst (-1), 1) := by decide +kernel
theorem dJ2_indexOfCharUnsafe_4cfef_29 : decode cJ2_indexOfCharUnsafe_4cfef 29 = .ok (.ireturn, 1) := by decide +kernel
theorem dJ2_indexOfSupplementary_4cfef_0 : decode cJ2_indexOfSupplementary_4cfef 0 = .ok (.iload_n 1, 1) := by decide +kernel
theorem dJ2_indexOfSupplementary_4cfef_1 : decode cJ2_indexOfSupplementary_4cfef 1 = .ok (.invokestatic 164, 3) := by decide +kernel
theorem dJ2_indexOfSupplementary_4cfef_4 : decode cJ2_indexOfSupplementary_4cfef 4 = .ok (.ifCond .eq 65, 3) := by decide +kernel
theorem dJ2_indexOfSupplementary_4cfef_7 : decode cJ2_indexOfSupplementary_4cfef 7 = .ok (.iload_n 1, 1) := by decide +kernel
theorem dJ2_indexOfSupplementary_4cfef_8 : decode cJ2_indexOfSupplementary_4cfef 8 = .ok (.invokestatic 157, 3) := by decide +kernel
theorem dJ2_indexOfSupplementary_4cfef_11 : decode cJ2_indexOfSupplementary_4cfef 11 = .ok (.istore 4, 2) := by decide +kernel
theorem dJ2_indexOfSupplementary_4cfef_13 : decode cJ2_indexOfSupplementary_4cfef 13 = .ok (.iload_n 1, 1) := by decide +kernel
theorem dJ2_indexOfSupplementary_4cfef_14 : decode cJ2_indexOfSupplementary_4cfef 14 = .ok (.invokestatic 161, 3) := by decide +kernel
theorem dJ2_indexOfSupplementary_4cfef_17 : decode cJ2_indexOfSupplementary_4cfef 17 = .ok (.istore 5, 2) := by decide +kernel
theorem dJ2_indexOfSupplementary_4cfef_19 : decode cJ2_indexOfSupplementary_4cfef 19 = .ok (.iload_n 2, 1) := by decide +kernel
theorem dJ2_indexOfSupplementary_4cfef_20 : decode cJ2_indexOfSupplementary_4cfef 20 = .ok (.iload_n 3, 1) := by decide +kernel
theorem dJ2_indexOfSupplementary_4cfef_21 : decode cJ2_indexOfSupplementary_4cfef 21 = .ok (.aload_n 0, 1) := by decide +kernel
theorem dJ2_indexOfSupplementary_4cfef_22 : decode cJ2_indexOfSupplementary_4cfef 22 = .ok (.invokestatic 96, 3) := by decide +kernel
theorem dJ2_indexOfSupplementary_4cfef_25 : decode cJ2_indexOfSupplementary_4cfef 25 = .ok (.iload_n 2, 1) := by decide +kernel
theorem dJ2_indexOfSupplementary_4cfef_26 : decode cJ2_indexOfSupplementary_4cfef 26 = .ok (.istore 6, 2) := by decide +kernel
theorem dJ2_indexOfSupplementary_4cfef_28 : decode cJ2_indexOfSupplementary_4cfef 28 = .ok (.iload 6, 2) := by decide +kernel
theorem dJ2_indexOfSupplementary_4cfef_30 : decode cJ2_indexOfSupplementary_4cfef 30 = .ok (.iload_n 3, 1) := by decide +kernel
theorem dJ2_indexOfSupplementary_4cfef_31 : decode cJ2_indexOfSupplementary_4cfef 31 = .ok (.iconst 1, 1) := by decide +kernel
theorem dJ2_indexOfSupplementary_4cfef_32 : decode cJ2_indexOfSupplementary_4cfef 32 = .ok (.isub, 1) := by decide +kernel
theorem dJ2_indexOfSupplementary_4cfef_33 : decode cJ2_indexOfSupplementary_4cfef 33 = .ok (.if_icmp .ge 36, 3) := by decide +kernel
theorem dJ2_indexOfSupplementary_4cfef_36 : decode cJ2_indexOfSupplementary_4cfef 36 = .ok (.aload_n 0, 1) := by decide +kernel
theorem dJ2_indexOfSupplementary_4cfef_37 : decode cJ2_indexOfSupplementary_4cfef 37 = .ok (.iload 6, 2) := by decide +kernel
theorem dJ2_indexOfSupplementary_4cfef_39 : decode cJ2_indexOfSupplementary_4cfef 39 = .ok (.invokestatic 71, 3) := by decide +kernel
theorem dJ2_indexOfSupplementary_4cfef_42 : decode cJ2_indexOfSupplementary_4cfef 42 = .ok (.iload 4, 2) := by decide +kernel
theorem dJ2_indexOfSupplementary_4cfef_44 : decode cJ2_indexOfSupplementary_4cfef 44 = .ok (.if_icmp .ne 19, 3) := by decide +kernel
theorem dJ2_indexOfSupplementary_4cfef_47 : decode cJ2_indexOfSupplementary_4cfef 47 = .ok (.aload_n 0, 1) := by decide +kernel
theorem dJ2_indexOfSupplementary_4cfef_48 : decode cJ2_indexOfSupplementary_4cfef 48 = .ok (.iload 6, 2) := by decide +kernel
theorem dJ2_indexOfSupplementary_4cfef_50 : decode cJ2_indexOfSupplementary_4cfef 50 = .ok (.iconst 1, 1) := by decide +kernel
theorem dJ2_indexOfSupplementary_4cfef_51 : decode cJ2_indexOfSupplementary_4cfef 51 = .ok (.iadd, 1) := by decide +kernel
theorem dJ2_indexOfSupplementary_4cfef_52 : decode cJ2_indexOfSupplementary_4cfef 52 = .ok (.invokestatic 71, 3) := by decide +kernel
theorem dJ2_indexOfSupplementary_4cfef_55 : decode cJ2_indexOfSupplementary_4cfef 55 = .ok (.iload 5, 2) := by decide +kernel
theorem dJ2_indexOfSupplementary_4cfef_57 : decode cJ2_indexOfSupplementary_4cfef 57 = .ok (.if_icmp .ne 6, 3) := by decide +kernel
theorem dJ2_indexOfSupplementary_4cfef_60 : decode cJ2_indexOfSupplementary_4cfef 60 = .ok (.iload 6, 2) := by decide +kernel
theorem dJ2_indexOfSupplementary_4cfef_62 : decode cJ2_indexOfSupplementary_4cfef 62 = .ok (.ireturn, 1) := by decide +kernel
theorem dJ2_indexOfSupplementary_4cfef_63 : decode cJ2_indexOfSupplementary_4cfef 63 = .ok (.iinc 6 1, 3) := by decide +kernel
theorem dJ2_indexOfSupplementary_4cfef_66 : decode cJ2_indexOfSupplementary_4cfef 66 = .ok (.goto (-38), 3) := by decide +kernel
theorem dJ2_indexOfSupplementary_4cfef_69 : decode cJ2_indexOfSupplementary_4cfef 69 = .ok (.iconst (-1), 1) := by decide +kernel
theorem dJ2_indexOfSupplementary_4cfef_70 : decode cJ2_indexOfSupplementary_4cfef 70 = .ok (.ireturn, 1) := by decide +kernel
theorem dJ2_checkBoundsBeginEnd_d044e_0 : decode cJ2_checkBoundsBeginEnd_d044e 0 = .ok (.iload_n 0, 1) := by decide +kernel
theorem dJ2_checkBoundsBeginEnd_d044e_1 : decode cJ2_checkBoundsBeginEnd_d044e 1 = .ok (.iload_n 1, 1) := by decide +kernel
theorem dJ2_checkBoundsBeginEnd_d044e_2 : decode cJ2_checkBoundsBeginEnd_d044e 2 = .ok (.aload_n 2, 1) := by decide +kernel
theorem dJ2_checkBoundsBeginEnd_d044e_3 : decode cJ2_checkBoundsBeginEnd_d044e 3 = .ok (.invokestatic 48, 3) := by decide +kernel
theorem dJ2_checkBoundsBeginEnd_d044e_6 : decode cJ2_checkBoundsBeginEnd_d044e 6 = .ok (.invokestatic 241, 3) := by decide +kernel
theorem dJ2_checkBoundsBeginEnd_d044e_9 : decode cJ2_checkBoundsBeginEnd_d044e 9 = .ok (.return_, 1) := by decide +kernel
theorem dJ3_checkFromToIndex_8c36e_0 : decode cJ3_checkFromToIndex_8c36e 0 = .ok (.iload_n 0, 1) := by decide +kernel
theorem dJ3_checkFromToIndex_8c36e_1 : decode cJ3_checkFromToIndex_8c36e 1 = .ok (.ifCond .lt 13, 3) := by decide +kernel
theorem dJ3_checkFromToIndex_8c36e_4 : decode cJ3_checkFromToIndex_8c36e 4 = .ok (.iload_n 0, 1) := by decide +kernel
theorem dJ3_checkFromToIndex_8c36e_5 : decode cJ3_checkFromToIndex_8c36e 5 = .ok (.iload_n 1, 1) := by decide +kernel
theorem dJ3_checkFromToIndex_8c36e_6 : decode cJ3_checkFromToIndex_8c36e 6 = .ok (.if_icmp .gt 8, 3) := by decide +kernel
theorem dJ3_checkFromToIndex_8c36e_9 : decode cJ3_checkFromToIndex_8c36e 9 = .ok (.iload_n 1, 1) := by decide +kernel
theorem dJ3_checkFromToIndex_8c36e_10 : decode cJ3_checkFromToIndex_8c36e 10 = .ok (.iload_n 2, 1) := by decide +kernel
theorem dJ3_checkFromToIndex_8c36e_11 : decode cJ3_checkFromToIndex_8c36e 11 = .ok (.if_icmp .le 11, 3) := by decide +kernel
theorem dJ3_checkFromToIndex_8c36e_14 : decode cJ3_checkFromToIndex_8c36e 14 = .ok (.aload_n 3, 1) := by decide +kernel
theorem dJ3_checkFromToIndex_8c36e_15 : decode cJ3_checkFromToIndex_8c36e 15 = .ok (.iload_n 0, 1) := by decide +kernel
theorem dJ3_checkFromToIndex_8c36e_16 : decode cJ3_checkFromToIndex_8c36e 16 = .ok (.iload_n 1, 1) := by decide +kernel
theorem dJ3_checkFromToIndex_8c36e_17 : decode cJ3_checkFromToIndex_8c36e 17 = .ok (.iload_n 2, 1) := by decide +kernel
theorem dJ3_checkFromToIndex_8c36e_18 : decode cJ3_checkFromToIndex_8c36e 18 = .ok (.invokestatic 99, 3) := by decide +kernel
theorem dJ3_checkFromToIndex_8c36e_21 : decode cJ3_checkFromToIndex_8c36e 21 = .ok (.athrow, 1) := by decide +kernel
theorem dJ3_checkFromToIndex_8c36e_22 : decode cJ3_checkFromToIndex_8c36e 22 = .ok (.iload_n 0, 1) := by decide +kernel
theorem dJ3_checkFromToIndex_8c36e_23 : decode cJ3_checkFromToIndex_8c36e 23 = .ok (.ireturn, 1) := by decide +kernel
theorem dL_law_0 : decode cL_law 0 = .ok (.new 7, 3) := by decide +kernel
theorem dL_law_3 : decode cL_law 3 = .ok (.dup, 1) := by decide +kernel
theorem dL_law_4 : decode cL_law 4 = .ok (.invokespecial 9, 3) := by decide +kernel
theorem dL_law_7 : decode cL_law 7 = .ok (.astore_n 1, 1) := by decide +kernel
theorem dL_law_8 : decode cL_law 8 = .ok (.new 10, 3) := by decide +kernel
theorem dL_law_11 : decode cL_law 11 = .ok (.dup, 1) := by decide +kernel
theorem dL_law_12 : decode cL_law 12 = .ok (.invokespecial 12, 3) := by decide +kernel
theorem dL_law_15 : decode cL_law 15 = .ok (.astore_n 2, 1) := by decide +kernel
theorem dL_law_16 : decode cL_law 16 = .ok (.iconst 0, 1) := by decide +kernel
theorem dL_law_17 : decode cL_law 17 = .ok (.istore_n 3, 1) := by decide +kernel
theorem dL_law_18 : decode cL_law 18 = .ok (.iload_n 3, 1) := by decide +kernel
theorem dL_law_19 : decode cL_law 19 = .ok (.aload_n 0, 1) := by decide +kernel
theorem dL_law_20 : decode cL_law 20 = .ok (.arraylength, 1) := by decide +kernel
theorem dL_law_21 : decode cL_law 21 = .ok (.iconst 4, 1) := by decide +kernel
theorem dL_law_22 : decode cL_law 22 = .ok (.isub, 1) := by decide +kernel
theorem dL_law_23 : decode cL_law 23 = .ok (.if_icmp .gt 976, 3) := by decide +kernel
theorem dL_law_26 : decode cL_law 26 = .ok (.aload_n 0, 1) := by decide +kernel
theorem dL_law_27 : decode cL_law 27 = .ok (.iload_n 3, 1) := by decide +kernel
theorem dL_law_28 : decode cL_law 28 = .ok (.iaload, 1) := by decide +kernel
theorem dL_law_29 : decode cL_law 29 = .ok (.bipush 63, 2) := by decide +kernel
theorem dL_law_31 : decode cL_law 31 = .ok (.iand, 1) := by decide +kernel
theorem dL_law_32 : decode cL_law 32 = .ok (.tableswitch 961 0 34 #[156, 179, 192, 225, 258, 281, 304, 337, 360, 393, 416, 449, 462, 485, 508, 521, 544, 567, 600, 623, 656, 669, 682, 695, 708, 731, 754, 787, 820, 843, 856, 869, 912, 925, 938], 156) := by decide +kernel
theorem dL_law_188 : decode cL_law 188 = .ok (.aload_n 1, 1) := by decide +kernel
theorem dL_law_189 : decode cL_law 189 = .ok (.aload_n 0, 1) := by decide +kernel
theorem dL_law_190 : decode cL_law 190 = .ok (.iload_n 3, 1) := by decide +kernel
theorem dL_law_191 : decode cL_law 191 = .ok (.iconst 1, 1) := by decide +kernel
theorem dL_law_192 : decode cL_law 192 = .ok (.iadd, 1) := by decide +kernel
theorem dL_law_193 : decode cL_law 193 = .ok (.iaload, 1) := by decide +kernel
theorem dL_law_194 : decode cL_law 194 = .ok (.invokevirtual 13, 3) := by decide +kernel
theorem dL_law_197 : decode cL_law 197 = .ok (.aload_n 2, 1) := by decide +kernel
theorem dL_law_198 : decode cL_law 198 = .ok (.aload_n 0, 1) := by decide +kernel
theorem dL_law_199 : decode cL_law 199 = .ok (.iload_n 3, 1) := by decide +kernel
theorem dL_law_200 : decode cL_law 200 = .ok (.iconst 1, 1) := by decide +kernel
theorem dL_law_201 : decode cL_law 201 = .ok (.iadd, 1) := by decide +kernel
theorem dL_law_202 : decode cL_law 202 = .ok (.iaload, 1) := by decide +kernel
theorem dL_law_203 : decode cL_law 203 = .ok (.invokevirtual 17, 3) := by decide +kernel
theorem dL_law_206 : decode cL_law 206 = .ok (.if_icmp .eq 787, 3) := by decide +kernel
theorem dL_law_209 : decode cL_law 209 = .ok (.iconst 0, 1) := by decide +kernel
theorem dL_law_210 : decode cL_law 210 = .ok (.ireturn, 1) := by decide +kernel
theorem dL_law_211 : decode cL_law 211 = .ok (.aload_n 1, 1) := by decide +kernel
theorem dL_law_212 : decode cL_law 212 = .ok (.invokevirtual 18, 3) := by decide +kernel
theorem dL_law_215 : decode cL_law 215 = .ok (.aload_n 2, 1) := by decide +kernel
theorem dL_law_216 : decode cL_law 216 = .ok (.invokevirtual 22, 3) := by decide +kernel
theorem dL_law_219 : decode cL_law 219 = .ok (.if_icmp .eq 774, 3) := by decide +kernel
theorem dL_law_222 : decode cL_law 222 = .ok (.iconst 0, 1) := by decide +kernel
theorem dL_law_223 : decode cL_law 223 = .ok (.ireturn, 1) := by decide +kernel
theorem dL_law_224 : decode cL_law 224 = .ok (.aload_n 1, 1) := by decide +kernel
theorem dL_law_225 : decode cL_law 225 = .ok (.aload_n 0, 1) := by decide +kernel
theorem dL_law_226 : decode cL_law 226 = .ok (.iload_n 3, 1) := by decide +kernel
theorem dL_law_227 : decode cL_law 227 = .ok (.iconst 1, 1) := by decide +kernel
theorem dL_law_228 : decode cL_law 228 = .ok (.iadd, 1) := by decide +kernel
theorem dL_law_229 : decode cL_law 229 = .ok (.iaload, 1) := by decide +kernel
theorem dL_law_230 : decode cL_law 230 = .ok (.aload_n 0, 1) := by decide +kernel
theorem dL_law_231 : decode cL_law 231 = .ok (.iload_n 3, 1) := by decide +kernel
theorem dL_law_232 : decode cL_law 232 = .ok (.iconst 2, 1) := by decide +kernel
theorem dL_law_233 : decode cL_law 233 = .ok (.iadd, 1) := by decide +kernel
theorem dL_law_234 : decode cL_law 234 = .ok (.iaload, 1) := by decide +kernel
theorem dL_law_235 : decode cL_law 235 = .ok (.invokevirtual 23, 3) := by decide +kernel
theorem dL_law_238 : decode cL_law 238 = .ok (.aload_n 2, 1) := by decide +kernel
theorem dL_law_239 : decode cL_law 239 = .ok (.aload_n 0, 1) := by decide +kernel
theorem dL_law_240 : decode cL_law 240 = .ok (.iload_n 3, 1) := by decide +kernel
theorem dL_law_241 : decode cL_law 241 = .ok (.iconst 1, 1) := by decide +kernel
theorem dL_law_242 : decode cL_law 242 = .ok (.iadd, 1) := by decide +kernel
theorem dL_law_243 : decode cL_law 243 = .ok (.iaload, 1) := by decide +kernel
theorem dL_law_244 : decode cL_law 244 = .ok (.aload_n 0, 1) := by decide +kernel
theorem dL_law_245 : decode cL_law 245 = .ok (.iload_n 3, 1) := by decide +kernel
theorem dL_law_246 : decode cL_law 246 = .ok (.iconst 2, 1) := by decide +kernel
theorem dL_law_247 : decode cL_law 247 = .ok (.iadd, 1) := by decide +kernel
theorem dL_law_248 : decode cL_law 248 = .ok (.iaload, 1) := by decide +kernel
theorem dL_law_249 : decode cL_law 249 = .ok (.invokevirtual 27, 3) := by decide +kernel
theorem dL_law_252 : decode cL_law 252 = .ok (.if_icmp .eq 741, 3) := by decide +kernel
theorem dL_law_255 : decode cL_law 255 = .ok (.iconst 0, 1) := by decide +kernel
theorem dL_law_256 : decode cL_law 256 = .ok (.ireturn, 1) := by decide +kernel
theorem dL_law_257 : decode cL_law 257 = .ok (.aload_n 1, 1) := by decide +kernel
theorem dL_law_258 : decode cL_law 258 = .ok (.aload_n 0, 1) := by decide +kernel
theorem dL_law_259 : decode cL_law 259 = .ok (.iload_n 3, 1) := by decide +kernel
theorem dL_law_260 : decode cL_law 260 = .ok (.iconst 1, 1) := by decide +kernel
theorem dL_law_261 : decode cL_law 261 = .ok (.iadd, 1) := by decide +kernel
theorem dL_law_262 : decode cL_law 262 = .ok (.iaload, 1) := by decide +kernel
theorem dL_law_263 : decode cL_law 263 = .ok (.aload_n 0, 1) := by decide +kernel
theorem dL_law_264 : decode cL_law 264 = .ok (.iload_n 3, 1) := by decide +kernel
theorem dL_law_265 : decode cL_law 265 = .ok (.iconst 2, 1) := by decide +kernel
theorem dL_law_266 : decode cL_law 266 = .ok (.iadd, 1) := by decide +kernel
theorem dL_law_267 : decode cL_law 267 = .ok (.iaload, 1) := by decide +kernel
theorem dL_law_268 : decode cL_law 268 = .ok (.invokevirtual 28, 3) := by decide +kernel
theorem dL_law_271 : decode cL_law 271 = .ok (.aload_n 2, 1) := by decide +kernel
theorem dL_law_272 : decode cL_law 272 = .ok (.aload_n 0, 1) := by decide +kernel
theorem dL_law_273 : decode cL_law 273 = .ok (.iload_n 3, 1) := by decide +kernel
theorem dL_law_274 : decode cL_law 274 = .ok (.iconst 1, 1) := by decide +kernel
theorem dL_law_275 : decode cL_law 275 = .ok (.iadd, 1) := by decide +kernel
theorem dL_law_276 : decode cL_law 276 = .ok (.iaload, 1) := by decide +kernel
theorem dL_law_277 : decode cL_law 277 = .ok (.aload_n 0, 1) := by decide +kernel
theorem dL_law_278 : decode cL_law 278 = .ok (.iload_n 3, 1) := by decide +kernel
theorem dL_law_279 : decode cL_law 279 = .ok (.iconst 2, 1) := by decide +kernel
theorem dL_law_280 : decode cL_law 280 = .ok (.iadd, 1) := by decide +kernel
theorem dL_law_281 : decode cL_law 281 = .ok (.iaload, 1) := by decide +kernel
theorem dL_law_282 : decode cL_law 282 = .ok (.invokevirtual 31, 3) := by decide +kernel
theorem dL_law_285 : decode cL_law 285 = .ok (.if_icmp .eq 708, 3) := by decide +kernel
theorem dL_law_288 : decode cL_law 288 = .ok (.iconst 0, 1) := by decide +kernel
theorem dL_law_289 : decode cL_law 289 = .ok (.ireturn, 1) := by decide +kernel
theorem dL_law_290 : decode cL_law 290 = .ok (.aload_n 1, 1) := by decide +kernel
theorem dL_law_291 : decode cL_law 291 = .ok (.aload_n 0, 1) := by decide +kernel
theorem dL_law_292 : decode cL_law 292 = .ok (.iload_n 3, 1) := by decide +kernel
theorem dL_law_293 : decode cL_law 293 = .ok (.iconst 1, 1) := by decide +kernel
theorem dL_law_294 : decode cL_law 294 = .ok (.iadd, 1) := by decide +kernel
theorem dL_law_295 : decode cL_law 295 = .ok (.iaload, 1) := by decide +kernel
theorem dL_law_296 : decode cL_law 296 = .ok (.invokevirtual 32, 3) := by decide +kernel
theorem dL_law_299 : decode cL_law 299 = .ok (.aload_n 2, 1) := by decide +kernel
theorem dL_law_300 : decode cL_law 300 = .ok (.aload_n 0, 1) := by decide +kernel
theorem dL_law_301 : decode cL_law 301 = .ok (.iload_n 3, 1) := by decide +kernel
theorem dL_law_302 : decode cL_law 302 = .ok (.iconst 1, 1) := by decide +kernel
theorem dL_law_303 : decode cL_law 303 = .ok (.iadd, 1) := by decide +kernel
theorem dL_law_304 : decode cL_law 304 = .ok (.iaload, 1) := by decide +kernel
theorem dL_law_305 : decode cL_law 305 = .ok (.invokevirtual 35, 3) := by decide +kernel
theorem dL_law_308 : decode cL_law 308 = .ok (.if_icmp .eq 685, 3) := by decide +kernel
theorem dL_law_311 : decode cL_law 311 = .ok (.iconst 0, 1) := by decide +kernel
theorem dL_law_312 : decode cL_law 312 = .ok (.ireturn, 1) := by decide +kernel
theorem dL_law_313 : decode cL_law 313 = .ok (.aload_n 1, 1) := by decide +kernel
theorem dL_law_314 : decode cL_law 314 = .ok (.aload_n 0, 1) := by decide +kernel
theorem dL_law_315 : decode cL_law 315 = .ok (.iload_n 3, 1) := by decide +kernel
theorem dL_law_316 : decode cL_law 316 = .ok (.iconst 1, 1) := by decide +kernel
theorem dL_law_317 : decode cL_law 317 = .ok (.iadd, 1) := by decide +kernel
theorem dL_law_318 : decode cL_law 318 = .ok (.iaload, 1) := by decide +kernel
theorem dL_law_319 : decode cL_law 319 = .ok (.invokevirtual 36, 3) := by decide +kernel
theorem dL_law_322 : decode cL_law 322 = .ok (.aload_n 2, 1) := by decide +kernel
theorem dL_law_323 : decode cL_law 323 = .ok (.aload_n 0, 1) := by decide +kernel
theorem dL_law_324 : decode cL_law 324 = .ok (.iload_n 3, 1) := by decide +kernel
theorem dL_law_325 : decode cL_law 325 = .ok (.iconst 1, 1) := by decide +kernel
theorem dL_law_326 : decode cL_law 326 = .ok (.iadd, 1) := by decide +kernel
theorem dL_law_327 : decode cL_law 327 = .ok (.iaload, 1) := by decide +kernel
theorem dL_law_328 : decode cL_law 328 = .ok (.invokevirtual 39, 3) := by decide +kernel
theorem dL_law_331 : decode cL_law 331 = .ok (.if_icmp .eq 662, 3) := by decide +kernel
theorem dL_law_334 : decode cL_law 334 = .ok (.iconst 0, 1) := by decide +kernel
theorem dL_law_335 : decode cL_law 335 = .ok (.ireturn, 1) := by decide +kernel
theorem dL_law_336 : decode cL_law 336 = .ok (.aload_n 1, 1) := by decide +kernel
theorem dL_law_337 : decode cL_law 337 = .ok (.aload_n 0, 1) := by decide +kernel
theorem dL_law_338 : decode cL_law 338 = .ok (.iload_n 3, 1) := by decide +kernel
theorem dL_law_339 : decode cL_law 339 = .ok (.iconst 1, 1) := by decide +kernel
theorem dL_law_340 : decode cL_law 340 = .ok (.iadd, 1) := by decide +kernel
theorem dL_law_341 : decode cL_law 341 = .ok (.iaload, 1) := by decide +kernel
theorem dL_law_342 : decode cL_law 342 = .ok (.aload_n 0, 1) := by decide +kernel
theorem dL_law_343 : decode cL_law 343 = .ok (.iload_n 3, 1) := by decide +kernel
theorem dL_law_344 : decode cL_law 344 = .ok (.iconst 2, 1) := by decide +kernel
theorem dL_law_345 : decode cL_law 345 = .ok (.iadd, 1) := by decide +kernel
theorem dL_law_346 : decode cL_law 346 = .ok (.iaload, 1) := by decide +kernel
theorem dL_law_347 : decode cL_law 347 = .ok (.invokevirtual 40, 3) := by decide +kernel
theorem dL_law_350 : decode cL_law 350 = .ok (.aload_n 2, 1) := by decide +kernel
theorem dL_law_351 : decode cL_law 351 = .ok (.aload_n 0, 1) := by decide +kernel
theorem dL_law_352 : decode cL_law 352 = .ok (.iload_n 3, 1) := by decide +kernel
theorem dL_law_353 : decode cL_law 353 = .ok (.iconst 1, 1) := by decide +kernel
theorem dL_law_354 : decode cL_law 354 = .ok (.iadd, 1) := by decide +kernel
theorem dL_law_355 : decode cL_law 355 = .ok (.iaload, 1) := by decide +kernel
theorem dL_law_356 : decode cL_law 356 = .ok (.aload_n 0, 1) := by decide +kernel
theorem dL_law_357 : decode cL_law 357 = .ok (.iload_n 3, 1) := by decide +kernel
theorem dL_law_358 : decode cL_law 358 = .ok (.iconst 2, 1) := by decide +kernel
theorem dL_law_359 : decode cL_law 359 = .ok (.iadd, 1) := by decide +kernel
theorem dL_law_360 : decode cL_law 360 = .ok (.iaload, 1) := by decide +kernel
theorem dL_law_361 : decode cL_law 361 = .ok (.invokevirtual 43, 3) := by decide +kernel
theorem dL_law_364 : decode cL_law 364 = .ok (.if_icmp .eq 629, 3) := by decide +kernel
theorem dL_law_367 : decode cL_law 367 = .ok (.iconst 0, 1) := by decide +kernel
theorem dL_law_368 : decode cL_law 368 = .ok (.ireturn, 1) := by decide +kernel
theorem dL_law_369 : decode cL_law 369 = .ok (.aload_n 1, 1) := by decide +kernel
theorem dL_law_370 : decode cL_law 370 = .ok (.aload_n 0, 1) := by decide +kernel
theorem dL_law_371 : decode cL_law 371 = .ok (.iload_n 3, 1) := by decide +kernel
theorem dL_law_372 : decode cL_law 372 = .ok (.iconst 1, 1) := by decide +kernel
theorem dL_law_373 : decode cL_law 373 = .ok (.iadd, 1) := by decide +kernel
theorem dL_law_374 : decode cL_law 374 = .ok (.iaload, 1) := by decide +kernel
theorem dL_law_375 : decode cL_law 375 = .ok (.invokevirtual 44, 3) := by decide +kernel
theorem dL_law_378 : decode cL_law 378 = .ok (.aload_n 2, 1) := by decide +kernel
theorem dL_law_379 : decode cL_law 379 = .ok (.aload_n 0, 1) := by decide +kernel
theorem dL_law_380 : decode cL_law 380 = .ok (.iload_n 3, 1) := by decide +kernel
theorem dL_law_381 : decode cL_law 381 = .ok (.iconst 1, 1) := by decide +kernel
theorem dL_law_382 : decode cL_law 382 = .ok (.iadd, 1) := by decide +kernel
theorem dL_law_383 : decode cL_law 383 = .ok (.iaload, 1) := by decide +kernel
theorem dL_law_384 : decode cL_law 384 = .ok (.invokevirtual 47, 3) := by decide +kernel
theorem dL_law_387 : decode cL_law 387 = .ok (.if_icmp .eq 606, 3) := by decide +kernel
theorem dL_law_390 : decode cL_law 390 = .ok (.iconst 0, 1) := by decide +kernel
theorem dL_law_391 : decode cL_law 391 = .ok (.ireturn, 1) := by decide +kernel
theorem dL_law_392 : decode cL_law 392 = .ok (.aload_n 1, 1) := by decide +kernel
theorem dL_law_393 : decode cL_law 393 = .ok (.aload_n 0, 1) := by decide +kernel
theorem dL_law_394 : decode cL_law 394 = .ok (.iload_n 3, 1) := by decide +kernel
theorem dL_law_395 : decode cL_law 395 = .ok (.iconst 1, 1) := by decide +kernel
theorem dL_law_396 : decode cL_law 396 = .ok (.iadd, 1) := by decide +kernel
theorem dL_law_397 : decode cL_law 397 = .ok (.iaload, 1) := by decide +kernel
theorem dL_law_398 : decode cL_law 398 = .ok (.aload_n 0, 1) := by decide +kernel
theorem dL_law_399 : decode cL_law 399 = .ok (.iload_n 3, 1) := by decide +kernel
theorem dL_law_400 : decode cL_law 400 = .ok (.iconst 2, 1) := by decide +kernel
theorem dL_law_401 : decode cL_law 401 = .ok (.iadd, 1) := by decide +kernel
theorem dL_law_402 : decode cL_law 402 = .ok (.iaload, 1) := by decide +kernel
theorem dL_law_403 : decode cL_law 403 = .ok (.invokevirtual 48, 3) := by decide +kernel
theorem dL_law_406 : decode cL_law 406 = .ok (.aload_n 2, 1) := by decide +kernel
theorem dL_law_407 : decode cL_law 407 = .ok (.aload_n 0, 1) := by decide +kernel
theorem dL_law_408 : decode cL_law 408 = .ok (.iload_n 3, 1) := by decide +kernel
theorem dL_law_409 : decode cL_law 409 = .ok (.iconst 1, 1) := by decide +kernel
theorem dL_law_410 : decode cL_law 410 = .ok (.iadd, 1) := by decide +kernel
theorem dL_law_411 : decode cL_law 411 = .ok (.iaload, 1) := by decide +kernel
theorem dL_law_412 : decode cL_law 412 = .ok (.aload_n 0, 1) := by decide +kernel
theorem dL_law_413 : decode cL_law 413 = .ok (.iload_n 3, 1) := by decide +kernel
theorem dL_law_414 : decode cL_law 414 = .ok (.iconst 2, 1) := by decide +kernel
theorem dL_law_415 : decode cL_law 415 = .ok (.iadd, 1) := by decide +kernel
theorem dL_law_416 : decode cL_law 416 = .ok (.iaload, 1) := by decide +kernel
theorem dL_law_417 : decode cL_law 417 = .ok (.invokevirtual 51, 3) := by decide +kernel
theorem dL_law_420 : decode cL_law 420 = .ok (.if_icmp .eq 573, 3) := by decide +kernel
theorem dL_law_423 : decode cL_law 423 = .ok (.iconst 0, 1) := by decide +kernel
theorem dL_law_424 : decode cL_law 424 = .ok (.ireturn, 1) := by decide +kernel
theorem dL_law_425 : decode cL_law 425 = .ok (.aload_n 1, 1) := by decide +kernel
theorem dL_law_426 : decode cL_law 426 = .ok (.aload_n 0, 1) := by decide +kernel
theorem dL_law_427 : decode cL_law 427 = .ok (.iload_n 3, 1) := by decide +kernel
theorem dL_law_428 : decode cL_law 428 = .ok (.iconst 1, 1) := by decide +kernel
theorem dL_law_429 : decode cL_law 429 = .ok (.iadd, 1) := by decide +kernel
theorem dL_law_430 : decode cL_law 430 = .ok (.iaload, 1) := by decide +kernel
theorem dL_law_431 : decode cL_law 431 = .ok (.invokevirtual 52, 3) := by decide +kernel
theorem dL_law_434 : decode cL_law 434 = .ok (.aload_n 2, 1) := by decide +kernel
theorem dL_law_435 : decode cL_law 435 = .ok (.aload_n 0, 1) := by decide +kernel
theorem dL_law_436 : decode cL_law 436 = .ok (.iload_n 3, 1) := by decide +kernel
theorem dL_law_437 : decode cL_law 437 = .ok (.iconst 1, 1) := by decide +kernel
theorem dL_law_438 : decode cL_law 438 = .ok (.iadd, 1) := by decide +kernel
theorem dL_law_439 : decode cL_law 439 = .ok (.iaload, 1) := by decide +kernel
theorem dL_law_440 : decode cL_law 440 = .ok (.invokevirtual 55, 3) := by decide +kernel
theorem dL_law_443 : decode cL_law 443 = .ok (.if_icmp .eq 550, 3) := by decide +kernel
theorem dL_law_446 : decode cL_law 446 = .ok (.iconst 0, 1) := by decide +kernel
theorem dL_law_447 : decode cL_law 447 = .ok (.ireturn, 1) := by decide +kernel
theorem dL_law_448 : decode cL_law 448 = .ok (.aload_n 1, 1) := by decide +kernel
theorem dL_law_449 : decode cL_law 449 = .ok (.aload_n 0, 1) := by decide +kernel
theorem dL_law_450 : decode cL_law 450 = .ok (.iload_n 3, 1) := by decide +kernel
theorem dL_law_451 : decode cL_law 451 = .ok (.iconst 1, 1) := by decide +kernel
theorem dL_law_452 : decode cL_law 452 = .ok (.iadd, 1) := by decide +kernel
theorem dL_law_453 : decode cL_law 453 = .ok (.iaload, 1) := by decide +kernel
theorem dL_law_454 : decode cL_law 454 = .ok (.aload_n 0, 1) := by decide +kernel
theorem dL_law_455 : decode cL_law 455 = .ok (.iload_n 3, 1) := by decide +kernel
theorem dL_law_456 : decode cL_law 456 = .ok (.iconst 2, 1) := by decide +kernel
theorem dL_law_457 : decode cL_law 457 = .ok (.iadd, 1) := by decide +kernel
theorem dL_law_458 : decode cL_law 458 = .ok (.iaload, 1) := by decide +kernel
theorem dL_law_459 : decode cL_law 459 = .ok (.invokevirtual 56, 3) := by decide +kernel
theorem dL_law_462 : decode cL_law 462 = .ok (.aload_n 2, 1) := by decide +kernel
theorem dL_law_463 : decode cL_law 463 = .ok (.aload_n 0, 1) := by decide +kernel
theorem dL_law_464 : decode cL_law 464 = .ok (.iload_n 3, 1) := by decide +kernel
theorem dL_law_465 : decode cL_law 465 = .ok (.iconst 1, 1) := by decide +kernel
theorem dL_law_466 : decode cL_law 466 = .ok (.iadd, 1) := by decide +kernel
theorem dL_law_467 : decode cL_law 467 = .ok (.iaload, 1) := by decide +kernel
theorem dL_law_468 : decode cL_law 468 = .ok (.aload_n 0, 1) := by decide +kernel
theorem dL_law_469 : decode cL_law 469 = .ok (.iload_n 3, 1) := by decide +kernel
theorem dL_law_470 : decode cL_law 470 = .ok (.iconst 2, 1) := by decide +kernel
theorem dL_law_471 : decode cL_law 471 = .ok (.iadd, 1) := by decide +kernel
theorem dL_law_472 : decode cL_law 472 = .ok (.iaload, 1) := by decide +kernel
theorem dL_law_473 : decode cL_law 473 = .ok (.invokevirtual 59, 3) := by decide +kernel
theorem dL_law_476 : decode cL_law 476 = .ok (.if_icmp .eq 517, 3) := by decide +kernel
theorem dL_law_479 : decode cL_law 479 = .ok (.iconst 0, 1) := by decide +kernel
theorem dL_law_480 : decode cL_law 480 = .ok (.ireturn, 1) := by decide +kernel
theorem dL_law_481 : decode cL_law 481 = .ok (.aload_n 1, 1) := by decide +kernel
theorem dL_law_482 : decode cL_law 482 = .ok (.invokevirtual 60, 3) := by decide +kernel
theorem dL_law_485 : decode cL_law 485 = .ok (.aload_n 2, 1) := by decide +kernel
theorem dL_law_486 : decode cL_law 486 = .ok (.invokevirtual 63, 3) := by decide +kernel
theorem dL_law_489 : decode cL_law 489 = .ok (.if_icmp .eq 504, 3) := by decide +kernel
theorem dL_law_492 : decode cL_law 492 = .ok (.iconst 0, 1) := by decide +kernel
theorem dL_law_493 : decode cL_law 493 = .ok (.ireturn, 1) := by decide +kernel
theorem dL_law_494 : decode cL_law 494 = .ok (.aload_n 1, 1) := by decide +kernel
theorem dL_law_495 : decode cL_law 495 = .ok (.aload_n 0, 1) := by decide +kernel
theorem dL_law_496 : decode cL_law 496 = .ok (.iload_n 3, 1) := by decide +kernel
theorem dL_law_497 : decode cL_law 497 = .ok (.iconst 1, 1) := by decide +kernel
theorem dL_law_498 : decode cL_law 498 = .ok (.iadd, 1) := by decide +kernel
theorem dL_law_499 : decode cL_law 499 = .ok (.iaload, 1) := by decide +kernel
theorem dL_law_500 : decode cL_law 500 = .ok (.invokevirtual 64, 3) := by decide +kernel
theorem dL_law_503 : decode cL_law 503 = .ok (.aload_n 2, 1) := by decide +kernel
theorem dL_law_504 : decode cL_law 504 = .ok (.aload_n 0, 1) := by decide +kernel
theorem dL_law_505 : decode cL_law 505 = .ok (.iload_n 3, 1) := by decide +kernel
theorem dL_law_506 : decode cL_law 506 = .ok (.iconst 1, 1) := by decide +kernel
theorem dL_law_507 : decode cL_law 507 = .ok (.iadd, 1) := by decide +kernel
theorem dL_law_508 : decode cL_law 508 = .ok (.iaload, 1) := by decide +kernel
theorem dL_law_509 : decode cL_law 509 = .ok (.invokevirtual 67, 3) := by decide +kernel
theorem dL_law_512 : decode cL_law 512 = .ok (.if_icmp .eq 481, 3) := by decide +kernel
theorem dL_law_515 : decode cL_law 515 = .ok (.iconst 0, 1) := by decide +kernel
theorem dL_law_516 : decode cL_law 516 = .ok (.ireturn, 1) := by decide +kernel
theorem dL_law_517 : decode cL_law 517 = .ok (.aload_n 1, 1) := by decide +kernel
theorem dL_law_518 : decode cL_law 518 = .ok (.aload_n 0, 1) := by decide +kernel
theorem dL_law_519 : decode cL_law 519 = .ok (.iload_n 3, 1) := by decide +kernel
theorem dL_law_520 : decode cL_law 520 = .ok (.iconst 1, 1) := by decide +kernel
theorem dL_law_521 : decode cL_law 521 = .ok (.iadd, 1) := by decide +kernel
theorem dL_law_522 : decode cL_law 522 = .ok (.iaload, 1) := by decide +kernel
theorem dL_law_523 : decode cL_law 523 = .ok (.invokevirtual 68, 3) := by decide +kernel
theorem dL_law_526 : decode cL_law 526 = .ok (.aload_n 2, 1) := by decide +kernel
theorem dL_law_527 : decode cL_law 527 = .ok (.aload_n 0, 1) := by decide +kernel
theorem dL_law_528 : decode cL_law 528 = .ok (.iload_n 3, 1) := by decide +kernel
theorem dL_law_529 : decode cL_law 529 = .ok (.iconst 1, 1) := by decide +kernel
theorem dL_law_530 : decode cL_law 530 = .ok (.iadd, 1) := by decide +kernel
theorem dL_law_531 : decode cL_law 531 = .ok (.iaload, 1) := by decide +kernel
theorem dL_law_532 : decode cL_law 532 = .ok (.invokevirtual 71, 3) := by decide +kernel
theorem dL_law_535 : decode cL_law 535 = .ok (.if_icmp .eq 458, 3) := by decide +kernel
theorem dL_law_538 : decode cL_law 538 = .ok (.iconst 0, 1) := by decide +kernel
theorem dL_law_539 : decode cL_law 539 = .ok (.ireturn, 1) := by decide +kernel
theorem dL_law_540 : decode cL_law 540 = .ok (.aload_n 1, 1) := by decide +kernel
theorem dL_law_541 : decode cL_law 541 = .ok (.invokevirtual 72, 3) := by decide +kernel
theorem dL_law_544 : decode cL_law 544 = .ok (.aload_n 2, 1) := by decide +kernel
theorem dL_law_545 : decode cL_law 545 = .ok (.invokevirtual 75, 3) := by decide +kernel
theorem dL_law_548 : decode cL_law 548 = .ok (.if_icmp .eq 445, 3) := by decide +kernel
theorem dL_law_551 : decode cL_law 551 = .ok (.iconst 0, 1) := by decide +kernel
theorem dL_law_552 : decode cL_law 552 = .ok (.ireturn, 1) := by decide +kernel
theorem dL_law_553 : decode cL_law 553 = .ok (.aload_n 1, 1) := by decide +kernel
theorem dL_law_554 : decode cL_law 554 = .ok (.aload_n 0, 1) := by decide +kernel
theorem dL_law_555 : decode cL_law 555 = .ok (.iload_n 3, 1) := by decide +kernel
theorem dL_law_556 : decode cL_law 556 = .ok (.iconst 1, 1) := by decide +kernel
theorem dL_law_557 : decode cL_law 557 = .ok (.iadd, 1) := by decide +kernel
theorem dL_law_558 : decode cL_law 558 = .ok (.iaload, 1) := by decide +kernel
theorem dL_law_559 : decode cL_law 559 = .ok (.invokevirtual 76, 3) := by decide +kernel
theorem dL_law_562 : decode cL_law 562 = .ok (.aload_n 2, 1) := by decide +kernel
theorem dL_law_563 : decode cL_law 563 = .ok (.aload_n 0, 1) := by decide +kernel
theorem dL_law_564 : decode cL_law 564 = .ok (.iload_n 3, 1) := by decide +kernel
theorem dL_law_565 : decode cL_law 565 = .ok (.iconst 1, 1) := by decide +kernel
theorem dL_law_566 : decode cL_law 566 = .ok (.iadd, 1) := by decide +kernel
theorem dL_law_567 : decode cL_law 567 = .ok (.iaload, 1) := by decide +kernel
theorem dL_law_568 : decode cL_law 568 = .ok (.invokevirtual 79, 3) := by decide +kernel
theorem dL_law_571 : decode cL_law 571 = .ok (.if_icmp .eq 422, 3) := by decide +kernel
theorem dL_law_574 : decode cL_law 574 = .ok (.iconst 0, 1) := by decide +kernel
theorem dL_law_575 : decode cL_law 575 = .ok (.ireturn, 1) := by decide +kernel
theorem dL_law_576 : decode cL_law 576 = .ok (.aload_n 1, 1) := by decide +kernel
theorem dL_law_577 : decode cL_law 577 = .ok (.aload_n 0, 1) := by decide +kernel
theorem dL_law_578 : decode cL_law 578 = .ok (.iload_n 3, 1) := by decide +kernel
theorem dL_law_579 : decode cL_law 579 = .ok (.iconst 1, 1) := by decide +kernel
theorem dL_law_580 : decode cL_law 580 = .ok (.iadd, 1) := by decide +kernel
theorem dL_law_581 : decode cL_law 581 = .ok (.iaload, 1) := by decide +kernel
theorem dL_law_582 : decode cL_law 582 = .ok (.invokevirtual 80, 3) := by decide +kernel
theorem dL_law_585 : decode cL_law 585 = .ok (.aload_n 2, 1) := by decide +kernel
theorem dL_law_586 : decode cL_law 586 = .ok (.aload_n 0, 1) := by decide +kernel
theorem dL_law_587 : decode cL_law 587 = .ok (.iload_n 3, 1) := by decide +kernel
theorem dL_law_588 : decode cL_law 588 = .ok (.iconst 1, 1) := by decide +kernel
theorem dL_law_589 : decode cL_law 589 = .ok (.iadd, 1) := by decide +kernel
theorem dL_law_590 : decode cL_law 590 = .ok (.iaload, 1) := by decide +kernel
theorem dL_law_591 : decode cL_law 591 = .ok (.invokevirtual 83, 3) := by decide +kernel
theorem dL_law_594 : decode cL_law 594 = .ok (.if_icmp .eq 399, 3) := by decide +kernel
theorem dL_law_597 : decode cL_law 597 = .ok (.iconst 0, 1) := by decide +kernel
theorem dL_law_598 : decode cL_law 598 = .ok (.ireturn, 1) := by decide +kernel
theorem dL_law_599 : decode cL_law 599 = .ok (.aload_n 1, 1) := by decide +kernel
theorem dL_law_600 : decode cL_law 600 = .ok (.aload_n 0, 1) := by decide +kernel
theorem dL_law_601 : decode cL_law 601 = .ok (.iload_n 3, 1) := by decide +kernel
theorem dL_law_602 : decode cL_law 602 = .ok (.iconst 1, 1) := by decide +kernel
theorem dL_law_603 : decode cL_law 603 = .ok (.iadd, 1) := by decide +kernel
theorem dL_law_604 : decode cL_law 604 = .ok (.iaload, 1) := by decide +kernel
theorem dL_law_605 : decode cL_law 605 = .ok (.aload_n 0, 1) := by decide +kernel
theorem dL_law_606 : decode cL_law 606 = .ok (.iload_n 3, 1) := by decide +kernel
theorem dL_law_607 : decode cL_law 607 = .ok (.iconst 2, 1) := by decide +kernel
theorem dL_law_608 : decode cL_law 608 = .ok (.iadd, 1) := by decide +kernel
theorem dL_law_609 : decode cL_law 609 = .ok (.iaload, 1) := by decide +kernel
theorem dL_law_610 : decode cL_law 610 = .ok (.invokevirtual 84, 3) := by decide +kernel
theorem dL_law_613 : decode cL_law 613 = .ok (.aload_n 2, 1) := by decide +kernel
theorem dL_law_614 : decode cL_law 614 = .ok (.aload_n 0, 1) := by decide +kernel
theorem dL_law_615 : decode cL_law 615 = .ok (.iload_n 3, 1) := by decide +kernel
theorem dL_law_616 : decode cL_law 616 = .ok (.iconst 1, 1) := by decide +kernel
theorem dL_law_617 : decode cL_law 617 = .ok (.iadd, 1) := by decide +kernel
theorem dL_law_618 : decode cL_law 618 = .ok (.iaload, 1) := by decide +kernel
theorem dL_law_619 : decode cL_law 619 = .ok (.aload_n 0, 1) := by decide +kernel
theorem dL_law_620 : decode cL_law 620 = .ok (.iload_n 3, 1) := by decide +kernel
theorem dL_law_621 : decode cL_law 621 = .ok (.iconst 2, 1) := by decide +kernel
theorem dL_law_622 : decode cL_law 622 = .ok (.iadd, 1) := by decide +kernel
theorem dL_law_623 : decode cL_law 623 = .ok (.iaload, 1) := by decide +kernel
theorem dL_law_624 : decode cL_law 624 = .ok (.invokevirtual 87, 3) := by decide +kernel
theorem dL_law_627 : decode cL_law 627 = .ok (.if_icmp .eq 366, 3) := by decide +kernel
theorem dL_law_630 : decode cL_law 630 = .ok (.iconst 0, 1) := by decide +kernel
theorem dL_law_631 : decode cL_law 631 = .ok (.ireturn, 1) := by decide +kernel
theorem dL_law_632 : decode cL_law 632 = .ok (.aload_n 1, 1) := by decide +kernel
theorem dL_law_633 : decode cL_law 633 = .ok (.aload_n 0, 1) := by decide +kernel
theorem dL_law_634 : decode cL_law 634 = .ok (.iload_n 3, 1) := by decide +kernel
theorem dL_law_635 : decode cL_law 635 = .ok (.iconst 1, 1) := by decide +kernel
theorem dL_law_636 : decode cL_law 636 = .ok (.iadd, 1) := by decide +kernel
theorem dL_law_637 : decode cL_law 637 = .ok (.iaload, 1) := by decide +kernel
theorem dL_law_638 : decode cL_law 638 = .ok (.invokevirtual 88, 3) := by decide +kernel
theorem dL_law_641 : decode cL_law 641 = .ok (.aload_n 2, 1) := by decide +kernel
theorem dL_law_642 : decode cL_law 642 = .ok (.aload_n 0, 1) := by decide +kernel
theorem dL_law_643 : decode cL_law 643 = .ok (.iload_n 3, 1) := by decide +kernel
theorem dL_law_644 : decode cL_law 644 = .ok (.iconst 1, 1) := by decide +kernel
theorem dL_law_645 : decode cL_law 645 = .ok (.iadd, 1) := by decide +kernel
theorem dL_law_646 : decode cL_law 646 = .ok (.iaload, 1) := by decide +kernel
theorem dL_law_647 : decode cL_law 647 = .ok (.invokevirtual 91, 3) := by decide +kernel
theorem dL_law_650 : decode cL_law 650 = .ok (.if_icmp .eq 343, 3) := by decide +kernel
theorem dL_law_653 : decode cL_law 653 = .ok (.iconst 0, 1) := by decide +kernel
theorem dL_law_654 : decode cL_law 654 = .ok (.ireturn, 1) := by decide +kernel
theorem dL_law_655 : decode cL_law 655 = .ok (.aload_n 1, 1) := by decide +kernel
theorem dL_law_656 : decode cL_law 656 = .ok (.aload_n 0, 1) := by decide +kernel
theorem dL_law_657 : decode cL_law 657 = .ok (.iload_n 3, 1) := by decide +kernel
theorem dL_law_658 : decode cL_law 658 = .ok (.iconst 1, 1) := by decide +kernel
theorem dL_law_659 : decode cL_law 659 = .ok (.iadd, 1) := by decide +kernel
theorem dL_law_660 : decode cL_law 660 = .ok (.iaload, 1) := by decide +kernel
theorem dL_law_661 : decode cL_law 661 = .ok (.aload_n 0, 1) := by decide +kernel
theorem dL_law_662 : decode cL_law 662 = .ok (.iload_n 3, 1) := by decide +kernel
theorem dL_law_663 : decode cL_law 663 = .ok (.iconst 2, 1) := by decide +kernel
theorem dL_law_664 : decode cL_law 664 = .ok (.iadd, 1) := by decide +kernel
theorem dL_law_665 : decode cL_law 665 = .ok (.iaload, 1) := by decide +kernel
theorem dL_law_666 : decode cL_law 666 = .ok (.invokevirtual 92, 3) := by decide +kernel
theorem dL_law_669 : decode cL_law 669 = .ok (.aload_n 2, 1) := by decide +kernel
theorem dL_law_670 : decode cL_law 670 = .ok (.aload_n 0, 1) := by decide +kernel
theorem dL_law_671 : decode cL_law 671 = .ok (.iload_n 3, 1) := by decide +kernel
theorem dL_law_672 : decode cL_law 672 = .ok (.iconst 1, 1) := by decide +kernel
theorem dL_law_673 : decode cL_law 673 = .ok (.iadd, 1) := by decide +kernel
theorem dL_law_674 : decode cL_law 674 = .ok (.iaload, 1) := by decide +kernel
theorem dL_law_675 : decode cL_law 675 = .ok (.aload_n 0, 1) := by decide +kernel
theorem dL_law_676 : decode cL_law 676 = .ok (.iload_n 3, 1) := by decide +kernel
theorem dL_law_677 : decode cL_law 677 = .ok (.iconst 2, 1) := by decide +kernel
theorem dL_law_678 : decode cL_law 678 = .ok (.iadd, 1) := by decide +kernel
theorem dL_law_679 : decode cL_law 679 = .ok (.iaload, 1) := by decide +kernel
theorem dL_law_680 : decode cL_law 680 = .ok (.invokevirtual 95, 3) := by decide +kernel
theorem dL_law_683 : decode cL_law 683 = .ok (.if_icmp .eq 310, 3) := by decide +kernel
theorem dL_law_686 : decode cL_law 686 = .ok (.iconst 0, 1) := by decide +kernel
theorem dL_law_687 : decode cL_law 687 = .ok (.ireturn, 1) := by decide +kernel
theorem dL_law_688 : decode cL_law 688 = .ok (.aload_n 1, 1) := by decide +kernel
theorem dL_law_689 : decode cL_law 689 = .ok (.invokevirtual 96, 3) := by decide +kernel
theorem dL_law_692 : decode cL_law 692 = .ok (.aload_n 2, 1) := by decide +kernel
theorem dL_law_693 : decode cL_law 693 = .ok (.invokevirtual 99, 3) := by decide +kernel
theorem dL_law_696 : decode cL_law 696 = .ok (.if_icmp .eq 297, 3) := by decide +kernel
theorem dL_law_699 : decode cL_law 699 = .ok (.iconst 0, 1) := by decide +kernel
theorem dL_law_700 : decode cL_law 700 = .ok (.ireturn, 1) := by decide +kernel
theorem dL_law_701 : decode cL_law 701 = .ok (.aload_n 1, 1) := by decide +kernel
theorem dL_law_702 : decode cL_law 702 = .ok (.invokevirtual 100, 3) := by decide +kernel
theorem dL_law_705 : decode cL_law 705 = .ok (.aload_n 2, 1) := by decide +kernel
theorem dL_law_706 : decode cL_law 706 = .ok (.invokevirtual 103, 3) := by decide +kernel
theorem dL_law_709 : decode cL_law 709 = .ok (.if_icmp .eq 284, 3) := by decide +kernel
theorem dL_law_712 : decode cL_law 712 = .ok (.iconst 0, 1) := by decide +kernel
theorem dL_law_713 : decode cL_law 713 = .ok (.ireturn, 1) := by decide +kernel
theorem dL_law_714 : decode cL_law 714 = .ok (.aload_n 1, 1) := by decide +kernel
theorem dL_law_715 : decode cL_law 715 = .ok (.invokevirtual 104, 3) := by decide +kernel
theorem dL_law_718 : decode cL_law 718 = .ok (.aload_n 2, 1) := by decide +kernel
theorem dL_law_719 : decode cL_law 719 = .ok (.invokevirtual 107, 3) := by decide +kernel
theorem dL_law_722 : decode cL_law 722 = .ok (.if_icmp .eq 271, 3) := by decide +kernel
theorem dL_law_725 : decode cL_law 725 = .ok (.iconst 0, 1) := by decide +kernel
theorem dL_law_726 : decode cL_law 726 = .ok (.ireturn, 1) := by decide +kernel
theorem dL_law_727 : decode cL_law 727 = .ok (.aload_n 1, 1) := by decide +kernel
theorem dL_law_728 : decode cL_law 728 = .ok (.invokevirtual 108, 3) := by decide +kernel
theorem dL_law_731 : decode cL_law 731 = .ok (.aload_n 2, 1) := by decide +kernel
theorem dL_law_732 : decode cL_law 732 = .ok (.invokevirtual 111, 3) := by decide +kernel
theorem dL_law_735 : decode cL_law 735 = .ok (.if_icmp .eq 258, 3) := by decide +kernel
theorem dL_law_738 : decode cL_law 738 = .ok (.iconst 0, 1) := by decide +kernel
theorem dL_law_739 : decode cL_law 739 = .ok (.ireturn, 1) := by decide +kernel
theorem dL_law_740 : decode cL_law 740 = .ok (.aload_n 1, 1) := by decide +kernel
theorem dL_law_741 : decode cL_law 741 = .ok (.aload_n 0, 1) := by decide +kernel
theorem dL_law_742 : decode cL_law 742 = .ok (.iload_n 3, 1) := by decide +kernel
theorem dL_law_743 : decode cL_law 743 = .ok (.iconst 1, 1) := by decide +kernel
theorem dL_law_744 : decode cL_law 744 = .ok (.iadd, 1) := by decide +kernel
theorem dL_law_745 : decode cL_law 745 = .ok (.iaload, 1) := by decide +kernel
theorem dL_law_746 : decode cL_law 746 = .ok (.invokevirtual 112, 3) := by decide +kernel
theorem dL_law_749 : decode cL_law 749 = .ok (.aload_n 2, 1) := by decide +kernel
theorem dL_law_750 : decode cL_law 750 = .ok (.aload_n 0, 1) := by decide +kernel
theorem dL_law_751 : decode cL_law 751 = .ok (.iload_n 3, 1) := by decide +kernel
theorem dL_law_752 : decode cL_law 752 = .ok (.iconst 1, 1) := by decide +kernel
theorem dL_law_753 : decode cL_law 753 = .ok (.iadd, 1) := by decide +kernel
theorem dL_law_754 : decode cL_law 754 = .ok (.iaload, 1) := by decide +kernel
theorem dL_law_755 : decode cL_law 755 = .ok (.invokevirtual 115, 3) := by decide +kernel
theorem dL_law_758 : decode cL_law 758 = .ok (.if_icmp .eq 235, 3) := by decide +kernel
theorem dL_law_761 : decode cL_law 761 = .ok (.iconst 0, 1) := by decide +kernel
theorem dL_law_762 : decode cL_law 762 = .ok (.ireturn, 1) := by decide +kernel
theorem dL_law_763 : decode cL_law 763 = .ok (.aload_n 1, 1) := by decide +kernel
theorem dL_law_764 : decode cL_law 764 = .ok (.aload_n 0, 1) := by decide +kernel
theorem dL_law_765 : decode cL_law 765 = .ok (.iload_n 3, 1) := by decide +kernel
theorem dL_law_766 : decode cL_law 766 = .ok (.iconst 1, 1) := by decide +kernel
theorem dL_law_767 : decode cL_law 767 = .ok (.iadd, 1) := by decide +kernel
theorem dL_law_768 : decode cL_law 768 = .ok (.iaload, 1) := by decide +kernel
theorem dL_law_769 : decode cL_law 769 = .ok (.invokevirtual 116, 3) := by decide +kernel
theorem dL_law_772 : decode cL_law 772 = .ok (.aload_n 2, 1) := by decide +kernel
theorem dL_law_773 : decode cL_law 773 = .ok (.aload_n 0, 1) := by decide +kernel
theorem dL_law_774 : decode cL_law 774 = .ok (.iload_n 3, 1) := by decide +kernel
theorem dL_law_775 : decode cL_law 775 = .ok (.iconst 1, 1) := by decide +kernel
theorem dL_law_776 : decode cL_law 776 = .ok (.iadd, 1) := by decide +kernel
theorem dL_law_777 : decode cL_law 777 = .ok (.iaload, 1) := by decide +kernel
theorem dL_law_778 : decode cL_law 778 = .ok (.invokevirtual 119, 3) := by decide +kernel
theorem dL_law_781 : decode cL_law 781 = .ok (.if_icmp .eq 212, 3) := by decide +kernel
theorem dL_law_784 : decode cL_law 784 = .ok (.iconst 0, 1) := by decide +kernel
theorem dL_law_785 : decode cL_law 785 = .ok (.ireturn, 1) := by decide +kernel
theorem dL_law_786 : decode cL_law 786 = .ok (.aload_n 1, 1) := by decide +kernel
theorem dL_law_787 : decode cL_law 787 = .ok (.aload_n 0, 1) := by decide +kernel
theorem dL_law_788 : decode cL_law 788 = .ok (.iload_n 3, 1) := by decide +kernel
theorem dL_law_789 : decode cL_law 789 = .ok (.iconst 1, 1) := by decide +kernel
theorem dL_law_790 : decode cL_law 790 = .ok (.iadd, 1) := by decide +kernel
theorem dL_law_791 : decode cL_law 791 = .ok (.iaload, 1) := by decide +kernel
theorem dL_law_792 : decode cL_law 792 = .ok (.aload_n 0, 1) := by decide +kernel
theorem dL_law_793 : decode cL_law 793 = .ok (.iload_n 3, 1) := by decide +kernel
theorem dL_law_794 : decode cL_law 794 = .ok (.iconst 2, 1) := by decide +kernel
theorem dL_law_795 : decode cL_law 795 = .ok (.iadd, 1) := by decide +kernel
theorem dL_law_796 : decode cL_law 796 = .ok (.iaload, 1) := by decide +kernel
theorem dL_law_797 : decode cL_law 797 = .ok (.invokevirtual 120, 3) := by decide +kernel
theorem dL_law_800 : decode cL_law 800 = .ok (.aload_n 2, 1) := by decide +kernel
theorem dL_law_801 : decode cL_law 801 = .ok (.aload_n 0, 1) := by decide +kernel
theorem dL_law_802 : decode cL_law 802 = .ok (.iload_n 3, 1) := by decide +kernel
theorem dL_law_803 : decode cL_law 803 = .ok (.iconst 1, 1) := by decide +kernel
theorem dL_law_804 : decode cL_law 804 = .ok (.iadd, 1) := by decide +kernel
theorem dL_law_805 : decode cL_law 805 = .ok (.iaload, 1) := by decide +kernel
theorem dL_law_806 : decode cL_law 806 = .ok (.aload_n 0, 1) := by decide +kernel
theorem dL_law_807 : decode cL_law 807 = .ok (.iload_n 3, 1) := by decide +kernel
theorem dL_law_808 : decode cL_law 808 = .ok (.iconst 2, 1) := by decide +kernel
theorem dL_law_809 : decode cL_law 809 = .ok (.iadd, 1) := by decide +kernel
theorem dL_law_810 : decode cL_law 810 = .ok (.iaload, 1) := by decide +kernel
theorem dL_law_811 : decode cL_law 811 = .ok (.invokevirtual 123, 3) := by decide +kernel
theorem dL_law_814 : decode cL_law 814 = .ok (.if_icmp .eq 179, 3) := by decide +kernel
theorem dL_law_817 : decode cL_law 817 = .ok (.iconst 0, 1) := by decide +kernel
theorem dL_law_818 : decode cL_law 818 = .ok (.ireturn, 1) := by decide +kernel
theorem dL_law_819 : decode cL_law 819 = .ok (.aload_n 1, 1) := by decide +kernel
theorem dL_law_820 : decode cL_law 820 = .ok (.aload_n 0, 1) := by decide +kernel
theorem dL_law_821 : decode cL_law 821 = .ok (.iload_n 3, 1) := by decide +kernel
theorem dL_law_822 : decode cL_law 822 = .ok (.iconst 1, 1) := by decide +kernel
theorem dL_law_823 : decode cL_law 823 = .ok (.iadd, 1) := by decide +kernel
theorem dL_law_824 : decode cL_law 824 = .ok (.iaload, 1) := by decide +kernel
theorem dL_law_825 : decode cL_law 825 = .ok (.aload_n 0, 1) := by decide +kernel
theorem dL_law_826 : decode cL_law 826 = .ok (.iload_n 3, 1) := by decide +kernel
theorem dL_law_827 : decode cL_law 827 = .ok (.iconst 2, 1) := by decide +kernel
theorem dL_law_828 : decode cL_law 828 = .ok (.iadd, 1) := by decide +kernel
theorem dL_law_829 : decode cL_law 829 = .ok (.iaload, 1) := by decide +kernel
theorem dL_law_830 : decode cL_law 830 = .ok (.invokevirtual 124, 3) := by decide +kernel
theorem dL_law_833 : decode cL_law 833 = .ok (.aload_n 2, 1) := by decide +kernel
theorem dL_law_834 : decode cL_law 834 = .ok (.aload_n 0, 1) := by decide +kernel
theorem dL_law_835 : decode cL_law 835 = .ok (.iload_n 3, 1) := by decide +kernel
theorem dL_law_836 : decode cL_law 836 = .ok (.iconst 1, 1) := by decide +kernel
theorem dL_law_837 : decode cL_law 837 = .ok (.iadd, 1) := by decide +kernel
theorem dL_law_838 : decode cL_law 838 = .ok (.iaload, 1) := by decide +kernel
theorem dL_law_839 : decode cL_law 839 = .ok (.aload_n 0, 1) := by decide +kernel
theorem dL_law_840 : decode cL_law 840 = .ok (.iload_n 3, 1) := by decide +kernel
theorem dL_law_841 : decode cL_law 841 = .ok (.iconst 2, 1) := by decide +kernel
theorem dL_law_842 : decode cL_law 842 = .ok (.iadd, 1) := by decide +kernel
theorem dL_law_843 : decode cL_law 843 = .ok (.iaload, 1) := by decide +kernel
theorem dL_law_844 : decode cL_law 844 = .ok (.invokevirtual 127, 3) := by decide +kernel
theorem dL_law_847 : decode cL_law 847 = .ok (.if_icmp .eq 146, 3) := by decide +kernel
theorem dL_law_850 : decode cL_law 850 = .ok (.iconst 0, 1) := by decide +kernel
theorem dL_law_851 : decode cL_law 851 = .ok (.ireturn, 1) := by decide +kernel
theorem dL_law_852 : decode cL_law 852 = .ok (.aload_n 1, 1) := by decide +kernel
theorem dL_law_853 : decode cL_law 853 = .ok (.aload_n 0, 1) := by decide +kernel
theorem dL_law_854 : decode cL_law 854 = .ok (.iload_n 3, 1) := by decide +kernel
theorem dL_law_855 : decode cL_law 855 = .ok (.iconst 1, 1) := by decide +kernel
theorem dL_law_856 : decode cL_law 856 = .ok (.iadd, 1) := by decide +kernel
theorem dL_law_857 : decode cL_law 857 = .ok (.iaload, 1) := by decide +kernel
theorem dL_law_858 : decode cL_law 858 = .ok (.invokevirtual 128, 3) := by decide +kernel
theorem dL_law_861 : decode cL_law 861 = .ok (.aload_n 2, 1) := by decide +kernel
theorem dL_law_862 : decode cL_law 862 = .ok (.aload_n 0, 1) := by decide +kernel
theorem dL_law_863 : decode cL_law 863 = .ok (.iload_n 3, 1) := by decide +kernel
theorem dL_law_864 : decode cL_law 864 = .ok (.iconst 1, 1) := by decide +kernel
theorem dL_law_865 : decode cL_law 865 = .ok (.iadd, 1) := by decide +kernel
theorem dL_law_866 : decode cL_law 866 = .ok (.iaload, 1) := by decide +kernel
theorem dL_law_867 : decode cL_law 867 = .ok (.invokevirtual 131, 3) := by decide +kernel
theorem dL_law_870 : decode cL_law 870 = .ok (.if_icmp .eq 123, 3) := by decide +kernel
theorem dL_law_873 : decode cL_law 873 = .ok (.iconst 0, 1) := by decide +kernel
theorem dL_law_874 : decode cL_law 874 = .ok (.ireturn, 1) := by decide +kernel
theorem dL_law_875 : decode cL_law 875 = .ok (.aload_n 1, 1) := by decide +kernel
theorem dL_law_876 : decode cL_law 876 = .ok (.invokevirtual 132, 3) := by decide +kernel
theorem dL_law_879 : decode cL_law 879 = .ok (.aload_n 2, 1) := by decide +kernel
theorem dL_law_880 : decode cL_law 880 = .ok (.invokevirtual 135, 3) := by decide +kernel
theorem dL_law_883 : decode cL_law 883 = .ok (.if_icmp .eq 110, 3) := by decide +kernel
theorem dL_law_886 : decode cL_law 886 = .ok (.iconst 0, 1) := by decide +kernel
theorem dL_law_887 : decode cL_law 887 = .ok (.ireturn, 1) := by decide +kernel
theorem dL_law_888 : decode cL_law 888 = .ok (.aload_n 1, 1) := by decide +kernel
theorem dL_law_889 : decode cL_law 889 = .ok (.invokevirtual 136, 3) := by decide +kernel
theorem dL_law_892 : decode cL_law 892 = .ok (.aload_n 2, 1) := by decide +kernel
theorem dL_law_893 : decode cL_law 893 = .ok (.invokevirtual 139, 3) := by decide +kernel
theorem dL_law_896 : decode cL_law 896 = .ok (.if_icmp .eq 97, 3) := by decide +kernel
theorem dL_law_899 : decode cL_law 899 = .ok (.iconst 0, 1) := by decide +kernel
theorem dL_law_900 : decode cL_law 900 = .ok (.ireturn, 1) := by decide +kernel
theorem dL_law_901 : decode cL_law 901 = .ok (.aload_n 1, 1) := by decide +kernel
theorem dL_law_902 : decode cL_law 902 = .ok (.aload_n 0, 1) := by decide +kernel
theorem dL_law_903 : decode cL_law 903 = .ok (.iload_n 3, 1) := by decide +kernel
theorem dL_law_904 : decode cL_law 904 = .ok (.iconst 1, 1) := by decide +kernel
theorem dL_law_905 : decode cL_law 905 = .ok (.iadd, 1) := by decide +kernel
theorem dL_law_906 : decode cL_law 906 = .ok (.iaload, 1) := by decide +kernel
theorem dL_law_907 : decode cL_law 907 = .ok (.aload_n 0, 1) := by decide +kernel
theorem dL_law_908 : decode cL_law 908 = .ok (.iload_n 3, 1) := by decide +kernel
theorem dL_law_909 : decode cL_law 909 = .ok (.iconst 2, 1) := by decide +kernel
theorem dL_law_910 : decode cL_law 910 = .ok (.iadd, 1) := by decide +kernel
theorem dL_law_911 : decode cL_law 911 = .ok (.iaload, 1) := by decide +kernel
theorem dL_law_912 : decode cL_law 912 = .ok (.aload_n 0, 1) := by decide +kernel
theorem dL_law_913 : decode cL_law 913 = .ok (.iload_n 3, 1) := by decide +kernel
theorem dL_law_914 : decode cL_law 914 = .ok (.iconst 3, 1) := by decide +kernel
theorem dL_law_915 : decode cL_law 915 = .ok (.iadd, 1) := by decide +kernel
theorem dL_law_916 : decode cL_law 916 = .ok (.iaload, 1) := by decide +kernel
theorem dL_law_917 : decode cL_law 917 = .ok (.invokevirtual 140, 3) := by decide +kernel
theorem dL_law_920 : decode cL_law 920 = .ok (.aload_n 2, 1) := by decide +kernel
theorem dL_law_921 : decode cL_law 921 = .ok (.aload_n 0, 1) := by decide +kernel
theorem dL_law_922 : decode cL_law 922 = .ok (.iload_n 3, 1) := by decide +kernel
theorem dL_law_923 : decode cL_law 923 = .ok (.iconst 1, 1) := by decide +kernel
theorem dL_law_924 : decode cL_law 924 = .ok (.iadd, 1) := by decide +kernel
theorem dL_law_925 : decode cL_law 925 = .ok (.iaload, 1) := by decide +kernel
theorem dL_law_926 : decode cL_law 926 = .ok (.aload_n 0, 1) := by decide +kernel
theorem dL_law_927 : decode cL_law 927 = .ok (.iload_n 3, 1) := by decide +kernel
theorem dL_law_928 : decode cL_law 928 = .ok (.iconst 2, 1) := by decide +kernel
theorem dL_law_929 : decode cL_law 929 = .ok (.iadd, 1) := by decide +kernel
theorem dL_law_930 : decode cL_law 930 = .ok (.iaload, 1) := by decide +kernel
theorem dL_law_931 : decode cL_law 931 = .ok (.aload_n 0, 1) := by decide +kernel
theorem dL_law_932 : decode cL_law 932 = .ok (.iload_n 3, 1) := by decide +kernel
theorem dL_law_933 : decode cL_law 933 = .ok (.iconst 3, 1) := by decide +kernel
theorem dL_law_934 : decode cL_law 934 = .ok (.iadd, 1) := by decide +kernel
theorem dL_law_935 : decode cL_law 935 = .ok (.iaload, 1) := by decide +kernel
theorem dL_law_936 : decode cL_law 936 = .ok (.invokevirtual 144, 3) := by decide +kernel
theorem dL_law_939 : decode cL_law 939 = .ok (.if_icmp .eq 54, 3) := by decide +kernel
theorem dL_law_942 : decode cL_law 942 = .ok (.iconst 0, 1) := by decide +kernel
theorem dL_law_943 : decode cL_law 943 = .ok (.ireturn, 1) := by decide +kernel
theorem dL_law_944 : decode cL_law 944 = .ok (.aload_n 1, 1) := by decide +kernel
theorem dL_law_945 : decode cL_law 945 = .ok (.invokevirtual 145, 3) := by decide +kernel
theorem dL_law_948 : decode cL_law 948 = .ok (.aload_n 2, 1) := by decide +kernel
theorem dL_law_949 : decode cL_law 949 = .ok (.invokevirtual 148, 3) := by decide +kernel
theorem dL_law_952 : decode cL_law 952 = .ok (.if_icmp .eq 41, 3) := by decide +kernel
theorem dL_law_955 : decode cL_law 955 = .ok (.iconst 0, 1) := by decide +kernel
theorem dL_law_956 : decode cL_law 956 = .ok (.ireturn, 1) := by decide +kernel
theorem dL_law_957 : decode cL_law 957 = .ok (.aload_n 1, 1) := by decide +kernel
theorem dL_law_958 : decode cL_law 958 = .ok (.invokevirtual 149, 3) := by decide +kernel
theorem dL_law_961 : decode cL_law 961 = .ok (.aload_n 2, 1) := by decide +kernel
theorem dL_law_962 : decode cL_law 962 = .ok (.invokevirtual 152, 3) := by decide +kernel
theorem dL_law_965 : decode cL_law 965 = .ok (.if_icmp .eq 28, 3) := by decide +kernel
theorem dL_law_968 : decode cL_law 968 = .ok (.iconst 0, 1) := by decide +kernel
theorem dL_law_969 : decode cL_law 969 = .ok (.ireturn, 1) := by decide +kernel
theorem dL_law_970 : decode cL_law 970 = .ok (.aload_n 1, 1) := by decide +kernel
theorem dL_law_971 : decode cL_law 971 = .ok (.aload_n 0, 1) := by decide +kernel
theorem dL_law_972 : decode cL_law 972 = .ok (.iload_n 3, 1) := by decide +kernel
theorem dL_law_973 : decode cL_law 973 = .ok (.iconst 1, 1) := by decide +kernel
theorem dL_law_974 : decode cL_law 974 = .ok (.iadd, 1) := by decide +kernel
theorem dL_law_975 : decode cL_law 975 = .ok (.iaload, 1) := by decide +kernel
theorem dL_law_976 : decode cL_law 976 = .ok (.invokevirtual 153, 3) := by decide +kernel
theorem dL_law_979 : decode cL_law 979 = .ok (.aload_n 2, 1) := by decide +kernel
theorem dL_law_980 : decode cL_law 980 = .ok (.aload_n 0, 1) := by decide +kernel
theorem dL_law_981 : decode cL_law 981 = .ok (.iload_n 3, 1) := by decide +kernel
theorem dL_law_982 : decode cL_law 982 = .ok (.iconst 1, 1) := by decide +kernel
theorem dL_law_983 : decode cL_law 983 = .ok (.iadd, 1) := by decide +kernel
theorem dL_law_984 : decode cL_law 984 = .ok (.iaload, 1) := by decide +kernel
theorem dL_law_985 : decode cL_law 985 = .ok (.invokevirtual 156, 3) := by decide +kernel
theorem dL_law_988 : decode cL_law 988 = .ok (.if_icmp .eq 5, 3) := by decide +kernel
theorem dL_law_991 : decode cL_law 991 = .ok (.iconst 0, 1) := by decide +kernel
theorem dL_law_992 : decode cL_law 992 = .ok (.ireturn, 1) := by decide +kernel
theorem dL_law_993 : decode cL_law 993 = .ok (.iinc 3 4, 3) := by decide +kernel
theorem dL_law_996 : decode cL_law 996 = .ok (.goto (-978), 3) := by decide +kernel
theorem dL_law_999 : decode cL_law 999 = .ok (.iconst 1, 1) := by decide +kernel
theorem dL_law_1000 : decode cL_law 1000 = .ok (.ireturn, 1) := by decide +kernel
end
section
theorem dX7_init_0 : decode cX7_init 0 = .ok (.aload_n 0, 1) := by decide +kernel
theorem dX7_init_1 : decode cX7_init 1 = .ok (.invokespecial 1, 3) := by decide +kernel
theorem dX7_init_4 : decode cX7_init 4 = .ok (.aload_n 0, 1) := by decide +kernel
theorem dX7_init_5 : decode cX7_init 5 = .ok (.bipush 9, 2) := by decide +kernel
theorem dX7_init_7 : decode cX7_init 7 = .ok (.newarray .int, 2) := by decide +kernel
theorem dX7_init_9 : decode cX7_init 9 = .ok (.putfield 7, 3) := by decide +kernel
theorem dX7_init_12 : decode cX7_init 12 = .ok (.aload_n 0, 1) := by decide +kernel
theorem dX7_init_13 : decode cX7_init 13 = .ok (.bipush 9, 2) := by decide +kernel
theorem dX7_init_15 : decode cX7_init 15 = .ok (.newarray .int, 2) := by decide +kernel
theorem dX7_init_17 : decode cX7_init 17 = .ok (.putfield 13, 3) := by decide +kernel
theorem dX7_init_20 : decode cX7_init 20 = .ok (.aload_n 0, 1) := by decide +kernel
theorem dX7_init_21 : decode cX7_init 21 = .ok (.bipush 9, 2) := by decide +kernel
theorem dX7_init_23 : decode cX7_init 23 = .ok (.newarray .int, 2) := by decide +kernel
theorem dX7_init_25 : decode cX7_init 25 = .ok (.putfield 16, 3) := by decide +kernel
theorem dX7_init_28 : decode cX7_init 28 = .ok (.aload_n 0, 1) := by decide +kernel
theorem dX7_init_29 : decode cX7_init 29 = .ok (.bipush 9, 2) := by decide +kernel
theorem dX7_init_31 : decode cX7_init 31 = .ok (.newarray .int, 2) := by decide +kernel
theorem dX7_init_33 : decode cX7_init 33 = .ok (.putfield 19, 3) := by decide +kernel
theorem dX7_init_36 : decode cX7_init 36 = .ok (.aload_n 0, 1) := by decide +kernel
theorem dX7_init_37 : decode cX7_init 37 = .ok (.bipush 9, 2) := by decide +kernel
theorem dX7_init_39 : decode cX7_init 39 = .ok (.newarray .int, 2) := by decide +kernel
theorem dX7_init_41 : decode cX7_init 41 = .ok (.putfield 22, 3) := by decide +kernel
theorem dX7_init_44 : decode cX7_init 44 = .ok (.aload_n 0, 1) := by decide +kernel
theorem dX7_init_45 : decode cX7_init 45 = .ok (.bipush 96, 2) := by decide +kernel
theorem dX7_init_47 : decode cX7_init 47 = .ok (.newarray .int, 2) := by decide +kernel
theorem dX7_init_49 : decode cX7_init 49 = .ok (.putfield 25, 3) := by decide +kernel
theorem dX7_init_52 : decode cX7_init 52 = .ok (.aload_n 0, 1) := by decide +kernel
theorem dX7_init_53 : decode cX7_init 53 = .ok (.bipush 8, 2) := by decide +kernel
theorem dX7_init_55 : decode cX7_init 55 = .ok (.newarray .int, 2) := by decide +kernel
theorem dX7_init_57 : decode cX7_init 57 = .ok (.putfield 28, 3) := by decide +kernel
theorem dX7_init_60 : decode cX7_init 60 = .ok (.aload_n 0, 1) := by decide +kernel
theorem dX7_init_61 : decode cX7_init 61 = .ok (.bipush 12, 2) := by decide +kernel
theorem dX7_init_63 : decode cX7_init 63 = .ok (.newarray .int, 2) := by decide +kernel
theorem dX7_init_65 : decode cX7_init 65 = .ok (.putfield 31, 3) := by decide +kernel
theorem dX7_init_68 : decode cX7_init 68 = .ok (.aload_n 0, 1) := by decide +kernel
theorem dX7_init_69 : decode cX7_init 69 = .ok (.bipush 7, 2) := by decide +kernel
theorem dX7_init_71 : decode cX7_init 71 = .ok (.newarray .int, 2) := by decide +kernel
theorem dX7_init_73 : decode cX7_init 73 = .ok (.putfield 34, 3) := by decide +kernel
theorem dX7_init_76 : decode cX7_init 76 = .ok (.aload_n 0, 1) := by decide +kernel
theorem dX7_init_77 : decode cX7_init 77 = .ok (.bipush 48, 2) := by decide +kernel
theorem dX7_init_79 : decode cX7_init 79 = .ok (.newarray .int, 2) := by decide +kernel
theorem dX7_init_81 : decode cX7_init 81 = .ok (.putfield 37, 3) := by decide +kernel
theorem dX7_init_84 : decode cX7_init 84 = .ok (.aload_n 0, 1) := by decide +kernel
theorem dX7_init_85 : decode cX7_init 85 = .ok (.bipush 48, 2) := by decide +kernel
theorem dX7_init_87 : decode cX7_init 87 = .ok (.newarray .int, 2) := by decide +kernel
theorem dX7_init_89 : decode cX7_init 89 = .ok (.putfield 40, 3) := by decide +kernel
theorem dX7_init_92 : decode cX7_init 92 = .ok (.aload_n 0, 1) := by decide +kernel
theorem dX7_init_93 : decode cX7_init 93 = .ok (.bipush 48, 2) := by decide +kernel
theorem dX7_init_95 : decode cX7_init 95 = .ok (.newarray .int, 2) := by decide +kernel
theorem dX7_init_97 : decode cX7_init 97 = .ok (.putfield 43, 3) := by decide +kernel
theorem dX7_init_100 : decode cX7_init 100 = .ok (.aload_n 0, 1) := by decide +kernel
theorem dX7_init_101 : decode cX7_init 101 = .ok (.bipush 9, 2) := by decide +kernel
theorem dX7_init_103 : decode cX7_init 103 = .ok (.newarray .int, 2) := by decide +kernel
theorem dX7_init_105 : decode cX7_init 105 = .ok (.putfield 46, 3) := by decide +kernel
theorem dX7_init_108 : decode cX7_init 108 = .ok (.aload_n 0, 1) := by decide +kernel
theorem dX7_init_109 : decode cX7_init 109 = .ok (.bipush 9, 2) := by decide +kernel
theorem dX7_init_111 : decode cX7_init 111 = .ok (.newarray .int, 2) := by decide +kernel
theorem dX7_init_113 : decode cX7_init 113 = .ok (.putfield 49, 3) := by decide +kernel
theorem dX7_init_116 : decode cX7_init 116 = .ok (.aload_n 0, 1) := by decide +kernel
theorem dX7_init_117 : decode cX7_init 117 = .ok (.bipush 9, 2) := by decide +kernel
theorem dX7_init_119 : decode cX7_init 119 = .ok (.newarray .int, 2) := by decide +kernel
theorem dX7_init_121 : decode cX7_init 121 = .ok (.putfield 52, 3) := by decide +kernel
theorem dX7_init_124 : decode cX7_init 124 = .ok (.aload_n 0, 1) := by decide +kernel
theorem dX7_init_125 : decode cX7_init 125 = .ok (.iconst 1, 1) := by decide +kernel
theorem dX7_init_126 : decode cX7_init 126 = .ok (.putfield 55, 3) := by decide +kernel
theorem dX7_init_129 : decode cX7_init 129 = .ok (.return_, 1) := by decide +kernel
theorem dX7_no_0 : decode cX7_no 0 = .ok (.aload_n 0, 1) := by decide +kernel
theorem dX7_no_1 : decode cX7_no 1 = .ok (.getfield 34, 3) := by decide +kernel
theorem dX7_no_4 : decode cX7_no 4 = .ok (.iload_n 1, 1) := by decide +kernel
theorem dX7_no_5 : decode cX7_no 5 = .ok (.ineg, 1) := by decide +kernel
theorem dX7_no_6 : decode cX7_no 6 = .ok (.dup2, 1) := by decide +kernel
theorem dX7_no_7 : decode cX7_no 7 = .ok (.iaload, 1) := by decide +kernel
theorem dX7_no_8 : decode cX7_no 8 = .ok (.iconst 1, 1) := by decide +kernel
theorem dX7_no_9 : decode cX7_no 9 = .ok (.iadd, 1) := by decide +kernel
theorem dX7_no_10 : decode cX7_no 10 = .ok (.iastore, 1) := by decide +kernel
theorem dX7_no_11 : decode cX7_no 11 = .ok (.iload_n 1, 1) := by decide +kernel
theorem dX7_no_12 : decode cX7_no 12 = .ok (.ireturn, 1) := by decide +kernel
theorem dX7_within_0 : decode cX7_within 0 = .ok (.iload_n 0, 1) := by decide +kernel
theorem dX7_within_1 : decode cX7_within 1 = .ok (.iload_n 1, 1) := by decide +kernel
theorem dX7_within_2 : decode cX7_within 2 = .ok (.if_icmp .lt 12, 3) := by decide +kernel
theorem dX7_within_5 : decode cX7_within 5 = .ok (.iload_n 0, 1) := by decide +kernel
theorem dX7_within_6 : decode cX7_within 6 = .ok (.iload_n 2, 1) := by decide +kernel
theorem dX7_within_7 : decode cX7_within 7 = .ok (.if_icmp .gt 7, 3) := by decide +kernel
theorem dX7_within_10 : decode cX7_within 10 = .ok (.iconst 1, 1) := by decide +kernel
theorem dX7_within_11 : decode cX7_within 11 = .ok (.goto 4, 3) := by decide +kernel
theorem dX7_within_14 : decode cX7_within 14 = .ok (.iconst 0, 1) := by decide +kernel
theorem dX7_within_15 : decode cX7_within 15 = .ok (.ireturn, 1) := by decide +kernel
theorem dX7_isCar_0 : decode cX7_isCar 0 = .ok (.iload_n 1, 1) := by decide +kernel
theorem dX7_isCar_1 : decode cX7_isCar 1 = .ok (.iconst 0, 1) := by decide +kernel
theorem dX7_isCar_2 : decode cX7_isCar 2 = .ok (.aload_n 0, 1) := by decide +kernel
theorem dX7_isCar_3 : decode cX7_isCar 3 = .ok (.getfield 59, 3) := by decide +kernel
theorem dX7_isCar_6 : decode cX7_isCar 6 = .ok (.iconst 1, 1) := by decide +kernel
theorem dX7_isCar_7 : decode cX7_isCar 7 = .ok (.isub, 1) := by decide +kernel
theorem dX7_isCar_8 : decode cX7_isCar 8 = .ok (.invokestatic 62, 3) := by decide +kernel
theorem dX7_isCar_11 : decode cX7_isCar 11 = .ok (.ireturn, 1) := by decide +kernel
theorem dX7_letter_0 : decode cX7_letter 0 = .ok (.iload_n 1, 1) := by decide +kernel
theorem dX7_letter_1 : decode cX7_letter 1 = .ok (.ifCond .ge 10, 3) := by decide +kernel
theorem dX7_letter_4 : decode cX7_letter 4 = .ok (.aload_n 0, 1) := by decide +kernel
theorem dX7_letter_5 : decode cX7_letter 5 = .ok (.bipush (-4), 2) := by decide +kernel
theorem dX7_letter_7 : decode cX7_letter 7 = .ok (.invokevirtual 66, 3) := by decide +kernel
theorem dX7_letter_10 : decode cX7_letter 10 = .ok (.ireturn, 1) := by decide +kernel
theorem dX7_letter_11 : decode cX7_letter 11 = .ok (.iload_n 1, 1) := by decide +kernel
theorem dX7_letter_12 : decode cX7_letter 12 = .ok (.sipush 255, 3) := by decide +kernel
theorem dX7_letter_15 : decode cX7_letter 15 = .ok (.if_icmp .gt 12, 3) := by decide +kernel
theorem dX7_letter_18 : decode cX7_letter 18 = .ok (.aload_n 0, 1) := by decide +kernel
theorem dX7_letter_19 : decode cX7_letter 19 = .ok (.getfield 70, 3) := by decide +kernel
theorem dX7_letter_22 : decode cX7_letter 22 = .ok (.bipush 96, 2) := by decide +kernel
theorem dX7_letter_24 : decode cX7_letter 24 = .ok (.if_icmp .ne 10, 3) := by decide +kernel
theorem dX7_letter_27 : decode cX7_letter 27 = .ok (.aload_n 0, 1) := by decide +kernel
theorem dX7_letter_28 : decode cX7_letter 28 = .ok (.bipush (-6), 2) := by decide +kernel
theorem dX7_letter_30 : decode cX7_letter 30 = .ok (.invokevirtual 66, 3) := by decide +kernel
theorem dX7_letter_33 : decode cX7_letter 33 = .ok (.ireturn, 1) := by decide +kernel
theorem dX7_letter_34 : decode cX7_letter 34 = .ok (.aload_n 0, 1) := by decide +kernel
theorem dX7_letter_35 : decode cX7_letter 35 = .ok (.getfield 25, 3) := by decide +kernel
theorem dX7_letter_38 : decode cX7_letter 38 = .ok (.aload_n 0, 1) := by decide +kernel
theorem dX7_letter_39 : decode cX7_letter 39 = .ok (.dup, 1) := by decide +kernel
theorem dX7_letter_40 : decode cX7_letter 40 = .ok (.getfield 70, 3) := by decide +kernel
theorem dX7_letter_43 : decode cX7_letter 43 = .ok (.dup_x1, 1) := by decide +kernel
theorem dX7_letter_44 : decode cX7_letter 44 = .ok (.iconst 1, 1) := by decide +kernel
theorem dX7_letter_45 : decode cX7_letter 45 = .ok (.iadd, 1) := by decide +kernel
theorem dX7_letter_46 : decode cX7_letter 46 = .ok (.putfield 70, 3) := by decide +kernel
theorem dX7_letter_49 : decode cX7_letter 49 = .ok (.iload_n 1, 1) := by decide +kernel
theorem dX7_letter_50 : decode cX7_letter 50 = .ok (.iastore, 1) := by decide +kernel
theorem dX7_letter_51 : decode cX7_letter 51 = .ok (.aload_n 0, 1) := by decide +kernel
theorem dX7_letter_52 : decode cX7_letter 52 = .ok (.getfield 70, 3) := by decide +kernel
theorem dX7_letter_55 : decode cX7_letter 55 = .ok (.ireturn, 1) := by decide +kernel
theorem dX7_is_0 : decode cX7_is 0 = .ok (.aload_n 0, 1) := by decide +kernel
theorem dX7_is_1 : decode cX7_is 1 = .ok (.getfield 73, 3) := by decide +kernel
theorem dX7_is_4 : decode cX7_is 4 = .ok (.aload_n 0, 1) := by decide +kernel
theorem dX7_is_5 : decode cX7_is 5 = .ok (.getfield 70, 3) := by decide +kernel
theorem dX7_is_8 : decode cX7_is 8 = .ok (.if_icmp .eq 16, 3) := by decide +kernel
theorem dX7_is_11 : decode cX7_is 11 = .ok (.aload_n 0, 1) := by decide +kernel
theorem dX7_is_12 : decode cX7_is 12 = .ok (.getfield 25, 3) := by decide +kernel
theorem dX7_is_15 : decode cX7_is 15 = .ok (.aload_n 0, 1) := by decide +kernel
theorem dX7_is_16 : decode cX7_is 16 = .ok (.getfield 73, 3) := by decide +kernel
theorem dX7_is_19 : decode cX7_is 19 = .ok (.iaload, 1) := by decide +kernel
theorem dX7_is_20 : decode cX7_is 20 = .ok (.iload_n 1, 1) := by decide +kernel
theorem dX7_is_21 : decode cX7_is 21 = .ok (.if_icmp .eq 5, 3) := by decide +kernel
theorem dX7_is_24 : decode cX7_is 24 = .ok (.iconst 0, 1) := by decide +kernel
theorem dX7_is_25 : decode cX7_is 25 = .ok (.ireturn, 1) := by decide +kernel
theorem dX7_is_26 : decode cX7_is 26 = .ok (.aload_n 0, 1) := by decide +kernel
theorem dX7_is_27 : decode cX7_is 27 = .ok (.dup, 1) := by decide +kernel
theorem dX7_is_28 : decode cX7_is 28 = .ok (.getfield 73, 3) := by decide +kernel
theorem dX7_is_31 : decode cX7_is 31 = .ok (.iconst 1, 1) := by decide +kernel
theorem dX7_is_32 : decode cX7_is 32 = .ok (.iadd, 1) := by decide +kernel
theorem dX7_is_33 : decode cX7_is 33 = .ok (.putfield 73, 3) := by decide +kernel
theorem dX7_is_36 : decode cX7_is 36 = .ok (.iconst 1, 1) := by decide +kernel
theorem dX7_is_37 : decode cX7_is 37 = .ok (.ireturn, 1) := by decide +kernel
theorem dX7_digits_0 : decode cX7_digits 0 = .ok (.iconst 0, 1) := by decide +kernel
theorem dX7_digits_1 : decode cX7_digits 1 = .ok (.istore_n 2, 1) := by decide +kernel
theorem dX7_digits_2 : decode cX7_digits 2 = .ok (.iload_n 2, 1) := by decide +kernel
theorem dX7_digits_3 : decode cX7_digits 3 = .ok (.iload_n 1, 1) := by decide +kernel
theorem dX7_digits_4 : decode cX7_digits 4 = .ok (.if_icmp .ge 75, 3) := by decide +kernel
theorem dX7_digits_7 : decode cX7_digits 7 = .ok (.aload_n 0, 1) := by decide +kernel
theorem dX7_digits_8 : decode cX7_digits 8 = .ok (.getfield 73, 3) := by decide +kernel
theorem dX7_digits_11 : decode cX7_digits 11 = .ok (.aload_n 0, 1) := by decide +kernel
theorem dX7_digits_12 : decode cX7_digits 12 = .ok (.getfield 70, 3) := by decide +kernel
theorem dX7_digits_15 : decode cX7_digits 15 = .ok (.if_icmp .eq 31, 3) := by decide +kernel
theorem dX7_digits_18 : decode cX7_digits 18 = .ok (.aload_n 0, 1) := by decide +kernel
theorem dX7_digits_19 : decode cX7_digits 19 = .ok (.getfield 25, 3) := by decide +kernel
theorem dX7_digits_22 : decode cX7_digits 22 = .ok (.aload_n 0, 1) := by decide +kernel
theorem dX7_digits_23 : decode cX7_digits 23 = .ok (.getfield 73, 3) := by decide +kernel
theorem dX7_digits_26 : decode cX7_digits 26 = .ok (.iaload, 1) := by decide +kernel
theorem dX7_digits_27 : decode cX7_digits 27 = .ok (.bipush 48, 2) := by decide +kernel
theorem dX7_digits_29 : decode cX7_digits 29 = .ok (.if_icmp .lt 17, 3) := by decide +kernel
theorem dX7_digits_32 : decode cX7_digits 32 = .ok (.aload_n 0, 1) := by decide +kernel
theorem dX7_digits_33 : decode cX7_digits 33 = .ok (.getfield 25, 3) := by decide +kernel
theorem dX7_digits_36 : decode cX7_digits 36 = .ok (.aload_n 0, 1) := by decide +kernel
theorem dX7_digits_37 : decode cX7_digits 37 = .ok (.getfield 73, 3) := by decide +kernel
theorem dX7_digits_40 : decode cX7_digits 40 = .ok (.iaload, 1) := by decide +kernel
theorem dX7_digits_41 : decode cX7_digits 41 = .ok (.bipush 57, 2) := by decide +kernel
theorem dX7_digits_43 : decode cX7_digits 43 = .ok (.if_icmp .le 5, 3) := by decide +kernel
theorem dX7_digits_46 : decode cX7_digits 46 = .ok (.iconst 0, 1) := by decide +kernel
theorem dX7_digits_47 : decode cX7_digits 47 = .ok (.ireturn, 1) := by decide +kernel
theorem dX7_digits_48 : decode cX7_digits 48 = .ok (.aload_n 0, 1) := by decide +kernel
theorem dX7_digits_49 : decode cX7_digits 49 = .ok (.getfield 28, 3) := by decide +kernel
theorem dX7_digits_52 : decode cX7_digits 52 = .ok (.iload_n 2, 1) := by decide +kernel
theorem dX7_digits_53 : decode cX7_digits 53 = .ok (.aload_n 0, 1) := by decide +kernel
theorem dX7_digits_54 : decode cX7_digits 54 = .ok (.getfield 25, 3) := by decide +kernel
theorem dX7_digits_57 : decode cX7_digits 57 = .ok (.aload_n 0, 1) := by decide +kernel
theorem dX7_digits_58 : decode cX7_digits 58 = .ok (.dup, 1) := by decide +kernel
theorem dX7_digits_59 : decode cX7_digits 59 = .ok (.getfield 73, 3) := by decide +kernel
theorem dX7_digits_62 : decode cX7_digits 62 = .ok (.dup_x1, 1) := by decide +kernel
theorem dX7_digits_63 : decode cX7_digits 63 = .ok (.iconst 1, 1) := by decide +kernel
theorem dX7_digits_64 : decode cX7_digits 64 = .ok (.iadd, 1) := by decide +kernel
theorem dX7_digits_65 : decode cX7_digits 65 = .ok (.putfield 73, 3) := by decide +kernel
theorem dX7_digits_68 : decode cX7_digits 68 = .ok (.iaload, 1) := by decide +kernel
theorem dX7_digits_69 : decode cX7_digits 69 = .ok (.bipush 48, 2) := by decide +kernel
theorem dX7_digits_71 : decode cX7_digits 71 = .ok (.isub, 1) := by decide +kernel
theorem dX7_digits_72 : decode cX7_digits 72 = .ok (.iastore, 1) := by decide +kernel
theorem dX7_digits_73 : decode cX7_digits 73 = .ok (.iinc 2 1, 3) := by decide +kernel
theorem dX7_digits_76 : decode cX7_digits 76 = .ok (.goto (-74), 3) := by decide +kernel
theorem dX7_digits_79 : decode cX7_digits 79 = .ok (.iconst 1, 1) := by decide +kernel
theorem dX7_digits_80 : decode cX7_digits 80 = .ok (.ireturn, 1) := by decide +kernel
theorem dX7_two_0 : decode cX7_two 0 = .ok (.bipush 10, 2) := by decide +kernel
theorem dX7_two_2 : decode cX7_two 2 = .ok (.aload_n 0, 1) := by decide +kernel
theorem dX7_two_3 : decode cX7_two 3 = .ok (.getfield 28, 3) := by decide +kernel
theorem dX7_two_6 : decode cX7_two 6 = .ok (.iload_n 1, 1) := by decide +kernel
theorem dX7_two_7 : decode cX7_two 7 = .ok (.iaload, 1) := by decide +kernel
theorem dX7_two_8 : decode cX7_two 8 = .ok (.imul, 1) := by decide +kernel
theorem dX7_two_9 : decode cX7_two 9 = .ok (.aload_n 0, 1) := by decide +kernel
theorem dX7_two_10 : decode cX7_two 10 = .ok (.getfield 28, 3) := by decide +kernel
theorem dX7_two_13 : decode cX7_two 13 = .ok (.iload_n 1, 1) := by decide +kernel
theorem dX7_two_14 : decode cX7_two 14 = .ok (.iconst 1, 1) := by decide +kernel
theorem dX7_two_15 : decode cX7_two 15 = .ok (.iadd, 1) := by decide +kernel
theorem dX7_two_16 : decode cX7_two 16 = .ok (.iaload, 1) := by decide +kernel
theorem dX7_two_17 : decode cX7_two 17 = .ok (.iadd, 1) := by decide +kernel
theorem dX7_two_18 : decode cX7_two 18 = .ok (.ireturn, 1) := by decide +kernel
theorem dX7_statement_0 : decode cX7_statement 0 = .ok (.aload_n 0, 1) := by decide +kernel
theorem dX7_statement_1 : decode cX7_statement 1 = .ok (.bipush 99, 2) := by decide +kernel
theorem dX7_statement_3 : decode cX7_statement 3 = .ok (.invokevirtual 76, 3) := by decide +kernel
theorem dX7_statement_6 : decode cX7_statement 6 = .ok (.ifCond .eq 193, 3) := by decide +kernel
theorem dX7_statement_9 : decode cX7_statement 9 = .ok (.aload_n 0, 1) := by decide +kernel
theorem dX7_statement_10 : decode cX7_statement 10 = .ok (.getfield 73, 3) := by decide +kernel
theorem dX7_statement_13 : decode cX7_statement 13 = .ok (.aload_n 0, 1) := by decide +kernel
theorem dX7_statement_14 : decode cX7_statement 14 = .ok (.getfield 70, 3) := by decide +kernel
theorem dX7_statement_17 : decode cX7_statement 17 = .ok (.if_icmp .ge 32, 3) := by decide +kernel
theorem dX7_statement_20 : decode cX7_statement 20 = .ok (.aload_n 0, 1) := by decide +kernel
theorem dX7_statement_21 : decode cX7_statement 21 = .ok (.getfield 25, 3) := by decide +kernel
theorem dX7_statement_24 : decode cX7_statement 24 = .ok (.aload_n 0, 1) := by decide +kernel
theorem dX7_statement_25 : decode cX7_statement 25 = .ok (.getfield 73, 3) := by decide +kernel
theorem dX7_statement_28 : decode cX7_statement 28 = .ok (.iaload, 1) := by decide +kernel
theorem dX7_statement_29 : decode cX7_statement 29 = .ok (.ifCond .le 20, 3) := by decide +kernel
theorem dX7_statement_32 : decode cX7_statement 32 = .ok (.ldc 80, 2) := by decide +kernel
theorem dX7_statement_34 : decode cX7_statement 34 = .ok (.aload_n 0, 1) := by decide +kernel
theorem dX7_statement_35 : decode cX7_statement 35 = .ok (.getfield 25, 3) := by decide +kernel
theorem dX7_statement_38 : decode cX7_statement 38 = .ok (.aload_n 0, 1) := by decide +kernel
theorem dX7_statement_39 : decode cX7_statement 39 = .ok (.getfield 73, 3) := by decide +kernel
theorem dX7_statement_42 : decode cX7_statement 42 = .ok (.iaload, 1) := by decide +kernel
theorem dX7_statement_43 : decode cX7_statement 43 = .ok (.invokevirtual 82, 3) := by decide +kernel
theorem dX7_statement_46 : decode cX7_statement 46 = .ok (.goto 4, 3) := by decide +kernel
theorem dX7_statement_49 : decode cX7_statement 49 = .ok (.iconst (-1), 1) := by decide +kernel
theorem dX7_statement_50 : decode cX7_statement 50 = .ok (.istore_n 2, 1) := by decide +kernel
theorem dX7_statement_51 : decode cX7_statement 51 = .ok (.iload_n 2, 1) := by decide +kernel
theorem dX7_statement_52 : decode cX7_statement 52 = .ok (.ifCond .ge 5, 3) := by decide +kernel
theorem dX7_statement_55 : decode cX7_statement 55 = .ok (.iconst (-1), 1) := by decide +kernel
theorem dX7_statement_56 : decode cX7_statement 56 = .ok (.ireturn, 1) := by decide +kernel
theorem dX7_statement_57 : decode cX7_statement 57 = .ok (.aload_n 0, 1) := by decide +kernel
theorem dX7_statement_58 : decode cX7_statement 58 = .ok (.dup, 1) := by decide +kernel
theorem dX7_statement_59 : decode cX7_statement 59 = .ok (.getfield 73, 3) := by decide +kernel
theorem dX7_statement_62 : decode cX7_statement 62 = .ok (.iconst 1, 1) := by decide +kernel
theorem dX7_statement_63 : decode cX7_statement 63 = .ok (.iadd, 1) := by decide +kernel
theorem dX7_statement_64 : decode cX7_statement 64 = .ok (.putfield 73, 3) := by decide +kernel
theorem dX7_statement_67 : decode cX7_statement 67 = .ok (.aload_n 0, 1) := by decide +kernel
theorem dX7_statement_68 : decode cX7_statement 68 = .ok (.iconst 4, 1) := by decide +kernel
theorem dX7_statement_69 : decode cX7_statement 69 = .ok (.invokevirtual 87, 3) := by decide +kernel
theorem dX7_statement_72 : decode cX7_statement 72 = .ok (.ifCond .ne 5, 3) := by decide +kernel
theorem dX7_statement_75 : decode cX7_statement 75 = .ok (.iconst (-1), 1) := by decide +kernel
theorem dX7_statement_76 : decode cX7_statement 76 = .ok (.ireturn, 1) := by decide +kernel
theorem dX7_statement_77 : decode cX7_statement 77 = .ok (.iload_n 1, 1) := by decide +kernel
theorem dX7_statement_78 : decode cX7_statement 78 = .ok (.ifCond .ne 5, 3) := by decide +kernel
theorem dX7_statement_81 : decode cX7_statement 81 = .ok (.iconst 1, 1) := by decide +kernel
theorem dX7_statement_82 : decode cX7_statement 82 = .ok (.ireturn, 1) := by decide +kernel
theorem dX7_statement_83 : decode cX7_statement 83 = .ok (.aload_n 0, 1) := by decide +kernel
theorem dX7_statement_84 : decode cX7_statement 84 = .ok (.getfield 28, 3) := by decide +kernel
theorem dX7_statement_87 : decode cX7_statement 87 = .ok (.iconst 1, 1) := by decide +kernel
theorem dX7_statement_88 : decode cX7_statement 88 = .ok (.iaload, 1) := by decide +kernel
theorem dX7_statement_89 : decode cX7_statement 89 = .ok (.iconst 1, 1) := by decide +kernel
theorem dX7_statement_90 : decode cX7_statement 90 = .ok (.if_icmp .gt 22, 3) := by decide +kernel
theorem dX7_statement_93 : decode cX7_statement 93 = .ok (.aload_n 0, 1) := by decide +kernel
theorem dX7_statement_94 : decode cX7_statement 94 = .ok (.iconst 2, 1) := by decide +kernel
theorem dX7_statement_95 : decode cX7_statement 95 = .ok (.invokevirtual 90, 3) := by decide +kernel
theorem dX7_statement_98 : decode cX7_statement 98 = .ok (.bipush 20, 2) := by decide +kernel
theorem dX7_statement_100 : decode cX7_statement 100 = .ok (.if_icmp .gt 12, 3) := by decide +kernel
theorem dX7_statement_103 : decode cX7_statement 103 = .ok (.aload_n 0, 1) := by decide +kernel
theorem dX7_statement_104 : decode cX7_statement 104 = .ok (.getfield 59, 3) := by decide +kernel
theorem dX7_statement_107 : decode cX7_statement 107 = .ok (.bipush 9, 2) := by decide +kernel
theorem dX7_statement_109 : decode cX7_statement 109 = .ok (.if_icmp .ne 5, 3) := by decide +kernel
theorem dX7_statement_112 : decode cX7_statement 112 = .ok (.iconst 0, 1) := by decide +kernel
theorem dX7_statement_113 : decode cX7_statement 113 = .ok (.ireturn, 1) := by decide +kernel
theorem dX7_statement_114 : decode cX7_statement 114 = .ok (.aload_n 0, 1) := by decide +kernel
theorem dX7_statement_115 : decode cX7_statement 115 = .ok (.getfield 7, 3) := by decide +kernel
theorem dX7_statement_118 : decode cX7_statement 118 = .ok (.aload_n 0, 1) := by decide +kernel
theorem dX7_statement_119 : decode cX7_statement 119 = .ok (.getfield 59, 3) := by decide +kernel
theorem dX7_statement_122 : decode cX7_statement 122 = .ok (.iload_n 2, 1) := by decide +kernel
theorem dX7_statement_123 : decode cX7_statement 123 = .ok (.iastore, 1) := by decide +kernel
theorem dX7_statement_124 : decode cX7_statement 124 = .ok (.aload_n 0, 1) := by decide +kernel
theorem dX7_statement_125 : decode cX7_statement 125 = .ok (.getfield 13, 3) := by decide +kernel
theorem dX7_statement_128 : decode cX7_statement 128 = .ok (.aload_n 0, 1) := by decide +kernel
theorem dX7_statement_129 : decode cX7_statement 129 = .ok (.getfield 59, 3) := by decide +kernel
theorem dX7_statement_132 : decode cX7_statement 132 = .ok (.aload_n 0, 1) := by decide +kernel
theorem dX7_statement_133 : decode cX7_statement 133 = .ok (.getfield 28, 3) := by decide +kernel
theorem dX7_statement_136 : decode cX7_statement 136 = .ok (.iconst 0, 1) := by decide +kernel
theorem dX7_statement_137 : decode cX7_statement 137 = .ok (.iaload, 1) := by decide +kernel
theorem dX7_statement_138 : decode cX7_statement 138 = .ok (.iastore, 1) := by decide +kernel
theorem dX7_statement_139 : decode cX7_statement 139 = .ok (.aload_n 0, 1) := by decide +kernel
theorem dX7_statement_140 : decode cX7_statement 140 = .ok (.getfield 19, 3) := by decide +kernel
theorem dX7_statement_143 : decode cX7_statement 143 = .ok (.aload_n 0, 1) := by decide +kernel
theorem dX7_statement_144 : decode cX7_statement 144 = .ok (.getfield 59, 3) := by decide +kernel
theorem dX7_statement_147 : decode cX7_statement 147 = .ok (.aload_n 0, 1) := by decide +kernel
theorem dX7_statement_148 : decode cX7_statement 148 = .ok (.getfield 28, 3) := by decide +kernel
theorem dX7_statement_151 : decode cX7_statement 151 = .ok (.iconst 1, 1) := by decide +kernel
theorem dX7_statement_152 : decode cX7_statement 152 = .ok (.iaload, 1) := by decide +kernel
theorem dX7_statement_153 : decode cX7_statement 153 = .ok (.iastore, 1) := by decide +kernel
theorem dX7_statement_154 : decode cX7_statement 154 = .ok (.aload_n 0, 1) := by decide +kernel
theorem dX7_statement_155 : decode cX7_statement 155 = .ok (.getfield 22, 3) := by decide +kernel
theorem dX7_statement_158 : decode cX7_statement 158 = .ok (.aload_n 0, 1) := by decide +kernel
theorem dX7_statement_159 : decode cX7_statement 159 = .ok (.getfield 59, 3) := by decide +kernel
theorem dX7_statement_162 : decode cX7_statement 162 = .ok (.aload_n 0, 1) := by decide +kernel
theorem dX7_statement_163 : decode cX7_statement 163 = .ok (.aload_n 0, 1) := by decide +kernel
theorem dX7_statement_164 : decode cX7_statement 164 = .ok (.getfield 28, 3) := by decide +kernel
theorem dX7_statement_167 : decode cX7_statement 167 = .ok (.iconst 1, 1) := by decide +kernel
theorem dX7_statement_168 : decode cX7_statement 168 = .ok (.iaload, 1) := by decide +kernel
theorem dX7_statement_169 : decode cX7_statement 169 = .ok (.invokevirtual 93, 3) := by decide +kernel
theorem dX7_statement_172 : decode cX7_statement 172 = .ok (.iastore, 1) := by decide +kernel
theorem dX7_statement_173 : decode cX7_statement 173 = .ok (.aload_n 0, 1) := by decide +kernel
theorem dX7_statement_174 : decode cX7_statement 174 = .ok (.getfield 16, 3) := by decide +kernel
theorem dX7_statement_177 : decode cX7_statement 177 = .ok (.aload_n 0, 1) := by decide +kernel
theorem dX7_statement_178 : decode cX7_statement 178 = .ok (.getfield 59, 3) := by decide +kernel
theorem dX7_statement_181 : decode cX7_statement 181 = .ok (.aload_n 0, 1) := by decide +kernel
theorem dX7_statement_182 : decode cX7_statement 182 = .ok (.iconst 2, 1) := by decide +kernel
theorem dX7_statement_183 : decode cX7_statement 183 = .ok (.invokevirtual 90, 3) := by decide +kernel
theorem dX7_statement_186 : decode cX7_statement 186 = .ok (.iastore, 1) := by decide +kernel
theorem dX7_statement_187 : decode cX7_statement 187 = .ok (.aload_n 0, 1) := by decide +kernel
theorem dX7_statement_188 : decode cX7_statement 188 = .ok (.dup, 1) := by decide +kernel
theorem dX7_statement_189 : decode cX7_statement 189 = .ok (.getfield 59, 3) := by decide +kernel
theorem dX7_statement_192 : decode cX7_statement 192 = .ok (.iconst 1, 1) := by decide +kernel
theorem dX7_statement_193 : decode cX7_statement 193 = .ok (.iadd, 1) := by decide +kernel
theorem dX7_statement_194 : decode cX7_statement 194 = .ok (.putfield 59, 3) := by decide +kernel
theorem dX7_statement_197 : decode cX7_statement 197 = .ok (.iconst 1, 1) := by decide +kernel
theorem dX7_statement_198 : decode cX7_statement 198 = .ok (.ireturn, 1) := by decide +kernel
theorem dX7_statement_199 : decode cX7_statement 199 = .ok (.aload_n 0, 1) := by decide +kernel
theorem dX7_statement_200 : decode cX7_statement 200 = .ok (.bipush 120, 2) := by decide +kernel
theorem dX7_statement_202 : decode cX7_statement 202 = .ok (.invokevirtual 76, 3) := by decide +kernel
theorem dX7_statement_205 : decode cX7_statement 205 = .ok (.ifCond .eq 132, 3) := by decide +kernel
theorem dX7_statement_208 : decode cX7_statement 208 = .ok (.aload_n 0, 1) := by decide +kernel
theorem dX7_statement_209 : decode cX7_statement 209 = .ok (.iconst 2, 1) := by decide +kernel
theorem dX7_statement_210 : decode cX7_statement 210 = .ok (.invokevirtual 87, 3) := by decide +kernel
theorem dX7_statement_213 : decode cX7_statement 213 = .ok (.ifCond .ne 5, 3) := by decide +kernel
theorem dX7_statement_216 : decode cX7_statement 216 = .ok (.iconst (-1), 1) := by decide +kernel
theorem dX7_statement_217 : decode cX7_statement 217 = .ok (.ireturn, 1) := by decide +kernel
theorem dX7_statement_218 : decode cX7_statement 218 = .ok (.iload_n 1, 1) := by decide +kernel
theorem dX7_statement_219 : decode cX7_statement 219 = .ok (.ifCond .ne 5, 3) := by decide +kernel
theorem dX7_statement_222 : decode cX7_statement 222 = .ok (.iconst 1, 1) := by decide +kernel
theorem dX7_statement_223 : decode cX7_statement 223 = .ok (.ireturn, 1) := by decide +kernel
theorem dX7_statement_224 : decode cX7_statement 224 = .ok (.aload_n 0, 1) := by decide +kernel
theorem dX7_statement_225 : decode cX7_statement 225 = .ok (.aload_n 0, 1) := by decide +kernel
theorem dX7_statement_226 : decode cX7_statement 226 = .ok (.getfield 28, 3) := by decide +kernel
theorem dX7_statement_229 : decode cX7_statement 229 = .ok (.iconst 0, 1) := by decide +kernel
theorem dX7_statement_230 : decode cX7_statement 230 = .ok (.iaload, 1) := by decide +kernel
theorem dX7_statement_231 : decode cX7_statement 231 = .ok (.invokevirtual 96, 3) := by decide +kernel
theorem dX7_statement_234 : decode cX7_statement 234 = .ok (.ifCond .eq 31, 3) := by decide +kernel
theorem dX7_statement_237 : decode cX7_statement 237 = .ok (.aload_n 0, 1) := by decide +kernel
theorem dX7_statement_238 : decode cX7_statement 238 = .ok (.aload_n 0, 1) := by decide +kernel
theorem dX7_statement_239 : decode cX7_statement 239 = .ok (.getfield 28, 3) := by decide +kernel
theorem dX7_statement_242 : decode cX7_statement 242 = .ok (.iconst 1, 1) := by decide +kernel
theorem dX7_statement_243 : decode cX7_statement 243 = .ok (.iaload, 1) := by decide +kernel
theorem dX7_statement_244 : decode cX7_statement 244 = .ok (.invokevirtual 96, 3) := by decide +kernel
theorem dX7_statement_247 : decode cX7_statement 247 = .ok (.ifCond .eq 18, 3) := by decide +kernel
theorem dX7_statement_250 : decode cX7_statement 250 = .ok (.aload_n 0, 1) := by decide +kernel
theorem dX7_statement_251 : decode cX7_statement 251 = .ok (.getfield 28, 3) := by decide +kernel
theorem dX7_statement_254 : decode cX7_statement 254 = .ok (.iconst 0, 1) := by decide +kernel
theorem dX7_statement_255 : decode cX7_statement 255 = .ok (.iaload, 1) := by decide +kernel
theorem dX7_statement_256 : decode cX7_statement 256 = .ok (.aload_n 0, 1) := by decide +kernel
theorem dX7_statement_257 : decode cX7_statement 257 = .ok (.getfield 28, 3) := by decide +kernel
theorem dX7_statement_260 : decode cX7_statement 260 = .ok (.iconst 1, 1) := by decide +kernel
theorem dX7_statement_261 : decode cX7_statement 261 = .ok (.iaload, 1) := by decide +kernel
theorem dX7_statement_262 : decode cX7_statement 262 = .ok (.if_icmp .ne 5, 3) := by decide +kernel
theorem dX7_statement_265 : decode cX7_statement 265 = .ok (.iconst 0, 1) := by decide +kernel
theorem dX7_statement_266 : decode cX7_statement 266 = .ok (.ireturn, 1) := by decide +kernel
theorem dX7_statement_267 : decode cX7_statement 267 = .ok (.aload_n 0, 1) := by decide +kernel
theorem dX7_statement_268 : decode cX7_statement 268 = .ok (.getfield 7, 3) := by decide +kernel
theorem dX7_statement_271 : decode cX7_statement 271 = .ok (.aload_n 0, 1) := by decide +kernel
theorem dX7_statement_272 : decode cX7_statement 272 = .ok (.getfield 28, 3) := by decide +kernel
theorem dX7_statement_275 : decode cX7_statement 275 = .ok (.iconst 0, 1) := by decide +kernel
theorem dX7_statement_276 : decode cX7_statement 276 = .ok (.iaload, 1) := by decide +kernel
theorem dX7_statement_277 : decode cX7_statement 277 = .ok (.iaload, 1) := by decide +kernel
theorem dX7_statement_278 : decode cX7_statement 278 = .ok (.istore_n 2, 1) := by decide +kernel
theorem dX7_statement_279 : decode cX7_statement 279 = .ok (.aload_n 0, 1) := by decide +kernel
theorem dX7_statement_280 : decode cX7_statement 280 = .ok (.getfield 13, 3) := by decide +kernel
theorem dX7_statement_283 : decode cX7_statement 283 = .ok (.aload_n 0, 1) := by decide +kernel
theorem dX7_statement_284 : decode cX7_statement 284 = .ok (.getfield 28, 3) := by decide +kernel
theorem dX7_statement_287 : decode cX7_statement 287 = .ok (.iconst 0, 1) := by decide +kernel
theorem dX7_statement_288 : decode cX7_statement 288 = .ok (.iaload, 1) := by decide +kernel
theorem dX7_statement_289 : decode cX7_statement 289 = .ok (.iaload, 1) := by decide +kernel
theorem dX7_statement_290 : decode cX7_statement 290 = .ok (.istore_n 3, 1) := by decide +kernel
theorem dX7_statement_291 : decode cX7_statement 291 = .ok (.aload_n 0, 1) := by decide +kernel
theorem dX7_statement_292 : decode cX7_statement 292 = .ok (.aload_n 0, 1) := by decide +kernel
theorem dX7_statement_293 : decode cX7_statement 293 = .ok (.getfield 28, 3) := by decide +kernel
theorem dX7_statement_296 : decode cX7_statement 296 = .ok (.iconst 0, 1) := by decide +kernel
theorem dX7_statement_297 : decode cX7_statement 297 = .ok (.iaload, 1) := by decide +kernel
theorem dX7_statement_298 : decode cX7_statement 298 = .ok (.aload_n 0, 1) := by decide +kernel
theorem dX7_statement_299 : decode cX7_statement 299 = .ok (.getfield 7, 3) := by decide +kernel
theorem dX7_statement_302 : decode cX7_statement 302 = .ok (.aload_n 0, 1) := by decide +kernel
theorem dX7_statement_303 : decode cX7_statement 303 = .ok (.getfield 28, 3) := by decide +kernel
theorem dX7_statement_306 : decode cX7_statement 306 = .ok (.iconst 1, 1) := by decide +kernel
theorem dX7_statement_307 : decode cX7_statement 307 = .ok (.iaload, 1) := by decide +kernel
theorem dX7_statement_308 : decode cX7_statement 308 = .ok (.iaload, 1) := by decide +kernel
theorem dX7_statement_309 : decode cX7_statement 309 = .ok (.aload_n 0, 1) := by decide +kernel
theorem dX7_statement_310 : decode cX7_statement 310 = .ok (.getfield 13, 3) := by decide +kernel
theorem dX7_statement_313 : decode cX7_statement 313 = .ok (.aload_n 0, 1) := by decide +kernel
theorem dX7_statement_314 : decode cX7_statement 314 = .ok (.getfield 28, 3) := by decide +kernel
theorem dX7_statement_317 : decode cX7_statement 317 = .ok (.iconst 1, 1) := by decide +kernel
theorem dX7_statement_318 : decode cX7_statement 318 = .ok (.iaload, 1) := by decide +kernel
theorem dX7_statement_319 : decode cX7_statement 319 = .ok (.iaload, 1) := by decide +kernel
theorem dX7_statement_320 : decode cX7_statement 320 = .ok (.invokevirtual 99, 3) := by decide +kernel
theorem dX7_statement_323 : decode cX7_statement 323 = .ok (.aload_n 0, 1) := by decide +kernel
theorem dX7_statement_324 : decode cX7_statement 324 = .ok (.aload_n 0, 1) := by decide +kernel
theorem dX7_statement_325 : decode cX7_statement 325 = .ok (.getfield 28, 3) := by decide +kernel
theorem dX7_statement_328 : decode cX7_statement 328 = .ok (.iconst 1, 1) := by decide +kernel
theorem dX7_statement_329 : decode cX7_statement 329 = .ok (.iaload, 1) := by decide +kernel
theorem dX7_statement_330 : decode cX7_statement 330 = .ok (.iload_n 2, 1) := by decide +kernel
theorem dX7_statement_331 : decode cX7_statement 331 = .ok (.iload_n 3, 1) := by decide +kernel
theorem dX7_statement_332 : decode cX7_statement 332 = .ok (.invokevirtual 99, 3) := by decide +kernel
theorem dX7_statement_335 : decode cX7_statement 335 = .ok (.iconst 1, 1) := by decide +kernel
theorem dX7_statement_336 : decode cX7_statement 336 = .ok (.ireturn, 1) := by decide +kernel
theorem dX7_statement_337 : decode cX7_statement 337 = .ok (.aload_n 0, 1) := by decide +kernel
theorem dX7_statement_338 : decode cX7_statement 338 = .ok (.bipush 98, 2) := by decide +kernel
theorem dX7_statement_340 : decode cX7_statement 340 = .ok (.invokevirtual 76, 3) := by decide +kernel
theorem dX7_statement_343 : decode cX7_statement 343 = .ok (.ifCond .eq 7, 3) := by decide +kernel
theorem dX7_statement_346 : decode cX7_statement 346 = .ok (.iconst 0, 1) := by decide +kernel
theorem dX7_statement_347 : decode cX7_statement 347 = .ok (.goto 43, 3) := by decide +kernel
theorem dX7_statement_350 : decode cX7_statement 350 = .ok (.aload_n 0, 1) := by decide +kernel
theorem dX7_statement_351 : decode cX7_statement 351 = .ok (.bipush 119, 2) := by decide +kernel
theorem dX7_statement_353 : decode cX7_statement 353 = .ok (.invokevirtual 76, 3) := by decide +kernel
theorem dX7_statement_356 : decode cX7_statement 356 = .ok (.ifCond .eq 7, 3) := by decide +kernel
theorem dX7_statement_359 : decode cX7_statement 359 = .ok (.iconst 1, 1) := by decide +kernel
theorem dX7_statement_360 : decode cX7_statement 360 = .ok (.goto 30, 3) := by decide +kernel
theorem dX7_statement_363 : decode cX7_statement 363 = .ok (.aload_n 0, 1) := by decide +kernel
theorem dX7_statement_364 : decode cX7_statement 364 = .ok (.bipush 111, 2) := by decide +kernel
theorem dX7_statement_366 : decode cX7_statement 366 = .ok (.invokevirtual 76, 3) := by decide +kernel
theorem dX7_statement_369 : decode cX7_statement 369 = .ok (.ifCond .eq 7, 3) := by decide +kernel
theorem dX7_statement_372 : decode cX7_statement 372 = .ok (.iconst 2, 1) := by decide +kernel
theorem dX7_statement_373 : decode cX7_statement 373 = .ok (.goto 17, 3) := by decide +kernel
theorem dX7_statement_376 : decode cX7_statement 376 = .ok (.aload_n 0, 1) := by decide +kernel
theorem dX7_statement_377 : decode cX7_statement 377 = .ok (.bipush 102, 2) := by decide +kernel
theorem dX7_statement_379 : decode cX7_statement 379 = .ok (.invokevirtual 76, 3) := by decide +kernel
theorem dX7_statement_382 : decode cX7_statement 382 = .ok (.ifCond .eq 7, 3) := by decide +kernel
theorem dX7_statement_385 : decode cX7_statement 385 = .ok (.iconst 3, 1) := by decide +kernel
theorem dX7_statement_386 : decode cX7_statement 386 = .ok (.goto 4, 3) := by decide +kernel
theorem dX7_statement_389 : decode cX7_statement 389 = .ok (.iconst (-1), 1) := by decide +kernel
theorem dX7_statement_390 : decode cX7_statement 390 = .ok (.istore_n 2, 1) := by decide +kernel
theorem dX7_statement_391 : decode cX7_statement 391 = .ok (.iload_n 2, 1) := by decide +kernel
theorem dX7_statement_392 : decode cX7_statement 392 = .ok (.ifCond .lt 11, 3) := by decide +kernel
theorem dX7_statement_395 : decode cX7_statement 395 = .ok (.aload_n 0, 1) := by decide +kernel
theorem dX7_statement_396 : decode cX7_statement 396 = .ok (.iconst 1, 1) := by decide +kernel
theorem dX7_statement_397 : decode cX7_statement 397 = .ok (.invokevirtual 87, 3) := by decide +kernel
theorem dX7_statement_400 : decode cX7_statement 400 = .ok (.ifCond .ne 5, 3) := by decide +kernel
theorem dX7_statement_403 : decode cX7_statement 403 = .ok (.iconst (-1), 1) := by decide +kernel
theorem dX7_statement_404 : decode cX7_statement 404 = .ok (.ireturn, 1) := by decide +kernel
theorem dX7_statement_405 : decode cX7_statement 405 = .ok (.iload_n 1, 1) := by decide +kernel
theorem dX7_statement_406 : decode cX7_statement 406 = .ok (.ifCond .ne 5, 3) := by decide +kernel
theorem dX7_statement_409 : decode cX7_statement 409 = .ok (.iconst 1, 1) := by decide +kernel
theorem dX7_statement_410 : decode cX7_statement 410 = .ok (.ireturn, 1) := by decide +kernel
theorem dX7_statement_411 : decode cX7_statement 411 = .ok (.iload_n 2, 1) := by decide +kernel
theorem dX7_statement_412 : decode cX7_statement 412 = .ok (.ifCond .ne 27, 3) := by decide +kernel
theorem dX7_statement_415 : decode cX7_statement 415 = .ok (.aload_n 0, 1) := by decide +kernel
theorem dX7_statement_416 : decode cX7_statement 416 = .ok (.getfield 28, 3) := by decide +kernel
theorem dX7_statement_419 : decode cX7_statement 419 = .ok (.iconst 0, 1) := by decide +kernel
theorem dX7_statement_420 : decode cX7_statement 420 = .ok (.iaload, 1) := by decide +kernel
theorem dX7_statement_421 : decode cX7_statement 421 = .ok (.iconst 2, 1) := by decide +kernel
theorem dX7_statement_422 : decode cX7_statement 422 = .ok (.if_icmp .le 5, 3) := by decide +kernel
theorem dX7_statement_425 : decode cX7_statement 425 = .ok (.iconst 0, 1) := by decide +kernel
theorem dX7_statement_426 : decode cX7_statement 426 = .ok (.ireturn, 1) := by decide +kernel
theorem dX7_statement_427 : decode cX7_statement 427 = .ok (.aload_n 0, 1) := by decide +kernel
theorem dX7_statement_428 : decode cX7_statement 428 = .ok (.aload_n 0, 1) := by decide +kernel
theorem dX7_statement_429 : decode cX7_statement 429 = .ok (.getfield 28, 3) := by decide +kernel
theorem dX7_statement_432 : decode cX7_statement 432 = .ok (.iconst 0, 1) := by decide +kernel
theorem dX7_statement_433 : decode cX7_statement 433 = .ok (.iaload, 1) := by decide +kernel
theorem dX7_statement_434 : decode cX7_statement 434 = .ok (.putfield 103, 3) := by decide +kernel
theorem dX7_statement_437 : decode cX7_statement 437 = .ok (.iconst 1, 1) := by decide +kernel
theorem dX7_statement_438 : decode cX7_statement 438 = .ok (.ireturn, 1) := by decide +kernel
theorem dX7_statement_439 : decode cX7_statement 439 = .ok (.iload_n 2, 1) := by decide +kernel
theorem dX7_statement_440 : decode cX7_statement 440 = .ok (.iconst 1, 1) := by decide +kernel
theorem dX7_statement_441 : decode cX7_statement 441 = .ok (.if_icmp .ne 15, 3) := by decide +kernel
theorem dX7_statement_444 : decode cX7_statement 444 = .ok (.aload_n 0, 1) := by decide +kernel
theorem dX7_statement_445 : decode cX7_statement 445 = .ok (.aload_n 0, 1) := by decide +kernel
theorem dX7_statement_446 : decode cX7_statement 446 = .ok (.getfield 28, 3) := by decide +kernel
theorem dX7_statement_449 : decode cX7_statement 449 = .ok (.iconst 0, 1) := by decide +kernel
theorem dX7_statement_450 : decode cX7_statement 450 = .ok (.iaload, 1) := by decide +kernel
theorem dX7_statement_451 : decode cX7_statement 451 = .ok (.putfield 55, 3) := by decide +kernel
theorem dX7_statement_454 : decode cX7_statement 454 = .ok (.iconst 1, 1) := by decide +kernel
theorem dX7_statement_455 : decode cX7_statement 455 = .ok (.ireturn, 1) := by decide +kernel
theorem dX7_statement_456 : decode cX7_statement 456 = .ok (.aload_n 0, 1) := by decide +kernel
theorem dX7_statement_457 : decode cX7_statement 457 = .ok (.aload_n 0, 1) := by decide +kernel
theorem dX7_statement_458 : decode cX7_statement 458 = .ok (.getfield 28, 3) := by decide +kernel
theorem dX7_statement_461 : decode cX7_statement 461 = .ok (.iconst 0, 1) := by decide +kernel
theorem dX7_statement_462 : decode cX7_statement 462 = .ok (.iaload, 1) := by decide +kernel
theorem dX7_statement_463 : decode cX7_statement 463 = .ok (.invokevirtual 96, 3) := by decide +kernel
theorem dX7_statement_466 : decode cX7_statement 466 = .ok (.ifCond .ne 5, 3) := by decide +kernel
theorem dX7_statement_469 : decode cX7_statement 469 = .ok (.iconst 0, 1) := by decide +kernel
theorem dX7_statement_470 : decode cX7_statement 470 = .ok (.ireturn, 1) := by decide +kernel
theorem dX7_statement_471 : decode cX7_statement 471 = .ok (.iload_n 2, 1) := by decide +kernel
theorem dX7_statement_472 : decode cX7_statement 472 = .ok (.iconst 2, 1) := by decide +kernel
theorem dX7_statement_473 : decode cX7_statement 473 = .ok (.if_icmp .ne 17, 3) := by decide +kernel
theorem dX7_statement_476 : decode cX7_statement 476 = .ok (.aload_n 0, 1) := by decide +kernel
theorem dX7_statement_477 : decode cX7_statement 477 = .ok (.aload_n 0, 1) := by decide +kernel
theorem dX7_statement_478 : decode cX7_statement 478 = .ok (.getfield 28, 3) := by decide +kernel
theorem dX7_statement_481 : decode cX7_statement 481 = .ok (.iconst 0, 1) := by decide +kernel
theorem dX7_statement_482 : decode cX7_statement 482 = .ok (.iaload, 1) := by decide +kernel
theorem dX7_statement_483 : decode cX7_statement 483 = .ok (.invokevirtual 106, 3) := by decide +kernel
theorem dX7_statement_486 : decode cX7_statement 486 = .ok (.pop, 1) := by decide +kernel
theorem dX7_statement_487 : decode cX7_statement 487 = .ok (.goto 14, 3) := by decide +kernel
theorem dX7_statement_490 : decode cX7_statement 490 = .ok (.aload_n 0, 1) := by decide +kernel
theorem dX7_statement_491 : decode cX7_statement 491 = .ok (.aload_n 0, 1) := by decide +kernel
theorem dX7_statement_492 : decode cX7_statement 492 = .ok (.getfield 28, 3) := by decide +kernel
theorem dX7_statement_495 : decode cX7_statement 495 = .ok (.iconst 0, 1) := by decide +kernel
theorem dX7_statement_496 : decode cX7_statement 496 = .ok (.iaload, 1) := by decide +kernel
theorem dX7_statement_497 : decode cX7_statement 497 = .ok (.invokevirtual 109, 3) := by decide +kernel
theorem dX7_statement_500 : decode cX7_statement 500 = .ok (.pop, 1) := by decide +kernel
theorem dX7_statement_501 : decode cX7_statement 501 = .ok (.iconst 1, 1) := by decide +kernel
theorem dX7_statement_502 : decode cX7_statement 502 = .ok (.ireturn, 1) := by decide +kernel
theorem dX7_road_0 : decode cX7_road 0 = .ok (.aload_n 0, 1) := by decide +kernel
theorem dX7_road_1 : decode cX7_road 1 = .ok (.iconst 0, 1) := by decide +kernel
theorem dX7_road_2 : decode cX7_road 2 = .ok (.putfield 73, 3) := by decide +kernel
theorem dX7_road_5 : decode cX7_road 5 = .ok (.iconst 1, 1) := by decide +kernel
theorem dX7_road_6 : decode cX7_road 6 = .ok (.istore_n 1, 1) := by decide +kernel
theorem dX7_road_7 : decode cX7_road 7 = .ok (.iload_n 1, 1) := by decide +kernel
theorem dX7_road_8 : decode cX7_road 8 = .ok (.ifCond .eq 45, 3) := by decide +kernel
theorem dX7_road_11 : decode cX7_road 11 = .ok (.aload_n 0, 1) := by decide +kernel
theorem dX7_road_12 : decode cX7_road 12 = .ok (.iconst 0, 1) := by decide +kernel
theorem dX7_road_13 : decode cX7_road 13 = .ok (.invokevirtual 112, 3) := by decide +kernel
theorem dX7_road_16 : decode cX7_road 16 = .ok (.iconst 1, 1) := by decide +kernel
theorem dX7_road_17 : decode cX7_road 17 = .ok (.if_icmp .ne 16, 3) := by decide +kernel
theorem dX7_road_20 : decode cX7_road 20 = .ok (.aload_n 0, 1) := by decide +kernel
theorem dX7_road_21 : decode cX7_road 21 = .ok (.bipush 59, 2) := by decide +kernel
theorem dX7_road_23 : decode cX7_road 23 = .ok (.invokevirtual 76, 3) := by decide +kernel
theorem dX7_road_26 : decode cX7_road 26 = .ok (.ifCond .eq 7, 3) := by decide +kernel
theorem dX7_road_29 : decode cX7_road 29 = .ok (.iconst 1, 1) := by decide +kernel
theorem dX7_road_30 : decode cX7_road 30 = .ok (.goto 4, 3) := by decide +kernel
theorem dX7_road_33 : decode cX7_road 33 = .ok (.iconst 0, 1) := by decide +kernel
theorem dX7_road_34 : decode cX7_road 34 = .ok (.istore_n 1, 1) := by decide +kernel
theorem dX7_road_35 : decode cX7_road 35 = .ok (.iload_n 1, 1) := by decide +kernel
theorem dX7_road_36 : decode cX7_road 36 = .ok (.ifCond .eq (-29), 3) := by decide +kernel
theorem dX7_road_39 : decode cX7_road 39 = .ok (.aload_n 0, 1) := by decide +kernel
theorem dX7_road_40 : decode cX7_road 40 = .ok (.getfield 73, 3) := by decide +kernel
theorem dX7_road_43 : decode cX7_road 43 = .ok (.aload_n 0, 1) := by decide +kernel
theorem dX7_road_44 : decode cX7_road 44 = .ok (.getfield 70, 3) := by decide +kernel
theorem dX7_road_47 : decode cX7_road 47 = .ok (.if_icmp .ne (-40), 3) := by decide +kernel
theorem dX7_road_50 : decode cX7_road 50 = .ok (.goto 3, 3) := by decide +kernel
theorem dX7_road_53 : decode cX7_road 53 = .ok (.iload_n 1, 1) := by decide +kernel
theorem dX7_road_54 : decode cX7_road 54 = .ok (.ifCond .ne 17, 3) := by decide +kernel
theorem dX7_road_57 : decode cX7_road 57 = .ok (.aload_n 0, 1) := by decide +kernel
theorem dX7_road_58 : decode cX7_road 58 = .ok (.iconst 0, 1) := by decide +kernel
theorem dX7_road_59 : decode cX7_road 59 = .ok (.putfield 70, 3) := by decide +kernel
theorem dX7_road_62 : decode cX7_road 62 = .ok (.sipush (-1000), 3) := by decide +kernel
theorem dX7_road_65 : decode cX7_road 65 = .ok (.aload_n 0, 1) := by decide +kernel
theorem dX7_road_66 : decode cX7_road 66 = .ok (.getfield 73, 3) := by decide +kernel
theorem dX7_road_69 : decode cX7_road 69 = .ok (.isub, 1) := by decide +kernel
theorem dX7_road_70 : decode cX7_road 70 = .ok (.ireturn, 1) := by decide +kernel
theorem dX7_road_71 : decode cX7_road 71 = .ok (.aload_n 0, 1) := by decide +kernel
theorem dX7_road_72 : decode cX7_road 72 = .ok (.aload_n 0, 1) := by decide +kernel
theorem dX7_road_73 : decode cX7_road 73 = .ok (.getfield 40, 3) := by decide +kernel
theorem dX7_road_76 : decode cX7_road 76 = .ok (.invokevirtual 116, 3) := by decide +kernel
theorem dX7_road_79 : decode cX7_road 79 = .ok (.aload_n 0, 1) := by decide +kernel
theorem dX7_road_80 : decode cX7_road 80 = .ok (.iconst 0, 1) := by decide +kernel
theorem dX7_road_81 : decode cX7_road 81 = .ok (.putfield 73, 3) := by decide +kernel
theorem dX7_road_84 : decode cX7_road 84 = .ok (.iconst 0, 1) := by decide +kernel
theorem dX7_road_85 : decode cX7_road 85 = .ok (.istore_n 2, 1) := by decide +kernel
theorem dX7_road_86 : decode cX7_road 86 = .ok (.aload_n 0, 1) := by decide +kernel
theorem dX7_road_87 : decode cX7_road 87 = .ok (.getfield 73, 3) := by decide +kernel
theorem dX7_road_90 : decode cX7_road 90 = .ok (.aload_n 0, 1) := by decide +kernel
theorem dX7_road_91 : decode cX7_road 91 = .ok (.getfield 70, 3) := by decide +kernel
theorem dX7_road_94 : decode cX7_road 94 = .ok (.if_icmp .ge 48, 3) := by decide +kernel
theorem dX7_road_97 : decode cX7_road 97 = .ok (.aload_n 0, 1) := by decide +kernel
theorem dX7_road_98 : decode cX7_road 98 = .ok (.getfield 73, 3) := by decide +kernel
theorem dX7_road_101 : decode cX7_road 101 = .ok (.istore_n 3, 1) := by decide +kernel
theorem dX7_road_102 : decode cX7_road 102 = .ok (.aload_n 0, 1) := by decide +kernel
theorem dX7_road_103 : decode cX7_road 103 = .ok (.iconst 1, 1) := by decide +kernel
theorem dX7_road_104 : decode cX7_road 104 = .ok (.invokevirtual 112, 3) := by decide +kernel
theorem dX7_road_107 : decode cX7_road 107 = .ok (.ifCond .ne 22, 3) := by decide +kernel
theorem dX7_road_110 : decode cX7_road 110 = .ok (.aload_n 0, 1) := by decide +kernel
theorem dX7_road_111 : decode cX7_road 111 = .ok (.aload_n 0, 1) := by decide +kernel
theorem dX7_road_112 : decode cX7_road 112 = .ok (.getfield 40, 3) := by decide +kernel
theorem dX7_road_115 : decode cX7_road 115 = .ok (.invokevirtual 120, 3) := by decide +kernel
theorem dX7_road_118 : decode cX7_road 118 = .ok (.aload_n 0, 1) := by decide +kernel
theorem dX7_road_119 : decode cX7_road 119 = .ok (.iconst 0, 1) := by decide +kernel
theorem dX7_road_120 : decode cX7_road 120 = .ok (.putfield 70, 3) := by decide +kernel
theorem dX7_road_123 : decode cX7_road 123 = .ok (.sipush (-2000), 3) := by decide +kernel
theorem dX7_road_126 : decode cX7_road 126 = .ok (.iload_n 3, 1) := by decide +kernel
theorem dX7_road_127 : decode cX7_road 127 = .ok (.isub, 1) := by decide +kernel
theorem dX7_road_128 : decode cX7_road 128 = .ok (.ireturn, 1) := by decide +kernel
theorem dX7_road_129 : decode cX7_road 129 = .ok (.aload_n 0, 1) := by decide +kernel
theorem dX7_road_130 : decode cX7_road 130 = .ok (.bipush 59, 2) := by decide +kernel
theorem dX7_road_132 : decode cX7_road 132 = .ok (.invokevirtual 76, 3) := by decide +kernel
theorem dX7_road_135 : decode cX7_road 135 = .ok (.pop, 1) := by decide +kernel
theorem dX7_road_136 : decode cX7_road 136 = .ok (.iinc 2 1, 3) := by decide +kernel
theorem dX7_road_139 : decode cX7_road 139 = .ok (.goto (-53), 3) := by decide +kernel
theorem dX7_road_142 : decode cX7_road 142 = .ok (.aload_n 0, 1) := by decide +kernel
theorem dX7_road_143 : decode cX7_road 143 = .ok (.iconst 0, 1) := by decide +kernel
theorem dX7_road_144 : decode cX7_road 144 = .ok (.putfield 70, 3) := by decide +kernel
theorem dX7_road_147 : decode cX7_road 147 = .ok (.iload_n 2, 1) := by decide +kernel
theorem dX7_road_148 : decode cX7_road 148 = .ok (.ireturn, 1) := by decide +kernel
theorem dX7_becomes_0 : decode cX7_becomes 0 = .ok (.aload_n 0, 1) := by decide +kernel
theorem dX7_becomes_1 : decode cX7_becomes 1 = .ok (.getfield 7, 3) := by decide +kernel
theorem dX7_becomes_4 : decode cX7_becomes 4 = .ok (.iload_n 1, 1) := by decide +kernel
theorem dX7_becomes_5 : decode cX7_becomes 5 = .ok (.iload_n 2, 1) := by decide +kernel
theorem dX7_becomes_6 : decode cX7_becomes 6 = .ok (.iastore, 1) := by decide +kernel
theorem dX7_becomes_7 : decode cX7_becomes 7 = .ok (.aload_n 0, 1) := by decide +kernel
theorem dX7_becomes_8 : decode cX7_becomes 8 = .ok (.getfield 13, 3) := by decide +kernel
theorem dX7_becomes_11 : decode cX7_becomes 11 = .ok (.iload_n 1, 1) := by decide +kernel
theorem dX7_becomes_12 : decode cX7_becomes 12 = .ok (.iload_n 3, 1) := by decide +kernel
theorem dX7_becomes_13 : decode cX7_becomes 13 = .ok (.iastore, 1) := by decide +kernel
theorem dX7_becomes_14 : decode cX7_becomes 14 = .ok (.return_, 1) := by decide +kernel
theorem dX7_inLane_0 : decode cX7_inLane 0 = .ok (.iconst 0, 1) := by decide +kernel
theorem dX7_inLane_1 : decode cX7_inLane 1 = .ok (.istore_n 2, 1) := by decide +kernel
theorem dX7_inLane_2 : decode cX7_inLane 2 = .ok (.iconst 0, 1) := by decide +kernel
theorem dX7_inLane_3 : decode cX7_inLane 3 = .ok (.istore_n 3, 1) := by decide +kernel
theorem dX7_inLane_4 : decode cX7_inLane 4 = .ok (.iload_n 3, 1) := by decide +kernel
theorem dX7_inLane_5 : decode cX7_inLane 5 = .ok (.aload_n 0, 1) := by decide +kernel
theorem dX7_inLane_6 : decode cX7_inLane 6 = .ok (.getfield 59, 3) := by decide +kernel
theorem dX7_inLane_9 : decode cX7_inLane 9 = .ok (.if_icmp .ge 22, 3) := by decide +kernel
theorem dX7_inLane_12 : decode cX7_inLane 12 = .ok (.aload_n 0, 1) := by decide +kernel
theorem dX7_inLane_13 : decode cX7_inLane 13 = .ok (.getfield 19, 3) := by decide +kernel
theorem dX7_inLane_16 : decode cX7_inLane 16 = .ok (.iload_n 3, 1) := by decide +kernel
theorem dX7_inLane_17 : decode cX7_inLane 17 = .ok (.iaload, 1) := by decide +kernel
theorem dX7_inLane_18 : decode cX7_inLane 18 = .ok (.iload_n 1, 1) := by decide +kernel
theorem dX7_inLane_19 : decode cX7_inLane 19 = .ok (.if_icmp .ne 6, 3) := by decide +kernel
theorem dX7_inLane_22 : decode cX7_inLane 22 = .ok (.iinc 2 1, 3) := by decide +kernel
theorem dX7_inLane_25 : decode cX7_inLane 25 = .ok (.iinc 3 1, 3) := by decide +kernel
theorem dX7_inLane_28 : decode cX7_inLane 28 = .ok (.goto (-24), 3) := by decide +kernel
theorem dX7_inLane_31 : decode cX7_inLane 31 = .ok (.iload_n 2, 1) := by decide +kernel
theorem dX7_inLane_32 : decode cX7_inLane 32 = .ok (.ireturn, 1) := by decide +kernel
theorem dX7_closes_0 : decode cX7_closes 0 = .ok (.iconst 0, 1) := by decide +kernel
theorem dX7_closes_1 : decode cX7_closes 1 = .ok (.istore_n 3, 1) := by decide +kernel
theorem dX7_closes_2 : decode cX7_closes 2 = .ok (.iload_n 3, 1) := by decide +kernel
theorem dX7_closes_3 : decode cX7_closes 3 = .ok (.aload_n 0, 1) := by decide +kernel
theorem dX7_closes_4 : decode cX7_closes 4 = .ok (.getfield 59, 3) := by decide +kernel
theorem dX7_closes_7 : decode cX7_closes 7 = .ok (.if_icmp .ge 39, 3) := by decide +kernel
theorem dX7_closes_10 : decode cX7_closes 10 = .ok (.aload_n 0, 1) := by decide +kernel
theorem dX7_closes_11 : decode cX7_closes 11 = .ok (.getfield 19, 3) := by decide +kernel
theorem dX7_closes_14 : decode cX7_closes 14 = .ok (.iload_n 3, 1) := by decide +kernel
theorem dX7_closes_15 : decode cX7_closes 15 = .ok (.iaload, 1) := by decide +kernel
theorem dX7_closes_16 : decode cX7_closes 16 = .ok (.iload_n 1, 1) := by decide +kernel
theorem dX7_closes_17 : decode cX7_closes 17 = .ok (.if_icmp .ne 23, 3) := by decide +kernel
theorem dX7_closes_20 : decode cX7_closes 20 = .ok (.aload_n 0, 1) := by decide +kernel
theorem dX7_closes_21 : decode cX7_closes 21 = .ok (.getfield 22, 3) := by decide +kernel
theorem dX7_closes_24 : decode cX7_closes 24 = .ok (.iload_n 3, 1) := by decide +kernel
theorem dX7_closes_25 : decode cX7_closes 25 = .ok (.iaload, 1) := by decide +kernel
theorem dX7_closes_26 : decode cX7_closes 26 = .ok (.iload_n 2, 1) := by decide +kernel
theorem dX7_closes_27 : decode cX7_closes 27 = .ok (.if_icmp .le 13, 3) := by decide +kernel
theorem dX7_closes_30 : decode cX7_closes 30 = .ok (.aload_n 0, 1) := by decide +kernel
theorem dX7_closes_31 : decode cX7_closes 31 = .ok (.getfield 22, 3) := by decide +kernel
theorem dX7_closes_34 : decode cX7_closes 34 = .ok (.iload_n 3, 1) := by decide +kernel
theorem dX7_closes_35 : decode cX7_closes 35 = .ok (.dup2, 1) := by decide +kernel
theorem dX7_closes_36 : decode cX7_closes 36 = .ok (.iaload, 1) := by decide +kernel
theorem dX7_closes_37 : decode cX7_closes 37 = .ok (.iconst 1, 1) := by decide +kernel
theorem dX7_closes_38 : decode cX7_closes 38 = .ok (.isub, 1) := by decide +kernel
theorem dX7_closes_39 : decode cX7_closes 39 = .ok (.iastore, 1) := by decide +kernel
theorem dX7_closes_40 : decode cX7_closes 40 = .ok (.iinc 3 1, 3) := by decide +kernel
theorem dX7_closes_43 : decode cX7_closes 43 = .ok (.goto (-41), 3) := by decide +kernel
theorem dX7_closes_46 : decode cX7_closes 46 = .ok (.return_, 1) := by decide +kernel
theorem dX7_comes_0 : decode cX7_comes 0 = .ok (.aload_n 0, 1) := by decide +kernel
theorem dX7_comes_1 : decode cX7_comes 1 = .ok (.aload_n 0, 1) := by decide +kernel
theorem dX7_comes_2 : decode cX7_comes 2 = .ok (.getfield 19, 3) := by decide +kernel
theorem dX7_comes_5 : decode cX7_comes 5 = .ok (.iload_n 1, 1) := by decide +kernel
theorem dX7_comes_6 : decode cX7_comes 6 = .ok (.iaload, 1) := by decide +kernel
theorem dX7_comes_7 : decode cX7_comes 7 = .ok (.aload_n 0, 1) := by decide +kernel
theorem dX7_comes_8 : decode cX7_comes 8 = .ok (.getfield 22, 3) := by decide +kernel
theorem dX7_comes_11 : decode cX7_comes 11 = .ok (.iload_n 1, 1) := by decide +kernel
theorem dX7_comes_12 : decode cX7_comes 12 = .ok (.iaload, 1) := by decide +kernel
theorem dX7_comes_13 : decode cX7_comes 13 = .ok (.invokevirtual 123, 3) := by decide +kernel
theorem dX7_comes_16 : decode cX7_comes 16 = .ok (.aload_n 0, 1) := by decide +kernel
theorem dX7_comes_17 : decode cX7_comes 17 = .ok (.getfield 19, 3) := by decide +kernel
theorem dX7_comes_20 : decode cX7_comes 20 = .ok (.iload_n 1, 1) := by decide +kernel
theorem dX7_comes_21 : decode cX7_comes 21 = .ok (.bipush (-9), 2) := by decide +kernel
theorem dX7_comes_23 : decode cX7_comes 23 = .ok (.iastore, 1) := by decide +kernel
theorem dX7_comes_24 : decode cX7_comes 24 = .ok (.aload_n 0, 1) := by decide +kernel
theorem dX7_comes_25 : decode cX7_comes 25 = .ok (.getfield 22, 3) := by decide +kernel
theorem dX7_comes_28 : decode cX7_comes 28 = .ok (.iload_n 1, 1) := by decide +kernel
theorem dX7_comes_29 : decode cX7_comes 29 = .ok (.aload_n 0, 1) := by decide +kernel
theorem dX7_comes_30 : decode cX7_comes 30 = .ok (.iload_n 2, 1) := by decide +kernel
theorem dX7_comes_31 : decode cX7_comes 31 = .ok (.invokevirtual 93, 3) := by decide +kernel
theorem dX7_comes_34 : decode cX7_comes 34 = .ok (.iastore, 1) := by decide +kernel
theorem dX7_comes_35 : decode cX7_comes 35 = .ok (.aload_n 0, 1) := by decide +kernel
theorem dX7_comes_36 : decode cX7_comes 36 = .ok (.getfield 19, 3) := by decide +kernel
theorem dX7_comes_39 : decode cX7_comes 39 = .ok (.iload_n 1, 1) := by decide +kernel
theorem dX7_comes_40 : decode cX7_comes 40 = .ok (.iload_n 2, 1) := by decide +kernel
theorem dX7_comes_41 : decode cX7_comes 41 = .ok (.iastore, 1) := by decide +kernel
theorem dX7_comes_42 : decode cX7_comes 42 = .ok (.aload_n 0, 1) := by decide +kernel
theorem dX7_comes_43 : decode cX7_comes 43 = .ok (.getfield 22, 3) := by decide +kernel
theorem dX7_comes_46 : decode cX7_comes 46 = .ok (.iload_n 1, 1) := by decide +kernel
theorem dX7_comes_47 : decode cX7_comes 47 = .ok (.iaload, 1) := by decide +kernel
theorem dX7_comes_48 : decode cX7_comes 48 = .ok (.ireturn, 1) := by decide +kernel
theorem dX7_overGoes_0 : decode cX7_overGoes 0 = .ok (.aload_n 0, 1) := by decide +kernel
theorem dX7_overGoes_1 : decode cX7_overGoes 1 = .ok (.iload_n 1, 1) := by decide +kernel
theorem dX7_overGoes_2 : decode cX7_overGoes 2 = .ok (.iconst 1, 1) := by decide +kernel
theorem dX7_overGoes_3 : decode cX7_overGoes 3 = .ok (.aload_n 0, 1) := by decide +kernel
theorem dX7_overGoes_4 : decode cX7_overGoes 4 = .ok (.getfield 19, 3) := by decide +kernel
theorem dX7_overGoes_7 : decode cX7_overGoes 7 = .ok (.iload_n 1, 1) := by decide +kernel
theorem dX7_overGoes_8 : decode cX7_overGoes 8 = .ok (.iaload, 1) := by decide +kernel
theorem dX7_overGoes_9 : decode cX7_overGoes 9 = .ok (.isub, 1) := by decide +kernel
theorem dX7_overGoes_10 : decode cX7_overGoes 10 = .ok (.invokevirtual 127, 3) := by decide +kernel
theorem dX7_overGoes_13 : decode cX7_overGoes 13 = .ok (.ireturn, 1) := by decide +kernel
theorem dX7_firstStands_0 : decode cX7_firstStands 0 = .ok (.aload_n 0, 1) := by decide +kernel
theorem dX7_firstStands_1 : decode cX7_firstStands 1 = .ok (.getfield 22, 3) := by decide +kernel
theorem dX7_firstStands_4 : decode cX7_firstStands 4 = .ok (.iload_n 1, 1) := by decide +kernel
theorem dX7_firstStands_5 : decode cX7_firstStands 5 = .ok (.iaload, 1) := by decide +kernel
theorem dX7_firstStands_6 : decode cX7_firstStands 6 = .ok (.istore_n 2, 1) := by decide +kernel
theorem dX7_firstStands_7 : decode cX7_firstStands 7 = .ok (.iconst 0, 1) := by decide +kernel
theorem dX7_firstStands_8 : decode cX7_firstStands 8 = .ok (.istore_n 3, 1) := by decide +kernel
theorem dX7_firstStands_9 : decode cX7_firstStands 9 = .ok (.iload_n 3, 1) := by decide +kernel
theorem dX7_firstStands_10 : decode cX7_firstStands 10 = .ok (.aload_n 0, 1) := by decide +kernel
theorem dX7_firstStands_11 : decode cX7_firstStands 11 = .ok (.getfield 59, 3) := by decide +kernel
theorem dX7_firstStands_14 : decode cX7_firstStands 14 = .ok (.if_icmp .ge 44, 3) := by decide +kernel
theorem dX7_firstStands_17 : decode cX7_firstStands 17 = .ok (.aload_n 0, 1) := by decide +kernel
theorem dX7_firstStands_18 : decode cX7_firstStands 18 = .ok (.getfield 19, 3) := by decide +kernel
theorem dX7_firstStands_21 : decode cX7_firstStands 21 = .ok (.iload_n 3, 1) := by decide +kernel
theorem dX7_firstStands_22 : decode cX7_firstStands 22 = .ok (.iaload, 1) := by decide +kernel
theorem dX7_firstStands_23 : decode cX7_firstStands 23 = .ok (.aload_n 0, 1) := by decide +kernel
theorem dX7_firstStands_24 : decode cX7_firstStands 24 = .ok (.getfield 19, 3) := by decide +kernel
theorem dX7_firstStands_27 : decode cX7_firstStands 27 = .ok (.iload_n 1, 1) := by decide +kernel
theorem dX7_firstStands_28 : decode cX7_firstStands 28 = .ok (.iaload, 1) := by decide +kernel
theorem dX7_firstStands_29 : decode cX7_firstStands 29 = .ok (.if_icmp .ne 23, 3) := by decide +kernel
theorem dX7_firstStands_32 : decode cX7_firstStands 32 = .ok (.aload_n 0, 1) := by decide +kernel
theorem dX7_firstStands_33 : decode cX7_firstStands 33 = .ok (.getfield 22, 3) := by decide +kernel
theorem dX7_firstStands_36 : decode cX7_firstStands 36 = .ok (.iload_n 3, 1) := by decide +kernel
theorem dX7_firstStands_37 : decode cX7_firstStands 37 = .ok (.iaload, 1) := by decide +kernel
theorem dX7_firstStands_38 : decode cX7_firstStands 38 = .ok (.iload_n 2, 1) := by decide +kernel
theorem dX7_firstStands_39 : decode cX7_firstStands 39 = .ok (.if_icmp .ge 13, 3) := by decide +kernel
theorem dX7_firstStands_42 : decode cX7_firstStands 42 = .ok (.aload_n 0, 1) := by decide +kernel
theorem dX7_firstStands_43 : decode cX7_firstStands 43 = .ok (.getfield 22, 3) := by decide +kernel
theorem dX7_firstStands_46 : decode cX7_firstStands 46 = .ok (.iload_n 3, 1) := by decide +kernel
theorem dX7_firstStands_47 : decode cX7_firstStands 47 = .ok (.dup2, 1) := by decide +kernel
theorem dX7_firstStands_48 : decode cX7_firstStands 48 = .ok (.iaload, 1) := by decide +kernel
theorem dX7_firstStands_49 : decode cX7_firstStands 49 = .ok (.iconst 1, 1) := by decide +kernel
theorem dX7_firstStands_50 : decode cX7_firstStands 50 = .ok (.iadd, 1) := by decide +kernel
theorem dX7_firstStands_51 : decode cX7_firstStands 51 = .ok (.iastore, 1) := by decide +kernel
theorem dX7_firstStands_52 : decode cX7_firstStands 52 = .ok (.iinc 3 1, 3) := by decide +kernel
theorem dX7_firstStands_55 : decode cX7_firstStands 55 = .ok (.goto (-46), 3) := by decide +kernel
theorem dX7_firstStands_58 : decode cX7_firstStands 58 = .ok (.aload_n 0, 1) := by decide +kernel
theorem dX7_firstStands_59 : decode cX7_firstStands 59 = .ok (.getfield 22, 3) := by decide +kernel
theorem dX7_firstStands_62 : decode cX7_firstStands 62 = .ok (.iload_n 1, 1) := by decide +kernel
theorem dX7_firstStands_63 : decode cX7_firstStands 63 = .ok (.iconst 0, 1) := by decide +kernel
theorem dX7_firstStands_64 : decode cX7_firstStands 64 = .ok (.iastore, 1) := by decide +kernel
theorem dX7_firstStands_65 : decode cX7_firstStands 65 = .ok (.iload_n 2, 1) := by decide +kernel
theorem dX7_firstStands_66 : decode cX7_firstStands 66 = .ok (.ireturn, 1) := by decide +kernel
theorem dX7_leaves_0 : decode cX7_leaves 0 = .ok (.aload_n 0, 1) := by decide +kernel
theorem dX7_leaves_1 : decode cX7_leaves 1 = .ok (.aload_n 0, 1) := by decide +kernel
theorem dX7_leaves_2 : decode cX7_leaves 2 = .ok (.getfield 19, 3) := by decide +kernel
theorem dX7_leaves_5 : decode cX7_leaves 5 = .ok (.iload_n 1, 1) := by decide +kernel
theorem dX7_leaves_6 : decode cX7_leaves 6 = .ok (.iaload, 1) := by decide +kernel
theorem dX7_leaves_7 : decode cX7_leaves 7 = .ok (.aload_n 0, 1) := by decide +kernel
theorem dX7_leaves_8 : decode cX7_leaves 8 = .ok (.getfield 22, 3) := by decide +kernel
theorem dX7_leaves_11 : decode cX7_leaves 11 = .ok (.iload_n 1, 1) := by decide +kernel
theorem dX7_leaves_12 : decode cX7_leaves 12 = .ok (.iaload, 1) := by decide +kernel
theorem dX7_leaves_13 : decode cX7_leaves 13 = .ok (.invokevirtual 123, 3) := by decide +kernel
theorem dX7_leaves_16 : decode cX7_leaves 16 = .ok (.aload_n 0, 1) := by decide +kernel
theorem dX7_leaves_17 : decode cX7_leaves 17 = .ok (.getfield 19, 3) := by decide +kernel
theorem dX7_leaves_20 : decode cX7_leaves 20 = .ok (.iload_n 1, 1) := by decide +kernel
theorem dX7_leaves_21 : decode cX7_leaves 21 = .ok (.bipush (-9), 2) := by decide +kernel
theorem dX7_leaves_23 : decode cX7_leaves 23 = .ok (.iastore, 1) := by decide +kernel
theorem dX7_leaves_24 : decode cX7_leaves 24 = .ok (.return_, 1) := by decide +kernel
theorem dX7_letsOf_0 : decode cX7_letsOf 0 = .ok (.aload_n 0, 1) := by decide +kernel
theorem dX7_letsOf_1 : decode cX7_letsOf 1 = .ok (.getfield 7, 3) := by decide +kernel
theorem dX7_letsOf_4 : decode cX7_letsOf 4 = .ok (.iload_n 1, 1) := by decide +kernel
theorem dX7_letsOf_5 : decode cX7_letsOf 5 = .ok (.iaload, 1) := by decide +kernel
theorem dX7_letsOf_6 : decode cX7_letsOf 6 = .ok (.tableswitch 56 1 5 #[34, 41, 52, 56, 54], 34) := by decide +kernel
theorem dX7_letsOf_40 : decode cX7_letsOf 40 = .ok (.aload_n 0, 1) := by decide +kernel
theorem dX7_letsOf_41 : decode cX7_letsOf 41 = .ok (.getfield 13, 3) := by decide +kernel
theorem dX7_letsOf_44 : decode cX7_letsOf 44 = .ok (.iload_n 1, 1) := by decide +kernel
theorem dX7_letsOf_45 : decode cX7_letsOf 45 = .ok (.iaload, 1) := by decide +kernel
theorem dX7_letsOf_46 : decode cX7_letsOf 46 = .ok (.ireturn, 1) := by decide +kernel
theorem dX7_letsOf_47 : decode cX7_letsOf 47 = .ok (.iconst 0, 1) := by decide +kernel
theorem dX7_letsOf_48 : decode cX7_letsOf 48 = .ok (.aload_n 0, 1) := by decide +kernel
theorem dX7_letsOf_49 : decode cX7_letsOf 49 = .ok (.getfield 103, 3) := by decide +kernel
theorem dX7_letsOf_52 : decode cX7_letsOf 52 = .ok (.iconst 1, 1) := by decide +kernel
theorem dX7_letsOf_53 : decode cX7_letsOf 53 = .ok (.isub, 1) := by decide +kernel
theorem dX7_letsOf_54 : decode cX7_letsOf 54 = .ok (.invokestatic 131, 3) := by decide +kernel
theorem dX7_letsOf_57 : decode cX7_letsOf 57 = .ok (.ireturn, 1) := by decide +kernel
theorem dX7_letsOf_58 : decode cX7_letsOf 58 = .ok (.iconst 0, 1) := by decide +kernel
theorem dX7_letsOf_59 : decode cX7_letsOf 59 = .ok (.ireturn, 1) := by decide +kernel
theorem dX7_letsOf_60 : decode cX7_letsOf 60 = .ok (.iconst 1, 1) := by decide +kernel
theorem dX7_letsOf_61 : decode cX7_letsOf 61 = .ok (.ireturn, 1) := by decide +kernel
theorem dX7_letsOf_62 : decode cX7_letsOf 62 = .ok (.aload_n 0, 1) := by decide +kernel
theorem dX7_letsOf_63 : decode cX7_letsOf 63 = .ok (.getfield 103, 3) := by decide +kernel
theorem dX7_letsOf_66 : decode cX7_letsOf 66 = .ok (.ireturn, 1) := by decide +kernel
theorem dX7_secondsOf_0 : decode cX7_secondsOf 0 = .ok (.aload_n 0, 1) := by decide +kernel
theorem dX7_secondsOf_1 : decode cX7_secondsOf 1 = .ok (.getfield 7, 3) := by decide +kernel
theorem dX7_secondsOf_4 : decode cX7_secondsOf 4 = .ok (.iload_n 1, 1) := by decide +kernel
theorem dX7_secondsOf_5 : decode cX7_secondsOf 5 = .ok (.iaload, 1) := by decide +kernel
theorem dX7_secondsOf_6 : decode cX7_secondsOf 6 = .ok (.iconst 2, 1) := by decide +kernel
theorem dX7_secondsOf_7 : decode cX7_secondsOf 7 = .ok (.if_icmp .ne 7, 3) := by decide +kernel
theorem dX7_secondsOf_10 : decode cX7_secondsOf 10 = .ok (.iconst 1, 1) := by decide +kernel
theorem dX7_secondsOf_11 : decode cX7_secondsOf 11 = .ok (.goto 32, 3) := by decide +kernel
theorem dX7_secondsOf_14 : decode cX7_secondsOf 14 = .ok (.aload_n 0, 1) := by decide +kernel
theorem dX7_secondsOf_15 : decode cX7_secondsOf 15 = .ok (.getfield 7, 3) := by decide +kernel
theorem dX7_secondsOf_18 : decode cX7_secondsOf 18 = .ok (.iload_n 1, 1) := by decide +kernel
theorem dX7_secondsOf_19 : decode cX7_secondsOf 19 = .ok (.iaload, 1) := by decide +kernel
theorem dX7_secondsOf_20 : decode cX7_secondsOf 20 = .ok (.iconst 3, 1) := by decide +kernel
theorem dX7_secondsOf_21 : decode cX7_secondsOf 21 = .ok (.if_icmp .ne 7, 3) := by decide +kernel
theorem dX7_secondsOf_24 : decode cX7_secondsOf 24 = .ok (.iconst 3, 1) := by decide +kernel
theorem dX7_secondsOf_25 : decode cX7_secondsOf 25 = .ok (.goto 18, 3) := by decide +kernel
theorem dX7_secondsOf_28 : decode cX7_secondsOf 28 = .ok (.aload_n 0, 1) := by decide +kernel
theorem dX7_secondsOf_29 : decode cX7_secondsOf 29 = .ok (.getfield 7, 3) := by decide +kernel
theorem dX7_secondsOf_32 : decode cX7_secondsOf 32 = .ok (.iload_n 1, 1) := by decide +kernel
theorem dX7_secondsOf_33 : decode cX7_secondsOf 33 = .ok (.iaload, 1) := by decide +kernel
theorem dX7_secondsOf_34 : decode cX7_secondsOf 34 = .ok (.iconst 4, 1) := by decide +kernel
theorem dX7_secondsOf_35 : decode cX7_secondsOf 35 = .ok (.if_icmp .ne 7, 3) := by decide +kernel
theorem dX7_secondsOf_38 : decode cX7_secondsOf 38 = .ok (.iconst 4, 1) := by decide +kernel
theorem dX7_secondsOf_39 : decode cX7_secondsOf 39 = .ok (.goto 4, 3) := by decide +kernel
theorem dX7_secondsOf_42 : decode cX7_secondsOf 42 = .ok (.iconst 2, 1) := by decide +kernel
theorem dX7_secondsOf_43 : decode cX7_secondsOf 43 = .ok (.istore_n 2, 1) := by decide +kernel
theorem dX7_secondsOf_44 : decode cX7_secondsOf 44 = .ok (.aload_n 0, 1) := by decide +kernel
theorem dX7_secondsOf_45 : decode cX7_secondsOf 45 = .ok (.getfield 136, 3) := by decide +kernel
theorem dX7_secondsOf_48 : decode cX7_secondsOf 48 = .ok (.ifCond .eq 13, 3) := by decide +kernel
theorem dX7_secondsOf_51 : decode cX7_secondsOf 51 = .ok (.iconst 1, 1) := by decide +kernel
theorem dX7_secondsOf_52 : decode cX7_secondsOf 52 = .ok (.iload_n 2, 1) := by decide +kernel
theorem dX7_secondsOf_53 : decode cX7_secondsOf 53 = .ok (.iconst 1, 1) := by decide +kernel
theorem dX7_secondsOf_54 : decode cX7_secondsOf 54 = .ok (.isub, 1) := by decide +kernel
theorem dX7_secondsOf_55 : decode cX7_secondsOf 55 = .ok (.invokestatic 131, 3) := by decide +kernel
theorem dX7_secondsOf_58 : decode cX7_secondsOf 58 = .ok (.goto 4, 3) := by decide +kernel
theorem dX7_secondsOf_61 : decode cX7_secondsOf 61 = .ok (.iload_n 2, 1) := by decide +kernel
theorem dX7_secondsOf_62 : decode cX7_secondsOf 62 = .ok (.ireturn, 1) := by decide +kernel
theorem dX7_car_0 : decode cX7_car 0 = .ok (.aload_n 0, 1) := by decide +kernel
theorem dX7_car_1 : decode cX7_car 1 = .ok (.iload_n 1, 1) := by decide +kernel
theorem dX7_car_2 : decode cX7_car 2 = .ok (.invokevirtual 96, 3) := by decide +kernel
theorem dX7_car_5 : decode cX7_car 5 = .ok (.ifCond .ne 9, 3) := by decide +kernel
theorem dX7_car_8 : decode cX7_car 8 = .ok (.aload_n 0, 1) := by decide +kernel
theorem dX7_car_9 : decode cX7_car 9 = .ok (.iconst (-1), 1) := by decide +kernel
theorem dX7_car_10 : decode cX7_car 10 = .ok (.invokevirtual 66, 3) := by decide +kernel
theorem dX7_car_13 : decode cX7_car 13 = .ok (.ireturn, 1) := by decide +kernel
theorem dX7_car_14 : decode cX7_car 14 = .ok (.iload_n 2, 1) := by decide +kernel
theorem dX7_car_15 : decode cX7_car 15 = .ok (.tableswitch 88 0 6 #[41, 48, 55, 62, 69, 76, 82], 41) := by decide +kernel
theorem dX7_car_56 : decode cX7_car 56 = .ok (.aload_n 0, 1) := by decide +kernel
theorem dX7_car_57 : decode cX7_car 57 = .ok (.getfield 7, 3) := by decide +kernel
theorem dX7_car_60 : decode cX7_car 60 = .ok (.iload_n 1, 1) := by decide +kernel
theorem dX7_car_61 : decode cX7_car 61 = .ok (.iaload, 1) := by decide +kernel
theorem dX7_car_62 : decode cX7_car 62 = .ok (.ireturn, 1) := by decide +kernel
theorem dX7_car_63 : decode cX7_car 63 = .ok (.aload_n 0, 1) := by decide +kernel
theorem dX7_car_64 : decode cX7_car 64 = .ok (.getfield 13, 3) := by decide +kernel
theorem dX7_car_67 : decode cX7_car 67 = .ok (.iload_n 1, 1) := by decide +kernel
theorem dX7_car_68 : decode cX7_car 68 = .ok (.iaload, 1) := by decide +kernel
theorem dX7_car_69 : decode cX7_car 69 = .ok (.ireturn, 1) := by decide +kernel
theorem dX7_car_70 : decode cX7_car 70 = .ok (.aload_n 0, 1) := by decide +kernel
theorem dX7_car_71 : decode cX7_car 71 = .ok (.getfield 19, 3) := by decide +kernel
theorem dX7_car_74 : decode cX7_car 74 = .ok (.iload_n 1, 1) := by decide +kernel
theorem dX7_car_75 : decode cX7_car 75 = .ok (.iaload, 1) := by decide +kernel
theorem dX7_car_76 : decode cX7_car 76 = .ok (.ireturn, 1) := by decide +kernel
theorem dX7_car_77 : decode cX7_car 77 = .ok (.aload_n 0, 1) := by decide +kernel
theorem dX7_car_78 : decode cX7_car 78 = .ok (.getfield 16, 3) := by decide +kernel
theorem dX7_car_81 : decode cX7_car 81 = .ok (.iload_n 1, 1) := by decide +kernel
theorem dX7_car_82 : decode cX7_car 82 = .ok (.iaload, 1) := by decide +kernel
theorem dX7_car_83 : decode cX7_car 83 = .ok (.ireturn, 1) := by decide +kernel
theorem dX7_car_84 : decode cX7_car 84 = .ok (.aload_n 0, 1) := by decide +kernel
theorem dX7_car_85 : decode cX7_car 85 = .ok (.getfield 22, 3) := by decide +kernel
theorem dX7_car_88 : decode cX7_car 88 = .ok (.iload_n 1, 1) := by decide +kernel
theorem dX7_car_89 : decode cX7_car 89 = .ok (.iaload, 1) := by decide +kernel
theorem dX7_car_90 : decode cX7_car 90 = .ok (.ireturn, 1) := by decide +kernel
theorem dX7_car_91 : decode cX7_car 91 = .ok (.aload_n 0, 1) := by decide +kernel
theorem dX7_car_92 : decode cX7_car 92 = .ok (.iload_n 1, 1) := by decide +kernel
theorem dX7_car_93 : decode cX7_car 93 = .ok (.invokevirtual 140, 3) := by decide +kernel
theorem dX7_car_96 : decode cX7_car 96 = .ok (.ireturn, 1) := by decide +kernel
theorem dX7_car_97 : decode cX7_car 97 = .ok (.aload_n 0, 1) := by decide +kernel
theorem dX7_car_98 : decode cX7_car 98 = .ok (.iload_n 1, 1) := by decide +kernel
theorem dX7_car_99 : decode cX7_car 99 = .ok (.invokevirtual 143, 3) := by decide +kernel
theorem dX7_car_102 : decode cX7_car 102 = .ok (.ireturn, 1) := by decide +kernel
theorem dX7_car_103 : decode cX7_car 103 = .ok (.aload_n 0, 1) := by decide +kernel
theorem dX7_car_104 : decode cX7_car 104 = .ok (.bipush (-2), 2) := by decide +kernel
theorem dX7_car_106 : decode cX7_car 106 = .ok (.invokevirtual 66, 3) := by decide +kernel
theorem dX7_car_109 : decode cX7_car 109 = .ok (.ireturn, 1) := by decide +kernel
theorem dX7_hurry_0 : decode cX7_hurry 0 = .ok (.aload_n 0, 1) := by decide +kernel
theorem dX7_hurry_1 : decode cX7_hurry 1 = .ok (.iload_n 1, 1) := by decide +kernel
theorem dX7_hurry_2 : decode cX7_hurry 2 = .ok (.invokevirtual 96, 3) := by decide +kernel
theorem dX7_hurry_5 : decode cX7_hurry 5 = .ok (.ifCond .ne 9, 3) := by decide +kernel
theorem dX7_hurry_8 : decode cX7_hurry 8 = .ok (.aload_n 0, 1) := by decide +kernel
theorem dX7_hurry_9 : decode cX7_hurry 9 = .ok (.iconst (-1), 1) := by decide +kernel
theorem dX7_hurry_10 : decode cX7_hurry 10 = .ok (.invokevirtual 66, 3) := by decide +kernel
theorem dX7_hurry_13 : decode cX7_hurry 13 = .ok (.ireturn, 1) := by decide +kernel
theorem dX7_hurry_14 : decode cX7_hurry 14 = .ok (.iload_n 2, 1) := by decide +kernel
theorem dX7_hurry_15 : decode cX7_hurry 15 = .ok (.ifCond .ge 10, 3) := by decide +kernel
theorem dX7_hurry_18 : decode cX7_hurry 18 = .ok (.aload_n 0, 1) := by decide +kernel
theorem dX7_hurry_19 : decode cX7_hurry 19 = .ok (.bipush (-4), 2) := by decide +kernel
theorem dX7_hurry_21 : decode cX7_hurry 21 = .ok (.invokevirtual 66, 3) := by decide +kernel
theorem dX7_hurry_24 : decode cX7_hurry 24 = .ok (.ireturn, 1) := by decide +kernel
theorem dX7_hurry_25 : decode cX7_hurry 25 = .ok (.iload_n 2, 1) := by decide +kernel
theorem dX7_hurry_26 : decode cX7_hurry 26 = .ok (.bipush 20, 2) := by decide +kernel
theorem dX7_hurry_28 : decode cX7_hurry 28 = .ok (.if_icmp .le 10, 3) := by decide +kernel
theorem dX7_hurry_31 : decode cX7_hurry 31 = .ok (.aload_n 0, 1) := by decide +kernel
theorem dX7_hurry_32 : decode cX7_hurry 32 = .ok (.bipush (-6), 2) := by decide +kernel
theorem dX7_hurry_34 : decode cX7_hurry 34 = .ok (.invokevirtual 66, 3) := by decide +kernel
theorem dX7_hurry_37 : decode cX7_hurry 37 = .ok (.ireturn, 1) := by decide +kernel
theorem dX7_hurry_38 : decode cX7_hurry 38 = .ok (.aload_n 0, 1) := by decide +kernel
theorem dX7_hurry_39 : decode cX7_hurry 39 = .ok (.getfield 16, 3) := by decide +kernel
theorem dX7_hurry_42 : decode cX7_hurry 42 = .ok (.iload_n 1, 1) := by decide +kernel
theorem dX7_hurry_43 : decode cX7_hurry 43 = .ok (.iaload, 1) := by decide +kernel
theorem dX7_hurry_44 : decode cX7_hurry 44 = .ok (.istore_n 3, 1) := by decide +kernel
theorem dX7_hurry_45 : decode cX7_hurry 45 = .ok (.aload_n 0, 1) := by decide +kernel
theorem dX7_hurry_46 : decode cX7_hurry 46 = .ok (.getfield 16, 3) := by decide +kernel
theorem dX7_hurry_49 : decode cX7_hurry 49 = .ok (.iload_n 1, 1) := by decide +kernel
theorem dX7_hurry_50 : decode cX7_hurry 50 = .ok (.iload_n 2, 1) := by decide +kernel
theorem dX7_hurry_51 : decode cX7_hurry 51 = .ok (.iastore, 1) := by decide +kernel
theorem dX7_hurry_52 : decode cX7_hurry 52 = .ok (.iload_n 3, 1) := by decide +kernel
theorem dX7_hurry_53 : decode cX7_hurry 53 = .ok (.ireturn, 1) := by decide +kernel
theorem dX7_goOver_0 : decode cX7_goOver 0 = .ok (.aload_n 0, 1) := by decide +kernel
theorem dX7_goOver_1 : decode cX7_goOver 1 = .ok (.iload_n 1, 1) := by decide +kernel
theorem dX7_goOver_2 : decode cX7_goOver 2 = .ok (.invokevirtual 96, 3) := by decide +kernel
theorem dX7_goOver_5 : decode cX7_goOver 5 = .ok (.ifCond .eq 11, 3) := by decide +kernel
theorem dX7_goOver_8 : decode cX7_goOver 8 = .ok (.aload_n 0, 1) := by decide +kernel
theorem dX7_goOver_9 : decode cX7_goOver 9 = .ok (.iload_n 1, 1) := by decide +kernel
theorem dX7_goOver_10 : decode cX7_goOver 10 = .ok (.invokevirtual 106, 3) := by decide +kernel
theorem dX7_goOver_13 : decode cX7_goOver 13 = .ok (.goto 8, 3) := by decide +kernel
theorem dX7_goOver_16 : decode cX7_goOver 16 = .ok (.aload_n 0, 1) := by decide +kernel
theorem dX7_goOver_17 : decode cX7_goOver 17 = .ok (.iconst (-1), 1) := by decide +kernel
theorem dX7_goOver_18 : decode cX7_goOver 18 = .ok (.invokevirtual 66, 3) := by decide +kernel
theorem dX7_goOver_21 : decode cX7_goOver 21 = .ok (.ireturn, 1) := by decide +kernel
theorem dX7_standFirst_0 : decode cX7_standFirst 0 = .ok (.aload_n 0, 1) := by decide +kernel
theorem dX7_standFirst_1 : decode cX7_standFirst 1 = .ok (.iload_n 1, 1) := by decide +kernel
theorem dX7_standFirst_2 : decode cX7_standFirst 2 = .ok (.invokevirtual 96, 3) := by decide +kernel
theorem dX7_standFirst_5 : decode cX7_standFirst 5 = .ok (.ifCond .eq 11, 3) := by decide +kernel
theorem dX7_standFirst_8 : decode cX7_standFirst 8 = .ok (.aload_n 0, 1) := by decide +kernel
theorem dX7_standFirst_9 : decode cX7_standFirst 9 = .ok (.iload_n 1, 1) := by decide +kernel
theorem dX7_standFirst_10 : decode cX7_standFirst 10 = .ok (.invokevirtual 109, 3) := by decide +kernel
theorem dX7_standFirst_13 : decode cX7_standFirst 13 = .ok (.goto 8, 3) := by decide +kernel
theorem dX7_standFirst_16 : decode cX7_standFirst 16 = .ok (.aload_n 0, 1) := by decide +kernel
theorem dX7_standFirst_17 : decode cX7_standFirst 17 = .ok (.iconst (-1), 1) := by decide +kernel
theorem dX7_standFirst_18 : decode cX7_standFirst 18 = .ok (.invokevirtual 66, 3) := by decide +kernel
theorem dX7_standFirst_21 : decode cX7_standFirst 21 = .ok (.ireturn, 1) := by decide +kernel
theorem dX7_set_0 : decode cX7_set 0 = .ok (.iload_n 1, 1) := by decide +kernel
theorem dX7_set_1 : decode cX7_set 1 = .ok (.iconst 0, 1) := by decide +kernel
theorem dX7_set_2 : decode cX7_set 2 = .ok (.iconst 1, 1) := by decide +kernel
theorem dX7_set_3 : decode cX7_set 3 = .ok (.invokestatic 62, 3) := by decide +kernel
theorem dX7_set_6 : decode cX7_set 6 = .ok (.ifCond .ne 10, 3) := by decide +kernel
theorem dX7_set_9 : decode cX7_set 9 = .ok (.aload_n 0, 1) := by decide +kernel
theorem dX7_set_10 : decode cX7_set 10 = .ok (.bipush (-2), 2) := by decide +kernel
theorem dX7_set_12 : decode cX7_set 12 = .ok (.invokevirtual 66, 3) := by decide +kernel
theorem dX7_set_15 : decode cX7_set 15 = .ok (.ireturn, 1) := by decide +kernel
theorem dX7_set_16 : decode cX7_set 16 = .ok (.iload_n 2, 1) := by decide +kernel
theorem dX7_set_17 : decode cX7_set 17 = .ok (.ifCond .ge 10, 3) := by decide +kernel
theorem dX7_set_20 : decode cX7_set 20 = .ok (.aload_n 0, 1) := by decide +kernel
theorem dX7_set_21 : decode cX7_set 21 = .ok (.bipush (-4), 2) := by decide +kernel
theorem dX7_set_23 : decode cX7_set 23 = .ok (.invokevirtual 66, 3) := by decide +kernel
theorem dX7_set_26 : decode cX7_set 26 = .ok (.ireturn, 1) := by decide +kernel
theorem dX7_set_27 : decode cX7_set 27 = .ok (.iload_n 2, 1) := by decide +kernel
theorem dX7_set_28 : decode cX7_set 28 = .ok (.iload_n 1, 1) := by decide +kernel
theorem dX7_set_29 : decode cX7_set 29 = .ok (.ifCond .ne 7, 3) := by decide +kernel
theorem dX7_set_32 : decode cX7_set 32 = .ok (.iconst 2, 1) := by decide +kernel
theorem dX7_set_33 : decode cX7_set 33 = .ok (.goto 5, 3) := by decide +kernel
theorem dX7_set_36 : decode cX7_set 36 = .ok (.bipush 9, 2) := by decide +kernel
theorem dX7_set_38 : decode cX7_set 38 = .ok (.if_icmp .le 10, 3) := by decide +kernel
theorem dX7_set_41 : decode cX7_set 41 = .ok (.aload_n 0, 1) := by decide +kernel
theorem dX7_set_42 : decode cX7_set 42 = .ok (.bipush (-6), 2) := by decide +kernel
theorem dX7_set_44 : decode cX7_set 44 = .ok (.invokevirtual 66, 3) := by decide +kernel
theorem dX7_set_47 : decode cX7_set 47 = .ok (.ireturn, 1) := by decide +kernel
theorem dX7_set_48 : decode cX7_set 48 = .ok (.iload_n 1, 1) := by decide +kernel
theorem dX7_set_49 : decode cX7_set 49 = .ok (.ifCond .ne 10, 3) := by decide +kernel
theorem dX7_set_52 : decode cX7_set 52 = .ok (.aload_n 0, 1) := by decide +kernel
theorem dX7_set_53 : decode cX7_set 53 = .ok (.getfield 103, 3) := by decide +kernel
theorem dX7_set_56 : decode cX7_set 56 = .ok (.goto 7, 3) := by decide +kernel
theorem dX7_set_59 : decode cX7_set 59 = .ok (.aload_n 0, 1) := by decide +kernel
theorem dX7_set_60 : decode cX7_set 60 = .ok (.getfield 55, 3) := by decide +kernel
theorem dX7_set_63 : decode cX7_set 63 = .ok (.istore_n 3, 1) := by decide +kernel
theorem dX7_set_64 : decode cX7_set 64 = .ok (.iload_n 1, 1) := by decide +kernel
theorem dX7_set_65 : decode cX7_set 65 = .ok (.ifCond .ne 11, 3) := by decide +kernel
theorem dX7_set_68 : decode cX7_set 68 = .ok (.aload_n 0, 1) := by decide +kernel
theorem dX7_set_69 : decode cX7_set 69 = .ok (.iload_n 2, 1) := by decide +kernel
theorem dX7_set_70 : decode cX7_set 70 = .ok (.putfield 103, 3) := by decide +kernel
theorem dX7_set_73 : decode cX7_set 73 = .ok (.goto 8, 3) := by decide +kernel
theorem dX7_set_76 : decode cX7_set 76 = .ok (.aload_n 0, 1) := by decide +kernel
theorem dX7_set_77 : decode cX7_set 77 = .ok (.iload_n 2, 1) := by decide +kernel
theorem dX7_set_78 : decode cX7_set 78 = .ok (.putfield 55, 3) := by decide +kernel
theorem dX7_set_81 : decode cX7_set 81 = .ok (.iload_n 3, 1) := by decide +kernel
theorem dX7_set_82 : decode cX7_set 82 = .ok (.ireturn, 1) := by decide +kernel
theorem dX7_standsAt_0 : decode cX7_standsAt 0 = .ok (.iconst 0, 1) := by decide +kernel
theorem dX7_standsAt_1 : decode cX7_standsAt 1 = .ok (.istore_n 3, 1) := by decide +kernel
theorem dX7_standsAt_2 : decode cX7_standsAt 2 = .ok (.iload_n 3, 1) := by decide +kernel
theorem dX7_standsAt_3 : decode cX7_standsAt 3 = .ok (.aload_n 0, 1) := by decide +kernel
theorem dX7_standsAt_4 : decode cX7_standsAt 4 = .ok (.getfield 59, 3) := by decide +kernel
theorem dX7_standsAt_7 : decode cX7_standsAt 7 = .ok (.if_icmp .ge 31, 3) := by decide +kernel
theorem dX7_standsAt_10 : decode cX7_standsAt 10 = .ok (.aload_n 0, 1) := by decide +kernel
theorem dX7_standsAt_11 : decode cX7_standsAt 11 = .ok (.getfield 19, 3) := by decide +kernel
theorem dX7_standsAt_14 : decode cX7_standsAt 14 = .ok (.iload_n 3, 1) := by decide +kernel
theorem dX7_standsAt_15 : decode cX7_standsAt 15 = .ok (.iaload, 1) := by decide +kernel
theorem dX7_standsAt_16 : decode cX7_standsAt 16 = .ok (.iload_n 1, 1) := by decide +kernel
theorem dX7_standsAt_17 : decode cX7_standsAt 17 = .ok (.if_icmp .ne 15, 3) := by decide +kernel
theorem dX7_standsAt_20 : decode cX7_standsAt 20 = .ok (.aload_n 0, 1) := by decide +kernel
theorem dX7_standsAt_21 : decode cX7_standsAt 21 = .ok (.getfield 22, 3) := by decide +kernel
theorem dX7_standsAt_24 : decode cX7_standsAt 24 = .ok (.iload_n 3, 1) := by decide +kernel
theorem dX7_standsAt_25 : decode cX7_standsAt 25 = .ok (.iaload, 1) := by decide +kernel
theorem dX7_standsAt_26 : decode cX7_standsAt 26 = .ok (.iload_n 2, 1) := by decide +kernel
theorem dX7_standsAt_27 : decode cX7_standsAt 27 = .ok (.if_icmp .ne 5, 3) := by decide +kernel
theorem dX7_standsAt_30 : decode cX7_standsAt 30 = .ok (.iload_n 3, 1) := by decide +kernel
theorem dX7_standsAt_31 : decode cX7_standsAt 31 = .ok (.ireturn, 1) := by decide +kernel
theorem dX7_standsAt_32 : decode cX7_standsAt 32 = .ok (.iinc 3 1, 3) := by decide +kernel
theorem dX7_standsAt_35 : decode cX7_standsAt 35 = .ok (.goto (-33), 3) := by decide +kernel
theorem dX7_standsAt_38 : decode cX7_standsAt 38 = .ok (.bipush (-9), 2) := by decide +kernel
theorem dX7_standsAt_40 : decode cX7_standsAt 40 = .ok (.ireturn, 1) := by decide +kernel
theorem dX7_run_0 : decode cX7_run 0 = .ok (.iconst 0, 1) := by decide +kernel
theorem dX7_run_1 : decode cX7_run 1 = .ok (.istore_n 1, 1) := by decide +kernel
theorem dX7_run_2 : decode cX7_run 2 = .ok (.iconst 0, 1) := by decide +kernel
theorem dX7_run_3 : decode cX7_run 3 = .ok (.istore_n 2, 1) := by decide +kernel
theorem dX7_run_4 : decode cX7_run 4 = .ok (.iconst 0, 1) := by decide +kernel
theorem dX7_run_5 : decode cX7_run 5 = .ok (.istore_n 3, 1) := by decide +kernel
theorem dX7_run_6 : decode cX7_run 6 = .ok (.bipush (-9), 2) := by decide +kernel
theorem dX7_run_8 : decode cX7_run 8 = .ok (.istore 4, 2) := by decide +kernel
theorem dX7_run_10 : decode cX7_run 10 = .ok (.iconst 0, 1) := by decide +kernel
theorem dX7_run_11 : decode cX7_run 11 = .ok (.istore 5, 2) := by decide +kernel
theorem dX7_run_13 : decode cX7_run 13 = .ok (.iconst 0, 1) := by decide +kernel
theorem dX7_run_14 : decode cX7_run 14 = .ok (.istore 6, 2) := by decide +kernel
theorem dX7_run_16 : decode cX7_run 16 = .ok (.aload_n 0, 1) := by decide +kernel
theorem dX7_run_17 : decode cX7_run 17 = .ok (.iconst 0, 1) := by decide +kernel
theorem dX7_run_18 : decode cX7_run 18 = .ok (.putfield 146, 3) := by decide +kernel
theorem dX7_run_21 : decode cX7_run 21 = .ok (.aload_n 0, 1) := by decide +kernel
theorem dX7_run_22 : decode cX7_run 22 = .ok (.iconst 0, 1) := by decide +kernel
theorem dX7_run_23 : decode cX7_run 23 = .ok (.putfield 149, 3) := by decide +kernel
theorem dX7_run_26 : decode cX7_run 26 = .ok (.aload_n 0, 1) := by decide +kernel
theorem dX7_run_27 : decode cX7_run 27 = .ok (.iconst 0, 1) := by decide +kernel
theorem dX7_run_28 : decode cX7_run 28 = .ok (.putfield 152, 3) := by decide +kernel
theorem dX7_run_31 : decode cX7_run 31 = .ok (.aload_n 0, 1) := by decide +kernel
theorem dX7_run_32 : decode cX7_run 32 = .ok (.iconst 0, 1) := by decide +kernel
theorem dX7_run_33 : decode cX7_run 33 = .ok (.putfield 155, 3) := by decide +kernel
theorem dX7_run_36 : decode cX7_run 36 = .ok (.aload_n 0, 1) := by decide +kernel
theorem dX7_run_37 : decode cX7_run 37 = .ok (.iconst 0, 1) := by decide +kernel
theorem dX7_run_38 : decode cX7_run 38 = .ok (.iload_n 1, 1) := by decide +kernel
theorem dX7_run_39 : decode cX7_run 39 = .ok (.invokevirtual 158, 3) := by decide +kernel
theorem dX7_run_42 : decode cX7_run 42 = .ok (.istore 7, 2) := by decide +kernel
theorem dX7_run_44 : decode cX7_run 44 = .ok (.aload_n 0, 1) := by decide +kernel
theorem dX7_run_45 : decode cX7_run 45 = .ok (.iconst 1, 1) := by decide +kernel
theorem dX7_run_46 : decode cX7_run 46 = .ok (.iload_n 2, 1) := by decide +kernel
theorem dX7_run_47 : decode cX7_run 47 = .ok (.invokevirtual 158, 3) := by decide +kernel
theorem dX7_run_50 : decode cX7_run 50 = .ok (.istore 8, 2) := by decide +kernel
theorem dX7_run_52 : decode cX7_run 52 = .ok (.iload 7, 2) := by decide +kernel
theorem dX7_run_54 : decode cX7_run 54 = .ok (.bipush (-9), 2) := by decide +kernel
theorem dX7_run_56 : decode cX7_run 56 = .ok (.if_icmp .ne 10, 3) := by decide +kernel
theorem dX7_run_59 : decode cX7_run 59 = .ok (.iload 8, 2) := by decide +kernel
theorem dX7_run_61 : decode cX7_run 61 = .ok (.bipush (-9), 2) := by decide +kernel
theorem dX7_run_63 : decode cX7_run 63 = .ok (.if_icmp .eq 287, 3) := by decide +kernel
theorem dX7_run_66 : decode cX7_run 66 = .ok (.iconst 0, 1) := by decide +kernel
theorem dX7_run_67 : decode cX7_run 67 = .ok (.istore 9, 2) := by decide +kernel
theorem dX7_run_69 : decode cX7_run 69 = .ok (.iload 7, 2) := by decide +kernel
theorem dX7_run_71 : decode cX7_run 71 = .ok (.bipush (-9), 2) := by decide +kernel
theorem dX7_run_73 : decode cX7_run 73 = .ok (.if_icmp .ne 7, 3) := by decide +kernel
theorem dX7_run_76 : decode cX7_run 76 = .ok (.iconst 1, 1) := by decide +kernel
theorem dX7_run_77 : decode cX7_run 77 = .ok (.goto 4, 3) := by decide +kernel
theorem dX7_run_80 : decode cX7_run 80 = .ok (.iconst 0, 1) := by decide +kernel
theorem dX7_run_81 : decode cX7_run 81 = .ok (.istore 10, 2) := by decide +kernel
theorem dX7_run_83 : decode cX7_run 83 = .ok (.iload 7, 2) := by decide +kernel
theorem dX7_run_85 : decode cX7_run 85 = .ok (.bipush (-9), 2) := by decide +kernel
theorem dX7_run_87 : decode cX7_run 87 = .ok (.if_icmp .eq 62, 3) := by decide +kernel
theorem dX7_run_90 : decode cX7_run 90 = .ok (.iload 8, 2) := by decide +kernel
theorem dX7_run_92 : decode cX7_run 92 = .ok (.bipush (-9), 2) := by decide +kernel
theorem dX7_run_94 : decode cX7_run 94 = .ok (.if_icmp .eq 55, 3) := by decide +kernel
theorem dX7_run_97 : decode cX7_run 97 = .ok (.iload_n 3, 1) := by decide +kernel
theorem dX7_run_98 : decode cX7_run 98 = .ok (.aload_n 0, 1) := by decide +kernel
theorem dX7_run_99 : decode cX7_run 99 = .ok (.iload 7, 2) := by decide +kernel
theorem dX7_run_101 : decode cX7_run 101 = .ok (.invokevirtual 140, 3) := by decide +kernel
theorem dX7_run_104 : decode cX7_run 104 = .ok (.if_icmp .ge 12, 3) := by decide +kernel
theorem dX7_run_107 : decode cX7_run 107 = .ok (.iinc 3 1, 3) := by decide +kernel
theorem dX7_run_110 : decode cX7_run 110 = .ok (.iconst 1, 1) := by decide +kernel
theorem dX7_run_111 : decode cX7_run 111 = .ok (.istore 10, 2) := by decide +kernel
theorem dX7_run_113 : decode cX7_run 113 = .ok (.goto 36, 3) := by decide +kernel
theorem dX7_run_116 : decode cX7_run 116 = .ok (.aload_n 0, 1) := by decide +kernel
theorem dX7_run_117 : decode cX7_run 117 = .ok (.getfield 7, 3) := by decide +kernel
theorem dX7_run_120 : decode cX7_run 120 = .ok (.iload 8, 2) := by decide +kernel
theorem dX7_run_122 : decode cX7_run 122 = .ok (.iaload, 1) := by decide +kernel
theorem dX7_run_123 : decode cX7_run 123 = .ok (.iconst 2, 1) := by decide +kernel
theorem dX7_run_124 : decode cX7_run 124 = .ok (.if_icmp .ne 18, 3) := by decide +kernel
theorem dX7_run_127 : decode cX7_run 127 = .ok (.iload 4, 2) := by decide +kernel
theorem dX7_run_129 : decode cX7_run 129 = .ok (.iconst 1, 1) := by decide +kernel
theorem dX7_run_130 : decode cX7_run 130 = .ok (.if_icmp .ne 12, 3) := by decide +kernel
theorem dX7_run_133 : decode cX7_run 133 = .ok (.iload 5, 2) := by decide +kernel
theorem dX7_run_135 : decode cX7_run 135 = .ok (.ifCond .ne 7, 3) := by decide +kernel
theorem dX7_run_138 : decode cX7_run 138 = .ok (.iconst 1, 1) := by decide +kernel
theorem dX7_run_139 : decode cX7_run 139 = .ok (.goto 4, 3) := by decide +kernel
theorem dX7_run_142 : decode cX7_run 142 = .ok (.iconst 0, 1) := by decide +kernel
theorem dX7_run_143 : decode cX7_run 143 = .ok (.istore 9, 2) := by decide +kernel
theorem dX7_run_145 : decode cX7_run 145 = .ok (.iload 9, 2) := by decide +kernel
theorem dX7_run_147 : decode cX7_run 147 = .ok (.istore 10, 2) := by decide +kernel
theorem dX7_run_149 : decode cX7_run 149 = .ok (.iload 10, 2) := by decide +kernel
theorem dX7_run_151 : decode cX7_run 151 = .ok (.ifCond .eq 8, 3) := by decide +kernel
theorem dX7_run_154 : decode cX7_run 154 = .ok (.iload 8, 2) := by decide +kernel
theorem dX7_run_156 : decode cX7_run 156 = .ok (.goto 5, 3) := by decide +kernel
theorem dX7_run_159 : decode cX7_run 159 = .ok (.iload 7, 2) := by decide +kernel
theorem dX7_run_161 : decode cX7_run 161 = .ok (.istore 11, 2) := by decide +kernel
theorem dX7_run_163 : decode cX7_run 163 = .ok (.iload 10, 2) := by decide +kernel
theorem dX7_run_165 : decode cX7_run 165 = .ok (.ifCond .eq 7, 3) := by decide +kernel
theorem dX7_run_168 : decode cX7_run 168 = .ok (.iconst 1, 1) := by decide +kernel
theorem dX7_run_169 : decode cX7_run 169 = .ok (.goto 4, 3) := by decide +kernel
theorem dX7_run_172 : decode cX7_run 172 = .ok (.iconst 0, 1) := by decide +kernel
theorem dX7_run_173 : decode cX7_run 173 = .ok (.istore 12, 2) := by decide +kernel
theorem dX7_run_175 : decode cX7_run 175 = .ok (.aload_n 0, 1) := by decide +kernel
theorem dX7_run_176 : decode cX7_run 176 = .ok (.dup, 1) := by decide +kernel
theorem dX7_run_177 : decode cX7_run 177 = .ok (.getfield 149, 3) := by decide +kernel
theorem dX7_run_180 : decode cX7_run 180 = .ok (.aload_n 0, 1) := by decide +kernel
theorem dX7_run_181 : decode cX7_run 181 = .ok (.iload 11, 2) := by decide +kernel
theorem dX7_run_183 : decode cX7_run 183 = .ok (.invokevirtual 143, 3) := by decide +kernel
theorem dX7_run_186 : decode cX7_run 186 = .ok (.iload 4, 2) := by decide +kernel
theorem dX7_run_188 : decode cX7_run 188 = .ok (.bipush (-9), 2) := by decide +kernel
theorem dX7_run_190 : decode cX7_run 190 = .ok (.if_icmp .eq 17, 3) := by decide +kernel
theorem dX7_run_193 : decode cX7_run 193 = .ok (.iload 4, 2) := by decide +kernel
theorem dX7_run_195 : decode cX7_run 195 = .ok (.iload 12, 2) := by decide +kernel
theorem dX7_run_197 : decode cX7_run 197 = .ok (.if_icmp .eq 10, 3) := by decide +kernel
theorem dX7_run_200 : decode cX7_run 200 = .ok (.aload_n 0, 1) := by decide +kernel
theorem dX7_run_201 : decode cX7_run 201 = .ok (.getfield 55, 3) := by decide +kernel
theorem dX7_run_204 : decode cX7_run 204 = .ok (.goto 4, 3) := by decide +kernel
theorem dX7_run_207 : decode cX7_run 207 = .ok (.iconst 0, 1) := by decide +kernel
theorem dX7_run_208 : decode cX7_run 208 = .ok (.iadd, 1) := by decide +kernel
theorem dX7_run_209 : decode cX7_run 209 = .ok (.iadd, 1) := by decide +kernel
theorem dX7_run_210 : decode cX7_run 210 = .ok (.putfield 149, 3) := by decide +kernel
theorem dX7_run_213 : decode cX7_run 213 = .ok (.iload 4, 2) := by decide +kernel
theorem dX7_run_215 : decode cX7_run 215 = .ok (.bipush (-9), 2) := by decide +kernel
theorem dX7_run_217 : decode cX7_run 217 = .ok (.if_icmp .eq 20, 3) := by decide +kernel
theorem dX7_run_220 : decode cX7_run 220 = .ok (.iload 4, 2) := by decide +kernel
theorem dX7_run_222 : decode cX7_run 222 = .ok (.iload 12, 2) := by decide +kernel
theorem dX7_run_224 : decode cX7_run 224 = .ok (.if_icmp .eq 13, 3) := by decide +kernel
theorem dX7_run_227 : decode cX7_run 227 = .ok (.aload_n 0, 1) := by decide +kernel
theorem dX7_run_228 : decode cX7_run 228 = .ok (.dup, 1) := by decide +kernel
theorem dX7_run_229 : decode cX7_run 229 = .ok (.getfield 152, 3) := by decide +kernel
theorem dX7_run_232 : decode cX7_run 232 = .ok (.iconst 1, 1) := by decide +kernel
theorem dX7_run_233 : decode cX7_run 233 = .ok (.iadd, 1) := by decide +kernel
theorem dX7_run_234 : decode cX7_run 234 = .ok (.putfield 152, 3) := by decide +kernel
theorem dX7_run_237 : decode cX7_run 237 = .ok (.iload 4, 2) := by decide +kernel
theorem dX7_run_239 : decode cX7_run 239 = .ok (.iload 12, 2) := by decide +kernel
theorem dX7_run_241 : decode cX7_run 241 = .ok (.if_icmp .ne 10, 3) := by decide +kernel
theorem dX7_run_244 : decode cX7_run 244 = .ok (.iload 6, 2) := by decide +kernel
theorem dX7_run_246 : decode cX7_run 246 = .ok (.iconst 1, 1) := by decide +kernel
theorem dX7_run_247 : decode cX7_run 247 = .ok (.iadd, 1) := by decide +kernel
theorem dX7_run_248 : decode cX7_run 248 = .ok (.goto 4, 3) := by decide +kernel
theorem dX7_run_251 : decode cX7_run 251 = .ok (.iconst 1, 1) := by decide +kernel
theorem dX7_run_252 : decode cX7_run 252 = .ok (.istore 6, 2) := by decide +kernel
theorem dX7_run_254 : decode cX7_run 254 = .ok (.aload_n 0, 1) := by decide +kernel
theorem dX7_run_255 : decode cX7_run 255 = .ok (.aload_n 0, 1) := by decide +kernel
theorem dX7_run_256 : decode cX7_run 256 = .ok (.getfield 155, 3) := by decide +kernel
theorem dX7_run_259 : decode cX7_run 259 = .ok (.iload 6, 2) := by decide +kernel
theorem dX7_run_261 : decode cX7_run 261 = .ok (.invokestatic 131, 3) := by decide +kernel
theorem dX7_run_264 : decode cX7_run 264 = .ok (.putfield 155, 3) := by decide +kernel
theorem dX7_run_267 : decode cX7_run 267 = .ok (.aload_n 0, 1) := by decide +kernel
theorem dX7_run_268 : decode cX7_run 268 = .ok (.getfield 49, 3) := by decide +kernel
theorem dX7_run_271 : decode cX7_run 271 = .ok (.iload 11, 2) := by decide +kernel
theorem dX7_run_273 : decode cX7_run 273 = .ok (.aload_n 0, 1) := by decide +kernel
theorem dX7_run_274 : decode cX7_run 274 = .ok (.getfield 149, 3) := by decide +kernel
theorem dX7_run_277 : decode cX7_run 277 = .ok (.iastore, 1) := by decide +kernel
theorem dX7_run_278 : decode cX7_run 278 = .ok (.aload_n 0, 1) := by decide +kernel
theorem dX7_run_279 : decode cX7_run 279 = .ok (.getfield 52, 3) := by decide +kernel
theorem dX7_run_282 : decode cX7_run 282 = .ok (.iload 11, 2) := by decide +kernel
theorem dX7_run_284 : decode cX7_run 284 = .ok (.aload_n 0, 1) := by decide +kernel
theorem dX7_run_285 : decode cX7_run 285 = .ok (.getfield 146, 3) := by decide +kernel
theorem dX7_run_288 : decode cX7_run 288 = .ok (.iastore, 1) := by decide +kernel
theorem dX7_run_289 : decode cX7_run 289 = .ok (.aload_n 0, 1) := by decide +kernel
theorem dX7_run_290 : decode cX7_run 290 = .ok (.getfield 46, 3) := by decide +kernel
theorem dX7_run_293 : decode cX7_run 293 = .ok (.aload_n 0, 1) := by decide +kernel
theorem dX7_run_294 : decode cX7_run 294 = .ok (.dup, 1) := by decide +kernel
theorem dX7_run_295 : decode cX7_run 295 = .ok (.getfield 146, 3) := by decide +kernel
theorem dX7_run_298 : decode cX7_run 298 = .ok (.dup_x1, 1) := by decide +kernel
theorem dX7_run_299 : decode cX7_run 299 = .ok (.iconst 1, 1) := by decide +kernel
theorem dX7_run_300 : decode cX7_run 300 = .ok (.iadd, 1) := by decide +kernel
theorem dX7_run_301 : decode cX7_run 301 = .ok (.putfield 146, 3) := by decide +kernel
theorem dX7_run_304 : decode cX7_run 304 = .ok (.iload 11, 2) := by decide +kernel
theorem dX7_run_306 : decode cX7_run 306 = .ok (.iastore, 1) := by decide +kernel
theorem dX7_run_307 : decode cX7_run 307 = .ok (.iload 12, 2) := by decide +kernel
theorem dX7_run_309 : decode cX7_run 309 = .ok (.istore 4, 2) := by decide +kernel
theorem dX7_run_311 : decode cX7_run 311 = .ok (.iload 9, 2) := by decide +kernel
theorem dX7_run_313 : decode cX7_run 313 = .ok (.istore 5, 2) := by decide +kernel
theorem dX7_run_315 : decode cX7_run 315 = .ok (.iload 10, 2) := by decide +kernel
theorem dX7_run_317 : decode cX7_run 317 = .ok (.ifCond .eq 9, 3) := by decide +kernel
theorem dX7_run_320 : decode cX7_run 320 = .ok (.iinc 2 1, 3) := by decide +kernel
theorem dX7_run_323 : decode cX7_run 323 = .ok (.goto 8, 3) := by decide +kernel
theorem dX7_run_326 : decode cX7_run 326 = .ok (.iinc 1 1, 3) := by decide +kernel
theorem dX7_run_329 : decode cX7_run 329 = .ok (.iconst 0, 1) := by decide +kernel
theorem dX7_run_330 : decode cX7_run 330 = .ok (.istore_n 3, 1) := by decide +kernel
theorem dX7_run_331 : decode cX7_run 331 = .ok (.aload_n 0, 1) := by decide +kernel
theorem dX7_run_332 : decode cX7_run 332 = .ok (.iconst 0, 1) := by decide +kernel
theorem dX7_run_333 : decode cX7_run 333 = .ok (.iload_n 1, 1) := by decide +kernel
theorem dX7_run_334 : decode cX7_run 334 = .ok (.invokevirtual 158, 3) := by decide +kernel
theorem dX7_run_337 : decode cX7_run 337 = .ok (.istore 7, 2) := by decide +kernel
theorem dX7_run_339 : decode cX7_run 339 = .ok (.aload_n 0, 1) := by decide +kernel
theorem dX7_run_340 : decode cX7_run 340 = .ok (.iconst 1, 1) := by decide +kernel
theorem dX7_run_341 : decode cX7_run 341 = .ok (.iload_n 2, 1) := by decide +kernel
theorem dX7_run_342 : decode cX7_run 342 = .ok (.invokevirtual 158, 3) := by decide +kernel
theorem dX7_run_345 : decode cX7_run 345 = .ok (.istore 8, 2) := by decide +kernel
theorem dX7_run_347 : decode cX7_run 347 = .ok (.goto (-295), 3) := by decide +kernel
theorem dX7_run_350 : decode cX7_run 350 = .ok (.return_, 1) := by decide +kernel
theorem dX7_cost_0 : decode cX7_cost 0 = .ok (.aload_n 0, 1) := by decide +kernel
theorem dX7_cost_1 : decode cX7_cost 1 = .ok (.invokevirtual 161, 3) := by decide +kernel
theorem dX7_cost_4 : decode cX7_cost 4 = .ok (.iconst 0, 1) := by decide +kernel
theorem dX7_cost_5 : decode cX7_cost 5 = .ok (.istore_n 1, 1) := by decide +kernel
theorem dX7_cost_6 : decode cX7_cost 6 = .ok (.iconst 0, 1) := by decide +kernel
theorem dX7_cost_7 : decode cX7_cost 7 = .ok (.istore_n 2, 1) := by decide +kernel
theorem dX7_cost_8 : decode cX7_cost 8 = .ok (.iload_n 2, 1) := by decide +kernel
theorem dX7_cost_9 : decode cX7_cost 9 = .ok (.aload_n 0, 1) := by decide +kernel
theorem dX7_cost_10 : decode cX7_cost 10 = .ok (.getfield 146, 3) := by decide +kernel
theorem dX7_cost_13 : decode cX7_cost 13 = .ok (.if_icmp .ge 35, 3) := by decide +kernel
theorem dX7_cost_16 : decode cX7_cost 16 = .ok (.iload_n 1, 1) := by decide +kernel
theorem dX7_cost_17 : decode cX7_cost 17 = .ok (.aload_n 0, 1) := by decide +kernel
theorem dX7_cost_18 : decode cX7_cost 18 = .ok (.getfield 49, 3) := by decide +kernel
theorem dX7_cost_21 : decode cX7_cost 21 = .ok (.aload_n 0, 1) := by decide +kernel
theorem dX7_cost_22 : decode cX7_cost 22 = .ok (.getfield 46, 3) := by decide +kernel
theorem dX7_cost_25 : decode cX7_cost 25 = .ok (.iload_n 2, 1) := by decide +kernel
theorem dX7_cost_26 : decode cX7_cost 26 = .ok (.iaload, 1) := by decide +kernel
theorem dX7_cost_27 : decode cX7_cost 27 = .ok (.iaload, 1) := by decide +kernel
theorem dX7_cost_28 : decode cX7_cost 28 = .ok (.aload_n 0, 1) := by decide +kernel
theorem dX7_cost_29 : decode cX7_cost 29 = .ok (.getfield 16, 3) := by decide +kernel
theorem dX7_cost_32 : decode cX7_cost 32 = .ok (.aload_n 0, 1) := by decide +kernel
theorem dX7_cost_33 : decode cX7_cost 33 = .ok (.getfield 46, 3) := by decide +kernel
theorem dX7_cost_36 : decode cX7_cost 36 = .ok (.iload_n 2, 1) := by decide +kernel
theorem dX7_cost_37 : decode cX7_cost 37 = .ok (.iaload, 1) := by decide +kernel
theorem dX7_cost_38 : decode cX7_cost 38 = .ok (.iaload, 1) := by decide +kernel
theorem dX7_cost_39 : decode cX7_cost 39 = .ok (.imul, 1) := by decide +kernel
theorem dX7_cost_40 : decode cX7_cost 40 = .ok (.iadd, 1) := by decide +kernel
theorem dX7_cost_41 : decode cX7_cost 41 = .ok (.istore_n 1, 1) := by decide +kernel
theorem dX7_cost_42 : decode cX7_cost 42 = .ok (.iinc 2 1, 3) := by decide +kernel
theorem dX7_cost_45 : decode cX7_cost 45 = .ok (.goto (-37), 3) := by decide +kernel
theorem dX7_cost_48 : decode cX7_cost 48 = .ok (.iload_n 1, 1) := by decide +kernel
theorem dX7_cost_49 : decode cX7_cost 49 = .ok (.ireturn, 1) := by decide +kernel
theorem dX7_seconds_0 : decode cX7_seconds 0 = .ok (.aload_n 0, 1) := by decide +kernel
theorem dX7_seconds_1 : decode cX7_seconds 1 = .ok (.invokevirtual 161, 3) := by decide +kernel
theorem dX7_seconds_4 : decode cX7_seconds 4 = .ok (.aload_n 0, 1) := by decide +kernel
theorem dX7_seconds_5 : decode cX7_seconds 5 = .ok (.getfield 149, 3) := by decide +kernel
theorem dX7_seconds_8 : decode cX7_seconds 8 = .ok (.ireturn, 1) := by decide +kernel
theorem dX7_order_0 : decode cX7_order 0 = .ok (.aload_n 0, 1) := by decide +kernel
theorem dX7_order_1 : decode cX7_order 1 = .ok (.invokevirtual 161, 3) := by decide +kernel
theorem dX7_order_4 : decode cX7_order 4 = .ok (.iload_n 1, 1) := by decide +kernel
theorem dX7_order_5 : decode cX7_order 5 = .ok (.iconst 0, 1) := by decide +kernel
theorem dX7_order_6 : decode cX7_order 6 = .ok (.aload_n 0, 1) := by decide +kernel
theorem dX7_order_7 : decode cX7_order 7 = .ok (.getfield 146, 3) := by decide +kernel
theorem dX7_order_10 : decode cX7_order 10 = .ok (.iconst 1, 1) := by decide +kernel
theorem dX7_order_11 : decode cX7_order 11 = .ok (.isub, 1) := by decide +kernel
theorem dX7_order_12 : decode cX7_order 12 = .ok (.invokestatic 62, 3) := by decide +kernel
theorem dX7_order_15 : decode cX7_order 15 = .ok (.ifCond .eq 12, 3) := by decide +kernel
theorem dX7_order_18 : decode cX7_order 18 = .ok (.aload_n 0, 1) := by decide +kernel
theorem dX7_order_19 : decode cX7_order 19 = .ok (.getfield 46, 3) := by decide +kernel
theorem dX7_order_22 : decode cX7_order 22 = .ok (.iload_n 1, 1) := by decide +kernel
theorem dX7_order_23 : decode cX7_order 23 = .ok (.iaload, 1) := by decide +kernel
theorem dX7_order_24 : decode cX7_order 24 = .ok (.goto 8, 3) := by decide +kernel
theorem dX7_order_27 : decode cX7_order 27 = .ok (.aload_n 0, 1) := by decide +kernel
theorem dX7_order_28 : decode cX7_order 28 = .ok (.iconst (-1), 1) := by decide +kernel
theorem dX7_order_29 : decode cX7_order 29 = .ok (.invokevirtual 66, 3) := by decide +kernel
theorem dX7_order_32 : decode cX7_order 32 = .ok (.ireturn, 1) := by decide +kernel
theorem dX7_of_0 : decode cX7_of 0 = .ok (.aload_n 0, 1) := by decide +kernel
theorem dX7_of_1 : decode cX7_of 1 = .ok (.iload_n 1, 1) := by decide +kernel
theorem dX7_of_2 : decode cX7_of 2 = .ok (.invokevirtual 96, 3) := by decide +kernel
theorem dX7_of_5 : decode cX7_of 5 = .ok (.ifCond .ne 9, 3) := by decide +kernel
theorem dX7_of_8 : decode cX7_of 8 = .ok (.aload_n 0, 1) := by decide +kernel
theorem dX7_of_9 : decode cX7_of 9 = .ok (.iconst (-1), 1) := by decide +kernel
theorem dX7_of_10 : decode cX7_of 10 = .ok (.invokevirtual 66, 3) := by decide +kernel
theorem dX7_of_13 : decode cX7_of 13 = .ok (.ireturn, 1) := by decide +kernel
theorem dX7_of_14 : decode cX7_of 14 = .ok (.iload_n 2, 1) := by decide +kernel
theorem dX7_of_15 : decode cX7_of 15 = .ok (.iconst 0, 1) := by decide +kernel
theorem dX7_of_16 : decode cX7_of 16 = .ok (.iconst 1, 1) := by decide +kernel
theorem dX7_of_17 : decode cX7_of 17 = .ok (.invokestatic 62, 3) := by decide +kernel
theorem dX7_of_20 : decode cX7_of 20 = .ok (.ifCond .ne 10, 3) := by decide +kernel
theorem dX7_of_23 : decode cX7_of 23 = .ok (.aload_n 0, 1) := by decide +kernel
theorem dX7_of_24 : decode cX7_of 24 = .ok (.bipush (-2), 2) := by decide +kernel
theorem dX7_of_26 : decode cX7_of 26 = .ok (.invokevirtual 66, 3) := by decide +kernel
theorem dX7_of_29 : decode cX7_of 29 = .ok (.ireturn, 1) := by decide +kernel
theorem dX7_of_30 : decode cX7_of 30 = .ok (.aload_n 0, 1) := by decide +kernel
theorem dX7_of_31 : decode cX7_of 31 = .ok (.invokevirtual 161, 3) := by decide +kernel
theorem dX7_of_34 : decode cX7_of 34 = .ok (.iload_n 2, 1) := by decide +kernel
theorem dX7_of_35 : decode cX7_of 35 = .ok (.ifCond .ne 12, 3) := by decide +kernel
theorem dX7_of_38 : decode cX7_of 38 = .ok (.aload_n 0, 1) := by decide +kernel
theorem dX7_of_39 : decode cX7_of 39 = .ok (.getfield 49, 3) := by decide +kernel
theorem dX7_of_42 : decode cX7_of 42 = .ok (.iload_n 1, 1) := by decide +kernel
theorem dX7_of_43 : decode cX7_of 43 = .ok (.iaload, 1) := by decide +kernel
theorem dX7_of_44 : decode cX7_of 44 = .ok (.goto 9, 3) := by decide +kernel
theorem dX7_of_47 : decode cX7_of 47 = .ok (.aload_n 0, 1) := by decide +kernel
theorem dX7_of_48 : decode cX7_of 48 = .ok (.getfield 52, 3) := by decide +kernel
theorem dX7_of_51 : decode cX7_of 51 = .ok (.iload_n 1, 1) := by decide +kernel
theorem dX7_of_52 : decode cX7_of 52 = .ok (.iaload, 1) := by decide +kernel
theorem dX7_of_53 : decode cX7_of 53 = .ok (.ireturn, 1) := by decide +kernel
theorem dX7_sums_0 : decode cX7_sums 0 = .ok (.iconst 0, 1) := by decide +kernel
theorem dX7_sums_1 : decode cX7_sums 1 = .ok (.istore_n 2, 1) := by decide +kernel
theorem dX7_sums_2 : decode cX7_sums 2 = .ok (.iload_n 1, 1) := by decide +kernel
theorem dX7_sums_3 : decode cX7_sums 3 = .ok (.tableswitch 97 0 4 #[33, 38, 74, 79, 88], 33) := by decide +kernel
theorem dX7_sums_36 : decode cX7_sums 36 = .ok (.aload_n 0, 1) := by decide +kernel
theorem dX7_sums_37 : decode cX7_sums 37 = .ok (.invokevirtual 164, 3) := by decide +kernel
theorem dX7_sums_40 : decode cX7_sums 40 = .ok (.ireturn, 1) := by decide +kernel
theorem dX7_sums_41 : decode cX7_sums 41 = .ok (.aload_n 0, 1) := by decide +kernel
theorem dX7_sums_42 : decode cX7_sums 42 = .ok (.invokevirtual 161, 3) := by decide +kernel
theorem dX7_sums_45 : decode cX7_sums 45 = .ok (.iconst 0, 1) := by decide +kernel
theorem dX7_sums_46 : decode cX7_sums 46 = .ok (.istore_n 3, 1) := by decide +kernel
theorem dX7_sums_47 : decode cX7_sums 47 = .ok (.iload_n 3, 1) := by decide +kernel
theorem dX7_sums_48 : decode cX7_sums 48 = .ok (.aload_n 0, 1) := by decide +kernel
theorem dX7_sums_49 : decode cX7_sums 49 = .ok (.getfield 146, 3) := by decide +kernel
theorem dX7_sums_52 : decode cX7_sums 52 = .ok (.if_icmp .ge 23, 3) := by decide +kernel
theorem dX7_sums_55 : decode cX7_sums 55 = .ok (.iload_n 2, 1) := by decide +kernel
theorem dX7_sums_56 : decode cX7_sums 56 = .ok (.aload_n 0, 1) := by decide +kernel
theorem dX7_sums_57 : decode cX7_sums 57 = .ok (.getfield 49, 3) := by decide +kernel
theorem dX7_sums_60 : decode cX7_sums 60 = .ok (.aload_n 0, 1) := by decide +kernel
theorem dX7_sums_61 : decode cX7_sums 61 = .ok (.getfield 46, 3) := by decide +kernel
theorem dX7_sums_64 : decode cX7_sums 64 = .ok (.iload_n 3, 1) := by decide +kernel
theorem dX7_sums_65 : decode cX7_sums 65 = .ok (.iaload, 1) := by decide +kernel
theorem dX7_sums_66 : decode cX7_sums 66 = .ok (.iaload, 1) := by decide +kernel
theorem dX7_sums_67 : decode cX7_sums 67 = .ok (.iadd, 1) := by decide +kernel
theorem dX7_sums_68 : decode cX7_sums 68 = .ok (.istore_n 2, 1) := by decide +kernel
theorem dX7_sums_69 : decode cX7_sums 69 = .ok (.iinc 3 1, 3) := by decide +kernel
theorem dX7_sums_72 : decode cX7_sums 72 = .ok (.goto (-25), 3) := by decide +kernel
theorem dX7_sums_75 : decode cX7_sums 75 = .ok (.iload_n 2, 1) := by decide +kernel
theorem dX7_sums_76 : decode cX7_sums 76 = .ok (.ireturn, 1) := by decide +kernel
theorem dX7_sums_77 : decode cX7_sums 77 = .ok (.aload_n 0, 1) := by decide +kernel
theorem dX7_sums_78 : decode cX7_sums 78 = .ok (.invokevirtual 168, 3) := by decide +kernel
theorem dX7_sums_81 : decode cX7_sums 81 = .ok (.ireturn, 1) := by decide +kernel
theorem dX7_sums_82 : decode cX7_sums 82 = .ok (.aload_n 0, 1) := by decide +kernel
theorem dX7_sums_83 : decode cX7_sums 83 = .ok (.invokevirtual 161, 3) := by decide +kernel
theorem dX7_sums_86 : decode cX7_sums 86 = .ok (.aload_n 0, 1) := by decide +kernel
theorem dX7_sums_87 : decode cX7_sums 87 = .ok (.getfield 152, 3) := by decide +kernel
theorem dX7_sums_90 : decode cX7_sums 90 = .ok (.ireturn, 1) := by decide +kernel
theorem dX7_sums_91 : decode cX7_sums 91 = .ok (.aload_n 0, 1) := by decide +kernel
theorem dX7_sums_92 : decode cX7_sums 92 = .ok (.invokevirtual 161, 3) := by decide +kernel
theorem dX7_sums_95 : decode cX7_sums 95 = .ok (.aload_n 0, 1) := by decide +kernel
theorem dX7_sums_96 : decode cX7_sums 96 = .ok (.getfield 155, 3) := by decide +kernel
theorem dX7_sums_99 : decode cX7_sums 99 = .ok (.ireturn, 1) := by decide +kernel
theorem dX7_sums_100 : decode cX7_sums 100 = .ok (.aload_n 0, 1) := by decide +kernel
theorem dX7_sums_101 : decode cX7_sums 101 = .ok (.bipush (-2), 2) := by decide +kernel
theorem dX7_sums_103 : decode cX7_sums 103 = .ok (.invokevirtual 66, 3) := by decide +kernel
theorem dX7_sums_106 : decode cX7_sums 106 = .ok (.ireturn, 1) := by decide +kernel
theorem dX7_queue_0 : decode cX7_queue 0 = .ok (.iload_n 1, 1) := by decide +kernel
theorem dX7_queue_1 : decode cX7_queue 1 = .ok (.iconst 0, 1) := by decide +kernel
theorem dX7_queue_2 : decode cX7_queue 2 = .ok (.iconst 1, 1) := by decide +kernel
theorem dX7_queue_3 : decode cX7_queue 3 = .ok (.invokestatic 62, 3) := by decide +kernel
theorem dX7_queue_6 : decode cX7_queue 6 = .ok (.ifCond .ne 9, 3) := by decide +kernel
theorem dX7_queue_9 : decode cX7_queue 9 = .ok (.aload_n 0, 1) := by decide +kernel
theorem dX7_queue_10 : decode cX7_queue 10 = .ok (.iconst (-1), 1) := by decide +kernel
theorem dX7_queue_11 : decode cX7_queue 11 = .ok (.invokevirtual 66, 3) := by decide +kernel
theorem dX7_queue_14 : decode cX7_queue 14 = .ok (.ireturn, 1) := by decide +kernel
theorem dX7_queue_15 : decode cX7_queue 15 = .ok (.iload_n 2, 1) := by decide +kernel
theorem dX7_queue_16 : decode cX7_queue 16 = .ok (.ifCond .ge 10, 3) := by decide +kernel
theorem dX7_queue_19 : decode cX7_queue 19 = .ok (.aload_n 0, 1) := by decide +kernel
theorem dX7_queue_20 : decode cX7_queue 20 = .ok (.bipush (-4), 2) := by decide +kernel
theorem dX7_queue_22 : decode cX7_queue 22 = .ok (.invokevirtual 66, 3) := by decide +kernel
theorem dX7_queue_25 : decode cX7_queue 25 = .ok (.ireturn, 1) := by decide +kernel
theorem dX7_queue_26 : decode cX7_queue 26 = .ok (.iload_n 2, 1) := by decide +kernel
theorem dX7_queue_27 : decode cX7_queue 27 = .ok (.aload_n 0, 1) := by decide +kernel
theorem dX7_queue_28 : decode cX7_queue 28 = .ok (.getfield 59, 3) := by decide +kernel
theorem dX7_queue_31 : decode cX7_queue 31 = .ok (.if_icmp .le 10, 3) := by decide +kernel
theorem dX7_queue_34 : decode cX7_queue 34 = .ok (.aload_n 0, 1) := by decide +kernel
theorem dX7_queue_35 : decode cX7_queue 35 = .ok (.bipush (-6), 2) := by decide +kernel
theorem dX7_queue_37 : decode cX7_queue 37 = .ok (.invokevirtual 66, 3) := by decide +kernel
theorem dX7_queue_40 : decode cX7_queue 40 = .ok (.ireturn, 1) := by decide +kernel
theorem dX7_queue_41 : decode cX7_queue 41 = .ok (.aload_n 0, 1) := by decide +kernel
theorem dX7_queue_42 : decode cX7_queue 42 = .ok (.invokevirtual 161, 3) := by decide +kernel
theorem dX7_queue_45 : decode cX7_queue 45 = .ok (.aload_n 0, 1) := by decide +kernel
theorem dX7_queue_46 : decode cX7_queue 46 = .ok (.iload_n 1, 1) := by decide +kernel
theorem dX7_queue_47 : decode cX7_queue 47 = .ok (.invokevirtual 93, 3) := by decide +kernel
theorem dX7_queue_50 : decode cX7_queue 50 = .ok (.istore_n 3, 1) := by decide +kernel
theorem dX7_queue_51 : decode cX7_queue 51 = .ok (.iconst 0, 1) := by decide +kernel
theorem dX7_queue_52 : decode cX7_queue 52 = .ok (.istore 4, 2) := by decide +kernel
theorem dX7_queue_54 : decode cX7_queue 54 = .ok (.iload 4, 2) := by decide +kernel
theorem dX7_queue_56 : decode cX7_queue 56 = .ok (.iload_n 2, 1) := by decide +kernel
theorem dX7_queue_57 : decode cX7_queue 57 = .ok (.if_icmp .ge 28, 3) := by decide +kernel
theorem dX7_queue_60 : decode cX7_queue 60 = .ok (.aload_n 0, 1) := by decide +kernel
theorem dX7_queue_61 : decode cX7_queue 61 = .ok (.getfield 19, 3) := by decide +kernel
theorem dX7_queue_64 : decode cX7_queue 64 = .ok (.aload_n 0, 1) := by decide +kernel
theorem dX7_queue_65 : decode cX7_queue 65 = .ok (.getfield 46, 3) := by decide +kernel
theorem dX7_queue_68 : decode cX7_queue 68 = .ok (.iload 4, 2) := by decide +kernel
theorem dX7_queue_70 : decode cX7_queue 70 = .ok (.iaload, 1) := by decide +kernel
theorem dX7_queue_71 : decode cX7_queue 71 = .ok (.iaload, 1) := by decide +kernel
theorem dX7_queue_72 : decode cX7_queue 72 = .ok (.iload_n 1, 1) := by decide +kernel
theorem dX7_queue_73 : decode cX7_queue 73 = .ok (.if_icmp .ne 6, 3) := by decide +kernel
theorem dX7_queue_76 : decode cX7_queue 76 = .ok (.iinc 3 (-1), 3) := by decide +kernel
theorem dX7_queue_79 : decode cX7_queue 79 = .ok (.iinc 4 1, 3) := by decide +kernel
theorem dX7_queue_82 : decode cX7_queue 82 = .ok (.goto (-28), 3) := by decide +kernel
theorem dX7_queue_85 : decode cX7_queue 85 = .ok (.iload_n 3, 1) := by decide +kernel
theorem dX7_queue_86 : decode cX7_queue 86 = .ok (.ireturn, 1) := by decide +kernel
theorem dX7_bestBoard_0 : decode cX7_bestBoard 0 = .ok (.aload_n 0, 1) := by decide +kernel
theorem dX7_bestBoard_1 : decode cX7_bestBoard 1 = .ok (.getfield 103, 3) := by decide +kernel
theorem dX7_bestBoard_4 : decode cX7_bestBoard 4 = .ok (.istore_n 1, 1) := by decide +kernel
theorem dX7_bestBoard_5 : decode cX7_bestBoard 5 = .ok (.iconst 0, 1) := by decide +kernel
theorem dX7_bestBoard_6 : decode cX7_bestBoard 6 = .ok (.istore_n 2, 1) := by decide +kernel
theorem dX7_bestBoard_7 : decode cX7_bestBoard 7 = .ok (.iconst (-1), 1) := by decide +kernel
theorem dX7_bestBoard_8 : decode cX7_bestBoard 8 = .ok (.istore_n 3, 1) := by decide +kernel
theorem dX7_bestBoard_9 : decode cX7_bestBoard 9 = .ok (.iconst 0, 1) := by decide +kernel
theorem dX7_bestBoard_10 : decode cX7_bestBoard 10 = .ok (.istore 4, 2) := by decide +kernel
theorem dX7_bestBoard_12 : decode cX7_bestBoard 12 = .ok (.iload 4, 2) := by decide +kernel
theorem dX7_bestBoard_14 : decode cX7_bestBoard 14 = .ok (.iconst 3, 1) := by decide +kernel
theorem dX7_bestBoard_15 : decode cX7_bestBoard 15 = .ok (.if_icmp .ge 40, 3) := by decide +kernel
theorem dX7_bestBoard_18 : decode cX7_bestBoard 18 = .ok (.aload_n 0, 1) := by decide +kernel
theorem dX7_bestBoard_19 : decode cX7_bestBoard 19 = .ok (.iload 4, 2) := by decide +kernel
theorem dX7_bestBoard_21 : decode cX7_bestBoard 21 = .ok (.putfield 103, 3) := by decide +kernel
theorem dX7_bestBoard_24 : decode cX7_bestBoard 24 = .ok (.aload_n 0, 1) := by decide +kernel
theorem dX7_bestBoard_25 : decode cX7_bestBoard 25 = .ok (.invokevirtual 168, 3) := by decide +kernel
theorem dX7_bestBoard_28 : decode cX7_bestBoard 28 = .ok (.istore 5, 2) := by decide +kernel
theorem dX7_bestBoard_30 : decode cX7_bestBoard 30 = .ok (.iload_n 3, 1) := by decide +kernel
theorem dX7_bestBoard_31 : decode cX7_bestBoard 31 = .ok (.ifCond .lt 12, 3) := by decide +kernel
theorem dX7_bestBoard_34 : decode cX7_bestBoard 34 = .ok (.iload 5, 2) := by decide +kernel
theorem dX7_bestBoard_36 : decode cX7_bestBoard 36 = .ok (.iload_n 3, 1) := by decide +kernel
theorem dX7_bestBoard_37 : decode cX7_bestBoard 37 = .ok (.if_icmp .lt 6, 3) := by decide +kernel
theorem dX7_bestBoard_40 : decode cX7_bestBoard 40 = .ok (.goto 9, 3) := by decide +kernel
theorem dX7_bestBoard_43 : decode cX7_bestBoard 43 = .ok (.iload 5, 2) := by decide +kernel
theorem dX7_bestBoard_45 : decode cX7_bestBoard 45 = .ok (.istore_n 3, 1) := by decide +kernel
theorem dX7_bestBoard_46 : decode cX7_bestBoard 46 = .ok (.iload 4, 2) := by decide +kernel
theorem dX7_bestBoard_48 : decode cX7_bestBoard 48 = .ok (.istore_n 2, 1) := by decide +kernel
theorem dX7_bestBoard_49 : decode cX7_bestBoard 49 = .ok (.iinc 4 1, 3) := by decide +kernel
theorem dX7_bestBoard_52 : decode cX7_bestBoard 52 = .ok (.goto (-40), 3) := by decide +kernel
theorem dX7_bestBoard_55 : decode cX7_bestBoard 55 = .ok (.aload_n 0, 1) := by decide +kernel
theorem dX7_bestBoard_56 : decode cX7_bestBoard 56 = .ok (.iload_n 1, 1) := by decide +kernel
theorem dX7_bestBoard_57 : decode cX7_bestBoard 57 = .ok (.putfield 103, 3) := by decide +kernel
theorem dX7_bestBoard_60 : decode cX7_bestBoard 60 = .ok (.iload_n 2, 1) := by decide +kernel
theorem dX7_bestBoard_61 : decode cX7_bestBoard 61 = .ok (.ireturn, 1) := by decide +kernel
theorem dX7_mover_0 : decode cX7_mover 0 = .ok (.aload_n 0, 1) := by decide +kernel
theorem dX7_mover_1 : decode cX7_mover 1 = .ok (.invokevirtual 168, 3) := by decide +kernel
theorem dX7_mover_4 : decode cX7_mover 4 = .ok (.istore_n 3, 1) := by decide +kernel
theorem dX7_mover_5 : decode cX7_mover 5 = .ok (.bipush (-9), 2) := by decide +kernel
theorem dX7_mover_7 : decode cX7_mover 7 = .ok (.istore 4, 2) := by decide +kernel
theorem dX7_mover_9 : decode cX7_mover 9 = .ok (.aload_n 0, 1) := by decide +kernel
theorem dX7_mover_10 : decode cX7_mover 10 = .ok (.aload_n 0, 1) := by decide +kernel
theorem dX7_mover_11 : decode cX7_mover 11 = .ok (.getfield 43, 3) := by decide +kernel
theorem dX7_mover_14 : decode cX7_mover 14 = .ok (.invokevirtual 116, 3) := by decide +kernel
theorem dX7_mover_17 : decode cX7_mover 17 = .ok (.iconst 0, 1) := by decide +kernel
theorem dX7_mover_18 : decode cX7_mover 18 = .ok (.istore 5, 2) := by decide +kernel
theorem dX7_mover_20 : decode cX7_mover 20 = .ok (.iload 5, 2) := by decide +kernel
theorem dX7_mover_22 : decode cX7_mover 22 = .ok (.aload_n 0, 1) := by decide +kernel
theorem dX7_mover_23 : decode cX7_mover 23 = .ok (.getfield 59, 3) := by decide +kernel
theorem dX7_mover_26 : decode cX7_mover 26 = .ok (.if_icmp .ge 60, 3) := by decide +kernel
theorem dX7_mover_29 : decode cX7_mover 29 = .ok (.iload_n 1, 1) := by decide +kernel
theorem dX7_mover_30 : decode cX7_mover 30 = .ok (.ifCond .eq 13, 3) := by decide +kernel
theorem dX7_mover_33 : decode cX7_mover 33 = .ok (.aload_n 0, 1) := by decide +kernel
theorem dX7_mover_34 : decode cX7_mover 34 = .ok (.iload 5, 2) := by decide +kernel
theorem dX7_mover_36 : decode cX7_mover 36 = .ok (.invokevirtual 106, 3) := by decide +kernel
theorem dX7_mover_39 : decode cX7_mover 39 = .ok (.pop, 1) := by decide +kernel
theorem dX7_mover_40 : decode cX7_mover 40 = .ok (.goto 10, 3) := by decide +kernel
theorem dX7_mover_43 : decode cX7_mover 43 = .ok (.aload_n 0, 1) := by decide +kernel
theorem dX7_mover_44 : decode cX7_mover 44 = .ok (.iload 5, 2) := by decide +kernel
theorem dX7_mover_46 : decode cX7_mover 46 = .ok (.invokevirtual 109, 3) := by decide +kernel
theorem dX7_mover_49 : decode cX7_mover 49 = .ok (.pop, 1) := by decide +kernel
theorem dX7_mover_50 : decode cX7_mover 50 = .ok (.aload_n 0, 1) := by decide +kernel
theorem dX7_mover_51 : decode cX7_mover 51 = .ok (.invokevirtual 168, 3) := by decide +kernel
theorem dX7_mover_54 : decode cX7_mover 54 = .ok (.istore 6, 2) := by decide +kernel
theorem dX7_mover_56 : decode cX7_mover 56 = .ok (.aload_n 0, 1) := by decide +kernel
theorem dX7_mover_57 : decode cX7_mover 57 = .ok (.aload_n 0, 1) := by decide +kernel
theorem dX7_mover_58 : decode cX7_mover 58 = .ok (.getfield 43, 3) := by decide +kernel
theorem dX7_mover_61 : decode cX7_mover 61 = .ok (.invokevirtual 120, 3) := by decide +kernel
theorem dX7_mover_64 : decode cX7_mover 64 = .ok (.iload 6, 2) := by decide +kernel
theorem dX7_mover_66 : decode cX7_mover 66 = .ok (.iload_n 3, 1) := by decide +kernel
theorem dX7_mover_67 : decode cX7_mover 67 = .ok (.if_icmp .lt 6, 3) := by decide +kernel
theorem dX7_mover_70 : decode cX7_mover 70 = .ok (.goto 10, 3) := by decide +kernel
theorem dX7_mover_73 : decode cX7_mover 73 = .ok (.iload 6, 2) := by decide +kernel
theorem dX7_mover_75 : decode cX7_mover 75 = .ok (.istore_n 3, 1) := by decide +kernel
theorem dX7_mover_76 : decode cX7_mover 76 = .ok (.iload 5, 2) := by decide +kernel
theorem dX7_mover_78 : decode cX7_mover 78 = .ok (.istore 4, 2) := by decide +kernel
theorem dX7_mover_80 : decode cX7_mover 80 = .ok (.iinc 5 1, 3) := by decide +kernel
theorem dX7_mover_83 : decode cX7_mover 83 = .ok (.goto (-63), 3) := by decide +kernel
theorem dX7_mover_86 : decode cX7_mover 86 = .ok (.iload 4, 2) := by decide +kernel
theorem dX7_mover_88 : decode cX7_mover 88 = .ok (.bipush (-9), 2) := by decide +kernel
theorem dX7_mover_90 : decode cX7_mover 90 = .ok (.if_icmp .eq 7, 3) := by decide +kernel
theorem dX7_mover_93 : decode cX7_mover 93 = .ok (.iload_n 2, 1) := by decide +kernel
theorem dX7_mover_94 : decode cX7_mover 94 = .ok (.ifCond .ne 8, 3) := by decide +kernel
theorem dX7_mover_97 : decode cX7_mover 97 = .ok (.iload 4, 2) := by decide +kernel
theorem dX7_mover_99 : decode cX7_mover 99 = .ok (.goto 4, 3) := by decide +kernel
theorem dX7_mover_102 : decode cX7_mover 102 = .ok (.iload_n 3, 1) := by decide +kernel
theorem dX7_mover_103 : decode cX7_mover 103 = .ok (.ireturn, 1) := by decide +kernel
theorem dX7_over_0 : decode cX7_over 0 = .ok (.iload_n 1, 1) := by decide +kernel
theorem dX7_over_1 : decode cX7_over 1 = .ok (.iconst 0, 1) := by decide +kernel
theorem dX7_over_2 : decode cX7_over 2 = .ok (.iconst 1, 1) := by decide +kernel
theorem dX7_over_3 : decode cX7_over 3 = .ok (.invokestatic 62, 3) := by decide +kernel
theorem dX7_over_6 : decode cX7_over 6 = .ok (.ifCond .eq 12, 3) := by decide +kernel
theorem dX7_over_9 : decode cX7_over 9 = .ok (.aload_n 0, 1) := by decide +kernel
theorem dX7_over_10 : decode cX7_over 10 = .ok (.iconst 1, 1) := by decide +kernel
theorem dX7_over_11 : decode cX7_over 11 = .ok (.iload_n 1, 1) := by decide +kernel
theorem dX7_over_12 : decode cX7_over 12 = .ok (.invokevirtual 171, 3) := by decide +kernel
theorem dX7_over_15 : decode cX7_over 15 = .ok (.goto 9, 3) := by decide +kernel
theorem dX7_over_18 : decode cX7_over 18 = .ok (.aload_n 0, 1) := by decide +kernel
theorem dX7_over_19 : decode cX7_over 19 = .ok (.bipush (-2), 2) := by decide +kernel
theorem dX7_over_21 : decode cX7_over 21 = .ok (.invokevirtual 66, 3) := by decide +kernel
theorem dX7_over_24 : decode cX7_over 24 = .ok (.ireturn, 1) := by decide +kernel
theorem dX7_first_0 : decode cX7_first 0 = .ok (.iload_n 1, 1) := by decide +kernel
theorem dX7_first_1 : decode cX7_first 1 = .ok (.iconst 0, 1) := by decide +kernel
theorem dX7_first_2 : decode cX7_first 2 = .ok (.iconst 1, 1) := by decide +kernel
theorem dX7_first_3 : decode cX7_first 3 = .ok (.invokestatic 62, 3) := by decide +kernel
theorem dX7_first_6 : decode cX7_first 6 = .ok (.ifCond .eq 12, 3) := by decide +kernel
theorem dX7_first_9 : decode cX7_first 9 = .ok (.aload_n 0, 1) := by decide +kernel
theorem dX7_first_10 : decode cX7_first 10 = .ok (.iconst 0, 1) := by decide +kernel
theorem dX7_first_11 : decode cX7_first 11 = .ok (.iload_n 1, 1) := by decide +kernel
theorem dX7_first_12 : decode cX7_first 12 = .ok (.invokevirtual 171, 3) := by decide +kernel
theorem dX7_first_15 : decode cX7_first 15 = .ok (.goto 9, 3) := by decide +kernel
theorem dX7_first_18 : decode cX7_first 18 = .ok (.aload_n 0, 1) := by decide +kernel
theorem dX7_first_19 : decode cX7_first 19 = .ok (.bipush (-2), 2) := by decide +kernel
theorem dX7_first_21 : decode cX7_first 21 = .ok (.invokevirtual 66, 3) := by decide +kernel
theorem dX7_first_24 : decode cX7_first 24 = .ok (.ireturn, 1) := by decide +kernel
theorem dX7_lets_0 : decode cX7_lets 0 = .ok (.aload_n 0, 1) := by decide +kernel
theorem dX7_lets_1 : decode cX7_lets 1 = .ok (.invokevirtual 168, 3) := by decide +kernel
theorem dX7_lets_4 : decode cX7_lets 4 = .ok (.istore_n 1, 1) := by decide +kernel
theorem dX7_lets_5 : decode cX7_lets 5 = .ok (.bipush (-9), 2) := by decide +kernel
theorem dX7_lets_7 : decode cX7_lets 7 = .ok (.istore_n 2, 1) := by decide +kernel
theorem dX7_lets_8 : decode cX7_lets 8 = .ok (.iconst 0, 1) := by decide +kernel
theorem dX7_lets_9 : decode cX7_lets 9 = .ok (.istore_n 3, 1) := by decide +kernel
theorem dX7_lets_10 : decode cX7_lets 10 = .ok (.iload_n 3, 1) := by decide +kernel
theorem dX7_lets_11 : decode cX7_lets 11 = .ok (.aload_n 0, 1) := by decide +kernel
theorem dX7_lets_12 : decode cX7_lets 12 = .ok (.getfield 59, 3) := by decide +kernel
theorem dX7_lets_15 : decode cX7_lets 15 = .ok (.if_icmp .ge 84, 3) := by decide +kernel
theorem dX7_lets_18 : decode cX7_lets 18 = .ok (.aload_n 0, 1) := by decide +kernel
theorem dX7_lets_19 : decode cX7_lets 19 = .ok (.getfield 7, 3) := by decide +kernel
theorem dX7_lets_22 : decode cX7_lets 22 = .ok (.iload_n 3, 1) := by decide +kernel
theorem dX7_lets_23 : decode cX7_lets 23 = .ok (.iaload, 1) := by decide +kernel
theorem dX7_lets_24 : decode cX7_lets 24 = .ok (.istore 4, 2) := by decide +kernel
theorem dX7_lets_26 : decode cX7_lets 26 = .ok (.aload_n 0, 1) := by decide +kernel
theorem dX7_lets_27 : decode cX7_lets 27 = .ok (.getfield 13, 3) := by decide +kernel
theorem dX7_lets_30 : decode cX7_lets 30 = .ok (.iload_n 3, 1) := by decide +kernel
theorem dX7_lets_31 : decode cX7_lets 31 = .ok (.iaload, 1) := by decide +kernel
theorem dX7_lets_32 : decode cX7_lets 32 = .ok (.istore 5, 2) := by decide +kernel
theorem dX7_lets_34 : decode cX7_lets 34 = .ok (.iconst 0, 1) := by decide +kernel
theorem dX7_lets_35 : decode cX7_lets 35 = .ok (.istore 6, 2) := by decide +kernel
theorem dX7_lets_37 : decode cX7_lets 37 = .ok (.iload 6, 2) := by decide +kernel
theorem dX7_lets_39 : decode cX7_lets 39 = .ok (.bipush 10, 2) := by decide +kernel
theorem dX7_lets_41 : decode cX7_lets 41 = .ok (.if_icmp .ge 43, 3) := by decide +kernel
theorem dX7_lets_44 : decode cX7_lets 44 = .ok (.aload_n 0, 1) := by decide +kernel
theorem dX7_lets_45 : decode cX7_lets 45 = .ok (.iload_n 3, 1) := by decide +kernel
theorem dX7_lets_46 : decode cX7_lets 46 = .ok (.iconst 1, 1) := by decide +kernel
theorem dX7_lets_47 : decode cX7_lets 47 = .ok (.iload 6, 2) := by decide +kernel
theorem dX7_lets_49 : decode cX7_lets 49 = .ok (.invokevirtual 99, 3) := by decide +kernel
theorem dX7_lets_52 : decode cX7_lets 52 = .ok (.aload_n 0, 1) := by decide +kernel
theorem dX7_lets_53 : decode cX7_lets 53 = .ok (.invokevirtual 168, 3) := by decide +kernel
theorem dX7_lets_56 : decode cX7_lets 56 = .ok (.istore 7, 2) := by decide +kernel
theorem dX7_lets_58 : decode cX7_lets 58 = .ok (.iload 7, 2) := by decide +kernel
theorem dX7_lets_60 : decode cX7_lets 60 = .ok (.iload_n 1, 1) := by decide +kernel
theorem dX7_lets_61 : decode cX7_lets 61 = .ok (.if_icmp .lt 6, 3) := by decide +kernel
theorem dX7_lets_64 : decode cX7_lets 64 = .ok (.goto 14, 3) := by decide +kernel
theorem dX7_lets_67 : decode cX7_lets 67 = .ok (.iload 7, 2) := by decide +kernel
theorem dX7_lets_69 : decode cX7_lets 69 = .ok (.istore_n 1, 1) := by decide +kernel
theorem dX7_lets_70 : decode cX7_lets 70 = .ok (.bipush 10, 2) := by decide +kernel
theorem dX7_lets_72 : decode cX7_lets 72 = .ok (.iload_n 3, 1) := by decide +kernel
theorem dX7_lets_73 : decode cX7_lets 73 = .ok (.imul, 1) := by decide +kernel
theorem dX7_lets_74 : decode cX7_lets 74 = .ok (.iload 6, 2) := by decide +kernel
theorem dX7_lets_76 : decode cX7_lets 76 = .ok (.iadd, 1) := by decide +kernel
theorem dX7_lets_77 : decode cX7_lets 77 = .ok (.istore_n 2, 1) := by decide +kernel
theorem dX7_lets_78 : decode cX7_lets 78 = .ok (.iinc 6 1, 3) := by decide +kernel
theorem dX7_lets_81 : decode cX7_lets 81 = .ok (.goto (-44), 3) := by decide +kernel
theorem dX7_lets_84 : decode cX7_lets 84 = .ok (.aload_n 0, 1) := by decide +kernel
theorem dX7_lets_85 : decode cX7_lets 85 = .ok (.iload_n 3, 1) := by decide +kernel
theorem dX7_lets_86 : decode cX7_lets 86 = .ok (.iload 4, 2) := by decide +kernel
theorem dX7_lets_88 : decode cX7_lets 88 = .ok (.iload 5, 2) := by decide +kernel
theorem dX7_lets_90 : decode cX7_lets 90 = .ok (.invokevirtual 99, 3) := by decide +kernel
theorem dX7_lets_93 : decode cX7_lets 93 = .ok (.iinc 3 1, 3) := by decide +kernel
theorem dX7_lets_96 : decode cX7_lets 96 = .ok (.goto (-86), 3) := by decide +kernel
theorem dX7_lets_99 : decode cX7_lets 99 = .ok (.iload_n 2, 1) := by decide +kernel
theorem dX7_lets_100 : decode cX7_lets 100 = .ok (.ireturn, 1) := by decide +kernel
theorem dX7_fewest_0 : decode cX7_fewest 0 = .ok (.iload_n 1, 1) := by decide +kernel
theorem dX7_fewest_1 : decode cX7_fewest 1 = .ok (.iconst 2, 1) := by decide +kernel
theorem dX7_fewest_2 : decode cX7_fewest 2 = .ok (.if_icmp .ne 10, 3) := by decide +kernel
theorem dX7_fewest_5 : decode cX7_fewest 5 = .ok (.aload_n 0, 1) := by decide +kernel
theorem dX7_fewest_6 : decode cX7_fewest 6 = .ok (.invokevirtual 164, 3) := by decide +kernel
theorem dX7_fewest_9 : decode cX7_fewest 9 = .ok (.goto 7, 3) := by decide +kernel
theorem dX7_fewest_12 : decode cX7_fewest 12 = .ok (.aload_n 0, 1) := by decide +kernel
theorem dX7_fewest_13 : decode cX7_fewest 13 = .ok (.invokevirtual 168, 3) := by decide +kernel
theorem dX7_fewest_16 : decode cX7_fewest 16 = .ok (.istore_n 3, 1) := by decide +kernel
theorem dX7_fewest_17 : decode cX7_fewest 17 = .ok (.bipush (-9), 2) := by decide +kernel
theorem dX7_fewest_19 : decode cX7_fewest 19 = .ok (.istore 4, 2) := by decide +kernel
theorem dX7_fewest_21 : decode cX7_fewest 21 = .ok (.aload_n 0, 1) := by decide +kernel
theorem dX7_fewest_22 : decode cX7_fewest 22 = .ok (.aload_n 0, 1) := by decide +kernel
theorem dX7_fewest_23 : decode cX7_fewest 23 = .ok (.getfield 43, 3) := by decide +kernel
theorem dX7_fewest_26 : decode cX7_fewest 26 = .ok (.invokevirtual 116, 3) := by decide +kernel
theorem dX7_fewest_29 : decode cX7_fewest 29 = .ok (.iconst 0, 1) := by decide +kernel
theorem dX7_fewest_30 : decode cX7_fewest 30 = .ok (.istore 5, 2) := by decide +kernel
theorem dX7_fewest_32 : decode cX7_fewest 32 = .ok (.iload 5, 2) := by decide +kernel
theorem dX7_fewest_34 : decode cX7_fewest 34 = .ok (.iconst 1, 1) := by decide +kernel
theorem dX7_fewest_35 : decode cX7_fewest 35 = .ok (.aload_n 0, 1) := by decide +kernel
theorem dX7_fewest_36 : decode cX7_fewest 36 = .ok (.getfield 59, 3) := by decide +kernel
theorem dX7_fewest_39 : decode cX7_fewest 39 = .ok (.ishl, 1) := by decide +kernel
theorem dX7_fewest_40 : decode cX7_fewest 40 = .ok (.if_icmp .ge 122, 3) := by decide +kernel
theorem dX7_fewest_43 : decode cX7_fewest 43 = .ok (.iload 4, 2) := by decide +kernel
theorem dX7_fewest_45 : decode cX7_fewest 45 = .ok (.bipush (-9), 2) := by decide +kernel
theorem dX7_fewest_47 : decode cX7_fewest 47 = .ok (.if_icmp .eq 19, 3) := by decide +kernel
theorem dX7_fewest_50 : decode cX7_fewest 50 = .ok (.iload 5, 2) := by decide +kernel
theorem dX7_fewest_52 : decode cX7_fewest 52 = .ok (.invokestatic 175, 3) := by decide +kernel
theorem dX7_fewest_55 : decode cX7_fewest 55 = .ok (.iload 4, 2) := by decide +kernel
theorem dX7_fewest_57 : decode cX7_fewest 57 = .ok (.invokestatic 175, 3) := by decide +kernel
theorem dX7_fewest_60 : decode cX7_fewest 60 = .ok (.if_icmp .lt 6, 3) := by decide +kernel
theorem dX7_fewest_63 : decode cX7_fewest 63 = .ok (.goto 93, 3) := by decide +kernel
theorem dX7_fewest_66 : decode cX7_fewest 66 = .ok (.iconst 0, 1) := by decide +kernel
theorem dX7_fewest_67 : decode cX7_fewest 67 = .ok (.istore 6, 2) := by decide +kernel
theorem dX7_fewest_69 : decode cX7_fewest 69 = .ok (.iload 6, 2) := by decide +kernel
theorem dX7_fewest_71 : decode cX7_fewest 71 = .ok (.aload_n 0, 1) := by decide +kernel
theorem dX7_fewest_72 : decode cX7_fewest 72 = .ok (.getfield 59, 3) := by decide +kernel
theorem dX7_fewest_75 : decode cX7_fewest 75 = .ok (.if_icmp .ge 28, 3) := by decide +kernel
theorem dX7_fewest_78 : decode cX7_fewest 78 = .ok (.iload 5, 2) := by decide +kernel
theorem dX7_fewest_80 : decode cX7_fewest 80 = .ok (.iload 6, 2) := by decide +kernel
theorem dX7_fewest_82 : decode cX7_fewest 82 = .ok (.ishr, 1) := by decide +kernel
theorem dX7_fewest_83 : decode cX7_fewest 83 = .ok (.iconst 1, 1) := by decide +kernel
theorem dX7_fewest_84 : decode cX7_fewest 84 = .ok (.iand, 1) := by decide +kernel
theorem dX7_fewest_85 : decode cX7_fewest 85 = .ok (.iconst 1, 1) := by decide +kernel
theorem dX7_fewest_86 : decode cX7_fewest 86 = .ok (.if_icmp .ne 11, 3) := by decide +kernel
theorem dX7_fewest_89 : decode cX7_fewest 89 = .ok (.aload_n 0, 1) := by decide +kernel
theorem dX7_fewest_90 : decode cX7_fewest 90 = .ok (.getfield 7, 3) := by decide +kernel
theorem dX7_fewest_93 : decode cX7_fewest 93 = .ok (.iload 6, 2) := by decide +kernel
theorem dX7_fewest_95 : decode cX7_fewest 95 = .ok (.iload_n 1, 1) := by decide +kernel
theorem dX7_fewest_96 : decode cX7_fewest 96 = .ok (.iastore, 1) := by decide +kernel
theorem dX7_fewest_97 : decode cX7_fewest 97 = .ok (.iinc 6 1, 3) := by decide +kernel
theorem dX7_fewest_100 : decode cX7_fewest 100 = .ok (.goto (-31), 3) := by decide +kernel
theorem dX7_fewest_103 : decode cX7_fewest 103 = .ok (.iload_n 1, 1) := by decide +kernel
theorem dX7_fewest_104 : decode cX7_fewest 104 = .ok (.iconst 2, 1) := by decide +kernel
theorem dX7_fewest_105 : decode cX7_fewest 105 = .ok (.if_icmp .ne 19, 3) := by decide +kernel
theorem dX7_fewest_108 : decode cX7_fewest 108 = .ok (.aload_n 0, 1) := by decide +kernel
theorem dX7_fewest_109 : decode cX7_fewest 109 = .ok (.invokevirtual 164, 3) := by decide +kernel
theorem dX7_fewest_112 : decode cX7_fewest 112 = .ok (.iload_n 3, 1) := by decide +kernel
theorem dX7_fewest_113 : decode cX7_fewest 113 = .ok (.if_icmp .le 7, 3) := by decide +kernel
theorem dX7_fewest_116 : decode cX7_fewest 116 = .ok (.iconst 1, 1) := by decide +kernel
theorem dX7_fewest_117 : decode cX7_fewest 117 = .ok (.goto 20, 3) := by decide +kernel
theorem dX7_fewest_120 : decode cX7_fewest 120 = .ok (.iconst 0, 1) := by decide +kernel
theorem dX7_fewest_121 : decode cX7_fewest 121 = .ok (.goto 16, 3) := by decide +kernel
theorem dX7_fewest_124 : decode cX7_fewest 124 = .ok (.aload_n 0, 1) := by decide +kernel
theorem dX7_fewest_125 : decode cX7_fewest 125 = .ok (.invokevirtual 168, 3) := by decide +kernel
theorem dX7_fewest_128 : decode cX7_fewest 128 = .ok (.iload_n 3, 1) := by decide +kernel
theorem dX7_fewest_129 : decode cX7_fewest 129 = .ok (.if_icmp .ge 7, 3) := by decide +kernel
theorem dX7_fewest_132 : decode cX7_fewest 132 = .ok (.iconst 1, 1) := by decide +kernel
theorem dX7_fewest_133 : decode cX7_fewest 133 = .ok (.goto 4, 3) := by decide +kernel
theorem dX7_fewest_136 : decode cX7_fewest 136 = .ok (.iconst 0, 1) := by decide +kernel
theorem dX7_fewest_137 : decode cX7_fewest 137 = .ok (.istore 6, 2) := by decide +kernel
theorem dX7_fewest_139 : decode cX7_fewest 139 = .ok (.aload_n 0, 1) := by decide +kernel
theorem dX7_fewest_140 : decode cX7_fewest 140 = .ok (.aload_n 0, 1) := by decide +kernel
theorem dX7_fewest_141 : decode cX7_fewest 141 = .ok (.getfield 43, 3) := by decide +kernel
theorem dX7_fewest_144 : decode cX7_fewest 144 = .ok (.invokevirtual 120, 3) := by decide +kernel
theorem dX7_fewest_147 : decode cX7_fewest 147 = .ok (.iload 6, 2) := by decide +kernel
theorem dX7_fewest_149 : decode cX7_fewest 149 = .ok (.ifCond .eq 7, 3) := by decide +kernel
theorem dX7_fewest_152 : decode cX7_fewest 152 = .ok (.iload 5, 2) := by decide +kernel
theorem dX7_fewest_154 : decode cX7_fewest 154 = .ok (.istore 4, 2) := by decide +kernel
theorem dX7_fewest_156 : decode cX7_fewest 156 = .ok (.iinc 5 1, 3) := by decide +kernel
theorem dX7_fewest_159 : decode cX7_fewest 159 = .ok (.goto (-127), 3) := by decide +kernel
theorem dX7_fewest_162 : decode cX7_fewest 162 = .ok (.iload 4, 2) := by decide +kernel
theorem dX7_fewest_164 : decode cX7_fewest 164 = .ok (.bipush (-9), 2) := by decide +kernel
theorem dX7_fewest_166 : decode cX7_fewest 166 = .ok (.if_icmp .eq 7, 3) := by decide +kernel
theorem dX7_fewest_169 : decode cX7_fewest 169 = .ok (.iload_n 2, 1) := by decide +kernel
theorem dX7_fewest_170 : decode cX7_fewest 170 = .ok (.ifCond .ne 8, 3) := by decide +kernel
theorem dX7_fewest_173 : decode cX7_fewest 173 = .ok (.iload 4, 2) := by decide +kernel
theorem dX7_fewest_175 : decode cX7_fewest 175 = .ok (.goto 8, 3) := by decide +kernel
theorem dX7_fewest_178 : decode cX7_fewest 178 = .ok (.iload 4, 2) := by decide +kernel
theorem dX7_fewest_180 : decode cX7_fewest 180 = .ok (.invokestatic 175, 3) := by decide +kernel
theorem dX7_fewest_183 : decode cX7_fewest 183 = .ok (.ireturn, 1) := by decide +kernel
theorem dX7_spoil_0 : decode cX7_spoil 0 = .ok (.iload_n 1, 1) := by decide +kernel
theorem dX7_spoil_1 : decode cX7_spoil 1 = .ok (.iconst 0, 1) := by decide +kernel
theorem dX7_spoil_2 : decode cX7_spoil 2 = .ok (.iconst 1, 1) := by decide +kernel
theorem dX7_spoil_3 : decode cX7_spoil 3 = .ok (.invokestatic 62, 3) := by decide +kernel
theorem dX7_spoil_6 : decode cX7_spoil 6 = .ok (.ifCond .eq 12, 3) := by decide +kernel
theorem dX7_spoil_9 : decode cX7_spoil 9 = .ok (.aload_n 0, 1) := by decide +kernel
theorem dX7_spoil_10 : decode cX7_spoil 10 = .ok (.iconst 2, 1) := by decide +kernel
theorem dX7_spoil_11 : decode cX7_spoil 11 = .ok (.iload_n 1, 1) := by decide +kernel
theorem dX7_spoil_12 : decode cX7_spoil 12 = .ok (.invokevirtual 180, 3) := by decide +kernel
theorem dX7_spoil_15 : decode cX7_spoil 15 = .ok (.goto 9, 3) := by decide +kernel
theorem dX7_spoil_18 : decode cX7_spoil 18 = .ok (.aload_n 0, 1) := by decide +kernel
theorem dX7_spoil_19 : decode cX7_spoil 19 = .ok (.bipush (-2), 2) := by decide +kernel
theorem dX7_spoil_21 : decode cX7_spoil 21 = .ok (.invokevirtual 66, 3) := by decide +kernel
theorem dX7_spoil_24 : decode cX7_spoil 24 = .ok (.ireturn, 1) := by decide +kernel
theorem dX7_mend_0 : decode cX7_mend 0 = .ok (.iload_n 1, 1) := by decide +kernel
theorem dX7_mend_1 : decode cX7_mend 1 = .ok (.iconst 0, 1) := by decide +kernel
theorem dX7_mend_2 : decode cX7_mend 2 = .ok (.iconst 1, 1) := by decide +kernel
theorem dX7_mend_3 : decode cX7_mend 3 = .ok (.invokestatic 62, 3) := by decide +kernel
theorem dX7_mend_6 : decode cX7_mend 6 = .ok (.ifCond .eq 12, 3) := by decide +kernel
theorem dX7_mend_9 : decode cX7_mend 9 = .ok (.aload_n 0, 1) := by decide +kernel
theorem dX7_mend_10 : decode cX7_mend 10 = .ok (.iconst 5, 1) := by decide +kernel
theorem dX7_mend_11 : decode cX7_mend 11 = .ok (.iload_n 1, 1) := by decide +kernel
theorem dX7_mend_12 : decode cX7_mend 12 = .ok (.invokevirtual 180, 3) := by decide +kernel
theorem dX7_mend_15 : decode cX7_mend 15 = .ok (.goto 9, 3) := by decide +kernel
theorem dX7_mend_18 : decode cX7_mend 18 = .ok (.aload_n 0, 1) := by decide +kernel
theorem dX7_mend_19 : decode cX7_mend 19 = .ok (.bipush (-2), 2) := by decide +kernel
theorem dX7_mend_21 : decode cX7_mend 21 = .ok (.invokevirtual 66, 3) := by decide +kernel
theorem dX7_mend_24 : decode cX7_mend 24 = .ok (.ireturn, 1) := by decide +kernel
theorem dX7_losesBy_0 : decode cX7_losesBy 0 = .ok (.aload_n 0, 1) := by decide +kernel
theorem dX7_losesBy_1 : decode cX7_losesBy 1 = .ok (.invokevirtual 161, 3) := by decide +kernel
theorem dX7_losesBy_4 : decode cX7_losesBy 4 = .ok (.aload_n 0, 1) := by decide +kernel
theorem dX7_losesBy_5 : decode cX7_losesBy 5 = .ok (.getfield 49, 3) := by decide +kernel
theorem dX7_losesBy_8 : decode cX7_losesBy 8 = .ok (.iload_n 1, 1) := by decide +kernel
theorem dX7_losesBy_9 : decode cX7_losesBy 9 = .ok (.iaload, 1) := by decide +kernel
theorem dX7_losesBy_10 : decode cX7_losesBy 10 = .ok (.istore_n 3, 1) := by decide +kernel
theorem dX7_losesBy_11 : decode cX7_losesBy 11 = .ok (.aload_n 0, 1) := by decide +kernel
theorem dX7_losesBy_12 : decode cX7_losesBy 12 = .ok (.aload_n 0, 1) := by decide +kernel
theorem dX7_losesBy_13 : decode cX7_losesBy 13 = .ok (.getfield 43, 3) := by decide +kernel
theorem dX7_losesBy_16 : decode cX7_losesBy 16 = .ok (.invokevirtual 116, 3) := by decide +kernel
theorem dX7_losesBy_19 : decode cX7_losesBy 19 = .ok (.aload_n 0, 1) := by decide +kernel
theorem dX7_losesBy_20 : decode cX7_losesBy 20 = .ok (.iload_n 2, 1) := by decide +kernel
theorem dX7_losesBy_21 : decode cX7_losesBy 21 = .ok (.invokevirtual 183, 3) := by decide +kernel
theorem dX7_losesBy_24 : decode cX7_losesBy 24 = .ok (.aload_n 0, 1) := by decide +kernel
theorem dX7_losesBy_25 : decode cX7_losesBy 25 = .ok (.invokevirtual 161, 3) := by decide +kernel
theorem dX7_losesBy_28 : decode cX7_losesBy 28 = .ok (.aload_n 0, 1) := by decide +kernel
theorem dX7_losesBy_29 : decode cX7_losesBy 29 = .ok (.aload_n 0, 1) := by decide +kernel
theorem dX7_losesBy_30 : decode cX7_losesBy 30 = .ok (.getfield 43, 3) := by decide +kernel
theorem dX7_losesBy_33 : decode cX7_losesBy 33 = .ok (.invokevirtual 120, 3) := by decide +kernel
theorem dX7_losesBy_36 : decode cX7_losesBy 36 = .ok (.iload_n 3, 1) := by decide +kernel
theorem dX7_losesBy_37 : decode cX7_losesBy 37 = .ok (.aload_n 0, 1) := by decide +kernel
theorem dX7_losesBy_38 : decode cX7_losesBy 38 = .ok (.getfield 49, 3) := by decide +kernel
theorem dX7_losesBy_41 : decode cX7_losesBy 41 = .ok (.iload_n 1, 1) := by decide +kernel
theorem dX7_losesBy_42 : decode cX7_losesBy 42 = .ok (.iaload, 1) := by decide +kernel
theorem dX7_losesBy_43 : decode cX7_losesBy 43 = .ok (.isub, 1) := by decide +kernel
theorem dX7_losesBy_44 : decode cX7_losesBy 44 = .ok (.ireturn, 1) := by decide +kernel
theorem dX7_loses_0 : decode cX7_loses 0 = .ok (.aload_n 0, 1) := by decide +kernel
theorem dX7_loses_1 : decode cX7_loses 1 = .ok (.iload_n 1, 1) := by decide +kernel
theorem dX7_loses_2 : decode cX7_loses 2 = .ok (.invokevirtual 96, 3) := by decide +kernel
theorem dX7_loses_5 : decode cX7_loses 5 = .ok (.ifCond .eq 25, 3) := by decide +kernel
theorem dX7_loses_8 : decode cX7_loses 8 = .ok (.aload_n 0, 1) := by decide +kernel
theorem dX7_loses_9 : decode cX7_loses 9 = .ok (.iload_n 2, 1) := by decide +kernel
theorem dX7_loses_10 : decode cX7_loses 10 = .ok (.invokevirtual 96, 3) := by decide +kernel
theorem dX7_loses_13 : decode cX7_loses 13 = .ok (.ifCond .eq 17, 3) := by decide +kernel
theorem dX7_loses_16 : decode cX7_loses 16 = .ok (.iload_n 1, 1) := by decide +kernel
theorem dX7_loses_17 : decode cX7_loses 17 = .ok (.iload_n 2, 1) := by decide +kernel
theorem dX7_loses_18 : decode cX7_loses 18 = .ok (.if_icmp .eq 12, 3) := by decide +kernel
theorem dX7_loses_21 : decode cX7_loses 21 = .ok (.aload_n 0, 1) := by decide +kernel
theorem dX7_loses_22 : decode cX7_loses 22 = .ok (.iload_n 1, 1) := by decide +kernel
theorem dX7_loses_23 : decode cX7_loses 23 = .ok (.iload_n 2, 1) := by decide +kernel
theorem dX7_loses_24 : decode cX7_loses 24 = .ok (.invokevirtual 187, 3) := by decide +kernel
theorem dX7_loses_27 : decode cX7_loses 27 = .ok (.goto 11, 3) := by decide +kernel
theorem dX7_loses_30 : decode cX7_loses 30 = .ok (.ldc 190, 2) := by decide +kernel
theorem dX7_loses_32 : decode cX7_loses 32 = .ok (.aload_n 0, 1) := by decide +kernel
theorem dX7_loses_33 : decode cX7_loses 33 = .ok (.iconst (-1), 1) := by decide +kernel
theorem dX7_loses_34 : decode cX7_loses 34 = .ok (.invokevirtual 66, 3) := by decide +kernel
theorem dX7_loses_37 : decode cX7_loses 37 = .ok (.isub, 1) := by decide +kernel
theorem dX7_loses_38 : decode cX7_loses 38 = .ok (.ireturn, 1) := by decide +kernel
theorem dX7_byWhom_0 : decode cX7_byWhom 0 = .ok (.aload_n 0, 1) := by decide +kernel
theorem dX7_byWhom_1 : decode cX7_byWhom 1 = .ok (.iload_n 1, 1) := by decide +kernel
theorem dX7_byWhom_2 : decode cX7_byWhom 2 = .ok (.invokevirtual 96, 3) := by decide +kernel
theorem dX7_byWhom_5 : decode cX7_byWhom 5 = .ok (.ifCond .ne 9, 3) := by decide +kernel
theorem dX7_byWhom_8 : decode cX7_byWhom 8 = .ok (.aload_n 0, 1) := by decide +kernel
theorem dX7_byWhom_9 : decode cX7_byWhom 9 = .ok (.iconst (-1), 1) := by decide +kernel
theorem dX7_byWhom_10 : decode cX7_byWhom 10 = .ok (.invokevirtual 66, 3) := by decide +kernel
theorem dX7_byWhom_13 : decode cX7_byWhom 13 = .ok (.ireturn, 1) := by decide +kernel
theorem dX7_byWhom_14 : decode cX7_byWhom 14 = .ok (.bipush (-9), 2) := by decide +kernel
theorem dX7_byWhom_16 : decode cX7_byWhom 16 = .ok (.istore_n 2, 1) := by decide +kernel
theorem dX7_byWhom_17 : decode cX7_byWhom 17 = .ok (.iconst 0, 1) := by decide +kernel
theorem dX7_byWhom_18 : decode cX7_byWhom 18 = .ok (.istore_n 3, 1) := by decide +kernel
theorem dX7_byWhom_19 : decode cX7_byWhom 19 = .ok (.iload_n 3, 1) := by decide +kernel
theorem dX7_byWhom_20 : decode cX7_byWhom 20 = .ok (.aload_n 0, 1) := by decide +kernel
theorem dX7_byWhom_21 : decode cX7_byWhom 21 = .ok (.getfield 59, 3) := by decide +kernel
theorem dX7_byWhom_24 : decode cX7_byWhom 24 = .ok (.if_icmp .ge 37, 3) := by decide +kernel
theorem dX7_byWhom_27 : decode cX7_byWhom 27 = .ok (.iload_n 3, 1) := by decide +kernel
theorem dX7_byWhom_28 : decode cX7_byWhom 28 = .ok (.iload_n 1, 1) := by decide +kernel
theorem dX7_byWhom_29 : decode cX7_byWhom 29 = .ok (.if_icmp .eq 26, 3) := by decide +kernel
theorem dX7_byWhom_32 : decode cX7_byWhom 32 = .ok (.iload_n 2, 1) := by decide +kernel
theorem dX7_byWhom_33 : decode cX7_byWhom 33 = .ok (.bipush (-9), 2) := by decide +kernel
theorem dX7_byWhom_35 : decode cX7_byWhom 35 = .ok (.if_icmp .eq 18, 3) := by decide +kernel
theorem dX7_byWhom_38 : decode cX7_byWhom 38 = .ok (.aload_n 0, 1) := by decide +kernel
theorem dX7_byWhom_39 : decode cX7_byWhom 39 = .ok (.iload_n 1, 1) := by decide +kernel
theorem dX7_byWhom_40 : decode cX7_byWhom 40 = .ok (.iload_n 3, 1) := by decide +kernel
theorem dX7_byWhom_41 : decode cX7_byWhom 41 = .ok (.invokevirtual 187, 3) := by decide +kernel
theorem dX7_byWhom_44 : decode cX7_byWhom 44 = .ok (.aload_n 0, 1) := by decide +kernel
theorem dX7_byWhom_45 : decode cX7_byWhom 45 = .ok (.iload_n 1, 1) := by decide +kernel
theorem dX7_byWhom_46 : decode cX7_byWhom 46 = .ok (.iload_n 2, 1) := by decide +kernel
theorem dX7_byWhom_47 : decode cX7_byWhom 47 = .ok (.invokevirtual 187, 3) := by decide +kernel
theorem dX7_byWhom_50 : decode cX7_byWhom 50 = .ok (.if_icmp .le 5, 3) := by decide +kernel
theorem dX7_byWhom_53 : decode cX7_byWhom 53 = .ok (.iload_n 3, 1) := by decide +kernel
theorem dX7_byWhom_54 : decode cX7_byWhom 54 = .ok (.istore_n 2, 1) := by decide +kernel
theorem dX7_byWhom_55 : decode cX7_byWhom 55 = .ok (.iinc 3 1, 3) := by decide +kernel
theorem dX7_byWhom_58 : decode cX7_byWhom 58 = .ok (.goto (-39), 3) := by decide +kernel
theorem dX7_byWhom_61 : decode cX7_byWhom 61 = .ok (.iload_n 2, 1) := by decide +kernel
theorem dX7_byWhom_62 : decode cX7_byWhom 62 = .ok (.ireturn, 1) := by decide +kernel
theorem dX7_waits_0 : decode cX7_waits 0 = .ok (.aload_n 0, 1) := by decide +kernel
theorem dX7_waits_1 : decode cX7_waits 1 = .ok (.aload_n 0, 1) := by decide +kernel
theorem dX7_waits_2 : decode cX7_waits 2 = .ok (.getfield 43, 3) := by decide +kernel
theorem dX7_waits_5 : decode cX7_waits 5 = .ok (.invokevirtual 116, 3) := by decide +kernel
theorem dX7_waits_8 : decode cX7_waits 8 = .ok (.aload_n 0, 1) := by decide +kernel
theorem dX7_waits_9 : decode cX7_waits 9 = .ok (.iload_n 1, 1) := by decide +kernel
theorem dX7_waits_10 : decode cX7_waits 10 = .ok (.invokevirtual 183, 3) := by decide +kernel
theorem dX7_waits_13 : decode cX7_waits 13 = .ok (.aload_n 0, 1) := by decide +kernel
theorem dX7_waits_14 : decode cX7_waits 14 = .ok (.iload_n 2, 1) := by decide +kernel
theorem dX7_waits_15 : decode cX7_waits 15 = .ok (.invokevirtual 183, 3) := by decide +kernel
theorem dX7_waits_18 : decode cX7_waits 18 = .ok (.aload_n 0, 1) := by decide +kernel
theorem dX7_waits_19 : decode cX7_waits 19 = .ok (.getfield 22, 3) := by decide +kernel
theorem dX7_waits_22 : decode cX7_waits 22 = .ok (.iload_n 1, 1) := by decide +kernel
theorem dX7_waits_23 : decode cX7_waits 23 = .ok (.aload_n 0, 1) := by decide +kernel
theorem dX7_waits_24 : decode cX7_waits 24 = .ok (.iload_n 3, 1) := by decide +kernel
theorem dX7_waits_25 : decode cX7_waits 25 = .ok (.invokevirtual 93, 3) := by decide +kernel
theorem dX7_waits_28 : decode cX7_waits 28 = .ok (.iastore, 1) := by decide +kernel
theorem dX7_waits_29 : decode cX7_waits 29 = .ok (.aload_n 0, 1) := by decide +kernel
theorem dX7_waits_30 : decode cX7_waits 30 = .ok (.getfield 19, 3) := by decide +kernel
theorem dX7_waits_33 : decode cX7_waits 33 = .ok (.iload_n 1, 1) := by decide +kernel
theorem dX7_waits_34 : decode cX7_waits 34 = .ok (.iload_n 3, 1) := by decide +kernel
theorem dX7_waits_35 : decode cX7_waits 35 = .ok (.iastore, 1) := by decide +kernel
theorem dX7_waits_36 : decode cX7_waits 36 = .ok (.aload_n 0, 1) := by decide +kernel
theorem dX7_waits_37 : decode cX7_waits 37 = .ok (.getfield 22, 3) := by decide +kernel
theorem dX7_waits_40 : decode cX7_waits 40 = .ok (.iload_n 2, 1) := by decide +kernel
theorem dX7_waits_41 : decode cX7_waits 41 = .ok (.aload_n 0, 1) := by decide +kernel
theorem dX7_waits_42 : decode cX7_waits 42 = .ok (.iload 4, 2) := by decide +kernel
theorem dX7_waits_44 : decode cX7_waits 44 = .ok (.invokevirtual 93, 3) := by decide +kernel
theorem dX7_waits_47 : decode cX7_waits 47 = .ok (.iastore, 1) := by decide +kernel
theorem dX7_waits_48 : decode cX7_waits 48 = .ok (.aload_n 0, 1) := by decide +kernel
theorem dX7_waits_49 : decode cX7_waits 49 = .ok (.getfield 19, 3) := by decide +kernel
theorem dX7_waits_52 : decode cX7_waits 52 = .ok (.iload_n 2, 1) := by decide +kernel
theorem dX7_waits_53 : decode cX7_waits 53 = .ok (.iload 4, 2) := by decide +kernel
theorem dX7_waits_55 : decode cX7_waits 55 = .ok (.iastore, 1) := by decide +kernel
theorem dX7_waits_56 : decode cX7_waits 56 = .ok (.aload_n 0, 1) := by decide +kernel
theorem dX7_waits_57 : decode cX7_waits 57 = .ok (.invokevirtual 161, 3) := by decide +kernel
theorem dX7_waits_60 : decode cX7_waits 60 = .ok (.aload_n 0, 1) := by decide +kernel
theorem dX7_waits_61 : decode cX7_waits 61 = .ok (.aload_n 0, 1) := by decide +kernel
theorem dX7_waits_62 : decode cX7_waits 62 = .ok (.getfield 43, 3) := by decide +kernel
theorem dX7_waits_65 : decode cX7_waits 65 = .ok (.invokevirtual 120, 3) := by decide +kernel
theorem dX7_waits_68 : decode cX7_waits 68 = .ok (.iload 5, 2) := by decide +kernel
theorem dX7_waits_70 : decode cX7_waits 70 = .ok (.ifCond .eq 12, 3) := by decide +kernel
theorem dX7_waits_73 : decode cX7_waits 73 = .ok (.aload_n 0, 1) := by decide +kernel
theorem dX7_waits_74 : decode cX7_waits 74 = .ok (.getfield 49, 3) := by decide +kernel
theorem dX7_waits_77 : decode cX7_waits 77 = .ok (.iload_n 1, 1) := by decide +kernel
theorem dX7_waits_78 : decode cX7_waits 78 = .ok (.iaload, 1) := by decide +kernel
theorem dX7_waits_79 : decode cX7_waits 79 = .ok (.goto 9, 3) := by decide +kernel
theorem dX7_waits_82 : decode cX7_waits 82 = .ok (.aload_n 0, 1) := by decide +kernel
theorem dX7_waits_83 : decode cX7_waits 83 = .ok (.getfield 49, 3) := by decide +kernel
theorem dX7_waits_86 : decode cX7_waits 86 = .ok (.iload_n 2, 1) := by decide +kernel
theorem dX7_waits_87 : decode cX7_waits 87 = .ok (.iaload, 1) := by decide +kernel
theorem dX7_waits_88 : decode cX7_waits 88 = .ok (.ireturn, 1) := by decide +kernel
theorem dX7_two__0 : decode cX7_two_ 0 = .ok (.aload_n 0, 1) := by decide +kernel
theorem dX7_two__1 : decode cX7_two_ 1 = .ok (.iload_n 1, 1) := by decide +kernel
theorem dX7_two__2 : decode cX7_two_ 2 = .ok (.invokevirtual 96, 3) := by decide +kernel
theorem dX7_two__5 : decode cX7_two_ 5 = .ok (.ifCond .eq 16, 3) := by decide +kernel
theorem dX7_two__8 : decode cX7_two_ 8 = .ok (.aload_n 0, 1) := by decide +kernel
theorem dX7_two__9 : decode cX7_two_ 9 = .ok (.iload_n 2, 1) := by decide +kernel
theorem dX7_two__10 : decode cX7_two_ 10 = .ok (.invokevirtual 96, 3) := by decide +kernel
theorem dX7_two__13 : decode cX7_two_ 13 = .ok (.ifCond .eq 8, 3) := by decide +kernel
theorem dX7_two__16 : decode cX7_two_ 16 = .ok (.iload_n 1, 1) := by decide +kernel
theorem dX7_two__17 : decode cX7_two_ 17 = .ok (.iload_n 2, 1) := by decide +kernel
theorem dX7_two__18 : decode cX7_two_ 18 = .ok (.if_icmp .ne 9, 3) := by decide +kernel
theorem dX7_two__21 : decode cX7_two_ 21 = .ok (.aload_n 0, 1) := by decide +kernel
theorem dX7_two__22 : decode cX7_two_ 22 = .ok (.iconst (-1), 1) := by decide +kernel
theorem dX7_two__23 : decode cX7_two_ 23 = .ok (.invokevirtual 66, 3) := by decide +kernel
theorem dX7_two__26 : decode cX7_two_ 26 = .ok (.ireturn, 1) := by decide +kernel
theorem dX7_two__27 : decode cX7_two_ 27 = .ok (.iconst 0, 1) := by decide +kernel
theorem dX7_two__28 : decode cX7_two_ 28 = .ok (.istore_n 3, 1) := by decide +kernel
theorem dX7_two__29 : decode cX7_two_ 29 = .ok (.iload_n 3, 1) := by decide +kernel
theorem dX7_two__30 : decode cX7_two_ 30 = .ok (.iconst 2, 1) := by decide +kernel
theorem dX7_two__31 : decode cX7_two_ 31 = .ok (.if_icmp .ge 82, 3) := by decide +kernel
theorem dX7_two__34 : decode cX7_two_ 34 = .ok (.iconst 0, 1) := by decide +kernel
theorem dX7_two__35 : decode cX7_two_ 35 = .ok (.istore 4, 2) := by decide +kernel
theorem dX7_two__37 : decode cX7_two_ 37 = .ok (.iload 4, 2) := by decide +kernel
theorem dX7_two__39 : decode cX7_two_ 39 = .ok (.iconst 2, 1) := by decide +kernel
theorem dX7_two__40 : decode cX7_two_ 40 = .ok (.if_icmp .ge 67, 3) := by decide +kernel
theorem dX7_two__43 : decode cX7_two_ 43 = .ok (.aload_n 0, 1) := by decide +kernel
theorem dX7_two__44 : decode cX7_two_ 44 = .ok (.iload_n 1, 1) := by decide +kernel
theorem dX7_two__45 : decode cX7_two_ 45 = .ok (.iload_n 2, 1) := by decide +kernel
theorem dX7_two__46 : decode cX7_two_ 46 = .ok (.iload_n 3, 1) := by decide +kernel
theorem dX7_two__47 : decode cX7_two_ 47 = .ok (.iload 4, 2) := by decide +kernel
theorem dX7_two__49 : decode cX7_two_ 49 = .ok (.iconst 1, 1) := by decide +kernel
theorem dX7_two__50 : decode cX7_two_ 50 = .ok (.invokevirtual 191, 3) := by decide +kernel
theorem dX7_two__53 : decode cX7_two_ 53 = .ok (.aload_n 0, 1) := by decide +kernel
theorem dX7_two__54 : decode cX7_two_ 54 = .ok (.iload_n 1, 1) := by decide +kernel
theorem dX7_two__55 : decode cX7_two_ 55 = .ok (.iload_n 2, 1) := by decide +kernel
theorem dX7_two__56 : decode cX7_two_ 56 = .ok (.iconst 1, 1) := by decide +kernel
theorem dX7_two__57 : decode cX7_two_ 57 = .ok (.iload_n 3, 1) := by decide +kernel
theorem dX7_two__58 : decode cX7_two_ 58 = .ok (.isub, 1) := by decide +kernel
theorem dX7_two__59 : decode cX7_two_ 59 = .ok (.iload 4, 2) := by decide +kernel
theorem dX7_two__61 : decode cX7_two_ 61 = .ok (.iconst 1, 1) := by decide +kernel
theorem dX7_two__62 : decode cX7_two_ 62 = .ok (.invokevirtual 191, 3) := by decide +kernel
theorem dX7_two__65 : decode cX7_two_ 65 = .ok (.if_icmp .gt 36, 3) := by decide +kernel
theorem dX7_two__68 : decode cX7_two_ 68 = .ok (.aload_n 0, 1) := by decide +kernel
theorem dX7_two__69 : decode cX7_two_ 69 = .ok (.iload_n 1, 1) := by decide +kernel
theorem dX7_two__70 : decode cX7_two_ 70 = .ok (.iload_n 2, 1) := by decide +kernel
theorem dX7_two__71 : decode cX7_two_ 71 = .ok (.iload_n 3, 1) := by decide +kernel
theorem dX7_two__72 : decode cX7_two_ 72 = .ok (.iload 4, 2) := by decide +kernel
theorem dX7_two__74 : decode cX7_two_ 74 = .ok (.iconst 0, 1) := by decide +kernel
theorem dX7_two__75 : decode cX7_two_ 75 = .ok (.invokevirtual 191, 3) := by decide +kernel
theorem dX7_two__78 : decode cX7_two_ 78 = .ok (.aload_n 0, 1) := by decide +kernel
theorem dX7_two__79 : decode cX7_two_ 79 = .ok (.iload_n 1, 1) := by decide +kernel
theorem dX7_two__80 : decode cX7_two_ 80 = .ok (.iload_n 2, 1) := by decide +kernel
theorem dX7_two__81 : decode cX7_two_ 81 = .ok (.iload_n 3, 1) := by decide +kernel
theorem dX7_two__82 : decode cX7_two_ 82 = .ok (.iconst 1, 1) := by decide +kernel
theorem dX7_two__83 : decode cX7_two_ 83 = .ok (.iload 4, 2) := by decide +kernel
theorem dX7_two__85 : decode cX7_two_ 85 = .ok (.isub, 1) := by decide +kernel
theorem dX7_two__86 : decode cX7_two_ 86 = .ok (.iconst 0, 1) := by decide +kernel
theorem dX7_two__87 : decode cX7_two_ 87 = .ok (.invokevirtual 191, 3) := by decide +kernel
theorem dX7_two__90 : decode cX7_two_ 90 = .ok (.if_icmp .gt 11, 3) := by decide +kernel
theorem dX7_two__93 : decode cX7_two_ 93 = .ok (.bipush 10, 2) := by decide +kernel
theorem dX7_two__95 : decode cX7_two_ 95 = .ok (.iload_n 3, 1) := by decide +kernel
theorem dX7_two__96 : decode cX7_two_ 96 = .ok (.imul, 1) := by decide +kernel
theorem dX7_two__97 : decode cX7_two_ 97 = .ok (.iload 4, 2) := by decide +kernel
theorem dX7_two__99 : decode cX7_two_ 99 = .ok (.iadd, 1) := by decide +kernel
theorem dX7_two__100 : decode cX7_two_ 100 = .ok (.ireturn, 1) := by decide +kernel
theorem dX7_two__101 : decode cX7_two_ 101 = .ok (.iinc 4 1, 3) := by decide +kernel
theorem dX7_two__104 : decode cX7_two_ 104 = .ok (.goto (-67), 3) := by decide +kernel
theorem dX7_two__107 : decode cX7_two_ 107 = .ok (.iinc 3 1, 3) := by decide +kernel
theorem dX7_two__110 : decode cX7_two_ 110 = .ok (.goto (-81), 3) := by decide +kernel
theorem dX7_two__113 : decode cX7_two_ 113 = .ok (.bipush (-9), 2) := by decide +kernel
theorem dX7_two__115 : decode cX7_two_ 115 = .ok (.ireturn, 1) := by decide +kernel
theorem dX7_lucks_0 : decode cX7_lucks 0 = .ok (.iconst 0, 1) := by decide +kernel
theorem dX7_lucks_1 : decode cX7_lucks 1 = .ok (.istore_n 2, 1) := by decide +kernel
theorem dX7_lucks_2 : decode cX7_lucks 2 = .ok (.iconst 0, 1) := by decide +kernel
theorem dX7_lucks_3 : decode cX7_lucks 3 = .ok (.istore_n 3, 1) := by decide +kernel
theorem dX7_lucks_4 : decode cX7_lucks 4 = .ok (.iload_n 3, 1) := by decide +kernel
theorem dX7_lucks_5 : decode cX7_lucks 5 = .ok (.iload_n 1, 1) := by decide +kernel
theorem dX7_lucks_6 : decode cX7_lucks 6 = .ok (.if_icmp .ge 27, 3) := by decide +kernel
theorem dX7_lucks_9 : decode cX7_lucks 9 = .ok (.aload_n 0, 1) := by decide +kernel
theorem dX7_lucks_10 : decode cX7_lucks 10 = .ok (.getfield 52, 3) := by decide +kernel
theorem dX7_lucks_13 : decode cX7_lucks 13 = .ok (.iload_n 3, 1) := by decide +kernel
theorem dX7_lucks_14 : decode cX7_lucks 14 = .ok (.iaload, 1) := by decide +kernel
theorem dX7_lucks_15 : decode cX7_lucks 15 = .ok (.aload_n 0, 1) := by decide +kernel
theorem dX7_lucks_16 : decode cX7_lucks 16 = .ok (.getfield 52, 3) := by decide +kernel
theorem dX7_lucks_19 : decode cX7_lucks 19 = .ok (.iload_n 1, 1) := by decide +kernel
theorem dX7_lucks_20 : decode cX7_lucks 20 = .ok (.iaload, 1) := by decide +kernel
theorem dX7_lucks_21 : decode cX7_lucks 21 = .ok (.if_icmp .le 6, 3) := by decide +kernel
theorem dX7_lucks_24 : decode cX7_lucks 24 = .ok (.iinc 2 1, 3) := by decide +kernel
theorem dX7_lucks_27 : decode cX7_lucks 27 = .ok (.iinc 3 1, 3) := by decide +kernel
theorem dX7_lucks_30 : decode cX7_lucks 30 = .ok (.goto (-26), 3) := by decide +kernel
theorem dX7_lucks_33 : decode cX7_lucks 33 = .ok (.iload_n 2, 1) := by decide +kernel
theorem dX7_lucks_34 : decode cX7_lucks 34 = .ok (.ireturn, 1) := by decide +kernel
theorem dX7_fair_0 : decode cX7_fair 0 = .ok (.aload_n 0, 1) := by decide +kernel
theorem dX7_fair_1 : decode cX7_fair 1 = .ok (.invokevirtual 161, 3) := by decide +kernel
theorem dX7_fair_4 : decode cX7_fair 4 = .ok (.iconst 0, 1) := by decide +kernel
theorem dX7_fair_5 : decode cX7_fair 5 = .ok (.istore_n 1, 1) := by decide +kernel
theorem dX7_fair_6 : decode cX7_fair 6 = .ok (.iconst 0, 1) := by decide +kernel
theorem dX7_fair_7 : decode cX7_fair 7 = .ok (.istore_n 2, 1) := by decide +kernel
theorem dX7_fair_8 : decode cX7_fair 8 = .ok (.iload_n 2, 1) := by decide +kernel
theorem dX7_fair_9 : decode cX7_fair 9 = .ok (.aload_n 0, 1) := by decide +kernel
theorem dX7_fair_10 : decode cX7_fair 10 = .ok (.getfield 59, 3) := by decide +kernel
theorem dX7_fair_13 : decode cX7_fair 13 = .ok (.if_icmp .ge 17, 3) := by decide +kernel
theorem dX7_fair_16 : decode cX7_fair 16 = .ok (.iload_n 1, 1) := by decide +kernel
theorem dX7_fair_17 : decode cX7_fair 17 = .ok (.aload_n 0, 1) := by decide +kernel
theorem dX7_fair_18 : decode cX7_fair 18 = .ok (.iload_n 2, 1) := by decide +kernel
theorem dX7_fair_19 : decode cX7_fair 19 = .ok (.invokevirtual 195, 3) := by decide +kernel
theorem dX7_fair_22 : decode cX7_fair 22 = .ok (.iadd, 1) := by decide +kernel
theorem dX7_fair_23 : decode cX7_fair 23 = .ok (.istore_n 1, 1) := by decide +kernel
theorem dX7_fair_24 : decode cX7_fair 24 = .ok (.iinc 2 1, 3) := by decide +kernel
theorem dX7_fair_27 : decode cX7_fair 27 = .ok (.goto (-19), 3) := by decide +kernel
theorem dX7_fair_30 : decode cX7_fair 30 = .ok (.iload_n 1, 1) := by decide +kernel
theorem dX7_fair_31 : decode cX7_fair 31 = .ok (.ireturn, 1) := by decide +kernel
theorem dX7_lucky_0 : decode cX7_lucky 0 = .ok (.aload_n 0, 1) := by decide +kernel
theorem dX7_lucky_1 : decode cX7_lucky 1 = .ok (.invokevirtual 161, 3) := by decide +kernel
theorem dX7_lucky_4 : decode cX7_lucky 4 = .ok (.bipush (-9), 2) := by decide +kernel
theorem dX7_lucky_6 : decode cX7_lucky 6 = .ok (.istore_n 1, 1) := by decide +kernel
theorem dX7_lucky_7 : decode cX7_lucky 7 = .ok (.iconst 0, 1) := by decide +kernel
theorem dX7_lucky_8 : decode cX7_lucky 8 = .ok (.istore_n 2, 1) := by decide +kernel
theorem dX7_lucky_9 : decode cX7_lucky 9 = .ok (.iload_n 2, 1) := by decide +kernel
theorem dX7_lucky_10 : decode cX7_lucky 10 = .ok (.aload_n 0, 1) := by decide +kernel
theorem dX7_lucky_11 : decode cX7_lucky 11 = .ok (.getfield 59, 3) := by decide +kernel
theorem dX7_lucky_14 : decode cX7_lucky 14 = .ok (.if_icmp .ge 34, 3) := by decide +kernel
theorem dX7_lucky_17 : decode cX7_lucky 17 = .ok (.aload_n 0, 1) := by decide +kernel
theorem dX7_lucky_18 : decode cX7_lucky 18 = .ok (.iload_n 2, 1) := by decide +kernel
theorem dX7_lucky_19 : decode cX7_lucky 19 = .ok (.invokevirtual 195, 3) := by decide +kernel
theorem dX7_lucky_22 : decode cX7_lucky 22 = .ok (.iload_n 1, 1) := by decide +kernel
theorem dX7_lucky_23 : decode cX7_lucky 23 = .ok (.bipush (-9), 2) := by decide +kernel
theorem dX7_lucky_25 : decode cX7_lucky 25 = .ok (.if_icmp .ne 7, 3) := by decide +kernel
theorem dX7_lucky_28 : decode cX7_lucky 28 = .ok (.iconst 0, 1) := by decide +kernel
theorem dX7_lucky_29 : decode cX7_lucky 29 = .ok (.goto 8, 3) := by decide +kernel
theorem dX7_lucky_32 : decode cX7_lucky 32 = .ok (.aload_n 0, 1) := by decide +kernel
theorem dX7_lucky_33 : decode cX7_lucky 33 = .ok (.iload_n 1, 1) := by decide +kernel
theorem dX7_lucky_34 : decode cX7_lucky 34 = .ok (.invokevirtual 195, 3) := by decide +kernel
theorem dX7_lucky_37 : decode cX7_lucky 37 = .ok (.if_icmp .le 5, 3) := by decide +kernel
theorem dX7_lucky_40 : decode cX7_lucky 40 = .ok (.iload_n 2, 1) := by decide +kernel
theorem dX7_lucky_41 : decode cX7_lucky 41 = .ok (.istore_n 1, 1) := by decide +kernel
theorem dX7_lucky_42 : decode cX7_lucky 42 = .ok (.iinc 2 1, 3) := by decide +kernel
theorem dX7_lucky_45 : decode cX7_lucky 45 = .ok (.goto (-36), 3) := by decide +kernel
theorem dX7_lucky_48 : decode cX7_lucky 48 = .ok (.iload_n 1, 1) := by decide +kernel
theorem dX7_lucky_49 : decode cX7_lucky 49 = .ok (.ireturn, 1) := by decide +kernel
theorem dX7_away_0 : decode cX7_away 0 = .ok (.bipush (-9), 2) := by decide +kernel
theorem dX7_away_2 : decode cX7_away 2 = .ok (.istore_n 1, 1) := by decide +kernel
theorem dX7_away_3 : decode cX7_away 3 = .ok (.iconst 0, 1) := by decide +kernel
theorem dX7_away_4 : decode cX7_away 4 = .ok (.istore_n 2, 1) := by decide +kernel
theorem dX7_away_5 : decode cX7_away 5 = .ok (.aload_n 0, 1) := by decide +kernel
theorem dX7_away_6 : decode cX7_away 6 = .ok (.aload_n 0, 1) := by decide +kernel
theorem dX7_away_7 : decode cX7_away 7 = .ok (.getfield 43, 3) := by decide +kernel
theorem dX7_away_10 : decode cX7_away 10 = .ok (.invokevirtual 116, 3) := by decide +kernel
theorem dX7_away_13 : decode cX7_away 13 = .ok (.iconst 0, 1) := by decide +kernel
theorem dX7_away_14 : decode cX7_away 14 = .ok (.istore_n 3, 1) := by decide +kernel
theorem dX7_away_15 : decode cX7_away 15 = .ok (.iload_n 3, 1) := by decide +kernel
theorem dX7_away_16 : decode cX7_away 16 = .ok (.aload_n 0, 1) := by decide +kernel
theorem dX7_away_17 : decode cX7_away 17 = .ok (.getfield 59, 3) := by decide +kernel
theorem dX7_away_20 : decode cX7_away 20 = .ok (.if_icmp .ge 48, 3) := by decide +kernel
theorem dX7_away_23 : decode cX7_away 23 = .ok (.aload_n 0, 1) := by decide +kernel
theorem dX7_away_24 : decode cX7_away 24 = .ok (.iload_n 3, 1) := by decide +kernel
theorem dX7_away_25 : decode cX7_away 25 = .ok (.invokevirtual 183, 3) := by decide +kernel
theorem dX7_away_28 : decode cX7_away 28 = .ok (.aload_n 0, 1) := by decide +kernel
theorem dX7_away_29 : decode cX7_away 29 = .ok (.invokevirtual 168, 3) := by decide +kernel
theorem dX7_away_32 : decode cX7_away 32 = .ok (.istore 4, 2) := by decide +kernel
theorem dX7_away_34 : decode cX7_away 34 = .ok (.aload_n 0, 1) := by decide +kernel
theorem dX7_away_35 : decode cX7_away 35 = .ok (.aload_n 0, 1) := by decide +kernel
theorem dX7_away_36 : decode cX7_away 36 = .ok (.getfield 43, 3) := by decide +kernel
theorem dX7_away_39 : decode cX7_away 39 = .ok (.invokevirtual 120, 3) := by decide +kernel
theorem dX7_away_42 : decode cX7_away 42 = .ok (.iload_n 1, 1) := by decide +kernel
theorem dX7_away_43 : decode cX7_away 43 = .ok (.bipush (-9), 2) := by decide +kernel
theorem dX7_away_45 : decode cX7_away 45 = .ok (.if_icmp .eq 12, 3) := by decide +kernel
theorem dX7_away_48 : decode cX7_away 48 = .ok (.iload 4, 2) := by decide +kernel
theorem dX7_away_50 : decode cX7_away 50 = .ok (.iload_n 2, 1) := by decide +kernel
theorem dX7_away_51 : decode cX7_away 51 = .ok (.if_icmp .lt 6, 3) := by decide +kernel
theorem dX7_away_54 : decode cX7_away 54 = .ok (.goto 8, 3) := by decide +kernel
theorem dX7_away_57 : decode cX7_away 57 = .ok (.iload 4, 2) := by decide +kernel
theorem dX7_away_59 : decode cX7_away 59 = .ok (.istore_n 2, 1) := by decide +kernel
theorem dX7_away_60 : decode cX7_away 60 = .ok (.iload_n 3, 1) := by decide +kernel
theorem dX7_away_61 : decode cX7_away 61 = .ok (.istore_n 1, 1) := by decide +kernel
theorem dX7_away_62 : decode cX7_away 62 = .ok (.iinc 3 1, 3) := by decide +kernel
theorem dX7_away_65 : decode cX7_away 65 = .ok (.goto (-50), 3) := by decide +kernel
theorem dX7_away_68 : decode cX7_away 68 = .ok (.iload_n 1, 1) := by decide +kernel
theorem dX7_away_69 : decode cX7_away 69 = .ok (.ireturn, 1) := by decide +kernel
theorem dX7_wider_0 : decode cX7_wider 0 = .ok (.aload_n 0, 1) := by decide +kernel
theorem dX7_wider_1 : decode cX7_wider 1 = .ok (.invokevirtual 164, 3) := by decide +kernel
theorem dX7_wider_4 : decode cX7_wider 4 = .ok (.istore_n 1, 1) := by decide +kernel
theorem dX7_wider_5 : decode cX7_wider 5 = .ok (.aload_n 0, 1) := by decide +kernel
theorem dX7_wider_6 : decode cX7_wider 6 = .ok (.iconst 1, 1) := by decide +kernel
theorem dX7_wider_7 : decode cX7_wider 7 = .ok (.putfield 136, 3) := by decide +kernel
theorem dX7_wider_10 : decode cX7_wider 10 = .ok (.aload_n 0, 1) := by decide +kernel
theorem dX7_wider_11 : decode cX7_wider 11 = .ok (.invokevirtual 164, 3) := by decide +kernel
theorem dX7_wider_14 : decode cX7_wider 14 = .ok (.istore_n 2, 1) := by decide +kernel
theorem dX7_wider_15 : decode cX7_wider 15 = .ok (.aload_n 0, 1) := by decide +kernel
theorem dX7_wider_16 : decode cX7_wider 16 = .ok (.iconst 0, 1) := by decide +kernel
theorem dX7_wider_17 : decode cX7_wider 17 = .ok (.putfield 136, 3) := by decide +kernel
theorem dX7_wider_20 : decode cX7_wider 20 = .ok (.iload_n 1, 1) := by decide +kernel
theorem dX7_wider_21 : decode cX7_wider 21 = .ok (.iload_n 2, 1) := by decide +kernel
theorem dX7_wider_22 : decode cX7_wider 22 = .ok (.isub, 1) := by decide +kernel
theorem dX7_wider_23 : decode cX7_wider 23 = .ok (.ireturn, 1) := by decide +kernel
theorem dX7_gap_0 : decode cX7_gap 0 = .ok (.iload_n 1, 1) := by decide +kernel
theorem dX7_gap_1 : decode cX7_gap 1 = .ok (.iconst 0, 1) := by decide +kernel
theorem dX7_gap_2 : decode cX7_gap 2 = .ok (.iconst 1, 1) := by decide +kernel
theorem dX7_gap_3 : decode cX7_gap 3 = .ok (.invokestatic 62, 3) := by decide +kernel
theorem dX7_gap_6 : decode cX7_gap 6 = .ok (.ifCond .ne 10, 3) := by decide +kernel
theorem dX7_gap_9 : decode cX7_gap 9 = .ok (.aload_n 0, 1) := by decide +kernel
theorem dX7_gap_10 : decode cX7_gap 10 = .ok (.bipush (-2), 2) := by decide +kernel
theorem dX7_gap_12 : decode cX7_gap 12 = .ok (.invokevirtual 66, 3) := by decide +kernel
theorem dX7_gap_15 : decode cX7_gap 15 = .ok (.ireturn, 1) := by decide +kernel
theorem dX7_gap_16 : decode cX7_gap 16 = .ok (.aload_n 0, 1) := by decide +kernel
theorem dX7_gap_17 : decode cX7_gap 17 = .ok (.invokevirtual 161, 3) := by decide +kernel
theorem dX7_gap_20 : decode cX7_gap 20 = .ok (.iconst 0, 1) := by decide +kernel
theorem dX7_gap_21 : decode cX7_gap 21 = .ok (.istore_n 2, 1) := by decide +kernel
theorem dX7_gap_22 : decode cX7_gap 22 = .ok (.bipush (-9), 2) := by decide +kernel
theorem dX7_gap_24 : decode cX7_gap 24 = .ok (.istore_n 3, 1) := by decide +kernel
theorem dX7_gap_25 : decode cX7_gap 25 = .ok (.iconst 0, 1) := by decide +kernel
theorem dX7_gap_26 : decode cX7_gap 26 = .ok (.istore 4, 2) := by decide +kernel
theorem dX7_gap_28 : decode cX7_gap 28 = .ok (.iload 4, 2) := by decide +kernel
theorem dX7_gap_30 : decode cX7_gap 30 = .ok (.iconst 1, 1) := by decide +kernel
theorem dX7_gap_31 : decode cX7_gap 31 = .ok (.iadd, 1) := by decide +kernel
theorem dX7_gap_32 : decode cX7_gap 32 = .ok (.aload_n 0, 1) := by decide +kernel
theorem dX7_gap_33 : decode cX7_gap 33 = .ok (.getfield 146, 3) := by decide +kernel
theorem dX7_gap_36 : decode cX7_gap 36 = .ok (.if_icmp .ge 53, 3) := by decide +kernel
theorem dX7_gap_39 : decode cX7_gap 39 = .ok (.aload_n 0, 1) := by decide +kernel
theorem dX7_gap_40 : decode cX7_gap 40 = .ok (.getfield 49, 3) := by decide +kernel
theorem dX7_gap_43 : decode cX7_gap 43 = .ok (.aload_n 0, 1) := by decide +kernel
theorem dX7_gap_44 : decode cX7_gap 44 = .ok (.getfield 46, 3) := by decide +kernel
theorem dX7_gap_47 : decode cX7_gap 47 = .ok (.iload 4, 2) := by decide +kernel
theorem dX7_gap_49 : decode cX7_gap 49 = .ok (.iconst 1, 1) := by decide +kernel
theorem dX7_gap_50 : decode cX7_gap 50 = .ok (.iadd, 1) := by decide +kernel
theorem dX7_gap_51 : decode cX7_gap 51 = .ok (.iaload, 1) := by decide +kernel
theorem dX7_gap_52 : decode cX7_gap 52 = .ok (.iaload, 1) := by decide +kernel
theorem dX7_gap_53 : decode cX7_gap 53 = .ok (.aload_n 0, 1) := by decide +kernel
theorem dX7_gap_54 : decode cX7_gap 54 = .ok (.getfield 49, 3) := by decide +kernel
theorem dX7_gap_57 : decode cX7_gap 57 = .ok (.aload_n 0, 1) := by decide +kernel
theorem dX7_gap_58 : decode cX7_gap 58 = .ok (.getfield 46, 3) := by decide +kernel
theorem dX7_gap_61 : decode cX7_gap 61 = .ok (.iload 4, 2) := by decide +kernel
theorem dX7_gap_63 : decode cX7_gap 63 = .ok (.iaload, 1) := by decide +kernel
theorem dX7_gap_64 : decode cX7_gap 64 = .ok (.iaload, 1) := by decide +kernel
theorem dX7_gap_65 : decode cX7_gap 65 = .ok (.isub, 1) := by decide +kernel
theorem dX7_gap_66 : decode cX7_gap 66 = .ok (.istore 5, 2) := by decide +kernel
theorem dX7_gap_68 : decode cX7_gap 68 = .ok (.iload 5, 2) := by decide +kernel
theorem dX7_gap_70 : decode cX7_gap 70 = .ok (.iload_n 2, 1) := by decide +kernel
theorem dX7_gap_71 : decode cX7_gap 71 = .ok (.if_icmp .gt 6, 3) := by decide +kernel
theorem dX7_gap_74 : decode cX7_gap 74 = .ok (.goto 9, 3) := by decide +kernel
theorem dX7_gap_77 : decode cX7_gap 77 = .ok (.iload 5, 2) := by decide +kernel
theorem dX7_gap_79 : decode cX7_gap 79 = .ok (.istore_n 2, 1) := by decide +kernel
theorem dX7_gap_80 : decode cX7_gap 80 = .ok (.iload 4, 2) := by decide +kernel
theorem dX7_gap_82 : decode cX7_gap 82 = .ok (.istore_n 3, 1) := by decide +kernel
theorem dX7_gap_83 : decode cX7_gap 83 = .ok (.iinc 4 1, 3) := by decide +kernel
theorem dX7_gap_86 : decode cX7_gap 86 = .ok (.goto (-58), 3) := by decide +kernel
theorem dX7_gap_89 : decode cX7_gap 89 = .ok (.iload_n 1, 1) := by decide +kernel
theorem dX7_gap_90 : decode cX7_gap 90 = .ok (.ifCond .ne 7, 3) := by decide +kernel
theorem dX7_gap_93 : decode cX7_gap 93 = .ok (.iload_n 2, 1) := by decide +kernel
theorem dX7_gap_94 : decode cX7_gap 94 = .ok (.goto 4, 3) := by decide +kernel
theorem dX7_gap_97 : decode cX7_gap 97 = .ok (.iload_n 3, 1) := by decide +kernel
theorem dX7_gap_98 : decode cX7_gap 98 = .ok (.ireturn, 1) := by decide +kernel
theorem dX7_even_0 : decode cX7_even 0 = .ok (.iload_n 1, 1) := by decide +kernel
theorem dX7_even_1 : decode cX7_even 1 = .ok (.ifCond .ge 10, 3) := by decide +kernel
theorem dX7_even_4 : decode cX7_even 4 = .ok (.aload_n 0, 1) := by decide +kernel
theorem dX7_even_5 : decode cX7_even 5 = .ok (.bipush (-4), 2) := by decide +kernel
theorem dX7_even_7 : decode cX7_even 7 = .ok (.invokevirtual 66, 3) := by decide +kernel
theorem dX7_even_10 : decode cX7_even 10 = .ok (.ireturn, 1) := by decide +kernel
theorem dX7_even_11 : decode cX7_even 11 = .ok (.iload_n 1, 1) := by decide +kernel
theorem dX7_even_12 : decode cX7_even 12 = .ok (.bipush 99, 2) := by decide +kernel
theorem dX7_even_14 : decode cX7_even 14 = .ok (.if_icmp .le 10, 3) := by decide +kernel
theorem dX7_even_17 : decode cX7_even 17 = .ok (.aload_n 0, 1) := by decide +kernel
theorem dX7_even_18 : decode cX7_even 18 = .ok (.bipush (-6), 2) := by decide +kernel
theorem dX7_even_20 : decode cX7_even 20 = .ok (.invokevirtual 66, 3) := by decide +kernel
theorem dX7_even_23 : decode cX7_even 23 = .ok (.ireturn, 1) := by decide +kernel
theorem dX7_even_24 : decode cX7_even 24 = .ok (.aload_n 0, 1) := by decide +kernel
theorem dX7_even_25 : decode cX7_even 25 = .ok (.getfield 55, 3) := by decide +kernel
theorem dX7_even_28 : decode cX7_even 28 = .ok (.istore_n 2, 1) := by decide +kernel
theorem dX7_even_29 : decode cX7_even 29 = .ok (.bipush (-9), 2) := by decide +kernel
theorem dX7_even_31 : decode cX7_even 31 = .ok (.istore_n 3, 1) := by decide +kernel
theorem dX7_even_32 : decode cX7_even 32 = .ok (.bipush 9, 2) := by decide +kernel
theorem dX7_even_34 : decode cX7_even 34 = .ok (.istore 4, 2) := by decide +kernel
theorem dX7_even_36 : decode cX7_even 36 = .ok (.iload 4, 2) := by decide +kernel
theorem dX7_even_38 : decode cX7_even 38 = .ok (.ifCond .lt 26, 3) := by decide +kernel
theorem dX7_even_41 : decode cX7_even 41 = .ok (.aload_n 0, 1) := by decide +kernel
theorem dX7_even_42 : decode cX7_even 42 = .ok (.iload 4, 2) := by decide +kernel
theorem dX7_even_44 : decode cX7_even 44 = .ok (.putfield 55, 3) := by decide +kernel
theorem dX7_even_47 : decode cX7_even 47 = .ok (.aload_n 0, 1) := by decide +kernel
theorem dX7_even_48 : decode cX7_even 48 = .ok (.invokevirtual 164, 3) := by decide +kernel
theorem dX7_even_51 : decode cX7_even 51 = .ok (.iload_n 1, 1) := by decide +kernel
theorem dX7_even_52 : decode cX7_even 52 = .ok (.if_icmp .lt 6, 3) := by decide +kernel
theorem dX7_even_55 : decode cX7_even 55 = .ok (.iload 4, 2) := by decide +kernel
theorem dX7_even_57 : decode cX7_even 57 = .ok (.istore_n 3, 1) := by decide +kernel
theorem dX7_even_58 : decode cX7_even 58 = .ok (.iinc 4 (-1), 3) := by decide +kernel
theorem dX7_even_61 : decode cX7_even 61 = .ok (.goto (-25), 3) := by decide +kernel
theorem dX7_even_64 : decode cX7_even 64 = .ok (.aload_n 0, 1) := by decide +kernel
theorem dX7_even_65 : decode cX7_even 65 = .ok (.iload_n 2, 1) := by decide +kernel
theorem dX7_even_66 : decode cX7_even 66 = .ok (.putfield 55, 3) := by decide +kernel
theorem dX7_even_69 : decode cX7_even 69 = .ok (.iload_n 3, 1) := by decide +kernel
theorem dX7_even_70 : decode cX7_even 70 = .ok (.ireturn, 1) := by decide +kernel
theorem dX7_keep_0 : decode cX7_keep 0 = .ok (.iload_n 1, 1) := by decide +kernel
theorem dX7_keep_1 : decode cX7_keep 1 = .ok (.ifCond .ge 10, 3) := by decide +kernel
theorem dX7_keep_4 : decode cX7_keep 4 = .ok (.aload_n 0, 1) := by decide +kernel
theorem dX7_keep_5 : decode cX7_keep 5 = .ok (.bipush (-4), 2) := by decide +kernel
theorem dX7_keep_7 : decode cX7_keep 7 = .ok (.invokevirtual 66, 3) := by decide +kernel
theorem dX7_keep_10 : decode cX7_keep 10 = .ok (.ireturn, 1) := by decide +kernel
theorem dX7_keep_11 : decode cX7_keep 11 = .ok (.iload_n 1, 1) := by decide +kernel
theorem dX7_keep_12 : decode cX7_keep 12 = .ok (.bipush 99, 2) := by decide +kernel
theorem dX7_keep_14 : decode cX7_keep 14 = .ok (.if_icmp .le 10, 3) := by decide +kernel
theorem dX7_keep_17 : decode cX7_keep 17 = .ok (.aload_n 0, 1) := by decide +kernel
theorem dX7_keep_18 : decode cX7_keep 18 = .ok (.bipush (-6), 2) := by decide +kernel
theorem dX7_keep_20 : decode cX7_keep 20 = .ok (.invokevirtual 66, 3) := by decide +kernel
theorem dX7_keep_23 : decode cX7_keep 23 = .ok (.ireturn, 1) := by decide +kernel
theorem dX7_keep_24 : decode cX7_keep 24 = .ok (.iload_n 2, 1) := by decide +kernel
theorem dX7_keep_25 : decode cX7_keep 25 = .ok (.iconst 0, 1) := by decide +kernel
theorem dX7_keep_26 : decode cX7_keep 26 = .ok (.iconst 1, 1) := by decide +kernel
theorem dX7_keep_27 : decode cX7_keep 27 = .ok (.invokestatic 62, 3) := by decide +kernel
theorem dX7_keep_30 : decode cX7_keep 30 = .ok (.ifCond .ne 10, 3) := by decide +kernel
theorem dX7_keep_33 : decode cX7_keep 33 = .ok (.aload_n 0, 1) := by decide +kernel
theorem dX7_keep_34 : decode cX7_keep 34 = .ok (.bipush (-2), 2) := by decide +kernel
theorem dX7_keep_36 : decode cX7_keep 36 = .ok (.invokevirtual 66, 3) := by decide +kernel
theorem dX7_keep_39 : decode cX7_keep 39 = .ok (.ireturn, 1) := by decide +kernel
theorem dX7_keep_40 : decode cX7_keep 40 = .ok (.iconst 1, 1) := by decide +kernel
theorem dX7_keep_41 : decode cX7_keep 41 = .ok (.aload_n 0, 1) := by decide +kernel
theorem dX7_keep_42 : decode cX7_keep 42 = .ok (.getfield 59, 3) := by decide +kernel
theorem dX7_keep_45 : decode cX7_keep 45 = .ok (.ishl, 1) := by decide +kernel
theorem dX7_keep_46 : decode cX7_keep 46 = .ok (.iconst 1, 1) := by decide +kernel
theorem dX7_keep_47 : decode cX7_keep 47 = .ok (.isub, 1) := by decide +kernel
theorem dX7_keep_48 : decode cX7_keep 48 = .ok (.istore_n 3, 1) := by decide +kernel
theorem dX7_keep_49 : decode cX7_keep 49 = .ok (.aload_n 0, 1) := by decide +kernel
theorem dX7_keep_50 : decode cX7_keep 50 = .ok (.aload_n 0, 1) := by decide +kernel
theorem dX7_keep_51 : decode cX7_keep 51 = .ok (.getfield 43, 3) := by decide +kernel
theorem dX7_keep_54 : decode cX7_keep 54 = .ok (.invokevirtual 116, 3) := by decide +kernel
theorem dX7_keep_57 : decode cX7_keep 57 = .ok (.iconst 0, 1) := by decide +kernel
theorem dX7_keep_58 : decode cX7_keep 58 = .ok (.istore 4, 2) := by decide +kernel
theorem dX7_keep_60 : decode cX7_keep 60 = .ok (.iload 4, 2) := by decide +kernel
theorem dX7_keep_62 : decode cX7_keep 62 = .ok (.iconst 1, 1) := by decide +kernel
theorem dX7_keep_63 : decode cX7_keep 63 = .ok (.aload_n 0, 1) := by decide +kernel
theorem dX7_keep_64 : decode cX7_keep 64 = .ok (.getfield 59, 3) := by decide +kernel
theorem dX7_keep_67 : decode cX7_keep 67 = .ok (.ishl, 1) := by decide +kernel
theorem dX7_keep_68 : decode cX7_keep 68 = .ok (.if_icmp .ge 90, 3) := by decide +kernel
theorem dX7_keep_71 : decode cX7_keep 71 = .ok (.iload 4, 2) := by decide +kernel
theorem dX7_keep_73 : decode cX7_keep 73 = .ok (.invokestatic 175, 3) := by decide +kernel
theorem dX7_keep_76 : decode cX7_keep 76 = .ok (.iload_n 3, 1) := by decide +kernel
theorem dX7_keep_77 : decode cX7_keep 77 = .ok (.invokestatic 175, 3) := by decide +kernel
theorem dX7_keep_80 : decode cX7_keep 80 = .ok (.if_icmp .lt 6, 3) := by decide +kernel
theorem dX7_keep_83 : decode cX7_keep 83 = .ok (.goto 69, 3) := by decide +kernel
theorem dX7_keep_86 : decode cX7_keep 86 = .ok (.iconst 0, 1) := by decide +kernel
theorem dX7_keep_87 : decode cX7_keep 87 = .ok (.istore 5, 2) := by decide +kernel
theorem dX7_keep_89 : decode cX7_keep 89 = .ok (.iload 5, 2) := by decide +kernel
theorem dX7_keep_91 : decode cX7_keep 91 = .ok (.aload_n 0, 1) := by decide +kernel
theorem dX7_keep_92 : decode cX7_keep 92 = .ok (.getfield 59, 3) := by decide +kernel
theorem dX7_keep_95 : decode cX7_keep 95 = .ok (.if_icmp .ge 26, 3) := by decide +kernel
theorem dX7_keep_98 : decode cX7_keep 98 = .ok (.iload 4, 2) := by decide +kernel
theorem dX7_keep_100 : decode cX7_keep 100 = .ok (.iload 5, 2) := by decide +kernel
theorem dX7_keep_102 : decode cX7_keep 102 = .ok (.ishr, 1) := by decide +kernel
theorem dX7_keep_103 : decode cX7_keep 103 = .ok (.iconst 1, 1) := by decide +kernel
theorem dX7_keep_104 : decode cX7_keep 104 = .ok (.iand, 1) := by decide +kernel
theorem dX7_keep_105 : decode cX7_keep 105 = .ok (.iconst 1, 1) := by decide +kernel
theorem dX7_keep_106 : decode cX7_keep 106 = .ok (.if_icmp .ne 9, 3) := by decide +kernel
theorem dX7_keep_109 : decode cX7_keep 109 = .ok (.aload_n 0, 1) := by decide +kernel
theorem dX7_keep_110 : decode cX7_keep 110 = .ok (.iload 5, 2) := by decide +kernel
theorem dX7_keep_112 : decode cX7_keep 112 = .ok (.invokevirtual 183, 3) := by decide +kernel
theorem dX7_keep_115 : decode cX7_keep 115 = .ok (.iinc 5 1, 3) := by decide +kernel
theorem dX7_keep_118 : decode cX7_keep 118 = .ok (.goto (-29), 3) := by decide +kernel
theorem dX7_keep_121 : decode cX7_keep 121 = .ok (.aload_n 0, 1) := by decide +kernel
theorem dX7_keep_122 : decode cX7_keep 122 = .ok (.invokevirtual 164, 3) := by decide +kernel
theorem dX7_keep_125 : decode cX7_keep 125 = .ok (.iload_n 1, 1) := by decide +kernel
theorem dX7_keep_126 : decode cX7_keep 126 = .ok (.if_icmp .gt 7, 3) := by decide +kernel
theorem dX7_keep_129 : decode cX7_keep 129 = .ok (.iconst 1, 1) := by decide +kernel
theorem dX7_keep_130 : decode cX7_keep 130 = .ok (.goto 4, 3) := by decide +kernel
theorem dX7_keep_133 : decode cX7_keep 133 = .ok (.iconst 0, 1) := by decide +kernel
theorem dX7_keep_134 : decode cX7_keep 134 = .ok (.istore 5, 2) := by decide +kernel
theorem dX7_keep_136 : decode cX7_keep 136 = .ok (.aload_n 0, 1) := by decide +kernel
theorem dX7_keep_137 : decode cX7_keep 137 = .ok (.aload_n 0, 1) := by decide +kernel
theorem dX7_keep_138 : decode cX7_keep 138 = .ok (.getfield 43, 3) := by decide +kernel
theorem dX7_keep_141 : decode cX7_keep 141 = .ok (.invokevirtual 120, 3) := by decide +kernel
theorem dX7_keep_144 : decode cX7_keep 144 = .ok (.iload 5, 2) := by decide +kernel
theorem dX7_keep_146 : decode cX7_keep 146 = .ok (.ifCond .eq 6, 3) := by decide +kernel
theorem dX7_keep_149 : decode cX7_keep 149 = .ok (.iload 4, 2) := by decide +kernel
theorem dX7_keep_151 : decode cX7_keep 151 = .ok (.istore_n 3, 1) := by decide +kernel
theorem dX7_keep_152 : decode cX7_keep 152 = .ok (.iinc 4 1, 3) := by decide +kernel
theorem dX7_keep_155 : decode cX7_keep 155 = .ok (.goto (-95), 3) := by decide +kernel
theorem dX7_keep_158 : decode cX7_keep 158 = .ok (.iload_n 2, 1) := by decide +kernel
theorem dX7_keep_159 : decode cX7_keep 159 = .ok (.ifCond .ne 7, 3) := by decide +kernel
theorem dX7_keep_162 : decode cX7_keep 162 = .ok (.iload_n 3, 1) := by decide +kernel
theorem dX7_keep_163 : decode cX7_keep 163 = .ok (.goto 7, 3) := by decide +kernel
theorem dX7_keep_166 : decode cX7_keep 166 = .ok (.iload_n 3, 1) := by decide +kernel
theorem dX7_keep_167 : decode cX7_keep 167 = .ok (.invokestatic 175, 3) := by decide +kernel
theorem dX7_keep_170 : decode cX7_keep 170 = .ok (.ireturn, 1) := by decide +kernel
theorem dX7_wrong_0 : decode cX7_wrong 0 = .ok (.aload_n 0, 1) := by decide +kernel
theorem dX7_wrong_1 : decode cX7_wrong 1 = .ok (.invokevirtual 161, 3) := by decide +kernel
theorem dX7_wrong_4 : decode cX7_wrong 4 = .ok (.iconst 0, 1) := by decide +kernel
theorem dX7_wrong_5 : decode cX7_wrong 5 = .ok (.istore_n 1, 1) := by decide +kernel
theorem dX7_wrong_6 : decode cX7_wrong 6 = .ok (.iload_n 1, 1) := by decide +kernel
theorem dX7_wrong_7 : decode cX7_wrong 7 = .ok (.aload_n 0, 1) := by decide +kernel
theorem dX7_wrong_8 : decode cX7_wrong 8 = .ok (.getfield 198, 3) := by decide +kernel
theorem dX7_wrong_11 : decode cX7_wrong 11 = .ok (.if_icmp .ge 34, 3) := by decide +kernel
theorem dX7_wrong_14 : decode cX7_wrong 14 = .ok (.iload_n 1, 1) := by decide +kernel
theorem dX7_wrong_15 : decode cX7_wrong 15 = .ok (.aload_n 0, 1) := by decide +kernel
theorem dX7_wrong_16 : decode cX7_wrong 16 = .ok (.getfield 146, 3) := by decide +kernel
theorem dX7_wrong_19 : decode cX7_wrong 19 = .ok (.if_icmp .ge 18, 3) := by decide +kernel
theorem dX7_wrong_22 : decode cX7_wrong 22 = .ok (.aload_n 0, 1) := by decide +kernel
theorem dX7_wrong_23 : decode cX7_wrong 23 = .ok (.getfield 31, 3) := by decide +kernel
theorem dX7_wrong_26 : decode cX7_wrong 26 = .ok (.iload_n 1, 1) := by decide +kernel
theorem dX7_wrong_27 : decode cX7_wrong 27 = .ok (.iaload, 1) := by decide +kernel
theorem dX7_wrong_28 : decode cX7_wrong 28 = .ok (.aload_n 0, 1) := by decide +kernel
theorem dX7_wrong_29 : decode cX7_wrong 29 = .ok (.getfield 46, 3) := by decide +kernel
theorem dX7_wrong_32 : decode cX7_wrong 32 = .ok (.iload_n 1, 1) := by decide +kernel
theorem dX7_wrong_33 : decode cX7_wrong 33 = .ok (.iaload, 1) := by decide +kernel
theorem dX7_wrong_34 : decode cX7_wrong 34 = .ok (.if_icmp .eq 5, 3) := by decide +kernel
theorem dX7_wrong_37 : decode cX7_wrong 37 = .ok (.iload_n 1, 1) := by decide +kernel
theorem dX7_wrong_38 : decode cX7_wrong 38 = .ok (.ireturn, 1) := by decide +kernel
theorem dX7_wrong_39 : decode cX7_wrong 39 = .ok (.iinc 1 1, 3) := by decide +kernel
theorem dX7_wrong_42 : decode cX7_wrong 42 = .ok (.goto (-36), 3) := by decide +kernel
theorem dX7_wrong_45 : decode cX7_wrong 45 = .ok (.bipush (-9), 2) := by decide +kernel
theorem dX7_wrong_47 : decode cX7_wrong 47 = .ok (.ireturn, 1) := by decide +kernel
theorem dX7_who_0 : decode cX7_who 0 = .ok (.aload_n 0, 1) := by decide +kernel
theorem dX7_who_1 : decode cX7_who 1 = .ok (.iload_n 1, 1) := by decide +kernel
theorem dX7_who_2 : decode cX7_who 2 = .ok (.invokevirtual 96, 3) := by decide +kernel
theorem dX7_who_5 : decode cX7_who 5 = .ok (.ifCond .ne 9, 3) := by decide +kernel
theorem dX7_who_8 : decode cX7_who 8 = .ok (.aload_n 0, 1) := by decide +kernel
theorem dX7_who_9 : decode cX7_who 9 = .ok (.iconst (-1), 1) := by decide +kernel
theorem dX7_who_10 : decode cX7_who 10 = .ok (.invokevirtual 66, 3) := by decide +kernel
theorem dX7_who_13 : decode cX7_who 13 = .ok (.ireturn, 1) := by decide +kernel
theorem dX7_who_14 : decode cX7_who 14 = .ok (.iload_n 2, 1) := by decide +kernel
theorem dX7_who_15 : decode cX7_who 15 = .ok (.iconst 0, 1) := by decide +kernel
theorem dX7_who_16 : decode cX7_who 16 = .ok (.iconst 1, 1) := by decide +kernel
theorem dX7_who_17 : decode cX7_who 17 = .ok (.invokestatic 62, 3) := by decide +kernel
theorem dX7_who_20 : decode cX7_who 20 = .ok (.ifCond .ne 10, 3) := by decide +kernel
theorem dX7_who_23 : decode cX7_who 23 = .ok (.aload_n 0, 1) := by decide +kernel
theorem dX7_who_24 : decode cX7_who 24 = .ok (.bipush (-2), 2) := by decide +kernel
theorem dX7_who_26 : decode cX7_who 26 = .ok (.invokevirtual 66, 3) := by decide +kernel
theorem dX7_who_29 : decode cX7_who 29 = .ok (.ireturn, 1) := by decide +kernel
theorem dX7_who_30 : decode cX7_who 30 = .ok (.aload_n 0, 1) := by decide +kernel
theorem dX7_who_31 : decode cX7_who 31 = .ok (.getfield 7, 3) := by decide +kernel
theorem dX7_who_34 : decode cX7_who 34 = .ok (.iload_n 1, 1) := by decide +kernel
theorem dX7_who_35 : decode cX7_who 35 = .ok (.iaload, 1) := by decide +kernel
theorem dX7_who_36 : decode cX7_who 36 = .ok (.istore_n 3, 1) := by decide +kernel
theorem dX7_who_37 : decode cX7_who 37 = .ok (.aload_n 0, 1) := by decide +kernel
theorem dX7_who_38 : decode cX7_who 38 = .ok (.getfield 13, 3) := by decide +kernel
theorem dX7_who_41 : decode cX7_who 41 = .ok (.iload_n 1, 1) := by decide +kernel
theorem dX7_who_42 : decode cX7_who 42 = .ok (.iaload, 1) := by decide +kernel
theorem dX7_who_43 : decode cX7_who 43 = .ok (.istore 4, 2) := by decide +kernel
theorem dX7_who_45 : decode cX7_who 45 = .ok (.iconst 0, 1) := by decide +kernel
theorem dX7_who_46 : decode cX7_who 46 = .ok (.istore 5, 2) := by decide +kernel
theorem dX7_who_48 : decode cX7_who 48 = .ok (.iconst 0, 1) := by decide +kernel
theorem dX7_who_49 : decode cX7_who 49 = .ok (.istore 6, 2) := by decide +kernel
theorem dX7_who_51 : decode cX7_who 51 = .ok (.iload 6, 2) := by decide +kernel
theorem dX7_who_53 : decode cX7_who 53 = .ok (.iload_n 2, 1) := by decide +kernel
theorem dX7_who_54 : decode cX7_who 54 = .ok (.ifCond .ne 8, 3) := by decide +kernel
theorem dX7_who_57 : decode cX7_who 57 = .ok (.bipush 6, 2) := by decide +kernel
theorem dX7_who_59 : decode cX7_who 59 = .ok (.goto 5, 3) := by decide +kernel
theorem dX7_who_62 : decode cX7_who 62 = .ok (.bipush 10, 2) := by decide +kernel
theorem dX7_who_64 : decode cX7_who 64 = .ok (.if_icmp .ge 53, 3) := by decide +kernel
theorem dX7_who_67 : decode cX7_who 67 = .ok (.aload_n 0, 1) := by decide +kernel
theorem dX7_who_68 : decode cX7_who 68 = .ok (.iload_n 1, 1) := by decide +kernel
theorem dX7_who_69 : decode cX7_who 69 = .ok (.iload_n 2, 1) := by decide +kernel
theorem dX7_who_70 : decode cX7_who 70 = .ok (.ifCond .ne 8, 3) := by decide +kernel
theorem dX7_who_73 : decode cX7_who 73 = .ok (.iload 6, 2) := by decide +kernel
theorem dX7_who_75 : decode cX7_who 75 = .ok (.goto 4, 3) := by decide +kernel
theorem dX7_who_78 : decode cX7_who 78 = .ok (.iload_n 3, 1) := by decide +kernel
theorem dX7_who_79 : decode cX7_who 79 = .ok (.iload_n 2, 1) := by decide +kernel
theorem dX7_who_80 : decode cX7_who 80 = .ok (.ifCond .ne 8, 3) := by decide +kernel
theorem dX7_who_83 : decode cX7_who 83 = .ok (.iload 4, 2) := by decide +kernel
theorem dX7_who_85 : decode cX7_who 85 = .ok (.goto 5, 3) := by decide +kernel
theorem dX7_who_88 : decode cX7_who 88 = .ok (.iload 6, 2) := by decide +kernel
theorem dX7_who_90 : decode cX7_who 90 = .ok (.invokevirtual 99, 3) := by decide +kernel
theorem dX7_who_93 : decode cX7_who 93 = .ok (.aload_n 0, 1) := by decide +kernel
theorem dX7_who_94 : decode cX7_who 94 = .ok (.invokevirtual 201, 3) := by decide +kernel
theorem dX7_who_97 : decode cX7_who 97 = .ok (.bipush (-9), 2) := by decide +kernel
theorem dX7_who_99 : decode cX7_who 99 = .ok (.if_icmp .ne 12, 3) := by decide +kernel
theorem dX7_who_102 : decode cX7_who 102 = .ok (.iload 5, 2) := by decide +kernel
theorem dX7_who_104 : decode cX7_who 104 = .ok (.iconst 1, 1) := by decide +kernel
theorem dX7_who_105 : decode cX7_who 105 = .ok (.iload 6, 2) := by decide +kernel
theorem dX7_who_107 : decode cX7_who 107 = .ok (.ishl, 1) := by decide +kernel
theorem dX7_who_108 : decode cX7_who 108 = .ok (.ior, 1) := by decide +kernel
theorem dX7_who_109 : decode cX7_who 109 = .ok (.istore 5, 2) := by decide +kernel
theorem dX7_who_111 : decode cX7_who 111 = .ok (.iinc 6 1, 3) := by decide +kernel
theorem dX7_who_114 : decode cX7_who 114 = .ok (.goto (-63), 3) := by decide +kernel
theorem dX7_who_117 : decode cX7_who 117 = .ok (.aload_n 0, 1) := by decide +kernel
theorem dX7_who_118 : decode cX7_who 118 = .ok (.iload_n 1, 1) := by decide +kernel
theorem dX7_who_119 : decode cX7_who 119 = .ok (.iload_n 3, 1) := by decide +kernel
theorem dX7_who_120 : decode cX7_who 120 = .ok (.iload 4, 2) := by decide +kernel
theorem dX7_who_122 : decode cX7_who 122 = .ok (.invokevirtual 99, 3) := by decide +kernel
theorem dX7_who_125 : decode cX7_who 125 = .ok (.iload 5, 2) := by decide +kernel
theorem dX7_who_127 : decode cX7_who 127 = .ok (.ireturn, 1) := by decide +kernel
theorem dX7_row_0 : decode cX7_row 0 = .ok (.iload_n 1, 1) := by decide +kernel
theorem dX7_row_1 : decode cX7_row 1 = .ok (.ifCond .ge 10, 3) := by decide +kernel
theorem dX7_row_4 : decode cX7_row 4 = .ok (.aload_n 0, 1) := by decide +kernel
theorem dX7_row_5 : decode cX7_row 5 = .ok (.bipush (-4), 2) := by decide +kernel
theorem dX7_row_7 : decode cX7_row 7 = .ok (.invokevirtual 66, 3) := by decide +kernel
theorem dX7_row_10 : decode cX7_row 10 = .ok (.ireturn, 1) := by decide +kernel
theorem dX7_row_11 : decode cX7_row 11 = .ok (.iload_n 1, 1) := by decide +kernel
theorem dX7_row_12 : decode cX7_row 12 = .ok (.bipush 99, 2) := by decide +kernel
theorem dX7_row_14 : decode cX7_row 14 = .ok (.if_icmp .gt 12, 3) := by decide +kernel
theorem dX7_row_17 : decode cX7_row 17 = .ok (.aload_n 0, 1) := by decide +kernel
theorem dX7_row_18 : decode cX7_row 18 = .ok (.getfield 198, 3) := by decide +kernel
theorem dX7_row_21 : decode cX7_row 21 = .ok (.bipush 12, 2) := by decide +kernel
theorem dX7_row_23 : decode cX7_row 23 = .ok (.if_icmp .ne 10, 3) := by decide +kernel
theorem dX7_row_26 : decode cX7_row 26 = .ok (.aload_n 0, 1) := by decide +kernel
theorem dX7_row_27 : decode cX7_row 27 = .ok (.bipush (-6), 2) := by decide +kernel
theorem dX7_row_29 : decode cX7_row 29 = .ok (.invokevirtual 66, 3) := by decide +kernel
theorem dX7_row_32 : decode cX7_row 32 = .ok (.ireturn, 1) := by decide +kernel
theorem dX7_row_33 : decode cX7_row 33 = .ok (.aload_n 0, 1) := by decide +kernel
theorem dX7_row_34 : decode cX7_row 34 = .ok (.getfield 31, 3) := by decide +kernel
theorem dX7_row_37 : decode cX7_row 37 = .ok (.aload_n 0, 1) := by decide +kernel
theorem dX7_row_38 : decode cX7_row 38 = .ok (.dup, 1) := by decide +kernel
theorem dX7_row_39 : decode cX7_row 39 = .ok (.getfield 198, 3) := by decide +kernel
theorem dX7_row_42 : decode cX7_row 42 = .ok (.dup_x1, 1) := by decide +kernel
theorem dX7_row_43 : decode cX7_row 43 = .ok (.iconst 1, 1) := by decide +kernel
theorem dX7_row_44 : decode cX7_row 44 = .ok (.iadd, 1) := by decide +kernel
theorem dX7_row_45 : decode cX7_row 45 = .ok (.putfield 198, 3) := by decide +kernel
theorem dX7_row_48 : decode cX7_row 48 = .ok (.iload_n 1, 1) := by decide +kernel
theorem dX7_row_49 : decode cX7_row 49 = .ok (.iastore, 1) := by decide +kernel
theorem dX7_row_50 : decode cX7_row 50 = .ok (.aload_n 0, 1) := by decide +kernel
theorem dX7_row_51 : decode cX7_row 51 = .ok (.getfield 198, 3) := by decide +kernel
theorem dX7_row_54 : decode cX7_row 54 = .ok (.ireturn, 1) := by decide +kernel
theorem dX7_judge_0 : decode cX7_judge 0 = .ok (.aload_n 0, 1) := by decide +kernel
theorem dX7_judge_1 : decode cX7_judge 1 = .ok (.invokevirtual 201, 3) := by decide +kernel
theorem dX7_judge_4 : decode cX7_judge 4 = .ok (.istore_n 1, 1) := by decide +kernel
theorem dX7_judge_5 : decode cX7_judge 5 = .ok (.aload_n 0, 1) := by decide +kernel
theorem dX7_judge_6 : decode cX7_judge 6 = .ok (.iconst 0, 1) := by decide +kernel
theorem dX7_judge_7 : decode cX7_judge 7 = .ok (.putfield 198, 3) := by decide +kernel
theorem dX7_judge_10 : decode cX7_judge 10 = .ok (.iload_n 1, 1) := by decide +kernel
theorem dX7_judge_11 : decode cX7_judge 11 = .ok (.ireturn, 1) := by decide +kernel
theorem dX7_clear_0 : decode cX7_clear 0 = .ok (.aload_n 0, 1) := by decide +kernel
theorem dX7_clear_1 : decode cX7_clear 1 = .ok (.getfield 198, 3) := by decide +kernel
theorem dX7_clear_4 : decode cX7_clear 4 = .ok (.istore_n 1, 1) := by decide +kernel
theorem dX7_clear_5 : decode cX7_clear 5 = .ok (.aload_n 0, 1) := by decide +kernel
theorem dX7_clear_6 : decode cX7_clear 6 = .ok (.iconst 0, 1) := by decide +kernel
theorem dX7_clear_7 : decode cX7_clear 7 = .ok (.putfield 198, 3) := by decide +kernel
theorem dX7_clear_10 : decode cX7_clear 10 = .ok (.iload_n 1, 1) := by decide +kernel
theorem dX7_clear_11 : decode cX7_clear 11 = .ok (.ireturn, 1) := by decide +kernel
theorem dX7_lots_0 : decode cX7_lots 0 = .ok (.iload_n 1, 1) := by decide +kernel
theorem dX7_lots_1 : decode cX7_lots 1 = .ok (.iconst 1, 1) := by decide +kernel
theorem dX7_lots_2 : decode cX7_lots 2 = .ok (.if_icmp .ge 10, 3) := by decide +kernel
theorem dX7_lots_5 : decode cX7_lots 5 = .ok (.aload_n 0, 1) := by decide +kernel
theorem dX7_lots_6 : decode cX7_lots 6 = .ok (.bipush (-4), 2) := by decide +kernel
theorem dX7_lots_8 : decode cX7_lots 8 = .ok (.invokevirtual 66, 3) := by decide +kernel
theorem dX7_lots_11 : decode cX7_lots 11 = .ok (.ireturn, 1) := by decide +kernel
theorem dX7_lots_12 : decode cX7_lots 12 = .ok (.iload_n 1, 1) := by decide +kernel
theorem dX7_lots_13 : decode cX7_lots 13 = .ok (.bipush 20, 2) := by decide +kernel
theorem dX7_lots_15 : decode cX7_lots 15 = .ok (.if_icmp .le 10, 3) := by decide +kernel
theorem dX7_lots_18 : decode cX7_lots 18 = .ok (.aload_n 0, 1) := by decide +kernel
theorem dX7_lots_19 : decode cX7_lots 19 = .ok (.bipush (-6), 2) := by decide +kernel
theorem dX7_lots_21 : decode cX7_lots 21 = .ok (.invokevirtual 66, 3) := by decide +kernel
theorem dX7_lots_24 : decode cX7_lots 24 = .ok (.ireturn, 1) := by decide +kernel
theorem dX7_lots_25 : decode cX7_lots 25 = .ok (.iload_n 3, 1) := by decide +kernel
theorem dX7_lots_26 : decode cX7_lots 26 = .ok (.iconst 0, 1) := by decide +kernel
theorem dX7_lots_27 : decode cX7_lots 27 = .ok (.iconst 1, 1) := by decide +kernel
theorem dX7_lots_28 : decode cX7_lots 28 = .ok (.invokestatic 62, 3) := by decide +kernel
theorem dX7_lots_31 : decode cX7_lots 31 = .ok (.ifCond .ne 10, 3) := by decide +kernel
theorem dX7_lots_34 : decode cX7_lots 34 = .ok (.aload_n 0, 1) := by decide +kernel
theorem dX7_lots_35 : decode cX7_lots 35 = .ok (.bipush (-2), 2) := by decide +kernel
theorem dX7_lots_37 : decode cX7_lots 37 = .ok (.invokevirtual 66, 3) := by decide +kernel
theorem dX7_lots_40 : decode cX7_lots 40 = .ok (.ireturn, 1) := by decide +kernel
theorem dX7_lots_41 : decode cX7_lots 41 = .ok (.aload_n 0, 1) := by decide +kernel
theorem dX7_lots_42 : decode cX7_lots 42 = .ok (.aload_n 0, 1) := by decide +kernel
theorem dX7_lots_43 : decode cX7_lots 43 = .ok (.getfield 43, 3) := by decide +kernel
theorem dX7_lots_46 : decode cX7_lots 46 = .ok (.invokevirtual 116, 3) := by decide +kernel
theorem dX7_lots_49 : decode cX7_lots 49 = .ok (.iload_n 2, 1) := by decide +kernel
theorem dX7_lots_50 : decode cX7_lots 50 = .ok (.istore 4, 2) := by decide +kernel
theorem dX7_lots_52 : decode cX7_lots 52 = .ok (.iconst 0, 1) := by decide +kernel
theorem dX7_lots_53 : decode cX7_lots 53 = .ok (.istore 5, 2) := by decide +kernel
theorem dX7_lots_55 : decode cX7_lots 55 = .ok (.iconst 0, 1) := by decide +kernel
theorem dX7_lots_56 : decode cX7_lots 56 = .ok (.istore 6, 2) := by decide +kernel
theorem dX7_lots_58 : decode cX7_lots 58 = .ok (.iload 6, 2) := by decide +kernel
theorem dX7_lots_60 : decode cX7_lots 60 = .ok (.iload_n 1, 1) := by decide +kernel
theorem dX7_lots_61 : decode cX7_lots 61 = .ok (.if_icmp .ge 119, 3) := by decide +kernel
theorem dX7_lots_64 : decode cX7_lots 64 = .ok (.iconst 0, 1) := by decide +kernel
theorem dX7_lots_65 : decode cX7_lots 65 = .ok (.istore 7, 2) := by decide +kernel
theorem dX7_lots_67 : decode cX7_lots 67 = .ok (.iload 7, 2) := by decide +kernel
theorem dX7_lots_69 : decode cX7_lots 69 = .ok (.aload_n 0, 1) := by decide +kernel
theorem dX7_lots_70 : decode cX7_lots 70 = .ok (.getfield 59, 3) := by decide +kernel
theorem dX7_lots_73 : decode cX7_lots 73 = .ok (.if_icmp .ge 18, 3) := by decide +kernel
theorem dX7_lots_76 : decode cX7_lots 76 = .ok (.aload_n 0, 1) := by decide +kernel
theorem dX7_lots_77 : decode cX7_lots 77 = .ok (.getfield 19, 3) := by decide +kernel
theorem dX7_lots_80 : decode cX7_lots 80 = .ok (.iload 7, 2) := by decide +kernel
theorem dX7_lots_82 : decode cX7_lots 82 = .ok (.bipush (-9), 2) := by decide +kernel
theorem dX7_lots_84 : decode cX7_lots 84 = .ok (.iastore, 1) := by decide +kernel
theorem dX7_lots_85 : decode cX7_lots 85 = .ok (.iinc 7 1, 3) := by decide +kernel
theorem dX7_lots_88 : decode cX7_lots 88 = .ok (.goto (-21), 3) := by decide +kernel
theorem dX7_lots_91 : decode cX7_lots 91 = .ok (.iconst 0, 1) := by decide +kernel
theorem dX7_lots_92 : decode cX7_lots 92 = .ok (.istore 7, 2) := by decide +kernel
theorem dX7_lots_94 : decode cX7_lots 94 = .ok (.iload 7, 2) := by decide +kernel
theorem dX7_lots_96 : decode cX7_lots 96 = .ok (.aload_n 0, 1) := by decide +kernel
theorem dX7_lots_97 : decode cX7_lots 97 = .ok (.getfield 59, 3) := by decide +kernel
theorem dX7_lots_100 : decode cX7_lots 100 = .ok (.if_icmp .ge 54, 3) := by decide +kernel
theorem dX7_lots_103 : decode cX7_lots 103 = .ok (.iload 4, 2) := by decide +kernel
theorem dX7_lots_105 : decode cX7_lots 105 = .ok (.ldc 204, 2) := by decide +kernel
theorem dX7_lots_107 : decode cX7_lots 107 = .ok (.imul, 1) := by decide +kernel
theorem dX7_lots_108 : decode cX7_lots 108 = .ok (.ldc 205, 2) := by decide +kernel
theorem dX7_lots_110 : decode cX7_lots 110 = .ok (.iadd, 1) := by decide +kernel
theorem dX7_lots_111 : decode cX7_lots 111 = .ok (.istore 4, 2) := by decide +kernel
theorem dX7_lots_113 : decode cX7_lots 113 = .ok (.iload 4, 2) := by decide +kernel
theorem dX7_lots_115 : decode cX7_lots 115 = .ok (.ldc 206, 2) := by decide +kernel
theorem dX7_lots_117 : decode cX7_lots 117 = .ok (.iand, 1) := by decide +kernel
theorem dX7_lots_118 : decode cX7_lots 118 = .ok (.sipush 256, 3) := by decide +kernel
theorem dX7_lots_121 : decode cX7_lots 121 = .ok (.idiv, 1) := by decide +kernel
theorem dX7_lots_122 : decode cX7_lots 122 = .ok (.iconst 2, 1) := by decide +kernel
theorem dX7_lots_123 : decode cX7_lots 123 = .ok (.irem, 1) := by decide +kernel
theorem dX7_lots_124 : decode cX7_lots 124 = .ok (.istore 8, 2) := by decide +kernel
theorem dX7_lots_126 : decode cX7_lots 126 = .ok (.aload_n 0, 1) := by decide +kernel
theorem dX7_lots_127 : decode cX7_lots 127 = .ok (.getfield 22, 3) := by decide +kernel
theorem dX7_lots_130 : decode cX7_lots 130 = .ok (.iload 7, 2) := by decide +kernel
theorem dX7_lots_132 : decode cX7_lots 132 = .ok (.aload_n 0, 1) := by decide +kernel
theorem dX7_lots_133 : decode cX7_lots 133 = .ok (.iload 8, 2) := by decide +kernel
theorem dX7_lots_135 : decode cX7_lots 135 = .ok (.invokevirtual 93, 3) := by decide +kernel
theorem dX7_lots_138 : decode cX7_lots 138 = .ok (.iastore, 1) := by decide +kernel
theorem dX7_lots_139 : decode cX7_lots 139 = .ok (.aload_n 0, 1) := by decide +kernel
theorem dX7_lots_140 : decode cX7_lots 140 = .ok (.getfield 19, 3) := by decide +kernel
theorem dX7_lots_143 : decode cX7_lots 143 = .ok (.iload 7, 2) := by decide +kernel
theorem dX7_lots_145 : decode cX7_lots 145 = .ok (.iload 8, 2) := by decide +kernel
theorem dX7_lots_147 : decode cX7_lots 147 = .ok (.iastore, 1) := by decide +kernel
theorem dX7_lots_148 : decode cX7_lots 148 = .ok (.iinc 7 1, 3) := by decide +kernel
theorem dX7_lots_151 : decode cX7_lots 151 = .ok (.goto (-57), 3) := by decide +kernel
theorem dX7_lots_154 : decode cX7_lots 154 = .ok (.iload 5, 2) := by decide +kernel
theorem dX7_lots_156 : decode cX7_lots 156 = .ok (.iload_n 3, 1) := by decide +kernel
theorem dX7_lots_157 : decode cX7_lots 157 = .ok (.ifCond .ne 10, 3) := by decide +kernel
theorem dX7_lots_160 : decode cX7_lots 160 = .ok (.aload_n 0, 1) := by decide +kernel
theorem dX7_lots_161 : decode cX7_lots 161 = .ok (.invokevirtual 164, 3) := by decide +kernel
theorem dX7_lots_164 : decode cX7_lots 164 = .ok (.goto 7, 3) := by decide +kernel
theorem dX7_lots_167 : decode cX7_lots 167 = .ok (.aload_n 0, 1) := by decide +kernel
theorem dX7_lots_168 : decode cX7_lots 168 = .ok (.invokevirtual 168, 3) := by decide +kernel
theorem dX7_lots_171 : decode cX7_lots 171 = .ok (.iadd, 1) := by decide +kernel
theorem dX7_lots_172 : decode cX7_lots 172 = .ok (.istore 5, 2) := by decide +kernel
theorem dX7_lots_174 : decode cX7_lots 174 = .ok (.iinc 6 1, 3) := by decide +kernel
theorem dX7_lots_177 : decode cX7_lots 177 = .ok (.goto (-119), 3) := by decide +kernel
theorem dX7_lots_180 : decode cX7_lots 180 = .ok (.aload_n 0, 1) := by decide +kernel
theorem dX7_lots_181 : decode cX7_lots 181 = .ok (.aload_n 0, 1) := by decide +kernel
theorem dX7_lots_182 : decode cX7_lots 182 = .ok (.getfield 43, 3) := by decide +kernel
theorem dX7_lots_185 : decode cX7_lots 185 = .ok (.invokevirtual 120, 3) := by decide +kernel
theorem dX7_lots_188 : decode cX7_lots 188 = .ok (.iload 5, 2) := by decide +kernel
theorem dX7_lots_190 : decode cX7_lots 190 = .ok (.ireturn, 1) := by decide +kernel
theorem dX7_keep__0 : decode cX7_keep_ 0 = .ok (.iconst 0, 1) := by decide +kernel
theorem dX7_keep__1 : decode cX7_keep_ 1 = .ok (.istore_n 2, 1) := by decide +kernel
theorem dX7_keep__2 : decode cX7_keep_ 2 = .ok (.iload_n 2, 1) := by decide +kernel
theorem dX7_keep__3 : decode cX7_keep_ 3 = .ok (.bipush 9, 2) := by decide +kernel
theorem dX7_keep__5 : decode cX7_keep_ 5 = .ok (.if_icmp .ge 66, 3) := by decide +kernel
theorem dX7_keep__8 : decode cX7_keep_ 8 = .ok (.aload_n 1, 1) := by decide +kernel
theorem dX7_keep__9 : decode cX7_keep_ 9 = .ok (.iload_n 2, 1) := by decide +kernel
theorem dX7_keep__10 : decode cX7_keep_ 10 = .ok (.aload_n 0, 1) := by decide +kernel
theorem dX7_keep__11 : decode cX7_keep_ 11 = .ok (.getfield 7, 3) := by decide +kernel
theorem dX7_keep__14 : decode cX7_keep_ 14 = .ok (.iload_n 2, 1) := by decide +kernel
theorem dX7_keep__15 : decode cX7_keep_ 15 = .ok (.iaload, 1) := by decide +kernel
theorem dX7_keep__16 : decode cX7_keep_ 16 = .ok (.iastore, 1) := by decide +kernel
theorem dX7_keep__17 : decode cX7_keep_ 17 = .ok (.aload_n 1, 1) := by decide +kernel
theorem dX7_keep__18 : decode cX7_keep_ 18 = .ok (.bipush 9, 2) := by decide +kernel
theorem dX7_keep__20 : decode cX7_keep_ 20 = .ok (.iload_n 2, 1) := by decide +kernel
theorem dX7_keep__21 : decode cX7_keep_ 21 = .ok (.iadd, 1) := by decide +kernel
theorem dX7_keep__22 : decode cX7_keep_ 22 = .ok (.aload_n 0, 1) := by decide +kernel
theorem dX7_keep__23 : decode cX7_keep_ 23 = .ok (.getfield 13, 3) := by decide +kernel
theorem dX7_keep__26 : decode cX7_keep_ 26 = .ok (.iload_n 2, 1) := by decide +kernel
theorem dX7_keep__27 : decode cX7_keep_ 27 = .ok (.iaload, 1) := by decide +kernel
theorem dX7_keep__28 : decode cX7_keep_ 28 = .ok (.iastore, 1) := by decide +kernel
theorem dX7_keep__29 : decode cX7_keep_ 29 = .ok (.aload_n 1, 1) := by decide +kernel
theorem dX7_keep__30 : decode cX7_keep_ 30 = .ok (.bipush 18, 2) := by decide +kernel
theorem dX7_keep__32 : decode cX7_keep_ 32 = .ok (.iload_n 2, 1) := by decide +kernel
theorem dX7_keep__33 : decode cX7_keep_ 33 = .ok (.iadd, 1) := by decide +kernel
theorem dX7_keep__34 : decode cX7_keep_ 34 = .ok (.aload_n 0, 1) := by decide +kernel
theorem dX7_keep__35 : decode cX7_keep_ 35 = .ok (.getfield 16, 3) := by decide +kernel
theorem dX7_keep__38 : decode cX7_keep_ 38 = .ok (.iload_n 2, 1) := by decide +kernel
theorem dX7_keep__39 : decode cX7_keep_ 39 = .ok (.iaload, 1) := by decide +kernel
theorem dX7_keep__40 : decode cX7_keep_ 40 = .ok (.iastore, 1) := by decide +kernel
theorem dX7_keep__41 : decode cX7_keep_ 41 = .ok (.aload_n 1, 1) := by decide +kernel
theorem dX7_keep__42 : decode cX7_keep_ 42 = .ok (.bipush 27, 2) := by decide +kernel
theorem dX7_keep__44 : decode cX7_keep_ 44 = .ok (.iload_n 2, 1) := by decide +kernel
theorem dX7_keep__45 : decode cX7_keep_ 45 = .ok (.iadd, 1) := by decide +kernel
theorem dX7_keep__46 : decode cX7_keep_ 46 = .ok (.aload_n 0, 1) := by decide +kernel
theorem dX7_keep__47 : decode cX7_keep_ 47 = .ok (.getfield 19, 3) := by decide +kernel
theorem dX7_keep__50 : decode cX7_keep_ 50 = .ok (.iload_n 2, 1) := by decide +kernel
theorem dX7_keep__51 : decode cX7_keep_ 51 = .ok (.iaload, 1) := by decide +kernel
theorem dX7_keep__52 : decode cX7_keep_ 52 = .ok (.iastore, 1) := by decide +kernel
theorem dX7_keep__53 : decode cX7_keep_ 53 = .ok (.aload_n 1, 1) := by decide +kernel
theorem dX7_keep__54 : decode cX7_keep_ 54 = .ok (.bipush 36, 2) := by decide +kernel
theorem dX7_keep__56 : decode cX7_keep_ 56 = .ok (.iload_n 2, 1) := by decide +kernel
theorem dX7_keep__57 : decode cX7_keep_ 57 = .ok (.iadd, 1) := by decide +kernel
theorem dX7_keep__58 : decode cX7_keep_ 58 = .ok (.aload_n 0, 1) := by decide +kernel
theorem dX7_keep__59 : decode cX7_keep_ 59 = .ok (.getfield 22, 3) := by decide +kernel
theorem dX7_keep__62 : decode cX7_keep_ 62 = .ok (.iload_n 2, 1) := by decide +kernel
theorem dX7_keep__63 : decode cX7_keep_ 63 = .ok (.iaload, 1) := by decide +kernel
theorem dX7_keep__64 : decode cX7_keep_ 64 = .ok (.iastore, 1) := by decide +kernel
theorem dX7_keep__65 : decode cX7_keep_ 65 = .ok (.iinc 2 1, 3) := by decide +kernel
theorem dX7_keep__68 : decode cX7_keep_ 68 = .ok (.goto (-66), 3) := by decide +kernel
theorem dX7_keep__71 : decode cX7_keep_ 71 = .ok (.aload_n 1, 1) := by decide +kernel
theorem dX7_keep__72 : decode cX7_keep_ 72 = .ok (.bipush 45, 2) := by decide +kernel
theorem dX7_keep__74 : decode cX7_keep_ 74 = .ok (.aload_n 0, 1) := by decide +kernel
theorem dX7_keep__75 : decode cX7_keep_ 75 = .ok (.getfield 59, 3) := by decide +kernel
theorem dX7_keep__78 : decode cX7_keep_ 78 = .ok (.iastore, 1) := by decide +kernel
theorem dX7_keep__79 : decode cX7_keep_ 79 = .ok (.aload_n 1, 1) := by decide +kernel
theorem dX7_keep__80 : decode cX7_keep_ 80 = .ok (.bipush 46, 2) := by decide +kernel
theorem dX7_keep__82 : decode cX7_keep_ 82 = .ok (.aload_n 0, 1) := by decide +kernel
theorem dX7_keep__83 : decode cX7_keep_ 83 = .ok (.getfield 103, 3) := by decide +kernel
theorem dX7_keep__86 : decode cX7_keep_ 86 = .ok (.iastore, 1) := by decide +kernel
theorem dX7_keep__87 : decode cX7_keep_ 87 = .ok (.aload_n 1, 1) := by decide +kernel
theorem dX7_keep__88 : decode cX7_keep_ 88 = .ok (.bipush 47, 2) := by decide +kernel
theorem dX7_keep__90 : decode cX7_keep_ 90 = .ok (.aload_n 0, 1) := by decide +kernel
theorem dX7_keep__91 : decode cX7_keep_ 91 = .ok (.getfield 55, 3) := by decide +kernel
theorem dX7_keep__94 : decode cX7_keep_ 94 = .ok (.iastore, 1) := by decide +kernel
theorem dX7_keep__95 : decode cX7_keep_ 95 = .ok (.return_, 1) := by decide +kernel
theorem dX7_again_0 : decode cX7_again 0 = .ok (.iconst 0, 1) := by decide +kernel
theorem dX7_again_1 : decode cX7_again 1 = .ok (.istore_n 2, 1) := by decide +kernel
theorem dX7_again_2 : decode cX7_again 2 = .ok (.iload_n 2, 1) := by decide +kernel
theorem dX7_again_3 : decode cX7_again 3 = .ok (.bipush 9, 2) := by decide +kernel
theorem dX7_again_5 : decode cX7_again 5 = .ok (.if_icmp .ge 66, 3) := by decide +kernel
theorem dX7_again_8 : decode cX7_again 8 = .ok (.aload_n 0, 1) := by decide +kernel
theorem dX7_again_9 : decode cX7_again 9 = .ok (.getfield 7, 3) := by decide +kernel
theorem dX7_again_12 : decode cX7_again 12 = .ok (.iload_n 2, 1) := by decide +kernel
theorem dX7_again_13 : decode cX7_again 13 = .ok (.aload_n 1, 1) := by decide +kernel
theorem dX7_again_14 : decode cX7_again 14 = .ok (.iload_n 2, 1) := by decide +kernel
theorem dX7_again_15 : decode cX7_again 15 = .ok (.iaload, 1) := by decide +kernel
theorem dX7_again_16 : decode cX7_again 16 = .ok (.iastore, 1) := by decide +kernel
theorem dX7_again_17 : decode cX7_again 17 = .ok (.aload_n 0, 1) := by decide +kernel
theorem dX7_again_18 : decode cX7_again 18 = .ok (.getfield 13, 3) := by decide +kernel
theorem dX7_again_21 : decode cX7_again 21 = .ok (.iload_n 2, 1) := by decide +kernel
theorem dX7_again_22 : decode cX7_again 22 = .ok (.aload_n 1, 1) := by decide +kernel
theorem dX7_again_23 : decode cX7_again 23 = .ok (.bipush 9, 2) := by decide +kernel
theorem dX7_again_25 : decode cX7_again 25 = .ok (.iload_n 2, 1) := by decide +kernel
theorem dX7_again_26 : decode cX7_again 26 = .ok (.iadd, 1) := by decide +kernel
theorem dX7_again_27 : decode cX7_again 27 = .ok (.iaload, 1) := by decide +kernel
theorem dX7_again_28 : decode cX7_again 28 = .ok (.iastore, 1) := by decide +kernel
theorem dX7_again_29 : decode cX7_again 29 = .ok (.aload_n 0, 1) := by decide +kernel
theorem dX7_again_30 : decode cX7_again 30 = .ok (.getfield 16, 3) := by decide +kernel
theorem dX7_again_33 : decode cX7_again 33 = .ok (.iload_n 2, 1) := by decide +kernel
theorem dX7_again_34 : decode cX7_again 34 = .ok (.aload_n 1, 1) := by decide +kernel
theorem dX7_again_35 : decode cX7_again 35 = .ok (.bipush 18, 2) := by decide +kernel
theorem dX7_again_37 : decode cX7_again 37 = .ok (.iload_n 2, 1) := by decide +kernel
theorem dX7_again_38 : decode cX7_again 38 = .ok (.iadd, 1) := by decide +kernel
theorem dX7_again_39 : decode cX7_again 39 = .ok (.iaload, 1) := by decide +kernel
theorem dX7_again_40 : decode cX7_again 40 = .ok (.iastore, 1) := by decide +kernel
theorem dX7_again_41 : decode cX7_again 41 = .ok (.aload_n 0, 1) := by decide +kernel
theorem dX7_again_42 : decode cX7_again 42 = .ok (.getfield 19, 3) := by decide +kernel
theorem dX7_again_45 : decode cX7_again 45 = .ok (.iload_n 2, 1) := by decide +kernel
theorem dX7_again_46 : decode cX7_again 46 = .ok (.aload_n 1, 1) := by decide +kernel
theorem dX7_again_47 : decode cX7_again 47 = .ok (.bipush 27, 2) := by decide +kernel
theorem dX7_again_49 : decode cX7_again 49 = .ok (.iload_n 2, 1) := by decide +kernel
theorem dX7_again_50 : decode cX7_again 50 = .ok (.iadd, 1) := by decide +kernel
theorem dX7_again_51 : decode cX7_again 51 = .ok (.iaload, 1) := by decide +kernel
theorem dX7_again_52 : decode cX7_again 52 = .ok (.iastore, 1) := by decide +kernel
theorem dX7_again_53 : decode cX7_again 53 = .ok (.aload_n 0, 1) := by decide +kernel
theorem dX7_again_54 : decode cX7_again 54 = .ok (.getfield 22, 3) := by decide +kernel
theorem dX7_again_57 : decode cX7_again 57 = .ok (.iload_n 2, 1) := by decide +kernel
theorem dX7_again_58 : decode cX7_again 58 = .ok (.aload_n 1, 1) := by decide +kernel
theorem dX7_again_59 : decode cX7_again 59 = .ok (.bipush 36, 2) := by decide +kernel
theorem dX7_again_61 : decode cX7_again 61 = .ok (.iload_n 2, 1) := by decide +kernel
theorem dX7_again_62 : decode cX7_again 62 = .ok (.iadd, 1) := by decide +kernel
theorem dX7_again_63 : decode cX7_again 63 = .ok (.iaload, 1) := by decide +kernel
theorem dX7_again_64 : decode cX7_again 64 = .ok (.iastore, 1) := by decide +kernel
theorem dX7_again_65 : decode cX7_again 65 = .ok (.iinc 2 1, 3) := by decide +kernel
theorem dX7_again_68 : decode cX7_again 68 = .ok (.goto (-66), 3) := by decide +kernel
theorem dX7_again_71 : decode cX7_again 71 = .ok (.aload_n 0, 1) := by decide +kernel
theorem dX7_again_72 : decode cX7_again 72 = .ok (.aload_n 1, 1) := by decide +kernel
theorem dX7_again_73 : decode cX7_again 73 = .ok (.bipush 45, 2) := by decide +kernel
theorem dX7_again_75 : decode cX7_again 75 = .ok (.iaload, 1) := by decide +kernel
theorem dX7_again_76 : decode cX7_again 76 = .ok (.putfield 59, 3) := by decide +kernel
theorem dX7_again_79 : decode cX7_again 79 = .ok (.aload_n 0, 1) := by decide +kernel
theorem dX7_again_80 : decode cX7_again 80 = .ok (.aload_n 1, 1) := by decide +kernel
theorem dX7_again_81 : decode cX7_again 81 = .ok (.bipush 46, 2) := by decide +kernel
theorem dX7_again_83 : decode cX7_again 83 = .ok (.iaload, 1) := by decide +kernel
theorem dX7_again_84 : decode cX7_again 84 = .ok (.putfield 103, 3) := by decide +kernel
theorem dX7_again_87 : decode cX7_again 87 = .ok (.aload_n 0, 1) := by decide +kernel
theorem dX7_again_88 : decode cX7_again 88 = .ok (.aload_n 1, 1) := by decide +kernel
theorem dX7_again_89 : decode cX7_again 89 = .ok (.bipush 47, 2) := by decide +kernel
theorem dX7_again_91 : decode cX7_again 91 = .ok (.iaload, 1) := by decide +kernel
theorem dX7_again_92 : decode cX7_again 92 = .ok (.putfield 55, 3) := by decide +kernel
theorem dX7_again_95 : decode cX7_again 95 = .ok (.return_, 1) := by decide +kernel
theorem dX7_image_0 : decode cX7_image 0 = .ok (.aload_n 0, 1) := by decide +kernel
theorem dX7_image_1 : decode cX7_image 1 = .ok (.iconst 1, 1) := by decide +kernel
theorem dX7_image_2 : decode cX7_image 2 = .ok (.putfield 207, 3) := by decide +kernel
theorem dX7_image_5 : decode cX7_image 5 = .ok (.aload_n 0, 1) := by decide +kernel
theorem dX7_image_6 : decode cX7_image 6 = .ok (.aload_n 0, 1) := by decide +kernel
theorem dX7_image_7 : decode cX7_image 7 = .ok (.getfield 37, 3) := by decide +kernel
theorem dX7_image_10 : decode cX7_image 10 = .ok (.invokevirtual 116, 3) := by decide +kernel
theorem dX7_image_13 : decode cX7_image 13 = .ok (.aload_n 0, 1) := by decide +kernel
theorem dX7_image_14 : decode cX7_image 14 = .ok (.getfield 59, 3) := by decide +kernel
theorem dX7_image_17 : decode cX7_image 17 = .ok (.ireturn, 1) := by decide +kernel
theorem dX7_on_0 : decode cX7_on 0 = .ok (.aload_n 0, 1) := by decide +kernel
theorem dX7_on_1 : decode cX7_on 1 = .ok (.getfield 207, 3) := by decide +kernel
theorem dX7_on_4 : decode cX7_on 4 = .ok (.ifCond .ne 10, 3) := by decide +kernel
theorem dX7_on_7 : decode cX7_on 7 = .ok (.aload_n 0, 1) := by decide +kernel
theorem dX7_on_8 : decode cX7_on 8 = .ok (.bipush (-3), 2) := by decide +kernel
theorem dX7_on_10 : decode cX7_on 10 = .ok (.invokevirtual 66, 3) := by decide +kernel
theorem dX7_on_13 : decode cX7_on 13 = .ok (.ireturn, 1) := by decide +kernel
theorem dX7_on_14 : decode cX7_on 14 = .ok (.aload_n 0, 1) := by decide +kernel
theorem dX7_on_15 : decode cX7_on 15 = .ok (.aload_n 0, 1) := by decide +kernel
theorem dX7_on_16 : decode cX7_on 16 = .ok (.getfield 37, 3) := by decide +kernel
theorem dX7_on_19 : decode cX7_on 19 = .ok (.invokevirtual 120, 3) := by decide +kernel
theorem dX7_on_22 : decode cX7_on 22 = .ok (.aload_n 0, 1) := by decide +kernel
theorem dX7_on_23 : decode cX7_on 23 = .ok (.getfield 59, 3) := by decide +kernel
theorem dX7_on_26 : decode cX7_on 26 = .ok (.ireturn, 1) := by decide +kernel
theorem dX7_count_0 : decode cX7_count 0 = .ok (.iconst 0, 1) := by decide +kernel
theorem dX7_count_1 : decode cX7_count 1 = .ok (.istore_n 2, 1) := by decide +kernel
theorem dX7_count_2 : decode cX7_count 2 = .ok (.iload_n 1, 1) := by decide +kernel
theorem dX7_count_3 : decode cX7_count 3 = .ok (.tableswitch 139 0 8 #[49, 54, 60, 66, 71, 76, 103, 129, 134], 49) := by decide +kernel
theorem dX7_count_52 : decode cX7_count 52 = .ok (.aload_n 0, 1) := by decide +kernel
theorem dX7_count_53 : decode cX7_count 53 = .ok (.getfield 59, 3) := by decide +kernel
theorem dX7_count_56 : decode cX7_count 56 = .ok (.ireturn, 1) := by decide +kernel
theorem dX7_count_57 : decode cX7_count 57 = .ok (.aload_n 0, 1) := by decide +kernel
theorem dX7_count_58 : decode cX7_count 58 = .ok (.iconst 0, 1) := by decide +kernel
theorem dX7_count_59 : decode cX7_count 59 = .ok (.invokevirtual 93, 3) := by decide +kernel
theorem dX7_count_62 : decode cX7_count 62 = .ok (.ireturn, 1) := by decide +kernel
theorem dX7_count_63 : decode cX7_count 63 = .ok (.aload_n 0, 1) := by decide +kernel
theorem dX7_count_64 : decode cX7_count 64 = .ok (.iconst 1, 1) := by decide +kernel
theorem dX7_count_65 : decode cX7_count 65 = .ok (.invokevirtual 93, 3) := by decide +kernel
theorem dX7_count_68 : decode cX7_count 68 = .ok (.ireturn, 1) := by decide +kernel
theorem dX7_count_69 : decode cX7_count 69 = .ok (.aload_n 0, 1) := by decide +kernel
theorem dX7_count_70 : decode cX7_count 70 = .ok (.getfield 103, 3) := by decide +kernel
theorem dX7_count_73 : decode cX7_count 73 = .ok (.ireturn, 1) := by decide +kernel
theorem dX7_count_74 : decode cX7_count 74 = .ok (.aload_n 0, 1) := by decide +kernel
theorem dX7_count_75 : decode cX7_count 75 = .ok (.getfield 55, 3) := by decide +kernel
theorem dX7_count_78 : decode cX7_count 78 = .ok (.ireturn, 1) := by decide +kernel
theorem dX7_count_79 : decode cX7_count 79 = .ok (.iconst 0, 1) := by decide +kernel
theorem dX7_count_80 : decode cX7_count 80 = .ok (.istore_n 3, 1) := by decide +kernel
theorem dX7_count_81 : decode cX7_count 81 = .ok (.iload_n 3, 1) := by decide +kernel
theorem dX7_count_82 : decode cX7_count 82 = .ok (.aload_n 0, 1) := by decide +kernel
theorem dX7_count_83 : decode cX7_count 83 = .ok (.getfield 59, 3) := by decide +kernel
theorem dX7_count_86 : decode cX7_count 86 = .ok (.if_icmp .ge 18, 3) := by decide +kernel
theorem dX7_count_89 : decode cX7_count 89 = .ok (.iload_n 2, 1) := by decide +kernel
theorem dX7_count_90 : decode cX7_count 90 = .ok (.aload_n 0, 1) := by decide +kernel
theorem dX7_count_91 : decode cX7_count 91 = .ok (.getfield 16, 3) := by decide +kernel
theorem dX7_count_94 : decode cX7_count 94 = .ok (.iload_n 3, 1) := by decide +kernel
theorem dX7_count_95 : decode cX7_count 95 = .ok (.iaload, 1) := by decide +kernel
theorem dX7_count_96 : decode cX7_count 96 = .ok (.iadd, 1) := by decide +kernel
theorem dX7_count_97 : decode cX7_count 97 = .ok (.istore_n 2, 1) := by decide +kernel
theorem dX7_count_98 : decode cX7_count 98 = .ok (.iinc 3 1, 3) := by decide +kernel
theorem dX7_count_101 : decode cX7_count 101 = .ok (.goto (-20), 3) := by decide +kernel
theorem dX7_count_104 : decode cX7_count 104 = .ok (.iload_n 2, 1) := by decide +kernel
theorem dX7_count_105 : decode cX7_count 105 = .ok (.ireturn, 1) := by decide +kernel
theorem dX7_count_106 : decode cX7_count 106 = .ok (.iconst 0, 1) := by decide +kernel
theorem dX7_count_107 : decode cX7_count 107 = .ok (.istore_n 3, 1) := by decide +kernel
theorem dX7_count_108 : decode cX7_count 108 = .ok (.iload_n 3, 1) := by decide +kernel
theorem dX7_count_109 : decode cX7_count 109 = .ok (.aload_n 0, 1) := by decide +kernel
theorem dX7_count_110 : decode cX7_count 110 = .ok (.getfield 59, 3) := by decide +kernel
theorem dX7_count_113 : decode cX7_count 113 = .ok (.if_icmp .ge 17, 3) := by decide +kernel
theorem dX7_count_116 : decode cX7_count 116 = .ok (.iload_n 2, 1) := by decide +kernel
theorem dX7_count_117 : decode cX7_count 117 = .ok (.aload_n 0, 1) := by decide +kernel
theorem dX7_count_118 : decode cX7_count 118 = .ok (.iload_n 3, 1) := by decide +kernel
theorem dX7_count_119 : decode cX7_count 119 = .ok (.invokevirtual 143, 3) := by decide +kernel
theorem dX7_count_122 : decode cX7_count 122 = .ok (.iadd, 1) := by decide +kernel
theorem dX7_count_123 : decode cX7_count 123 = .ok (.istore_n 2, 1) := by decide +kernel
theorem dX7_count_124 : decode cX7_count 124 = .ok (.iinc 3 1, 3) := by decide +kernel
theorem dX7_count_127 : decode cX7_count 127 = .ok (.goto (-19), 3) := by decide +kernel
theorem dX7_count_130 : decode cX7_count 130 = .ok (.iload_n 2, 1) := by decide +kernel
theorem dX7_count_131 : decode cX7_count 131 = .ok (.ireturn, 1) := by decide +kernel
theorem dX7_count_132 : decode cX7_count 132 = .ok (.aload_n 0, 1) := by decide +kernel
theorem dX7_count_133 : decode cX7_count 133 = .ok (.getfield 198, 3) := by decide +kernel
theorem dX7_count_136 : decode cX7_count 136 = .ok (.ireturn, 1) := by decide +kernel
theorem dX7_count_137 : decode cX7_count 137 = .ok (.aload_n 0, 1) := by decide +kernel
theorem dX7_count_138 : decode cX7_count 138 = .ok (.getfield 70, 3) := by decide +kernel
theorem dX7_count_141 : decode cX7_count 141 = .ok (.ireturn, 1) := by decide +kernel
theorem dX7_count_142 : decode cX7_count 142 = .ok (.iload_n 1, 1) := by decide +kernel
theorem dX7_count_143 : decode cX7_count 143 = .ok (.bipush 11, 2) := by decide +kernel
theorem dX7_count_145 : decode cX7_count 145 = .ok (.bipush 16, 2) := by decide +kernel
theorem dX7_count_147 : decode cX7_count 147 = .ok (.invokestatic 62, 3) := by decide +kernel
theorem dX7_count_150 : decode cX7_count 150 = .ok (.ifCond .eq 15, 3) := by decide +kernel
theorem dX7_count_153 : decode cX7_count 153 = .ok (.aload_n 0, 1) := by decide +kernel
theorem dX7_count_154 : decode cX7_count 154 = .ok (.getfield 34, 3) := by decide +kernel
theorem dX7_count_157 : decode cX7_count 157 = .ok (.iload_n 1, 1) := by decide +kernel
theorem dX7_count_158 : decode cX7_count 158 = .ok (.bipush 10, 2) := by decide +kernel
theorem dX7_count_160 : decode cX7_count 160 = .ok (.isub, 1) := by decide +kernel
theorem dX7_count_161 : decode cX7_count 161 = .ok (.iaload, 1) := by decide +kernel
theorem dX7_count_162 : decode cX7_count 162 = .ok (.goto 5, 3) := by decide +kernel
theorem dX7_count_165 : decode cX7_count 165 = .ok (.bipush (-9), 2) := by decide +kernel
theorem dX7_count_167 : decode cX7_count 167 = .ok (.ireturn, 1) := by decide +kernel
end
section
/-! A SMALL ABSTRACT MACHINE: values are ints or places of a world whose shape is fixed; am_ex: what an instruction asks of what comes behind it; am_sound: it is so of the machine itself -/
abbrev am_V : Type := Int32 ⊕ Nat
abbrev am_C : Type := List Int32 ⊕ (Nat → Int32)
abbrev am_D : Type := List am_C
abbrev am_T : Type := Nat ⊕ (Nat × List (Nat ⊕ Nat))
abbrev am_S : Type := List am_T
abbrev am_L : Type := List (Option am_V)
abbrev am_K : Type := List am_V → am_D → Prop
def am_cv (ad : Nat → Nat) : am_V → Value
  | .inl x => .int x
  | .inr p => .ref (ad p)
def am_fv (ad : Nat → Nat) (xs : List Int32) : Nat ⊕ Nat → Value
  | .inl i => .int (xs.getD i 0)
  | .inr p => .ref (ad p)
def am_ce (cA : ClassId) (ad : Nat → Nat) : am_T → am_C → va_E
  | .inl n, .inr f => .inl (cA, n, .inl f)
  | .inr o, .inl xs => .inr (o.1, o.2.map (am_fv ad xs))
  | .inl n, .inl _ => .inl (cA, n, .inl (fun _ => 0))
  | .inr o, .inr _ => .inr (o.1, o.2.map (am_fv ad []))
def am_w (cA : ClassId) (ad : Nat → Nat) : Nat → am_S → am_D → va_W
  | i, t :: sh, d :: D => (ad i, am_ce cA ad t d) :: am_w cA ad (i + 1) sh D
  | _, _, _ => []
def am_lp (ad : Nat → Nat) : Nat → am_L → List (Nat × Value)
  | _, [] => []
  | i, none :: l => am_lp ad (i + 1) l
  | i, some v :: l => (i, am_cv ad v) :: am_lp ad (i + 1) l
theorem am_w_get (cA : ClassId) (ad : Nat → Nat) : ∀ (sh : am_S) (D : am_D) (i p : Nat) (t : am_T) (d : am_C), sh[p]? = some t → D[p]? = some d → (am_w cA ad i sh D)[p]? = some (ad (i + p), am_ce cA ad t d)
  | [], _, _, _, _, _, h, _ => by simp at h
  | _ :: _, [], _, _, _, _, _, h => by simp at h
  | t0 :: sh, d0 :: D, i, 0, t, d, h1, h2 => by
    simp only [List.getElem?_cons_zero, Option.some.injEq] at h1 h2
    subst h1; subst h2
    rfl
  | t0 :: sh, d0 :: D, i, p + 1, t, d, h1, h2 => by
    rw [List.getElem?_cons_succ] at h1 h2
    have := am_w_get cA ad sh D (i + 1) p t d h1 h2
    show (am_w cA ad (i + 1) sh D)[p]? = _
    rw [this, show i + 1 + p = i + (p + 1) by omega]
theorem am_w_set (cA : ClassId) (ad : Nat → Nat) : ∀ (sh : am_S) (D : am_D) (i p : Nat) (t : am_T) (d0 d : am_C), sh[p]? = some t → D[p]? = some d0 → (am_w cA ad i sh D).set p (ad (i + p), am_ce cA ad t d) = am_w cA ad i sh (D.set p d)
  | [], _, _, _, _, _, _, h, _ => by simp at h
  | _ :: _, [], _, _, _, _, _, _, h => by simp at h
  | t0 :: sh, e0 :: D, i, 0, t, d0, d, h1, h2 => by
    simp only [List.getElem?_cons_zero, Option.some.injEq] at h1
    subst h1
    rfl
  | t0 :: sh, e0 :: D, i, p + 1, t, d0, d, h1, h2 => by
    rw [List.getElem?_cons_succ] at h1 h2
    have := am_w_set cA ad sh D (i + 1) p t d0 d h1 h2
    show (ad i, am_ce cA ad t0 e0) :: (am_w cA ad (i + 1) sh D).set p _ = (ad i, am_ce cA ad t0 e0) :: am_w cA ad (i + 1) sh (D.set p d)
    rw [← this, show i + 1 + p = i + (p + 1) by omega]
theorem am_lp_mem (ad : Nat → Nat) : ∀ (l : am_L) (i j : Nat) (v : am_V), l[j]? = some (some v) → (i + j, am_cv ad v) ∈ am_lp ad i l
  | [], _, _, _, h => by simp at h
  | o :: l, i, 0, v, h => by
    simp only [List.getElem?_cons_zero, Option.some.injEq] at h
    subst h
    exact List.mem_cons_self
  | o :: l, i, j + 1, v, h => by
    rw [List.getElem?_cons_succ] at h
    have h1 := am_lp_mem ad l (i + 1) j v h
    rw [show i + 1 + j = i + (j + 1) by omega] at h1
    cases o with
    | none => exact h1
    | some w => exact List.mem_cons_of_mem _ h1
theorem am_lp_of (ad : Nat → Nat) : ∀ (l : am_L) (i : Nat) (q : Nat × Value), q ∈ am_lp ad i l → ∃ (j : Nat) (v : am_V), q = (i + j, am_cv ad v) ∧ l[j]? = some (some v)
  | [], _, q, h => by cases h
  | none :: l, i, q, h => by
    obtain ⟨j, v, h1, h2⟩ := am_lp_of ad l (i + 1) q h
    exact ⟨j + 1, v, by rw [h1, show i + 1 + j = i + (j + 1) by omega], by rw [List.getElem?_cons_succ]; exact h2⟩
  | some w :: l, i, q, h => by
    rcases List.mem_cons.mp h with h | h
    · exact ⟨0, w, h, rfl⟩
    · obtain ⟨j, v, h1, h2⟩ := am_lp_of ad l (i + 1) q h
      exact ⟨j + 1, v, by rw [h1, show i + 1 + j = i + (j + 1) by omega], by rw [List.getElem?_cons_succ]; exact h2⟩
theorem am_lh_at {ad : Nat → Nat} {lc : Array Slot} {nL : Nat} {ls : am_L} (h : lv_has lc nL (am_lp ad 0 ls)) {j : Nat} {v : am_V} (hj : ls[j]? = some (some v)) : lc[j]? = some (.val (am_cv ad v)) := by
  have h1 := am_lp_mem ad ls 0 j v hj
  rw [Nat.zero_add] at h1
  exact h.2.2 _ h1
theorem am_lh_set {ad : Nat → Nat} {lc : Array Slot} {nL : Nat} {ls : am_L} {j : Nat} {v : am_V} (h : lv_has lc nL ((j, am_cv ad v) :: (am_lp ad 0 ls).filter (fun q => !(q.1 == j) && !(q.1 + 1 == j && q.2.category == 2)))) : lv_has lc nL (am_lp ad 0 (ls.set j (some v))) := by
  refine ⟨h.1, h.2.1, fun q hq => ?_⟩
  obtain ⟨i, w, h1, h2⟩ := am_lp_of ad _ 0 q hq
  rw [Nat.zero_add] at h1
  by_cases hij : j = i
  · subst hij
    have h3 : (ls.set j (some v))[j]? = some (some v) := List.getElem?_set_self (by
      have := (List.getElem?_eq_some_iff.mp h2).1
      rw [List.length_set] at this
      exact this)
    rw [h3] at h2
    cases h2
    rw [h1]
    exact h.2.2 _ List.mem_cons_self
  · rw [List.getElem?_set_ne hij] at h2
    have h3 := am_lp_mem ad ls 0 i w h2
    rw [Nat.zero_add] at h3
    rw [h1]
    refine h.2.2 _ (List.mem_cons_of_mem _ (List.mem_filter.mpr ⟨h3, ?_⟩))
    have hc : (am_cv ad w).category = 1 := by cases w <;> rfl
    simp [hc, Ne.symm hij]
/-! the pieces of the machine -/
def am_p1 (st : List am_V) (k : Int32 → List am_V → Prop) : Prop := match st with
  | .inl x :: r => k x r
  | _ => False
def am_p2 (st : List am_V) (k : Int32 → Int32 → List am_V → Prop) : Prop := match st with
  | .inl y :: .inl x :: r => k x y r
  | _ => False
def am_v1 (st : List am_V) (k : am_V → List am_V → Prop) : Prop := match st with
  | v :: r => k v r
  | _ => False
def am_v2 (st : List am_V) (k : am_V → am_V → List am_V → Prop) : Prop := match st with
  | v :: w :: r => k v w r
  | _ => False
def am_pr (st : List am_V) (k : Nat → List am_V → Prop) : Prop := match st with
  | .inr p :: r => k p r
  | _ => False
def am_pir (st : List am_V) (k : Int32 → Nat → List am_V → Prop) : Prop := match st with
  | .inl i :: .inr p :: r => k i p r
  | _ => False
def am_piir (st : List am_V) (k : Int32 → Int32 → Nat → List am_V → Prop) : Prop := match st with
  | .inl x :: .inl i :: .inr p :: r => k x i p r
  | _ => False
def am_li (o : Option (Option am_V)) (k : Int32 → Prop) : Prop := match o with
  | some (some (.inl x)) => k x
  | _ => False
def am_la (o : Option (Option am_V)) (k : Nat → Prop) : Prop := match o with
  | some (some (.inr p)) => k p
  | _ => False
def am_sl (o : Option (Option am_V)) (k : Prop) : Prop := match o with
  | some _ => k
  | none => False
def am_gf (f : Option (Nat × Nat × Nat)) (t : Option am_T) (d : Option am_C) (k : am_V → Prop) : Prop := match f, t, d with
  | some (ci, n, _), some (.inr (cj, fs)), some (.inl xs) => ci = cj ∧ (match fs[n]? with
    | some (.inl i) => k (.inl (xs.getD i 0))
    | some (.inr q) => k (.inr q)
    | none => False)
  | _, _, _ => False
def am_pf (f : Option (Nat × Nat × Nat)) (t : Option am_T) (d : Option am_C) (x : Int32) (k : am_C → Prop) : Prop := match f, t, d with
  | some (ci, n, b), some (.inr (cj, fs)), some (.inl xs) => ci = cj ∧ (match fs[n]? with
    | some (.inl i) => i < xs.length ∧ (match b with
      | 1 => k (.inl (xs.set i x))
      | 2 => (x = 0 ∨ x = 1) ∧ k (.inl (xs.set i x))
      | _ => False)
    | _ => False)
  | _, _, _ => False
def am_wf : List (Nat ⊕ Nat) → Bool
  | [] => true
  | .inl i :: r => !(r.any (fun f => decide (f = .inl i))) && am_wf r
  | .inr _ :: r => am_wf r
def am_shok (sh : am_S) : Bool := sh.all (fun t => match t with
  | .inl n => decide (n < 2 ^ 31)
  | .inr o => am_wf o.2)
theorem am_wf_one : ∀ (fs : List (Nat ⊕ Nat)), am_wf fs = true → ∀ (n m i : Nat), fs[n]? = some (.inl i) → fs[m]? = some (.inl i) → m = n
  | [], _, n, m, i, h, _ => by simp at h
  | f :: r, hw, n, m, i, h1, h2 => by
    have key : am_wf r = true ∧ (f = .inl i → ∀ j : Nat, ¬ r[j]? = some (.inl i)) := by
      cases f with
      | inl a =>
        simp only [am_wf, Bool.and_eq_true, Bool.not_eq_true', List.any_eq_false, decide_eq_true_eq] at hw
        exact ⟨hw.2, fun e j hj => hw.1 _ (List.mem_of_getElem? hj) e.symm⟩
      | inr a => exact ⟨hw, fun e => by cases e⟩
    cases n with
    | zero =>
      cases m with
      | zero => rfl
      | succ m =>
        simp only [List.getElem?_cons_zero, Option.some.injEq] at h1
        rw [List.getElem?_cons_succ] at h2
        exact absurd h2 (key.2 h1 m)
    | succ n =>
      cases m with
      | zero =>
        simp only [List.getElem?_cons_zero, Option.some.injEq] at h2
        rw [List.getElem?_cons_succ] at h1
        exact absurd h1 (key.2 h2 n)
      | succ m =>
        rw [List.getElem?_cons_succ] at h1 h2
        rw [am_wf_one r key.1 n m i h1 h2]
theorem am_fs_set {ad : Nat → Nat} {fs : List (Nat ⊕ Nat)} {xs : List Int32} {n i : Nat} {x : Int32} (hw : am_wf fs = true) (hn : fs[n]? = some (.inl i)) (hi : i < xs.length) : (fs.map (am_fv ad xs)).set n (.int x) = fs.map (am_fv ad (xs.set i x)) := by
  apply List.ext_getElem?
  intro m
  by_cases hm : n = m
  · subst hm
    have hl := (List.getElem?_eq_some_iff.mp hn).1
    rw [List.getElem?_set_self (by rw [List.length_map]; exact hl), List.getElem?_map, hn]
    simp [am_fv, hi]
  · rw [List.getElem?_set_ne hm, List.getElem?_map, List.getElem?_map]
    cases hf : fs[m]? with
    | none => rfl
    | some f =>
      cases f with
      | inr p => rfl
      | inl j =>
        have hj : i ≠ j := fun e => by subst e; exact hm (am_wf_one fs hw m n i hf hn)
        simp [am_fv, List.getElem?_set_ne hj]
def am_ra (t : Option am_T) (d : Option am_C) (ro : Option (Nat × (Nat → Int32))) (p : Nat) (i : Int32) (k : Int32 → Prop) : Prop := match t, d with
  | some (.inl n), some (.inr f) => vp_in i n ∧ k (f i.toNatClampNeg)
  | none, _ => (match ro with
    | some (L, xs) => p = 999 ∧ vp_in i L ∧ k (xs i.toNatClampNeg)
    | none => False)
  | _, _ => False
def am_wa (t : Option am_T) (d : Option am_C) (i x : Int32) (k : am_C → Prop) : Prop := match t, d with
  | some (.inl n), some (.inr f) => vp_in i n ∧ k (.inr (upd f i.toNatClampNeg x))
  | _, _ => False
def am_al (ro : Option (Nat × (Nat → Int32))) (p : Nat) (k : Int32 → Prop) : Prop := match ro with
  | some (L, _) => p = 999 ∧ k (Int32.ofNat L)
  | none => False
def am_kc (o : Option am_V) (k : am_V → Prop) : Prop := match o with
  | some v => k v
  | none => False
def am_j (pc : Nat) (off : Int) (k : Nat → Prop) : Prop := 0 ≤ (pc : Int) + off ∧ k ((pc : Int) + off).toNat
def am_b (c : Prop) (t f : Prop) : Prop := (c → t) ∧ (¬ c → f)
def am_if (c : ClassFile.Cond) (x y : Int32) (t f : Prop) : Prop := match c with
  | .eq => (x = y → t) ∧ (¬ x = y → f)
  | .ne => (¬ x = y → t) ∧ (x = y → f)
  | .lt => (x < y → t) ∧ (¬ x < y → f)
  | .ge => (y ≤ x → t) ∧ (¬ y ≤ x → f)
  | .gt => (y < x → t) ∧ (¬ y < x → f)
  | .le => (x ≤ y → t) ∧ (¬ x ≤ y → f)
def am_sw (x : Int32) (dflt : Prop) : List (Int × Prop) → Prop
  | [] => dflt
  | (a, t) :: r => (x.toInt = a → t) ∧ (¬ x.toInt = a → am_sw x dflt r)
def am_lk (ps : List (Int × Int)) (pc : Nat) (k : Nat → Prop) : List (Int × Prop) := ps.map (fun q => (q.1, am_j pc q.2 k))
def am_tb (pc : Nat) (k : Nat → Prop) : Int → List Int → List (Int × Prop)
  | _, [] => []
  | i, o :: r => (i, am_j pc o k) :: am_tb pc k (i + 1) r
section AM
variable (sh : am_S) (fl : Nat → Option (Nat × Nat × Nat)) (kc : Nat → Option am_V) (ro : Option (Nat × (Nat → Int32))) (rb : Nat) (cs : Nat → List am_V → am_D → am_K → Prop) (K : List Int32 → am_D → Prop) (k : Nat → am_L → List am_V → am_D → Prop)
def am_in (i : Instr) (len pc : Nat) (ls : am_L) (st : List am_V) (D : am_D) : Prop := match i with
  | .iconst n => len = 1 ∧ k (pc + 1) ls (.inl (Int32.ofInt n) :: st) D
  | .bipush n => len = 2 ∧ k (pc + 2) ls (.inl (Int8.ofInt n).toInt32 :: st) D
  | .sipush n => len = 3 ∧ k (pc + 3) ls (.inl (Int16.ofInt n).toInt32 :: st) D
  | .ldc ix => len = 2 ∧ am_kc (kc ix) (fun v => k (pc + 2) ls (v :: st) D)
  | .ldc_w ix => len = 3 ∧ am_kc (kc ix) (fun v => match v with
    | .inl x => k (pc + 3) ls (.inl x :: st) D
    | .inr _ => False)
  | .iload_n j => len = 1 ∧ am_li ls[(j : Nat)]? (fun x => k (pc + 1) ls (.inl x :: st) D)
  | .iload j => len = 2 ∧ am_li ls[j]? (fun x => k (pc + 2) ls (.inl x :: st) D)
  | .aload_n j => len = 1 ∧ am_la ls[(j : Nat)]? (fun p => k (pc + 1) ls (.inr p :: st) D)
  | .aload j => len = 2 ∧ am_la ls[j]? (fun p => k (pc + 2) ls (.inr p :: st) D)
  | .istore_n j => len = 1 ∧ am_p1 st (fun x r => am_sl ls[(j : Nat)]? (k (pc + 1) (ls.set j (some (.inl x))) r D))
  | .istore j => len = 2 ∧ am_p1 st (fun x r => am_sl ls[j]? (k (pc + 2) (ls.set j (some (.inl x))) r D))
  | .iinc j n => len = 3 ∧ am_li ls[j]? (fun x => k (pc + 3) (ls.set j (some (.inl (x + Int32.ofInt n)))) st D)
  | .iadd => len = 1 ∧ am_p2 st (fun x y r => k (pc + 1) ls (.inl (x + y) :: r) D)
  | .isub => len = 1 ∧ am_p2 st (fun x y r => k (pc + 1) ls (.inl (x - y) :: r) D)
  | .imul => len = 1 ∧ am_p2 st (fun x y r => k (pc + 1) ls (.inl (x * y) :: r) D)
  | .iand => len = 1 ∧ am_p2 st (fun x y r => k (pc + 1) ls (.inl (x &&& y) :: r) D)
  | .ior => len = 1 ∧ am_p2 st (fun x y r => k (pc + 1) ls (.inl (x ||| y) :: r) D)
  | .ixor => len = 1 ∧ am_p2 st (fun x y r => k (pc + 1) ls (.inl (x ^^^ y) :: r) D)
  | .idiv => len = 1 ∧ am_p2 st (fun x y r => ¬ y = 0 ∧ k (pc + 1) ls (.inl (x / y) :: r) D)
  | .irem => len = 1 ∧ am_p2 st (fun x y r => ¬ y = 0 ∧ k (pc + 1) ls (.inl (x - x / y * y) :: r) D)
  | .ineg => len = 1 ∧ am_p1 st (fun x r => k (pc + 1) ls (.inl (-x) :: r) D)
  | .ishl => len = 1 ∧ am_p2 st (fun x y r => k (pc + 1) ls (.inl (x <<< (y &&& 31)) :: r) D)
  | .ishr => len = 1 ∧ am_p2 st (fun x y r => k (pc + 1) ls (.inl (x >>> (y &&& 31)) :: r) D)
  | .iushr => len = 1 ∧ am_p2 st (fun x y r => k (pc + 1) ls (.inl (x.toUInt32 >>> (y.toUInt32 &&& Int32.toUInt32 31)).toInt32 :: r) D)
  | .i2c => len = 1 ∧ am_p1 st (fun x r => k (pc + 1) ls (.inl (x.toUInt32 % 65536).toInt32 :: r) D)
  | .dup => len = 1 ∧ am_v1 st (fun v r => k (pc + 1) ls (v :: v :: r) D)
  | .pop => len = 1 ∧ am_v1 st (fun _ r => k (pc + 1) ls r D)
  | .dup_x1 => len = 1 ∧ am_v2 st (fun v w r => k (pc + 1) ls (v :: w :: v :: r) D)
  | .dup2 => len = 1 ∧ am_v2 st (fun v w r => k (pc + 1) ls (v :: w :: v :: w :: r) D)
  | .ifCond c off => len = 3 ∧ am_p1 st (fun x r => am_j pc off (fun t => am_if c x 0 (k t ls r D) (k (pc + 3) ls r D)))
  | .if_icmp c off => len = 3 ∧ am_p2 st (fun x y r => am_j pc off (fun t => am_if c x y (k t ls r D) (k (pc + 3) ls r D)))
  | .goto off => len = 3 ∧ am_j pc off (fun t => k t ls st D)
  | .lookupswitch dflt ps => ((ps.toList.zip (ps.toList.drop 1)).all (fun (a, next) => a.1 < next.1) = true) ∧ am_p1 st (fun x r => am_sw x (am_j pc dflt (fun t => k t ls r D)) (am_lk ps.toList pc (fun t => k t ls r D)))
  | .tableswitch dflt lo hi offs => lo + offs.toList.length = hi + 1 ∧ am_p1 st (fun x r => am_sw x (am_j pc dflt (fun t => k t ls r D)) (am_tb pc (fun t => k t ls r D) lo offs.toList))
  | .getfield ix => len = 3 ∧ am_pr st (fun p r => am_gf (fl ix) sh[p]? D[p]? (fun v => k (pc + 3) ls (v :: r) D))
  | .putfield ix => len = 3 ∧ am_pir st (fun x p r => am_pf (fl ix) sh[p]? D[p]? x (fun d => k (pc + 3) ls r (D.set p d)))
  | .iaload => len = 1 ∧ am_pir st (fun i p r => am_ra sh[p]? D[p]? ro p i (fun x => k (pc + 1) ls (.inl x :: r) D))
  | .iastore => len = 1 ∧ am_piir st (fun x i p r => am_wa sh[p]? D[p]? i x (fun d => k (pc + 1) ls r (D.set p d)))
  | .arraylength => len = 1 ∧ am_pr st (fun p r => am_al ro p (fun x => k (pc + 1) ls (.inl x :: r) D))
  | .invokevirtual _ => len = 3 ∧ cs pc st D (fun st' D' => k (pc + 3) ls st' D')
  | .invokestatic _ => len = 3 ∧ cs pc st D (fun st' D' => k (pc + 3) ls st' D')
  | .ireturn => len = 1 ∧ (match st with
    | [.inl v] => (match rb with
      | 1 => K [v] D
      | 2 => (v = 0 ∨ v = 1) ∧ K [v] D
      | _ => False)
    | _ => False)
  | .return_ => len = 1 ∧ (match st with
    | [] => rb = 0 ∧ K [] D
    | _ => False)
  | _ => False
def am_ex (cc : ByteArray) (pc : Nat) (ls : am_L) (st : List am_V) (D : am_D) : Prop := match decode cc pc with
  | .ok (i, len) => am_in sh fl kc ro rb cs K k i len pc ls st D
  | .error _ => False
end AM
abbrev am_X := Program × Launch × Env × Room × State × MethodId × Array Value × List Frame × Method × Code × (State → Prop) × Nat × Nat × (Nat → ClassId) × (Nat → Nat → Nat) × ClassId × (Nat → Nat) × (Nat → Prop)
def am_aw (X : am_X) (nL : Nat) (sh : am_S) (pc : Nat) (ls : am_L) (st : List am_V) (D : am_D) : Prop := match X with
  | (p, l, e, R, s, m, args, below, meth, c, Q, cells, slots, dC, dI, cA, ad, A) => ∀ (H : Heap) (locs : List Loc) (lc : Array Slot), va_P (dC, dI) vwCl (am_w cA ad 0 sh D) H → va_D A (am_w cA ad 0 sh D) → va_S A s.heap H locs → D.length = sh.length → ls.length = nL → lv_has lc nL (am_lp ad 0 ls) → W p l e R s m args below meth c H locs cells slots Q (F0 m pc lc (st.map (am_cv ad)))
/-- a field's entry: the class, its place in it, and of what type it is -/
def am_fok (own : String) (args : Array Value) (s : State) (fl : Nat → Option (Nat × Nat × Nat)) : Prop := ∀ (ix ci n b : Nat), fl ix = some (ci, n, b) → ∃ (C : String) (T : u_T) (N : Nat), vwCl[ci]? = some (C, T, N) ∧ n < N ∧ (∀ w ∈ u_ws C T N, w.before args s = true) ∧ (Cond.fieldLink own ix (T n).1 (T n).2.1 (T n).2.2.1).before args s = true ∧ (b = 1 → (T n).2.2.2 = false ∧ parseFieldDescriptor (T n).2.2.1 = some .int) ∧ (b = 2 → (T n).2.2.2 = false ∧ parseFieldDescriptor (T n).2.2.1 = some .boolean)
def am_kok (own : String) (args : Array Value) (s : State) (ad : Nat → Nat) (kc : Nat → Option am_V) : Prop := ∀ (ix : Nat) (v : am_V), kc ix = some v → match v with
  | .inl x => (Cond.constant own ix x).before args s = true
  | .inr q => ∃ tx : String, vk_R own ix tx (ad q) s
def am_ok (X : am_X) (own : String) (cc : ByteArray) (nL : Nat) (sh : am_S) (fl : Nat → Option (Nat × Nat × Nat)) (kc : Nat → Option am_V) (ro : Option (Nat × (Nat → Int32))) (rb : Nat) (cs : Nat → List am_V → am_D → am_K → Prop) (K : List Int32 → am_D → Prop) : Prop := match X with
  | (p, l, e, R, s, m, args, below, meth, c, Q, cells, slots, dC, dI, cA, ad, A) => p.tables.exec = Jvm.exec ∧ c.code = cc ∧ s.vm.findClass own = some m.cls ∧ va_K (dC, dI) vwCl [(cA, .int)] s ∧ am_shok sh = true ∧ am_fok own args s fl ∧ am_kok own args s ad kc ∧ (∀ (L : Nat) (xs : Nat → Int32), ro = some (L, xs) → va_X (ad 999) L xs s s.heap ∧ ad 999 < s.heap.size ∧ ¬ A (ad 999)) ∧
    (∀ (pc : Nat) (v : Int32) (D : am_D) (H : Heap) (locs : List Loc) (lc : Array Slot), decode cc pc = .ok (.ireturn, 1) → (rb = 1 ∨ rb = 2 ∧ (v = 0 ∨ v = 1)) → K [v] D → va_P (dC, dI) vwCl (am_w cA ad 0 sh D) H → va_D A (am_w cA ad 0 sh D) → va_S A s.heap H locs → D.length = sh.length → W p l e R s m args below meth c H locs cells slots Q (F0 m pc lc [.int v])) ∧
    (∀ (pc : Nat) (D : am_D) (H : Heap) (locs : List Loc) (lc : Array Slot), decode cc pc = .ok (.return_, 1) → rb = 0 → K [] D → va_P (dC, dI) vwCl (am_w cA ad 0 sh D) H → va_D A (am_w cA ad 0 sh D) → va_S A s.heap H locs → D.length = sh.length → W p l e R s m args below meth c H locs cells slots Q (F0 m pc lc [])) ∧
    (∀ (pc : Nat) (st : List am_V) (D : am_D) (k : am_K) (ls : am_L), cs pc st D k → (∀ st' D', k st' D' → am_aw (p, l, e, R, s, m, args, below, meth, c, Q, cells, slots, dC, dI, cA, ad, A) nL sh (pc + 3) ls st' D') → am_aw (p, l, e, R, s, m, args, below, meth, c, Q, cells, slots, dC, dI, cA, ad, A) nL sh pc ls st D)
theorem am_vw : ∀ (ci : Nat) (C : String) (T : u_T) (N : Nat), vwCl[ci]? = some (C, T, N) → ∃ ty0 : Nat → FieldType, (∀ k, k < N → parseFieldDescriptor (T k).2.2.1 = some (ty0 k)) ∧ ∀ a, a < N → ∀ b, b < N → a ≠ b → (T a).2.1 ≠ (T b).2.1 := by
  intro ci C T N h
  match ci, h with
  | 0, h => cases h; exact ⟨tyX0, tyX0_ok, nmX0⟩
  | 1, h => cases h; exact ⟨tyX1, tyX1_ok, nmX1⟩
  | 2, h => cases h; exact ⟨tyX3, tyX3_ok, nmX3⟩
  | 3, h => cases h; exact ⟨tyX4, tyX4_ok, nmX4⟩
  | 4, h => cases h; exact ⟨tyX5, tyX5_ok, nmX5⟩
  | 5, h => cases h; exact ⟨tyX6, tyX6_ok, nmX6⟩
  | 6, h => cases h; exact ⟨tyX7, tyX7_ok, nmX7⟩
  | k + 7, h => simp [vwCl] at h
end
section
section AMS
variable {p : Program} {l : Launch} {e : Env} {R : Room} {s : State} {m : MethodId} {args : Array Value} {below : List Frame} {meth : Method} {c : Code} {Q : State → Prop} {cells slots : Nat} {dC : Nat → ClassId} {dI : Nat → Nat → Nat} {cA : ClassId} {ad : Nat → Nat} {A : Nat → Prop}
theorem am_j_of {pc : Nat} {off : Int} {k : Nat → Prop} (h : am_j pc off k) : ∃ t : Nat, (pc : Int) + off = (t : Int) ∧ k t := ⟨((pc : Int) + off).toNat, (Int.toNat_of_nonneg h.1).symm, h.2⟩
theorem am_sw_lk {x : Int32} {pc : Nat} {d : Int} {k : Nat → Prop} : ∀ (ps : List (Int × Int)), am_sw x (am_j pc d k) (am_lk ps pc k) → am_j pc (Op.lookupswitch.offset ps d x.toInt) k
  | [], h => by
    have e : Op.lookupswitch.offset [] d x.toInt = d := rfl
    rw [e]
    exact h
  | (a, o) :: r, h => by
    rw [Op.lookupswitch.offset_cons]
    obtain ⟨h1, h2⟩ := h
    by_cases hx : a = x.toInt
    · rw [if_pos hx]
      exact h1 hx.symm
    · rw [if_neg hx]
      exact am_sw_lk r (h2 (fun q => hx q.symm))
theorem am_sw_tb {x : Int32} {pc : Nat} {d : Prop} {k : Nat → Prop} : ∀ (os : List Int) (lo : Int), am_sw x d (am_tb pc k lo os) → ((x.toInt < lo ∨ lo + os.length ≤ x.toInt) ∧ d) ∨ ∃ o : Int, lo ≤ x.toInt ∧ x.toInt < lo + os.length ∧ os[(x.toInt - lo).toNat]? = some o ∧ am_j pc o k
  | [], lo, h => Or.inl ⟨by simp only [List.length_nil]; omega, h⟩
  | o :: r, lo, h => by
    obtain ⟨h1, h2⟩ := h
    by_cases hx : x.toInt = lo
    · exact Or.inr ⟨o, by omega, by simp only [List.length_cons]; omega, by rw [hx, Int.sub_self]; rfl, h1 hx⟩
    · rcases am_sw_tb r (lo + 1) (h2 hx) with ⟨h3, h4⟩ | ⟨o', h3, h4, h5, h6⟩
      · exact Or.inl ⟨by simp only [List.length_cons]; omega, h4⟩
      · refine Or.inr ⟨o', by omega, by simp only [List.length_cons]; omega, ?_, h6⟩
        rw [show (x.toInt - lo).toNat = (x.toInt - (lo + 1)).toNat + 1 by omega, List.getElem?_cons_succ]
        exact h5
set_option maxHeartbeats 4000000 in
theorem am_sound {X : am_X} {own : String} {cc : ByteArray} {nL : Nat} {sh : am_S} {fl : Nat → Option (Nat × Nat × Nat)} {kc : Nat → Option am_V} {ro : Option (Nat × (Nat → Int32))} {rb : Nat} {cs : Nat → List am_V → am_D → am_K → Prop} {K : List Int32 → am_D → Prop} (O : am_ok X own cc nL sh fl kc ro rb cs K) {k : Nat → am_L → List am_V → am_D → Prop} (hk : ∀ pc ls st D, k pc ls st D → am_aw X nL sh pc ls st D) {pc : Nat} {ls : am_L} {st : List am_V} {D : am_D} (h : am_ex sh fl kc ro rb cs K k cc pc ls st D) : am_aw X nL sh pc ls st D := by
  obtain ⟨p, l, e, R, s, m, args, below, meth, c, Q, cells, slots, dC, dI, cA, ad, A⟩ := X
  obtain ⟨hx, hb, hown, hK, hsh, hfl, hkc, hro, hri, hrv, hcs⟩ := O
  unfold am_ex at h
  cases hd : decode cc pc with
  | error _ => rw [hd] at h; exact h.elim
  | ok q =>
    obtain ⟨i, len⟩ := q
    rw [hd] at h
    dsimp only at h
    have wfo : ∀ (q : Nat) (ci : Nat) (fs : List (Nat ⊕ Nat)), sh[q]? = some (.inr (ci, fs)) → am_wf fs = true := by
      intro q ci fs hq
      have := List.all_eq_true.mp hsh _ (List.mem_of_getElem? hq)
      exact this
    intro H locs lc hP hD hS hsz hlen hl
    have go : ∀ {pc' : Nat} {ls' : am_L} {st' : List am_V} {D' : am_D} {H' : Heap} {locs' : List Loc} {lc' : Array Slot}, k pc' ls' st' D' → va_P (dC, dI) vwCl (am_w cA ad 0 sh D') H' → va_D A (am_w cA ad 0 sh D') → va_S A s.heap H' locs' → D'.length = sh.length → ls'.length = nL → lv_has lc' nL (am_lp ad 0 ls') → W p l e R s m args below meth c H' locs' cells slots Q (F0 m pc' lc' (st'.map (am_cv ad))) := fun h1 h2 h3 h4 h5 h6 h7 => hk _ _ _ _ h1 _ _ _ h2 h3 h4 h5 h6 h7
    have cat : ∀ v : am_V, (am_cv ad v).category = 1 := fun v => by cases v <;> rfl
    have lt_of_ls : ∀ {j : Nat} {o : Option am_V}, ls[j]? = some o → j < nL := fun hj => by rw [← hlen]; exact (List.getElem?_eq_some_iff.mp hj).1
    cases i with
    | iconst n =>
      obtain ⟨rfl, h⟩ := h
      exact lv_iconst hx hb hd rfl (go h hP hD hS hsz hlen hl)
    | bipush n =>
      obtain ⟨rfl, h⟩ := h
      exact lv_bipush hx hb hd rfl (go h hP hD hS hsz hlen hl)
    | sipush n =>
      obtain ⟨rfl, h⟩ := h
      exact lv_sipush hx hb hd rfl (go h hP hD hS hsz hlen hl)
    | ldc ix =>
      obtain ⟨rfl, h⟩ := h
      cases hv : kc ix with
      | none => rw [hv] at h; exact h.elim
      | some v =>
        rw [hv] at h
        have h1 := hkc ix v hv
        cases v with
        | inl x => exact lv_ldc hx hb hown h1 hd (go h hP hD hS hsz hlen hl)
        | inr q =>
          obtain ⟨tx, h1⟩ := h1
          exact va_ldcS hx hb hown h1 hd (go h hP hD hS hsz hlen hl)
    | ldc_w ix =>
      obtain ⟨rfl, h⟩ := h
      cases hv : kc ix with
      | none => rw [hv] at h; exact h.elim
      | some v =>
        rw [hv] at h
        have h1 := hkc ix v hv
        cases v with
        | inl x => exact lv_ldcw hx hb hown h1 hd (go h hP hD hS hsz hlen hl)
        | inr q => exact h.elim
    | iload_n j =>
      obtain ⟨rfl, h⟩ := h
      cases hj : ls[(j : Nat)]? with
      | none => rw [hj] at h; exact h.elim
      | some o =>
        rcases o with _ | ⟨x | q⟩ <;> rw [hj] at h
        · exact h.elim
        · exact lv_iload_n hx hb hd rfl (am_lh_at hl hj) (go h hP hD hS hsz hlen hl)
        · exact h.elim
    | iload j =>
      obtain ⟨rfl, h⟩ := h
      cases hj : ls[j]? with
      | none => rw [hj] at h; exact h.elim
      | some o =>
        rcases o with _ | ⟨x | q⟩ <;> rw [hj] at h
        · exact h.elim
        · exact lv_iload hx hb hd (am_lh_at hl hj) (go h hP hD hS hsz hlen hl)
        · exact h.elim
    | aload_n j =>
      obtain ⟨rfl, h⟩ := h
      cases hj : ls[(j : Nat)]? with
      | none => rw [hj] at h; exact h.elim
      | some o =>
        rcases o with _ | ⟨x | q⟩ <;> rw [hj] at h
        · exact h.elim
        · exact h.elim
        · exact lv_aload_n hx hb hd rfl (am_lh_at hl hj) (go h hP hD hS hsz hlen hl)
    | aload j =>
      obtain ⟨rfl, h⟩ := h
      cases hj : ls[j]? with
      | none => rw [hj] at h; exact h.elim
      | some o =>
        rcases o with _ | ⟨x | q⟩ <;> rw [hj] at h
        · exact h.elim
        · exact h.elim
        · exact lv_aload hx hb hd (am_lh_at hl hj) (go h hP hD hS hsz hlen hl)
    | istore_n j =>
      obtain ⟨rfl, h⟩ := h
      rcases st with _ | ⟨x | _, r⟩
      · exact h.elim
      · cases hj : ls[(j : Nat)]? with
        | none => simp only [am_p1, hj, am_sl] at h
        | some o =>
          simp only [am_p1, hj, am_sl] at h
          exact lv_istore_n hx hb hd rfl hl (lt_of_ls hj) rfl (fun lc' hl' => go h hP hD hS hsz (by rw [List.length_set]; exact hlen) (am_lh_set (v := .inl x) hl'))
      · exact h.elim
    | istore j =>
      obtain ⟨rfl, h⟩ := h
      rcases st with _ | ⟨x | _, r⟩
      · exact h.elim
      · cases hj : ls[j]? with
        | none => simp only [am_p1, hj, am_sl] at h
        | some o =>
          simp only [am_p1, hj, am_sl] at h
          exact lv_istore hx hb hd hl (lt_of_ls hj) rfl (fun lc' hl' => go h hP hD hS hsz (by rw [List.length_set]; exact hlen) (am_lh_set (v := .inl x) hl'))
      · exact h.elim
    | iinc j n =>
      obtain ⟨rfl, h⟩ := h
      cases hj : ls[j]? with
      | none => rw [hj] at h; exact h.elim
      | some o =>
        rcases o with _ | ⟨x | q⟩ <;> rw [hj] at h
        · exact h.elim
        · obtain ⟨i, hi⟩ := List.getElem?_of_mem (am_lp_mem ad ls 0 j _ hj)
          rw [Nat.zero_add] at hi
          exact lv_iinc hx hb hd hl hi rfl (lt_of_ls hj) rfl (fun lc' hl' => go h hP hD hS hsz (by rw [List.length_set]; exact hlen) (am_lh_set (v := .inl _) hl'))
        · exact h.elim
    | iadd =>
      obtain ⟨rfl, h⟩ := h
      rcases st with _ | ⟨y | _, _ | ⟨x | _, r⟩⟩ <;> first | exact h.elim | exact lv_iadd hx hb hd (go h hP hD hS hsz hlen hl)
    | isub =>
      obtain ⟨rfl, h⟩ := h
      rcases st with _ | ⟨y | _, _ | ⟨x | _, r⟩⟩ <;> first | exact h.elim | exact lv_isub hx hb hd (go h hP hD hS hsz hlen hl)
    | imul =>
      obtain ⟨rfl, h⟩ := h
      rcases st with _ | ⟨y | _, _ | ⟨x | _, r⟩⟩ <;> first | exact h.elim | exact lv_imul hx hb hd (go h hP hD hS hsz hlen hl)
    | iand =>
      obtain ⟨rfl, h⟩ := h
      rcases st with _ | ⟨y | _, _ | ⟨x | _, r⟩⟩ <;> first | exact h.elim | exact lv_iand hx hb hd (go h hP hD hS hsz hlen hl)
    | ior =>
      obtain ⟨rfl, h⟩ := h
      rcases st with _ | ⟨y | _, _ | ⟨x | _, r⟩⟩ <;> first | exact h.elim | exact lv_ior hx hb hd (go h hP hD hS hsz hlen hl)
    | ixor =>
      obtain ⟨rfl, h⟩ := h
      rcases st with _ | ⟨y | _, _ | ⟨x | _, r⟩⟩ <;> first | exact h.elim | exact lv_ixor hx hb hd (go h hP hD hS hsz hlen hl)
    | idiv =>
      obtain ⟨rfl, h⟩ := h
      rcases st with _ | ⟨y | _, _ | ⟨x | _, r⟩⟩ <;> first | exact h.elim | exact lv_idiv hx hb hd h.1 (go h.2 hP hD hS hsz hlen hl)
    | irem =>
      obtain ⟨rfl, h⟩ := h
      rcases st with _ | ⟨y | _, _ | ⟨x | _, r⟩⟩ <;> first | exact h.elim | exact lv_irem hx hb hd h.1 (go h.2 hP hD hS hsz hlen hl)
    | ineg =>
      obtain ⟨rfl, h⟩ := h
      rcases st with _ | ⟨y | _, r⟩ <;> first | exact h.elim | exact lv_ineg hx hb hd (go h hP hD hS hsz hlen hl)
    | ishl =>
      obtain ⟨rfl, h⟩ := h
      rcases st with _ | ⟨y | _, _ | ⟨x | _, r⟩⟩ <;> first | exact h.elim | exact lv_ishl hx hb hd (go h hP hD hS hsz hlen hl)
    | ishr =>
      obtain ⟨rfl, h⟩ := h
      rcases st with _ | ⟨y | _, _ | ⟨x | _, r⟩⟩ <;> first | exact h.elim | exact lv_ishr hx hb hd (go h hP hD hS hsz hlen hl)
    | iushr =>
      obtain ⟨rfl, h⟩ := h
      rcases st with _ | ⟨y | _, _ | ⟨x | _, r⟩⟩ <;> first | exact h.elim | exact lv_iushr hx hb hd rfl (go h hP hD hS hsz hlen hl)
    | i2c =>
      obtain ⟨rfl, h⟩ := h
      rcases st with _ | ⟨y | _, r⟩ <;> first | exact h.elim | exact lv_i2c hx hb hd rfl (go h hP hD hS hsz hlen hl)
    | dup =>
      obtain ⟨rfl, h⟩ := h
      rcases st with _ | ⟨v, r⟩ <;> first | exact h.elim | exact lv_dup hx hb hd (cat v) (go h hP hD hS hsz hlen hl)
    | pop =>
      obtain ⟨rfl, h⟩ := h
      rcases st with _ | ⟨v, r⟩ <;> first | exact h.elim | exact lv_pop hx hb hd (cat v) (go h hP hD hS hsz hlen hl)
    | dup_x1 =>
      obtain ⟨rfl, h⟩ := h
      rcases st with _ | ⟨v, _ | ⟨w, r⟩⟩ <;> first | exact h.elim | exact lv_dup_x1 hx hb hd (cat v) (cat w) (go h hP hD hS hsz hlen hl)
    | dup2 =>
      obtain ⟨rfl, h⟩ := h
      rcases st with _ | ⟨v, _ | ⟨w, r⟩⟩ <;> first | exact h.elim | exact lv_dup2_11 hx hb hd (cat v) (cat w) (go h hP hD hS hsz hlen hl)
    | ifCond cd off =>
      obtain ⟨rfl, h⟩ := h
      rcases st with _ | ⟨x | _, r⟩
      · exact h.elim
      · simp only [am_p1, am_p2] at h
        obtain ⟨t, e1, h⟩ := am_j_of h
        cases cd with
        | eq => exact lv_if_eq hx hb hd e1 (fun q => go (h.1 q) hP hD hS hsz hlen hl) (fun q => go (h.2 q) hP hD hS hsz hlen hl)
        | ne => exact lv_if_ne hx hb hd e1 (fun q => go (h.1 q) hP hD hS hsz hlen hl) (fun q => go (h.2 q) hP hD hS hsz hlen hl)
        | lt => exact lv_if_lt hx hb hd e1 (fun q => go (h.1 q) hP hD hS hsz hlen hl) (fun q => go (h.2 q) hP hD hS hsz hlen hl)
        | ge => exact lv_if_ge hx hb hd e1 (fun q => go (h.1 q) hP hD hS hsz hlen hl) (fun q => go (h.2 q) hP hD hS hsz hlen hl)
        | gt => exact lv_if_gt hx hb hd e1 (fun q => go (h.1 q) hP hD hS hsz hlen hl) (fun q => go (h.2 q) hP hD hS hsz hlen hl)
        | le => exact lv_if_le hx hb hd e1 (fun q => go (h.1 q) hP hD hS hsz hlen hl) (fun q => go (h.2 q) hP hD hS hsz hlen hl)
      · exact h.elim
    | if_icmp cd off =>
      obtain ⟨rfl, h⟩ := h
      rcases st with _ | ⟨y | _, _ | ⟨x | _, r⟩⟩
      · exact h.elim
      · exact h.elim
      · simp only [am_p1, am_p2] at h
        obtain ⟨t, e1, h⟩ := am_j_of h
        cases cd with
        | eq => exact lv_icmp_eq hx hb hd e1 (fun q => go (h.1 q) hP hD hS hsz hlen hl) (fun q => go (h.2 q) hP hD hS hsz hlen hl)
        | ne => exact lv_icmp_ne hx hb hd e1 (fun q => go (h.1 q) hP hD hS hsz hlen hl) (fun q => go (h.2 q) hP hD hS hsz hlen hl)
        | lt => exact lv_icmp_lt hx hb hd e1 (fun q => go (h.1 q) hP hD hS hsz hlen hl) (fun q => go (h.2 q) hP hD hS hsz hlen hl)
        | ge => exact lv_icmp_ge hx hb hd e1 (fun q => go (h.1 q) hP hD hS hsz hlen hl) (fun q => go (h.2 q) hP hD hS hsz hlen hl)
        | gt => exact lv_icmp_gt hx hb hd e1 (fun q => go (h.1 q) hP hD hS hsz hlen hl) (fun q => go (h.2 q) hP hD hS hsz hlen hl)
        | le => exact lv_icmp_le hx hb hd e1 (fun q => go (h.1 q) hP hD hS hsz hlen hl) (fun q => go (h.2 q) hP hD hS hsz hlen hl)
      all_goals exact h.elim
    | goto off =>
      obtain ⟨rfl, h⟩ := h
      obtain ⟨t, e1, h⟩ := am_j_of h
      exact lv_goto hx hb hd e1 (go h hP hD hS hsz hlen hl)
    | lookupswitch dflt ps =>
      obtain ⟨hp, h⟩ := h
      rcases st with _ | ⟨x | _, r⟩
      · exact h.elim
      · obtain ⟨t, e1, h⟩ := am_j_of (am_sw_lk ps.toList h)
        exact lv_lookup hx hb hd hp rfl e1 (go h hP hD hS hsz hlen hl)
      · exact h.elim
    | tableswitch dflt lo hi offs =>
      obtain ⟨hp, h⟩ := h
      rcases st with _ | ⟨x | _, r⟩
      · exact h.elim
      · rcases am_sw_tb offs.toList lo h with ⟨h1, h2⟩ | ⟨o, h1, h2, h3, h4⟩
        · obtain ⟨t, e1, h⟩ := am_j_of h2
          exact lv_tableOut hx hb hd (by omega) e1 (go h hP hD hS hsz hlen hl)
        · obtain ⟨t, e1, h⟩ := am_j_of h4
          exact lv_tableIn hx hb hd (by omega) (by omega) (by rw [← Array.getElem?_toList]; exact h3) e1 (go h hP hD hS hsz hlen hl)
      · exact h.elim
    | getfield ix =>
      obtain ⟨rfl, h⟩ := h
      rcases st with _ | ⟨_ | q, r⟩
      · exact h.elim
      · exact h.elim
      · simp only [am_pr] at h
        rcases hf : fl ix with _ | ⟨ci, n, b⟩
        · rw [hf] at h; exact h.elim
        · rcases ht : sh[q]? with _ | ⟨a | ⟨cj, fs⟩⟩
          · rw [hf, ht] at h; exact h.elim
          · rw [hf, ht] at h; exact h.elim
          · rcases hdq : D[q]? with _ | ⟨xs | g⟩
            · rw [hf, ht, hdq] at h; exact h.elim
            · rw [hf, ht, hdq] at h
              obtain ⟨rfl, h⟩ := h
              obtain ⟨C, T, N, v1, v2, v3, v4, -, -⟩ := hfl ix ci n b hf
              have he := am_w_get cA ad sh D 0 q _ _ ht hdq
              rw [Nat.zero_add] at he
              rcases hn : fs[n]? with _ | ⟨i | z⟩
              · rw [hn] at h; exact h.elim
              · rw [hn] at h
                exact va_get (D := (dC, dI)) (C := C) (T := T) (N := N) hx hb v3 (fun _ z => z) hown hK hP q he v1 n v2 v4 (fun _ z => z) (v := .int (xs.getD i 0)) (by rw [List.getElem?_map, hn]; rfl) hd (go h hP hD hS hsz hlen hl)
              · rw [hn] at h
                exact va_get (D := (dC, dI)) (C := C) (T := T) (N := N) hx hb v3 (fun _ z => z) hown hK hP q he v1 n v2 v4 (fun _ z => z) (v := .ref (ad z)) (by rw [List.getElem?_map, hn]; rfl) hd (go h hP hD hS hsz hlen hl)
            · rw [hf, ht, hdq] at h; exact h.elim
    | putfield ix =>
      obtain ⟨rfl, h⟩ := h
      rcases st with _ | ⟨x | _, _ | ⟨_ | q, r⟩⟩
      · exact h.elim
      · exact h.elim
      · exact h.elim
      · simp only [am_pir] at h
        rcases hf : fl ix with _ | ⟨ci, n, b⟩
        · rw [hf] at h; exact h.elim
        · rcases ht : sh[q]? with _ | ⟨a | ⟨cj, fs⟩⟩
          · rw [hf, ht] at h; exact h.elim
          · rw [hf, ht] at h; exact h.elim
          · rcases hdq : D[q]? with _ | ⟨xs | g⟩
            · rw [hf, ht, hdq] at h; exact h.elim
            · rw [hf, ht, hdq] at h
              obtain ⟨rfl, h⟩ := h
              obtain ⟨C, T, N, v1, v2, v3, v4, v5, v6⟩ := hfl ix ci n b hf
              obtain ⟨ty0, t1, t2⟩ := am_vw ci C T N v1
              have he := am_w_get cA ad sh D 0 q _ _ ht hdq
              have hset := fun d => am_w_set cA ad sh D 0 q _ _ d ht hdq
              rw [Nat.zero_add] at he hset
              have hwf := wfo q ci fs ht
              rcases hn : fs[n]? with _ | ⟨i | z⟩
              · rw [hn] at h; exact h.elim
              · rw [hn] at h
                obtain ⟨hi, h⟩ := h
                have hset2 : (am_w cA ad 0 sh D).set q (ad q, .inr (ci, (fs.map (am_fv ad xs)).set n (.int x))) = am_w cA ad 0 sh (D.set q (.inl (xs.set i x))) := by
                  rw [am_fs_set hwf hn hi, ← hset]
                  rfl
                have hlen2 : n < (fs.map (am_fv ad xs)).length := by rw [List.length_map]; exact (List.getElem?_eq_some_iff.mp hn).1
                match b, h, v5, v6 with
                | 0, h, _, _ => exact h.elim
                | 1, h, v5, _ =>
                  obtain ⟨f1, f2⟩ := v5 rfl
                  exact va_put (D := (dC, dI)) (C := C) (T := T) (N := N) hx hb v3 (fun _ z => z) ty0 t1 t2 hown hK hP hD hS q he v1 n v2 v4 (fun _ z => z) f1 (v := .int x) f2 rfl rfl hlen2 hd (fun H1 locs1 a1 a2 a3 => go h (hset2 ▸ a1) (hset2 ▸ a2) a3 (by rw [List.length_set]; exact hsz) hlen hl)
                | 2, h, _, v6 =>
                  obtain ⟨f1, f2⟩ := v6 rfl
                  obtain ⟨h0, h⟩ := h
                  exact va_put (D := (dC, dI)) (C := C) (T := T) (N := N) hx hb v3 (fun _ z => z) ty0 t1 t2 hown hK hP hD hS q he v1 n v2 v4 (fun _ z => z) f1 (v := .int x) f2 (by rcases h0 with rfl | rfl <;> rfl) (by rcases h0 with rfl | rfl <;> rfl) hlen2 hd (fun H1 locs1 a1 a2 a3 => go h (hset2 ▸ a1) (hset2 ▸ a2) a3 (by rw [List.length_set]; exact hsz) hlen hl)
                | b + 3, h, _, _ => exact h.elim
              · rw [hn] at h; exact h.elim
            · rw [hf, ht, hdq] at h; exact h.elim
      · exact h.elim
      · exact h.elim
      · exact h.elim
    | iaload =>
      obtain ⟨rfl, h⟩ := h
      rcases st with _ | ⟨i | _, _ | ⟨_ | q, r⟩⟩
      · exact h.elim
      · exact h.elim
      · exact h.elim
      · simp only [am_pir] at h
        rcases ht : sh[q]? with _ | ⟨n | ⟨cj, fs⟩⟩
        · rw [ht] at h
          rcases hr : ro with _ | ⟨L, xs⟩
          · rw [hr] at h; cases hdq : D[q]? <;> (rw [hdq] at h; exact h.elim)
          · have h : q = 999 ∧ vp_in i L ∧ k (pc + 1) ls (.inl (xs i.toNatClampNeg) :: r) D := by
              rw [hr] at h; cases hdq : D[q]? <;> (rw [hdq] at h; exact h)
            obtain ⟨rfl, h1, h2⟩ := h
            obtain ⟨r1, r2, r3⟩ := hro L xs hr
            exact va_sld hx hb r1 r2 r3 hS h1 hd (go h2 hP hD hS hsz hlen hl)
        · rcases hdq : D[q]? with _ | ⟨xs | g⟩
          · rw [ht, hdq] at h; exact h.elim
          · rw [ht, hdq] at h; exact h.elim
          · rw [ht, hdq] at h
            have he := am_w_get cA ad sh D 0 q _ _ ht hdq
            rw [Nat.zero_add] at he
            exact va_iald (D := (dC, dI)) hx hb hK hP q 0 he rfl h.1 hd (go h.2 hP hD hS hsz hlen hl)
        · rw [ht] at h; cases hdq : D[q]? <;> (rw [hdq] at h; exact h.elim)
      · exact h.elim
      · exact h.elim
      · exact h.elim
    | iastore =>
      obtain ⟨rfl, h⟩ := h
      rcases st with _ | ⟨x | _, _ | ⟨i | _, _ | ⟨_ | q, r⟩⟩⟩
      · exact h.elim
      · exact h.elim
      · exact h.elim
      · exact h.elim
      · simp only [am_piir] at h
        rcases ht : sh[q]? with _ | ⟨n | ⟨cj, fs⟩⟩
        · rw [ht] at h; exact h.elim
        · rcases hdq : D[q]? with _ | ⟨xs | g⟩
          · rw [ht, hdq] at h; exact h.elim
          · rw [ht, hdq] at h; exact h.elim
          · rw [ht, hdq] at h
            have he := am_w_get cA ad sh D 0 q _ _ ht hdq
            have hset := am_w_set cA ad sh D 0 q _ _ (.inr (upd g i.toNatClampNeg x)) ht hdq
            rw [Nat.zero_add] at he hset
            exact va_iast (D := (dC, dI)) hx hb hK hP hD hS q 0 he rfl h.1 hd (fun H1 locs1 a1 a2 a3 => go h.2 (hset ▸ a1) (hset ▸ a2) a3 (by rw [List.length_set]; exact hsz) hlen hl)
        · rw [ht] at h; exact h.elim
      all_goals exact h.elim
    | arraylength =>
      obtain ⟨rfl, h⟩ := h
      rcases st with _ | ⟨_ | q, r⟩
      · exact h.elim
      · exact h.elim
      · simp only [am_pr] at h
        rcases hr : ro with _ | ⟨L, xs⟩
        · rw [hr] at h; exact h.elim
        · rw [hr] at h
          obtain ⟨rfl, h2⟩ := h
          obtain ⟨r1, r2, r3⟩ := hro L xs hr
          exact va_slen hx hb r1 r2 r3 hS hd (go h2 hP hD hS hsz hlen hl)
    | invokevirtual ix =>
      obtain ⟨rfl, h⟩ := h
      exact hcs pc st D _ ls h (fun st' D' q => hk _ _ _ _ q) H locs lc hP hD hS hsz hlen hl
    | invokestatic ix =>
      obtain ⟨rfl, h⟩ := h
      exact hcs pc st D _ ls h (fun st' D' q => hk _ _ _ _ q) H locs lc hP hD hS hsz hlen hl
    | ireturn =>
      obtain ⟨rfl, h⟩ := h
      rcases st with _ | ⟨v | _, _ | ⟨w, r⟩⟩
      · exact h.elim
      · match rb, h, hri with
        | 0, h, _ => exact h.elim
        | 1, h, hri => exact hri pc v D H locs lc hd (Or.inl rfl) h hP hD hS hsz
        | 2, h, hri => exact hri pc v D H locs lc hd (Or.inr ⟨rfl, h.1⟩) h.2 hP hD hS hsz
        | n + 3, h, _ => exact h.elim
      all_goals exact h.elim
    | return_ =>
      obtain ⟨rfl, h⟩ := h
      rcases st with _ | ⟨w, r⟩
      · exact hrv pc D H locs lc hd h.1 h.2 hP hD hS hsz
      · exact h.elim
    | _ => exact h.elim
end AMS
end
section
/-! CONTRACTS of methods over the abstract machine, and calls by them -/
def am_wp (X : am_X) (nL : Nat) (cc : ByteArray) (sh : am_S) (fl : Nat → Option (Nat × Nat × Nat)) (kc : Nat → Option am_V) (ro : Option (Nat × (Nat → Int32))) (rb : Nat) (cs : Nat → List am_V → am_D → am_K → Prop) (K : List Int32 → am_D → Prop) (cut : Nat → Bool) : Nat → Nat → am_L → List am_V → am_D → Prop
  | 0, pc, ls, st, D => am_aw X nL sh pc ls st D
  | n + 1, pc, ls, st, D => match cut pc with
    | true => am_aw X nL sh pc ls st D
    | false => am_ex sh fl kc ro rb cs K (am_wp X nL cc sh fl kc ro rb cs K cut n) cc pc ls st D
theorem am_run {X : am_X} {own : String} {cc : ByteArray} {nL : Nat} {sh : am_S} {fl : Nat → Option (Nat × Nat × Nat)} {kc : Nat → Option am_V} {ro : Option (Nat × (Nat → Int32))} {rb : Nat} {cs : Nat → List am_V → am_D → am_K → Prop} {K : List Int32 → am_D → Prop} (O : am_ok X own cc nL sh fl kc ro rb cs K) (cut : Nat → Bool) : ∀ (n : Nat) {pc : Nat} {ls : am_L} {st : List am_V} {D : am_D}, am_wp X nL cc sh fl kc ro rb cs K cut n pc ls st D → am_aw X nL sh pc ls st D
  | 0, _, _, _, _, h => h
  | n + 1, pc, ls, st, D, h => by
    unfold am_wp at h
    cases hc : cut pc with
    | true => rw [hc] at h; exact h
    | false => rw [hc] at h; exact am_sound O (fun _ _ _ _ h => am_run O cut n h) h
/-- the same from a cut place itself: its instruction is done first -/
theorem am_run1 {X : am_X} {own : String} {cc : ByteArray} {nL : Nat} {sh : am_S} {fl : Nat → Option (Nat × Nat × Nat)} {kc : Nat → Option am_V} {ro : Option (Nat × (Nat → Int32))} {rb : Nat} {cs : Nat → List am_V → am_D → am_K → Prop} {K : List Int32 → am_D → Prop} (O : am_ok X own cc nL sh fl kc ro rb cs K) (cut : Nat → Bool) (n : Nat) {pc : Nat} {ls : am_L} {st : List am_V} {D : am_D} (h : am_ex sh fl kc ro rb cs K (am_wp X nL cc sh fl kc ro rb cs K cut n) cc pc ls st D) : am_aw X nL sh pc ls st D := am_sound O (fun _ _ _ _ h => am_run O cut n h) h
def am_gt : List Cond := lw_tbl.filter goodWord
theorem am_gin {w : Cond} (h : w ∈ lw_tbl) (hg : goodWord w = true) : w ∈ am_gt := List.mem_filter.mpr ⟨h, hg⟩
theorem am_gok {big : List Cond} (h : ∀ w ∈ am_gt, w ∈ big) {v : Cond} (hv : v ∈ am_gt) : GoodIn big (v :: am_gt) := by
  intro w hw
  have hm : w ∈ am_gt := by
    rcases List.mem_cons.mp hw with e | e
    · rw [e]; exact hv
    · exact e
  exact ⟨h w hm, good_of_word (List.mem_filter.mp hm).2⟩
/-- what stands beside the world: the constant text, and that texts are compact -/
def am_Z (A : Nat → Prop) (U : State) (H : Heap) : Prop := va_Z "java/lang/String" "COMPACT_STRINGS" "Z" (.int 1) A U H ∧ ∃ adK adV : Nat → Nat, vk_S 1 [6] [[99, 107, 112, 115, 108, 116]] adK adV A U H ∧ vk_R RX5 53 "ckpslt" (adK 0) U ∧ vk_R RX7 80 "ckpslt" (adK 0) U
theorem am_Z.kept {A : Nat → Prop} {U : State} {H H1 : Heap} (h : am_Z A U H) (hq : ∀ a : Nat, a < H.size → ¬ A a → H1[a]? = H[a]?) : am_Z A U H1 := by
  obtain ⟨h1, adK, adV, h2, h3, h4⟩ := h
  exact ⟨h1.kept hq, adK, adV, h2.kept hq, h3, h4⟩
theorem am_Z.narrow {A B : Nat → Prop} {U : State} {H : Heap} (h : am_Z A U H) (hAB : ∀ q, B q → A q) : am_Z B U H := by
  obtain ⟨h1, adK, adV, h2, h3, h4⟩ := h
  exact ⟨h1.narrow hAB, adK, adV, h2.narrow hAB, h3, h4⟩
theorem am_Z.warm {A : Nat → Prop} {s U : State} {H : Heap} (hW : s.WarmedH U.vm) (h : am_Z A s H) : am_Z A U H := by
  obtain ⟨h1, adK, adV, h2, h3, h4⟩ := h
  exact ⟨h1.moved hW.alike, adK, adV, h2.moved hW.alike, h3.warm hW, h4.warm hW⟩
theorem am_Z.same {A : Nat → Prop} {s U : State} {H : Heap} (hv : U.vm = s.vm) (h : am_Z A s H) : am_Z A U H := by
  obtain ⟨h1, adK, adV, h2, h3, h4⟩ := h
  have ha : s.vm.Alike U.vm := by rw [hv]; exact Vm.Alike.refl s.vm
  exact ⟨h1.moved ha, adK, adV, h2.moved ha, h3.same hv, h4.same hv⟩
def am_av (ad : Nat → Nat) : List (Option Nat) → List Int32 → List Value
  | [], _ => []
  | some p :: pat, is => .ref (ad p) :: am_av ad pat is
  | none :: pat, x :: is => .int x :: am_av ad pat is
  | none :: pat, [] => .int 0 :: am_av ad pat []
/-- the state at a method's start -/
def am_pre (dC : Nat → ClassId) (dI : Nat → Nat → Nat) (cA : ClassId) (ad : Nat → Nat) (sh : am_S) (D : am_D) (sz : Nat) (U : State) : Prop := U.heap.size = sz ∧ va_P (dC, dI) vwCl (am_w cA ad 0 sh D) U.heap ∧ va_K (dC, dI) vwCl [(cA, .int)] U ∧ va_D (fun _ => True) (am_w cA ad 0 sh D) ∧ am_Z (va_A (am_w cA ad 0 sh D) sz) U U.heap
def am_post (dC : Nat → ClassId) (dI : Nat → Nat → Nat) (cA : ClassId) (ad : Nat → Nat) (sh : am_S) (A : Nat → Prop) (K : List Int32 → am_D → Prop) : Array Value → State → Outcome → State → Prop := fun _ st oc t => (∃ (rs : List Int32) (D : am_D), oc = .returned (rs.head?.map Value.int) ∧ rs.length ≤ 1 ∧ K rs D ∧ D.length = sh.length ∧ va_P (dC, dI) vwCl (am_w cA ad 0 sh D) t.heap ∧ va_D A (am_w cA ad 0 sh D)) ∧ va_F A st t
/-- THE CONTRACT: what the method's answer and world are, as a transformer T of what is asked behind it -/
def am_ctr (y : MethodName) (cc : ByteArray) (nL : Nat) (ret : Option FieldType) (fr lo : Nat) (sh : am_S) (pat : List (Option Nat)) (T : List Int32 → am_D → (List Int32 → am_D → Prop) → Prop) : Prop :=
  ∀ (l : Launch) (dC : Nat → ClassId) (dI : Nat → Nat → Nat) (cA : ClassId) (ad : Nat → Nat) (sz : Nat) (is : List Int32) (D : am_D) (K : List Int32 → am_D → Prop), T is D K → is.length = (pat.filter Option.isNone).length → D.length = sh.length →
    Met l y (.code y cc nL ret :: am_gt) { frames := fr, cells := 0, slots := 0, locals := lo } (va_Pc (am_av ad pat is) (am_pre dC dI cA ad sh D sz)) (am_post dC dI cA ad sh (va_A (am_w cA ad 0 sh D) sz) K) 0 0 (va_A (am_w cA ad 0 sh D) sz)
def am_ag (e : List Nat) : List (Option Nat) → List am_V → Option (List Int32)
  | [], [] => some []
  | none :: pat, .inl x :: as => (am_ag e pat as).map (x :: ·)
  | some q :: pat, .inr p :: as => if e[q]? = some p then am_ag e pat as else none
  | _, _ => none
def am_put : List Nat → am_D → am_D → am_D
  | p :: e, d :: ds, D => am_put e ds (D.set p d)
  | _, _, D => D
def am_site (n : Nat) (pat : List (Option Nat)) (T : List Int32 → am_D → (List Int32 → am_D → Prop) → Prop) (e fe : List Nat) (st : List am_V) (D : am_D) (k : am_K) : Prop := match am_ag fe pat (st.take n).reverse with
  | some is => (st.drop n).length ≤ 8 ∧ T is (e.map (fun p => D.getD p (.inl []))) (fun rs d => k (rs.map .inl ++ st.drop n) (am_put e d D))
  | none => False
def am_mt (e : List Nat) : am_T → am_T
  | .inl n => .inl n
  | .inr o => .inr (o.1, o.2.map (fun f => match f with
    | .inl i => .inl i
    | .inr q => .inr (e.getD q 0)))
/-- the callee's shape, laid into the caller's at the places e; fe: e, and where the callee's places lie that have no cell in its world -/
def am_pre2 : List Nat → List Nat → Bool
  | [], _ => true
  | a :: l, b :: r => decide (a = b) && am_pre2 l r
  | _ :: _, [] => false
theorem am_pre2_at : ∀ (l r : List Nat), am_pre2 l r = true → ∀ (j p : Nat), l[j]? = some p → r[j]? = some p
  | [], _, _, j, p, h => by simp at h
  | a :: l, b :: r, hp, 0, p, h => by
    simp only [am_pre2, Bool.and_eq_true, decide_eq_true_eq] at hp
    rw [← hp.1]
    exact h
  | a :: l, b :: r, hp, j + 1, p, h => by
    simp only [am_pre2, Bool.and_eq_true, decide_eq_true_eq] at hp
    exact am_pre2_at l r hp.2 j p h
  | a :: l, [], hp, j, p, h => by simp [am_pre2] at hp
def am_fit (e fe : List Nat) (sh' sh : am_S) : Bool := va_nd e && am_pre2 e fe && decide (e.map (fun p => sh[p]?) = sh'.map (fun t => some (am_mt fe t)))
end
section
theorem am_w_inv (cA : ClassId) (ad : Nat → Nat) : ∀ (sh : am_S) (D : am_D) (i p : Nat) (q : Nat × va_E), (am_w cA ad i sh D)[p]? = some q → ∃ (t : am_T) (d : am_C), sh[p]? = some t ∧ D[p]? = some d ∧ q = (ad (i + p), am_ce cA ad t d)
  | [], _, _, _, _, h => by simp [am_w] at h
  | _ :: _, [], _, _, _, h => by simp [am_w] at h
  | t0 :: sh, d0 :: D, i, 0, q, h => ⟨t0, d0, rfl, rfl, by
    have h1 : some (ad i, am_ce cA ad t0 d0) = some q := h
    exact (Option.some.inj h1).symm⟩
  | t0 :: sh, d0 :: D, i, p + 1, q, h => by
    have h1 : (am_w cA ad (i + 1) sh D)[p]? = some q := h
    obtain ⟨t, d, a1, a2, a3⟩ := am_w_inv cA ad sh D (i + 1) p q h1
    exact ⟨t, d, a1, a2, by rw [a3, show i + 1 + p = i + (p + 1) by omega]⟩
theorem am_put_len : ∀ (e : List Nat) (d D : am_D), (am_put e d D).length = D.length
  | [], _, _ => rfl
  | _ :: _, [], _ => rfl
  | p :: e, x :: d, D => by
    show (am_put e d (D.set p x)).length = D.length
    rw [am_put_len e d, List.length_set]
theorem am_put_ne : ∀ (e : List Nat) (d D : am_D) (k : Nat), k ∉ e → (am_put e d D)[k]? = D[k]?
  | [], _, _, _, _ => rfl
  | _ :: _, [], _, _, _ => rfl
  | p :: e, x :: d, D, k, h => by
    show (am_put e d (D.set p x))[k]? = D[k]?
    rw [am_put_ne e d _ k (fun q => h (List.mem_cons_of_mem _ q)), List.getElem?_set_ne (fun q : p = k => h (List.mem_cons.mpr (Or.inl q.symm)))]
theorem am_put_at : ∀ (e : List Nat) (d D : am_D) (j k : Nat), va_nd e = true → e[j]? = some k → k < D.length → j < d.length → (am_put e d D)[k]? = d[j]?
  | [], _, _, _, _, _, h, _, _ => by simp at h
  | _ :: _, [], _, _, _, _, _, _, h => by simp at h
  | p :: e, x :: d, D, 0, k, hn, h, hk, hj => by
    simp only [List.getElem?_cons_zero, Option.some.injEq] at h
    subst h
    simp only [va_nd, Bool.and_eq_true, decide_eq_true_eq] at hn
    show (am_put e d (D.set p x))[p]? = some x
    rw [am_put_ne e d _ p hn.1, List.getElem?_set_self hk]
  | p :: e, x :: d, D, j + 1, k, hn, h, hk, hj => by
    rw [List.getElem?_cons_succ] at h
    simp only [va_nd, Bool.and_eq_true, decide_eq_true_eq] at hn
    show (am_put e d (D.set p x))[k]? = d[j]?
    exact am_put_at e d _ j k hn.2 h (by rw [List.length_set]; exact hk) (by simp only [List.length_cons] at hj; omega)
theorem am_ce_mt (cA : ClassId) (ad : Nat → Nat) (e : List Nat) (t : am_T) (d : am_C) : am_ce cA ad (am_mt e t) d = am_ce cA (fun i => ad (e.getD i 0)) t d := by
  have key : ∀ (xs : List Int32) (fs : List (Nat ⊕ Nat)), (fs.map (fun f => match f with
      | .inl i => (.inl i : Nat ⊕ Nat)
      | .inr q => .inr (e.getD q 0))).map (am_fv ad xs) = fs.map (am_fv (fun i => ad (e.getD i 0)) xs) := by
    intro xs fs
    rw [List.map_map]
    apply List.map_congr_left
    intro f _
    cases f <;> rfl
  cases t with
  | inl n => cases d <;> rfl
  | inr o =>
    cases d with
    | inl xs => exact congrArg (fun z => (Sum.inr (o.1, z) : va_E)) (key xs o.2)
    | inr f => exact congrArg (fun z => (Sum.inr (o.1, z) : va_E)) (key [] o.2)
theorem am_fit_at {e fe : List Nat} {sh' sh : am_S} (h : am_fit e fe sh' sh = true) : va_nd e = true ∧ e.length = sh'.length ∧ ∀ (j p : Nat), e[j]? = some p → fe.getD j 0 = p ∧ ∃ t, sh'[j]? = some t ∧ sh[p]? = some (am_mt fe t) := by
  simp only [am_fit, Bool.and_eq_true, decide_eq_true_eq] at h
  obtain ⟨⟨h1, h0⟩, h2⟩ := h
  have hl : e.length = sh'.length := by
    have := congrArg List.length h2
    simpa using this
  refine ⟨h1, hl, fun j p hj => ⟨by rw [List.getD_eq_getElem?_getD, am_pre2_at e fe h0 j p hj]; rfl, ?_⟩⟩
  have h3 : (e.map (fun p => sh[p]?))[j]? = (sh'.map (fun t => some (am_mt fe t)))[j]? := by rw [h2]
  rw [List.getElem?_map, List.getElem?_map, hj] at h3
  cases ht : sh'[j]? with
  | none => rw [ht] at h3; cases h3
  | some t =>
    rw [ht] at h3
    exact ⟨t, rfl, Option.some.inj h3⟩
theorem am_sub_eq {cA : ClassId} {ad : Nat → Nat} {e fe : List Nat} {sh' sh : am_S} {D : am_D} (h : am_fit e fe sh' sh = true) (hD : D.length = sh.length) : e.map (fun i => (am_w cA ad 0 sh D)[i]?) = (am_w cA (fun i => ad (fe.getD i 0)) 0 sh' (e.map (fun p => D.getD p (.inl [])))).map some := by
  obtain ⟨h1, h2, h3⟩ := am_fit_at h
  apply List.ext_getElem?
  intro j
  rw [List.getElem?_map, List.getElem?_map]
  cases hj : e[j]? with
  | none =>
    have hlt : e.length ≤ j := List.getElem?_eq_none_iff.mp hj
    cases hw : (am_w cA (fun i => ad (fe.getD i 0)) 0 sh' (e.map (fun p => D.getD p (.inl []))))[j]? with
    | none => rfl
    | some q =>
      obtain ⟨t, d, a1, -, -⟩ := am_w_inv _ _ _ _ _ _ _ hw
      have := (List.getElem?_eq_some_iff.mp a1).1
      omega
  | some p =>
    obtain ⟨a0, t, a1, a2⟩ := h3 j p hj
    have hp : p < D.length := by rw [hD]; exact (List.getElem?_eq_some_iff.mp a2).1
    have hd : D[p]? = some (D.getD p (.inl [])) := by
      rw [List.getD_eq_getElem?_getD, List.getElem?_eq_getElem hp]; rfl
    have g1 := am_w_get cA ad sh D 0 p _ _ a2 hd
    have g2 := am_w_get cA (fun i => ad (fe.getD i 0)) sh' (e.map (fun p => D.getD p (.inl []))) 0 j t (D.getD p (.inl [])) a1 (by rw [List.getElem?_map, hj]; rfl)
    rw [g2]
    show some ((am_w cA ad 0 sh D)[p]?) = _
    rw [g1, am_ce_mt]
    simp only [Option.map_some, Nat.zero_add]
    rw [a0]
theorem am_ag_av {ad : Nat → Nat} {e : List Nat} : ∀ (pat : List (Option Nat)) (as : List am_V) (is : List Int32), am_ag e pat as = some is → am_av (fun i => ad (e.getD i 0)) pat is = as.map (am_cv ad) ∧ is.length = (pat.filter Option.isNone).length ∧ as.length = pat.length
  | [], [], is, h => by cases h; exact ⟨rfl, rfl, rfl⟩
  | [], _ :: _, _, h => by cases h
  | none :: pat, [], _, h => by cases h
  | some q :: pat, [], _, h => by cases h
  | none :: pat, .inr p :: as, _, h => by cases h
  | some q :: pat, .inl x :: as, _, h => by cases h
  | none :: pat, .inl x :: as, is, h => by
    simp only [am_ag, Option.map_eq_some_iff] at h
    obtain ⟨is', h1, rfl⟩ := h
    obtain ⟨a1, a2, a3⟩ := am_ag_av pat as is' h1
    refine ⟨?_, ?_, ?_⟩
    · show Value.int x :: am_av _ pat is' = Value.int x :: as.map (am_cv ad)
      rw [a1]
    · simp [a2]
    · simp [a3]
  | some q :: pat, .inr p :: as, is, h => by
    simp only [am_ag] at h
    split at h
    next hq =>
      obtain ⟨a1, a2, a3⟩ := am_ag_av (ad := ad) pat as is h
      refine ⟨?_, ?_, ?_⟩
      · show Value.ref (ad (e.getD q 0)) :: am_av _ pat is = Value.ref (ad p) :: as.map (am_cv ad)
        rw [a1, List.getD_eq_getElem?_getD, hq]; rfl
      · simp [a2]
      · simp [a3]
    next => cases h
theorem am_D_alike {cA : ClassId} {ad : Nat → Nat} {A : Nat → Prop} {sh : am_S} {D D' : am_D} (h : va_D A (am_w cA ad 0 sh D)) (hl : D.length = sh.length) : va_D A (am_w cA ad 0 sh D') := by
  have key : ∀ (k : Nat) (q : Nat × va_E), (am_w cA ad 0 sh D')[k]? = some q → ∃ q0 : Nat × va_E, (am_w cA ad 0 sh D)[k]? = some q0 ∧ q0.1 = q.1 := by
    intro k q hk
    obtain ⟨t, d, a1, a2, a3⟩ := am_w_inv _ _ _ _ _ _ _ hk
    have hlt : k < D.length := by rw [hl]; exact (List.getElem?_eq_some_iff.mp a1).1
    have g := am_w_get cA ad sh D 0 k t _ a1 (List.getElem?_eq_getElem hlt)
    exact ⟨_, g, by rw [a3]⟩
  refine ⟨fun i j x y hi hj hxy => ?_, fun k q hk => ?_⟩
  · obtain ⟨x0, b1, b2⟩ := key i x hi
    obtain ⟨y0, b3, b4⟩ := key j y hj
    exact h.1 i j x0 y0 b1 b3 (b2.trans (hxy.trans b4.symm))
  · obtain ⟨q0, b1, b2⟩ := key k q hk
    rw [← b2]
    exact h.2 k q0 b1
theorem am_pre_call {dC : Nat → ClassId} {dI : Nat → Nat → Nat} {cA : ClassId} {ad : Nat → Nat} {sh : am_S} {D : am_D} {sz : Nat} {av : List Value} : FrameBlind (va_Pc av (am_pre dC dI cA ad sh D sz)) := by
  intro a U g mk h
  obtain ⟨h0, h1, h2, h3, h4, h5⟩ := h
  exact ⟨h0, h1, h2, va_K.moved (u := U) (U := U.calling g mk a) (Vm.Alike.refl U.vm) h3, h4, am_Z.same (s := U) (U := U.calling g mk a) rfl h5⟩
/-- what a method's body may lean on when it calls -/
def am_cx (X : am_X) (own : String) (cc : ByteArray) (nL fr lo : Nat) : Prop := match X with
  | (p, l, e, R, s, m, args, below, meth, c, Q, cells, slots, dC, dI, cA, ad, A) => p.tables.exec = Jvm.exec ∧ c.code = cc ∧ c.maxLocals = nL ∧ s.vm.findClass own = some m.cls ∧ (∀ w ∈ am_gt, w.before args s = true) ∧ va_K (dC, dI) vwCl [(cA, .int)] s ∧ am_Z A s s.heap ∧ (∀ q, s.heap.size ≤ q → A q) ∧ cells ≤ R.cells ∧ slots ≤ R.slots ∧ fr ≤ R.frames ∧ lo ≤ R.locals
def am_csok (X : am_X) (nL : Nat) (sh : am_S) (pc : Nat) (f : List am_V → am_D → am_K → Prop) : Prop := ∀ (st : List am_V) (D : am_D) (k : am_K) (ls : am_L), f st D k → (∀ st' D', k st' D' → am_aw X nL sh (pc + 3) ls st' D') → am_aw X nL sh pc ls st D
/-- the words of a call -/
def am_lkV (own : String) (ix : Nat) (y : MethodName) : Prop := Cond.methodLink own ix y ∈ am_gt ∧ Cond.instanceMethod y ∈ am_gt ∧ Cond.selects y.cls y y ∈ am_gt ∧ Cond.initialized y.cls ∈ am_gt
def am_lkS (own : String) (ix : Nat) (y : MethodName) : Prop := Cond.methodLink own ix y ∈ am_gt ∧ Cond.static y ∈ am_gt ∧ Cond.initialized y.cls ∈ am_gt
/-- a method's own: its code's word, its name is a plain one -/
def am_mok (y : MethodName) (cc : ByteArray) (nL : Nat) (ret : Option FieldType) (np : Nat) : Prop := Cond.code y cc nL ret ∈ am_gt ∧ y.cls ≠ "java/lang/invoke/MethodHandle" ∧ y.cls ≠ "java/lang/invoke/VarHandle" ∧ (parseMethodDescriptor y.desc).map (fun d => d.parameters.length) = some np
set_option maxHeartbeats 1000000 in
/-- what comes behind a call -/
theorem am_after {p : Program} {l : Launch} {e : Env} {R : Room} {s : State} {m : MethodId} {args : Array Value} {below : List Frame} {meth : Method} {c : Code} {Q : State → Prop} {cells slots : Nat} {dC : Nat → ClassId} {dI : Nat → Nat → Nat} {cA : ClassId} {ad : Nat → Nat} {A : Nat → Prop} {H : Heap} {locs : List Loc} {lc : Array Slot} {nL pc : Nat} {sh sh' : am_S} {el fl : List Nat} {D : am_D} {k : am_K} {ls : am_L} {rest : List am_V} {st0 : List Value} {aa : Array Value}
    (hfit : am_fit el fl sh' sh = true) (hP : va_P (dC, dI) vwCl (am_w cA ad 0 sh D) H) (hD : va_D A (am_w cA ad 0 sh D)) (hS : va_S A s.heap H locs) (hsz : D.length = sh.length) (hlen : ls.length = nL) (hl : lv_has lc nL (am_lp ad 0 ls)) (hA : ∀ q, s.heap.size ≤ q → A q)
    (hr : va_Run p l e R s m args below meth c H locs cells slots 0 0 (F0 m pc lc st0) (rest.map (am_cv ad)) (am_post dC dI cA (fun i => ad (fl.getD i 0)) sh' (va_A (am_w cA (fun i => ad (fl.getD i 0)) 0 sh' (el.map (fun p => D.getD p (.inl [])))) H.size) (fun rs d => k (rs.map .inl ++ rest) (am_put el d D)) aa) (va_A (am_w cA (fun i => ad (fl.getD i 0)) 0 sh' (el.map (fun p => D.getD p (.inl [])))) H.size))
    (hn : ∀ st' D', k st' D' → am_aw (p, l, e, R, s, m, args, below, meth, c, Q, cells, slots, dC, dI, cA, ad, A) nL sh (pc + 3) ls st' D') : W p l e R s m args below meth c H locs cells slots Q (F0 m pc lc st0) := by
  have hsub := am_sub_eq (cA := cA) (ad := ad) hfit hsz
  have hFc := va_free hD hS hA el hsub
  obtain ⟨f1, f2, f3⟩ := am_fit_at hfit
  generalize hwc : am_w cA (fun i => ad (fl.getD i 0)) 0 sh' (el.map (fun p => D.getD p (.inl []))) = wc at hr hsub hFc
  intro T hT X
  obtain ⟨v, st₀, t, T', L, h0, X', hL, e1, e2, ⟨⟨rs, d, hv, hr1, hk', hdl, hP1, hD1⟩, hz, hkp⟩, st⟩ := hr T hT X
  have hv : v = rs.head?.map Value.int := by injection hv
  rw [h0] at hz hkp
  have apart : ∀ (i : Nat) (q : Nat × va_E), (am_w cA ad 0 sh D)[i]? = some q → i ∉ el → ¬ va_A wc H.size q.1 := by
    intro i q hi hie h
    rcases h with ⟨k2, e9, h⟩ | h
    · have h5 : (wc.map some)[k2]? = some (some (q.1, e9)) := by rw [List.getElem?_map, h]; rfl
      rw [← hsub, List.getElem?_map] at h5
      cases hk2 : el[k2]? with
      | none => rw [hk2] at h5; cases h5
      | some j =>
        rw [hk2] at h5
        have h6 : (am_w cA ad 0 sh D)[j]? = some (q.1, e9) := Option.some.inj h5
        have hij := hD.1 i j q (q.1, e9) hi h6 rfl
        subst hij
        exact hie (List.mem_of_getElem? hk2)
    · exact absurd (hP i q hi).lt (by omega)
  have hP2 : va_P (dC, dI) vwCl (am_w cA ad 0 sh (am_put el d D)) T'.heap := by
    intro i q hi
    obtain ⟨t9, d9, a1, a2, a3⟩ := am_w_inv _ _ _ _ _ _ _ hi
    rw [Nat.zero_add] at a3
    by_cases hie : i ∈ el
    · obtain ⟨j, hj⟩ := List.getElem?_of_mem hie
      obtain ⟨b0, t8, b1, b2⟩ := f3 j i hj
      rw [a1] at b2
      cases b2
      have hjl : j < d.length := by rw [hdl]; exact (List.getElem?_eq_some_iff.mp b1).1
      have hiD : i < D.length := by rw [hsz]; exact (List.getElem?_eq_some_iff.mp a1).1
      rw [am_put_at el d D j i f1 hj hiD hjl] at a2
      have g2 := am_w_get cA (fun i => ad (fl.getD i 0)) sh' d 0 j t8 d9 b1 a2
      have g3 := hP1 j _ g2
      rw [← am_ce_mt] at g3
      have hje : fl.getD (0 + j) 0 = i := by rw [Nat.zero_add]; exact b0
      try dsimp only at g3
      rw [hje] at g3
      rw [a3, e1]
      exact g3
    · rw [am_put_ne el d D i hie] at a2
      have g := am_w_get cA ad sh D 0 i t9 d9 a1 a2
      rw [Nat.zero_add] at g
      rw [a3]
      refine (hP i _ g).kept ?_
      rw [e1]
      exact hkp _ (hP i _ g).lt (apart i _ g hie)
  have hD2 : va_D A (am_w cA ad 0 sh (am_put el d D)) := am_D_alike hD hsz
  have hS2 : va_S A s.heap T'.heap (locs ++ L) := ⟨Nat.le_trans hS.1 (by rw [e1]; exact hz), fun q h1 h2 => by rw [e1, hkp q (Nat.lt_of_lt_of_le h1 hS.1) (fun z => h2 (hFc q z))]; exact hS.2.1 q h1 h2, fun q hq => by
      rcases List.mem_append.mp hq with h | h
      · exact hS.2.2 q h
      · exact hFc _ (hL q h)⟩
  obtain ⟨t2, a1, b1⟩ := hn _ _ hk' T'.heap (locs ++ L) lc hP2 hD2 hS2 (by rw [am_put_len]; exact hsz) hlen hl T' rfl X'
  refine ⟨t2, st t2 ?_, b1⟩
  have hst : (rs.map Sum.inl ++ rest).map (am_cv ad) = v.toList ++ rest.map (am_cv ad) := by
    rw [hv]
    rcases rs with _ | ⟨x, _ | ⟨y, r⟩⟩
    · rfl
    · rfl
    · simp at hr1
  rw [hst] at a1
  exact a1
theorem am_pre_of {s : State} {dC : Nat → ClassId} {dI : Nat → Nat → Nat} {cA : ClassId} {ad : Nat → Nat} {A : Nat → Prop} {H : Heap} {locs : List Loc} {sh sh' : am_S} {el fl : List Nat} {D : am_D}
    (hfit : am_fit el fl sh' sh = true) (hK : va_K (dC, dI) vwCl [(cA, .int)] s) (hP : va_P (dC, dI) vwCl (am_w cA ad 0 sh D) H) (hD : va_D A (am_w cA ad 0 sh D)) (hS : va_S A s.heap H locs) (hsz : D.length = sh.length) (hA : ∀ q, s.heap.size ≤ q → A q) (hZ : am_Z A s s.heap) :
    va_P (dC, dI) vwCl (am_w cA (fun i => ad (fl.getD i 0)) 0 sh' (el.map (fun p => D.getD p (.inl [])))) H ∧ ∀ U : State, U.heap = H → s.WarmedH U.vm → am_pre dC dI cA (fun i => ad (fl.getD i 0)) sh' (el.map (fun p => D.getD p (.inl []))) H.size U := by
  have hsub := am_sub_eq (cA := cA) (ad := ad) hfit hsz
  have hFc := va_free hD hS hA el hsub
  obtain ⟨f1, f2, f3⟩ := am_fit_at hfit
  have hPc : va_P (dC, dI) vwCl (am_w cA (fun i => ad (fl.getD i 0)) 0 sh' (el.map (fun p => D.getD p (.inl [])))) H := by
    intro k q hk
    have h1 : (el.map (fun i => (am_w cA ad 0 sh D)[i]?))[k]? = some (some q) := by rw [hsub, List.getElem?_map, hk]; rfl
    rw [List.getElem?_map] at h1
    cases hi : el[k]? with
    | none => rw [hi] at h1; cases h1
    | some i => rw [hi] at h1; exact hP i q (Option.some.inj h1)
  have hDc := hD.sub el f1 hsub
  refine ⟨hPc, fun U hU hW => ⟨by rw [hU], by rw [hU]; exact hPc, va_K.moved hW.alike hK, hDc.weaken (fun _ _ _ _ => trivial), ?_⟩⟩
  rw [hU]
  exact ((hZ.kept hS.2.1).narrow hFc).warm hW
set_option maxHeartbeats 1000000 in
theorem am_callV {X : am_X} {own : String} {cc cc' : ByteArray} {nL nL' fr lo fr' lo' n ix pc q0 ci np : Nat} {sh sh' : am_S} {y : MethodName} {ret : Option FieldType} {pat : List (Option Nat)} {T : List Int32 → am_D → (List Int32 → am_D → Prop) → Prop} {el fl : List Nat} {fs : List (Nat ⊕ Nat)} {F : u_T} {N : Nat}
    (hX : am_cx X own cc nL fr lo) (C : am_ctr y cc' nL' ret fr' lo' sh' (some q0 :: pat) T) (hm : am_mok y cc' nL' ret np) (hnp : pat.length = np) (hlk : am_lkV own ix y) (hd : decode cc pc = .ok (.invokevirtual ix, 3)) (hfit : am_fit el fl sh' sh = true) (hq0 : sh'[q0]? = some (.inr (ci, fs))) (hci : vwCl[ci]? = some (y.cls, F, N)) (hR : fr' + 1 ≤ fr ∧ 8 + (nL' + 11) + lo' ≤ lo) :
    am_csok X nL sh pc (am_site n (some q0 :: pat) T el fl) := by
  obtain ⟨p, l, e, R, s, m, args, below, meth, c, Q, cells, slots, dC, dI, cA, ad, A⟩ := X
  obtain ⟨hx, hb, hml, hown, hts, hK, hZ, hA, hc1, hc2, hR1, hR2⟩ := hX
  intro st D k ls h hn H locs lc hP hD hS hsz hlen hl
  unfold am_site at h
  cases hag : am_ag fl (some q0 :: pat) (st.take n).reverse with
  | none => rw [hag] at h; exact h.elim
  | some is =>
    rw [hag] at h
    obtain ⟨h8, hT⟩ := h
    obtain ⟨a1, a2, a3⟩ := am_ag_av (ad := ad) _ _ _ hag
    obtain ⟨f1, f2, f3⟩ := am_fit_at hfit
    obtain ⟨hPc, hpre⟩ := am_pre_of hfit hK hP hD hS hsz hA hZ
    have hM := C l dC dI cA (fun i => ad (fl.getD i 0)) H.size is _ _ hT a2 (by rw [List.length_map]; exact f2)
    obtain ⟨m1, m2, m3, m4⟩ := hm
    obtain ⟨k1, k2, k3, k4⟩ := hlk
    have hG : GoodIn am_gt (.code y cc' nL' ret :: am_gt) := am_gok (fun _ h => h) m1
    have cB : CallB R s args own ix y cc' nL' ret (.code y cc' nL' ret :: am_gt) { frames := fr', cells := 0, slots := 0, locals := lo' } 0 0 np := callB_of np hts hG rfl rfl rfl (hts _ k4) (hts _ k1) ⟨m2, m3, m4⟩ ⟨Nat.le_trans hR.1 hR1, Nat.le_trans hR.2 hR2⟩
    obtain ⟨As, hAs⟩ : ∃ As, As = am_av (fun i => ad (fl.getD i 0)) pat is := ⟨_, rfl⟩
    have hav : am_av (fun i => ad (fl.getD i 0)) (some q0 :: pat) is = .ref (ad (fl.getD q0 0)) :: As := by rw [hAs]; rfl
    rw [hav] at hM a1
    have hAl : As.length = np := by
      have := congrArg List.length a1
      simp only [List.length_cons, List.length_map, a3] at this
      omega
    have hstk : st.map (am_cv ad) = As.reverse ++ .ref (ad (fl.getD q0 0)) :: (st.drop n).map (am_cv ad) := by
      have e3 : (st.take n).map (am_cv ad) = As.reverse ++ [.ref (ad (fl.getD q0 0))] := by
        have := congrArg List.reverse a1
        rw [List.map_reverse, List.reverse_reverse, List.reverse_cons] at this
        exact this.symm
      conv => lhs; rw [← List.take_append_drop n st]
      rw [List.map_append, e3, List.append_assoc]
      rfl
    have hd0 : (el.map (fun p => D.getD p (.inl [])))[q0]? = some ((el.map (fun p => D.getD p (.inl []))).getD q0 (.inl [])) := by
      have hlt : q0 < (el.map (fun p => D.getD p (.inl []))).length := by rw [List.length_map, f2]; exact (List.getElem?_eq_some_iff.mp hq0).1
      rw [List.getD_eq_getElem?_getD, List.getElem?_eq_getElem hlt]; rfl
    have hrecv : ∃ cell : Cell, H[ad (fl.getD q0 0)]? = some cell ∧ cell.vm.isStatics = false ∧ s.vm.findClass y.cls = some cell.cls := by
      have g := am_w_get cA (fun i => ad (fl.getD i 0)) sh' _ 0 q0 _ _ hq0 hd0
      rw [Nat.zero_add] at g
      generalize (el.map (fun p => D.getD p (.inl []))).getD q0 (.inl []) = dd at g
      cases dd with
      | inl xs => exact va_recv hK hPc hci g
      | inr f => exact va_recv hK hPc hci g
    have hsum : (((st.drop n).map (am_cv ad)).map fun v => v.category).sum ≤ 8 := by
      have e5 : ∀ r : List am_V, ((r.map (am_cv ad)).map fun v => v.category).sum = r.length := by
        intro r
        induction r with
        | nil => rfl
        | cons v r ih =>
          have hv : (am_cv ad v).category = 1 := by cases v <;> rfl
          simp only [List.map_cons, List.sum_cons, List.length_cons, hv, ih]
          omega
      rw [e5]
      exact h8
    have hrun := va_runV (nL := nL) (b := ad (fl.getD q0 0)) (As := As) (rest := (st.drop n).map (am_cv ad)) (g := F0 m pc lc (st.map (am_cv ad))) (H := H) (locs := locs) (cells := cells) (slots := slots) (Ts := am_gt) (C := y.cls) (e := e) (below := below) (meth := meth) ⟨hx, hb, hml, hown, hts⟩ hM ⟨cB, hts _ k2, hts _ k3⟩ ⟨am_pre_call, hrecv, fun U hU hW => ⟨rfl, hpre U hU hW⟩⟩ rfl hAl hl.1 hstk (lv_room hsum) hd ⟨by omega, by omega⟩
    exact am_after hfit hP hD hS hsz hlen hl hA hrun hn
set_option maxHeartbeats 1000000 in
theorem am_callS {X : am_X} {own : String} {cc cc' : ByteArray} {nL nL' fr lo fr' lo' n ix pc np : Nat} {sh sh' : am_S} {y : MethodName} {ret : Option FieldType} {pat : List (Option Nat)} {T : List Int32 → am_D → (List Int32 → am_D → Prop) → Prop} {el fl : List Nat}
    (hX : am_cx X own cc nL fr lo) (C : am_ctr y cc' nL' ret fr' lo' sh' pat T) (hm : am_mok y cc' nL' ret np) (hnp : pat.length = np) (hlk : am_lkS own ix y) (hd : decode cc pc = .ok (.invokestatic ix, 3)) (hfit : am_fit el fl sh' sh = true) (hR : fr' + 1 ≤ fr ∧ 8 + (nL' + 11) + lo' ≤ lo) :
    am_csok X nL sh pc (am_site n pat T el fl) := by
  obtain ⟨p, l, e, R, s, m, args, below, meth, c, Q, cells, slots, dC, dI, cA, ad, A⟩ := X
  obtain ⟨hx, hb, hml, hown, hts, hK, hZ, hA, hc1, hc2, hR1, hR2⟩ := hX
  intro st D k ls h hn H locs lc hP hD hS hsz hlen hl
  unfold am_site at h
  cases hag : am_ag fl pat (st.take n).reverse with
  | none => rw [hag] at h; exact h.elim
  | some is =>
    rw [hag] at h
    obtain ⟨h8, hT⟩ := h
    obtain ⟨a1, a2, a3⟩ := am_ag_av (ad := ad) _ _ _ hag
    obtain ⟨f1, f2, f3⟩ := am_fit_at hfit
    obtain ⟨hPc, hpre⟩ := am_pre_of hfit hK hP hD hS hsz hA hZ
    have hM := C l dC dI cA (fun i => ad (fl.getD i 0)) H.size is _ _ hT a2 (by rw [List.length_map]; exact f2)
    obtain ⟨m1, m2, m3, m4⟩ := hm
    obtain ⟨k1, k2, k4⟩ := hlk
    have hG : GoodIn am_gt (.code y cc' nL' ret :: am_gt) := am_gok (fun _ h => h) m1
    have cB : CallB R s args own ix y cc' nL' ret (.code y cc' nL' ret :: am_gt) { frames := fr', cells := 0, slots := 0, locals := lo' } 0 0 np := callB_of np hts hG rfl rfl rfl (hts _ k4) (hts _ k1) ⟨m2, m3, m4⟩ ⟨Nat.le_trans hR.1 hR1, Nat.le_trans hR.2 hR2⟩
    obtain ⟨As, hAs⟩ : ∃ As, As = am_av (fun i => ad (fl.getD i 0)) pat is := ⟨_, rfl⟩
    rw [← hAs] at hM a1
    have hAl : As.length = np := by
      have := congrArg List.length a1
      simp only [List.length_map, a3] at this
      omega
    have hstk : st.map (am_cv ad) = As.reverse ++ (st.drop n).map (am_cv ad) := by
      have e3 : (st.take n).map (am_cv ad) = As.reverse := by
        have := congrArg List.reverse a1
        rw [List.map_reverse, List.reverse_reverse] at this
        exact this.symm
      conv => lhs; rw [← List.take_append_drop n st]
      rw [List.map_append, e3]
    have hsum : (((st.drop n).map (am_cv ad)).map fun v => v.category).sum ≤ 8 := by
      have e5 : ∀ r : List am_V, ((r.map (am_cv ad)).map fun v => v.category).sum = r.length := by
        intro r
        induction r with
        | nil => rfl
        | cons v r ih =>
          have hv : (am_cv ad v).category = 1 := by cases v <;> rfl
          simp only [List.map_cons, List.sum_cons, List.length_cons, hv, ih]
          omega
      rw [e5]
      exact h8
    have hrun := va_runS (nL := nL) (As := As) (rest := (st.drop n).map (am_cv ad)) (g := F0 m pc lc (st.map (am_cv ad))) (H := H) (locs := locs) (cells := cells) (slots := slots) (Ts := am_gt) (e := e) (below := below) (meth := meth) ⟨hx, hb, hml, hown, hts⟩ hM ⟨cB, hts _ k2⟩ ⟨am_pre_call, fun U hU hW => ⟨rfl, hpre U hU hW⟩⟩ rfl hAl hl.1 hstk (lv_room hsum) hd ⟨by omega, by omega⟩
    exact am_after hfit hP hD hS hsz hlen hl hA hrun hn
end
section
def am_l0 : Nat → List (Option Nat) → List Int32 → am_L
  | n, [], _ => List.replicate n none
  | n, some p :: pat, is => some (.inr p) :: am_l0 (n - 1) pat is
  | n, none :: pat, x :: is => some (.inl x) :: am_l0 (n - 1) pat is
  | n, none :: pat, [] => some (.inl 0) :: am_l0 (n - 1) pat []
theorem am_lp_none (ad : Nat → Nat) : ∀ (n i : Nat), am_lp ad i (List.replicate n none) = []
  | 0, _ => rfl
  | n + 1, i => am_lp_none ad n (i + 1)
theorem am_l0_lp (ad : Nat → Nat) : ∀ (pat : List (Option Nat)) (is : List Int32) (n i : Nat), am_lp ad i (am_l0 n pat is) = lv_args i (am_av ad pat is)
  | [], is, n, i => by cases is <;> exact am_lp_none ad n i
  | some p :: pat, is, n, i => by
    have h := am_l0_lp ad pat is (n - 1) (i + 1)
    have e : am_av ad (some p :: pat) is = .ref (ad p) :: am_av ad pat is := by cases is <;> rfl
    have e2 : am_l0 n (some p :: pat) is = some (.inr p) :: am_l0 (n - 1) pat is := by cases is <;> rfl
    rw [e, e2]
    show (i, Value.ref (ad p)) :: am_lp ad (i + 1) (am_l0 (n - 1) pat is) = (i, Value.ref (ad p)) :: lv_args (i + 1) (am_av ad pat is)
    rw [h]
  | none :: pat, x :: is, n, i => by
    have h := am_l0_lp ad pat is (n - 1) (i + 1)
    show (i, Value.int x) :: am_lp ad (i + 1) (am_l0 (n - 1) pat is) = (i, Value.int x) :: lv_args (i + 1) (am_av ad pat is)
    rw [h]
  | none :: pat, [], n, i => by
    have h := am_l0_lp ad pat [] (n - 1) (i + 1)
    show (i, Value.int 0) :: am_lp ad (i + 1) (am_l0 (n - 1) pat []) = (i, Value.int 0) :: lv_args (i + 1) (am_av ad pat [])
    rw [h]
theorem am_l0_len : ∀ (pat : List (Option Nat)) (is : List Int32) (n : Nat), pat.length ≤ n → (am_l0 n pat is).length = n
  | [], is, n, _ => by cases is <;> exact List.length_replicate
  | some p :: pat, is, n, h => by
    simp only [List.length_cons] at h
    have e2 : am_l0 n (some p :: pat) is = some (.inr p) :: am_l0 (n - 1) pat is := by cases is <;> rfl
    rw [e2, List.length_cons, am_l0_len pat is (n - 1) (by omega)]; omega
  | none :: pat, x :: is, n, h => by
    simp only [List.length_cons] at h
    show (am_l0 (n - 1) pat is).length + 1 = n
    rw [am_l0_len pat is (n - 1) (by omega)]; omega
  | none :: pat, [], n, h => by
    simp only [List.length_cons] at h
    show (am_l0 (n - 1) pat []).length + 1 = n
    rw [am_l0_len pat [] (n - 1) (by omega)]; omega
theorem am_sl_len (ad : Nat → Nat) : ∀ (pat : List (Option Nat)) (is : List Int32), (lg_sl (am_av ad pat is)).length = pat.length
  | [], is => by cases is <;> rfl
  | some p :: pat, is => by
    have h := am_sl_len ad pat is
    have e : am_av ad (some p :: pat) is = .ref (ad p) :: am_av ad pat is := by cases is <;> rfl
    rw [e]
    simp only [lg_sl, List.flatMap_cons, List.length_append, List.length_cons] at h ⊢
    rw [h]
    show 1 + _ = _
    omega
  | none :: pat, x :: is => by
    have h := am_sl_len ad pat is
    show (lg_sl (Value.int x :: am_av ad pat is)).length = _
    simp only [lg_sl, List.flatMap_cons, List.length_append, List.length_cons] at h ⊢
    rw [h]
    show 1 + _ = _
    omega
  | none :: pat, [] => by
    have h := am_sl_len ad pat []
    show (lg_sl (Value.int 0 :: am_av ad pat [])).length = _
    simp only [lg_sl, List.flatMap_cons, List.length_append, List.length_cons] at h ⊢
    rw [h]
    show 1 + _ = _
    omega
/-- the tables' words of a class's field and number entries -/
def am_flw (own : String) (fl : Nat → Option (Nat × Nat × Nat)) : Prop := ∀ (ix ci n b : Nat), fl ix = some (ci, n, b) → ∃ (C : String) (T : u_T) (N : Nat), vwCl[ci]? = some (C, T, N) ∧ n < N ∧ (∀ w ∈ u_ws C T N, w ∈ am_gt) ∧ Cond.fieldLink own ix (T n).1 (T n).2.1 (T n).2.2.1 ∈ am_gt ∧ (b = 1 → (T n).2.2.2 = false ∧ parseFieldDescriptor (T n).2.2.1 = some .int) ∧ (b = 2 → (T n).2.2.2 = false ∧ parseFieldDescriptor (T n).2.2.1 = some .boolean)
def am_kcw (own : String) (kc : Nat → Option am_V) : Prop := ∀ (ix : Nat) (v : am_V), kc ix = some v → match v with
  | .inl x => Cond.constant own ix x ∈ am_gt
  | .inr q => q = 998 ∧ ((own = RX5 ∧ ix = 53) ∨ (own = RX7 ∧ ix = 80))
theorem am_flw_ok {own : String} {fl : Nat → Option (Nat × Nat × Nat)} (h : am_flw own fl) {args : Array Value} {s : State} (hts : ∀ w ∈ am_gt, w.before args s = true) : am_fok own args s fl := by
  intro ix ci n b hf
  obtain ⟨C, T, N, h1, h2, h3, h4, h5, h6⟩ := h ix ci n b hf
  exact ⟨C, T, N, h1, h2, fun w hw => hts w (h3 w hw), hts _ h4, h5, h6⟩
theorem am_w_ad {cA : ClassId} {ad ad' : Nat → Nat} {sh : am_S} {D : am_D} : ∀ (i : Nat), (∀ p, p < i + sh.length → ad p = ad' p) → (∀ t ∈ sh, ∀ o, t = Sum.inr o → ∀ q, Sum.inr q ∈ o.2 → ad q = ad' q) → am_w cA ad i sh D = am_w cA ad' i sh D := by
  induction sh generalizing D with
  | nil => intro i _ _; cases D <;> rfl
  | cons t sh ih =>
    intro i h1 h2
    cases D with
    | nil => rfl
    | cons d D =>
      show (ad i, am_ce cA ad t d) :: am_w cA ad (i + 1) sh D = (ad' i, am_ce cA ad' t d) :: am_w cA ad' (i + 1) sh D
      rw [ih (i + 1) (fun p hp => h1 p (by simp only [List.length_cons]; omega)) (fun t' ht' => h2 t' (List.mem_cons_of_mem _ ht')), h1 i (by simp only [List.length_cons]; omega)]
      congr 1
      congr 1
      cases t with
      | inl n => cases d <;> rfl
      | inr o =>
        have key : ∀ xs : List Int32, o.2.map (am_fv ad xs) = o.2.map (am_fv ad' xs) := by
          intro xs
          apply List.map_congr_left
          intro f hf
          cases f with
          | inl i => rfl
          | inr q => show Value.ref (ad q) = Value.ref (ad' q); rw [h2 _ List.mem_cons_self o rfl q hf]
        cases d with
        | inl xs => exact congrArg (fun z => (Sum.inr (o.1, z) : va_E)) (key xs)
        | inr f => exact congrArg (fun z => (Sum.inr (o.1, z) : va_E)) (key [])
/-- no place of a shape is the text's -/
def am_low (sh : am_S) (pat : List (Option Nat)) : Bool := decide (sh.length ≤ 998) && sh.all (fun t => match t with
  | .inl _ => true
  | .inr o => o.2.all (fun f => match f with
    | .inl _ => true
    | .inr q => decide (q < 998))) && pat.all (fun o => match o with
  | none => true
  | some q => decide (q < 998))
theorem am_av_ad {ad ad' : Nat → Nat} : ∀ (pat : List (Option Nat)) (is : List Int32), (∀ q, some q ∈ pat → ad q = ad' q) → am_av ad pat is = am_av ad' pat is
  | [], is, _ => by cases is <;> rfl
  | some p :: pat, is, h => by
    have e : ∀ ad, am_av ad (some p :: pat) is = .ref (ad p) :: am_av ad pat is := fun ad => by cases is <;> rfl
    rw [e, e, h p List.mem_cons_self, am_av_ad pat is (fun q hq => h q (List.mem_cons_of_mem _ hq))]
  | none :: pat, x :: is, h => by
    show Value.int x :: am_av ad pat is = Value.int x :: am_av ad' pat is
    rw [am_av_ad pat is (fun q hq => h q (List.mem_cons_of_mem _ hq))]
  | none :: pat, [], h => by
    show Value.int 0 :: am_av ad pat [] = Value.int 0 :: am_av ad' pat []
    rw [am_av_ad pat [] (fun q hq => h q (List.mem_cons_of_mem _ hq))]
set_option maxHeartbeats 1000000 in
/-- A CONTRACT out of the body's walk over the abstract machine -/
theorem am_mk {y : MethodName} {cc : ByteArray} {nL fr lo : Nat} {ret : Option FieldType} {sh : am_S} {pat : List (Option Nat)} {T : List Int32 → am_D → (List Int32 → am_D → Prop) → Prop} {fl : Nat → Option (Nat × Nat × Nat)} {kc : Nat → Option am_V} {rb : Nat} {cs : Nat → List am_V → am_D → am_K → Prop}
    (hy : plainName y.cls = true) (hret : (ret = none ∧ rb = 0) ∨ (ret = some .int ∧ rb = 1) ∨ (ret = some .boolean ∧ rb = 2)) (hsh : am_shok sh = true) (hlow : am_low sh pat = true) (hnL : pat.length ≤ nL) (hfl : am_flw y.cls fl) (hkc : am_kcw y.cls kc)
    (hcs : ∀ X : am_X, am_cx X y.cls cc nL fr lo → ∀ pc, am_csok X nL sh pc (cs pc))
    (body : ∀ (X : am_X) (is : List Int32) (D : am_D) (K : List Int32 → am_D → Prop), am_ok X y.cls cc nL sh fl kc none rb cs K → T is D K → is.length = (pat.filter Option.isNone).length → D.length = sh.length → am_aw X nL sh 0 (am_l0 nL pat is) [] D) : am_ctr y cc nL ret fr lo sh pat T := by
  intro l dC dI cA ad0 sz is D K hT his hDl
  refine Met.ofW (cc := cc) (maxL := nL) (ret := ret) hy rfl ?_
  intro p e s m args below meth c s₁ B hml hv
  obtain ⟨rfl, hsz, hP, hK, hD0, hZ⟩ := hv
  have hx := B.exec
  have hb := B.bytes
  have hr := B.returns
  have hts0 := atoms_spec (ws := Cond.code y cc nL ret :: am_gt) B.pre
  have hts : ∀ w ∈ am_gt, w.before (am_av ad0 pat is).toArray s = true := fun w hw => hts0 w (List.mem_cons_of_mem _ hw)
  have hown : s.vm.findClass y.cls = some m.cls := findClass_of_methodNamed B.named
  have hlocks := B.notSynchronized
  subst hsz
  obtain ⟨hz1, adK, adV, hz2, hz3, hz4⟩ := id hZ
  simp only [am_low, Bool.and_eq_true, decide_eq_true_eq] at hlow
  obtain ⟨⟨w1, w2⟩, w3⟩ := hlow
  obtain ⟨ad, had⟩ : ∃ ad : Nat → Nat, ad = fun q => if q = 998 then adK 0 else ad0 q := ⟨_, rfl⟩
  have had8 : ad 998 = adK 0 := by rw [had]; exact if_pos rfl
  have hadn : ∀ q, q ≠ 998 → ad0 q = ad q := fun q hq => by rw [had]; exact (if_neg hq).symm
  have hwe : ∀ D' : am_D, am_w cA ad0 0 sh D' = am_w cA ad 0 sh D' := fun D' => am_w_ad 0 (fun p hp => hadn p (by omega)) (fun t ht o ho q hq => hadn q (fun e => by
    subst ho; subst e
    have := List.all_eq_true.mp w2 _ ht
    have := List.all_eq_true.mp this _ hq
    simp at this))
  have hav : am_av ad0 pat is = am_av ad pat is := am_av_ad pat is (fun q hq => hadn q (fun e => by
    subst e
    have := List.all_eq_true.mp w3 _ hq
    simp at this))
  have hD := hD0.self (sz := s.heap.size)
  obtain ⟨A, hAe⟩ : ∃ A, A = va_A (am_w cA ad0 0 sh D) s.heap.size := ⟨_, rfl⟩
  rw [← hAe] at hD hZ ⊢
  have hA : ∀ q : Nat, s.heap.size ≤ q → A q := fun q h => by rw [hAe]; exact Or.inr h
  rw [hwe] at hP hD
  have hS : va_S A s.heap s.heap [] := va_S.rf
  have hl := lv_entry (am_av ad0 pat is) (n := nL) (by rw [am_sl_len]; exact hnL)
  rw [lg_entry_eq]
  generalize (lg_sl (am_av ad0 pat is) ++ List.replicate (nL - (lg_sl (am_av ad0 pat is)).length) Slot.unset).toArray = ls at hl ⊢
  rw [hav, ← am_l0_lp ad pat is nL 0] at hl
  obtain ⟨args, hargs⟩ : ∃ args, args = (am_av ad0 pat is).toArray := ⟨_, rfl⟩
  rw [← hargs] at hts ⊢
  have hwA : ∀ (D' : am_D) (H : Heap) (locs : List Loc) (rs : List Int32), rs.length ≤ 1 → K rs D' → va_P (dC, dI) vwCl (am_w cA ad 0 sh D') H → va_D A (am_w cA ad 0 sh D') → va_S A s.heap H locs → D'.length = sh.length → ∀ t : State, t.heap = H → s.WarmedH t.vm → am_post dC dI cA ad0 sh A K args s (.returned (rs.head?.map Value.int)) t := by
    intro D' H locs rs h0 h1 h2 h3 h4 h5 t ht hW
    exact ⟨⟨rs, D', rfl, h0, h1, h5, by rw [ht, hwe]; exact h2, by rw [hwe]; exact h3⟩, h4.F ht⟩
  have C0 : am_cx (p, l, e, (headSpec (Cond.code y cc nL ret :: am_gt) { frames := fr, cells := 0, slots := 0, locals := lo }).room, s, m, args, below, meth, c, MQ below (am_post dC dI cA ad0 sh A K) args s 0 0 A, 0, 0, dC, dI, cA, ad, A) y.cls cc nL fr lo := ⟨hx, hb, hml, hown, hts, hK, hZ, hA, Nat.zero_le _, Nat.zero_le _, Nat.le_refl _, Nat.le_refl _⟩
  refine body (p, l, e, (headSpec (Cond.code y cc nL ret :: am_gt) { frames := fr, cells := 0, slots := 0, locals := lo }).room, s, m, args, below, meth, c, MQ below (am_post dC dI cA ad0 sh A K) args s 0 0 A, 0, 0, dC, dI, cA, ad, A) is D K ⟨hx, hb, hown, hK, hsh, am_flw_ok hfl hts, ?_, fun L xs h => absurd h (by simp), ?_, ?_, fun pc st D' k ls' h1 h2 => hcs _ C0 pc st D' k ls' h1 h2⟩ hT his hDl s.heap [] ls hP hD hS hDl (am_l0_len pat is nL hnL) hl
  · intro ix v hv
    have h1 := hkc ix v hv
    cases v with
    | inl x => exact hts _ h1
    | inr q =>
      obtain ⟨rfl, h2⟩ := h1
      show ∃ tx : String, vk_R y.cls ix tx (ad 998) s
      rw [had8]
      rcases h2 with ⟨e1, rfl⟩ | ⟨e1, rfl⟩
      · rw [e1]; exact ⟨_, hz3⟩
      · rw [e1]; exact ⟨_, hz4⟩
  · intro pc v D' H locs lc hd hrb hKv a1 a2 a3 a4
    rcases hret with ⟨e1, e2⟩ | ⟨e1, e2⟩ | ⟨e1, e2⟩
    · rcases hrb with h | h <;> omega
    · exact W.iret hx hb (by rw [hr, e1]) (fun t ht hW => hwA D' H locs [v] (Nat.le_refl 1) hKv a1 a2 a3 a4 t ht hW) a3.2.2 hd hlocks
    · have hv01 : v = 0 ∨ v = 1 := by
        rcases hrb with h | h
        · omega
        · exact h.2
      exact W.zret hx hb (by rw [hr, e1]) (by rcases hv01 with rfl | rfl <;> rfl) (fun t ht hW => hwA D' H locs [v] (Nat.le_refl 1) hKv a1 a2 a3 a4 t ht hW) a3.2.2 hd hlocks
  · intro pc D' H locs lc hd hrb hKv a1 a2 a3 a4
    rcases hret with ⟨e1, e2⟩ | ⟨e1, e2⟩ | ⟨e1, e2⟩
    · exact W.vret hx hb (by rw [hr, e1]) (fun t ht hW => hwA D' H locs [] (Nat.zero_le 1) hKv a1 a2 a3 a4 t ht hW) a3.2.2 hd hlocks
    · omega
    · omega
end
section
/-! printed by wip/whole/gen_tab.py: words of the tables, by their places -/
theorem am_t1 {w : Cond} (h : w ∈ tables_1_1) : w ∈ lw_tbl := List.mem_append_right _ (List.mem_append_left _ h)
theorem am_t2 {w : Cond} (h : w ∈ tables_1_2) : w ∈ lw_tbl := List.mem_append_right _ (List.mem_append_right _ (List.mem_append_left _ h))
theorem am_t3 {w : Cond} (h : w ∈ tables_1_3) : w ∈ lw_tbl := List.mem_append_right _ (List.mem_append_right _ (List.mem_append_right _ (List.mem_append_left _ h)))
theorem am_t4 {w : Cond} (h : w ∈ tables_1_4) : w ∈ lw_tbl := List.mem_append_right _ (List.mem_append_right _ (List.mem_append_right _ (List.mem_append_right _ (List.mem_append_left _ h))))
theorem am_t5 {w : Cond} (h : w ∈ tables_1_5) : w ∈ lw_tbl := List.mem_append_right _ (List.mem_append_right _ (List.mem_append_right _ (List.mem_append_right _ (List.mem_append_right _ h))))
theorem am_sel1 {y : MethodName × Nat} (h : y ∈ lw_privs_1) : Cond.selects y.1.cls y.1 y.1 ∈ lw_tbl := List.mem_append_left _ (List.mem_map_of_mem (List.mem_append_left _ h))
theorem am_sel2 {y : MethodName × Nat} (h : y ∈ lw_privs_2) : Cond.selects y.1.cls y.1 y.1 ∈ lw_tbl := List.mem_append_left _ (List.mem_map_of_mem (List.mem_append_right _ (List.mem_append_left _ h)))
theorem am_sel3 {y : MethodName × Nat} (h : y ∈ lw_privs_3) : Cond.selects y.1.cls y.1 y.1 ∈ lw_tbl := List.mem_append_left _ (List.mem_map_of_mem (List.mem_append_right _ (List.mem_append_right _ h)))
def am_fe (own : String) (q : Nat × Nat × Nat × Nat) : Prop := ∃ (C : String) (T : u_T) (N : Nat), vwCl[q.2.1]? = some (C, T, N) ∧ q.2.2.1 < N ∧ (∀ w ∈ u_ws C T N, w ∈ am_gt) ∧ Cond.fieldLink own q.1 (T q.2.2.1).1 (T q.2.2.1).2.1 (T q.2.2.1).2.2.1 ∈ am_gt ∧ (q.2.2.2 = 1 → (T q.2.2.1).2.2.2 = false ∧ parseFieldDescriptor (T q.2.2.1).2.2.1 = some .int) ∧ (q.2.2.2 = 2 → (T q.2.2.1).2.2.2 = false ∧ parseFieldDescriptor (T q.2.2.1).2.2.1 = some .boolean)
def am_fl (l : List (Nat × Nat × Nat × Nat)) (ix : Nat) : Option (Nat × Nat × Nat) := (l.find? (fun q => q.1 == ix)).map (fun q => q.2)
theorem am_fl_ok {own : String} {l : List (Nat × Nat × Nat × Nat)} (h : ∀ q ∈ l, am_fe own q) : am_flw own (am_fl l) := by
  intro ix ci n b hf
  simp only [am_fl, Option.map_eq_some_iff] at hf
  obtain ⟨q, h1, h2⟩ := hf
  have h3 := List.find?_some h1
  simp only [beq_iff_eq] at h3
  have h4 := h q (List.mem_of_find?_eq_some h1)
  obtain ⟨q1, q2⟩ := q
  cases h2
  cases h3
  exact h4
def am_kl (l : List (Nat × am_V)) (ix : Nat) : Option am_V := (l.find? (fun q => q.1 == ix)).map (fun q => q.2)
theorem am_kl_ok {own : String} {l : List (Nat × am_V)} (h : ∀ q ∈ l, match q.2 with
    | .inl x => Cond.constant own q.1 x ∈ am_gt
    | .inr p => p = 998 ∧ ((own = RX5 ∧ q.1 = 53) ∨ (own = RX7 ∧ q.1 = 80))) : am_kcw own (am_kl l) := by
  intro ix v hf
  simp only [am_kl, Option.map_eq_some_iff] at hf
  obtain ⟨q, h1, h2⟩ := hf
  have h3 := List.find?_some h1
  simp only [beq_iff_eq] at h3
  have h4 := h q (List.mem_of_find?_eq_some h1)
  obtain ⟨q1, q2⟩ := q
  cases h2
  cases h3
  exact h4
theorem am_inw_X0 : ∀ w ∈ u_ws RX0 TX0 2, w ∈ am_gt := by
  have h1 : ∀ w ∈ u_ws RX0 TX0 2, w ∈ lw_tbl := by decide +kernel
  have h2 : (u_ws RX0 TX0 2).all goodWord = true := by decide +kernel
  exact fun w hw => am_gin (h1 w hw) (List.all_eq_true.mp h2 w hw)
theorem am_inw_X1 : ∀ w ∈ u_ws RX1 TX1 5, w ∈ am_gt := by
  have h1 : ∀ w ∈ u_ws RX1 TX1 5, w ∈ lw_tbl := by decide +kernel
  have h2 : (u_ws RX1 TX1 5).all goodWord = true := by decide +kernel
  exact fun w hw => am_gin (h1 w hw) (List.all_eq_true.mp h2 w hw)
theorem am_inw_X3 : ∀ w ∈ u_ws RX3 TX3 14, w ∈ am_gt := by
  have h1 : ∀ w ∈ u_ws RX3 TX3 14, w ∈ lw_tbl := by decide +kernel
  have h2 : (u_ws RX3 TX3 14).all goodWord = true := by decide +kernel
  exact fun w hw => am_gin (h1 w hw) (List.all_eq_true.mp h2 w hw)
theorem am_inw_X4 : ∀ w ∈ u_ws RX4 TX4 8, w ∈ am_gt := by
  have h1 : ∀ w ∈ u_ws RX4 TX4 8, w ∈ lw_tbl := by decide +kernel
  have h2 : (u_ws RX4 TX4 8).all goodWord = true := by decide +kernel
  exact fun w hw => am_gin (h1 w hw) (List.all_eq_true.mp h2 w hw)
theorem am_inw_X5 : ∀ w ∈ u_ws RX5 TX5 2, w ∈ am_gt := by
  have h1 : ∀ w ∈ u_ws RX5 TX5 2, w ∈ lw_tbl := by decide +kernel
  have h2 : (u_ws RX5 TX5 2).all goodWord = true := by decide +kernel
  exact fun w hw => am_gin (h1 w hw) (List.all_eq_true.mp h2 w hw)
theorem am_inw_X6 : ∀ w ∈ u_ws RX6 TX6 11, w ∈ am_gt := by
  have h1 : ∀ w ∈ u_ws RX6 TX6 11, w ∈ lw_tbl := by decide +kernel
  have h2 : (u_ws RX6 TX6 11).all goodWord = true := by decide +kernel
  exact fun w hw => am_gin (h1 w hw) (List.all_eq_true.mp h2 w hw)
theorem am_inw_X7 : ∀ w ∈ u_ws RX7 TX7 27, w ∈ am_gt := by
  have h1 : ∀ w ∈ u_ws RX7 TX7 27, w ∈ lw_tbl := by decide +kernel
  have h2 : (u_ws RX7 TX7 27).all goodWord = true := by decide +kernel
  exact fun w hw => am_gin (h1 w hw) (List.all_eq_true.mp h2 w hw)
theorem fe_X0_12 : am_fe RX0 (12, 0, 0, 0) := ⟨RX0, TX0, 2, rfl, by decide, am_inw_X0, am_gin (am_t1 (List.mem_of_getElem? (i := 156) (by decide +kernel))) rfl, fun h => absurd h (by decide), fun h => absurd h (by decide)⟩
theorem fe_X0_21 : am_fe RX0 (21, 0, 1, 0) := ⟨RX0, TX0, 2, rfl, by decide, am_inw_X0, am_gin (am_t1 (List.mem_of_getElem? (i := 157) (by decide +kernel))) rfl, fun h => absurd h (by decide), fun h => absurd h (by decide)⟩
theorem fe_X0_37 : am_fe RX0 (37, 3, 1, 1) := ⟨RX4, TX4, 8, rfl, by decide, am_inw_X4, am_gin (am_t1 (List.mem_of_getElem? (i := 36) (by decide +kernel))) rfl, fun _ => ⟨rfl, by decide +kernel⟩, fun h => absurd h (by decide)⟩
theorem fe_X0_44 : am_fe RX0 (44, 3, 0, 1) := ⟨RX4, TX4, 8, rfl, by decide, am_inw_X4, am_gin (am_t1 (List.mem_of_getElem? (i := 33) (by decide +kernel))) rfl, fun _ => ⟨rfl, by decide +kernel⟩, fun h => absurd h (by decide)⟩
theorem fe_X0_54 : am_fe RX0 (54, 3, 3, 0) := ⟨RX4, TX4, 8, rfl, by decide, am_inw_X4, am_gin (am_t1 (List.mem_of_getElem? (i := 45) (by decide +kernel))) rfl, fun h => absurd h (by decide), fun h => absurd h (by decide)⟩
theorem fe_X0_60 : am_fe RX0 (60, 3, 4, 0) := ⟨RX4, TX4, 8, rfl, by decide, am_inw_X4, am_gin (am_t1 (List.mem_of_getElem? (i := 48) (by decide +kernel))) rfl, fun h => absurd h (by decide), fun h => absurd h (by decide)⟩
theorem fe_X0_63 : am_fe RX0 (63, 3, 2, 1) := ⟨RX4, TX4, 8, rfl, by decide, am_inw_X4, am_gin (am_t1 (List.mem_of_getElem? (i := 40) (by decide +kernel))) rfl, fun _ => ⟨rfl, by decide +kernel⟩, fun h => absurd h (by decide)⟩
theorem fe_X0_66 : am_fe RX0 (66, 2, 4, 1) := ⟨RX3, TX3, 14, rfl, by decide, am_inw_X3, am_gin (am_t1 (List.mem_of_getElem? (i := 106) (by decide +kernel))) rfl, fun _ => ⟨rfl, by decide +kernel⟩, fun h => absurd h (by decide)⟩
def fl_X0 : Nat → Option (Nat × Nat × Nat) := am_fl [(12, 0, 0, 0), (21, 0, 1, 0), (37, 3, 1, 1), (44, 3, 0, 1), (54, 3, 3, 0), (60, 3, 4, 0), (63, 3, 2, 1), (66, 2, 4, 1)]
theorem fl_X0_ok : am_flw RX0 fl_X0 := am_fl_ok (List.forall_mem_cons.mpr ⟨fe_X0_12, List.forall_mem_cons.mpr ⟨fe_X0_21, List.forall_mem_cons.mpr ⟨fe_X0_37, List.forall_mem_cons.mpr ⟨fe_X0_44, List.forall_mem_cons.mpr ⟨fe_X0_54, List.forall_mem_cons.mpr ⟨fe_X0_60, List.forall_mem_cons.mpr ⟨fe_X0_63, List.forall_mem_cons.mpr ⟨fe_X0_66, fun _ h => absurd h List.not_mem_nil⟩⟩⟩⟩⟩⟩⟩⟩)
theorem fl_X0_12 : fl_X0 12 = some (0, 0, 0) := rfl
theorem fl_X0_21 : fl_X0 21 = some (0, 1, 0) := rfl
theorem fl_X0_37 : fl_X0 37 = some (3, 1, 1) := rfl
theorem fl_X0_44 : fl_X0 44 = some (3, 0, 1) := rfl
theorem fl_X0_54 : fl_X0 54 = some (3, 3, 0) := rfl
theorem fl_X0_60 : fl_X0 60 = some (3, 4, 0) := rfl
theorem fl_X0_63 : fl_X0 63 = some (3, 2, 1) := rfl
theorem fl_X0_66 : fl_X0 66 = some (2, 4, 1) := rfl
def kc_X0 : Nat → Option am_V := am_kl []
theorem kc_X0_ok : am_kcw RX0 kc_X0 := am_kl_ok (fun _ h => absurd h List.not_mem_nil)
theorem fe_X1_12 : am_fe RX1 (12, 1, 0, 0) := ⟨RX1, TX1, 5, rfl, by decide, am_inw_X1, am_gin (am_t1 (List.mem_of_getElem? (i := 173) (by decide +kernel))) rfl, fun h => absurd h (by decide), fun h => absurd h (by decide)⟩
theorem fe_X1_21 : am_fe RX1 (21, 1, 1, 0) := ⟨RX1, TX1, 5, rfl, by decide, am_inw_X1, am_gin (am_t1 (List.mem_of_getElem? (i := 174) (by decide +kernel))) rfl, fun h => absurd h (by decide), fun h => absurd h (by decide)⟩
theorem fe_X1_25 : am_fe RX1 (25, 1, 2, 0) := ⟨RX1, TX1, 5, rfl, by decide, am_inw_X1, am_gin (am_t1 (List.mem_of_getElem? (i := 175) (by decide +kernel))) rfl, fun h => absurd h (by decide), fun h => absurd h (by decide)⟩
theorem fe_X1_29 : am_fe RX1 (29, 1, 3, 0) := ⟨RX1, TX1, 5, rfl, by decide, am_inw_X1, am_gin (am_t1 (List.mem_of_getElem? (i := 176) (by decide +kernel))) rfl, fun h => absurd h (by decide), fun h => absurd h (by decide)⟩
theorem fe_X1_32 : am_fe RX1 (32, 1, 4, 1) := ⟨RX1, TX1, 5, rfl, by decide, am_inw_X1, am_gin (am_t1 (List.mem_of_getElem? (i := 177) (by decide +kernel))) rfl, fun _ => ⟨rfl, by decide +kernel⟩, fun h => absurd h (by decide)⟩
theorem fe_X1_40 : am_fe RX1 (40, 2, 1, 0) := ⟨RX3, TX3, 14, rfl, by decide, am_inw_X3, am_gin (am_t1 (List.mem_of_getElem? (i := 98) (by decide +kernel))) rfl, fun h => absurd h (by decide), fun h => absurd h (by decide)⟩
theorem fe_X1_43 : am_fe RX1 (43, 3, 0, 1) := ⟨RX4, TX4, 8, rfl, by decide, am_inw_X4, am_gin (am_t1 (List.mem_of_getElem? (i := 31) (by decide +kernel))) rfl, fun _ => ⟨rfl, by decide +kernel⟩, fun h => absurd h (by decide)⟩
theorem fe_X1_66 : am_fe RX1 (66, 2, 4, 1) := ⟨RX3, TX3, 14, rfl, by decide, am_inw_X3, am_gin (am_t1 (List.mem_of_getElem? (i := 105) (by decide +kernel))) rfl, fun _ => ⟨rfl, by decide +kernel⟩, fun h => absurd h (by decide)⟩
def fl_X1 : Nat → Option (Nat × Nat × Nat) := am_fl [(12, 1, 0, 0), (21, 1, 1, 0), (25, 1, 2, 0), (29, 1, 3, 0), (32, 1, 4, 1), (40, 2, 1, 0), (43, 3, 0, 1), (66, 2, 4, 1)]
theorem fl_X1_ok : am_flw RX1 fl_X1 := am_fl_ok (List.forall_mem_cons.mpr ⟨fe_X1_12, List.forall_mem_cons.mpr ⟨fe_X1_21, List.forall_mem_cons.mpr ⟨fe_X1_25, List.forall_mem_cons.mpr ⟨fe_X1_29, List.forall_mem_cons.mpr ⟨fe_X1_32, List.forall_mem_cons.mpr ⟨fe_X1_40, List.forall_mem_cons.mpr ⟨fe_X1_43, List.forall_mem_cons.mpr ⟨fe_X1_66, fun _ h => absurd h List.not_mem_nil⟩⟩⟩⟩⟩⟩⟩⟩)
theorem fl_X1_12 : fl_X1 12 = some (1, 0, 0) := rfl
theorem fl_X1_21 : fl_X1 21 = some (1, 1, 0) := rfl
theorem fl_X1_25 : fl_X1 25 = some (1, 2, 0) := rfl
theorem fl_X1_29 : fl_X1 29 = some (1, 3, 0) := rfl
theorem fl_X1_32 : fl_X1 32 = some (1, 4, 1) := rfl
theorem fl_X1_40 : fl_X1 40 = some (2, 1, 0) := rfl
theorem fl_X1_43 : fl_X1 43 = some (3, 0, 1) := rfl
theorem fl_X1_66 : fl_X1 66 = some (2, 4, 1) := rfl
def kc_X1 : Nat → Option am_V := am_kl [(69, .inl 1664525), (70, .inl 1013904223), (71, .inl 2147483647)]
theorem kc_X1_ok : am_kcw RX1 kc_X1 := am_kl_ok (List.forall_mem_cons.mpr ⟨am_gin (am_t3 (List.mem_of_getElem? (i := 220) (by decide +kernel))) rfl, List.forall_mem_cons.mpr ⟨am_gin (am_t3 (List.mem_of_getElem? (i := 221) (by decide +kernel))) rfl, List.forall_mem_cons.mpr ⟨am_gin (am_t3 (List.mem_of_getElem? (i := 222) (by decide +kernel))) rfl, fun _ h => absurd h List.not_mem_nil⟩⟩⟩)
theorem kc_X1_69 : kc_X1 69 = some (.inl 1664525) := rfl
theorem kc_X1_70 : kc_X1 70 = some (.inl 1013904223) := rfl
theorem kc_X1_71 : kc_X1 71 = some (.inl 2147483647) := rfl
def fl_X2 : Nat → Option (Nat × Nat × Nat) := am_fl []
theorem fl_X2_ok : am_flw RX2 fl_X2 := am_fl_ok (fun _ h => absurd h List.not_mem_nil)
def kc_X2 : Nat → Option am_V := am_kl []
theorem kc_X2_ok : am_kcw RX2 kc_X2 := am_kl_ok (fun _ h => absurd h List.not_mem_nil)
theorem fe_X3_9 : am_fe RX3 (9, 2, 0, 0) := ⟨RX3, TX3, 14, rfl, by decide, am_inw_X3, am_gin (am_t1 (List.mem_of_getElem? (i := 95) (by decide +kernel))) rfl, fun h => absurd h (by decide), fun h => absurd h (by decide)⟩
theorem fe_X3_15 : am_fe RX3 (15, 2, 1, 0) := ⟨RX3, TX3, 14, rfl, by decide, am_inw_X3, am_gin (am_t1 (List.mem_of_getElem? (i := 97) (by decide +kernel))) rfl, fun h => absurd h (by decide), fun h => absurd h (by decide)⟩
theorem fe_X3_18 : am_fe RX3 (18, 2, 2, 0) := ⟨RX3, TX3, 14, rfl, by decide, am_inw_X3, am_gin (am_t1 (List.mem_of_getElem? (i := 100) (by decide +kernel))) rfl, fun h => absurd h (by decide), fun h => absurd h (by decide)⟩
theorem fe_X3_21 : am_fe RX3 (21, 2, 3, 1) := ⟨RX3, TX3, 14, rfl, by decide, am_inw_X3, am_gin (am_t1 (List.mem_of_getElem? (i := 102) (by decide +kernel))) rfl, fun _ => ⟨rfl, by decide +kernel⟩, fun h => absurd h (by decide)⟩
theorem fe_X3_25 : am_fe RX3 (25, 2, 4, 1) := ⟨RX3, TX3, 14, rfl, by decide, am_inw_X3, am_gin (am_t1 (List.mem_of_getElem? (i := 104) (by decide +kernel))) rfl, fun _ => ⟨rfl, by decide +kernel⟩, fun h => absurd h (by decide)⟩
theorem fe_X3_28 : am_fe RX3 (28, 2, 5, 0) := ⟨RX3, TX3, 14, rfl, by decide, am_inw_X3, am_gin (am_t1 (List.mem_of_getElem? (i := 108) (by decide +kernel))) rfl, fun h => absurd h (by decide), fun h => absurd h (by decide)⟩
theorem fe_X3_31 : am_fe RX3 (31, 2, 6, 0) := ⟨RX3, TX3, 14, rfl, by decide, am_inw_X3, am_gin (am_t1 (List.mem_of_getElem? (i := 109) (by decide +kernel))) rfl, fun h => absurd h (by decide), fun h => absurd h (by decide)⟩
theorem fe_X3_34 : am_fe RX3 (34, 2, 7, 1) := ⟨RX3, TX3, 14, rfl, by decide, am_inw_X3, am_gin (am_t1 (List.mem_of_getElem? (i := 110) (by decide +kernel))) rfl, fun _ => ⟨rfl, by decide +kernel⟩, fun h => absurd h (by decide)⟩
theorem fe_X3_37 : am_fe RX3 (37, 2, 8, 1) := ⟨RX3, TX3, 14, rfl, by decide, am_inw_X3, am_gin (am_t1 (List.mem_of_getElem? (i := 111) (by decide +kernel))) rfl, fun _ => ⟨rfl, by decide +kernel⟩, fun h => absurd h (by decide)⟩
theorem fe_X3_40 : am_fe RX3 (40, 2, 9, 1) := ⟨RX3, TX3, 14, rfl, by decide, am_inw_X3, am_gin (am_t1 (List.mem_of_getElem? (i := 112) (by decide +kernel))) rfl, fun _ => ⟨rfl, by decide +kernel⟩, fun h => absurd h (by decide)⟩
theorem fe_X3_43 : am_fe RX3 (43, 2, 10, 1) := ⟨RX3, TX3, 14, rfl, by decide, am_inw_X3, am_gin (am_t1 (List.mem_of_getElem? (i := 113) (by decide +kernel))) rfl, fun _ => ⟨rfl, by decide +kernel⟩, fun h => absurd h (by decide)⟩
theorem fe_X3_46 : am_fe RX3 (46, 2, 11, 1) := ⟨RX3, TX3, 14, rfl, by decide, am_inw_X3, am_gin (am_t1 (List.mem_of_getElem? (i := 114) (by decide +kernel))) rfl, fun _ => ⟨rfl, by decide +kernel⟩, fun h => absurd h (by decide)⟩
theorem fe_X3_49 : am_fe RX3 (49, 2, 12, 1) := ⟨RX3, TX3, 14, rfl, by decide, am_inw_X3, am_gin (am_t1 (List.mem_of_getElem? (i := 115) (by decide +kernel))) rfl, fun _ => ⟨rfl, by decide +kernel⟩, fun h => absurd h (by decide)⟩
theorem fe_X3_52 : am_fe RX3 (52, 2, 13, 2) := ⟨RX3, TX3, 14, rfl, by decide, am_inw_X3, am_gin (am_t1 (List.mem_of_getElem? (i := 116) (by decide +kernel))) rfl, fun h => absurd h (by decide), fun _ => ⟨rfl, by decide +kernel⟩⟩
theorem fe_X3_67 : am_fe RX3 (67, 3, 0, 1) := ⟨RX4, TX4, 8, rfl, by decide, am_inw_X4, am_gin (am_t1 (List.mem_of_getElem? (i := 32) (by decide +kernel))) rfl, fun _ => ⟨rfl, by decide +kernel⟩, fun h => absurd h (by decide)⟩
theorem fe_X3_72 : am_fe RX3 (72, 3, 7, 0) := ⟨RX4, TX4, 8, rfl, by decide, am_inw_X4, am_gin (am_t1 (List.mem_of_getElem? (i := 56) (by decide +kernel))) rfl, fun h => absurd h (by decide), fun h => absurd h (by decide)⟩
theorem fe_X3_75 : am_fe RX3 (75, 3, 5, 0) := ⟨RX4, TX4, 8, rfl, by decide, am_inw_X4, am_gin (am_t1 (List.mem_of_getElem? (i := 50) (by decide +kernel))) rfl, fun h => absurd h (by decide), fun h => absurd h (by decide)⟩
theorem fe_X3_82 : am_fe RX3 (82, 3, 3, 0) := ⟨RX4, TX4, 8, rfl, by decide, am_inw_X4, am_gin (am_t1 (List.mem_of_getElem? (i := 44) (by decide +kernel))) rfl, fun h => absurd h (by decide), fun h => absurd h (by decide)⟩
theorem fe_X3_94 : am_fe RX3 (94, 3, 2, 1) := ⟨RX4, TX4, 8, rfl, by decide, am_inw_X4, am_gin (am_t1 (List.mem_of_getElem? (i := 39) (by decide +kernel))) rfl, fun _ => ⟨rfl, by decide +kernel⟩, fun h => absurd h (by decide)⟩
theorem fe_X3_100 : am_fe RX3 (100, 3, 6, 0) := ⟨RX4, TX4, 8, rfl, by decide, am_inw_X4, am_gin (am_t1 (List.mem_of_getElem? (i := 54) (by decide +kernel))) rfl, fun h => absurd h (by decide), fun h => absurd h (by decide)⟩
def fl_X3 : Nat → Option (Nat × Nat × Nat) := am_fl [(9, 2, 0, 0), (15, 2, 1, 0), (18, 2, 2, 0), (21, 2, 3, 1), (25, 2, 4, 1), (28, 2, 5, 0), (31, 2, 6, 0), (34, 2, 7, 1), (37, 2, 8, 1), (40, 2, 9, 1), (43, 2, 10, 1), (46, 2, 11, 1), (49, 2, 12, 1), (52, 2, 13, 2), (67, 3, 0, 1), (72, 3, 7, 0), (75, 3, 5, 0), (82, 3, 3, 0), (94, 3, 2, 1), (100, 3, 6, 0)]
theorem fl_X3_ok : am_flw RX3 fl_X3 := am_fl_ok (List.forall_mem_cons.mpr ⟨fe_X3_9, List.forall_mem_cons.mpr ⟨fe_X3_15, List.forall_mem_cons.mpr ⟨fe_X3_18, List.forall_mem_cons.mpr ⟨fe_X3_21, List.forall_mem_cons.mpr ⟨fe_X3_25, List.forall_mem_cons.mpr ⟨fe_X3_28, List.forall_mem_cons.mpr ⟨fe_X3_31, List.forall_mem_cons.mpr ⟨fe_X3_34, List.forall_mem_cons.mpr ⟨fe_X3_37, List.forall_mem_cons.mpr ⟨fe_X3_40, List.forall_mem_cons.mpr ⟨fe_X3_43, List.forall_mem_cons.mpr ⟨fe_X3_46, List.forall_mem_cons.mpr ⟨fe_X3_49, List.forall_mem_cons.mpr ⟨fe_X3_52, List.forall_mem_cons.mpr ⟨fe_X3_67, List.forall_mem_cons.mpr ⟨fe_X3_72, List.forall_mem_cons.mpr ⟨fe_X3_75, List.forall_mem_cons.mpr ⟨fe_X3_82, List.forall_mem_cons.mpr ⟨fe_X3_94, List.forall_mem_cons.mpr ⟨fe_X3_100, fun _ h => absurd h List.not_mem_nil⟩⟩⟩⟩⟩⟩⟩⟩⟩⟩⟩⟩⟩⟩⟩⟩⟩⟩⟩⟩)
theorem fl_X3_9 : fl_X3 9 = some (2, 0, 0) := rfl
theorem fl_X3_15 : fl_X3 15 = some (2, 1, 0) := rfl
theorem fl_X3_18 : fl_X3 18 = some (2, 2, 0) := rfl
theorem fl_X3_21 : fl_X3 21 = some (2, 3, 1) := rfl
theorem fl_X3_25 : fl_X3 25 = some (2, 4, 1) := rfl
theorem fl_X3_28 : fl_X3 28 = some (2, 5, 0) := rfl
theorem fl_X3_31 : fl_X3 31 = some (2, 6, 0) := rfl
theorem fl_X3_34 : fl_X3 34 = some (2, 7, 1) := rfl
theorem fl_X3_37 : fl_X3 37 = some (2, 8, 1) := rfl
theorem fl_X3_40 : fl_X3 40 = some (2, 9, 1) := rfl
theorem fl_X3_43 : fl_X3 43 = some (2, 10, 1) := rfl
theorem fl_X3_46 : fl_X3 46 = some (2, 11, 1) := rfl
theorem fl_X3_49 : fl_X3 49 = some (2, 12, 1) := rfl
theorem fl_X3_52 : fl_X3 52 = some (2, 13, 2) := rfl
theorem fl_X3_67 : fl_X3 67 = some (3, 0, 1) := rfl
theorem fl_X3_72 : fl_X3 72 = some (3, 7, 0) := rfl
theorem fl_X3_75 : fl_X3 75 = some (3, 5, 0) := rfl
theorem fl_X3_82 : fl_X3 82 = some (3, 3, 0) := rfl
theorem fl_X3_94 : fl_X3 94 = some (3, 2, 1) := rfl
theorem fl_X3_100 : fl_X3 100 = some (3, 6, 0) := rfl
def kc_X3 : Nat → Option am_V := am_kl []
theorem kc_X3_ok : am_kcw RX3 kc_X3 := am_kl_ok (fun _ h => absurd h List.not_mem_nil)
theorem fe_X4_9 : am_fe RX4 (9, 3, 0, 1) := ⟨RX4, TX4, 8, rfl, by decide, am_inw_X4, am_gin (am_t1 (List.mem_of_getElem? (i := 30) (by decide +kernel))) rfl, fun _ => ⟨rfl, by decide +kernel⟩, fun h => absurd h (by decide)⟩
theorem fe_X4_15 : am_fe RX4 (15, 3, 1, 1) := ⟨RX4, TX4, 8, rfl, by decide, am_inw_X4, am_gin (am_t1 (List.mem_of_getElem? (i := 35) (by decide +kernel))) rfl, fun _ => ⟨rfl, by decide +kernel⟩, fun h => absurd h (by decide)⟩
theorem fe_X4_18 : am_fe RX4 (18, 3, 2, 1) := ⟨RX4, TX4, 8, rfl, by decide, am_inw_X4, am_gin (am_t1 (List.mem_of_getElem? (i := 38) (by decide +kernel))) rfl, fun _ => ⟨rfl, by decide +kernel⟩, fun h => absurd h (by decide)⟩
theorem fe_X4_21 : am_fe RX4 (21, 3, 3, 0) := ⟨RX4, TX4, 8, rfl, by decide, am_inw_X4, am_gin (am_t1 (List.mem_of_getElem? (i := 42) (by decide +kernel))) rfl, fun h => absurd h (by decide), fun h => absurd h (by decide)⟩
theorem fe_X4_25 : am_fe RX4 (25, 3, 4, 0) := ⟨RX4, TX4, 8, rfl, by decide, am_inw_X4, am_gin (am_t1 (List.mem_of_getElem? (i := 46) (by decide +kernel))) rfl, fun h => absurd h (by decide), fun h => absurd h (by decide)⟩
theorem fe_X4_28 : am_fe RX4 (28, 3, 5, 0) := ⟨RX4, TX4, 8, rfl, by decide, am_inw_X4, am_gin (am_t1 (List.mem_of_getElem? (i := 49) (by decide +kernel))) rfl, fun h => absurd h (by decide), fun h => absurd h (by decide)⟩
theorem fe_X4_31 : am_fe RX4 (31, 3, 6, 0) := ⟨RX4, TX4, 8, rfl, by decide, am_inw_X4, am_gin (am_t1 (List.mem_of_getElem? (i := 52) (by decide +kernel))) rfl, fun h => absurd h (by decide), fun h => absurd h (by decide)⟩
theorem fe_X4_34 : am_fe RX4 (34, 3, 7, 0) := ⟨RX4, TX4, 8, rfl, by decide, am_inw_X4, am_gin (am_t1 (List.mem_of_getElem? (i := 55) (by decide +kernel))) rfl, fun h => absurd h (by decide), fun h => absurd h (by decide)⟩
def fl_X4 : Nat → Option (Nat × Nat × Nat) := am_fl [(9, 3, 0, 1), (15, 3, 1, 1), (18, 3, 2, 1), (21, 3, 3, 0), (25, 3, 4, 0), (28, 3, 5, 0), (31, 3, 6, 0), (34, 3, 7, 0)]
theorem fl_X4_ok : am_flw RX4 fl_X4 := am_fl_ok (List.forall_mem_cons.mpr ⟨fe_X4_9, List.forall_mem_cons.mpr ⟨fe_X4_15, List.forall_mem_cons.mpr ⟨fe_X4_18, List.forall_mem_cons.mpr ⟨fe_X4_21, List.forall_mem_cons.mpr ⟨fe_X4_25, List.forall_mem_cons.mpr ⟨fe_X4_28, List.forall_mem_cons.mpr ⟨fe_X4_31, List.forall_mem_cons.mpr ⟨fe_X4_34, fun _ h => absurd h List.not_mem_nil⟩⟩⟩⟩⟩⟩⟩⟩)
theorem fl_X4_9 : fl_X4 9 = some (3, 0, 1) := rfl
theorem fl_X4_15 : fl_X4 15 = some (3, 1, 1) := rfl
theorem fl_X4_18 : fl_X4 18 = some (3, 2, 1) := rfl
theorem fl_X4_21 : fl_X4 21 = some (3, 3, 0) := rfl
theorem fl_X4_25 : fl_X4 25 = some (3, 4, 0) := rfl
theorem fl_X4_28 : fl_X4 28 = some (3, 5, 0) := rfl
theorem fl_X4_31 : fl_X4 31 = some (3, 6, 0) := rfl
theorem fl_X4_34 : fl_X4 34 = some (3, 7, 0) := rfl
def kc_X4 : Nat → Option am_V := am_kl []
theorem kc_X4_ok : am_kcw RX4 kc_X4 := am_kl_ok (fun _ h => absurd h List.not_mem_nil)
theorem fe_X5_9 : am_fe RX5 (9, 4, 0, 1) := ⟨RX5, TX5, 2, rfl, by decide, am_inw_X5, am_gin (am_t1 (List.mem_of_getElem? (i := 81) (by decide +kernel))) rfl, fun _ => ⟨rfl, by decide +kernel⟩, fun h => absurd h (by decide)⟩
theorem fe_X5_15 : am_fe RX5 (15, 4, 1, 0) := ⟨RX5, TX5, 2, rfl, by decide, am_inw_X5, am_gin (am_t1 (List.mem_of_getElem? (i := 83) (by decide +kernel))) rfl, fun h => absurd h (by decide), fun h => absurd h (by decide)⟩
def fl_X5 : Nat → Option (Nat × Nat × Nat) := am_fl [(9, 4, 0, 1), (15, 4, 1, 0)]
theorem fl_X5_ok : am_flw RX5 fl_X5 := am_fl_ok (List.forall_mem_cons.mpr ⟨fe_X5_9, List.forall_mem_cons.mpr ⟨fe_X5_15, fun _ h => absurd h List.not_mem_nil⟩⟩)
theorem fl_X5_9 : fl_X5 9 = some (4, 0, 1) := rfl
theorem fl_X5_15 : fl_X5 15 = some (4, 1, 0) := rfl
def kc_X5 : Nat → Option am_V := am_kl [(53, .inr 998)]
theorem kc_X5_ok : am_kcw RX5 kc_X5 := am_kl_ok (List.forall_mem_cons.mpr ⟨⟨rfl, Or.inl ⟨rfl, rfl⟩⟩, fun _ h => absurd h List.not_mem_nil⟩)
theorem kc_X5_53 : kc_X5 53 = some (.inr 998) := rfl
theorem fe_X6_10 : am_fe RX6 (10, 5, 0, 0) := ⟨RX6, TX6, 11, rfl, by decide, am_inw_X6, am_gin (am_t1 (List.mem_of_getElem? (i := 189) (by decide +kernel))) rfl, fun h => absurd h (by decide), fun h => absurd h (by decide)⟩
theorem fe_X6_16 : am_fe RX6 (16, 5, 1, 0) := ⟨RX6, TX6, 11, rfl, by decide, am_inw_X6, am_gin (am_t1 (List.mem_of_getElem? (i := 190) (by decide +kernel))) rfl, fun h => absurd h (by decide), fun h => absurd h (by decide)⟩
theorem fe_X6_19 : am_fe RX6 (19, 5, 2, 2) := ⟨RX6, TX6, 11, rfl, by decide, am_inw_X6, am_gin (am_t1 (List.mem_of_getElem? (i := 191) (by decide +kernel))) rfl, fun h => absurd h (by decide), fun _ => ⟨rfl, by decide +kernel⟩⟩
theorem fe_X6_26 : am_fe RX6 (26, 5, 3, 0) := ⟨RX6, TX6, 11, rfl, by decide, am_inw_X6, am_gin (am_t1 (List.mem_of_getElem? (i := 192) (by decide +kernel))) rfl, fun h => absurd h (by decide), fun h => absurd h (by decide)⟩
theorem fe_X6_30 : am_fe RX6 (30, 5, 4, 0) := ⟨RX6, TX6, 11, rfl, by decide, am_inw_X6, am_gin (am_t1 (List.mem_of_getElem? (i := 193) (by decide +kernel))) rfl, fun h => absurd h (by decide), fun h => absurd h (by decide)⟩
theorem fe_X6_34 : am_fe RX6 (34, 5, 5, 1) := ⟨RX6, TX6, 11, rfl, by decide, am_inw_X6, am_gin (am_t1 (List.mem_of_getElem? (i := 194) (by decide +kernel))) rfl, fun _ => ⟨rfl, by decide +kernel⟩, fun h => absurd h (by decide)⟩
theorem fe_X6_38 : am_fe RX6 (38, 5, 6, 0) := ⟨RX6, TX6, 11, rfl, by decide, am_inw_X6, am_gin (am_t1 (List.mem_of_getElem? (i := 195) (by decide +kernel))) rfl, fun h => absurd h (by decide), fun h => absurd h (by decide)⟩
theorem fe_X6_41 : am_fe RX6 (41, 5, 7, 0) := ⟨RX6, TX6, 11, rfl, by decide, am_inw_X6, am_gin (am_t1 (List.mem_of_getElem? (i := 196) (by decide +kernel))) rfl, fun h => absurd h (by decide), fun h => absurd h (by decide)⟩
theorem fe_X6_47 : am_fe RX6 (47, 5, 8, 0) := ⟨RX6, TX6, 11, rfl, by decide, am_inw_X6, am_gin (am_t1 (List.mem_of_getElem? (i := 197) (by decide +kernel))) rfl, fun h => absurd h (by decide), fun h => absurd h (by decide)⟩
theorem fe_X6_54 : am_fe RX6 (54, 5, 9, 0) := ⟨RX6, TX6, 11, rfl, by decide, am_inw_X6, am_gin (am_t1 (List.mem_of_getElem? (i := 198) (by decide +kernel))) rfl, fun h => absurd h (by decide), fun h => absurd h (by decide)⟩
theorem fe_X6_61 : am_fe RX6 (61, 5, 10, 0) := ⟨RX6, TX6, 11, rfl, by decide, am_inw_X6, am_gin (am_t1 (List.mem_of_getElem? (i := 199) (by decide +kernel))) rfl, fun h => absurd h (by decide), fun h => absurd h (by decide)⟩
theorem fe_X6_87 : am_fe RX6 (87, 3, 3, 0) := ⟨RX4, TX4, 8, rfl, by decide, am_inw_X4, am_gin (am_t1 (List.mem_of_getElem? (i := 43) (by decide +kernel))) rfl, fun h => absurd h (by decide), fun h => absurd h (by decide)⟩
theorem fe_X6_90 : am_fe RX6 (90, 3, 4, 0) := ⟨RX4, TX4, 8, rfl, by decide, am_inw_X4, am_gin (am_t1 (List.mem_of_getElem? (i := 47) (by decide +kernel))) rfl, fun h => absurd h (by decide), fun h => absurd h (by decide)⟩
theorem fe_X6_93 : am_fe RX6 (93, 3, 5, 0) := ⟨RX4, TX4, 8, rfl, by decide, am_inw_X4, am_gin (am_t1 (List.mem_of_getElem? (i := 51) (by decide +kernel))) rfl, fun h => absurd h (by decide), fun h => absurd h (by decide)⟩
theorem fe_X6_96 : am_fe RX6 (96, 3, 6, 0) := ⟨RX4, TX4, 8, rfl, by decide, am_inw_X4, am_gin (am_t1 (List.mem_of_getElem? (i := 53) (by decide +kernel))) rfl, fun h => absurd h (by decide), fun h => absurd h (by decide)⟩
theorem fe_X6_116 : am_fe RX6 (116, 3, 1, 1) := ⟨RX4, TX4, 8, rfl, by decide, am_inw_X4, am_gin (am_t1 (List.mem_of_getElem? (i := 37) (by decide +kernel))) rfl, fun _ => ⟨rfl, by decide +kernel⟩, fun h => absurd h (by decide)⟩
theorem fe_X6_119 : am_fe RX6 (119, 3, 2, 1) := ⟨RX4, TX4, 8, rfl, by decide, am_inw_X4, am_gin (am_t1 (List.mem_of_getElem? (i := 41) (by decide +kernel))) rfl, fun _ => ⟨rfl, by decide +kernel⟩, fun h => absurd h (by decide)⟩
theorem fe_X6_132 : am_fe RX6 (132, 2, 0, 0) := ⟨RX3, TX3, 14, rfl, by decide, am_inw_X3, am_gin (am_t1 (List.mem_of_getElem? (i := 96) (by decide +kernel))) rfl, fun h => absurd h (by decide), fun h => absurd h (by decide)⟩
theorem fe_X6_135 : am_fe RX6 (135, 2, 1, 0) := ⟨RX3, TX3, 14, rfl, by decide, am_inw_X3, am_gin (am_t1 (List.mem_of_getElem? (i := 99) (by decide +kernel))) rfl, fun h => absurd h (by decide), fun h => absurd h (by decide)⟩
theorem fe_X6_138 : am_fe RX6 (138, 2, 2, 0) := ⟨RX3, TX3, 14, rfl, by decide, am_inw_X3, am_gin (am_t1 (List.mem_of_getElem? (i := 101) (by decide +kernel))) rfl, fun h => absurd h (by decide), fun h => absurd h (by decide)⟩
theorem fe_X6_141 : am_fe RX6 (141, 2, 4, 1) := ⟨RX3, TX3, 14, rfl, by decide, am_inw_X3, am_gin (am_t1 (List.mem_of_getElem? (i := 107) (by decide +kernel))) rfl, fun _ => ⟨rfl, by decide +kernel⟩, fun h => absurd h (by decide)⟩
theorem fe_X6_158 : am_fe RX6 (158, 3, 0, 1) := ⟨RX4, TX4, 8, rfl, by decide, am_inw_X4, am_gin (am_t1 (List.mem_of_getElem? (i := 34) (by decide +kernel))) rfl, fun _ => ⟨rfl, by decide +kernel⟩, fun h => absurd h (by decide)⟩
theorem fe_X6_212 : am_fe RX6 (212, 2, 3, 1) := ⟨RX3, TX3, 14, rfl, by decide, am_inw_X3, am_gin (am_t1 (List.mem_of_getElem? (i := 103) (by decide +kernel))) rfl, fun _ => ⟨rfl, by decide +kernel⟩, fun h => absurd h (by decide)⟩
theorem fe_X6_241 : am_fe RX6 (241, 4, 0, 1) := ⟨RX5, TX5, 2, rfl, by decide, am_inw_X5, am_gin (am_t1 (List.mem_of_getElem? (i := 82) (by decide +kernel))) rfl, fun _ => ⟨rfl, by decide +kernel⟩, fun h => absurd h (by decide)⟩
def fl_X6 : Nat → Option (Nat × Nat × Nat) := am_fl [(10, 5, 0, 0), (16, 5, 1, 0), (19, 5, 2, 2), (26, 5, 3, 0), (30, 5, 4, 0), (34, 5, 5, 1), (38, 5, 6, 0), (41, 5, 7, 0), (47, 5, 8, 0), (54, 5, 9, 0), (61, 5, 10, 0), (87, 3, 3, 0), (90, 3, 4, 0), (93, 3, 5, 0), (96, 3, 6, 0), (116, 3, 1, 1), (119, 3, 2, 1), (132, 2, 0, 0), (135, 2, 1, 0), (138, 2, 2, 0), (141, 2, 4, 1), (158, 3, 0, 1), (212, 2, 3, 1), (241, 4, 0, 1)]
theorem fl_X6_ok : am_flw RX6 fl_X6 := am_fl_ok (List.forall_mem_cons.mpr ⟨fe_X6_10, List.forall_mem_cons.mpr ⟨fe_X6_16, List.forall_mem_cons.mpr ⟨fe_X6_19, List.forall_mem_cons.mpr ⟨fe_X6_26, List.forall_mem_cons.mpr ⟨fe_X6_30, List.forall_mem_cons.mpr ⟨fe_X6_34, List.forall_mem_cons.mpr ⟨fe_X6_38, List.forall_mem_cons.mpr ⟨fe_X6_41, List.forall_mem_cons.mpr ⟨fe_X6_47, List.forall_mem_cons.mpr ⟨fe_X6_54, List.forall_mem_cons.mpr ⟨fe_X6_61, List.forall_mem_cons.mpr ⟨fe_X6_87, List.forall_mem_cons.mpr ⟨fe_X6_90, List.forall_mem_cons.mpr ⟨fe_X6_93, List.forall_mem_cons.mpr ⟨fe_X6_96, List.forall_mem_cons.mpr ⟨fe_X6_116, List.forall_mem_cons.mpr ⟨fe_X6_119, List.forall_mem_cons.mpr ⟨fe_X6_132, List.forall_mem_cons.mpr ⟨fe_X6_135, List.forall_mem_cons.mpr ⟨fe_X6_138, List.forall_mem_cons.mpr ⟨fe_X6_141, List.forall_mem_cons.mpr ⟨fe_X6_158, List.forall_mem_cons.mpr ⟨fe_X6_212, List.forall_mem_cons.mpr ⟨fe_X6_241, fun _ h => absurd h List.not_mem_nil⟩⟩⟩⟩⟩⟩⟩⟩⟩⟩⟩⟩⟩⟩⟩⟩⟩⟩⟩⟩⟩⟩⟩⟩)
theorem fl_X6_10 : fl_X6 10 = some (5, 0, 0) := rfl
theorem fl_X6_16 : fl_X6 16 = some (5, 1, 0) := rfl
theorem fl_X6_19 : fl_X6 19 = some (5, 2, 2) := rfl
theorem fl_X6_26 : fl_X6 26 = some (5, 3, 0) := rfl
theorem fl_X6_30 : fl_X6 30 = some (5, 4, 0) := rfl
theorem fl_X6_34 : fl_X6 34 = some (5, 5, 1) := rfl
theorem fl_X6_38 : fl_X6 38 = some (5, 6, 0) := rfl
theorem fl_X6_41 : fl_X6 41 = some (5, 7, 0) := rfl
theorem fl_X6_47 : fl_X6 47 = some (5, 8, 0) := rfl
theorem fl_X6_54 : fl_X6 54 = some (5, 9, 0) := rfl
theorem fl_X6_61 : fl_X6 61 = some (5, 10, 0) := rfl
theorem fl_X6_87 : fl_X6 87 = some (3, 3, 0) := rfl
theorem fl_X6_90 : fl_X6 90 = some (3, 4, 0) := rfl
theorem fl_X6_93 : fl_X6 93 = some (3, 5, 0) := rfl
theorem fl_X6_96 : fl_X6 96 = some (3, 6, 0) := rfl
theorem fl_X6_116 : fl_X6 116 = some (3, 1, 1) := rfl
theorem fl_X6_119 : fl_X6 119 = some (3, 2, 1) := rfl
theorem fl_X6_132 : fl_X6 132 = some (2, 0, 0) := rfl
theorem fl_X6_135 : fl_X6 135 = some (2, 1, 0) := rfl
theorem fl_X6_138 : fl_X6 138 = some (2, 2, 0) := rfl
theorem fl_X6_141 : fl_X6 141 = some (2, 4, 1) := rfl
theorem fl_X6_158 : fl_X6 158 = some (3, 0, 1) := rfl
theorem fl_X6_212 : fl_X6 212 = some (2, 3, 1) := rfl
theorem fl_X6_241 : fl_X6 241 = some (4, 0, 1) := rfl
def kc_X6 : Nat → Option am_V := am_kl [(190, .inl 1000000000)]
theorem kc_X6_ok : am_kcw RX6 kc_X6 := am_kl_ok (List.forall_mem_cons.mpr ⟨am_gin (am_t3 (List.mem_of_getElem? (i := 112) (by decide +kernel))) rfl, fun _ h => absurd h List.not_mem_nil⟩)
theorem kc_X6_190 : kc_X6 190 = some (.inl 1000000000) := rfl
theorem fe_X7_7 : am_fe RX7 (7, 6, 1, 0) := ⟨RX7, TX7, 27, rfl, by decide, am_inw_X7, am_gin (am_t4 (List.mem_of_getElem? (i := 12) (by decide +kernel))) rfl, fun h => absurd h (by decide), fun h => absurd h (by decide)⟩
theorem fe_X7_13 : am_fe RX7 (13, 6, 2, 0) := ⟨RX7, TX7, 27, rfl, by decide, am_inw_X7, am_gin (am_t4 (List.mem_of_getElem? (i := 13) (by decide +kernel))) rfl, fun h => absurd h (by decide), fun h => absurd h (by decide)⟩
theorem fe_X7_16 : am_fe RX7 (16, 6, 3, 0) := ⟨RX7, TX7, 27, rfl, by decide, am_inw_X7, am_gin (am_t4 (List.mem_of_getElem? (i := 14) (by decide +kernel))) rfl, fun h => absurd h (by decide), fun h => absurd h (by decide)⟩
theorem fe_X7_19 : am_fe RX7 (19, 6, 4, 0) := ⟨RX7, TX7, 27, rfl, by decide, am_inw_X7, am_gin (am_t4 (List.mem_of_getElem? (i := 15) (by decide +kernel))) rfl, fun h => absurd h (by decide), fun h => absurd h (by decide)⟩
theorem fe_X7_22 : am_fe RX7 (22, 6, 5, 0) := ⟨RX7, TX7, 27, rfl, by decide, am_inw_X7, am_gin (am_t4 (List.mem_of_getElem? (i := 16) (by decide +kernel))) rfl, fun h => absurd h (by decide), fun h => absurd h (by decide)⟩
theorem fe_X7_25 : am_fe RX7 (25, 6, 9, 0) := ⟨RX7, TX7, 27, rfl, by decide, am_inw_X7, am_gin (am_t4 (List.mem_of_getElem? (i := 20) (by decide +kernel))) rfl, fun h => absurd h (by decide), fun h => absurd h (by decide)⟩
theorem fe_X7_28 : am_fe RX7 (28, 6, 11, 0) := ⟨RX7, TX7, 27, rfl, by decide, am_inw_X7, am_gin (am_t4 (List.mem_of_getElem? (i := 22) (by decide +kernel))) rfl, fun h => absurd h (by decide), fun h => absurd h (by decide)⟩
theorem fe_X7_31 : am_fe RX7 (31, 6, 13, 0) := ⟨RX7, TX7, 27, rfl, by decide, am_inw_X7, am_gin (am_t4 (List.mem_of_getElem? (i := 24) (by decide +kernel))) rfl, fun h => absurd h (by decide), fun h => absurd h (by decide)⟩
theorem fe_X7_34 : am_fe RX7 (34, 6, 14, 0) := ⟨RX7, TX7, 27, rfl, by decide, am_inw_X7, am_gin (am_t4 (List.mem_of_getElem? (i := 25) (by decide +kernel))) rfl, fun h => absurd h (by decide), fun h => absurd h (by decide)⟩
theorem fe_X7_37 : am_fe RX7 (37, 6, 16, 0) := ⟨RX7, TX7, 27, rfl, by decide, am_inw_X7, am_gin (am_t4 (List.mem_of_getElem? (i := 27) (by decide +kernel))) rfl, fun h => absurd h (by decide), fun h => absurd h (by decide)⟩
theorem fe_X7_40 : am_fe RX7 (40, 6, 17, 0) := ⟨RX7, TX7, 27, rfl, by decide, am_inw_X7, am_gin (am_t4 (List.mem_of_getElem? (i := 28) (by decide +kernel))) rfl, fun h => absurd h (by decide), fun h => absurd h (by decide)⟩
theorem fe_X7_43 : am_fe RX7 (43, 6, 18, 0) := ⟨RX7, TX7, 27, rfl, by decide, am_inw_X7, am_gin (am_t4 (List.mem_of_getElem? (i := 29) (by decide +kernel))) rfl, fun h => absurd h (by decide), fun h => absurd h (by decide)⟩
theorem fe_X7_46 : am_fe RX7 (46, 6, 20, 0) := ⟨RX7, TX7, 27, rfl, by decide, am_inw_X7, am_gin (am_t4 (List.mem_of_getElem? (i := 31) (by decide +kernel))) rfl, fun h => absurd h (by decide), fun h => absurd h (by decide)⟩
theorem fe_X7_49 : am_fe RX7 (49, 6, 21, 0) := ⟨RX7, TX7, 27, rfl, by decide, am_inw_X7, am_gin (am_t4 (List.mem_of_getElem? (i := 32) (by decide +kernel))) rfl, fun h => absurd h (by decide), fun h => absurd h (by decide)⟩
theorem fe_X7_52 : am_fe RX7 (52, 6, 22, 0) := ⟨RX7, TX7, 27, rfl, by decide, am_inw_X7, am_gin (am_t4 (List.mem_of_getElem? (i := 33) (by decide +kernel))) rfl, fun h => absurd h (by decide), fun h => absurd h (by decide)⟩
theorem fe_X7_55 : am_fe RX7 (55, 6, 7, 1) := ⟨RX7, TX7, 27, rfl, by decide, am_inw_X7, am_gin (am_t4 (List.mem_of_getElem? (i := 18) (by decide +kernel))) rfl, fun _ => ⟨rfl, by decide +kernel⟩, fun h => absurd h (by decide)⟩
theorem fe_X7_59 : am_fe RX7 (59, 6, 0, 1) := ⟨RX7, TX7, 27, rfl, by decide, am_inw_X7, am_gin (am_t4 (List.mem_of_getElem? (i := 11) (by decide +kernel))) rfl, fun _ => ⟨rfl, by decide +kernel⟩, fun h => absurd h (by decide)⟩
theorem fe_X7_70 : am_fe RX7 (70, 6, 8, 1) := ⟨RX7, TX7, 27, rfl, by decide, am_inw_X7, am_gin (am_t4 (List.mem_of_getElem? (i := 19) (by decide +kernel))) rfl, fun _ => ⟨rfl, by decide +kernel⟩, fun h => absurd h (by decide)⟩
theorem fe_X7_73 : am_fe RX7 (73, 6, 10, 1) := ⟨RX7, TX7, 27, rfl, by decide, am_inw_X7, am_gin (am_t4 (List.mem_of_getElem? (i := 21) (by decide +kernel))) rfl, fun _ => ⟨rfl, by decide +kernel⟩, fun h => absurd h (by decide)⟩
theorem fe_X7_103 : am_fe RX7 (103, 6, 6, 1) := ⟨RX7, TX7, 27, rfl, by decide, am_inw_X7, am_gin (am_t4 (List.mem_of_getElem? (i := 17) (by decide +kernel))) rfl, fun _ => ⟨rfl, by decide +kernel⟩, fun h => absurd h (by decide)⟩
theorem fe_X7_136 : am_fe RX7 (136, 6, 26, 2) := ⟨RX7, TX7, 27, rfl, by decide, am_inw_X7, am_gin (am_t4 (List.mem_of_getElem? (i := 37) (by decide +kernel))) rfl, fun h => absurd h (by decide), fun _ => ⟨rfl, by decide +kernel⟩⟩
theorem fe_X7_146 : am_fe RX7 (146, 6, 19, 1) := ⟨RX7, TX7, 27, rfl, by decide, am_inw_X7, am_gin (am_t4 (List.mem_of_getElem? (i := 30) (by decide +kernel))) rfl, fun _ => ⟨rfl, by decide +kernel⟩, fun h => absurd h (by decide)⟩
theorem fe_X7_149 : am_fe RX7 (149, 6, 23, 1) := ⟨RX7, TX7, 27, rfl, by decide, am_inw_X7, am_gin (am_t4 (List.mem_of_getElem? (i := 34) (by decide +kernel))) rfl, fun _ => ⟨rfl, by decide +kernel⟩, fun h => absurd h (by decide)⟩
theorem fe_X7_152 : am_fe RX7 (152, 6, 24, 1) := ⟨RX7, TX7, 27, rfl, by decide, am_inw_X7, am_gin (am_t4 (List.mem_of_getElem? (i := 35) (by decide +kernel))) rfl, fun _ => ⟨rfl, by decide +kernel⟩, fun h => absurd h (by decide)⟩
theorem fe_X7_155 : am_fe RX7 (155, 6, 25, 1) := ⟨RX7, TX7, 27, rfl, by decide, am_inw_X7, am_gin (am_t4 (List.mem_of_getElem? (i := 36) (by decide +kernel))) rfl, fun _ => ⟨rfl, by decide +kernel⟩, fun h => absurd h (by decide)⟩
theorem fe_X7_198 : am_fe RX7 (198, 6, 12, 1) := ⟨RX7, TX7, 27, rfl, by decide, am_inw_X7, am_gin (am_t4 (List.mem_of_getElem? (i := 23) (by decide +kernel))) rfl, fun _ => ⟨rfl, by decide +kernel⟩, fun h => absurd h (by decide)⟩
theorem fe_X7_207 : am_fe RX7 (207, 6, 15, 2) := ⟨RX7, TX7, 27, rfl, by decide, am_inw_X7, am_gin (am_t4 (List.mem_of_getElem? (i := 26) (by decide +kernel))) rfl, fun h => absurd h (by decide), fun _ => ⟨rfl, by decide +kernel⟩⟩
def fl_X7 : Nat → Option (Nat × Nat × Nat) := am_fl [(7, 6, 1, 0), (13, 6, 2, 0), (16, 6, 3, 0), (19, 6, 4, 0), (22, 6, 5, 0), (25, 6, 9, 0), (28, 6, 11, 0), (31, 6, 13, 0), (34, 6, 14, 0), (37, 6, 16, 0), (40, 6, 17, 0), (43, 6, 18, 0), (46, 6, 20, 0), (49, 6, 21, 0), (52, 6, 22, 0), (55, 6, 7, 1), (59, 6, 0, 1), (70, 6, 8, 1), (73, 6, 10, 1), (103, 6, 6, 1), (136, 6, 26, 2), (146, 6, 19, 1), (149, 6, 23, 1), (152, 6, 24, 1), (155, 6, 25, 1), (198, 6, 12, 1), (207, 6, 15, 2)]
theorem fl_X7_ok : am_flw RX7 fl_X7 := am_fl_ok (List.forall_mem_cons.mpr ⟨fe_X7_7, List.forall_mem_cons.mpr ⟨fe_X7_13, List.forall_mem_cons.mpr ⟨fe_X7_16, List.forall_mem_cons.mpr ⟨fe_X7_19, List.forall_mem_cons.mpr ⟨fe_X7_22, List.forall_mem_cons.mpr ⟨fe_X7_25, List.forall_mem_cons.mpr ⟨fe_X7_28, List.forall_mem_cons.mpr ⟨fe_X7_31, List.forall_mem_cons.mpr ⟨fe_X7_34, List.forall_mem_cons.mpr ⟨fe_X7_37, List.forall_mem_cons.mpr ⟨fe_X7_40, List.forall_mem_cons.mpr ⟨fe_X7_43, List.forall_mem_cons.mpr ⟨fe_X7_46, List.forall_mem_cons.mpr ⟨fe_X7_49, List.forall_mem_cons.mpr ⟨fe_X7_52, List.forall_mem_cons.mpr ⟨fe_X7_55, List.forall_mem_cons.mpr ⟨fe_X7_59, List.forall_mem_cons.mpr ⟨fe_X7_70, List.forall_mem_cons.mpr ⟨fe_X7_73, List.forall_mem_cons.mpr ⟨fe_X7_103, List.forall_mem_cons.mpr ⟨fe_X7_136, List.forall_mem_cons.mpr ⟨fe_X7_146, List.forall_mem_cons.mpr ⟨fe_X7_149, List.forall_mem_cons.mpr ⟨fe_X7_152, List.forall_mem_cons.mpr ⟨fe_X7_155, List.forall_mem_cons.mpr ⟨fe_X7_198, List.forall_mem_cons.mpr ⟨fe_X7_207, fun _ h => absurd h List.not_mem_nil⟩⟩⟩⟩⟩⟩⟩⟩⟩⟩⟩⟩⟩⟩⟩⟩⟩⟩⟩⟩⟩⟩⟩⟩⟩⟩⟩)
theorem fl_X7_7 : fl_X7 7 = some (6, 1, 0) := rfl
theorem fl_X7_13 : fl_X7 13 = some (6, 2, 0) := rfl
theorem fl_X7_16 : fl_X7 16 = some (6, 3, 0) := rfl
theorem fl_X7_19 : fl_X7 19 = some (6, 4, 0) := rfl
theorem fl_X7_22 : fl_X7 22 = some (6, 5, 0) := rfl
theorem fl_X7_25 : fl_X7 25 = some (6, 9, 0) := rfl
theorem fl_X7_28 : fl_X7 28 = some (6, 11, 0) := rfl
theorem fl_X7_31 : fl_X7 31 = some (6, 13, 0) := rfl
theorem fl_X7_34 : fl_X7 34 = some (6, 14, 0) := rfl
theorem fl_X7_37 : fl_X7 37 = some (6, 16, 0) := rfl
theorem fl_X7_40 : fl_X7 40 = some (6, 17, 0) := rfl
theorem fl_X7_43 : fl_X7 43 = some (6, 18, 0) := rfl
theorem fl_X7_46 : fl_X7 46 = some (6, 20, 0) := rfl
theorem fl_X7_49 : fl_X7 49 = some (6, 21, 0) := rfl
theorem fl_X7_52 : fl_X7 52 = some (6, 22, 0) := rfl
theorem fl_X7_55 : fl_X7 55 = some (6, 7, 1) := rfl
theorem fl_X7_59 : fl_X7 59 = some (6, 0, 1) := rfl
theorem fl_X7_70 : fl_X7 70 = some (6, 8, 1) := rfl
theorem fl_X7_73 : fl_X7 73 = some (6, 10, 1) := rfl
theorem fl_X7_103 : fl_X7 103 = some (6, 6, 1) := rfl
theorem fl_X7_136 : fl_X7 136 = some (6, 26, 2) := rfl
theorem fl_X7_146 : fl_X7 146 = some (6, 19, 1) := rfl
theorem fl_X7_149 : fl_X7 149 = some (6, 23, 1) := rfl
theorem fl_X7_152 : fl_X7 152 = some (6, 24, 1) := rfl
theorem fl_X7_155 : fl_X7 155 = some (6, 25, 1) := rfl
theorem fl_X7_198 : fl_X7 198 = some (6, 12, 1) := rfl
theorem fl_X7_207 : fl_X7 207 = some (6, 15, 2) := rfl
def kc_X7 : Nat → Option am_V := am_kl [(190, .inl 1000000000), (204, .inl 1664525), (205, .inl 1013904223), (206, .inl 2147483647), (80, .inr 998)]
theorem kc_X7_ok : am_kcw RX7 kc_X7 := am_kl_ok (List.forall_mem_cons.mpr ⟨am_gin (am_t5 (List.mem_of_getElem? (i := 28) (by decide +kernel))) rfl, List.forall_mem_cons.mpr ⟨am_gin (am_t5 (List.mem_of_getElem? (i := 97) (by decide +kernel))) rfl, List.forall_mem_cons.mpr ⟨am_gin (am_t5 (List.mem_of_getElem? (i := 98) (by decide +kernel))) rfl, List.forall_mem_cons.mpr ⟨am_gin (am_t5 (List.mem_of_getElem? (i := 99) (by decide +kernel))) rfl, List.forall_mem_cons.mpr ⟨⟨rfl, Or.inr ⟨rfl, rfl⟩⟩, fun _ h => absurd h List.not_mem_nil⟩⟩⟩⟩⟩)
theorem kc_X7_190 : kc_X7 190 = some (.inl 1000000000) := rfl
theorem kc_X7_204 : kc_X7 204 = some (.inl 1664525) := rfl
theorem kc_X7_205 : kc_X7 205 = some (.inl 1013904223) := rfl
theorem kc_X7_206 : kc_X7 206 = some (.inl 2147483647) := rfl
theorem kc_X7_80 : kc_X7 80 = some (.inr 998) := rfl
def fl_J6 : Nat → Option (Nat × Nat × Nat) := am_fl []
theorem fl_J6_ok : am_flw RJ6 fl_J6 := am_fl_ok (fun _ h => absurd h List.not_mem_nil)
def kc_J6 : Nat → Option am_V := am_kl [(265, .inl 1431655765), (266, .inl 858993459), (267, .inl 252645135)]
theorem kc_J6_ok : am_kcw RJ6 kc_J6 := am_kl_ok (List.forall_mem_cons.mpr ⟨am_gin (am_t3 (List.mem_of_getElem? (i := 92) (by decide +kernel))) rfl, List.forall_mem_cons.mpr ⟨am_gin (am_t3 (List.mem_of_getElem? (i := 93) (by decide +kernel))) rfl, List.forall_mem_cons.mpr ⟨am_gin (am_t3 (List.mem_of_getElem? (i := 94) (by decide +kernel))) rfl, fun _ h => absurd h List.not_mem_nil⟩⟩⟩)
theorem kc_J6_265 : kc_J6 265 = some (.inl 1431655765) := rfl
theorem kc_J6_266 : kc_J6 266 = some (.inl 858993459) := rfl
theorem kc_J6_267 : kc_J6 267 = some (.inl 252645135) := rfl
def fl_J9 : Nat → Option (Nat × Nat × Nat) := am_fl []
theorem fl_J9_ok : am_flw RJ9 fl_J9 := am_fl_ok (fun _ h => absurd h List.not_mem_nil)
def kc_J9 : Nat → Option am_V := am_kl []
theorem kc_J9_ok : am_kcw RJ9 kc_J9 := am_kl_ok (fun _ h => absurd h List.not_mem_nil)
def fl_L : Nat → Option (Nat × Nat × Nat) := am_fl []
theorem fl_L_ok : am_flw RL fl_L := am_fl_ok (fun _ h => absurd h List.not_mem_nil)
def kc_L : Nat → Option am_V := am_kl []
theorem kc_L_ok : am_kcw RL kc_L := am_kl_ok (fun _ h => absurd h List.not_mem_nil)
theorem mo_X6_letter : am_mok yX6_letter cX6_letter 2 (some .int) 1 := ⟨am_gin (am_t1 (List.mem_of_getElem? (i := 226) (rfl))) rfl, by decide +kernel, by decide +kernel, by decide +kernel⟩
theorem mo_X6_refuse : am_mok yX6_refuse cX6_refuse 2 (some .int) 1 := ⟨am_gin (am_t1 (List.mem_of_getElem? (i := 230) (rfl))) rfl, by decide +kernel, by decide +kernel, by decide +kernel⟩
theorem mo_X5_isFull : am_mok yX5_isFull cX5_isFull 1 (some .boolean) 0 := ⟨am_gin (am_t1 (List.mem_of_getElem? (i := 234) (rfl))) rfl, by decide +kernel, by decide +kernel, by decide +kernel⟩
theorem mo_X5_append : am_mok yX5_append cX5_append 2 (some .int) 1 := ⟨am_gin (am_t1 (List.mem_of_getElem? (i := 238) (rfl))) rfl, by decide +kernel, by decide +kernel, by decide +kernel⟩
theorem mo_X6_road : am_mok yX6_road cX6_road 2 (some .int) 0 := ⟨am_gin (am_t2 (List.mem_of_getElem? (i := 3) (rfl))) rfl, by decide +kernel, by decide +kernel, by decide +kernel⟩
theorem mo_X5_tellTo : am_mok yX5_tellTo cX5_tellTo 7 (some .int) 2 := ⟨am_gin (am_t2 (List.mem_of_getElem? (i := 7) (rfl))) rfl, by decide +kernel, by decide +kernel, by decide +kernel⟩
theorem mo_X5_formFault : am_mok yX5_formFault cX5_formFault 3 (some .int) 0 := ⟨am_gin (am_t2 (List.mem_of_getElem? (i := 11) (rfl))) rfl, by decide +kernel, by decide +kernel, by decide +kernel⟩
theorem mo_X5_isInForm : am_mok yX5_isInForm cX5_isInForm 5 (some .boolean) 2 := ⟨am_gin (am_t2 (List.mem_of_getElem? (i := 15) (rfl))) rfl, by decide +kernel, by decide +kernel, by decide +kernel⟩
theorem mo_X5_letterAt : am_mok yX5_letterAt cX5_letterAt 2 (some .int) 1 := ⟨am_gin (am_t2 (List.mem_of_getElem? (i := 19) (rfl))) rfl, by decide +kernel, by decide +kernel, by decide +kernel⟩
theorem mo_X5_lengthOf : am_mok yX5_lengthOf cX5_lengthOf 1 (some .int) 1 := ⟨am_gin (am_t2 (List.mem_of_getElem? (i := 22) (rfl))) rfl, by decide +kernel, by decide +kernel, by decide +kernel⟩
theorem mo_X5_kindAt : am_mok yX5_kindAt cX5_kindAt 2 (some .int) 1 := ⟨am_gin (am_t2 (List.mem_of_getElem? (i := 26) (rfl))) rfl, by decide +kernel, by decide +kernel, by decide +kernel⟩
theorem mo_J9_max_7cf53 : am_mok yJ9_max_7cf53 cJ9_max_7cf53 2 (some .int) 2 := ⟨am_gin (am_t2 (List.mem_of_getElem? (i := 58) (rfl))) rfl, by decide +kernel, by decide +kernel, by decide +kernel⟩
theorem mo_X4_copyFrom : am_mok yX4_copyFrom cX4_copyFrom 3 none 1 := ⟨am_gin (am_t2 (List.mem_of_getElem? (i := 117) (rfl))) rfl, by decide +kernel, by decide +kernel, by decide +kernel⟩
theorem mo_X5_tellStatement : am_mok yX5_tellStatement cX5_tellStatement 4 (some .boolean) 2 := ⟨am_gin (am_t2 (List.mem_of_getElem? (i := 121) (rfl))) rfl, by decide +kernel, by decide +kernel, by decide +kernel⟩
theorem mo_X5_digitAt : am_mok yX5_digitAt cX5_digitAt 2 (some .int) 1 := ⟨am_gin (am_t2 (List.mem_of_getElem? (i := 125) (rfl))) rfl, by decide +kernel, by decide +kernel, by decide +kernel⟩
theorem mo_X5_tellCar : am_mok yX5_tellCar cX5_tellCar 4 (some .boolean) 2 := ⟨am_gin (am_t2 (List.mem_of_getElem? (i := 129) (rfl))) rfl, by decide +kernel, by decide +kernel, by decide +kernel⟩
theorem mo_X4_add : am_mok yX4_add cX4_add 5 (some .boolean) 4 := ⟨am_gin (am_t2 (List.mem_of_getElem? (i := 133) (rfl))) rfl, by decide +kernel, by decide +kernel, by decide +kernel⟩
theorem mo_X4_putBoard : am_mok yX4_putBoard cX4_putBoard 2 (some .boolean) 1 := ⟨am_gin (am_t2 (List.mem_of_getElem? (i := 137) (rfl))) rfl, by decide +kernel, by decide +kernel, by decide +kernel⟩
theorem mo_X4_putWave : am_mok yX4_putWave cX4_putWave 2 (some .boolean) 1 := ⟨am_gin (am_t2 (List.mem_of_getElem? (i := 141) (rfl))) rfl, by decide +kernel, by decide +kernel, by decide +kernel⟩
theorem mo_X4_crossOver : am_mok yX4_crossOver cX4_crossOver 2 (some .boolean) 1 := ⟨am_gin (am_t2 (List.mem_of_getElem? (i := 145) (rfl))) rfl, by decide +kernel, by decide +kernel, by decide +kernel⟩
theorem mo_X4_has : am_mok yX4_has cX4_has 2 (some .boolean) 1 := ⟨am_gin (am_t2 (List.mem_of_getElem? (i := 149) (rfl))) rfl, by decide +kernel, by decide +kernel, by decide +kernel⟩
theorem mo_X4_moveToEndOf : am_mok yX4_moveToEndOf cX4_moveToEndOf 4 (some .boolean) 2 := ⟨am_gin (am_t2 (List.mem_of_getElem? (i := 153) (rfl))) rfl, by decide +kernel, by decide +kernel, by decide +kernel⟩
theorem mo_X4_lineIndex : am_mok yX4_lineIndex cX4_lineIndex 3 (some .int) 1 := ⟨am_gin (am_t2 (List.mem_of_getElem? (i := 157) (rfl))) rfl, by decide +kernel, by decide +kernel, by decide +kernel⟩
theorem mo_X4_moveToFront : am_mok yX4_moveToFront cX4_moveToFront 3 (some .boolean) 1 := ⟨am_gin (am_t2 (List.mem_of_getElem? (i := 161) (rfl))) rfl, by decide +kernel, by decide +kernel, by decide +kernel⟩
theorem mo_X4_exchangeKinds : am_mok yX4_exchangeKinds cX4_exchangeKinds 5 (some .boolean) 2 := ⟨am_gin (am_t2 (List.mem_of_getElem? (i := 165) (rfl))) rfl, by decide +kernel, by decide +kernel, by decide +kernel⟩
theorem mo_X4_areTwo : am_mok yX4_areTwo cX4_areTwo 3 (some .boolean) 2 := ⟨am_gin (am_t2 (List.mem_of_getElem? (i := 169) (rfl))) rfl, by decide +kernel, by decide +kernel, by decide +kernel⟩
theorem mo_X5_empty : am_mok yX5_empty cX5_empty 1 none 0 := ⟨am_gin (am_t2 (List.mem_of_getElem? (i := 173) (rfl))) rfl, by decide +kernel, by decide +kernel, by decide +kernel⟩
theorem mo_X6_car : am_mok yX6_car cX6_car 3 (some .int) 2 := ⟨am_gin (am_t2 (List.mem_of_getElem? (i := 178) (rfl))) rfl, by decide +kernel, by decide +kernel, by decide +kernel⟩
theorem mo_X4_placeOf : am_mok yX4_placeOf cX4_placeOf 5 (some .int) 1 := ⟨am_gin (am_t2 (List.mem_of_getElem? (i := 183) (rfl))) rfl, by decide +kernel, by decide +kernel, by decide +kernel⟩
theorem mo_X4_letsIn : am_mok yX4_letsIn cX4_letsIn 2 (some .int) 1 := ⟨am_gin (am_t2 (List.mem_of_getElem? (i := 187) (rfl))) rfl, by decide +kernel, by decide +kernel, by decide +kernel⟩
theorem mo_X2_lettingIn : am_mok yX2_lettingIn cX2_lettingIn 3 (some .int) 3 := ⟨am_gin (am_t2 (List.mem_of_getElem? (i := 190) (rfl))) rfl, by decide +kernel, by decide +kernel, by decide +kernel⟩
theorem mo_X2_secondsOf : am_mok yX2_secondsOf cX2_secondsOf 1 (some .int) 1 := ⟨am_gin (am_t2 (List.mem_of_getElem? (i := 193) (rfl))) rfl, by decide +kernel, by decide +kernel, by decide +kernel⟩
theorem mo_X6_hurry : am_mok yX6_hurry cX6_hurry 4 (some .int) 2 := ⟨am_gin (am_t2 (List.mem_of_getElem? (i := 197) (rfl))) rfl, by decide +kernel, by decide +kernel, by decide +kernel⟩
theorem mo_X6_goOver : am_mok yX6_goOver cX6_goOver 2 (some .int) 1 := ⟨am_gin (am_t2 (List.mem_of_getElem? (i := 201) (rfl))) rfl, by decide +kernel, by decide +kernel, by decide +kernel⟩
theorem mo_X6_standFirst : am_mok yX6_standFirst cX6_standFirst 3 (some .int) 1 := ⟨am_gin (am_t2 (List.mem_of_getElem? (i := 206) (rfl))) rfl, by decide +kernel, by decide +kernel, by decide +kernel⟩
theorem mo_X6_set : am_mok yX6_set cX6_set 5 (some .int) 2 := ⟨am_gin (am_t2 (List.mem_of_getElem? (i := 211) (rfl))) rfl, by decide +kernel, by decide +kernel, by decide +kernel⟩
theorem mo_X6_order : am_mok yX6_order cX6_order 2 (some .int) 1 := ⟨am_gin (am_t2 (List.mem_of_getElem? (i := 217) (rfl))) rfl, by decide +kernel, by decide +kernel, by decide +kernel⟩
theorem mo_X3_drive : am_mok yX3_drive cX3_drive 7 none 2 := ⟨am_gin (am_t2 (List.mem_of_getElem? (i := 221) (rfl))) rfl, by decide +kernel, by decide +kernel, by decide +kernel⟩
theorem mo_X3_lineUp : am_mok yX3_lineUp cX3_lineUp 5 none 2 := ⟨am_gin (am_t2 (List.mem_of_getElem? (i := 225) (rfl))) rfl, by decide +kernel, by decide +kernel, by decide +kernel⟩
theorem mo_X3_isLeftNext : am_mok yX3_isLeftNext cX3_isLeftNext 3 (some .boolean) 1 := ⟨am_gin (am_t2 (List.mem_of_getElem? (i := 229) (rfl))) rfl, by decide +kernel, by decide +kernel, by decide +kernel⟩
theorem mo_X2_isPushing : am_mok yX2_isPushing cX2_isPushing 1 (some .boolean) 1 := ⟨am_gin (am_t2 (List.mem_of_getElem? (i := 233) (rfl))) rfl, by decide +kernel, by decide +kernel, by decide +kernel⟩
theorem mo_X3_goThrough : am_mok yX3_goThrough cX3_goThrough 4 none 2 := ⟨am_gin (am_t2 (List.mem_of_getElem? (i := 237) (rfl))) rfl, by decide +kernel, by decide +kernel, by decide +kernel⟩
theorem mo_X6_of : am_mok yX6_of cX6_of 3 (some .int) 2 := ⟨am_gin (am_t3 (List.mem_of_getElem? (i := 2) (rfl))) rfl, by decide +kernel, by decide +kernel, by decide +kernel⟩
theorem mo_X6_sums : am_mok yX6_sums cX6_sums 2 (some .int) 1 := ⟨am_gin (am_t3 (List.mem_of_getElem? (i := 6) (rfl))) rfl, by decide +kernel, by decide +kernel, by decide +kernel⟩
theorem mo_X3_allWaits : am_mok yX3_allWaits cX3_allWaits 3 (some .int) 0 := ⟨am_gin (am_t3 (List.mem_of_getElem? (i := 10) (rfl))) rfl, by decide +kernel, by decide +kernel, by decide +kernel⟩
theorem mo_X3_waitInTurn : am_mok yX3_waitInTurn cX3_waitInTurn 2 (some .int) 1 := ⟨am_gin (am_t3 (List.mem_of_getElem? (i := 14) (rfl))) rfl, by decide +kernel, by decide +kernel, by decide +kernel⟩
theorem mo_X3_cost : am_mok yX3_cost cX3_cost 4 (some .int) 1 := ⟨am_gin (am_t3 (List.mem_of_getElem? (i := 18) (rfl))) rfl, by decide +kernel, by decide +kernel, by decide +kernel⟩
theorem mo_X3_laneChanges : am_mok yX3_laneChanges cX3_laneChanges 4 (some .int) 1 := ⟨am_gin (am_t3 (List.mem_of_getElem? (i := 22) (rfl))) rfl, by decide +kernel, by decide +kernel, by decide +kernel⟩
theorem mo_X3_longestRun : am_mok yX3_longestRun cX3_longestRun 6 (some .int) 1 := ⟨am_gin (am_t3 (List.mem_of_getElem? (i := 26) (rfl))) rfl, by decide +kernel, by decide +kernel, by decide +kernel⟩
theorem mo_X6_queue : am_mok yX6_queue cX6_queue 3 (some .int) 2 := ⟨am_gin (am_t3 (List.mem_of_getElem? (i := 31) (rfl))) rfl, by decide +kernel, by decide +kernel, by decide +kernel⟩
theorem mo_X4_standing : am_mok yX4_standing cX4_standing 4 (some .int) 1 := ⟨am_gin (am_t3 (List.mem_of_getElem? (i := 35) (rfl))) rfl, by decide +kernel, by decide +kernel, by decide +kernel⟩
theorem mo_X3_goneOf : am_mok yX3_goneOf cX3_goneOf 6 (some .int) 3 := ⟨am_gin (am_t3 (List.mem_of_getElem? (i := 39) (rfl))) rfl, by decide +kernel, by decide +kernel, by decide +kernel⟩
theorem mo_X6_bestBoard : am_mok yX6_bestBoard cX6_bestBoard 1 (some .int) 0 := ⟨am_gin (am_t3 (List.mem_of_getElem? (i := 43) (rfl))) rfl, by decide +kernel, by decide +kernel, by decide +kernel⟩
theorem mo_X0_cheapestBoard : am_mok yX0_cheapestBoard cX0_cheapestBoard 6 (some .int) 1 := ⟨am_gin (am_t3 (List.mem_of_getElem? (i := 47) (rfl))) rfl, by decide +kernel, by decide +kernel, by decide +kernel⟩
theorem mo_X0_costOf : am_mok yX0_costOf cX0_costOf 2 (some .int) 1 := ⟨am_gin (am_t3 (List.mem_of_getElem? (i := 52) (rfl))) rfl, by decide +kernel, by decide +kernel, by decide +kernel⟩
theorem mo_X6_over : am_mok yX6_over cX6_over 2 (some .int) 1 := ⟨am_gin (am_t3 (List.mem_of_getElem? (i := 58) (rfl))) rfl, by decide +kernel, by decide +kernel, by decide +kernel⟩
theorem mo_X0_cheapestMove : am_mok yX0_cheapestMove cX0_cheapestMove 8 (some .int) 3 := ⟨am_gin (am_t3 (List.mem_of_getElem? (i := 62) (rfl))) rfl, by decide +kernel, by decide +kernel, by decide +kernel⟩
theorem mo_X6_first : am_mok yX6_first cX6_first 2 (some .int) 1 := ⟨am_gin (am_t3 (List.mem_of_getElem? (i := 68) (rfl))) rfl, by decide +kernel, by decide +kernel, by decide +kernel⟩
theorem mo_X6_lets : am_mok yX6_lets cX6_lets 1 (some .int) 0 := ⟨am_gin (am_t3 (List.mem_of_getElem? (i := 72) (rfl))) rfl, by decide +kernel, by decide +kernel, by decide +kernel⟩
theorem mo_X0_cheapestKindOne : am_mok yX0_cheapestKindOne cX0_cheapestKindOne 7 (some .int) 1 := ⟨am_gin (am_t3 (List.mem_of_getElem? (i := 76) (rfl))) rfl, by decide +kernel, by decide +kernel, by decide +kernel⟩
theorem mo_X6_spoil : am_mok yX6_spoil cX6_spoil 2 (some .int) 1 := ⟨am_gin (am_t3 (List.mem_of_getElem? (i := 80) (rfl))) rfl, by decide +kernel, by decide +kernel, by decide +kernel⟩
theorem mo_X0_fewestTurned : am_mok yX0_fewestTurned cX0_fewestTurned 7 (some .int) 2 := ⟨am_gin (am_t3 (List.mem_of_getElem? (i := 84) (rfl))) rfl, by decide +kernel, by decide +kernel, by decide +kernel⟩
theorem mo_X0_measured : am_mok yX0_measured cX0_measured 3 (some .int) 2 := ⟨am_gin (am_t3 (List.mem_of_getElem? (i := 88) (rfl))) rfl, by decide +kernel, by decide +kernel, by decide +kernel⟩
theorem mo_J6_bitCount_0f7a4 : am_mok yJ6_bitCount_0f7a4 cJ6_bitCount_0f7a4 1 (some .int) 1 := ⟨am_gin (am_t3 (List.mem_of_getElem? (i := 91) (rfl))) rfl, by decide +kernel, by decide +kernel, by decide +kernel⟩
theorem mo_X0_isReached : am_mok yX0_isReached cX0_isReached 7 (some .boolean) 4 := ⟨am_gin (am_t3 (List.mem_of_getElem? (i := 98) (rfl))) rfl, by decide +kernel, by decide +kernel, by decide +kernel⟩
theorem mo_X6_bitsOrHowMany : am_mok yX6_bitsOrHowMany cX6_bitsOrHowMany 2 (some .int) 2 := ⟨am_gin (am_t3 (List.mem_of_getElem? (i := 101) (rfl))) rfl, by decide +kernel, by decide +kernel, by decide +kernel⟩
theorem mo_X6_mend : am_mok yX6_mend cX6_mend 2 (some .int) 1 := ⟨am_gin (am_t3 (List.mem_of_getElem? (i := 106) (rfl))) rfl, by decide +kernel, by decide +kernel, by decide +kernel⟩
theorem mo_X6_loses : am_mok yX6_loses cX6_loses 3 (some .int) 2 := ⟨am_gin (am_t3 (List.mem_of_getElem? (i := 110) (rfl))) rfl, by decide +kernel, by decide +kernel, by decide +kernel⟩
theorem mo_X1_loss : am_mok yX1_loss cX1_loss 5 (some .int) 3 := ⟨am_gin (am_t3 (List.mem_of_getElem? (i := 116) (rfl))) rfl, by decide +kernel, by decide +kernel, by decide +kernel⟩
theorem mo_X6_byWhom : am_mok yX6_byWhom cX6_byWhom 2 (some .int) 1 := ⟨am_gin (am_t3 (List.mem_of_getElem? (i := 121) (rfl))) rfl, by decide +kernel, by decide +kernel, by decide +kernel⟩
theorem mo_X1_greatestLossBy : am_mok yX1_greatestLossBy cX1_greatestLossBy 7 (some .int) 2 := ⟨am_gin (am_t3 (List.mem_of_getElem? (i := 125) (rfl))) rfl, by decide +kernel, by decide +kernel, by decide +kernel⟩
theorem mo_X6_two : am_mok yX6_two cX6_two 3 (some .int) 2 := ⟨am_gin (am_t3 (List.mem_of_getElem? (i := 130) (rfl))) rfl, by decide +kernel, by decide +kernel, by decide +kernel⟩
theorem mo_X1_steadyPair : am_mok yX1_steadyPair cX1_steadyPair 7 (some .int) 3 := ⟨am_gin (am_t3 (List.mem_of_getElem? (i := 134) (rfl))) rfl, by decide +kernel, by decide +kernel, by decide +kernel⟩
theorem mo_X6_fair : am_mok yX6_fair cX6_fair 3 (some .int) 0 := ⟨am_gin (am_t3 (List.mem_of_getElem? (i := 140) (rfl))) rfl, by decide +kernel, by decide +kernel, by decide +kernel⟩
theorem mo_X3_overtaken : am_mok yX3_overtaken cX3_overtaken 4 (some .int) 1 := ⟨am_gin (am_t3 (List.mem_of_getElem? (i := 144) (rfl))) rfl, by decide +kernel, by decide +kernel, by decide +kernel⟩
theorem mo_X6_lucky : am_mok yX6_lucky cX6_lucky 5 (some .int) 0 := ⟨am_gin (am_t3 (List.mem_of_getElem? (i := 148) (rfl))) rfl, by decide +kernel, by decide +kernel, by decide +kernel⟩
theorem mo_X6_away : am_mok yX6_away cX6_away 1 (some .int) 0 := ⟨am_gin (am_t3 (List.mem_of_getElem? (i := 152) (rfl))) rfl, by decide +kernel, by decide +kernel, by decide +kernel⟩
theorem mo_X0_cheapestWithout : am_mok yX0_cheapestWithout cX0_cheapestWithout 6 (some .int) 1 := ⟨am_gin (am_t3 (List.mem_of_getElem? (i := 156) (rfl))) rfl, by decide +kernel, by decide +kernel, by decide +kernel⟩
theorem mo_X6_wider : am_mok yX6_wider cX6_wider 4 (some .int) 0 := ⟨am_gin (am_t3 (List.mem_of_getElem? (i := 160) (rfl))) rfl, by decide +kernel, by decide +kernel, by decide +kernel⟩
theorem mo_X6_gap : am_mok yX6_gap cX6_gap 6 (some .int) 1 := ⟨am_gin (am_t3 (List.mem_of_getElem? (i := 165) (rfl))) rfl, by decide +kernel, by decide +kernel, by decide +kernel⟩
theorem mo_X6_even : am_mok yX6_even cX6_even 2 (some .int) 1 := ⟨am_gin (am_t3 (List.mem_of_getElem? (i := 170) (rfl))) rfl, by decide +kernel, by decide +kernel, by decide +kernel⟩
theorem mo_X0_leastWave : am_mok yX0_leastWave cX0_leastWave 4 (some .int) 2 := ⟨am_gin (am_t3 (List.mem_of_getElem? (i := 174) (rfl))) rfl, by decide +kernel, by decide +kernel, by decide +kernel⟩
theorem mo_X6_keep : am_mok yX6_keep cX6_keep 3 (some .int) 2 := ⟨am_gin (am_t3 (List.mem_of_getElem? (i := 178) (rfl))) rfl, by decide +kernel, by decide +kernel, by decide +kernel⟩
theorem mo_X0_fewestGone : am_mok yX0_fewestGone cX0_fewestGone 6 (some .int) 2 := ⟨am_gin (am_t3 (List.mem_of_getElem? (i := 182) (rfl))) rfl, by decide +kernel, by decide +kernel, by decide +kernel⟩
theorem mo_X0_isWithin : am_mok yX0_isWithin cX0_isWithin 4 (some .boolean) 3 := ⟨am_gin (am_t3 (List.mem_of_getElem? (i := 186) (rfl))) rfl, by decide +kernel, by decide +kernel, by decide +kernel⟩
theorem mo_X6_who : am_mok yX6_who cX6_who 6 (some .int) 2 := ⟨am_gin (am_t3 (List.mem_of_getElem? (i := 190) (rfl))) rfl, by decide +kernel, by decide +kernel, by decide +kernel⟩
theorem mo_X6_firstNotSo : am_mok yX6_firstNotSo cX6_firstNotSo 3 (some .int) 1 := ⟨am_gin (am_t3 (List.mem_of_getElem? (i := 195) (rfl))) rfl, by decide +kernel, by decide +kernel, by decide +kernel⟩
theorem mo_X6_row : am_mok yX6_row cX6_row 2 (some .int) 1 := ⟨am_gin (am_t3 (List.mem_of_getElem? (i := 199) (rfl))) rfl, by decide +kernel, by decide +kernel, by decide +kernel⟩
theorem mo_X6_judge : am_mok yX6_judge cX6_judge 2 (some .int) 0 := ⟨am_gin (am_t3 (List.mem_of_getElem? (i := 203) (rfl))) rfl, by decide +kernel, by decide +kernel, by decide +kernel⟩
theorem mo_X6_clear : am_mok yX6_clear cX6_clear 2 (some .int) 0 := ⟨am_gin (am_t3 (List.mem_of_getElem? (i := 207) (rfl))) rfl, by decide +kernel, by decide +kernel, by decide +kernel⟩
theorem mo_X6_lots : am_mok yX6_lots cX6_lots 4 (some .int) 3 := ⟨am_gin (am_t3 (List.mem_of_getElem? (i := 211) (rfl))) rfl, by decide +kernel, by decide +kernel, by decide +kernel⟩
theorem mo_X1_byLot : am_mok yX1_byLot cX1_byLot 8 (some .int) 4 := ⟨am_gin (am_t3 (List.mem_of_getElem? (i := 215) (rfl))) rfl, by decide +kernel, by decide +kernel, by decide +kernel⟩
theorem mo_X1_drawLane : am_mok yX1_drawLane cX1_drawLane 1 (some .int) 0 := ⟨am_gin (am_t3 (List.mem_of_getElem? (i := 219) (rfl))) rfl, by decide +kernel, by decide +kernel, by decide +kernel⟩
theorem mo_X6_image : am_mok yX6_image cX6_image 1 (some .int) 0 := ⟨am_gin (am_t3 (List.mem_of_getElem? (i := 227) (rfl))) rfl, by decide +kernel, by decide +kernel, by decide +kernel⟩
theorem mo_X6_on : am_mok yX6_on cX6_on 1 (some .int) 0 := ⟨am_gin (am_t3 (List.mem_of_getElem? (i := 231) (rfl))) rfl, by decide +kernel, by decide +kernel, by decide +kernel⟩
theorem mo_X6_count : am_mok yX6_count cX6_count 2 (some .int) 1 := ⟨am_gin (am_t3 (List.mem_of_getElem? (i := 235) (rfl))) rfl, by decide +kernel, by decide +kernel, by decide +kernel⟩
theorem mo_X4_allHurry : am_mok yX4_allHurry cX4_allHurry 3 (some .int) 0 := ⟨am_gin (am_t3 (List.mem_of_getElem? (i := 239) (rfl))) rfl, by decide +kernel, by decide +kernel, by decide +kernel⟩
theorem mo_X4_secondsAlone : am_mok yX4_secondsAlone cX4_secondsAlone 3 (some .int) 0 := ⟨am_gin (am_t4 (List.mem_of_getElem? (i := 3) (rfl))) rfl, by decide +kernel, by decide +kernel, by decide +kernel⟩
theorem mo_X7_letter : am_mok yX7_letter cX7_letter 2 (some .int) 1 := ⟨am_gin (am_t4 (List.mem_of_getElem? (i := 96) (rfl))) rfl, by decide +kernel, by decide +kernel, by decide +kernel⟩
theorem mo_X7_no : am_mok yX7_no cX7_no 2 (some .int) 1 := ⟨am_gin (am_t4 (List.mem_of_getElem? (i := 100) (rfl))) rfl, by decide +kernel, by decide +kernel, by decide +kernel⟩
theorem mo_X7_road : am_mok yX7_road cX7_road 4 (some .int) 0 := ⟨am_gin (am_t4 (List.mem_of_getElem? (i := 104) (rfl))) rfl, by decide +kernel, by decide +kernel, by decide +kernel⟩
theorem mo_X7_statement : am_mok yX7_statement cX7_statement 4 (some .int) 1 := ⟨am_gin (am_t4 (List.mem_of_getElem? (i := 108) (rfl))) rfl, by decide +kernel, by decide +kernel, by decide +kernel⟩
theorem mo_X7_is : am_mok yX7_is cX7_is 2 (some .boolean) 1 := ⟨am_gin (am_t4 (List.mem_of_getElem? (i := 112) (rfl))) rfl, by decide +kernel, by decide +kernel, by decide +kernel⟩
theorem mo_X7_digits : am_mok yX7_digits cX7_digits 3 (some .boolean) 1 := ⟨am_gin (am_t4 (List.mem_of_getElem? (i := 118) (rfl))) rfl, by decide +kernel, by decide +kernel, by decide +kernel⟩
theorem mo_X7_two : am_mok yX7_two cX7_two 2 (some .int) 1 := ⟨am_gin (am_t4 (List.mem_of_getElem? (i := 122) (rfl))) rfl, by decide +kernel, by decide +kernel, by decide +kernel⟩
theorem mo_X7_inLane : am_mok yX7_inLane cX7_inLane 4 (some .int) 1 := ⟨am_gin (am_t4 (List.mem_of_getElem? (i := 126) (rfl))) rfl, by decide +kernel, by decide +kernel, by decide +kernel⟩
theorem mo_X7_isCar : am_mok yX7_isCar cX7_isCar 2 (some .boolean) 1 := ⟨am_gin (am_t4 (List.mem_of_getElem? (i := 130) (rfl))) rfl, by decide +kernel, by decide +kernel, by decide +kernel⟩
theorem mo_X7_within : am_mok yX7_within cX7_within 3 (some .boolean) 3 := ⟨am_gin (am_t4 (List.mem_of_getElem? (i := 133) (rfl))) rfl, by decide +kernel, by decide +kernel, by decide +kernel⟩
theorem mo_X7_becomes : am_mok yX7_becomes cX7_becomes 4 none 3 := ⟨am_gin (am_t4 (List.mem_of_getElem? (i := 137) (rfl))) rfl, by decide +kernel, by decide +kernel, by decide +kernel⟩
theorem mo_X7_overGoes : am_mok yX7_overGoes cX7_overGoes 2 (some .int) 1 := ⟨am_gin (am_t4 (List.mem_of_getElem? (i := 141) (rfl))) rfl, by decide +kernel, by decide +kernel, by decide +kernel⟩
theorem mo_X7_comes : am_mok yX7_comes cX7_comes 3 (some .int) 2 := ⟨am_gin (am_t4 (List.mem_of_getElem? (i := 145) (rfl))) rfl, by decide +kernel, by decide +kernel, by decide +kernel⟩
theorem mo_X7_closes : am_mok yX7_closes cX7_closes 4 none 2 := ⟨am_gin (am_t4 (List.mem_of_getElem? (i := 149) (rfl))) rfl, by decide +kernel, by decide +kernel, by decide +kernel⟩
theorem mo_X7_firstStands : am_mok yX7_firstStands cX7_firstStands 4 (some .int) 1 := ⟨am_gin (am_t4 (List.mem_of_getElem? (i := 153) (rfl))) rfl, by decide +kernel, by decide +kernel, by decide +kernel⟩
theorem mo_X7_keep_ : am_mok yX7_keep_ cX7_keep_ 3 none 1 := ⟨am_gin (am_t4 (List.mem_of_getElem? (i := 157) (rfl))) rfl, by decide +kernel, by decide +kernel, by decide +kernel⟩
theorem mo_X7_again : am_mok yX7_again cX7_again 3 none 1 := ⟨am_gin (am_t4 (List.mem_of_getElem? (i := 161) (rfl))) rfl, by decide +kernel, by decide +kernel, by decide +kernel⟩
theorem mo_X7_car : am_mok yX7_car cX7_car 3 (some .int) 2 := ⟨am_gin (am_t4 (List.mem_of_getElem? (i := 165) (rfl))) rfl, by decide +kernel, by decide +kernel, by decide +kernel⟩
theorem mo_X7_letsOf : am_mok yX7_letsOf cX7_letsOf 2 (some .int) 1 := ⟨am_gin (am_t4 (List.mem_of_getElem? (i := 169) (rfl))) rfl, by decide +kernel, by decide +kernel, by decide +kernel⟩
theorem mo_X7_secondsOf : am_mok yX7_secondsOf cX7_secondsOf 3 (some .int) 1 := ⟨am_gin (am_t4 (List.mem_of_getElem? (i := 174) (rfl))) rfl, by decide +kernel, by decide +kernel, by decide +kernel⟩
theorem mo_X7_hurry : am_mok yX7_hurry cX7_hurry 4 (some .int) 2 := ⟨am_gin (am_t4 (List.mem_of_getElem? (i := 178) (rfl))) rfl, by decide +kernel, by decide +kernel, by decide +kernel⟩
theorem mo_X7_goOver : am_mok yX7_goOver cX7_goOver 2 (some .int) 1 := ⟨am_gin (am_t4 (List.mem_of_getElem? (i := 182) (rfl))) rfl, by decide +kernel, by decide +kernel, by decide +kernel⟩
theorem mo_X7_standFirst : am_mok yX7_standFirst cX7_standFirst 2 (some .int) 1 := ⟨am_gin (am_t4 (List.mem_of_getElem? (i := 186) (rfl))) rfl, by decide +kernel, by decide +kernel, by decide +kernel⟩
theorem mo_X7_set : am_mok yX7_set cX7_set 4 (some .int) 2 := ⟨am_gin (am_t4 (List.mem_of_getElem? (i := 190) (rfl))) rfl, by decide +kernel, by decide +kernel, by decide +kernel⟩
theorem mo_X7_order : am_mok yX7_order cX7_order 2 (some .int) 1 := ⟨am_gin (am_t4 (List.mem_of_getElem? (i := 194) (rfl))) rfl, by decide +kernel, by decide +kernel, by decide +kernel⟩
theorem mo_X7_run : am_mok yX7_run cX7_run 13 none 0 := ⟨am_gin (am_t4 (List.mem_of_getElem? (i := 198) (rfl))) rfl, by decide +kernel, by decide +kernel, by decide +kernel⟩
theorem mo_X7_standsAt : am_mok yX7_standsAt cX7_standsAt 4 (some .int) 2 := ⟨am_gin (am_t4 (List.mem_of_getElem? (i := 202) (rfl))) rfl, by decide +kernel, by decide +kernel, by decide +kernel⟩
theorem mo_X7_of : am_mok yX7_of cX7_of 3 (some .int) 2 := ⟨am_gin (am_t4 (List.mem_of_getElem? (i := 206) (rfl))) rfl, by decide +kernel, by decide +kernel, by decide +kernel⟩
theorem mo_X7_sums : am_mok yX7_sums cX7_sums 4 (some .int) 1 := ⟨am_gin (am_t4 (List.mem_of_getElem? (i := 210) (rfl))) rfl, by decide +kernel, by decide +kernel, by decide +kernel⟩
theorem mo_X7_seconds : am_mok yX7_seconds cX7_seconds 1 (some .int) 0 := ⟨am_gin (am_t4 (List.mem_of_getElem? (i := 214) (rfl))) rfl, by decide +kernel, by decide +kernel, by decide +kernel⟩
theorem mo_X7_cost : am_mok yX7_cost cX7_cost 3 (some .int) 0 := ⟨am_gin (am_t4 (List.mem_of_getElem? (i := 218) (rfl))) rfl, by decide +kernel, by decide +kernel, by decide +kernel⟩
theorem mo_X7_queue : am_mok yX7_queue cX7_queue 5 (some .int) 2 := ⟨am_gin (am_t4 (List.mem_of_getElem? (i := 222) (rfl))) rfl, by decide +kernel, by decide +kernel, by decide +kernel⟩
theorem mo_X7_bestBoard : am_mok yX7_bestBoard cX7_bestBoard 6 (some .int) 0 := ⟨am_gin (am_t4 (List.mem_of_getElem? (i := 226) (rfl))) rfl, by decide +kernel, by decide +kernel, by decide +kernel⟩
theorem mo_X7_over : am_mok yX7_over cX7_over 2 (some .int) 1 := ⟨am_gin (am_t4 (List.mem_of_getElem? (i := 230) (rfl))) rfl, by decide +kernel, by decide +kernel, by decide +kernel⟩
theorem mo_X7_mover : am_mok yX7_mover cX7_mover 7 (some .int) 2 := ⟨am_gin (am_t4 (List.mem_of_getElem? (i := 234) (rfl))) rfl, by decide +kernel, by decide +kernel, by decide +kernel⟩
theorem mo_X7_first : am_mok yX7_first cX7_first 2 (some .int) 1 := ⟨am_gin (am_t4 (List.mem_of_getElem? (i := 238) (rfl))) rfl, by decide +kernel, by decide +kernel, by decide +kernel⟩
theorem mo_X7_lets : am_mok yX7_lets cX7_lets 8 (some .int) 0 := ⟨am_gin (am_t5 (List.mem_of_getElem? (i := 2) (rfl))) rfl, by decide +kernel, by decide +kernel, by decide +kernel⟩
theorem mo_X7_spoil : am_mok yX7_spoil cX7_spoil 2 (some .int) 1 := ⟨am_gin (am_t5 (List.mem_of_getElem? (i := 6) (rfl))) rfl, by decide +kernel, by decide +kernel, by decide +kernel⟩
theorem mo_X7_fewest : am_mok yX7_fewest cX7_fewest 7 (some .int) 2 := ⟨am_gin (am_t5 (List.mem_of_getElem? (i := 10) (rfl))) rfl, by decide +kernel, by decide +kernel, by decide +kernel⟩
theorem mo_X7_mend : am_mok yX7_mend cX7_mend 2 (some .int) 1 := ⟨am_gin (am_t5 (List.mem_of_getElem? (i := 15) (rfl))) rfl, by decide +kernel, by decide +kernel, by decide +kernel⟩
theorem mo_X7_loses : am_mok yX7_loses cX7_loses 3 (some .int) 2 := ⟨am_gin (am_t5 (List.mem_of_getElem? (i := 19) (rfl))) rfl, by decide +kernel, by decide +kernel, by decide +kernel⟩
theorem mo_X7_losesBy : am_mok yX7_losesBy cX7_losesBy 4 (some .int) 2 := ⟨am_gin (am_t5 (List.mem_of_getElem? (i := 23) (rfl))) rfl, by decide +kernel, by decide +kernel, by decide +kernel⟩
theorem mo_X7_leaves : am_mok yX7_leaves cX7_leaves 2 none 1 := ⟨am_gin (am_t5 (List.mem_of_getElem? (i := 27) (rfl))) rfl, by decide +kernel, by decide +kernel, by decide +kernel⟩
theorem mo_X7_byWhom : am_mok yX7_byWhom cX7_byWhom 4 (some .int) 1 := ⟨am_gin (am_t5 (List.mem_of_getElem? (i := 32) (rfl))) rfl, by decide +kernel, by decide +kernel, by decide +kernel⟩
theorem mo_X7_two_ : am_mok yX7_two_ cX7_two_ 5 (some .int) 2 := ⟨am_gin (am_t5 (List.mem_of_getElem? (i := 36) (rfl))) rfl, by decide +kernel, by decide +kernel, by decide +kernel⟩
theorem mo_X7_waits : am_mok yX7_waits cX7_waits 6 (some .int) 5 := ⟨am_gin (am_t5 (List.mem_of_getElem? (i := 40) (rfl))) rfl, by decide +kernel, by decide +kernel, by decide +kernel⟩
theorem mo_X7_fair : am_mok yX7_fair cX7_fair 3 (some .int) 0 := ⟨am_gin (am_t5 (List.mem_of_getElem? (i := 44) (rfl))) rfl, by decide +kernel, by decide +kernel, by decide +kernel⟩
theorem mo_X7_lucks : am_mok yX7_lucks cX7_lucks 4 (some .int) 1 := ⟨am_gin (am_t5 (List.mem_of_getElem? (i := 48) (rfl))) rfl, by decide +kernel, by decide +kernel, by decide +kernel⟩
theorem mo_X7_lucky : am_mok yX7_lucky cX7_lucky 3 (some .int) 0 := ⟨am_gin (am_t5 (List.mem_of_getElem? (i := 52) (rfl))) rfl, by decide +kernel, by decide +kernel, by decide +kernel⟩
theorem mo_X7_away : am_mok yX7_away cX7_away 5 (some .int) 0 := ⟨am_gin (am_t5 (List.mem_of_getElem? (i := 56) (rfl))) rfl, by decide +kernel, by decide +kernel, by decide +kernel⟩
theorem mo_X7_wider : am_mok yX7_wider cX7_wider 3 (some .int) 0 := ⟨am_gin (am_t5 (List.mem_of_getElem? (i := 60) (rfl))) rfl, by decide +kernel, by decide +kernel, by decide +kernel⟩
theorem mo_X7_gap : am_mok yX7_gap cX7_gap 6 (some .int) 1 := ⟨am_gin (am_t5 (List.mem_of_getElem? (i := 64) (rfl))) rfl, by decide +kernel, by decide +kernel, by decide +kernel⟩
theorem mo_X7_even : am_mok yX7_even cX7_even 5 (some .int) 1 := ⟨am_gin (am_t5 (List.mem_of_getElem? (i := 68) (rfl))) rfl, by decide +kernel, by decide +kernel, by decide +kernel⟩
theorem mo_X7_keep : am_mok yX7_keep cX7_keep 6 (some .int) 2 := ⟨am_gin (am_t5 (List.mem_of_getElem? (i := 72) (rfl))) rfl, by decide +kernel, by decide +kernel, by decide +kernel⟩
theorem mo_X7_who : am_mok yX7_who cX7_who 7 (some .int) 2 := ⟨am_gin (am_t5 (List.mem_of_getElem? (i := 76) (rfl))) rfl, by decide +kernel, by decide +kernel, by decide +kernel⟩
theorem mo_X7_wrong : am_mok yX7_wrong cX7_wrong 2 (some .int) 0 := ⟨am_gin (am_t5 (List.mem_of_getElem? (i := 80) (rfl))) rfl, by decide +kernel, by decide +kernel, by decide +kernel⟩
theorem mo_X7_row : am_mok yX7_row cX7_row 2 (some .int) 1 := ⟨am_gin (am_t5 (List.mem_of_getElem? (i := 84) (rfl))) rfl, by decide +kernel, by decide +kernel, by decide +kernel⟩
theorem mo_X7_judge : am_mok yX7_judge cX7_judge 2 (some .int) 0 := ⟨am_gin (am_t5 (List.mem_of_getElem? (i := 88) (rfl))) rfl, by decide +kernel, by decide +kernel, by decide +kernel⟩
theorem mo_X7_clear : am_mok yX7_clear cX7_clear 2 (some .int) 0 := ⟨am_gin (am_t5 (List.mem_of_getElem? (i := 92) (rfl))) rfl, by decide +kernel, by decide +kernel, by decide +kernel⟩
theorem mo_X7_lots : am_mok yX7_lots cX7_lots 9 (some .int) 3 := ⟨am_gin (am_t5 (List.mem_of_getElem? (i := 96) (rfl))) rfl, by decide +kernel, by decide +kernel, by decide +kernel⟩
theorem mo_X7_image : am_mok yX7_image cX7_image 1 (some .int) 0 := ⟨am_gin (am_t5 (List.mem_of_getElem? (i := 103) (rfl))) rfl, by decide +kernel, by decide +kernel, by decide +kernel⟩
theorem mo_X7_on : am_mok yX7_on cX7_on 1 (some .int) 0 := ⟨am_gin (am_t5 (List.mem_of_getElem? (i := 107) (rfl))) rfl, by decide +kernel, by decide +kernel, by decide +kernel⟩
theorem mo_X7_count : am_mok yX7_count cX7_count 4 (some .int) 1 := ⟨am_gin (am_t5 (List.mem_of_getElem? (i := 111) (rfl))) rfl, by decide +kernel, by decide +kernel, by decide +kernel⟩
theorem lk_L_13 : am_lkV RL 13 yX6_letter := ⟨am_gin (am_t1 (List.mem_of_getElem? (i := 223) (by decide +kernel))) rfl, am_gin (am_t1 (List.mem_of_getElem? (i := 224) (by decide +kernel))) rfl, am_gin (am_t1 (List.mem_of_getElem? (i := 225) (by decide +kernel))) rfl, am_gin (am_t1 (List.mem_of_getElem? (i := 1) (by decide +kernel))) rfl⟩
theorem lk_X6_65 : am_lkV RX6 65 yX6_refuse := ⟨am_gin (am_t1 (List.mem_of_getElem? (i := 227) (by decide +kernel))) rfl, am_gin (am_t1 (List.mem_of_getElem? (i := 229) (by decide +kernel))) rfl, am_gin (am_sel1 (List.mem_of_getElem? (i := 0) rfl)) rfl, am_gin (am_t1 (List.mem_of_getElem? (i := 1) (by decide +kernel))) rfl⟩
theorem lk_X6_69 : am_lkV RX6 69 yX5_isFull := ⟨am_gin (am_t1 (List.mem_of_getElem? (i := 231) (by decide +kernel))) rfl, am_gin (am_t1 (List.mem_of_getElem? (i := 232) (by decide +kernel))) rfl, am_gin (am_t1 (List.mem_of_getElem? (i := 233) (by decide +kernel))) rfl, am_gin (am_t1 (List.mem_of_getElem? (i := 3) (by decide +kernel))) rfl⟩
theorem lk_X6_73 : am_lkV RX6 73 yX5_append := ⟨am_gin (am_t1 (List.mem_of_getElem? (i := 235) (by decide +kernel))) rfl, am_gin (am_t1 (List.mem_of_getElem? (i := 236) (by decide +kernel))) rfl, am_gin (am_t1 (List.mem_of_getElem? (i := 237) (by decide +kernel))) rfl, am_gin (am_t1 (List.mem_of_getElem? (i := 3) (by decide +kernel))) rfl⟩
theorem lk_X5_19 : am_lkV RX5 19 yX5_isFull := ⟨am_gin (am_t1 (List.mem_of_getElem? (i := 239) (by decide +kernel))) rfl, am_gin (am_t1 (List.mem_of_getElem? (i := 232) (by decide +kernel))) rfl, am_gin (am_t1 (List.mem_of_getElem? (i := 233) (by decide +kernel))) rfl, am_gin (am_t1 (List.mem_of_getElem? (i := 3) (by decide +kernel))) rfl⟩
theorem lk_L_18 : am_lkV RL 18 yX6_road := ⟨am_gin (am_t2 (List.mem_of_getElem? (i := 0) (by decide +kernel))) rfl, am_gin (am_t2 (List.mem_of_getElem? (i := 1) (by decide +kernel))) rfl, am_gin (am_t2 (List.mem_of_getElem? (i := 2) (by decide +kernel))) rfl, am_gin (am_t1 (List.mem_of_getElem? (i := 1) (by decide +kernel))) rfl⟩
theorem lk_X6_76 : am_lkV RX6 76 yX5_tellTo := ⟨am_gin (am_t2 (List.mem_of_getElem? (i := 4) (by decide +kernel))) rfl, am_gin (am_t2 (List.mem_of_getElem? (i := 5) (by decide +kernel))) rfl, am_gin (am_t2 (List.mem_of_getElem? (i := 6) (by decide +kernel))) rfl, am_gin (am_t1 (List.mem_of_getElem? (i := 3) (by decide +kernel))) rfl⟩
theorem lk_X5_23 : am_lkV RX5 23 yX5_formFault := ⟨am_gin (am_t2 (List.mem_of_getElem? (i := 8) (by decide +kernel))) rfl, am_gin (am_t2 (List.mem_of_getElem? (i := 10) (by decide +kernel))) rfl, am_gin (am_sel1 (List.mem_of_getElem? (i := 1) rfl)) rfl, am_gin (am_t1 (List.mem_of_getElem? (i := 3) (by decide +kernel))) rfl⟩
theorem lk_X5_41 : am_lkV RX5 41 yX5_isInForm := ⟨am_gin (am_t2 (List.mem_of_getElem? (i := 12) (by decide +kernel))) rfl, am_gin (am_t2 (List.mem_of_getElem? (i := 14) (by decide +kernel))) rfl, am_gin (am_sel1 (List.mem_of_getElem? (i := 2) rfl)) rfl, am_gin (am_t1 (List.mem_of_getElem? (i := 3) (by decide +kernel))) rfl⟩
theorem lk_X5_45 : am_lkV RX5 45 yX5_letterAt := ⟨am_gin (am_t2 (List.mem_of_getElem? (i := 16) (by decide +kernel))) rfl, am_gin (am_t2 (List.mem_of_getElem? (i := 18) (by decide +kernel))) rfl, am_gin (am_sel1 (List.mem_of_getElem? (i := 3) rfl)) rfl, am_gin (am_t1 (List.mem_of_getElem? (i := 3) (by decide +kernel))) rfl⟩
theorem lk_X5_37 : am_lkS RX5 37 yX5_lengthOf := ⟨am_gin (am_t2 (List.mem_of_getElem? (i := 20) (by decide +kernel))) rfl, am_gin (am_t2 (List.mem_of_getElem? (i := 21) (by decide +kernel))) rfl, am_gin (am_t1 (List.mem_of_getElem? (i := 3) (by decide +kernel))) rfl⟩
theorem lk_X5_48 : am_lkV RX5 48 yX5_kindAt := ⟨am_gin (am_t2 (List.mem_of_getElem? (i := 23) (by decide +kernel))) rfl, am_gin (am_t2 (List.mem_of_getElem? (i := 25) (by decide +kernel))) rfl, am_gin (am_sel1 (List.mem_of_getElem? (i := 4) rfl)) rfl, am_gin (am_t1 (List.mem_of_getElem? (i := 3) (by decide +kernel))) rfl⟩
theorem lk_X5_55 : am_lkV RX5 55 yJ0_indexOf_0f7a4 := ⟨am_gin (am_t2 (List.mem_of_getElem? (i := 28) (by decide +kernel))) rfl, am_gin (am_t2 (List.mem_of_getElem? (i := 29) (by decide +kernel))) rfl, am_gin (am_t2 (List.mem_of_getElem? (i := 30) (by decide +kernel))) rfl, am_gin (am_t1 (List.mem_of_getElem? (i := 8) (by decide +kernel))) rfl⟩
theorem lk_X5_27 : am_lkV RX5 27 yX4_copyFrom := ⟨am_gin (am_t2 (List.mem_of_getElem? (i := 114) (by decide +kernel))) rfl, am_gin (am_t2 (List.mem_of_getElem? (i := 115) (by decide +kernel))) rfl, am_gin (am_t2 (List.mem_of_getElem? (i := 116) (by decide +kernel))) rfl, am_gin (am_t1 (List.mem_of_getElem? (i := 2) (by decide +kernel))) rfl⟩
theorem lk_X5_33 : am_lkV RX5 33 yX5_tellStatement := ⟨am_gin (am_t2 (List.mem_of_getElem? (i := 118) (by decide +kernel))) rfl, am_gin (am_t2 (List.mem_of_getElem? (i := 120) (by decide +kernel))) rfl, am_gin (am_sel1 (List.mem_of_getElem? (i := 5) rfl)) rfl, am_gin (am_t1 (List.mem_of_getElem? (i := 3) (by decide +kernel))) rfl⟩
theorem lk_X5_60 : am_lkV RX5 60 yX5_digitAt := ⟨am_gin (am_t2 (List.mem_of_getElem? (i := 122) (by decide +kernel))) rfl, am_gin (am_t2 (List.mem_of_getElem? (i := 124) (by decide +kernel))) rfl, am_gin (am_sel1 (List.mem_of_getElem? (i := 6) rfl)) rfl, am_gin (am_t1 (List.mem_of_getElem? (i := 3) (by decide +kernel))) rfl⟩
theorem lk_X5_63 : am_lkV RX5 63 yX5_tellCar := ⟨am_gin (am_t2 (List.mem_of_getElem? (i := 126) (by decide +kernel))) rfl, am_gin (am_t2 (List.mem_of_getElem? (i := 128) (by decide +kernel))) rfl, am_gin (am_sel1 (List.mem_of_getElem? (i := 7) rfl)) rfl, am_gin (am_t1 (List.mem_of_getElem? (i := 3) (by decide +kernel))) rfl⟩
theorem lk_X5_82 : am_lkV RX5 82 yX4_add := ⟨am_gin (am_t2 (List.mem_of_getElem? (i := 130) (by decide +kernel))) rfl, am_gin (am_t2 (List.mem_of_getElem? (i := 131) (by decide +kernel))) rfl, am_gin (am_t2 (List.mem_of_getElem? (i := 132) (by decide +kernel))) rfl, am_gin (am_t1 (List.mem_of_getElem? (i := 2) (by decide +kernel))) rfl⟩
theorem lk_X5_66 : am_lkV RX5 66 yX4_putBoard := ⟨am_gin (am_t2 (List.mem_of_getElem? (i := 134) (by decide +kernel))) rfl, am_gin (am_t2 (List.mem_of_getElem? (i := 135) (by decide +kernel))) rfl, am_gin (am_t2 (List.mem_of_getElem? (i := 136) (by decide +kernel))) rfl, am_gin (am_t1 (List.mem_of_getElem? (i := 2) (by decide +kernel))) rfl⟩
theorem lk_X5_70 : am_lkV RX5 70 yX4_putWave := ⟨am_gin (am_t2 (List.mem_of_getElem? (i := 138) (by decide +kernel))) rfl, am_gin (am_t2 (List.mem_of_getElem? (i := 139) (by decide +kernel))) rfl, am_gin (am_t2 (List.mem_of_getElem? (i := 140) (by decide +kernel))) rfl, am_gin (am_t1 (List.mem_of_getElem? (i := 2) (by decide +kernel))) rfl⟩
theorem lk_X5_73 : am_lkV RX5 73 yX4_crossOver := ⟨am_gin (am_t2 (List.mem_of_getElem? (i := 142) (by decide +kernel))) rfl, am_gin (am_t2 (List.mem_of_getElem? (i := 143) (by decide +kernel))) rfl, am_gin (am_t2 (List.mem_of_getElem? (i := 144) (by decide +kernel))) rfl, am_gin (am_t1 (List.mem_of_getElem? (i := 2) (by decide +kernel))) rfl⟩
theorem lk_X4_37 : am_lkV RX4 37 yX4_has := ⟨am_gin (am_t2 (List.mem_of_getElem? (i := 146) (by decide +kernel))) rfl, am_gin (am_t2 (List.mem_of_getElem? (i := 147) (by decide +kernel))) rfl, am_gin (am_t2 (List.mem_of_getElem? (i := 148) (by decide +kernel))) rfl, am_gin (am_t1 (List.mem_of_getElem? (i := 2) (by decide +kernel))) rfl⟩
theorem lk_X4_41 : am_lkV RX4 41 yX4_moveToEndOf := ⟨am_gin (am_t2 (List.mem_of_getElem? (i := 150) (by decide +kernel))) rfl, am_gin (am_t2 (List.mem_of_getElem? (i := 151) (by decide +kernel))) rfl, am_gin (am_t2 (List.mem_of_getElem? (i := 152) (by decide +kernel))) rfl, am_gin (am_t1 (List.mem_of_getElem? (i := 2) (by decide +kernel))) rfl⟩
theorem lk_X4_45 : am_lkV RX4 45 yX4_lineIndex := ⟨am_gin (am_t2 (List.mem_of_getElem? (i := 154) (by decide +kernel))) rfl, am_gin (am_t2 (List.mem_of_getElem? (i := 156) (by decide +kernel))) rfl, am_gin (am_sel1 (List.mem_of_getElem? (i := 8) rfl)) rfl, am_gin (am_t1 (List.mem_of_getElem? (i := 2) (by decide +kernel))) rfl⟩
theorem lk_X5_76 : am_lkV RX5 76 yX4_moveToFront := ⟨am_gin (am_t2 (List.mem_of_getElem? (i := 158) (by decide +kernel))) rfl, am_gin (am_t2 (List.mem_of_getElem? (i := 159) (by decide +kernel))) rfl, am_gin (am_t2 (List.mem_of_getElem? (i := 160) (by decide +kernel))) rfl, am_gin (am_t1 (List.mem_of_getElem? (i := 2) (by decide +kernel))) rfl⟩
theorem lk_X5_79 : am_lkV RX5 79 yX4_exchangeKinds := ⟨am_gin (am_t2 (List.mem_of_getElem? (i := 162) (by decide +kernel))) rfl, am_gin (am_t2 (List.mem_of_getElem? (i := 163) (by decide +kernel))) rfl, am_gin (am_t2 (List.mem_of_getElem? (i := 164) (by decide +kernel))) rfl, am_gin (am_t1 (List.mem_of_getElem? (i := 2) (by decide +kernel))) rfl⟩
theorem lk_X4_49 : am_lkV RX4 49 yX4_areTwo := ⟨am_gin (am_t2 (List.mem_of_getElem? (i := 166) (by decide +kernel))) rfl, am_gin (am_t2 (List.mem_of_getElem? (i := 167) (by decide +kernel))) rfl, am_gin (am_t2 (List.mem_of_getElem? (i := 168) (by decide +kernel))) rfl, am_gin (am_t1 (List.mem_of_getElem? (i := 2) (by decide +kernel))) rfl⟩
theorem lk_X6_80 : am_lkV RX6 80 yX5_empty := ⟨am_gin (am_t2 (List.mem_of_getElem? (i := 170) (by decide +kernel))) rfl, am_gin (am_t2 (List.mem_of_getElem? (i := 171) (by decide +kernel))) rfl, am_gin (am_t2 (List.mem_of_getElem? (i := 172) (by decide +kernel))) rfl, am_gin (am_t1 (List.mem_of_getElem? (i := 3) (by decide +kernel))) rfl⟩
theorem lk_L_23 : am_lkV RL 23 yX6_car := ⟨am_gin (am_t2 (List.mem_of_getElem? (i := 175) (by decide +kernel))) rfl, am_gin (am_t2 (List.mem_of_getElem? (i := 176) (by decide +kernel))) rfl, am_gin (am_t2 (List.mem_of_getElem? (i := 177) (by decide +kernel))) rfl, am_gin (am_t1 (List.mem_of_getElem? (i := 1) (by decide +kernel))) rfl⟩
theorem lk_X6_83 : am_lkV RX6 83 yX4_has := ⟨am_gin (am_t2 (List.mem_of_getElem? (i := 179) (by decide +kernel))) rfl, am_gin (am_t2 (List.mem_of_getElem? (i := 147) (by decide +kernel))) rfl, am_gin (am_t2 (List.mem_of_getElem? (i := 148) (by decide +kernel))) rfl, am_gin (am_t1 (List.mem_of_getElem? (i := 2) (by decide +kernel))) rfl⟩
theorem lk_X6_99 : am_lkV RX6 99 yX4_placeOf := ⟨am_gin (am_t2 (List.mem_of_getElem? (i := 180) (by decide +kernel))) rfl, am_gin (am_t2 (List.mem_of_getElem? (i := 181) (by decide +kernel))) rfl, am_gin (am_t2 (List.mem_of_getElem? (i := 182) (by decide +kernel))) rfl, am_gin (am_t1 (List.mem_of_getElem? (i := 2) (by decide +kernel))) rfl⟩
theorem lk_X6_102 : am_lkV RX6 102 yX4_letsIn := ⟨am_gin (am_t2 (List.mem_of_getElem? (i := 184) (by decide +kernel))) rfl, am_gin (am_t2 (List.mem_of_getElem? (i := 185) (by decide +kernel))) rfl, am_gin (am_t2 (List.mem_of_getElem? (i := 186) (by decide +kernel))) rfl, am_gin (am_t1 (List.mem_of_getElem? (i := 2) (by decide +kernel))) rfl⟩
theorem lk_X4_52 : am_lkS RX4 52 yX2_lettingIn := ⟨am_gin (am_t2 (List.mem_of_getElem? (i := 188) (by decide +kernel))) rfl, am_gin (am_t2 (List.mem_of_getElem? (i := 189) (by decide +kernel))) rfl, am_gin (am_t1 (List.mem_of_getElem? (i := 14) (by decide +kernel))) rfl⟩
theorem lk_X6_105 : am_lkS RX6 105 yX2_secondsOf := ⟨am_gin (am_t2 (List.mem_of_getElem? (i := 191) (by decide +kernel))) rfl, am_gin (am_t2 (List.mem_of_getElem? (i := 192) (by decide +kernel))) rfl, am_gin (am_t1 (List.mem_of_getElem? (i := 14) (by decide +kernel))) rfl⟩
theorem lk_L_28 : am_lkV RL 28 yX6_hurry := ⟨am_gin (am_t2 (List.mem_of_getElem? (i := 194) (by decide +kernel))) rfl, am_gin (am_t2 (List.mem_of_getElem? (i := 195) (by decide +kernel))) rfl, am_gin (am_t2 (List.mem_of_getElem? (i := 196) (by decide +kernel))) rfl, am_gin (am_t1 (List.mem_of_getElem? (i := 1) (by decide +kernel))) rfl⟩
theorem lk_L_32 : am_lkV RL 32 yX6_goOver := ⟨am_gin (am_t2 (List.mem_of_getElem? (i := 198) (by decide +kernel))) rfl, am_gin (am_t2 (List.mem_of_getElem? (i := 199) (by decide +kernel))) rfl, am_gin (am_t2 (List.mem_of_getElem? (i := 200) (by decide +kernel))) rfl, am_gin (am_t1 (List.mem_of_getElem? (i := 1) (by decide +kernel))) rfl⟩
theorem lk_X6_110 : am_lkV RX6 110 yX4_crossOver := ⟨am_gin (am_t2 (List.mem_of_getElem? (i := 202) (by decide +kernel))) rfl, am_gin (am_t2 (List.mem_of_getElem? (i := 143) (by decide +kernel))) rfl, am_gin (am_t2 (List.mem_of_getElem? (i := 144) (by decide +kernel))) rfl, am_gin (am_t1 (List.mem_of_getElem? (i := 2) (by decide +kernel))) rfl⟩
theorem lk_L_36 : am_lkV RL 36 yX6_standFirst := ⟨am_gin (am_t2 (List.mem_of_getElem? (i := 203) (by decide +kernel))) rfl, am_gin (am_t2 (List.mem_of_getElem? (i := 204) (by decide +kernel))) rfl, am_gin (am_t2 (List.mem_of_getElem? (i := 205) (by decide +kernel))) rfl, am_gin (am_t1 (List.mem_of_getElem? (i := 1) (by decide +kernel))) rfl⟩
theorem lk_X6_113 : am_lkV RX6 113 yX4_moveToFront := ⟨am_gin (am_t2 (List.mem_of_getElem? (i := 207) (by decide +kernel))) rfl, am_gin (am_t2 (List.mem_of_getElem? (i := 159) (by decide +kernel))) rfl, am_gin (am_t2 (List.mem_of_getElem? (i := 160) (by decide +kernel))) rfl, am_gin (am_t1 (List.mem_of_getElem? (i := 2) (by decide +kernel))) rfl⟩
theorem lk_L_40 : am_lkV RL 40 yX6_set := ⟨am_gin (am_t2 (List.mem_of_getElem? (i := 208) (by decide +kernel))) rfl, am_gin (am_t2 (List.mem_of_getElem? (i := 209) (by decide +kernel))) rfl, am_gin (am_t2 (List.mem_of_getElem? (i := 210) (by decide +kernel))) rfl, am_gin (am_t1 (List.mem_of_getElem? (i := 1) (by decide +kernel))) rfl⟩
theorem lk_X6_122 : am_lkV RX6 122 yX4_putBoard := ⟨am_gin (am_t2 (List.mem_of_getElem? (i := 212) (by decide +kernel))) rfl, am_gin (am_t2 (List.mem_of_getElem? (i := 135) (by decide +kernel))) rfl, am_gin (am_t2 (List.mem_of_getElem? (i := 136) (by decide +kernel))) rfl, am_gin (am_t1 (List.mem_of_getElem? (i := 2) (by decide +kernel))) rfl⟩
theorem lk_X6_125 : am_lkV RX6 125 yX4_putWave := ⟨am_gin (am_t2 (List.mem_of_getElem? (i := 213) (by decide +kernel))) rfl, am_gin (am_t2 (List.mem_of_getElem? (i := 139) (by decide +kernel))) rfl, am_gin (am_t2 (List.mem_of_getElem? (i := 140) (by decide +kernel))) rfl, am_gin (am_t1 (List.mem_of_getElem? (i := 2) (by decide +kernel))) rfl⟩
theorem lk_L_44 : am_lkV RL 44 yX6_order := ⟨am_gin (am_t2 (List.mem_of_getElem? (i := 214) (by decide +kernel))) rfl, am_gin (am_t2 (List.mem_of_getElem? (i := 215) (by decide +kernel))) rfl, am_gin (am_t2 (List.mem_of_getElem? (i := 216) (by decide +kernel))) rfl, am_gin (am_t1 (List.mem_of_getElem? (i := 1) (by decide +kernel))) rfl⟩
theorem lk_X6_128 : am_lkV RX6 128 yX3_drive := ⟨am_gin (am_t2 (List.mem_of_getElem? (i := 218) (by decide +kernel))) rfl, am_gin (am_t2 (List.mem_of_getElem? (i := 219) (by decide +kernel))) rfl, am_gin (am_t2 (List.mem_of_getElem? (i := 220) (by decide +kernel))) rfl, am_gin (am_t1 (List.mem_of_getElem? (i := 4) (by decide +kernel))) rfl⟩
theorem lk_X3_56 : am_lkV RX3 56 yX3_lineUp := ⟨am_gin (am_t2 (List.mem_of_getElem? (i := 222) (by decide +kernel))) rfl, am_gin (am_t2 (List.mem_of_getElem? (i := 224) (by decide +kernel))) rfl, am_gin (am_sel1 (List.mem_of_getElem? (i := 9) rfl)) rfl, am_gin (am_t1 (List.mem_of_getElem? (i := 4) (by decide +kernel))) rfl⟩
theorem lk_X3_60 : am_lkV RX3 60 yX3_isLeftNext := ⟨am_gin (am_t2 (List.mem_of_getElem? (i := 226) (by decide +kernel))) rfl, am_gin (am_t2 (List.mem_of_getElem? (i := 228) (by decide +kernel))) rfl, am_gin (am_sel1 (List.mem_of_getElem? (i := 10) rfl)) rfl, am_gin (am_t1 (List.mem_of_getElem? (i := 4) (by decide +kernel))) rfl⟩
theorem lk_X3_78 : am_lkV RX3 78 yX4_letsIn := ⟨am_gin (am_t2 (List.mem_of_getElem? (i := 230) (by decide +kernel))) rfl, am_gin (am_t2 (List.mem_of_getElem? (i := 185) (by decide +kernel))) rfl, am_gin (am_t2 (List.mem_of_getElem? (i := 186) (by decide +kernel))) rfl, am_gin (am_t1 (List.mem_of_getElem? (i := 2) (by decide +kernel))) rfl⟩
theorem lk_X3_85 : am_lkS RX3 85 yX2_isPushing := ⟨am_gin (am_t2 (List.mem_of_getElem? (i := 231) (by decide +kernel))) rfl, am_gin (am_t2 (List.mem_of_getElem? (i := 232) (by decide +kernel))) rfl, am_gin (am_t1 (List.mem_of_getElem? (i := 14) (by decide +kernel))) rfl⟩
theorem lk_X3_64 : am_lkV RX3 64 yX3_goThrough := ⟨am_gin (am_t2 (List.mem_of_getElem? (i := 234) (by decide +kernel))) rfl, am_gin (am_t2 (List.mem_of_getElem? (i := 236) (by decide +kernel))) rfl, am_gin (am_sel1 (List.mem_of_getElem? (i := 11) rfl)) rfl, am_gin (am_t1 (List.mem_of_getElem? (i := 4) (by decide +kernel))) rfl⟩
theorem lk_X3_91 : am_lkS RX3 91 yX2_secondsOf := ⟨am_gin (am_t2 (List.mem_of_getElem? (i := 238) (by decide +kernel))) rfl, am_gin (am_t2 (List.mem_of_getElem? (i := 192) (by decide +kernel))) rfl, am_gin (am_t1 (List.mem_of_getElem? (i := 14) (by decide +kernel))) rfl⟩
theorem lk_L_48 : am_lkV RL 48 yX6_of := ⟨am_gin (am_t2 (List.mem_of_getElem? (i := 239) (by decide +kernel))) rfl, am_gin (am_t3 (List.mem_of_getElem? (i := 0) (by decide +kernel))) rfl, am_gin (am_t3 (List.mem_of_getElem? (i := 1) (by decide +kernel))) rfl, am_gin (am_t1 (List.mem_of_getElem? (i := 1) (by decide +kernel))) rfl⟩
theorem lk_L_52 : am_lkV RL 52 yX6_sums := ⟨am_gin (am_t3 (List.mem_of_getElem? (i := 3) (by decide +kernel))) rfl, am_gin (am_t3 (List.mem_of_getElem? (i := 4) (by decide +kernel))) rfl, am_gin (am_t3 (List.mem_of_getElem? (i := 5) (by decide +kernel))) rfl, am_gin (am_t1 (List.mem_of_getElem? (i := 1) (by decide +kernel))) rfl⟩
theorem lk_X6_144 : am_lkV RX6 144 yX3_allWaits := ⟨am_gin (am_t3 (List.mem_of_getElem? (i := 7) (by decide +kernel))) rfl, am_gin (am_t3 (List.mem_of_getElem? (i := 8) (by decide +kernel))) rfl, am_gin (am_t3 (List.mem_of_getElem? (i := 9) (by decide +kernel))) rfl, am_gin (am_t1 (List.mem_of_getElem? (i := 4) (by decide +kernel))) rfl⟩
theorem lk_X3_97 : am_lkV RX3 97 yX3_waitInTurn := ⟨am_gin (am_t3 (List.mem_of_getElem? (i := 11) (by decide +kernel))) rfl, am_gin (am_t3 (List.mem_of_getElem? (i := 12) (by decide +kernel))) rfl, am_gin (am_t3 (List.mem_of_getElem? (i := 13) (by decide +kernel))) rfl, am_gin (am_t1 (List.mem_of_getElem? (i := 4) (by decide +kernel))) rfl⟩
theorem lk_X6_148 : am_lkV RX6 148 yX3_cost := ⟨am_gin (am_t3 (List.mem_of_getElem? (i := 15) (by decide +kernel))) rfl, am_gin (am_t3 (List.mem_of_getElem? (i := 16) (by decide +kernel))) rfl, am_gin (am_t3 (List.mem_of_getElem? (i := 17) (by decide +kernel))) rfl, am_gin (am_t1 (List.mem_of_getElem? (i := 4) (by decide +kernel))) rfl⟩
theorem lk_X6_152 : am_lkV RX6 152 yX3_laneChanges := ⟨am_gin (am_t3 (List.mem_of_getElem? (i := 19) (by decide +kernel))) rfl, am_gin (am_t3 (List.mem_of_getElem? (i := 20) (by decide +kernel))) rfl, am_gin (am_t3 (List.mem_of_getElem? (i := 21) (by decide +kernel))) rfl, am_gin (am_t1 (List.mem_of_getElem? (i := 4) (by decide +kernel))) rfl⟩
theorem lk_X6_155 : am_lkV RX6 155 yX3_longestRun := ⟨am_gin (am_t3 (List.mem_of_getElem? (i := 23) (by decide +kernel))) rfl, am_gin (am_t3 (List.mem_of_getElem? (i := 24) (by decide +kernel))) rfl, am_gin (am_t3 (List.mem_of_getElem? (i := 25) (by decide +kernel))) rfl, am_gin (am_t1 (List.mem_of_getElem? (i := 4) (by decide +kernel))) rfl⟩
theorem lk_X3_103 : am_lkS RX3 103 yJ9_max_7cf53 := ⟨am_gin (am_t3 (List.mem_of_getElem? (i := 27) (by decide +kernel))) rfl, am_gin (am_t2 (List.mem_of_getElem? (i := 57) (by decide +kernel))) rfl, am_gin (am_t1 (List.mem_of_getElem? (i := 10) (by decide +kernel))) rfl⟩
theorem lk_L_56 : am_lkV RL 56 yX6_queue := ⟨am_gin (am_t3 (List.mem_of_getElem? (i := 28) (by decide +kernel))) rfl, am_gin (am_t3 (List.mem_of_getElem? (i := 29) (by decide +kernel))) rfl, am_gin (am_t3 (List.mem_of_getElem? (i := 30) (by decide +kernel))) rfl, am_gin (am_t1 (List.mem_of_getElem? (i := 1) (by decide +kernel))) rfl⟩
theorem lk_X6_161 : am_lkV RX6 161 yX4_standing := ⟨am_gin (am_t3 (List.mem_of_getElem? (i := 32) (by decide +kernel))) rfl, am_gin (am_t3 (List.mem_of_getElem? (i := 33) (by decide +kernel))) rfl, am_gin (am_t3 (List.mem_of_getElem? (i := 34) (by decide +kernel))) rfl, am_gin (am_t1 (List.mem_of_getElem? (i := 2) (by decide +kernel))) rfl⟩
theorem lk_X6_164 : am_lkV RX6 164 yX3_goneOf := ⟨am_gin (am_t3 (List.mem_of_getElem? (i := 36) (by decide +kernel))) rfl, am_gin (am_t3 (List.mem_of_getElem? (i := 37) (by decide +kernel))) rfl, am_gin (am_t3 (List.mem_of_getElem? (i := 38) (by decide +kernel))) rfl, am_gin (am_t1 (List.mem_of_getElem? (i := 4) (by decide +kernel))) rfl⟩
theorem lk_L_60 : am_lkV RL 60 yX6_bestBoard := ⟨am_gin (am_t3 (List.mem_of_getElem? (i := 40) (by decide +kernel))) rfl, am_gin (am_t3 (List.mem_of_getElem? (i := 41) (by decide +kernel))) rfl, am_gin (am_t3 (List.mem_of_getElem? (i := 42) (by decide +kernel))) rfl, am_gin (am_t1 (List.mem_of_getElem? (i := 1) (by decide +kernel))) rfl⟩
theorem lk_X6_168 : am_lkV RX6 168 yX0_cheapestBoard := ⟨am_gin (am_t3 (List.mem_of_getElem? (i := 44) (by decide +kernel))) rfl, am_gin (am_t3 (List.mem_of_getElem? (i := 45) (by decide +kernel))) rfl, am_gin (am_t3 (List.mem_of_getElem? (i := 46) (by decide +kernel))) rfl, am_gin (am_t1 (List.mem_of_getElem? (i := 5) (by decide +kernel))) rfl⟩
theorem lk_X0_33 : am_lkV RX0 33 yX4_copyFrom := ⟨am_gin (am_t3 (List.mem_of_getElem? (i := 48) (by decide +kernel))) rfl, am_gin (am_t2 (List.mem_of_getElem? (i := 115) (by decide +kernel))) rfl, am_gin (am_t2 (List.mem_of_getElem? (i := 116) (by decide +kernel))) rfl, am_gin (am_t1 (List.mem_of_getElem? (i := 2) (by decide +kernel))) rfl⟩
theorem lk_X0_41 : am_lkV RX0 41 yX0_costOf := ⟨am_gin (am_t3 (List.mem_of_getElem? (i := 49) (by decide +kernel))) rfl, am_gin (am_t3 (List.mem_of_getElem? (i := 51) (by decide +kernel))) rfl, am_gin (am_sel1 (List.mem_of_getElem? (i := 12) rfl)) rfl, am_gin (am_t1 (List.mem_of_getElem? (i := 5) (by decide +kernel))) rfl⟩
theorem lk_X0_25 : am_lkV RX0 25 yX3_drive := ⟨am_gin (am_t3 (List.mem_of_getElem? (i := 53) (by decide +kernel))) rfl, am_gin (am_t2 (List.mem_of_getElem? (i := 219) (by decide +kernel))) rfl, am_gin (am_t2 (List.mem_of_getElem? (i := 220) (by decide +kernel))) rfl, am_gin (am_t1 (List.mem_of_getElem? (i := 4) (by decide +kernel))) rfl⟩
theorem lk_X0_29 : am_lkV RX0 29 yX3_cost := ⟨am_gin (am_t3 (List.mem_of_getElem? (i := 54) (by decide +kernel))) rfl, am_gin (am_t3 (List.mem_of_getElem? (i := 16) (by decide +kernel))) rfl, am_gin (am_t3 (List.mem_of_getElem? (i := 17) (by decide +kernel))) rfl, am_gin (am_t1 (List.mem_of_getElem? (i := 4) (by decide +kernel))) rfl⟩
theorem lk_L_64 : am_lkV RL 64 yX6_over := ⟨am_gin (am_t3 (List.mem_of_getElem? (i := 55) (by decide +kernel))) rfl, am_gin (am_t3 (List.mem_of_getElem? (i := 56) (by decide +kernel))) rfl, am_gin (am_t3 (List.mem_of_getElem? (i := 57) (by decide +kernel))) rfl, am_gin (am_t1 (List.mem_of_getElem? (i := 1) (by decide +kernel))) rfl⟩
theorem lk_X6_171 : am_lkV RX6 171 yX0_cheapestMove := ⟨am_gin (am_t3 (List.mem_of_getElem? (i := 59) (by decide +kernel))) rfl, am_gin (am_t3 (List.mem_of_getElem? (i := 60) (by decide +kernel))) rfl, am_gin (am_t3 (List.mem_of_getElem? (i := 61) (by decide +kernel))) rfl, am_gin (am_t1 (List.mem_of_getElem? (i := 5) (by decide +kernel))) rfl⟩
theorem lk_X0_47 : am_lkV RX0 47 yX4_moveToFront := ⟨am_gin (am_t3 (List.mem_of_getElem? (i := 63) (by decide +kernel))) rfl, am_gin (am_t2 (List.mem_of_getElem? (i := 159) (by decide +kernel))) rfl, am_gin (am_t2 (List.mem_of_getElem? (i := 160) (by decide +kernel))) rfl, am_gin (am_t1 (List.mem_of_getElem? (i := 2) (by decide +kernel))) rfl⟩
theorem lk_X0_51 : am_lkV RX0 51 yX4_crossOver := ⟨am_gin (am_t3 (List.mem_of_getElem? (i := 64) (by decide +kernel))) rfl, am_gin (am_t2 (List.mem_of_getElem? (i := 143) (by decide +kernel))) rfl, am_gin (am_t2 (List.mem_of_getElem? (i := 144) (by decide +kernel))) rfl, am_gin (am_t1 (List.mem_of_getElem? (i := 2) (by decide +kernel))) rfl⟩
theorem lk_L_68 : am_lkV RL 68 yX6_first := ⟨am_gin (am_t3 (List.mem_of_getElem? (i := 65) (by decide +kernel))) rfl, am_gin (am_t3 (List.mem_of_getElem? (i := 66) (by decide +kernel))) rfl, am_gin (am_t3 (List.mem_of_getElem? (i := 67) (by decide +kernel))) rfl, am_gin (am_t1 (List.mem_of_getElem? (i := 1) (by decide +kernel))) rfl⟩
theorem lk_L_72 : am_lkV RL 72 yX6_lets := ⟨am_gin (am_t3 (List.mem_of_getElem? (i := 69) (by decide +kernel))) rfl, am_gin (am_t3 (List.mem_of_getElem? (i := 70) (by decide +kernel))) rfl, am_gin (am_t3 (List.mem_of_getElem? (i := 71) (by decide +kernel))) rfl, am_gin (am_t1 (List.mem_of_getElem? (i := 1) (by decide +kernel))) rfl⟩
theorem lk_X6_175 : am_lkV RX6 175 yX0_cheapestKindOne := ⟨am_gin (am_t3 (List.mem_of_getElem? (i := 73) (by decide +kernel))) rfl, am_gin (am_t3 (List.mem_of_getElem? (i := 74) (by decide +kernel))) rfl, am_gin (am_t3 (List.mem_of_getElem? (i := 75) (by decide +kernel))) rfl, am_gin (am_t1 (List.mem_of_getElem? (i := 5) (by decide +kernel))) rfl⟩
theorem lk_L_76 : am_lkV RL 76 yX6_spoil := ⟨am_gin (am_t3 (List.mem_of_getElem? (i := 77) (by decide +kernel))) rfl, am_gin (am_t3 (List.mem_of_getElem? (i := 78) (by decide +kernel))) rfl, am_gin (am_t3 (List.mem_of_getElem? (i := 79) (by decide +kernel))) rfl, am_gin (am_t1 (List.mem_of_getElem? (i := 1) (by decide +kernel))) rfl⟩
theorem lk_X6_178 : am_lkV RX6 178 yX0_fewestTurned := ⟨am_gin (am_t3 (List.mem_of_getElem? (i := 81) (by decide +kernel))) rfl, am_gin (am_t3 (List.mem_of_getElem? (i := 82) (by decide +kernel))) rfl, am_gin (am_t3 (List.mem_of_getElem? (i := 83) (by decide +kernel))) rfl, am_gin (am_t1 (List.mem_of_getElem? (i := 5) (by decide +kernel))) rfl⟩
theorem lk_X0_69 : am_lkV RX0 69 yX0_measured := ⟨am_gin (am_t3 (List.mem_of_getElem? (i := 85) (by decide +kernel))) rfl, am_gin (am_t3 (List.mem_of_getElem? (i := 87) (by decide +kernel))) rfl, am_gin (am_sel1 (List.mem_of_getElem? (i := 13) rfl)) rfl, am_gin (am_t1 (List.mem_of_getElem? (i := 5) (by decide +kernel))) rfl⟩
theorem lk_X0_73 : am_lkS RX0 73 yJ6_bitCount_0f7a4 := ⟨am_gin (am_t3 (List.mem_of_getElem? (i := 89) (by decide +kernel))) rfl, am_gin (am_t3 (List.mem_of_getElem? (i := 90) (by decide +kernel))) rfl, am_gin (am_t1 (List.mem_of_getElem? (i := 15) (by decide +kernel))) rfl⟩
theorem lk_X0_79 : am_lkV RX0 79 yX0_isReached := ⟨am_gin (am_t3 (List.mem_of_getElem? (i := 95) (by decide +kernel))) rfl, am_gin (am_t3 (List.mem_of_getElem? (i := 97) (by decide +kernel))) rfl, am_gin (am_sel1 (List.mem_of_getElem? (i := 14) rfl)) rfl, am_gin (am_t1 (List.mem_of_getElem? (i := 5) (by decide +kernel))) rfl⟩
theorem lk_X6_182 : am_lkS RX6 182 yX6_bitsOrHowMany := ⟨am_gin (am_t3 (List.mem_of_getElem? (i := 99) (by decide +kernel))) rfl, am_gin (am_t3 (List.mem_of_getElem? (i := 100) (by decide +kernel))) rfl, am_gin (am_t1 (List.mem_of_getElem? (i := 1) (by decide +kernel))) rfl⟩
theorem lk_X6_244 : am_lkS RX6 244 yJ6_bitCount_0f7a4 := ⟨am_gin (am_t3 (List.mem_of_getElem? (i := 102) (by decide +kernel))) rfl, am_gin (am_t3 (List.mem_of_getElem? (i := 90) (by decide +kernel))) rfl, am_gin (am_t1 (List.mem_of_getElem? (i := 15) (by decide +kernel))) rfl⟩
theorem lk_L_80 : am_lkV RL 80 yX6_mend := ⟨am_gin (am_t3 (List.mem_of_getElem? (i := 103) (by decide +kernel))) rfl, am_gin (am_t3 (List.mem_of_getElem? (i := 104) (by decide +kernel))) rfl, am_gin (am_t3 (List.mem_of_getElem? (i := 105) (by decide +kernel))) rfl, am_gin (am_t1 (List.mem_of_getElem? (i := 1) (by decide +kernel))) rfl⟩
theorem lk_L_84 : am_lkV RL 84 yX6_loses := ⟨am_gin (am_t3 (List.mem_of_getElem? (i := 107) (by decide +kernel))) rfl, am_gin (am_t3 (List.mem_of_getElem? (i := 108) (by decide +kernel))) rfl, am_gin (am_t3 (List.mem_of_getElem? (i := 109) (by decide +kernel))) rfl, am_gin (am_t1 (List.mem_of_getElem? (i := 1) (by decide +kernel))) rfl⟩
theorem lk_X6_186 : am_lkV RX6 186 yX4_areTwo := ⟨am_gin (am_t3 (List.mem_of_getElem? (i := 111) (by decide +kernel))) rfl, am_gin (am_t2 (List.mem_of_getElem? (i := 167) (by decide +kernel))) rfl, am_gin (am_t2 (List.mem_of_getElem? (i := 168) (by decide +kernel))) rfl, am_gin (am_t1 (List.mem_of_getElem? (i := 2) (by decide +kernel))) rfl⟩
theorem lk_X6_191 : am_lkV RX6 191 yX1_loss := ⟨am_gin (am_t3 (List.mem_of_getElem? (i := 113) (by decide +kernel))) rfl, am_gin (am_t3 (List.mem_of_getElem? (i := 114) (by decide +kernel))) rfl, am_gin (am_t3 (List.mem_of_getElem? (i := 115) (by decide +kernel))) rfl, am_gin (am_t1 (List.mem_of_getElem? (i := 6) (by decide +kernel))) rfl⟩
theorem lk_X1_36 : am_lkV RX1 36 yX3_drive := ⟨am_gin (am_t3 (List.mem_of_getElem? (i := 117) (by decide +kernel))) rfl, am_gin (am_t2 (List.mem_of_getElem? (i := 219) (by decide +kernel))) rfl, am_gin (am_t2 (List.mem_of_getElem? (i := 220) (by decide +kernel))) rfl, am_gin (am_t1 (List.mem_of_getElem? (i := 4) (by decide +kernel))) rfl⟩
theorem lk_L_88 : am_lkV RL 88 yX6_byWhom := ⟨am_gin (am_t3 (List.mem_of_getElem? (i := 118) (by decide +kernel))) rfl, am_gin (am_t3 (List.mem_of_getElem? (i := 119) (by decide +kernel))) rfl, am_gin (am_t3 (List.mem_of_getElem? (i := 120) (by decide +kernel))) rfl, am_gin (am_t1 (List.mem_of_getElem? (i := 1) (by decide +kernel))) rfl⟩
theorem lk_X6_194 : am_lkV RX6 194 yX1_greatestLossBy := ⟨am_gin (am_t3 (List.mem_of_getElem? (i := 122) (by decide +kernel))) rfl, am_gin (am_t3 (List.mem_of_getElem? (i := 123) (by decide +kernel))) rfl, am_gin (am_t3 (List.mem_of_getElem? (i := 124) (by decide +kernel))) rfl, am_gin (am_t1 (List.mem_of_getElem? (i := 6) (by decide +kernel))) rfl⟩
theorem lk_X1_46 : am_lkV RX1 46 yX1_loss := ⟨am_gin (am_t3 (List.mem_of_getElem? (i := 126) (by decide +kernel))) rfl, am_gin (am_t3 (List.mem_of_getElem? (i := 114) (by decide +kernel))) rfl, am_gin (am_t3 (List.mem_of_getElem? (i := 115) (by decide +kernel))) rfl, am_gin (am_t1 (List.mem_of_getElem? (i := 6) (by decide +kernel))) rfl⟩
theorem lk_L_92 : am_lkV RL 92 yX6_two := ⟨am_gin (am_t3 (List.mem_of_getElem? (i := 127) (by decide +kernel))) rfl, am_gin (am_t3 (List.mem_of_getElem? (i := 128) (by decide +kernel))) rfl, am_gin (am_t3 (List.mem_of_getElem? (i := 129) (by decide +kernel))) rfl, am_gin (am_t1 (List.mem_of_getElem? (i := 1) (by decide +kernel))) rfl⟩
theorem lk_X6_198 : am_lkV RX6 198 yX1_steadyPair := ⟨am_gin (am_t3 (List.mem_of_getElem? (i := 131) (by decide +kernel))) rfl, am_gin (am_t3 (List.mem_of_getElem? (i := 132) (by decide +kernel))) rfl, am_gin (am_t3 (List.mem_of_getElem? (i := 133) (by decide +kernel))) rfl, am_gin (am_t1 (List.mem_of_getElem? (i := 6) (by decide +kernel))) rfl⟩
theorem lk_X1_50 : am_lkV RX1 50 yX4_copyFrom := ⟨am_gin (am_t3 (List.mem_of_getElem? (i := 135) (by decide +kernel))) rfl, am_gin (am_t2 (List.mem_of_getElem? (i := 115) (by decide +kernel))) rfl, am_gin (am_t2 (List.mem_of_getElem? (i := 116) (by decide +kernel))) rfl, am_gin (am_t1 (List.mem_of_getElem? (i := 2) (by decide +kernel))) rfl⟩
theorem lk_X1_54 : am_lkV RX1 54 yX4_moveToEndOf := ⟨am_gin (am_t3 (List.mem_of_getElem? (i := 136) (by decide +kernel))) rfl, am_gin (am_t2 (List.mem_of_getElem? (i := 151) (by decide +kernel))) rfl, am_gin (am_t2 (List.mem_of_getElem? (i := 152) (by decide +kernel))) rfl, am_gin (am_t1 (List.mem_of_getElem? (i := 2) (by decide +kernel))) rfl⟩
theorem lk_L_96 : am_lkV RL 96 yX6_fair := ⟨am_gin (am_t3 (List.mem_of_getElem? (i := 137) (by decide +kernel))) rfl, am_gin (am_t3 (List.mem_of_getElem? (i := 138) (by decide +kernel))) rfl, am_gin (am_t3 (List.mem_of_getElem? (i := 139) (by decide +kernel))) rfl, am_gin (am_t1 (List.mem_of_getElem? (i := 1) (by decide +kernel))) rfl⟩
theorem lk_X6_201 : am_lkV RX6 201 yX3_overtaken := ⟨am_gin (am_t3 (List.mem_of_getElem? (i := 141) (by decide +kernel))) rfl, am_gin (am_t3 (List.mem_of_getElem? (i := 142) (by decide +kernel))) rfl, am_gin (am_t3 (List.mem_of_getElem? (i := 143) (by decide +kernel))) rfl, am_gin (am_t1 (List.mem_of_getElem? (i := 4) (by decide +kernel))) rfl⟩
theorem lk_L_100 : am_lkV RL 100 yX6_lucky := ⟨am_gin (am_t3 (List.mem_of_getElem? (i := 145) (by decide +kernel))) rfl, am_gin (am_t3 (List.mem_of_getElem? (i := 146) (by decide +kernel))) rfl, am_gin (am_t3 (List.mem_of_getElem? (i := 147) (by decide +kernel))) rfl, am_gin (am_t1 (List.mem_of_getElem? (i := 1) (by decide +kernel))) rfl⟩
theorem lk_L_104 : am_lkV RL 104 yX6_away := ⟨am_gin (am_t3 (List.mem_of_getElem? (i := 149) (by decide +kernel))) rfl, am_gin (am_t3 (List.mem_of_getElem? (i := 150) (by decide +kernel))) rfl, am_gin (am_t3 (List.mem_of_getElem? (i := 151) (by decide +kernel))) rfl, am_gin (am_t1 (List.mem_of_getElem? (i := 1) (by decide +kernel))) rfl⟩
theorem lk_X6_204 : am_lkV RX6 204 yX0_cheapestWithout := ⟨am_gin (am_t3 (List.mem_of_getElem? (i := 153) (by decide +kernel))) rfl, am_gin (am_t3 (List.mem_of_getElem? (i := 154) (by decide +kernel))) rfl, am_gin (am_t3 (List.mem_of_getElem? (i := 155) (by decide +kernel))) rfl, am_gin (am_t1 (List.mem_of_getElem? (i := 5) (by decide +kernel))) rfl⟩
theorem lk_L_108 : am_lkV RL 108 yX6_wider := ⟨am_gin (am_t3 (List.mem_of_getElem? (i := 157) (by decide +kernel))) rfl, am_gin (am_t3 (List.mem_of_getElem? (i := 158) (by decide +kernel))) rfl, am_gin (am_t3 (List.mem_of_getElem? (i := 159) (by decide +kernel))) rfl, am_gin (am_t1 (List.mem_of_getElem? (i := 1) (by decide +kernel))) rfl⟩
theorem lk_X6_207 : am_lkS RX6 207 yJ9_max_7cf53 := ⟨am_gin (am_t3 (List.mem_of_getElem? (i := 161) (by decide +kernel))) rfl, am_gin (am_t2 (List.mem_of_getElem? (i := 57) (by decide +kernel))) rfl, am_gin (am_t1 (List.mem_of_getElem? (i := 10) (by decide +kernel))) rfl⟩
theorem lk_L_112 : am_lkV RL 112 yX6_gap := ⟨am_gin (am_t3 (List.mem_of_getElem? (i := 162) (by decide +kernel))) rfl, am_gin (am_t3 (List.mem_of_getElem? (i := 163) (by decide +kernel))) rfl, am_gin (am_t3 (List.mem_of_getElem? (i := 164) (by decide +kernel))) rfl, am_gin (am_t1 (List.mem_of_getElem? (i := 1) (by decide +kernel))) rfl⟩
theorem lk_X6_215 : am_lkV RX6 215 yX3_waitInTurn := ⟨am_gin (am_t3 (List.mem_of_getElem? (i := 166) (by decide +kernel))) rfl, am_gin (am_t3 (List.mem_of_getElem? (i := 12) (by decide +kernel))) rfl, am_gin (am_t3 (List.mem_of_getElem? (i := 13) (by decide +kernel))) rfl, am_gin (am_t1 (List.mem_of_getElem? (i := 4) (by decide +kernel))) rfl⟩
theorem lk_L_116 : am_lkV RL 116 yX6_even := ⟨am_gin (am_t3 (List.mem_of_getElem? (i := 167) (by decide +kernel))) rfl, am_gin (am_t3 (List.mem_of_getElem? (i := 168) (by decide +kernel))) rfl, am_gin (am_t3 (List.mem_of_getElem? (i := 169) (by decide +kernel))) rfl, am_gin (am_t1 (List.mem_of_getElem? (i := 1) (by decide +kernel))) rfl⟩
theorem lk_X6_218 : am_lkV RX6 218 yX0_leastWave := ⟨am_gin (am_t3 (List.mem_of_getElem? (i := 171) (by decide +kernel))) rfl, am_gin (am_t3 (List.mem_of_getElem? (i := 172) (by decide +kernel))) rfl, am_gin (am_t3 (List.mem_of_getElem? (i := 173) (by decide +kernel))) rfl, am_gin (am_t1 (List.mem_of_getElem? (i := 5) (by decide +kernel))) rfl⟩
theorem lk_L_120 : am_lkV RL 120 yX6_keep := ⟨am_gin (am_t3 (List.mem_of_getElem? (i := 175) (by decide +kernel))) rfl, am_gin (am_t3 (List.mem_of_getElem? (i := 176) (by decide +kernel))) rfl, am_gin (am_t3 (List.mem_of_getElem? (i := 177) (by decide +kernel))) rfl, am_gin (am_t1 (List.mem_of_getElem? (i := 1) (by decide +kernel))) rfl⟩
theorem lk_X6_221 : am_lkV RX6 221 yX0_fewestGone := ⟨am_gin (am_t3 (List.mem_of_getElem? (i := 179) (by decide +kernel))) rfl, am_gin (am_t3 (List.mem_of_getElem? (i := 180) (by decide +kernel))) rfl, am_gin (am_t3 (List.mem_of_getElem? (i := 181) (by decide +kernel))) rfl, am_gin (am_t1 (List.mem_of_getElem? (i := 5) (by decide +kernel))) rfl⟩
theorem lk_X0_83 : am_lkV RX0 83 yX0_isWithin := ⟨am_gin (am_t3 (List.mem_of_getElem? (i := 183) (by decide +kernel))) rfl, am_gin (am_t3 (List.mem_of_getElem? (i := 185) (by decide +kernel))) rfl, am_gin (am_sel1 (List.mem_of_getElem? (i := 15) rfl)) rfl, am_gin (am_t1 (List.mem_of_getElem? (i := 5) (by decide +kernel))) rfl⟩
theorem lk_L_124 : am_lkV RL 124 yX6_who := ⟨am_gin (am_t3 (List.mem_of_getElem? (i := 187) (by decide +kernel))) rfl, am_gin (am_t3 (List.mem_of_getElem? (i := 188) (by decide +kernel))) rfl, am_gin (am_t3 (List.mem_of_getElem? (i := 189) (by decide +kernel))) rfl, am_gin (am_t1 (List.mem_of_getElem? (i := 1) (by decide +kernel))) rfl⟩
theorem lk_X6_224 : am_lkV RX6 224 yX4_copyFrom := ⟨am_gin (am_t3 (List.mem_of_getElem? (i := 191) (by decide +kernel))) rfl, am_gin (am_t2 (List.mem_of_getElem? (i := 115) (by decide +kernel))) rfl, am_gin (am_t2 (List.mem_of_getElem? (i := 116) (by decide +kernel))) rfl, am_gin (am_t1 (List.mem_of_getElem? (i := 2) (by decide +kernel))) rfl⟩
theorem lk_X6_228 : am_lkV RX6 228 yX6_firstNotSo := ⟨am_gin (am_t3 (List.mem_of_getElem? (i := 192) (by decide +kernel))) rfl, am_gin (am_t3 (List.mem_of_getElem? (i := 194) (by decide +kernel))) rfl, am_gin (am_sel2 (List.mem_of_getElem? (i := 0) rfl)) rfl, am_gin (am_t1 (List.mem_of_getElem? (i := 1) (by decide +kernel))) rfl⟩
theorem lk_L_128 : am_lkV RL 128 yX6_row := ⟨am_gin (am_t3 (List.mem_of_getElem? (i := 196) (by decide +kernel))) rfl, am_gin (am_t3 (List.mem_of_getElem? (i := 197) (by decide +kernel))) rfl, am_gin (am_t3 (List.mem_of_getElem? (i := 198) (by decide +kernel))) rfl, am_gin (am_t1 (List.mem_of_getElem? (i := 1) (by decide +kernel))) rfl⟩
theorem lk_L_132 : am_lkV RL 132 yX6_judge := ⟨am_gin (am_t3 (List.mem_of_getElem? (i := 200) (by decide +kernel))) rfl, am_gin (am_t3 (List.mem_of_getElem? (i := 201) (by decide +kernel))) rfl, am_gin (am_t3 (List.mem_of_getElem? (i := 202) (by decide +kernel))) rfl, am_gin (am_t1 (List.mem_of_getElem? (i := 1) (by decide +kernel))) rfl⟩
theorem lk_L_136 : am_lkV RL 136 yX6_clear := ⟨am_gin (am_t3 (List.mem_of_getElem? (i := 204) (by decide +kernel))) rfl, am_gin (am_t3 (List.mem_of_getElem? (i := 205) (by decide +kernel))) rfl, am_gin (am_t3 (List.mem_of_getElem? (i := 206) (by decide +kernel))) rfl, am_gin (am_t1 (List.mem_of_getElem? (i := 1) (by decide +kernel))) rfl⟩
theorem lk_L_140 : am_lkV RL 140 yX6_lots := ⟨am_gin (am_t3 (List.mem_of_getElem? (i := 208) (by decide +kernel))) rfl, am_gin (am_t3 (List.mem_of_getElem? (i := 209) (by decide +kernel))) rfl, am_gin (am_t3 (List.mem_of_getElem? (i := 210) (by decide +kernel))) rfl, am_gin (am_t1 (List.mem_of_getElem? (i := 1) (by decide +kernel))) rfl⟩
theorem lk_X6_231 : am_lkV RX6 231 yX1_byLot := ⟨am_gin (am_t3 (List.mem_of_getElem? (i := 212) (by decide +kernel))) rfl, am_gin (am_t3 (List.mem_of_getElem? (i := 213) (by decide +kernel))) rfl, am_gin (am_t3 (List.mem_of_getElem? (i := 214) (by decide +kernel))) rfl, am_gin (am_t1 (List.mem_of_getElem? (i := 6) (by decide +kernel))) rfl⟩
theorem lk_X1_58 : am_lkV RX1 58 yX1_drawLane := ⟨am_gin (am_t3 (List.mem_of_getElem? (i := 216) (by decide +kernel))) rfl, am_gin (am_t3 (List.mem_of_getElem? (i := 218) (by decide +kernel))) rfl, am_gin (am_sel2 (List.mem_of_getElem? (i := 1) rfl)) rfl, am_gin (am_t1 (List.mem_of_getElem? (i := 6) (by decide +kernel))) rfl⟩
theorem lk_X1_62 : am_lkV RX1 62 yX3_cost := ⟨am_gin (am_t3 (List.mem_of_getElem? (i := 223) (by decide +kernel))) rfl, am_gin (am_t3 (List.mem_of_getElem? (i := 16) (by decide +kernel))) rfl, am_gin (am_t3 (List.mem_of_getElem? (i := 17) (by decide +kernel))) rfl, am_gin (am_t1 (List.mem_of_getElem? (i := 4) (by decide +kernel))) rfl⟩
theorem lk_L_145 : am_lkV RL 145 yX6_image := ⟨am_gin (am_t3 (List.mem_of_getElem? (i := 224) (by decide +kernel))) rfl, am_gin (am_t3 (List.mem_of_getElem? (i := 225) (by decide +kernel))) rfl, am_gin (am_t3 (List.mem_of_getElem? (i := 226) (by decide +kernel))) rfl, am_gin (am_t1 (List.mem_of_getElem? (i := 1) (by decide +kernel))) rfl⟩
theorem lk_L_149 : am_lkV RL 149 yX6_on := ⟨am_gin (am_t3 (List.mem_of_getElem? (i := 228) (by decide +kernel))) rfl, am_gin (am_t3 (List.mem_of_getElem? (i := 229) (by decide +kernel))) rfl, am_gin (am_t3 (List.mem_of_getElem? (i := 230) (by decide +kernel))) rfl, am_gin (am_t1 (List.mem_of_getElem? (i := 1) (by decide +kernel))) rfl⟩
theorem lk_L_153 : am_lkV RL 153 yX6_count := ⟨am_gin (am_t3 (List.mem_of_getElem? (i := 232) (by decide +kernel))) rfl, am_gin (am_t3 (List.mem_of_getElem? (i := 233) (by decide +kernel))) rfl, am_gin (am_t3 (List.mem_of_getElem? (i := 234) (by decide +kernel))) rfl, am_gin (am_t1 (List.mem_of_getElem? (i := 1) (by decide +kernel))) rfl⟩
theorem lk_X6_235 : am_lkV RX6 235 yX4_allHurry := ⟨am_gin (am_t3 (List.mem_of_getElem? (i := 236) (by decide +kernel))) rfl, am_gin (am_t3 (List.mem_of_getElem? (i := 237) (by decide +kernel))) rfl, am_gin (am_t3 (List.mem_of_getElem? (i := 238) (by decide +kernel))) rfl, am_gin (am_t1 (List.mem_of_getElem? (i := 2) (by decide +kernel))) rfl⟩
theorem lk_X6_238 : am_lkV RX6 238 yX4_secondsAlone := ⟨am_gin (am_t4 (List.mem_of_getElem? (i := 0) (by decide +kernel))) rfl, am_gin (am_t4 (List.mem_of_getElem? (i := 1) (by decide +kernel))) rfl, am_gin (am_t4 (List.mem_of_getElem? (i := 2) (by decide +kernel))) rfl, am_gin (am_t1 (List.mem_of_getElem? (i := 2) (by decide +kernel))) rfl⟩
theorem lk_X4_58 : am_lkS RX4 58 yX2_secondsOf := ⟨am_gin (am_t4 (List.mem_of_getElem? (i := 4) (by decide +kernel))) rfl, am_gin (am_t2 (List.mem_of_getElem? (i := 192) (by decide +kernel))) rfl, am_gin (am_t1 (List.mem_of_getElem? (i := 14) (by decide +kernel))) rfl⟩
theorem lk_L_17 : am_lkV RL 17 yX7_letter := ⟨am_gin (am_t4 (List.mem_of_getElem? (i := 93) (by decide +kernel))) rfl, am_gin (am_t4 (List.mem_of_getElem? (i := 94) (by decide +kernel))) rfl, am_gin (am_t4 (List.mem_of_getElem? (i := 95) (by decide +kernel))) rfl, am_gin (am_t1 (List.mem_of_getElem? (i := 7) (by decide +kernel))) rfl⟩
theorem lk_X7_66 : am_lkV RX7 66 yX7_no := ⟨am_gin (am_t4 (List.mem_of_getElem? (i := 97) (by decide +kernel))) rfl, am_gin (am_t4 (List.mem_of_getElem? (i := 99) (by decide +kernel))) rfl, am_gin (am_sel2 (List.mem_of_getElem? (i := 2) rfl)) rfl, am_gin (am_t1 (List.mem_of_getElem? (i := 7) (by decide +kernel))) rfl⟩
theorem lk_L_22 : am_lkV RL 22 yX7_road := ⟨am_gin (am_t4 (List.mem_of_getElem? (i := 101) (by decide +kernel))) rfl, am_gin (am_t4 (List.mem_of_getElem? (i := 102) (by decide +kernel))) rfl, am_gin (am_t4 (List.mem_of_getElem? (i := 103) (by decide +kernel))) rfl, am_gin (am_t1 (List.mem_of_getElem? (i := 7) (by decide +kernel))) rfl⟩
theorem lk_X7_112 : am_lkV RX7 112 yX7_statement := ⟨am_gin (am_t4 (List.mem_of_getElem? (i := 105) (by decide +kernel))) rfl, am_gin (am_t4 (List.mem_of_getElem? (i := 107) (by decide +kernel))) rfl, am_gin (am_sel2 (List.mem_of_getElem? (i := 3) rfl)) rfl, am_gin (am_t1 (List.mem_of_getElem? (i := 7) (by decide +kernel))) rfl⟩
theorem lk_X7_76 : am_lkV RX7 76 yX7_is := ⟨am_gin (am_t4 (List.mem_of_getElem? (i := 109) (by decide +kernel))) rfl, am_gin (am_t4 (List.mem_of_getElem? (i := 111) (by decide +kernel))) rfl, am_gin (am_sel2 (List.mem_of_getElem? (i := 4) rfl)) rfl, am_gin (am_t1 (List.mem_of_getElem? (i := 7) (by decide +kernel))) rfl⟩
theorem lk_X7_82 : am_lkV RX7 82 yJ0_indexOf_0f7a4 := ⟨am_gin (am_t4 (List.mem_of_getElem? (i := 114) (by decide +kernel))) rfl, am_gin (am_t2 (List.mem_of_getElem? (i := 29) (by decide +kernel))) rfl, am_gin (am_t2 (List.mem_of_getElem? (i := 30) (by decide +kernel))) rfl, am_gin (am_t1 (List.mem_of_getElem? (i := 8) (by decide +kernel))) rfl⟩
theorem lk_X7_87 : am_lkV RX7 87 yX7_digits := ⟨am_gin (am_t4 (List.mem_of_getElem? (i := 115) (by decide +kernel))) rfl, am_gin (am_t4 (List.mem_of_getElem? (i := 117) (by decide +kernel))) rfl, am_gin (am_sel2 (List.mem_of_getElem? (i := 5) rfl)) rfl, am_gin (am_t1 (List.mem_of_getElem? (i := 7) (by decide +kernel))) rfl⟩
theorem lk_X7_90 : am_lkV RX7 90 yX7_two := ⟨am_gin (am_t4 (List.mem_of_getElem? (i := 119) (by decide +kernel))) rfl, am_gin (am_t4 (List.mem_of_getElem? (i := 121) (by decide +kernel))) rfl, am_gin (am_sel2 (List.mem_of_getElem? (i := 6) rfl)) rfl, am_gin (am_t1 (List.mem_of_getElem? (i := 7) (by decide +kernel))) rfl⟩
theorem lk_X7_93 : am_lkV RX7 93 yX7_inLane := ⟨am_gin (am_t4 (List.mem_of_getElem? (i := 123) (by decide +kernel))) rfl, am_gin (am_t4 (List.mem_of_getElem? (i := 125) (by decide +kernel))) rfl, am_gin (am_sel2 (List.mem_of_getElem? (i := 7) rfl)) rfl, am_gin (am_t1 (List.mem_of_getElem? (i := 7) (by decide +kernel))) rfl⟩
theorem lk_X7_96 : am_lkV RX7 96 yX7_isCar := ⟨am_gin (am_t4 (List.mem_of_getElem? (i := 127) (by decide +kernel))) rfl, am_gin (am_t4 (List.mem_of_getElem? (i := 129) (by decide +kernel))) rfl, am_gin (am_sel2 (List.mem_of_getElem? (i := 8) rfl)) rfl, am_gin (am_t1 (List.mem_of_getElem? (i := 7) (by decide +kernel))) rfl⟩
theorem lk_X7_62 : am_lkS RX7 62 yX7_within := ⟨am_gin (am_t4 (List.mem_of_getElem? (i := 131) (by decide +kernel))) rfl, am_gin (am_t4 (List.mem_of_getElem? (i := 132) (by decide +kernel))) rfl, am_gin (am_t1 (List.mem_of_getElem? (i := 7) (by decide +kernel))) rfl⟩
theorem lk_X7_99 : am_lkV RX7 99 yX7_becomes := ⟨am_gin (am_t4 (List.mem_of_getElem? (i := 134) (by decide +kernel))) rfl, am_gin (am_t4 (List.mem_of_getElem? (i := 136) (by decide +kernel))) rfl, am_gin (am_sel2 (List.mem_of_getElem? (i := 9) rfl)) rfl, am_gin (am_t1 (List.mem_of_getElem? (i := 7) (by decide +kernel))) rfl⟩
theorem lk_X7_106 : am_lkV RX7 106 yX7_overGoes := ⟨am_gin (am_t4 (List.mem_of_getElem? (i := 138) (by decide +kernel))) rfl, am_gin (am_t4 (List.mem_of_getElem? (i := 140) (by decide +kernel))) rfl, am_gin (am_sel2 (List.mem_of_getElem? (i := 10) rfl)) rfl, am_gin (am_t1 (List.mem_of_getElem? (i := 7) (by decide +kernel))) rfl⟩
theorem lk_X7_127 : am_lkV RX7 127 yX7_comes := ⟨am_gin (am_t4 (List.mem_of_getElem? (i := 142) (by decide +kernel))) rfl, am_gin (am_t4 (List.mem_of_getElem? (i := 144) (by decide +kernel))) rfl, am_gin (am_sel2 (List.mem_of_getElem? (i := 11) rfl)) rfl, am_gin (am_t1 (List.mem_of_getElem? (i := 7) (by decide +kernel))) rfl⟩
theorem lk_X7_123 : am_lkV RX7 123 yX7_closes := ⟨am_gin (am_t4 (List.mem_of_getElem? (i := 146) (by decide +kernel))) rfl, am_gin (am_t4 (List.mem_of_getElem? (i := 148) (by decide +kernel))) rfl, am_gin (am_sel2 (List.mem_of_getElem? (i := 12) rfl)) rfl, am_gin (am_t1 (List.mem_of_getElem? (i := 7) (by decide +kernel))) rfl⟩
theorem lk_X7_109 : am_lkV RX7 109 yX7_firstStands := ⟨am_gin (am_t4 (List.mem_of_getElem? (i := 150) (by decide +kernel))) rfl, am_gin (am_t4 (List.mem_of_getElem? (i := 152) (by decide +kernel))) rfl, am_gin (am_sel2 (List.mem_of_getElem? (i := 13) rfl)) rfl, am_gin (am_t1 (List.mem_of_getElem? (i := 7) (by decide +kernel))) rfl⟩
theorem lk_X7_116 : am_lkV RX7 116 yX7_keep_ := ⟨am_gin (am_t4 (List.mem_of_getElem? (i := 154) (by decide +kernel))) rfl, am_gin (am_t4 (List.mem_of_getElem? (i := 156) (by decide +kernel))) rfl, am_gin (am_sel2 (List.mem_of_getElem? (i := 14) rfl)) rfl, am_gin (am_t1 (List.mem_of_getElem? (i := 7) (by decide +kernel))) rfl⟩
theorem lk_X7_120 : am_lkV RX7 120 yX7_again := ⟨am_gin (am_t4 (List.mem_of_getElem? (i := 158) (by decide +kernel))) rfl, am_gin (am_t4 (List.mem_of_getElem? (i := 160) (by decide +kernel))) rfl, am_gin (am_sel2 (List.mem_of_getElem? (i := 15) rfl)) rfl, am_gin (am_t1 (List.mem_of_getElem? (i := 7) (by decide +kernel))) rfl⟩
theorem lk_L_27 : am_lkV RL 27 yX7_car := ⟨am_gin (am_t4 (List.mem_of_getElem? (i := 162) (by decide +kernel))) rfl, am_gin (am_t4 (List.mem_of_getElem? (i := 163) (by decide +kernel))) rfl, am_gin (am_t4 (List.mem_of_getElem? (i := 164) (by decide +kernel))) rfl, am_gin (am_t1 (List.mem_of_getElem? (i := 7) (by decide +kernel))) rfl⟩
theorem lk_X7_140 : am_lkV RX7 140 yX7_letsOf := ⟨am_gin (am_t4 (List.mem_of_getElem? (i := 166) (by decide +kernel))) rfl, am_gin (am_t4 (List.mem_of_getElem? (i := 168) (by decide +kernel))) rfl, am_gin (am_sel3 (List.mem_of_getElem? (i := 0) rfl)) rfl, am_gin (am_t1 (List.mem_of_getElem? (i := 7) (by decide +kernel))) rfl⟩
theorem lk_X7_131 : am_lkS RX7 131 yJ9_max_7cf53 := ⟨am_gin (am_t4 (List.mem_of_getElem? (i := 170) (by decide +kernel))) rfl, am_gin (am_t2 (List.mem_of_getElem? (i := 57) (by decide +kernel))) rfl, am_gin (am_t1 (List.mem_of_getElem? (i := 10) (by decide +kernel))) rfl⟩
theorem lk_X7_143 : am_lkV RX7 143 yX7_secondsOf := ⟨am_gin (am_t4 (List.mem_of_getElem? (i := 171) (by decide +kernel))) rfl, am_gin (am_t4 (List.mem_of_getElem? (i := 173) (by decide +kernel))) rfl, am_gin (am_sel3 (List.mem_of_getElem? (i := 1) rfl)) rfl, am_gin (am_t1 (List.mem_of_getElem? (i := 7) (by decide +kernel))) rfl⟩
theorem lk_L_31 : am_lkV RL 31 yX7_hurry := ⟨am_gin (am_t4 (List.mem_of_getElem? (i := 175) (by decide +kernel))) rfl, am_gin (am_t4 (List.mem_of_getElem? (i := 176) (by decide +kernel))) rfl, am_gin (am_t4 (List.mem_of_getElem? (i := 177) (by decide +kernel))) rfl, am_gin (am_t1 (List.mem_of_getElem? (i := 7) (by decide +kernel))) rfl⟩
theorem lk_L_35 : am_lkV RL 35 yX7_goOver := ⟨am_gin (am_t4 (List.mem_of_getElem? (i := 179) (by decide +kernel))) rfl, am_gin (am_t4 (List.mem_of_getElem? (i := 180) (by decide +kernel))) rfl, am_gin (am_t4 (List.mem_of_getElem? (i := 181) (by decide +kernel))) rfl, am_gin (am_t1 (List.mem_of_getElem? (i := 7) (by decide +kernel))) rfl⟩
theorem lk_L_39 : am_lkV RL 39 yX7_standFirst := ⟨am_gin (am_t4 (List.mem_of_getElem? (i := 183) (by decide +kernel))) rfl, am_gin (am_t4 (List.mem_of_getElem? (i := 184) (by decide +kernel))) rfl, am_gin (am_t4 (List.mem_of_getElem? (i := 185) (by decide +kernel))) rfl, am_gin (am_t1 (List.mem_of_getElem? (i := 7) (by decide +kernel))) rfl⟩
theorem lk_L_43 : am_lkV RL 43 yX7_set := ⟨am_gin (am_t4 (List.mem_of_getElem? (i := 187) (by decide +kernel))) rfl, am_gin (am_t4 (List.mem_of_getElem? (i := 188) (by decide +kernel))) rfl, am_gin (am_t4 (List.mem_of_getElem? (i := 189) (by decide +kernel))) rfl, am_gin (am_t1 (List.mem_of_getElem? (i := 7) (by decide +kernel))) rfl⟩
theorem lk_L_47 : am_lkV RL 47 yX7_order := ⟨am_gin (am_t4 (List.mem_of_getElem? (i := 191) (by decide +kernel))) rfl, am_gin (am_t4 (List.mem_of_getElem? (i := 192) (by decide +kernel))) rfl, am_gin (am_t4 (List.mem_of_getElem? (i := 193) (by decide +kernel))) rfl, am_gin (am_t1 (List.mem_of_getElem? (i := 7) (by decide +kernel))) rfl⟩
theorem lk_X7_161 : am_lkV RX7 161 yX7_run := ⟨am_gin (am_t4 (List.mem_of_getElem? (i := 195) (by decide +kernel))) rfl, am_gin (am_t4 (List.mem_of_getElem? (i := 197) (by decide +kernel))) rfl, am_gin (am_sel3 (List.mem_of_getElem? (i := 2) rfl)) rfl, am_gin (am_t1 (List.mem_of_getElem? (i := 7) (by decide +kernel))) rfl⟩
theorem lk_X7_158 : am_lkV RX7 158 yX7_standsAt := ⟨am_gin (am_t4 (List.mem_of_getElem? (i := 199) (by decide +kernel))) rfl, am_gin (am_t4 (List.mem_of_getElem? (i := 201) (by decide +kernel))) rfl, am_gin (am_sel3 (List.mem_of_getElem? (i := 3) rfl)) rfl, am_gin (am_t1 (List.mem_of_getElem? (i := 7) (by decide +kernel))) rfl⟩
theorem lk_L_51 : am_lkV RL 51 yX7_of := ⟨am_gin (am_t4 (List.mem_of_getElem? (i := 203) (by decide +kernel))) rfl, am_gin (am_t4 (List.mem_of_getElem? (i := 204) (by decide +kernel))) rfl, am_gin (am_t4 (List.mem_of_getElem? (i := 205) (by decide +kernel))) rfl, am_gin (am_t1 (List.mem_of_getElem? (i := 7) (by decide +kernel))) rfl⟩
theorem lk_L_55 : am_lkV RL 55 yX7_sums := ⟨am_gin (am_t4 (List.mem_of_getElem? (i := 207) (by decide +kernel))) rfl, am_gin (am_t4 (List.mem_of_getElem? (i := 208) (by decide +kernel))) rfl, am_gin (am_t4 (List.mem_of_getElem? (i := 209) (by decide +kernel))) rfl, am_gin (am_t1 (List.mem_of_getElem? (i := 7) (by decide +kernel))) rfl⟩
theorem lk_X7_164 : am_lkV RX7 164 yX7_seconds := ⟨am_gin (am_t4 (List.mem_of_getElem? (i := 211) (by decide +kernel))) rfl, am_gin (am_t4 (List.mem_of_getElem? (i := 213) (by decide +kernel))) rfl, am_gin (am_sel3 (List.mem_of_getElem? (i := 4) rfl)) rfl, am_gin (am_t1 (List.mem_of_getElem? (i := 7) (by decide +kernel))) rfl⟩
theorem lk_X7_168 : am_lkV RX7 168 yX7_cost := ⟨am_gin (am_t4 (List.mem_of_getElem? (i := 215) (by decide +kernel))) rfl, am_gin (am_t4 (List.mem_of_getElem? (i := 217) (by decide +kernel))) rfl, am_gin (am_sel3 (List.mem_of_getElem? (i := 5) rfl)) rfl, am_gin (am_t1 (List.mem_of_getElem? (i := 7) (by decide +kernel))) rfl⟩
theorem lk_L_59 : am_lkV RL 59 yX7_queue := ⟨am_gin (am_t4 (List.mem_of_getElem? (i := 219) (by decide +kernel))) rfl, am_gin (am_t4 (List.mem_of_getElem? (i := 220) (by decide +kernel))) rfl, am_gin (am_t4 (List.mem_of_getElem? (i := 221) (by decide +kernel))) rfl, am_gin (am_t1 (List.mem_of_getElem? (i := 7) (by decide +kernel))) rfl⟩
theorem lk_L_63 : am_lkV RL 63 yX7_bestBoard := ⟨am_gin (am_t4 (List.mem_of_getElem? (i := 223) (by decide +kernel))) rfl, am_gin (am_t4 (List.mem_of_getElem? (i := 224) (by decide +kernel))) rfl, am_gin (am_t4 (List.mem_of_getElem? (i := 225) (by decide +kernel))) rfl, am_gin (am_t1 (List.mem_of_getElem? (i := 7) (by decide +kernel))) rfl⟩
theorem lk_L_67 : am_lkV RL 67 yX7_over := ⟨am_gin (am_t4 (List.mem_of_getElem? (i := 227) (by decide +kernel))) rfl, am_gin (am_t4 (List.mem_of_getElem? (i := 228) (by decide +kernel))) rfl, am_gin (am_t4 (List.mem_of_getElem? (i := 229) (by decide +kernel))) rfl, am_gin (am_t1 (List.mem_of_getElem? (i := 7) (by decide +kernel))) rfl⟩
theorem lk_X7_171 : am_lkV RX7 171 yX7_mover := ⟨am_gin (am_t4 (List.mem_of_getElem? (i := 231) (by decide +kernel))) rfl, am_gin (am_t4 (List.mem_of_getElem? (i := 233) (by decide +kernel))) rfl, am_gin (am_sel3 (List.mem_of_getElem? (i := 6) rfl)) rfl, am_gin (am_t1 (List.mem_of_getElem? (i := 7) (by decide +kernel))) rfl⟩
theorem lk_L_71 : am_lkV RL 71 yX7_first := ⟨am_gin (am_t4 (List.mem_of_getElem? (i := 235) (by decide +kernel))) rfl, am_gin (am_t4 (List.mem_of_getElem? (i := 236) (by decide +kernel))) rfl, am_gin (am_t4 (List.mem_of_getElem? (i := 237) (by decide +kernel))) rfl, am_gin (am_t1 (List.mem_of_getElem? (i := 7) (by decide +kernel))) rfl⟩
theorem lk_L_75 : am_lkV RL 75 yX7_lets := ⟨am_gin (am_t4 (List.mem_of_getElem? (i := 239) (by decide +kernel))) rfl, am_gin (am_t5 (List.mem_of_getElem? (i := 0) (by decide +kernel))) rfl, am_gin (am_t5 (List.mem_of_getElem? (i := 1) (by decide +kernel))) rfl, am_gin (am_t1 (List.mem_of_getElem? (i := 7) (by decide +kernel))) rfl⟩
theorem lk_L_79 : am_lkV RL 79 yX7_spoil := ⟨am_gin (am_t5 (List.mem_of_getElem? (i := 3) (by decide +kernel))) rfl, am_gin (am_t5 (List.mem_of_getElem? (i := 4) (by decide +kernel))) rfl, am_gin (am_t5 (List.mem_of_getElem? (i := 5) (by decide +kernel))) rfl, am_gin (am_t1 (List.mem_of_getElem? (i := 7) (by decide +kernel))) rfl⟩
theorem lk_X7_180 : am_lkV RX7 180 yX7_fewest := ⟨am_gin (am_t5 (List.mem_of_getElem? (i := 7) (by decide +kernel))) rfl, am_gin (am_t5 (List.mem_of_getElem? (i := 9) (by decide +kernel))) rfl, am_gin (am_sel3 (List.mem_of_getElem? (i := 7) rfl)) rfl, am_gin (am_t1 (List.mem_of_getElem? (i := 7) (by decide +kernel))) rfl⟩
theorem lk_X7_175 : am_lkS RX7 175 yJ6_bitCount_0f7a4 := ⟨am_gin (am_t5 (List.mem_of_getElem? (i := 11) (by decide +kernel))) rfl, am_gin (am_t3 (List.mem_of_getElem? (i := 90) (by decide +kernel))) rfl, am_gin (am_t1 (List.mem_of_getElem? (i := 15) (by decide +kernel))) rfl⟩
theorem lk_L_83 : am_lkV RL 83 yX7_mend := ⟨am_gin (am_t5 (List.mem_of_getElem? (i := 12) (by decide +kernel))) rfl, am_gin (am_t5 (List.mem_of_getElem? (i := 13) (by decide +kernel))) rfl, am_gin (am_t5 (List.mem_of_getElem? (i := 14) (by decide +kernel))) rfl, am_gin (am_t1 (List.mem_of_getElem? (i := 7) (by decide +kernel))) rfl⟩
theorem lk_L_87 : am_lkV RL 87 yX7_loses := ⟨am_gin (am_t5 (List.mem_of_getElem? (i := 16) (by decide +kernel))) rfl, am_gin (am_t5 (List.mem_of_getElem? (i := 17) (by decide +kernel))) rfl, am_gin (am_t5 (List.mem_of_getElem? (i := 18) (by decide +kernel))) rfl, am_gin (am_t1 (List.mem_of_getElem? (i := 7) (by decide +kernel))) rfl⟩
theorem lk_X7_187 : am_lkV RX7 187 yX7_losesBy := ⟨am_gin (am_t5 (List.mem_of_getElem? (i := 20) (by decide +kernel))) rfl, am_gin (am_t5 (List.mem_of_getElem? (i := 22) (by decide +kernel))) rfl, am_gin (am_sel3 (List.mem_of_getElem? (i := 8) rfl)) rfl, am_gin (am_t1 (List.mem_of_getElem? (i := 7) (by decide +kernel))) rfl⟩
theorem lk_X7_183 : am_lkV RX7 183 yX7_leaves := ⟨am_gin (am_t5 (List.mem_of_getElem? (i := 24) (by decide +kernel))) rfl, am_gin (am_t5 (List.mem_of_getElem? (i := 26) (by decide +kernel))) rfl, am_gin (am_sel3 (List.mem_of_getElem? (i := 9) rfl)) rfl, am_gin (am_t1 (List.mem_of_getElem? (i := 7) (by decide +kernel))) rfl⟩
theorem lk_L_91 : am_lkV RL 91 yX7_byWhom := ⟨am_gin (am_t5 (List.mem_of_getElem? (i := 29) (by decide +kernel))) rfl, am_gin (am_t5 (List.mem_of_getElem? (i := 30) (by decide +kernel))) rfl, am_gin (am_t5 (List.mem_of_getElem? (i := 31) (by decide +kernel))) rfl, am_gin (am_t1 (List.mem_of_getElem? (i := 7) (by decide +kernel))) rfl⟩
theorem lk_L_95 : am_lkV RL 95 yX7_two_ := ⟨am_gin (am_t5 (List.mem_of_getElem? (i := 33) (by decide +kernel))) rfl, am_gin (am_t5 (List.mem_of_getElem? (i := 34) (by decide +kernel))) rfl, am_gin (am_t5 (List.mem_of_getElem? (i := 35) (by decide +kernel))) rfl, am_gin (am_t1 (List.mem_of_getElem? (i := 7) (by decide +kernel))) rfl⟩
theorem lk_X7_191 : am_lkV RX7 191 yX7_waits := ⟨am_gin (am_t5 (List.mem_of_getElem? (i := 37) (by decide +kernel))) rfl, am_gin (am_t5 (List.mem_of_getElem? (i := 39) (by decide +kernel))) rfl, am_gin (am_sel3 (List.mem_of_getElem? (i := 10) rfl)) rfl, am_gin (am_t1 (List.mem_of_getElem? (i := 7) (by decide +kernel))) rfl⟩
theorem lk_L_99 : am_lkV RL 99 yX7_fair := ⟨am_gin (am_t5 (List.mem_of_getElem? (i := 41) (by decide +kernel))) rfl, am_gin (am_t5 (List.mem_of_getElem? (i := 42) (by decide +kernel))) rfl, am_gin (am_t5 (List.mem_of_getElem? (i := 43) (by decide +kernel))) rfl, am_gin (am_t1 (List.mem_of_getElem? (i := 7) (by decide +kernel))) rfl⟩
theorem lk_X7_195 : am_lkV RX7 195 yX7_lucks := ⟨am_gin (am_t5 (List.mem_of_getElem? (i := 45) (by decide +kernel))) rfl, am_gin (am_t5 (List.mem_of_getElem? (i := 47) (by decide +kernel))) rfl, am_gin (am_sel3 (List.mem_of_getElem? (i := 11) rfl)) rfl, am_gin (am_t1 (List.mem_of_getElem? (i := 7) (by decide +kernel))) rfl⟩
theorem lk_L_103 : am_lkV RL 103 yX7_lucky := ⟨am_gin (am_t5 (List.mem_of_getElem? (i := 49) (by decide +kernel))) rfl, am_gin (am_t5 (List.mem_of_getElem? (i := 50) (by decide +kernel))) rfl, am_gin (am_t5 (List.mem_of_getElem? (i := 51) (by decide +kernel))) rfl, am_gin (am_t1 (List.mem_of_getElem? (i := 7) (by decide +kernel))) rfl⟩
theorem lk_L_107 : am_lkV RL 107 yX7_away := ⟨am_gin (am_t5 (List.mem_of_getElem? (i := 53) (by decide +kernel))) rfl, am_gin (am_t5 (List.mem_of_getElem? (i := 54) (by decide +kernel))) rfl, am_gin (am_t5 (List.mem_of_getElem? (i := 55) (by decide +kernel))) rfl, am_gin (am_t1 (List.mem_of_getElem? (i := 7) (by decide +kernel))) rfl⟩
theorem lk_L_111 : am_lkV RL 111 yX7_wider := ⟨am_gin (am_t5 (List.mem_of_getElem? (i := 57) (by decide +kernel))) rfl, am_gin (am_t5 (List.mem_of_getElem? (i := 58) (by decide +kernel))) rfl, am_gin (am_t5 (List.mem_of_getElem? (i := 59) (by decide +kernel))) rfl, am_gin (am_t1 (List.mem_of_getElem? (i := 7) (by decide +kernel))) rfl⟩
theorem lk_L_115 : am_lkV RL 115 yX7_gap := ⟨am_gin (am_t5 (List.mem_of_getElem? (i := 61) (by decide +kernel))) rfl, am_gin (am_t5 (List.mem_of_getElem? (i := 62) (by decide +kernel))) rfl, am_gin (am_t5 (List.mem_of_getElem? (i := 63) (by decide +kernel))) rfl, am_gin (am_t1 (List.mem_of_getElem? (i := 7) (by decide +kernel))) rfl⟩
theorem lk_L_119 : am_lkV RL 119 yX7_even := ⟨am_gin (am_t5 (List.mem_of_getElem? (i := 65) (by decide +kernel))) rfl, am_gin (am_t5 (List.mem_of_getElem? (i := 66) (by decide +kernel))) rfl, am_gin (am_t5 (List.mem_of_getElem? (i := 67) (by decide +kernel))) rfl, am_gin (am_t1 (List.mem_of_getElem? (i := 7) (by decide +kernel))) rfl⟩
theorem lk_L_123 : am_lkV RL 123 yX7_keep := ⟨am_gin (am_t5 (List.mem_of_getElem? (i := 69) (by decide +kernel))) rfl, am_gin (am_t5 (List.mem_of_getElem? (i := 70) (by decide +kernel))) rfl, am_gin (am_t5 (List.mem_of_getElem? (i := 71) (by decide +kernel))) rfl, am_gin (am_t1 (List.mem_of_getElem? (i := 7) (by decide +kernel))) rfl⟩
theorem lk_L_127 : am_lkV RL 127 yX7_who := ⟨am_gin (am_t5 (List.mem_of_getElem? (i := 73) (by decide +kernel))) rfl, am_gin (am_t5 (List.mem_of_getElem? (i := 74) (by decide +kernel))) rfl, am_gin (am_t5 (List.mem_of_getElem? (i := 75) (by decide +kernel))) rfl, am_gin (am_t1 (List.mem_of_getElem? (i := 7) (by decide +kernel))) rfl⟩
theorem lk_X7_201 : am_lkV RX7 201 yX7_wrong := ⟨am_gin (am_t5 (List.mem_of_getElem? (i := 77) (by decide +kernel))) rfl, am_gin (am_t5 (List.mem_of_getElem? (i := 79) (by decide +kernel))) rfl, am_gin (am_sel3 (List.mem_of_getElem? (i := 12) rfl)) rfl, am_gin (am_t1 (List.mem_of_getElem? (i := 7) (by decide +kernel))) rfl⟩
theorem lk_L_131 : am_lkV RL 131 yX7_row := ⟨am_gin (am_t5 (List.mem_of_getElem? (i := 81) (by decide +kernel))) rfl, am_gin (am_t5 (List.mem_of_getElem? (i := 82) (by decide +kernel))) rfl, am_gin (am_t5 (List.mem_of_getElem? (i := 83) (by decide +kernel))) rfl, am_gin (am_t1 (List.mem_of_getElem? (i := 7) (by decide +kernel))) rfl⟩
theorem lk_L_135 : am_lkV RL 135 yX7_judge := ⟨am_gin (am_t5 (List.mem_of_getElem? (i := 85) (by decide +kernel))) rfl, am_gin (am_t5 (List.mem_of_getElem? (i := 86) (by decide +kernel))) rfl, am_gin (am_t5 (List.mem_of_getElem? (i := 87) (by decide +kernel))) rfl, am_gin (am_t1 (List.mem_of_getElem? (i := 7) (by decide +kernel))) rfl⟩
theorem lk_L_139 : am_lkV RL 139 yX7_clear := ⟨am_gin (am_t5 (List.mem_of_getElem? (i := 89) (by decide +kernel))) rfl, am_gin (am_t5 (List.mem_of_getElem? (i := 90) (by decide +kernel))) rfl, am_gin (am_t5 (List.mem_of_getElem? (i := 91) (by decide +kernel))) rfl, am_gin (am_t1 (List.mem_of_getElem? (i := 7) (by decide +kernel))) rfl⟩
theorem lk_L_144 : am_lkV RL 144 yX7_lots := ⟨am_gin (am_t5 (List.mem_of_getElem? (i := 93) (by decide +kernel))) rfl, am_gin (am_t5 (List.mem_of_getElem? (i := 94) (by decide +kernel))) rfl, am_gin (am_t5 (List.mem_of_getElem? (i := 95) (by decide +kernel))) rfl, am_gin (am_t1 (List.mem_of_getElem? (i := 7) (by decide +kernel))) rfl⟩
theorem lk_L_148 : am_lkV RL 148 yX7_image := ⟨am_gin (am_t5 (List.mem_of_getElem? (i := 100) (by decide +kernel))) rfl, am_gin (am_t5 (List.mem_of_getElem? (i := 101) (by decide +kernel))) rfl, am_gin (am_t5 (List.mem_of_getElem? (i := 102) (by decide +kernel))) rfl, am_gin (am_t1 (List.mem_of_getElem? (i := 7) (by decide +kernel))) rfl⟩
theorem lk_L_152 : am_lkV RL 152 yX7_on := ⟨am_gin (am_t5 (List.mem_of_getElem? (i := 104) (by decide +kernel))) rfl, am_gin (am_t5 (List.mem_of_getElem? (i := 105) (by decide +kernel))) rfl, am_gin (am_t5 (List.mem_of_getElem? (i := 106) (by decide +kernel))) rfl, am_gin (am_t1 (List.mem_of_getElem? (i := 7) (by decide +kernel))) rfl⟩
theorem lk_L_156 : am_lkV RL 156 yX7_count := ⟨am_gin (am_t5 (List.mem_of_getElem? (i := 108) (by decide +kernel))) rfl, am_gin (am_t5 (List.mem_of_getElem? (i := 109) (by decide +kernel))) rfl, am_gin (am_t5 (List.mem_of_getElem? (i := 110) (by decide +kernel))) rfl, am_gin (am_t1 (List.mem_of_getElem? (i := 7) (by decide +kernel))) rfl⟩
end
section
def am_cs (l : List (Nat × (List am_V → am_D → am_K → Prop))) (pc : Nat) : List am_V → am_D → am_K → Prop := match l.find? (fun q => q.1 == pc) with
  | some q => q.2
  | none => fun _ _ _ => False
theorem am_cs_ok {X : am_X} {nL : Nat} {sh : am_S} {l : List (Nat × (List am_V → am_D → am_K → Prop))} (h : ∀ q ∈ l, am_csok X nL sh q.1 q.2) : ∀ pc, am_csok X nL sh pc (am_cs l pc) := by
  intro pc
  unfold am_cs
  cases hf : l.find? (fun q => q.1 == pc) with
  | none => intro st D k ls h; exact h.elim
  | some q =>
    have h3 := List.find?_some hf
    simp only [beq_iff_eq] at h3
    rw [← h3]
    exact h q (List.mem_of_find?_eq_some hf)
abbrev am_TT : Type := List Int32 → am_D → (List Int32 → am_D → Prop) → Prop
/-- a method that changes nothing: F says what it answers -/
def am_pure (F : List Int32 → am_D → Int32 → Prop) : am_TT := fun is D K => ∃ r : Int32, F is D r ∧ K [r] D
def am_upd {α : Type} : List α → Nat → α → Option (List α)
  | [], _, _ => none
  | _ :: l, 0, v => some (v :: l)
  | x :: l, n + 1, v => match am_upd l n v with
    | some r => some (x :: r)
    | none => none
theorem am_upd_eq {α : Type} : ∀ (l : List α) (n : Nat) (v : α) (l' : List α), am_upd l n v = some l' → l' = l.set n v ∧ n < l.length
  | [], _, _, _, h => by cases h
  | x :: l, 0, v, l', h => by cases h; exact ⟨rfl, Nat.zero_lt_succ _⟩
  | x :: l, n + 1, v, l', h => by
    unfold am_upd at h
    cases hu : am_upd l n v with
    | none => rw [hu] at h; cases h
    | some r =>
      rw [hu] at h
      cases h
      obtain ⟨h1, h2⟩ := am_upd_eq l n v r hu
      exact ⟨by rw [h1]; rfl, Nat.succ_lt_succ h2⟩
/-- a list's spine, with its cells, laid open -/
def am_fzi : List Int32 → Option (List Int32)
  | [] => some []
  | x :: l => match am_fzi l with
    | some r => some (x :: r)
    | none => none
def am_fz : am_D → Option am_D
  | [] => some []
  | .inl xs :: l => match am_fzi xs with
    | some ys => (match am_fz l with
      | some r => some (.inl ys :: r)
      | none => none)
    | none => none
  | .inr f :: l => match am_fz l with
    | some r => some (.inr f :: r)
    | none => none
def am_fzs : List am_V → Option (List am_V)
  | [] => some []
  | .inl x :: l => match am_fzs l with
    | some r => some (.inl x :: r)
    | none => none
  | .inr f :: l => match am_fzs l with
    | some r => some (.inr f :: r)
    | none => none
theorem am_fzi_eq : ∀ (l r : List Int32), am_fzi l = some r → r = l
  | [], r, h => by cases h; rfl
  | x :: l, r, h => by
    unfold am_fzi at h
    cases hu : am_fzi l with
    | none => rw [hu] at h; cases h
    | some r' => rw [hu] at h; cases h; rw [am_fzi_eq l r' hu]
theorem am_fz_eq : ∀ (l r : am_D), am_fz l = some r → r = l
  | [], r, h => by cases h; rfl
  | .inl xs :: l, r, h => by
    unfold am_fz at h
    cases hv : am_fzi xs with
    | none => rw [hv] at h; cases h
    | some ys =>
      rw [hv] at h
      dsimp only at h
      cases hu : am_fz l with
      | none => rw [hu] at h; cases h
      | some r' => rw [hu] at h; cases h; rw [am_fz_eq l r' hu, am_fzi_eq xs ys hv]
  | .inr f :: l, r, h => by
    unfold am_fz at h
    cases hu : am_fz l with
    | none => rw [hu] at h; cases h
    | some r' => rw [hu] at h; cases h; rw [am_fz_eq l r' hu]
theorem am_fzs_eq : ∀ (l r : List am_V), am_fzs l = some r → r = l
  | [], r, h => by cases h; rfl
  | .inl xs :: l, r, h => by
    unfold am_fzs at h
    cases hu : am_fzs l with
    | none => rw [hu] at h; cases h
    | some r' => rw [hu] at h; cases h; rw [am_fzs_eq l r' hu]
  | .inr f :: l, r, h => by
    unfold am_fzs at h
    cases hu : am_fzs l with
    | none => rw [hu] at h; cases h
    | some r' => rw [hu] at h; cases h; rw [am_fzs_eq l r' hu]
theorem nI_lit {k : Nat} (m : Nat) (hk : k < 2 ^ 31) (hm : m < 2 ^ 31) : nI k = (OfNat.ofNat m : Int32) ↔ k = m := nI_eq hk hm
section ST
variable {X : am_X} {own : String} {cc : ByteArray} {nL : Nat} {sh : am_S} {fl : Nat → Option (Nat × Nat × Nat)} {kc : Nat → Option am_V} {ro : Option (Nat × (Nat → Int32))} {rb : Nat} {cs : Nat → List am_V → am_D → am_K → Prop} {K : List Int32 → am_D → Prop}
variable {pc q : Nat} {ls : am_L} {st : List am_V} {D : am_D}
theorem st_of (O : am_ok X own cc nL sh fl kc ro rb cs K) {i : Instr} {len : Nat} (hd : decode cc pc = .ok (i, len)) (h : am_in sh fl kc ro rb cs K (am_aw X nL sh) i len pc ls st D) : am_aw X nL sh pc ls st D := am_sound O (fun _ _ _ _ h => h) (by unfold am_ex; rw [hd]; exact h)
theorem am_norm {st' : List am_V} {D' : am_D} (h1 : am_fzs st = some st') (h2 : am_fz D = some D') (k : am_aw X nL sh pc ls st' D') : am_aw X nL sh pc ls st D := by rw [am_fzs_eq _ _ h1, am_fz_eq _ _ h2] at k; exact k
theorem st_iconst (O : am_ok X own cc nL sh fl kc ro rb cs K) {n : Int} {v : Int32} (hd : decode cc pc = .ok (.iconst n, 1)) (hv : Int32.ofInt n = v) (hq : pc + 1 = q) (k : am_aw X nL sh q ls (.inl v :: st) D) : am_aw X nL sh pc ls st D := st_of O hd ⟨rfl, by rw [hv, hq]; exact k⟩
theorem st_bipush (O : am_ok X own cc nL sh fl kc ro rb cs K) {n : Int} {v : Int32} (hd : decode cc pc = .ok (.bipush n, 2)) (hv : (Int8.ofInt n).toInt32 = v) (hq : pc + 2 = q) (k : am_aw X nL sh q ls (.inl v :: st) D) : am_aw X nL sh pc ls st D := st_of O hd ⟨rfl, by rw [hv, hq]; exact k⟩
theorem st_sipush (O : am_ok X own cc nL sh fl kc ro rb cs K) {n : Int} {v : Int32} (hd : decode cc pc = .ok (.sipush n, 3)) (hv : (Int16.ofInt n).toInt32 = v) (hq : pc + 3 = q) (k : am_aw X nL sh q ls (.inl v :: st) D) : am_aw X nL sh pc ls st D := st_of O hd ⟨rfl, by rw [hv, hq]; exact k⟩
theorem st_ldc (O : am_ok X own cc nL sh fl kc ro rb cs K) {ix : Nat} {v : am_V} (hd : decode cc pc = .ok (.ldc ix, 2)) (hv : kc ix = some v) (hq : pc + 2 = q) (k : am_aw X nL sh q ls (v :: st) D) : am_aw X nL sh pc ls st D := st_of O hd ⟨rfl, by rw [hv, hq]; exact k⟩
theorem st_ldcw (O : am_ok X own cc nL sh fl kc ro rb cs K) {ix : Nat} {v : Int32} (hd : decode cc pc = .ok (.ldc_w ix, 3)) (hv : kc ix = some (.inl v)) (hq : pc + 3 = q) (k : am_aw X nL sh q ls (.inl v :: st) D) : am_aw X nL sh pc ls st D := st_of O hd ⟨rfl, by rw [hv, hq]; exact k⟩
theorem st_iloadn (O : am_ok X own cc nL sh fl kc ro rb cs K) {j : Fin 4} {x : Int32} (hd : decode cc pc = .ok (.iload_n j, 1)) (hj : ls[(j : Nat)]? = some (some (.inl x))) (hq : pc + 1 = q) (k : am_aw X nL sh q ls (.inl x :: st) D) : am_aw X nL sh pc ls st D := st_of O hd ⟨rfl, by rw [hj, hq]; exact k⟩
theorem st_iload (O : am_ok X own cc nL sh fl kc ro rb cs K) {j : Nat} {x : Int32} (hd : decode cc pc = .ok (.iload j, 2)) (hj : ls[j]? = some (some (.inl x))) (hq : pc + 2 = q) (k : am_aw X nL sh q ls (.inl x :: st) D) : am_aw X nL sh pc ls st D := st_of O hd ⟨rfl, by rw [hj, hq]; exact k⟩
theorem st_aloadn (O : am_ok X own cc nL sh fl kc ro rb cs K) {j : Fin 4} {x : Nat} (hd : decode cc pc = .ok (.aload_n j, 1)) (hj : ls[(j : Nat)]? = some (some (.inr x))) (hq : pc + 1 = q) (k : am_aw X nL sh q ls (.inr x :: st) D) : am_aw X nL sh pc ls st D := st_of O hd ⟨rfl, by rw [hj, hq]; exact k⟩
theorem st_aload (O : am_ok X own cc nL sh fl kc ro rb cs K) {j : Nat} {x : Nat} (hd : decode cc pc = .ok (.aload j, 2)) (hj : ls[j]? = some (some (.inr x))) (hq : pc + 2 = q) (k : am_aw X nL sh q ls (.inr x :: st) D) : am_aw X nL sh pc ls st D := st_of O hd ⟨rfl, by rw [hj, hq]; exact k⟩
theorem st_istoren (O : am_ok X own cc nL sh fl kc ro rb cs K) {j : Fin 4} {x : Int32} {ls' : am_L} (hd : decode cc pc = .ok (.istore_n j, 1)) (hs : am_upd ls (j : Nat) (some (.inl x)) = some ls') (hq : pc + 1 = q) (k : am_aw X nL sh q ls' st D) : am_aw X nL sh pc ls (.inl x :: st) D := by
  obtain ⟨h1, h2⟩ := am_upd_eq _ _ _ _ hs
  refine st_of O hd ⟨rfl, ?_⟩
  show am_sl ls[(j : Nat)]? _
  rw [List.getElem?_eq_getElem h2, hq]
  rw [h1] at k
  exact k
theorem st_istore (O : am_ok X own cc nL sh fl kc ro rb cs K) {j : Nat} {x : Int32} {ls' : am_L} (hd : decode cc pc = .ok (.istore j, 2)) (hs : am_upd ls j (some (.inl x)) = some ls') (hq : pc + 2 = q) (k : am_aw X nL sh q ls' st D) : am_aw X nL sh pc ls (.inl x :: st) D := by
  obtain ⟨h1, h2⟩ := am_upd_eq _ _ _ _ hs
  refine st_of O hd ⟨rfl, ?_⟩
  show am_sl ls[j]? _
  rw [List.getElem?_eq_getElem h2, hq]
  rw [h1] at k
  exact k
theorem st_iinc (O : am_ok X own cc nL sh fl kc ro rb cs K) {j : Nat} {n : Int} {x v : Int32} {ls' : am_L} (hd : decode cc pc = .ok (.iinc j n, 3)) (hj : ls[j]? = some (some (.inl x))) (hv : x + Int32.ofInt n = v) (hs : am_upd ls j (some (.inl v)) = some ls') (hq : pc + 3 = q) (k : am_aw X nL sh q ls' st D) : am_aw X nL sh pc ls st D := by
  obtain ⟨h1, h2⟩ := am_upd_eq _ _ _ _ hs
  refine st_of O hd ⟨rfl, ?_⟩
  rw [hj, hq]
  rw [h1, ← hv] at k
  exact k
theorem st_iadd (O : am_ok X own cc nL sh fl kc ro rb cs K) {x y v : Int32} (hd : decode cc pc = .ok (.iadd, 1)) (hv : x + y = v) (hq : pc + 1 = q) (k : am_aw X nL sh q ls (.inl v :: st) D) : am_aw X nL sh pc ls (.inl y :: .inl x :: st) D := st_of O hd ⟨rfl, by rw [← hv, ← hq] at k; exact k⟩
theorem st_isub (O : am_ok X own cc nL sh fl kc ro rb cs K) {x y v : Int32} (hd : decode cc pc = .ok (.isub, 1)) (hv : x - y = v) (hq : pc + 1 = q) (k : am_aw X nL sh q ls (.inl v :: st) D) : am_aw X nL sh pc ls (.inl y :: .inl x :: st) D := st_of O hd ⟨rfl, by rw [← hv, ← hq] at k; exact k⟩
theorem st_imul (O : am_ok X own cc nL sh fl kc ro rb cs K) {x y v : Int32} (hd : decode cc pc = .ok (.imul, 1)) (hv : x * y = v) (hq : pc + 1 = q) (k : am_aw X nL sh q ls (.inl v :: st) D) : am_aw X nL sh pc ls (.inl y :: .inl x :: st) D := st_of O hd ⟨rfl, by rw [← hv, ← hq] at k; exact k⟩
theorem st_iand (O : am_ok X own cc nL sh fl kc ro rb cs K) {x y v : Int32} (hd : decode cc pc = .ok (.iand, 1)) (hv : x &&& y = v) (hq : pc + 1 = q) (k : am_aw X nL sh q ls (.inl v :: st) D) : am_aw X nL sh pc ls (.inl y :: .inl x :: st) D := st_of O hd ⟨rfl, by rw [← hv, ← hq] at k; exact k⟩
theorem st_ior (O : am_ok X own cc nL sh fl kc ro rb cs K) {x y v : Int32} (hd : decode cc pc = .ok (.ior, 1)) (hv : x ||| y = v) (hq : pc + 1 = q) (k : am_aw X nL sh q ls (.inl v :: st) D) : am_aw X nL sh pc ls (.inl y :: .inl x :: st) D := st_of O hd ⟨rfl, by rw [← hv, ← hq] at k; exact k⟩
theorem st_ixor (O : am_ok X own cc nL sh fl kc ro rb cs K) {x y v : Int32} (hd : decode cc pc = .ok (.ixor, 1)) (hv : x ^^^ y = v) (hq : pc + 1 = q) (k : am_aw X nL sh q ls (.inl v :: st) D) : am_aw X nL sh pc ls (.inl y :: .inl x :: st) D := st_of O hd ⟨rfl, by rw [← hv, ← hq] at k; exact k⟩
theorem st_ishl (O : am_ok X own cc nL sh fl kc ro rb cs K) {x y v : Int32} (hd : decode cc pc = .ok (.ishl, 1)) (hv : x <<< (y &&& 31) = v) (hq : pc + 1 = q) (k : am_aw X nL sh q ls (.inl v :: st) D) : am_aw X nL sh pc ls (.inl y :: .inl x :: st) D := st_of O hd ⟨rfl, by rw [← hv, ← hq] at k; exact k⟩
theorem st_ishr (O : am_ok X own cc nL sh fl kc ro rb cs K) {x y v : Int32} (hd : decode cc pc = .ok (.ishr, 1)) (hv : x >>> (y &&& 31) = v) (hq : pc + 1 = q) (k : am_aw X nL sh q ls (.inl v :: st) D) : am_aw X nL sh pc ls (.inl y :: .inl x :: st) D := st_of O hd ⟨rfl, by rw [← hv, ← hq] at k; exact k⟩
theorem st_iushr (O : am_ok X own cc nL sh fl kc ro rb cs K) {x y v : Int32} (hd : decode cc pc = .ok (.iushr, 1)) (hv : (x.toUInt32 >>> (y.toUInt32 &&& Int32.toUInt32 31)).toInt32 = v) (hq : pc + 1 = q) (k : am_aw X nL sh q ls (.inl v :: st) D) : am_aw X nL sh pc ls (.inl y :: .inl x :: st) D := st_of O hd ⟨rfl, by rw [← hv, ← hq] at k; exact k⟩
theorem st_idiv (O : am_ok X own cc nL sh fl kc ro rb cs K) {x y v : Int32} (hd : decode cc pc = .ok (.idiv, 1)) (h0 : ¬ y = 0) (hv : x / y = v) (hq : pc + 1 = q) (k : am_aw X nL sh q ls (.inl v :: st) D) : am_aw X nL sh pc ls (.inl y :: .inl x :: st) D := st_of O hd ⟨rfl, h0, by rw [← hv, ← hq] at k; exact k⟩
theorem st_irem (O : am_ok X own cc nL sh fl kc ro rb cs K) {x y v : Int32} (hd : decode cc pc = .ok (.irem, 1)) (h0 : ¬ y = 0) (hv : x - x / y * y = v) (hq : pc + 1 = q) (k : am_aw X nL sh q ls (.inl v :: st) D) : am_aw X nL sh pc ls (.inl y :: .inl x :: st) D := st_of O hd ⟨rfl, h0, by rw [← hv, ← hq] at k; exact k⟩
theorem st_ineg (O : am_ok X own cc nL sh fl kc ro rb cs K) {x v : Int32} (hd : decode cc pc = .ok (.ineg, 1)) (hv : -x = v) (hq : pc + 1 = q) (k : am_aw X nL sh q ls (.inl v :: st) D) : am_aw X nL sh pc ls (.inl x :: st) D := st_of O hd ⟨rfl, by rw [← hv, ← hq] at k; exact k⟩
theorem st_i2c (O : am_ok X own cc nL sh fl kc ro rb cs K) {x v : Int32} (hd : decode cc pc = .ok (.i2c, 1)) (hv : (x.toUInt32 % 65536).toInt32 = v) (hq : pc + 1 = q) (k : am_aw X nL sh q ls (.inl v :: st) D) : am_aw X nL sh pc ls (.inl x :: st) D := st_of O hd ⟨rfl, by rw [← hv, ← hq] at k; exact k⟩
theorem st_dup (O : am_ok X own cc nL sh fl kc ro rb cs K) {v : am_V} (hd : decode cc pc = .ok (.dup, 1)) (hq : pc + 1 = q) (k : am_aw X nL sh q ls (v :: v :: st) D) : am_aw X nL sh pc ls (v :: st) D := st_of O hd ⟨rfl, by rw [← hq] at k; exact k⟩
theorem st_pop (O : am_ok X own cc nL sh fl kc ro rb cs K) {v : am_V} (hd : decode cc pc = .ok (.pop, 1)) (hq : pc + 1 = q) (k : am_aw X nL sh q ls st D) : am_aw X nL sh pc ls (v :: st) D := st_of O hd ⟨rfl, by rw [← hq] at k; exact k⟩
theorem st_dup_x1 (O : am_ok X own cc nL sh fl kc ro rb cs K) {v u : am_V} (hd : decode cc pc = .ok (.dup_x1, 1)) (hq : pc + 1 = q) (k : am_aw X nL sh q ls (v :: u :: v :: st) D) : am_aw X nL sh pc ls (v :: u :: st) D := st_of O hd ⟨rfl, by rw [← hq] at k; exact k⟩
theorem st_dup2 (O : am_ok X own cc nL sh fl kc ro rb cs K) {v u : am_V} (hd : decode cc pc = .ok (.dup2, 1)) (hq : pc + 1 = q) (k : am_aw X nL sh q ls (v :: u :: v :: u :: st) D) : am_aw X nL sh pc ls (v :: u :: st) D := st_of O hd ⟨rfl, by rw [← hq] at k; exact k⟩
theorem am_jt {pc t : Nat} {off : Int} {k : Nat → Prop} (ht : (pc : Int) + off = (t : Int)) (h : k t) : am_j pc off k := by
  refine ⟨by rw [ht]; exact Int.natCast_nonneg t, ?_⟩
  rw [ht]
  exact h
theorem st_if_eq (O : am_ok X own cc nL sh fl kc ro rb cs K) {x : Int32} {off : Int} {t : Nat} (hd : decode cc pc = .ok (.ifCond .eq off, 3)) (ht : (pc : Int) + off = (t : Int)) (hq : pc + 3 = q) (kt : x = 0 → am_aw X nL sh t ls st D) (kf : ¬ x = 0 → am_aw X nL sh q ls st D) : am_aw X nL sh pc ls (.inl x :: st) D := by
  refine st_of O hd ⟨rfl, ?_⟩
  show am_j pc off (fun t => am_if .eq x 0 (am_aw X nL sh t ls st D) (am_aw X nL sh (pc + 3) ls st D))
  rw [hq]
  exact am_jt ht ⟨kt, kf⟩
theorem st_icmp_eq (O : am_ok X own cc nL sh fl kc ro rb cs K) {x y : Int32} {off : Int} {t : Nat} (hd : decode cc pc = .ok (.if_icmp .eq off, 3)) (ht : (pc : Int) + off = (t : Int)) (hq : pc + 3 = q) (kt : x = y → am_aw X nL sh t ls st D) (kf : ¬ x = y → am_aw X nL sh q ls st D) : am_aw X nL sh pc ls (.inl y :: .inl x :: st) D := by
  refine st_of O hd ⟨rfl, ?_⟩
  show am_j pc off (fun t => am_if .eq x y (am_aw X nL sh t ls st D) (am_aw X nL sh (pc + 3) ls st D))
  rw [hq]
  exact am_jt ht ⟨kt, kf⟩
theorem sn_icmp_eq (O : am_ok X own cc nL sh fl kc ro rb cs K) {a b : Nat} {off : Int} {t : Nat} (hd : decode cc pc = .ok (.if_icmp .eq off, 3)) (ht : (pc : Int) + off = (t : Int)) (hq : pc + 3 = q) (ha : a < 2 ^ 31) (hb : b < 2 ^ 31) (kt : a = b → am_aw X nL sh t ls st D) (kf : ¬ a = b → am_aw X nL sh q ls st D) : am_aw X nL sh pc ls (.inl (nI b) :: .inl (nI a) :: st) D := st_icmp_eq O hd ht hq (fun h => kt ((nI_eq ha hb).mp h)) (fun h => kf (fun e => h ((nI_eq ha hb).mpr e)))
theorem st_if_ne (O : am_ok X own cc nL sh fl kc ro rb cs K) {x : Int32} {off : Int} {t : Nat} (hd : decode cc pc = .ok (.ifCond .ne off, 3)) (ht : (pc : Int) + off = (t : Int)) (hq : pc + 3 = q) (kt : ¬ x = 0 → am_aw X nL sh t ls st D) (kf : x = 0 → am_aw X nL sh q ls st D) : am_aw X nL sh pc ls (.inl x :: st) D := by
  refine st_of O hd ⟨rfl, ?_⟩
  show am_j pc off (fun t => am_if .ne x 0 (am_aw X nL sh t ls st D) (am_aw X nL sh (pc + 3) ls st D))
  rw [hq]
  exact am_jt ht ⟨kt, kf⟩
theorem st_icmp_ne (O : am_ok X own cc nL sh fl kc ro rb cs K) {x y : Int32} {off : Int} {t : Nat} (hd : decode cc pc = .ok (.if_icmp .ne off, 3)) (ht : (pc : Int) + off = (t : Int)) (hq : pc + 3 = q) (kt : ¬ x = y → am_aw X nL sh t ls st D) (kf : x = y → am_aw X nL sh q ls st D) : am_aw X nL sh pc ls (.inl y :: .inl x :: st) D := by
  refine st_of O hd ⟨rfl, ?_⟩
  show am_j pc off (fun t => am_if .ne x y (am_aw X nL sh t ls st D) (am_aw X nL sh (pc + 3) ls st D))
  rw [hq]
  exact am_jt ht ⟨kt, kf⟩
theorem sn_icmp_ne (O : am_ok X own cc nL sh fl kc ro rb cs K) {a b : Nat} {off : Int} {t : Nat} (hd : decode cc pc = .ok (.if_icmp .ne off, 3)) (ht : (pc : Int) + off = (t : Int)) (hq : pc + 3 = q) (ha : a < 2 ^ 31) (hb : b < 2 ^ 31) (kt : ¬ a = b → am_aw X nL sh t ls st D) (kf : a = b → am_aw X nL sh q ls st D) : am_aw X nL sh pc ls (.inl (nI b) :: .inl (nI a) :: st) D := st_icmp_ne O hd ht hq (fun h => kt (fun e => h ((nI_eq ha hb).mpr e))) (fun h => kf ((nI_eq ha hb).mp h))
theorem st_if_lt (O : am_ok X own cc nL sh fl kc ro rb cs K) {x : Int32} {off : Int} {t : Nat} (hd : decode cc pc = .ok (.ifCond .lt off, 3)) (ht : (pc : Int) + off = (t : Int)) (hq : pc + 3 = q) (kt : x < 0 → am_aw X nL sh t ls st D) (kf : ¬ x < 0 → am_aw X nL sh q ls st D) : am_aw X nL sh pc ls (.inl x :: st) D := by
  refine st_of O hd ⟨rfl, ?_⟩
  show am_j pc off (fun t => am_if .lt x 0 (am_aw X nL sh t ls st D) (am_aw X nL sh (pc + 3) ls st D))
  rw [hq]
  exact am_jt ht ⟨kt, kf⟩
theorem st_icmp_lt (O : am_ok X own cc nL sh fl kc ro rb cs K) {x y : Int32} {off : Int} {t : Nat} (hd : decode cc pc = .ok (.if_icmp .lt off, 3)) (ht : (pc : Int) + off = (t : Int)) (hq : pc + 3 = q) (kt : x < y → am_aw X nL sh t ls st D) (kf : ¬ x < y → am_aw X nL sh q ls st D) : am_aw X nL sh pc ls (.inl y :: .inl x :: st) D := by
  refine st_of O hd ⟨rfl, ?_⟩
  show am_j pc off (fun t => am_if .lt x y (am_aw X nL sh t ls st D) (am_aw X nL sh (pc + 3) ls st D))
  rw [hq]
  exact am_jt ht ⟨kt, kf⟩
theorem sn_icmp_lt (O : am_ok X own cc nL sh fl kc ro rb cs K) {a b : Nat} {off : Int} {t : Nat} (hd : decode cc pc = .ok (.if_icmp .lt off, 3)) (ht : (pc : Int) + off = (t : Int)) (hq : pc + 3 = q) (ha : a < 2 ^ 31) (hb : b < 2 ^ 31) (kt : a < b → am_aw X nL sh t ls st D) (kf : b ≤ a → am_aw X nL sh q ls st D) : am_aw X nL sh pc ls (.inl (nI b) :: .inl (nI a) :: st) D := st_icmp_lt O hd ht hq (fun h => kt ((nI_ltI ha hb).mp h)) (fun h => kf (Nat.le_of_not_lt (fun e => h ((nI_ltI ha hb).mpr e))))
theorem st_if_ge (O : am_ok X own cc nL sh fl kc ro rb cs K) {x : Int32} {off : Int} {t : Nat} (hd : decode cc pc = .ok (.ifCond .ge off, 3)) (ht : (pc : Int) + off = (t : Int)) (hq : pc + 3 = q) (kt : 0 ≤ x → am_aw X nL sh t ls st D) (kf : ¬ 0 ≤ x → am_aw X nL sh q ls st D) : am_aw X nL sh pc ls (.inl x :: st) D := by
  refine st_of O hd ⟨rfl, ?_⟩
  show am_j pc off (fun t => am_if .ge x 0 (am_aw X nL sh t ls st D) (am_aw X nL sh (pc + 3) ls st D))
  rw [hq]
  exact am_jt ht ⟨kt, kf⟩
theorem st_icmp_ge (O : am_ok X own cc nL sh fl kc ro rb cs K) {x y : Int32} {off : Int} {t : Nat} (hd : decode cc pc = .ok (.if_icmp .ge off, 3)) (ht : (pc : Int) + off = (t : Int)) (hq : pc + 3 = q) (kt : y ≤ x → am_aw X nL sh t ls st D) (kf : ¬ y ≤ x → am_aw X nL sh q ls st D) : am_aw X nL sh pc ls (.inl y :: .inl x :: st) D := by
  refine st_of O hd ⟨rfl, ?_⟩
  show am_j pc off (fun t => am_if .ge x y (am_aw X nL sh t ls st D) (am_aw X nL sh (pc + 3) ls st D))
  rw [hq]
  exact am_jt ht ⟨kt, kf⟩
theorem sn_icmp_ge (O : am_ok X own cc nL sh fl kc ro rb cs K) {a b : Nat} {off : Int} {t : Nat} (hd : decode cc pc = .ok (.if_icmp .ge off, 3)) (ht : (pc : Int) + off = (t : Int)) (hq : pc + 3 = q) (ha : a < 2 ^ 31) (hb : b < 2 ^ 31) (kt : b ≤ a → am_aw X nL sh t ls st D) (kf : a < b → am_aw X nL sh q ls st D) : am_aw X nL sh pc ls (.inl (nI b) :: .inl (nI a) :: st) D := st_icmp_ge O hd ht hq (fun h => kt ((nI_leI hb ha).mp h)) (fun h => kf (Nat.lt_of_not_le (fun e => h ((nI_leI hb ha).mpr e))))
theorem st_if_gt (O : am_ok X own cc nL sh fl kc ro rb cs K) {x : Int32} {off : Int} {t : Nat} (hd : decode cc pc = .ok (.ifCond .gt off, 3)) (ht : (pc : Int) + off = (t : Int)) (hq : pc + 3 = q) (kt : 0 < x → am_aw X nL sh t ls st D) (kf : ¬ 0 < x → am_aw X nL sh q ls st D) : am_aw X nL sh pc ls (.inl x :: st) D := by
  refine st_of O hd ⟨rfl, ?_⟩
  show am_j pc off (fun t => am_if .gt x 0 (am_aw X nL sh t ls st D) (am_aw X nL sh (pc + 3) ls st D))
  rw [hq]
  exact am_jt ht ⟨kt, kf⟩
theorem st_icmp_gt (O : am_ok X own cc nL sh fl kc ro rb cs K) {x y : Int32} {off : Int} {t : Nat} (hd : decode cc pc = .ok (.if_icmp .gt off, 3)) (ht : (pc : Int) + off = (t : Int)) (hq : pc + 3 = q) (kt : y < x → am_aw X nL sh t ls st D) (kf : ¬ y < x → am_aw X nL sh q ls st D) : am_aw X nL sh pc ls (.inl y :: .inl x :: st) D := by
  refine st_of O hd ⟨rfl, ?_⟩
  show am_j pc off (fun t => am_if .gt x y (am_aw X nL sh t ls st D) (am_aw X nL sh (pc + 3) ls st D))
  rw [hq]
  exact am_jt ht ⟨kt, kf⟩
theorem sn_icmp_gt (O : am_ok X own cc nL sh fl kc ro rb cs K) {a b : Nat} {off : Int} {t : Nat} (hd : decode cc pc = .ok (.if_icmp .gt off, 3)) (ht : (pc : Int) + off = (t : Int)) (hq : pc + 3 = q) (ha : a < 2 ^ 31) (hb : b < 2 ^ 31) (kt : b < a → am_aw X nL sh t ls st D) (kf : a ≤ b → am_aw X nL sh q ls st D) : am_aw X nL sh pc ls (.inl (nI b) :: .inl (nI a) :: st) D := st_icmp_gt O hd ht hq (fun h => kt ((nI_ltI hb ha).mp h)) (fun h => kf (Nat.le_of_not_lt (fun e => h ((nI_ltI hb ha).mpr e))))
theorem st_if_le (O : am_ok X own cc nL sh fl kc ro rb cs K) {x : Int32} {off : Int} {t : Nat} (hd : decode cc pc = .ok (.ifCond .le off, 3)) (ht : (pc : Int) + off = (t : Int)) (hq : pc + 3 = q) (kt : x ≤ 0 → am_aw X nL sh t ls st D) (kf : ¬ x ≤ 0 → am_aw X nL sh q ls st D) : am_aw X nL sh pc ls (.inl x :: st) D := by
  refine st_of O hd ⟨rfl, ?_⟩
  show am_j pc off (fun t => am_if .le x 0 (am_aw X nL sh t ls st D) (am_aw X nL sh (pc + 3) ls st D))
  rw [hq]
  exact am_jt ht ⟨kt, kf⟩
theorem st_icmp_le (O : am_ok X own cc nL sh fl kc ro rb cs K) {x y : Int32} {off : Int} {t : Nat} (hd : decode cc pc = .ok (.if_icmp .le off, 3)) (ht : (pc : Int) + off = (t : Int)) (hq : pc + 3 = q) (kt : x ≤ y → am_aw X nL sh t ls st D) (kf : ¬ x ≤ y → am_aw X nL sh q ls st D) : am_aw X nL sh pc ls (.inl y :: .inl x :: st) D := by
  refine st_of O hd ⟨rfl, ?_⟩
  show am_j pc off (fun t => am_if .le x y (am_aw X nL sh t ls st D) (am_aw X nL sh (pc + 3) ls st D))
  rw [hq]
  exact am_jt ht ⟨kt, kf⟩
theorem sn_icmp_le (O : am_ok X own cc nL sh fl kc ro rb cs K) {a b : Nat} {off : Int} {t : Nat} (hd : decode cc pc = .ok (.if_icmp .le off, 3)) (ht : (pc : Int) + off = (t : Int)) (hq : pc + 3 = q) (ha : a < 2 ^ 31) (hb : b < 2 ^ 31) (kt : a ≤ b → am_aw X nL sh t ls st D) (kf : b < a → am_aw X nL sh q ls st D) : am_aw X nL sh pc ls (.inl (nI b) :: .inl (nI a) :: st) D := st_icmp_le O hd ht hq (fun h => kt ((nI_leI ha hb).mp h)) (fun h => kf (Nat.lt_of_not_le (fun e => h ((nI_leI ha hb).mpr e))))
theorem sn_if_eq (O : am_ok X own cc nL sh fl kc ro rb cs K) {a : Nat} {off : Int} {t : Nat} (hd : decode cc pc = .ok (.ifCond .eq off, 3)) (ht : (pc : Int) + off = (t : Int)) (hq : pc + 3 = q) (ha : a < 2 ^ 31) (kt : a = 0 → am_aw X nL sh t ls st D) (kf : ¬ a = 0 → am_aw X nL sh q ls st D) : am_aw X nL sh pc ls (.inl (nI a) :: st) D := st_if_eq O hd ht hq (fun h => kt ((nI_lit 0 ha (by decide)).mp h)) (fun h => kf (fun e => h ((nI_lit 0 ha (by decide)).mpr e)))
theorem sn_if_ne (O : am_ok X own cc nL sh fl kc ro rb cs K) {a : Nat} {off : Int} {t : Nat} (hd : decode cc pc = .ok (.ifCond .ne off, 3)) (ht : (pc : Int) + off = (t : Int)) (hq : pc + 3 = q) (ha : a < 2 ^ 31) (kt : ¬ a = 0 → am_aw X nL sh t ls st D) (kf : a = 0 → am_aw X nL sh q ls st D) : am_aw X nL sh pc ls (.inl (nI a) :: st) D := st_if_ne O hd ht hq (fun h => kt (fun e => h ((nI_lit 0 ha (by decide)).mpr e))) (fun h => kf ((nI_lit 0 ha (by decide)).mp h))
theorem sn_if_ge (O : am_ok X own cc nL sh fl kc ro rb cs K) {a : Nat} {off : Int} {t : Nat} (hd : decode cc pc = .ok (.ifCond .ge off, 3)) (ht : (pc : Int) + off = (t : Int)) (hq : pc + 3 = q) (ha : a < 2 ^ 31) (kt : True → am_aw X nL sh t ls st D) (kf : False → am_aw X nL sh q ls st D) : am_aw X nL sh pc ls (.inl (nI a) :: st) D := st_if_ge O hd ht hq (fun _ => kt trivial) (fun h => absurd (nI_pos' ha) h)
theorem sn_if_gt (O : am_ok X own cc nL sh fl kc ro rb cs K) {a : Nat} {off : Int} {t : Nat} (hd : decode cc pc = .ok (.ifCond .gt off, 3)) (ht : (pc : Int) + off = (t : Int)) (hq : pc + 3 = q) (ha : a < 2 ^ 31) (kt : 0 < a → am_aw X nL sh t ls st D) (kf : a = 0 → am_aw X nL sh q ls st D) : am_aw X nL sh pc ls (.inl (nI a) :: st) D := st_if_gt O hd ht hq (fun h => kt ((Nat.eq_zero_or_pos a).elim (fun e => absurd h (by rw [e]; decide)) id)) (fun h => kf ((Nat.eq_zero_or_pos a).elim id (fun e => absurd ((nI_ltI (a := 0) (by decide) ha).mpr e) h)))
theorem sn_if_le (O : am_ok X own cc nL sh fl kc ro rb cs K) {a : Nat} {off : Int} {t : Nat} (hd : decode cc pc = .ok (.ifCond .le off, 3)) (ht : (pc : Int) + off = (t : Int)) (hq : pc + 3 = q) (ha : a < 2 ^ 31) (kt : a = 0 → am_aw X nL sh t ls st D) (kf : 0 < a → am_aw X nL sh q ls st D) : am_aw X nL sh pc ls (.inl (nI a) :: st) D := st_if_le O hd ht hq (fun h => kt ((Nat.eq_zero_or_pos a).elim id (fun e => absurd h (nI_nle e ha)))) (fun h => kf ((Nat.eq_zero_or_pos a).elim (fun e => absurd (show nI a ≤ 0 by rw [e]; decide) h) id))
theorem sn_if_lt (O : am_ok X own cc nL sh fl kc ro rb cs K) {a : Nat} {off : Int} {t : Nat} (hd : decode cc pc = .ok (.ifCond .lt off, 3)) (ht : (pc : Int) + off = (t : Int)) (hq : pc + 3 = q) (ha : a < 2 ^ 31) (kt : False → am_aw X nL sh t ls st D) (kf : True → am_aw X nL sh q ls st D) : am_aw X nL sh pc ls (.inl (nI a) :: st) D := st_if_lt O hd ht hq (fun h => absurd h (nI_pos ha)) (fun _ => kf trivial)
theorem st_goto (O : am_ok X own cc nL sh fl kc ro rb cs K) {off : Int} {t : Nat} (hd : decode cc pc = .ok (.goto off, 3)) (ht : (pc : Int) + off = (t : Int)) (k : am_aw X nL sh t ls st D) : am_aw X nL sh pc ls st D := st_of O hd ⟨rfl, am_jt ht k⟩
theorem st_table (O : am_ok X own cc nL sh fl kc ro rb cs K) {x : Int32} {dflt lo hi : Int} {offs : Array Int} {len : Nat} {os : List Int} (hd : decode cc pc = .ok (.tableswitch dflt lo hi offs, len)) (ho : offs.toList = os) (hl : lo + os.length = hi + 1) (k : am_sw x (am_j pc dflt (fun t => am_aw X nL sh t ls st D)) (am_tb pc (fun t => am_aw X nL sh t ls st D) lo os)) : am_aw X nL sh pc ls (.inl x :: st) D := st_of O hd ⟨by rw [ho]; exact hl, by rw [ho]; exact k⟩
theorem st_lookup (O : am_ok X own cc nL sh fl kc ro rb cs K) {x : Int32} {dflt : Int} {ps : Array (Int × Int)} {len : Nat} {os : List (Int × Int)} (hd : decode cc pc = .ok (.lookupswitch dflt ps, len)) (ho : ps.toList = os) (hl : (os.zip (os.drop 1)).all (fun (a, next) => a.1 < next.1) = true) (k : am_sw x (am_j pc dflt (fun t => am_aw X nL sh t ls st D)) (am_lk os pc (fun t => am_aw X nL sh t ls st D))) : am_aw X nL sh pc ls (.inl x :: st) D := st_of O hd ⟨by rw [ho]; exact hl, by rw [ho]; exact k⟩
theorem sw_nilT {x : Int32} {d : Int} {lo : Int} {t : Nat} {k : Nat → Prop} (ht : (pc : Int) + d = (t : Int)) (h : k t) : am_sw x (am_j pc d k) (am_tb pc k lo []) := am_jt ht h
theorem sw_nilL {x : Int32} {d : Int} {t : Nat} {k : Nat → Prop} (ht : (pc : Int) + d = (t : Int)) (h : k t) : am_sw x (am_j pc d k) (am_lk [] pc k) := am_jt ht h
theorem sw_consT {x v : Int32} {dp : Prop} {lo lo' o : Int} {os : List Int} {t : Nat} {k : Nat → Prop} (hv : v.toInt = lo) (ht : (pc : Int) + o = (t : Int)) (hl : lo + 1 = lo') (h1 : x = v → k t) (h2 : ¬ x = v → am_sw x dp (am_tb pc k lo' os)) : am_sw x dp (am_tb pc k lo (o :: os)) := ⟨fun e => am_jt ht (h1 (Int32.toInt_inj.mp (by rw [hv]; exact e))), fun e => by rw [hl]; exact h2 (fun z => e (by rw [z, hv]))⟩
theorem sw_consL {x v : Int32} {dp : Prop} {a o : Int} {os : List (Int × Int)} {t : Nat} {k : Nat → Prop} (hv : v.toInt = a) (ht : (pc : Int) + o = (t : Int)) (h1 : x = v → k t) (h2 : ¬ x = v → am_sw x dp (am_lk os pc k)) : am_sw x dp (am_lk ((a, o) :: os) pc k) := ⟨fun e => am_jt ht (h1 (Int32.toInt_inj.mp (by rw [hv]; exact e))), fun e => h2 (fun z => e (by rw [z, hv]))⟩
theorem st_geti (O : am_ok X own cc nL sh fl kc ro rb cs K) {ix ci n b p i : Nat} {fs : List (Nat ⊕ Nat)} {xs : List Int32} {v : Int32} (hd : decode cc pc = .ok (.getfield ix, 3)) (hf : fl ix = some (ci, n, b)) (ht : sh[p]? = some (.inr (ci, fs))) (hn : fs[n]? = some (.inl i)) (hD : D[p]? = some (.inl xs)) (hx : xs[i]? = some v) (hq : pc + 3 = q) (k : am_aw X nL sh q ls (.inl v :: st) D) : am_aw X nL sh pc ls (.inr p :: st) D := by
  refine st_of O hd ⟨rfl, ?_⟩
  dsimp only [am_pr]
  rw [hf, ht, hD, hq]
  refine ⟨rfl, ?_⟩
  rw [hn]
  show am_aw X nL sh q ls (.inl (xs.getD i 0) :: st) D
  rw [List.getD_eq_getElem?_getD, hx]
  exact k
theorem st_getr (O : am_ok X own cc nL sh fl kc ro rb cs K) {ix ci n b p z : Nat} {fs : List (Nat ⊕ Nat)} {xs : List Int32} (hd : decode cc pc = .ok (.getfield ix, 3)) (hf : fl ix = some (ci, n, b)) (ht : sh[p]? = some (.inr (ci, fs))) (hn : fs[n]? = some (.inr z)) (hD : D[p]? = some (.inl xs)) (hq : pc + 3 = q) (k : am_aw X nL sh q ls (.inr z :: st) D) : am_aw X nL sh pc ls (.inr p :: st) D := by
  refine st_of O hd ⟨rfl, ?_⟩
  dsimp only [am_pr]
  rw [hf, ht, hD, hq]
  refine ⟨rfl, ?_⟩
  rw [hn]
  exact k
theorem st_puti (O : am_ok X own cc nL sh fl kc ro rb cs K) {ix ci n p i : Nat} {fs : List (Nat ⊕ Nat)} {xs xs' : List Int32} {x : Int32} {D' : am_D} (hd : decode cc pc = .ok (.putfield ix, 3)) (hf : fl ix = some (ci, n, 1)) (ht : sh[p]? = some (.inr (ci, fs))) (hn : fs[n]? = some (.inl i)) (hD : D[p]? = some (.inl xs)) (hx : am_upd xs i x = some xs') (hu : am_upd D p (.inl xs') = some D') (hq : pc + 3 = q) (k : am_aw X nL sh q ls st D') : am_aw X nL sh pc ls (.inl x :: .inr p :: st) D := by
  obtain ⟨h1, h2⟩ := am_upd_eq _ _ _ _ hx
  obtain ⟨h3, h4⟩ := am_upd_eq _ _ _ _ hu
  refine st_of O hd ⟨rfl, ?_⟩
  dsimp only [am_pir]
  rw [hf, ht, hD, hq]
  refine ⟨rfl, ?_⟩
  rw [hn]
  rw [h3, h1] at k
  exact ⟨h2, k⟩
theorem st_putz (O : am_ok X own cc nL sh fl kc ro rb cs K) {ix ci n p i : Nat} {fs : List (Nat ⊕ Nat)} {xs xs' : List Int32} {x : Int32} {D' : am_D} (hd : decode cc pc = .ok (.putfield ix, 3)) (hf : fl ix = some (ci, n, 2)) (ht : sh[p]? = some (.inr (ci, fs))) (hn : fs[n]? = some (.inl i)) (hD : D[p]? = some (.inl xs)) (hx : am_upd xs i x = some xs') (hu : am_upd D p (.inl xs') = some D') (h01 : x = 0 ∨ x = 1) (hq : pc + 3 = q) (k : am_aw X nL sh q ls st D') : am_aw X nL sh pc ls (.inl x :: .inr p :: st) D := by
  obtain ⟨h1, h2⟩ := am_upd_eq _ _ _ _ hx
  obtain ⟨h3, h4⟩ := am_upd_eq _ _ _ _ hu
  refine st_of O hd ⟨rfl, ?_⟩
  dsimp only [am_pir]
  rw [hf, ht, hD, hq]
  refine ⟨rfl, ?_⟩
  rw [hn]
  rw [h3, h1] at k
  exact ⟨h2, h01, k⟩
theorem st_ald (O : am_ok X own cc nL sh fl kc ro rb cs K) {p n : Nat} {f : Nat → Int32} {i v : Int32} (hd : decode cc pc = .ok (.iaload, 1)) (ht : sh[p]? = some (.inl n)) (hD : D[p]? = some (.inr f)) (hi : vp_in i n) (hv : f i.toNatClampNeg = v) (hq : pc + 1 = q) (k : am_aw X nL sh q ls (.inl v :: st) D) : am_aw X nL sh pc ls (.inl i :: .inr p :: st) D := by
  refine st_of O hd ⟨rfl, ?_⟩
  dsimp only [am_pir]
  rw [ht, hD, hq]
  refine ⟨hi, ?_⟩
  rw [hv]
  exact k
theorem sn_ald (O : am_ok X own cc nL sh fl kc ro rb cs K) {p n j : Nat} {f : Nat → Int32} {i v : Int32} (hd : decode cc pc = .ok (.iaload, 1)) (ht : sh[p]? = some (.inl n)) (hD : D[p]? = some (.inr f)) (hi : i = nI j) (hj : j < n ∧ n < 2 ^ 31) (hv : f j = v) (hq : pc + 1 = q) (k : am_aw X nL sh q ls (.inl v :: st) D) : am_aw X nL sh pc ls (.inl i :: .inr p :: st) D := st_ald O hd ht hD (by rw [hi]; exact vp_in_nI hj.1 hj.2) (by rw [hi, nI_clamp (by omega)]; exact hv) hq k
theorem st_ast (O : am_ok X own cc nL sh fl kc ro rb cs K) {p n : Nat} {f g : Nat → Int32} {i x : Int32} {D' : am_D} (hd : decode cc pc = .ok (.iastore, 1)) (ht : sh[p]? = some (.inl n)) (hD : D[p]? = some (.inr f)) (hi : vp_in i n) (hg : upd f i.toNatClampNeg x = g) (hu : am_upd D p (.inr g) = some D') (hq : pc + 1 = q) (k : am_aw X nL sh q ls st D') : am_aw X nL sh pc ls (.inl x :: .inl i :: .inr p :: st) D := by
  obtain ⟨h3, h4⟩ := am_upd_eq _ _ _ _ hu
  refine st_of O hd ⟨rfl, ?_⟩
  dsimp only [am_piir]
  rw [ht, hD, hq]
  refine ⟨hi, ?_⟩
  rw [h3, ← hg] at k
  exact k
theorem sn_ast (O : am_ok X own cc nL sh fl kc ro rb cs K) {p n j : Nat} {f g : Nat → Int32} {i x : Int32} {D' : am_D} (hd : decode cc pc = .ok (.iastore, 1)) (ht : sh[p]? = some (.inl n)) (hD : D[p]? = some (.inr f)) (hi : i = nI j) (hj : j < n ∧ n < 2 ^ 31) (hg : upd f j x = g) (hu : am_upd D p (.inr g) = some D') (hq : pc + 1 = q) (k : am_aw X nL sh q ls st D') : am_aw X nL sh pc ls (.inl x :: .inl i :: .inr p :: st) D := st_ast O hd ht hD (by rw [hi]; exact vp_in_nI hj.1 hj.2) (by rw [hi, nI_clamp (by omega)]; exact hg) hu hq k
theorem st_call (O : am_ok X own cc nL sh fl kc ro rb cs K) {ix : Nat} {f : List am_V → am_D → am_K → Prop} (hd : decode cc pc = .ok (.invokevirtual ix, 3)) (hf : cs pc = f) (hq : pc + 3 = q) (k : f st D (fun st' D' => am_aw X nL sh q ls st' D')) : am_aw X nL sh pc ls st D := st_of O hd ⟨rfl, by rw [hf, hq]; exact k⟩
theorem st_callS (O : am_ok X own cc nL sh fl kc ro rb cs K) {ix : Nat} {f : List am_V → am_D → am_K → Prop} (hd : decode cc pc = .ok (.invokestatic ix, 3)) (hf : cs pc = f) (hq : pc + 3 = q) (k : f st D (fun st' D' => am_aw X nL sh q ls st' D')) : am_aw X nL sh pc ls st D := st_of O hd ⟨rfl, by rw [hf, hq]; exact k⟩
def am_pk (D : am_D) : List Nat → Option am_D
  | [] => some []
  | p :: e => match D[p]?, am_pk D e with
    | some (.inl xs), some r => some (.inl xs :: r)
    | some (.inr f), some r => some (.inr f :: r)
    | _, _ => none
theorem am_pk_eq {D : am_D} : ∀ (e : List Nat) (r : am_D), am_pk D e = some r → r = e.map (fun p => D.getD p (.inl [])) ∧ ∀ (j p : Nat), e[j]? = some p → D[p]? = r[j]?
  | [], r, h => by cases h; exact ⟨rfl, fun j p h => by simp at h⟩
  | p :: e, r, h => by
    unfold am_pk at h
    cases hd : D[p]? with
    | none => rw [hd] at h; cases h
    | some d =>
      cases hr : am_pk D e with
      | none => rw [hd, hr] at h; cases d <;> cases h
      | some r' =>
        have h9 : some (d :: r') = some r := by rw [hd, hr] at h; cases d <;> exact h
        cases h9
        obtain ⟨a1, a2⟩ := am_pk_eq e r' hr
        refine ⟨?_, fun j z hj => ?_⟩
        · rw [List.map_cons, ← a1]
          congr 1
          rw [List.getD_eq_getElem?_getD, hd]
          rfl
        · cases j with
          | zero => cases hj; exact hd
          | succ j => exact a2 j z hj
theorem am_put_self {D : am_D} : ∀ (e : List Nat) (r : am_D), (∀ (j p : Nat), e[j]? = some p → D[p]? = r[j]?) → am_put e r D = D
  | [], _, _ => rfl
  | p :: e, [], h => rfl
  | p :: e, d :: r, h => by
    have h0 : D[p]? = some d := h 0 p rfl
    have e1 : D.set p d = D := by
      apply List.ext_getElem?
      intro k
      by_cases hk : p = k
      · subst hk
        rw [List.getElem?_set_self (List.getElem?_eq_some_iff.mp h0).1, h0]
      · rw [List.getElem?_set_ne hk]
    show am_put e r (D.set p d) = D
    rw [e1]
    exact am_put_self e r (fun j z hj => h (j + 1) z hj)
/-- a call's own: the numbers given, the world cut out, the stack behind -/
theorem am_si {n : Nat} {pat : List (Option Nat)} {T : am_TT} {e fe : List Nat} {k : am_K} {as rest : List am_V} {is : List Int32} {D0 : am_D} (ha : am_fzs (st.take n).reverse = some as) (hag : am_ag fe pat as = some is) (hr : am_fzs (st.drop n) = some rest) (h8 : rest.length ≤ 8) (hp : am_pk D e = some D0) (hT : T is D0 (fun rs d => k (rs.map .inl ++ rest) (am_put e d D))) : am_site n pat T e fe st D k := by
  rw [am_fzs_eq _ _ ha] at hag
  rw [am_fzs_eq _ _ hr] at hT h8
  rw [(am_pk_eq e D0 hp).1] at hT
  unfold am_site
  rw [hag]
  exact ⟨h8, hT⟩
theorem am_sip {n : Nat} {pat : List (Option Nat)} {F : List Int32 → am_D → Int32 → Prop} {e fe : List Nat} {k : am_K} {as rest : List am_V} {is : List Int32} {D0 : am_D} {r : Int32} (ha : am_fzs (st.take n).reverse = some as) (hag : am_ag fe pat as = some is) (hr : am_fzs (st.drop n) = some rest) (h8 : rest.length ≤ 8) (hp : am_pk D e = some D0) (hF : F is D0 r) (hk : k (.inl r :: rest) D) : am_site n pat (am_pure F) e fe st D k := by
  refine am_si ha hag hr h8 hp ⟨r, hF, ?_⟩
  show k (.inl r :: rest) (am_put e D0 D)
  rw [am_put_self e D0 (am_pk_eq e D0 hp).2]
  exact hk
theorem st_ireturn (O : am_ok X own cc nL sh fl kc ro 1 cs K) {v : Int32} (hd : decode cc pc = .ok (.ireturn, 1)) (k : K [v] D) : am_aw X nL sh pc ls [.inl v] D := st_of O hd ⟨rfl, k⟩
theorem st_zreturn (O : am_ok X own cc nL sh fl kc ro 2 cs K) {v : Int32} (hd : decode cc pc = .ok (.ireturn, 1)) (h01 : v = 0 ∨ v = 1) (k : K [v] D) : am_aw X nL sh pc ls [.inl v] D := st_of O hd ⟨rfl, h01, k⟩
theorem st_vreturn (O : am_ok X own cc nL sh fl kc ro 0 cs K) (hd : decode cc pc = .ok (.return_, 1)) (k : K [] D) : am_aw X nL sh pc ls [] D := st_of O hd ⟨rfl, rfl, k⟩
end ST
def am_fzl : am_L → Option am_L
  | [] => some []
  | none :: l => match am_fzl l with
    | some r => some (none :: r)
    | none => none
  | some (.inl x) :: l => match am_fzl l with
    | some r => some (some (.inl x) :: r)
    | none => none
  | some (.inr x) :: l => match am_fzl l with
    | some r => some (some (.inr x) :: r)
    | none => none
theorem am_fzl_eq : ∀ (l r : am_L), am_fzl l = some r → r = l
  | [], r, h => by cases h; rfl
  | none :: l, r, h => by
    unfold am_fzl at h
    cases hu : am_fzl l with
    | none => rw [hu] at h; cases h
    | some r' => rw [hu] at h; cases h; rw [am_fzl_eq l r' hu]
  | some (.inl x) :: l, r, h => by
    unfold am_fzl at h
    cases hu : am_fzl l with
    | none => rw [hu] at h; cases h
    | some r' => rw [hu] at h; cases h; rw [am_fzl_eq l r' hu]
  | some (.inr x) :: l, r, h => by
    unfold am_fzl at h
    cases hu : am_fzl l with
    | none => rw [hu] at h; cases h
    | some r' => rw [hu] at h; cases h; rw [am_fzl_eq l r' hu]
theorem am_begin {X : am_X} {nL pc : Nat} {sh : am_S} {ls ls' : am_L} {st : List am_V} {D : am_D} (h : am_fzl ls = some ls') (k : am_aw X nL sh pc ls' st D) : am_aw X nL sh pc ls st D := by rw [am_fzl_eq _ _ h] at k; exact k
theorem am_iim {a : Nat} (h : 0 < a) : nI a + Int32.ofInt (-1) = nI (a - 1) := sb_m1 h
theorem am_ii1 (a : Nat) : nI a + Int32.ofInt 1 = nI (a + 1) := nI_1 a
theorem am_bipush_m9 : (Int8.ofInt (-9)).toInt32 = (-9 : Int32) := by decide
theorem am_bipush_m6 : (Int8.ofInt (-6)).toInt32 = (-6 : Int32) := by decide
theorem am_bipush_m4 : (Int8.ofInt (-4)).toInt32 = (-4 : Int32) := by decide
theorem am_bipush_m3 : (Int8.ofInt (-3)).toInt32 = (-3 : Int32) := by decide
theorem am_bipush_m2 : (Int8.ofInt (-2)).toInt32 = (-2 : Int32) := by decide
theorem am_bipush_6 : (Int8.ofInt 6).toInt32 = nI 6 := by decide
theorem am_bipush_7 : (Int8.ofInt 7).toInt32 = nI 7 := by decide
theorem am_bipush_8 : (Int8.ofInt 8).toInt32 = nI 8 := by decide
theorem am_bipush_9 : (Int8.ofInt 9).toInt32 = nI 9 := by decide
theorem am_bipush_10 : (Int8.ofInt 10).toInt32 = nI 10 := by decide
theorem am_bipush_11 : (Int8.ofInt 11).toInt32 = nI 11 := by decide
theorem am_bipush_12 : (Int8.ofInt 12).toInt32 = nI 12 := by decide
theorem am_bipush_16 : (Int8.ofInt 16).toInt32 = nI 16 := by decide
theorem am_bipush_17 : (Int8.ofInt 17).toInt32 = nI 17 := by decide
theorem am_bipush_18 : (Int8.ofInt 18).toInt32 = nI 18 := by decide
theorem am_bipush_20 : (Int8.ofInt 20).toInt32 = nI 20 := by decide
theorem am_bipush_27 : (Int8.ofInt 27).toInt32 = nI 27 := by decide
theorem am_bipush_36 : (Int8.ofInt 36).toInt32 = nI 36 := by decide
theorem am_bipush_45 : (Int8.ofInt 45).toInt32 = nI 45 := by decide
theorem am_bipush_46 : (Int8.ofInt 46).toInt32 = nI 46 := by decide
theorem am_bipush_47 : (Int8.ofInt 47).toInt32 = nI 47 := by decide
theorem am_bipush_48 : (Int8.ofInt 48).toInt32 = nI 48 := by decide
theorem am_bipush_57 : (Int8.ofInt 57).toInt32 = nI 57 := by decide
theorem am_bipush_59 : (Int8.ofInt 59).toInt32 = nI 59 := by decide
theorem am_bipush_63 : (Int8.ofInt 63).toInt32 = nI 63 := by decide
theorem am_bipush_96 : (Int8.ofInt 96).toInt32 = nI 96 := by decide
theorem am_bipush_98 : (Int8.ofInt 98).toInt32 = nI 98 := by decide
theorem am_bipush_99 : (Int8.ofInt 99).toInt32 = nI 99 := by decide
theorem am_bipush_102 : (Int8.ofInt 102).toInt32 = nI 102 := by decide
theorem am_bipush_111 : (Int8.ofInt 111).toInt32 = nI 111 := by decide
theorem am_bipush_119 : (Int8.ofInt 119).toInt32 = nI 119 := by decide
theorem am_bipush_120 : (Int8.ofInt 120).toInt32 = nI 120 := by decide
theorem am_iconst_m1 : Int32.ofInt (-1) = (-1 : Int32) := by decide
theorem am_iconst_0 : Int32.ofInt 0 = nI 0 := by decide
theorem am_iconst_1 : Int32.ofInt 1 = nI 1 := by decide
theorem am_iconst_2 : Int32.ofInt 2 = nI 2 := by decide
theorem am_iconst_3 : Int32.ofInt 3 = nI 3 := by decide
theorem am_iconst_4 : Int32.ofInt 4 = nI 4 := by decide
theorem am_iconst_5 : Int32.ofInt 5 = nI 5 := by decide
theorem am_sipush_m2000 : (Int16.ofInt (-2000)).toInt32 = (-2000 : Int32) := by decide
theorem am_sipush_m1000 : (Int16.ofInt (-1000)).toInt32 = (-1000 : Int32) := by decide
theorem am_sipush_255 : (Int16.ofInt 255).toInt32 = nI 255 := by decide
theorem am_sipush_256 : (Int16.ofInt 256).toInt32 = nI 256 := by decide
theorem am_sipush_1023 : (Int16.ofInt 1023).toInt32 = nI 1023 := by decide
abbrev sh_None : am_S := []
abbrev sh_Road : am_S := [.inr (3, [.inl 0, .inl 1, .inl 2, .inr 1, .inr 2, .inr 3, .inr 4, .inr 5]), .inl 9, .inl 9, .inl 9, .inl 9, .inl 9]
abbrev sh_RR : am_S := [.inr (3, [.inl 0, .inl 1, .inl 2, .inr 1, .inr 2, .inr 3, .inr 4, .inr 5]), .inl 9, .inl 9, .inl 9, .inl 9, .inl 9, .inr (3, [.inl 0, .inl 1, .inl 2, .inr 7, .inr 8, .inr 9, .inr 10, .inr 11]), .inl 9, .inl 9, .inl 9, .inl 9, .inl 9]
abbrev sh_Pas : am_S := [.inr (2, [.inr 1, .inr 2, .inr 3, .inl 0, .inl 1, .inr 4, .inr 5, .inl 2, .inl 3, .inl 4, .inl 5, .inl 6, .inl 7, .inl 8]), .inl 9, .inl 9, .inl 9, .inl 9, .inl 9]
abbrev sh_PR : am_S := [.inr (2, [.inr 1, .inr 2, .inr 3, .inl 0, .inl 1, .inr 4, .inr 5, .inl 2, .inl 3, .inl 4, .inl 5, .inl 6, .inl 7, .inl 8]), .inl 9, .inl 9, .inl 9, .inl 9, .inl 9, .inr (3, [.inl 0, .inl 1, .inl 2, .inr 7, .inr 8, .inr 9, .inr 10, .inr 11]), .inl 9, .inl 9, .inl 9, .inl 9, .inl 9]
abbrev sh_Txt : am_S := [.inr (4, [.inl 0, .inr 1]), .inl 96]
abbrev sh_TR : am_S := [.inr (4, [.inl 0, .inr 1]), .inl 96, .inr (3, [.inl 0, .inl 1, .inl 2, .inr 3, .inr 4, .inr 5, .inr 6, .inr 7]), .inl 9, .inl 9, .inl 9, .inl 9, .inl 9]
abbrev sh_TRR : am_S := [.inr (4, [.inl 0, .inr 1]), .inl 96, .inr (3, [.inl 0, .inl 1, .inl 2, .inr 3, .inr 4, .inr 5, .inr 6, .inr 7]), .inl 9, .inl 9, .inl 9, .inl 9, .inl 9, .inr (3, [.inl 0, .inl 1, .inl 2, .inr 9, .inr 10, .inr 11, .inr 12, .inr 13]), .inl 9, .inl 9, .inl 9, .inl 9, .inl 9]
abbrev sh_Mod : am_S := [.inr (6, [.inl 0, .inr 1, .inr 2, .inr 3, .inr 4, .inr 5, .inl 1, .inl 2, .inl 3, .inr 6, .inl 4, .inr 7, .inl 5, .inr 8, .inr 9, .inl 6, .inr 10, .inr 11, .inr 12, .inl 7, .inr 13, .inr 14, .inr 15, .inl 8, .inl 9, .inl 10, .inl 11]), .inl 9, .inl 9, .inl 9, .inl 9, .inl 9, .inl 96, .inl 8, .inl 12, .inl 7, .inl 48, .inl 48, .inl 48, .inl 9, .inl 9, .inl 9]
abbrev sh_R1 : am_S := [.inr (3, [.inl 0, .inl 1, .inl 2, .inr 1, .inr 2, .inr 3, .inr 4, .inr 5])]
end
section
/-! the numbers of kinds; Kinds; Road's smallest -/
def sc (k : Nat) : Nat := if k = 2 then 1 else if k = 3 then 3 else if k = 4 then 4 else 2
def lt (k f b : Nat) : Nat := if k = 1 then f else if k = 2 then b - 1 else if k = 3 then 0 else if k = 5 then 1 else b
def cs_X2_secondsOf : Nat → List am_V → am_D → am_K → Prop := am_cs []
theorem ck_X2_secondsOf : ∀ X : am_X, am_cx X RX2 cX2_secondsOf 1 0 0 → ∀ pc, am_csok X 1 sh_None pc (cs_X2_secondsOf pc) := fun X hX => am_cs_ok (fun _ h => absurd h List.not_mem_nil)
abbrev ok_X2_secondsOf (X : am_X) (K : List Int32 → am_D → Prop) : Prop := am_ok X RX2 cX2_secondsOf 1 sh_None fl_X2 kc_X2 none 1 cs_X2_secondsOf K
abbrev aw_X2_secondsOf (X : am_X) (pc : Nat) (ls : am_L) (st : List am_V) (D : am_D) : Prop := am_aw X 1 sh_None pc ls st D
abbrev T_X2_secondsOf : am_TT := am_pure (fun is _ r => ∃ k, k < 6 ∧ is = [nI k] ∧ r = nI (sc k))
theorem B_X2_secondsOf : ∀ (X : am_X) (is : List Int32) (D : am_D) (K : List Int32 → am_D → Prop), ok_X2_secondsOf X K → T_X2_secondsOf is D K → is.length = (List.filter Option.isNone ([none] : List (Option Nat))).length → D.length = sh_None.length → am_aw X 1 sh_None 0 (am_l0 1 [none] is) [] D := by
  intro X is D K O hT _ _
  obtain ⟨r, ⟨k, hk, rfl, rfl⟩, hK⟩ := hT
  have e2 := nI_lit (k := k) 2 (by omega) (by decide)
  have e3 := nI_lit (k := k) 3 (by omega) (by decide)
  have e4 := nI_lit (k := k) 4 (by omega) (by decide)
  refine am_begin rfl ?_
  refine st_iloadn O dX2_secondsOf_0 rfl (q := 1) rfl ?_
  refine st_table O dX2_secondsOf_1 (os := [27, 29, 31]) rfl rfl ?_
  refine sw_consT (v := 2) (by decide) (t := 28) rfl (lo' := 3) rfl (fun c1_2 => ?_) (fun c1_2 => ?_)
  · refine st_iconst O dX2_secondsOf_28 am_iconst_1 (q := 29) rfl ?_
    refine st_ireturn O dX2_secondsOf_29 ?_
    simp only [e2, e3, e4] at *; simp only [sc, *, if_true, if_false] at hK; exact hK
  refine sw_consT (v := 3) (by decide) (t := 30) rfl (lo' := 4) rfl (fun c1_3 => ?_) (fun c1_3 => ?_)
  · refine st_iconst O dX2_secondsOf_30 am_iconst_3 (q := 31) rfl ?_
    refine st_ireturn O dX2_secondsOf_31 ?_
    simp only [e2, e3, e4] at *; simp only [sc, *, if_true, if_false] at hK; exact hK
  refine sw_consT (v := 4) (by decide) (t := 32) rfl (lo' := 5) rfl (fun c1_4 => ?_) (fun c1_4 => ?_)
  · refine st_iconst O dX2_secondsOf_32 am_iconst_4 (q := 33) rfl ?_
    refine st_ireturn O dX2_secondsOf_33 ?_
    simp only [e2, e3, e4] at *; simp only [sc, *, if_true, if_false] at hK; exact hK
  refine sw_nilT (t := 34) rfl ?_
  refine st_iconst O dX2_secondsOf_34 am_iconst_2 (q := 35) rfl ?_
  refine st_ireturn O dX2_secondsOf_35 ?_
  simp only [e2, e3, e4] at *; simp only [sc, *, if_true, if_false] at hK; exact hK
theorem C_X2_secondsOf : am_ctr yX2_secondsOf cX2_secondsOf 1 (some .int) 0 0 sh_None [none] T_X2_secondsOf := am_mk (by decide) (Or.inr (Or.inl ⟨rfl, rfl⟩)) (by decide) (by decide) (by decide) fl_X2_ok kc_X2_ok ck_X2_secondsOf B_X2_secondsOf
def cs_X2_isPushing : Nat → List am_V → am_D → am_K → Prop := am_cs []
theorem ck_X2_isPushing : ∀ X : am_X, am_cx X RX2 cX2_isPushing 1 0 0 → ∀ pc, am_csok X 1 sh_None pc (cs_X2_isPushing pc) := fun X hX => am_cs_ok (fun _ h => absurd h List.not_mem_nil)
abbrev ok_X2_isPushing (X : am_X) (K : List Int32 → am_D → Prop) : Prop := am_ok X RX2 cX2_isPushing 1 sh_None fl_X2 kc_X2 none 2 cs_X2_isPushing K
abbrev aw_X2_isPushing (X : am_X) (pc : Nat) (ls : am_L) (st : List am_V) (D : am_D) : Prop := am_aw X 1 sh_None pc ls st D
abbrev T_X2_isPushing : am_TT := am_pure (fun is _ r => ∃ k, k < 6 ∧ is = [nI k] ∧ r = if k = 2 then 1 else 0)
theorem B_X2_isPushing : ∀ (X : am_X) (is : List Int32) (D : am_D) (K : List Int32 → am_D → Prop), ok_X2_isPushing X K → T_X2_isPushing is D K → is.length = (List.filter Option.isNone ([none] : List (Option Nat))).length → D.length = sh_None.length → am_aw X 1 sh_None 0 (am_l0 1 [none] is) [] D := by
  intro X is D K O hT _ _
  obtain ⟨r, ⟨k, hk, rfl, rfl⟩, hK⟩ := hT
  refine am_begin rfl ?_
  refine st_iloadn O dX2_isPushing_0 rfl (q := 1) rfl ?_
  refine st_iconst O dX2_isPushing_1 am_iconst_2 (q := 2) rfl ?_
  refine sn_icmp_ne O dX2_isPushing_2 (t := 9) rfl (q := 5) rfl (by omega) (by omega) (fun c2 => ?_) (fun c2 => ?_)
  · refine st_iconst O dX2_isPushing_9 am_iconst_0 (q := 10) rfl ?_
    refine st_zreturn O dX2_isPushing_10 (by first | exact Or.inl rfl | exact Or.inr rfl | assumption) ?_
    first | (rw [if_pos (by omega)] at hK; exact hK) | (rw [if_neg (by omega)] at hK; exact hK)
  refine st_iconst O dX2_isPushing_5 am_iconst_1 (q := 6) rfl ?_
  refine st_goto O dX2_isPushing_6 (t := 10) rfl ?_
  refine st_zreturn O dX2_isPushing_10 (by first | exact Or.inl rfl | exact Or.inr rfl | assumption) ?_
  first | (rw [if_pos (by omega)] at hK; exact hK) | (rw [if_neg (by omega)] at hK; exact hK)
theorem C_X2_isPushing : am_ctr yX2_isPushing cX2_isPushing 1 (some .boolean) 0 0 sh_None [none] T_X2_isPushing := am_mk (by decide) (Or.inr (Or.inr ⟨rfl, rfl⟩)) (by decide) (by decide) (by decide) fl_X2_ok kc_X2_ok ck_X2_isPushing B_X2_isPushing
def cs_X2_lettingIn : Nat → List am_V → am_D → am_K → Prop := am_cs []
theorem ck_X2_lettingIn : ∀ X : am_X, am_cx X RX2 cX2_lettingIn 3 0 0 → ∀ pc, am_csok X 3 sh_None pc (cs_X2_lettingIn pc) := fun X hX => am_cs_ok (fun _ h => absurd h List.not_mem_nil)
abbrev ok_X2_lettingIn (X : am_X) (K : List Int32 → am_D → Prop) : Prop := am_ok X RX2 cX2_lettingIn 3 sh_None fl_X2 kc_X2 none 1 cs_X2_lettingIn K
abbrev aw_X2_lettingIn (X : am_X) (pc : Nat) (ls : am_L) (st : List am_V) (D : am_D) : Prop := am_aw X 3 sh_None pc ls st D
abbrev T_X2_lettingIn : am_TT := am_pure (fun is _ r => ∃ k f b, k < 6 ∧ b ≤ 2 ∧ is = [nI k, nI f, nI b] ∧ r = nI (lt k f b))
theorem B_X2_lettingIn : ∀ (X : am_X) (is : List Int32) (D : am_D) (K : List Int32 → am_D → Prop), ok_X2_lettingIn X K → T_X2_lettingIn is D K → is.length = (List.filter Option.isNone ([none, none, none] : List (Option Nat))).length → D.length = sh_None.length → am_aw X 3 sh_None 0 (am_l0 3 [none, none, none] is) [] D := by
  intro X is D K O hT _ _
  obtain ⟨r, ⟨k, f, b, hk, hb, rfl, rfl⟩, hK⟩ := hT
  have e1 := nI_lit (k := k) 1 (by omega) (by decide)
  have e2 := nI_lit (k := k) 2 (by omega) (by decide)
  have e3 := nI_lit (k := k) 3 (by omega) (by decide)
  have e4 := nI_lit (k := k) 4 (by omega) (by decide)
  have e5 := nI_lit (k := k) 5 (by omega) (by decide)
  refine am_begin rfl ?_
  refine st_iloadn O dX2_lettingIn_0 rfl (q := 1) rfl ?_
  refine st_table O dX2_lettingIn_1 (os := [35, 37, 49, 53, 51]) rfl rfl ?_
  refine sw_consT (v := 1) (by decide) (t := 36) rfl (lo' := 2) rfl (fun c1_1 => ?_) (fun c1_1 => ?_)
  · refine st_iloadn O dX2_lettingIn_36 rfl (q := 37) rfl ?_
    refine st_ireturn O dX2_lettingIn_37 ?_
    simp only [e1] at c1_1; simp only [lt, c1_1, if_true] at hK; exact hK
  refine sw_consT (v := 2) (by decide) (t := 38) rfl (lo' := 3) rfl (fun c1_2 => ?_) (fun c1_2 => ?_)
  · refine st_iloadn O dX2_lettingIn_38 rfl (q := 39) rfl ?_
    refine sn_if_le O dX2_lettingIn_39 (t := 48) rfl (q := 42) rfl (by omega) (fun c39 => ?_) (fun c39 => ?_)
    · refine st_iconst O dX2_lettingIn_48 am_iconst_0 (q := 49) rfl ?_
      refine st_ireturn O dX2_lettingIn_49 ?_
      simp only [e1] at c1_1; simp only [e2] at c1_2; simp only [lt, c1_2] at hK; first | exact hK | (rw [show b = 0 from c39] at hK; exact hK)
    refine st_iloadn O dX2_lettingIn_42 rfl (q := 43) rfl ?_
    refine st_iconst O dX2_lettingIn_43 am_iconst_1 (q := 44) rfl ?_
    refine st_isub O dX2_lettingIn_44 (by first | exact pk_sub (by omega) | exact rfl) (q := 45) rfl ?_
    refine st_goto O dX2_lettingIn_45 (t := 49) rfl ?_
    refine st_ireturn O dX2_lettingIn_49 ?_
    simp only [e1] at c1_1; simp only [e2] at c1_2; simp only [lt, c1_2] at hK; first | exact hK | (rw [show b = 0 from c39] at hK; exact hK)
  refine sw_consT (v := 3) (by decide) (t := 50) rfl (lo' := 4) rfl (fun c1_3 => ?_) (fun c1_3 => ?_)
  · refine st_iconst O dX2_lettingIn_50 am_iconst_0 (q := 51) rfl ?_
    refine st_ireturn O dX2_lettingIn_51 ?_
    simp only [e3] at c1_3; simp only [lt, c1_3] at hK; exact hK
  refine sw_consT (v := 4) (by decide) (t := 54) rfl (lo' := 5) rfl (fun c1_4 => ?_) (fun c1_4 => ?_)
  · refine st_iloadn O dX2_lettingIn_54 rfl (q := 55) rfl ?_
    refine st_ireturn O dX2_lettingIn_55 ?_
    rw [show lt k f b = b by simp only [e1, e2, e3, e4, e5] at *; unfold lt; rw [if_neg (by omega), if_neg (by omega), if_neg (by omega), if_neg (by omega)]] at hK; exact hK
  refine sw_consT (v := 5) (by decide) (t := 52) rfl (lo' := 6) rfl (fun c1_5 => ?_) (fun c1_5 => ?_)
  · refine st_iconst O dX2_lettingIn_52 am_iconst_1 (q := 53) rfl ?_
    refine st_ireturn O dX2_lettingIn_53 ?_
    simp only [e5] at c1_5; simp only [lt, c1_5] at hK; exact hK
  refine sw_nilT (t := 54) rfl ?_
  refine st_iloadn O dX2_lettingIn_54 rfl (q := 55) rfl ?_
  refine st_ireturn O dX2_lettingIn_55 ?_
  rw [show lt k f b = b by simp only [e1, e2, e3, e4, e5] at *; unfold lt; rw [if_neg (by omega), if_neg (by omega), if_neg (by omega), if_neg (by omega)]] at hK; exact hK
theorem C_X2_lettingIn : am_ctr yX2_lettingIn cX2_lettingIn 3 (some .int) 0 0 sh_None [none, none, none] T_X2_lettingIn := am_mk (by decide) (Or.inr (Or.inl ⟨rfl, rfl⟩)) (by decide) (by decide) (by decide) fl_X2_ok kc_X2_ok ck_X2_lettingIn B_X2_lettingIn
/-- a road's cells: n cars, board, wave, what each car is, the line -/
def rA (n b w : Nat) (kd fg la hu : Nat → Nat) (li : List Nat) (D : am_D) : Prop := ∃ k f l h i : Nat → Int32, D = [.inl [nI n, nI b, nI w], .inr k, .inr f, .inr l, .inr h, .inr i] ∧ n ≤ 9 ∧ b ≤ 2 ∧ w ≤ 9 ∧ (∀ j, j < n → (k j = nI (kd j) ∧ kd j < 6) ∧ (f j = nI (fg j) ∧ fg j < 10) ∧ (l j = nI (la j) ∧ la j < 2) ∧ (h j = nI (hu j) ∧ hu j ≤ 20)) ∧ li.Perm (List.range n) ∧ ∀ j, j < n → i j = nI (li.getD j 0)
theorem has_iff {n : Nat} (hn : n ≤ 9) (x : Int32) : (0 ≤ x ∧ x < nI n) ↔ ∃ j, j < n ∧ x = nI j := by
  constructor
  · intro h
    have h0 : ¬ x < 0 := Int32.not_lt.mpr h.1
    obtain ⟨j, hj, rfl⟩ := nI_of h0
    exact ⟨j, (nI_ltI hj (by omega)).mp h.2, rfl⟩
  · rintro ⟨j, hj, rfl⟩
    exact ⟨nI_pos' (by omega), (nI_ltI (by omega) (by omega)).mpr hj⟩
def cs_X4_has : Nat → List am_V → am_D → am_K → Prop := am_cs []
theorem ck_X4_has : ∀ X : am_X, am_cx X RX4 cX4_has 2 0 0 → ∀ pc, am_csok X 2 sh_R1 pc (cs_X4_has pc) := fun X hX => am_cs_ok (fun _ h => absurd h List.not_mem_nil)
abbrev ok_X4_has (X : am_X) (K : List Int32 → am_D → Prop) : Prop := am_ok X RX4 cX4_has 2 sh_R1 fl_X4 kc_X4 none 2 cs_X4_has K
abbrev aw_X4_has (X : am_X) (pc : Nat) (ls : am_L) (st : List am_V) (D : am_D) : Prop := am_aw X 2 sh_R1 pc ls st D
abbrev T_X4_has : am_TT := am_pure (fun is D r => ∃ x n xs, n ≤ 9 ∧ is = [x] ∧ D = [.inl (nI n :: xs)] ∧ (((∃ j, j < n ∧ x = nI j) ∧ r = 1) ∨ ((¬ ∃ j, j < n ∧ x = nI j) ∧ r = 0)))
theorem B_X4_has : ∀ (X : am_X) (is : List Int32) (D : am_D) (K : List Int32 → am_D → Prop), ok_X4_has X K → T_X4_has is D K → is.length = (List.filter Option.isNone ([some 0, none] : List (Option Nat))).length → D.length = sh_R1.length → am_aw X 2 sh_R1 0 (am_l0 2 [some 0, none] is) [] D := by
  intro X is D K O hT _ _
  obtain ⟨r, ⟨x, n, xs, hn, rfl, rfl, hr⟩, hK⟩ := hT
  rw [← has_iff hn] at hr
  rcases hr with ⟨hx, rfl⟩ | ⟨hx, rfl⟩
  · refine am_begin rfl ?_
    refine st_iloadn O dX4_has_0 rfl (q := 1) rfl ?_
    refine st_if_lt O dX4_has_1 (t := 16) rfl (q := 4) rfl (fun c1 => ?_) (fun c1 => ?_)
    · exact absurd c1 (Int32.not_lt.mpr hx.1)
    refine st_iloadn O dX4_has_4 rfl (q := 5) rfl ?_
    refine st_aloadn O dX4_has_5 rfl (q := 6) rfl ?_
    refine st_geti O dX4_has_6 fl_X4_9 rfl rfl rfl rfl (q := 9) rfl ?_
    refine st_icmp_ge O dX4_has_9 (t := 16) rfl (q := 12) rfl (fun c9 => ?_) (fun c9 => ?_)
    · exact absurd hx.2 (Int32.not_lt.mpr c9)
    refine st_iconst O dX4_has_12 am_iconst_1 (q := 13) rfl ?_
    refine st_goto O dX4_has_13 (t := 17) rfl ?_
    refine st_zreturn O dX4_has_17 (by first | exact Or.inl rfl | exact Or.inr rfl | assumption) ?_
    exact hK
  · refine am_begin rfl ?_
    refine st_iloadn O dX4_has_0 rfl (q := 1) rfl ?_
    refine st_if_lt O dX4_has_1 (t := 16) rfl (q := 4) rfl (fun c1 => ?_) (fun c1 => ?_)
    · refine st_iconst O dX4_has_16 am_iconst_0 (q := 17) rfl ?_
      refine st_zreturn O dX4_has_17 (by first | exact Or.inl rfl | exact Or.inr rfl | assumption) ?_
      exact hK
    refine st_iloadn O dX4_has_4 rfl (q := 5) rfl ?_
    refine st_aloadn O dX4_has_5 rfl (q := 6) rfl ?_
    refine st_geti O dX4_has_6 fl_X4_9 rfl rfl rfl rfl (q := 9) rfl ?_
    refine st_icmp_ge O dX4_has_9 (t := 16) rfl (q := 12) rfl (fun c9 => ?_) (fun c9 => ?_)
    · refine st_iconst O dX4_has_16 am_iconst_0 (q := 17) rfl ?_
      refine st_zreturn O dX4_has_17 (by first | exact Or.inl rfl | exact Or.inr rfl | assumption) ?_
      exact hK
    exact absurd ⟨Int32.not_lt.mp c1, Int32.not_le.mp c9⟩ hx
theorem C_X4_has : am_ctr yX4_has cX4_has 2 (some .boolean) 0 0 sh_R1 [some 0, none] T_X4_has := am_mk (by decide) (Or.inr (Or.inr ⟨rfl, rfl⟩)) (by decide) (by decide) (by decide) fl_X4_ok kc_X4_ok ck_X4_has B_X4_has
end
section
/-! the line of a road as a list -/
theorem pl_len {li : List Nat} {n : Nat} (hp : li.Perm (List.range n)) : li.length = n := by
  have := hp.length_eq
  rwa [List.length_range] at this
theorem pl_mem {li : List Nat} {n : Nat} (hp : li.Perm (List.range n)) {c : Nat} : c ∈ li ↔ c < n := by rw [hp.mem_iff, List.mem_range]
theorem pl_gm {li : List Nat} {j : Nat} (h : j < li.length) : li.getD j 0 ∈ li := by
  rw [List.getD_eq_getElem?_getD, List.getElem?_eq_getElem h]
  exact List.getElem_mem h
theorem pl_get {li : List Nat} {n : Nat} (hp : li.Perm (List.range n)) {j : Nat} (h : j < n) : li.getD j 0 < n := (pl_mem hp).mp (pl_gm (by rw [pl_len hp]; exact h))
theorem pl_nd {li : List Nat} {n : Nat} (hp : li.Perm (List.range n)) : li.Nodup := hp.nodup_iff.mpr List.nodup_range
theorem pl_idx {li : List Nat} {n : Nat} (hp : li.Perm (List.range n)) {c : Nat} (h : c < n) : li.idxOf c < n := by
  have := List.idxOf_lt_length_of_mem ((pl_mem hp).mpr h)
  rwa [pl_len hp] at this
theorem pl_at {li : List Nat} {n : Nat} (hp : li.Perm (List.range n)) {c : Nat} (h : c < n) : li.getD (li.idxOf c) 0 = c := by
  have hl := List.idxOf_lt_length_of_mem ((pl_mem hp).mpr h)
  rw [List.getD_eq_getElem?_getD, List.getElem?_eq_getElem hl]
  exact List.getElem_idxOf hl
theorem pl_inj {li : List Nat} {n : Nat} (hp : li.Perm (List.range n)) {i j : Nat} (hi : i < n) (hj : j < n) (e : li.getD i 0 = li.getD j 0) : i = j := by
  have h1 : i < li.length := by rw [pl_len hp]; exact hi
  have h2 : j < li.length := by rw [pl_len hp]; exact hj
  rw [List.getD_eq_getElem?_getD, List.getD_eq_getElem?_getD, List.getElem?_eq_getElem h1, List.getElem?_eq_getElem h2] at e
  exact (List.getElem_inj (h₀ := h1) (h₁ := h2) (pl_nd hp)).mp e
theorem pl_first {li : List Nat} {n : Nat} (hp : li.Perm (List.range n)) {c m : Nat} (hc : c < n) (h : ∀ j, j < m → ¬ li.getD j 0 = c) : m ≤ li.idxOf c := by
  rcases Nat.lt_or_ge (li.idxOf c) m with q | q
  · exact absurd (pl_at hp hc) (h _ q)
  · exact q
def sm (f : Nat → Nat) : Nat → Nat
  | 0 => 0
  | n + 1 => sm f n + f n
def cs_X4_lineIndex : Nat → List am_V → am_D → am_K → Prop := am_cs []
theorem ck_X4_lineIndex : ∀ X : am_X, am_cx X RX4 cX4_lineIndex 3 0 0 → ∀ pc, am_csok X 3 sh_Road pc (cs_X4_lineIndex pc) := fun X hX => am_cs_ok (fun _ h => absurd h List.not_mem_nil)
abbrev ok_X4_lineIndex (X : am_X) (K : List Int32 → am_D → Prop) : Prop := am_ok X RX4 cX4_lineIndex 3 sh_Road fl_X4 kc_X4 none 1 cs_X4_lineIndex K
abbrev aw_X4_lineIndex (X : am_X) (pc : Nat) (ls : am_L) (st : List am_V) (D : am_D) : Prop := am_aw X 3 sh_Road pc ls st D
abbrev T_X4_lineIndex : am_TT := am_pure (fun is D r => ∃ n b w kd fg la hu li c, rA n b w kd fg la hu li D ∧ c < n ∧ is = [nI c] ∧ r = nI (li.idxOf c))
theorem B_X4_lineIndex : ∀ (X : am_X) (is : List Int32) (D : am_D) (K : List Int32 → am_D → Prop), ok_X4_lineIndex X K → T_X4_lineIndex is D K → is.length = (List.filter Option.isNone ([some 0, none] : List (Option Nat))).length → D.length = sh_Road.length → am_aw X 3 sh_Road 0 (am_l0 3 [some 0, none] is) [] D := by
  intro X is D K O hT _ _
  obtain ⟨r, ⟨n, b, w, kd, fg, la, hu, li, c, hR, hc, rfl, rfl⟩, hK⟩ := hT
  obtain ⟨k, f, l, h, i, rfl, hn, hb, hw, hj, hp, hi⟩ := hR
  have loop : ∀ d m, n - m = d → m < n → (∀ j, j < m → ¬ li.getD j 0 = c) → am_aw X 3 sh_Road 2 [some (.inr 0), some (.inl (nI c)), some (.inl (nI m))] [] [.inl [nI n, nI b, nI w], .inr k, .inr f, .inr l, .inr h, .inr i] := by
    intro d
    induction d with
    | zero => intro m h1 h2; omega
    | succ d ih =>
      intro m hd hm hne
      have h1 := pl_first hp hc hne
      have h2 := pl_idx hp hc
      have h3 := pl_get hp hm
      refine st_iloadn O dX4_lineIndex_2 rfl (q := 3) rfl ?_
      refine st_iconst O dX4_lineIndex_3 am_iconst_1 (q := 4) rfl ?_
      refine st_iadd O dX4_lineIndex_4 (by first | exact nI_add _ _ | exact rfl) (q := 5) rfl ?_
      refine st_aloadn O dX4_lineIndex_5 rfl (q := 6) rfl ?_
      refine st_geti O dX4_lineIndex_6 fl_X4_9 rfl rfl rfl rfl (q := 9) rfl ?_
      refine sn_icmp_ge O dX4_lineIndex_9 (t := 28) rfl (q := 12) rfl (by omega) (by omega) (fun c9 => ?_) (fun c9 => ?_)
      · refine st_iloadn O dX4_lineIndex_28 rfl (q := 29) rfl ?_
        refine st_ireturn O dX4_lineIndex_29 ?_
        rw [show m = li.idxOf c by first | omega | exact pl_inj hp hm h2 (by rw [c19, pl_at hp hc])]; exact hK
      refine st_aloadn O dX4_lineIndex_12 rfl (q := 13) rfl ?_
      refine st_getr O dX4_lineIndex_13 fl_X4_34 rfl rfl rfl (q := 16) rfl ?_
      refine st_iloadn O dX4_lineIndex_16 rfl (q := 17) rfl ?_
      refine sn_ald O dX4_lineIndex_17 rfl rfl rfl ⟨by omega, by decide⟩ (hi m hm) (q := 18) rfl ?_
      refine st_iloadn O dX4_lineIndex_18 rfl (q := 19) rfl ?_
      refine sn_icmp_eq O dX4_lineIndex_19 (t := 28) rfl (q := 22) rfl (by omega) (by omega) (fun c19 => ?_) (fun c19 => ?_)
      · refine st_iloadn O dX4_lineIndex_28 rfl (q := 29) rfl ?_
        refine st_ireturn O dX4_lineIndex_29 ?_
        rw [show m = li.idxOf c by first | omega | exact pl_inj hp hm h2 (by rw [c19, pl_at hp hc])]; exact hK
      refine st_iinc O dX4_lineIndex_22 rfl (by first | exact am_ii1 _ | exact rfl) rfl (q := 25) rfl ?_
      refine st_goto O dX4_lineIndex_25 (t := 2) rfl ?_
      exact ih (m + 1) (by omega) (by omega) (lt_s hne c19)
  refine am_begin rfl ?_
  refine st_iconst O dX4_lineIndex_0 am_iconst_0 (q := 1) rfl ?_
  refine st_istoren O dX4_lineIndex_1 rfl (q := 2) rfl ?_
  exact loop n 0 (by omega) (by omega) lt_0
theorem C_X4_lineIndex : am_ctr yX4_lineIndex cX4_lineIndex 3 (some .int) 0 0 sh_Road [some 0, none] T_X4_lineIndex := am_mk (by decide) (Or.inr (Or.inl ⟨rfl, rfl⟩)) (by decide) (by decide) (by decide) fl_X4_ok kc_X4_ok ck_X4_lineIndex B_X4_lineIndex
def cs_X4_areTwo : Nat → List am_V → am_D → am_K → Prop := am_cs [(2, am_site 2 [some 0, none] T_X4_has [0] [0, 1, 2, 3, 4, 5]), (10, am_site 2 [some 0, none] T_X4_has [0] [0, 1, 2, 3, 4, 5])]
theorem cs_X4_areTwo_2 : cs_X4_areTwo 2 = am_site 2 [some 0, none] T_X4_has [0] [0, 1, 2, 3, 4, 5] := rfl
theorem cs_X4_areTwo_10 : cs_X4_areTwo 10 = am_site 2 [some 0, none] T_X4_has [0] [0, 1, 2, 3, 4, 5] := rfl
theorem ck_X4_areTwo : ∀ X : am_X, am_cx X RX4 cX4_areTwo 3 1 21 → ∀ pc, am_csok X 3 sh_R1 pc (cs_X4_areTwo pc) := fun X hX => am_cs_ok (List.forall_mem_cons.mpr ⟨am_callV hX C_X4_has mo_X4_has rfl lk_X4_37 dX4_areTwo_2 rfl rfl rfl (by decide), List.forall_mem_cons.mpr ⟨am_callV hX C_X4_has mo_X4_has rfl lk_X4_37 dX4_areTwo_10 rfl rfl rfl (by decide), fun _ h => absurd h List.not_mem_nil⟩⟩)
abbrev ok_X4_areTwo (X : am_X) (K : List Int32 → am_D → Prop) : Prop := am_ok X RX4 cX4_areTwo 3 sh_R1 fl_X4 kc_X4 none 2 cs_X4_areTwo K
abbrev aw_X4_areTwo (X : am_X) (pc : Nat) (ls : am_L) (st : List am_V) (D : am_D) : Prop := am_aw X 3 sh_R1 pc ls st D
abbrev T_X4_areTwo : am_TT := am_pure (fun is D r => ∃ x y n xs, n ≤ 9 ∧ is = [x, y] ∧ D = [.inl (nI n :: xs)] ∧ (((∃ i j, i < n ∧ j < n ∧ i ≠ j ∧ x = nI i ∧ y = nI j) ∧ r = 1) ∨ ((¬ ∃ i j, i < n ∧ j < n ∧ i ≠ j ∧ x = nI i ∧ y = nI j) ∧ r = 0)))
theorem B_X4_areTwo : ∀ (X : am_X) (is : List Int32) (D : am_D) (K : List Int32 → am_D → Prop), ok_X4_areTwo X K → T_X4_areTwo is D K → is.length = (List.filter Option.isNone ([some 0, none, none] : List (Option Nat))).length → D.length = sh_R1.length → am_aw X 3 sh_R1 0 (am_l0 3 [some 0, none, none] is) [] D := by
  intro X is D K O hT _ _
  obtain ⟨r, ⟨x, y, n, xs, hn, rfl, rfl, hr⟩, hK⟩ := hT
  by_cases hx : ∃ i, i < n ∧ x = nI i
  · by_cases hy : ∃ i, i < n ∧ y = nI i
    · refine am_begin rfl ?_
      refine st_aloadn O dX4_areTwo_0 rfl (q := 1) rfl ?_
      refine st_iloadn O dX4_areTwo_1 rfl (q := 2) rfl ?_
      refine st_call O dX4_areTwo_2 cs_X4_areTwo_2 (q := 5) rfl (am_sip rfl rfl rfl (Nat.le_of_ble_eq_true rfl) rfl (r := 1) ⟨x, n, _, hn, rfl, rfl, Or.inl ⟨hx, rfl⟩⟩ ?_)
      refine st_if_eq O dX4_areTwo_5 (t := 25) rfl (q := 8) rfl (fun c5 => ?_) (fun c5 => ?_)
      · exact absurd c5 (by decide)
      refine st_aloadn O dX4_areTwo_8 rfl (q := 9) rfl ?_
      refine st_iloadn O dX4_areTwo_9 rfl (q := 10) rfl ?_
      refine st_call O dX4_areTwo_10 cs_X4_areTwo_10 (q := 13) rfl (am_sip rfl rfl rfl (Nat.le_of_ble_eq_true rfl) rfl (r := 1) ⟨y, n, _, hn, rfl, rfl, Or.inl ⟨hy, rfl⟩⟩ ?_)
      refine st_if_eq O dX4_areTwo_13 (t := 25) rfl (q := 16) rfl (fun c13 => ?_) (fun c13 => ?_)
      · exact absurd c13 (by decide)
      refine st_iloadn O dX4_areTwo_16 rfl (q := 17) rfl ?_
      refine st_iloadn O dX4_areTwo_17 rfl (q := 18) rfl ?_
      refine st_icmp_eq O dX4_areTwo_18 (t := 25) rfl (q := 21) rfl (fun c18 => ?_) (fun c18 => ?_)
      · refine st_iconst O dX4_areTwo_25 am_iconst_0 (q := 26) rfl ?_
        refine st_zreturn O dX4_areTwo_26 (by first | exact Or.inl rfl | exact Or.inr rfl | assumption) ?_
        rcases hr with ⟨h, rfl⟩ | ⟨h, rfl⟩
        · first | exact hK | (obtain ⟨i, j, h1, h2, h3, rfl, rfl⟩ := h; exact absurd ((nI_eq (by omega) (by omega)).mp c18) h3)
        · first | exact hK | (obtain ⟨i, h1, rfl⟩ := hx; obtain ⟨j, h2, rfl⟩ := hy; exact absurd ⟨i, j, h1, h2, fun e => c18 (by rw [e]), rfl, rfl⟩ h)
      refine st_iconst O dX4_areTwo_21 am_iconst_1 (q := 22) rfl ?_
      refine st_goto O dX4_areTwo_22 (t := 26) rfl ?_
      refine st_zreturn O dX4_areTwo_26 (by first | exact Or.inl rfl | exact Or.inr rfl | assumption) ?_
      rcases hr with ⟨h, rfl⟩ | ⟨h, rfl⟩
      · first | exact hK | (obtain ⟨i, j, h1, h2, h3, rfl, rfl⟩ := h; exact absurd ((nI_eq (by omega) (by omega)).mp c18) h3)
      · first | exact hK | (obtain ⟨i, h1, rfl⟩ := hx; obtain ⟨j, h2, rfl⟩ := hy; exact absurd ⟨i, j, h1, h2, fun e => c18 (by rw [e]), rfl, rfl⟩ h)
    · rcases hr with ⟨⟨i, j, h1, h2, h3, rfl, rfl⟩, rfl⟩ | ⟨h, rfl⟩
      · exact absurd ⟨j, h2, rfl⟩ hy
      · refine am_begin rfl ?_
        refine st_aloadn O dX4_areTwo_0 rfl (q := 1) rfl ?_
        refine st_iloadn O dX4_areTwo_1 rfl (q := 2) rfl ?_
        refine st_call O dX4_areTwo_2 cs_X4_areTwo_2 (q := 5) rfl (am_sip rfl rfl rfl (Nat.le_of_ble_eq_true rfl) rfl (r := 1) ⟨x, n, _, hn, rfl, rfl, Or.inl ⟨hx, rfl⟩⟩ ?_)
        refine st_if_eq O dX4_areTwo_5 (t := 25) rfl (q := 8) rfl (fun c5 => ?_) (fun c5 => ?_)
        · exact absurd c5 (by decide)
        refine st_aloadn O dX4_areTwo_8 rfl (q := 9) rfl ?_
        refine st_iloadn O dX4_areTwo_9 rfl (q := 10) rfl ?_
        refine st_call O dX4_areTwo_10 cs_X4_areTwo_10 (q := 13) rfl (am_sip rfl rfl rfl (Nat.le_of_ble_eq_true rfl) rfl (r := 0) ⟨y, n, _, hn, rfl, rfl, Or.inr ⟨hy, rfl⟩⟩ ?_)
        refine st_if_eq O dX4_areTwo_13 (t := 25) rfl (q := 16) rfl (fun c13 => ?_) (fun c13 => ?_)
        · refine st_iconst O dX4_areTwo_25 am_iconst_0 (q := 26) rfl ?_
          refine st_zreturn O dX4_areTwo_26 (by first | exact Or.inl rfl | exact Or.inr rfl | assumption) ?_
          exact hK
        exact absurd c13 (by decide)
  · rcases hr with ⟨⟨i, j, h1, h2, h3, rfl, rfl⟩, rfl⟩ | ⟨h, rfl⟩
    · exact absurd ⟨i, h1, rfl⟩ hx
    · refine am_begin rfl ?_
      refine st_aloadn O dX4_areTwo_0 rfl (q := 1) rfl ?_
      refine st_iloadn O dX4_areTwo_1 rfl (q := 2) rfl ?_
      refine st_call O dX4_areTwo_2 cs_X4_areTwo_2 (q := 5) rfl (am_sip rfl rfl rfl (Nat.le_of_ble_eq_true rfl) rfl (r := 0) ⟨x, n, _, hn, rfl, rfl, Or.inr ⟨hx, rfl⟩⟩ ?_)
      refine st_if_eq O dX4_areTwo_5 (t := 25) rfl (q := 8) rfl (fun c5 => ?_) (fun c5 => ?_)
      · refine st_iconst O dX4_areTwo_25 am_iconst_0 (q := 26) rfl ?_
        refine st_zreturn O dX4_areTwo_26 (by first | exact Or.inl rfl | exact Or.inr rfl | assumption) ?_
        exact hK
      exact absurd c5 (by decide)
theorem C_X4_areTwo : am_ctr yX4_areTwo cX4_areTwo 3 (some .boolean) 1 21 sh_R1 [some 0, none, none] T_X4_areTwo := am_mk (by decide) (Or.inr (Or.inr ⟨rfl, rfl⟩)) (by decide) (by decide) (by decide) fl_X4_ok kc_X4_ok ck_X4_areTwo B_X4_areTwo
/-! counting and adding over the cars -/
def cs_X4_standing : Nat → List am_V → am_D → am_K → Prop := am_cs []
theorem ck_X4_standing : ∀ X : am_X, am_cx X RX4 cX4_standing 4 0 0 → ∀ pc, am_csok X 4 sh_Road pc (cs_X4_standing pc) := fun X hX => am_cs_ok (fun _ h => absurd h List.not_mem_nil)
abbrev ok_X4_standing (X : am_X) (K : List Int32 → am_D → Prop) : Prop := am_ok X RX4 cX4_standing 4 sh_Road fl_X4 kc_X4 none 1 cs_X4_standing K
abbrev aw_X4_standing (X : am_X) (pc : Nat) (ls : am_L) (st : List am_V) (D : am_D) : Prop := am_aw X 4 sh_Road pc ls st D
abbrev T_X4_standing : am_TT := am_pure (fun is D r => ∃ n b w kd fg la hu li z, rA n b w kd fg la hu li D ∧ z < 2 ∧ is = [nI z] ∧ r = nI (li.filter (fun c => la c = z)).length)
theorem pl_cnt {li : List Nat} {n : Nat} (hp : li.Perm (List.range n)) (p : Nat → Bool) : (li.filter p).length = ((List.range n).filter p).length := (hp.filter p).length_eq
theorem rg_cnt (p : Nat → Bool) (m : Nat) : ((List.range (m + 1)).filter p).length = ((List.range m).filter p).length + (if p m then 1 else 0) := by
  rw [List.range_succ, List.filter_append, List.length_append]
  congr 1
  by_cases h : p m = true
  · rw [List.filter_cons_of_pos h, if_pos h]; rfl
  · rw [List.filter_cons_of_neg h, if_neg h]; rfl
theorem B_X4_standing : ∀ (X : am_X) (is : List Int32) (D : am_D) (K : List Int32 → am_D → Prop), ok_X4_standing X K → T_X4_standing is D K → is.length = (List.filter Option.isNone ([some 0, none] : List (Option Nat))).length → D.length = sh_Road.length → am_aw X 4 sh_Road 0 (am_l0 4 [some 0, none] is) [] D := by
  intro X is D K O hT _ _
  obtain ⟨r, ⟨n, b, w, kd, fg, la, hu, li, z, hR, hz, rfl, rfl⟩, hK⟩ := hT
  obtain ⟨k, f, l, h, i, rfl, hn, hb, hw, hj, hp, hi⟩ := hR
  rw [pl_cnt hp] at hK
  have loop : ∀ d m, n - m = d → m ≤ n → am_aw X 4 sh_Road 4 [some (.inr 0), some (.inl (nI z)), some (.inl (nI ((List.range m).filter (fun c => decide (la c = z))).length)), some (.inl (nI m))] [] [.inl [nI n, nI b, nI w], .inr k, .inr f, .inr l, .inr h, .inr i] := by
    intro d
    induction d with
    | zero =>
      intro m hd hm
      have e : m = n := by omega
      subst e
      refine st_iloadn O dX4_standing_4 rfl (q := 5) rfl ?_
      refine st_aloadn O dX4_standing_5 rfl (q := 6) rfl ?_
      refine st_geti O dX4_standing_6 fl_X4_9 rfl rfl rfl rfl (q := 9) rfl ?_
      refine sn_icmp_ge O dX4_standing_9 (t := 31) rfl (q := 12) rfl (by omega) (by omega) (fun c9 => ?_) (fun c9 => ?_)
      · refine st_iloadn O dX4_standing_31 rfl (q := 32) rfl ?_
        refine st_ireturn O dX4_standing_32 ?_
        exact hK
      omega
    | succ d ih =>
      intro m hd hm
      have h3 := (hj m (by omega)).2.2.1
      have ih := ih (m + 1) (by omega) (by omega)
      rw [rg_cnt] at ih
      refine st_iloadn O dX4_standing_4 rfl (q := 5) rfl ?_
      refine st_aloadn O dX4_standing_5 rfl (q := 6) rfl ?_
      refine st_geti O dX4_standing_6 fl_X4_9 rfl rfl rfl rfl (q := 9) rfl ?_
      refine sn_icmp_ge O dX4_standing_9 (t := 31) rfl (q := 12) rfl (by omega) (by omega) (fun c9 => ?_) (fun c9 => ?_)
      · omega
      refine st_aloadn O dX4_standing_12 rfl (q := 13) rfl ?_
      refine st_getr O dX4_standing_13 fl_X4_28 rfl rfl rfl (q := 16) rfl ?_
      refine st_iloadn O dX4_standing_16 rfl (q := 17) rfl ?_
      refine sn_ald O dX4_standing_17 rfl rfl rfl ⟨by omega, by decide⟩ h3.1 (q := 18) rfl ?_
      refine st_iloadn O dX4_standing_18 rfl (q := 19) rfl ?_
      refine sn_icmp_ne O dX4_standing_19 (t := 25) rfl (q := 22) rfl (by omega) (by omega) (fun c19 => ?_) (fun c19 => ?_)
      · refine st_iinc O dX4_standing_25 rfl (by first | exact am_ii1 _ | exact rfl) rfl (q := 28) rfl ?_
        refine st_goto O dX4_standing_28 (t := 4) rfl ?_
        first | (rw [if_pos (by simpa using c19)] at ih; exact ih) | (rw [if_neg (by simpa using c19)] at ih; exact ih)
      refine st_iinc O dX4_standing_22 rfl (by first | exact am_ii1 _ | exact rfl) rfl (q := 25) rfl ?_
      refine st_iinc O dX4_standing_25 rfl (by first | exact am_ii1 _ | exact rfl) rfl (q := 28) rfl ?_
      refine st_goto O dX4_standing_28 (t := 4) rfl ?_
      first | (rw [if_pos (by simpa using c19)] at ih; exact ih) | (rw [if_neg (by simpa using c19)] at ih; exact ih)
  refine am_begin rfl ?_
  refine st_iconst O dX4_standing_0 am_iconst_0 (q := 1) rfl ?_
  refine st_istoren O dX4_standing_1 rfl (q := 2) rfl ?_
  refine st_iconst O dX4_standing_2 am_iconst_0 (q := 3) rfl ?_
  refine st_istoren O dX4_standing_3 rfl (q := 4) rfl ?_
  exact loop n 0 (by omega) (by omega)
theorem C_X4_standing : am_ctr yX4_standing cX4_standing 4 (some .int) 0 0 sh_Road [some 0, none] T_X4_standing := am_mk (by decide) (Or.inr (Or.inl ⟨rfl, rfl⟩)) (by decide) (by decide) (by decide) fl_X4_ok kc_X4_ok ck_X4_standing B_X4_standing
def cs_X4_allHurry : Nat → List am_V → am_D → am_K → Prop := am_cs []
theorem ck_X4_allHurry : ∀ X : am_X, am_cx X RX4 cX4_allHurry 3 0 0 → ∀ pc, am_csok X 3 sh_Road pc (cs_X4_allHurry pc) := fun X hX => am_cs_ok (fun _ h => absurd h List.not_mem_nil)
abbrev ok_X4_allHurry (X : am_X) (K : List Int32 → am_D → Prop) : Prop := am_ok X RX4 cX4_allHurry 3 sh_Road fl_X4 kc_X4 none 1 cs_X4_allHurry K
abbrev aw_X4_allHurry (X : am_X) (pc : Nat) (ls : am_L) (st : List am_V) (D : am_D) : Prop := am_aw X 3 sh_Road pc ls st D
abbrev T_X4_allHurry : am_TT := am_pure (fun is D r => ∃ n b w kd fg la hu li, rA n b w kd fg la hu li D ∧ is = [] ∧ r = nI (sm hu n))
theorem B_X4_allHurry : ∀ (X : am_X) (is : List Int32) (D : am_D) (K : List Int32 → am_D → Prop), ok_X4_allHurry X K → T_X4_allHurry is D K → is.length = (List.filter Option.isNone ([some 0] : List (Option Nat))).length → D.length = sh_Road.length → am_aw X 3 sh_Road 0 (am_l0 3 [some 0] is) [] D := by
  intro X is D K O hT _ _
  obtain ⟨r, ⟨n, b, w, kd, fg, la, hu, li, hR, rfl, rfl⟩, hK⟩ := hT
  obtain ⟨k, f, l, h, i, rfl, hn, hb, hw, hj, hp, hi⟩ := hR
  have loop : ∀ d m, n - m = d → m ≤ n → am_aw X 3 sh_Road 4 [some (.inr 0), some (.inl (nI (sm hu m))), some (.inl (nI m))] [] [.inl [nI n, nI b, nI w], .inr k, .inr f, .inr l, .inr h, .inr i] := by
    intro d
    induction d with
    | zero =>
      intro m hd hm
      have e : m = n := by omega
      subst e
      refine st_iloadn O dX4_allHurry_4 rfl (q := 5) rfl ?_
      refine st_aloadn O dX4_allHurry_5 rfl (q := 6) rfl ?_
      refine st_geti O dX4_allHurry_6 fl_X4_9 rfl rfl rfl rfl (q := 9) rfl ?_
      refine sn_icmp_ge O dX4_allHurry_9 (t := 27) rfl (q := 12) rfl (by omega) (by omega) (fun c9 => ?_) (fun c9 => ?_)
      · refine st_iloadn O dX4_allHurry_27 rfl (q := 28) rfl ?_
        refine st_ireturn O dX4_allHurry_28 ?_
        exact hK
      omega
    | succ d ih =>
      intro m hd hm
      have h3 := (hj m (by omega)).2.2.2
      refine st_iloadn O dX4_allHurry_4 rfl (q := 5) rfl ?_
      refine st_aloadn O dX4_allHurry_5 rfl (q := 6) rfl ?_
      refine st_geti O dX4_allHurry_6 fl_X4_9 rfl rfl rfl rfl (q := 9) rfl ?_
      refine sn_icmp_ge O dX4_allHurry_9 (t := 27) rfl (q := 12) rfl (by omega) (by omega) (fun c9 => ?_) (fun c9 => ?_)
      · omega
      refine st_iloadn O dX4_allHurry_12 rfl (q := 13) rfl ?_
      refine st_aloadn O dX4_allHurry_13 rfl (q := 14) rfl ?_
      refine st_getr O dX4_allHurry_14 fl_X4_31 rfl rfl rfl (q := 17) rfl ?_
      refine st_iloadn O dX4_allHurry_17 rfl (q := 18) rfl ?_
      refine sn_ald O dX4_allHurry_18 rfl rfl rfl ⟨by omega, by decide⟩ h3.1 (q := 19) rfl ?_
      refine st_iadd O dX4_allHurry_19 (by first | exact nI_add _ _ | exact rfl) (q := 20) rfl ?_
      refine st_istoren O dX4_allHurry_20 rfl (q := 21) rfl ?_
      refine st_iinc O dX4_allHurry_21 rfl (by first | exact am_ii1 _ | exact rfl) rfl (q := 24) rfl ?_
      refine st_goto O dX4_allHurry_24 (t := 4) rfl ?_
      exact ih (m + 1) (by omega) (by omega)
  refine am_begin rfl ?_
  refine st_iconst O dX4_allHurry_0 am_iconst_0 (q := 1) rfl ?_
  refine st_istoren O dX4_allHurry_1 rfl (q := 2) rfl ?_
  refine st_iconst O dX4_allHurry_2 am_iconst_0 (q := 3) rfl ?_
  refine st_istoren O dX4_allHurry_3 rfl (q := 4) rfl ?_
  exact loop n 0 (by omega) (by omega)
theorem C_X4_allHurry : am_ctr yX4_allHurry cX4_allHurry 3 (some .int) 0 0 sh_Road [some 0] T_X4_allHurry := am_mk (by decide) (Or.inr (Or.inl ⟨rfl, rfl⟩)) (by decide) (by decide) (by decide) fl_X4_ok kc_X4_ok ck_X4_allHurry B_X4_allHurry
def cs_X4_secondsAlone : Nat → List am_V → am_D → am_K → Prop := am_cs [(19, am_site 1 [none] T_X2_secondsOf [] [])]
theorem cs_X4_secondsAlone_19 : cs_X4_secondsAlone 19 = am_site 1 [none] T_X2_secondsOf [] [] := rfl
theorem ck_X4_secondsAlone : ∀ X : am_X, am_cx X RX4 cX4_secondsAlone 3 1 20 → ∀ pc, am_csok X 3 sh_Road pc (cs_X4_secondsAlone pc) := fun X hX => am_cs_ok (List.forall_mem_cons.mpr ⟨am_callS hX C_X2_secondsOf mo_X2_secondsOf rfl lk_X4_58 dX4_secondsAlone_19 rfl (by decide), fun _ h => absurd h List.not_mem_nil⟩)
abbrev ok_X4_secondsAlone (X : am_X) (K : List Int32 → am_D → Prop) : Prop := am_ok X RX4 cX4_secondsAlone 3 sh_Road fl_X4 kc_X4 none 1 cs_X4_secondsAlone K
abbrev aw_X4_secondsAlone (X : am_X) (pc : Nat) (ls : am_L) (st : List am_V) (D : am_D) : Prop := am_aw X 3 sh_Road pc ls st D
abbrev T_X4_secondsAlone : am_TT := am_pure (fun is D r => ∃ n b w kd fg la hu li, rA n b w kd fg la hu li D ∧ is = [] ∧ r = nI (sm (fun c => sc (kd c)) n))
theorem B_X4_secondsAlone : ∀ (X : am_X) (is : List Int32) (D : am_D) (K : List Int32 → am_D → Prop), ok_X4_secondsAlone X K → T_X4_secondsAlone is D K → is.length = (List.filter Option.isNone ([some 0] : List (Option Nat))).length → D.length = sh_Road.length → am_aw X 3 sh_Road 0 (am_l0 3 [some 0] is) [] D := by
  intro X is D K O hT _ _
  obtain ⟨r, ⟨n, b, w, kd, fg, la, hu, li, hR, rfl, rfl⟩, hK⟩ := hT
  obtain ⟨k, f, l, h, i, rfl, hn, hb, hw, hj, hp, hi⟩ := hR
  have loop : ∀ d m, n - m = d → m ≤ n → am_aw X 3 sh_Road 4 [some (.inr 0), some (.inl (nI (sm (fun c => sc (kd c)) m))), some (.inl (nI m))] [] [.inl [nI n, nI b, nI w], .inr k, .inr f, .inr l, .inr h, .inr i] := by
    intro d
    induction d with
    | zero =>
      intro m hd hm
      have e : m = n := by omega
      subst e
      refine st_iloadn O dX4_secondsAlone_4 rfl (q := 5) rfl ?_
      refine st_aloadn O dX4_secondsAlone_5 rfl (q := 6) rfl ?_
      refine st_geti O dX4_secondsAlone_6 fl_X4_9 rfl rfl rfl rfl (q := 9) rfl ?_
      refine sn_icmp_ge O dX4_secondsAlone_9 (t := 30) rfl (q := 12) rfl (by omega) (by omega) (fun c9 => ?_) (fun c9 => ?_)
      · refine st_iloadn O dX4_secondsAlone_30 rfl (q := 31) rfl ?_
        refine st_ireturn O dX4_secondsAlone_31 ?_
        exact hK
      omega
    | succ d ih =>
      intro m hd hm
      have h3 := (hj m (by omega)).1
      refine st_iloadn O dX4_secondsAlone_4 rfl (q := 5) rfl ?_
      refine st_aloadn O dX4_secondsAlone_5 rfl (q := 6) rfl ?_
      refine st_geti O dX4_secondsAlone_6 fl_X4_9 rfl rfl rfl rfl (q := 9) rfl ?_
      refine sn_icmp_ge O dX4_secondsAlone_9 (t := 30) rfl (q := 12) rfl (by omega) (by omega) (fun c9 => ?_) (fun c9 => ?_)
      · omega
      refine st_iloadn O dX4_secondsAlone_12 rfl (q := 13) rfl ?_
      refine st_aloadn O dX4_secondsAlone_13 rfl (q := 14) rfl ?_
      refine st_getr O dX4_secondsAlone_14 fl_X4_21 rfl rfl rfl (q := 17) rfl ?_
      refine st_iloadn O dX4_secondsAlone_17 rfl (q := 18) rfl ?_
      refine sn_ald O dX4_secondsAlone_18 rfl rfl rfl ⟨by omega, by decide⟩ h3.1 (q := 19) rfl ?_
      refine st_callS O dX4_secondsAlone_19 cs_X4_secondsAlone_19 (q := 22) rfl (am_sip rfl rfl rfl (Nat.le_of_ble_eq_true rfl) rfl (r := nI (sc (kd m))) ⟨_, h3.2, rfl, rfl⟩ ?_)
      refine st_iadd O dX4_secondsAlone_22 (by first | exact nI_add _ _ | exact rfl) (q := 23) rfl ?_
      refine st_istoren O dX4_secondsAlone_23 rfl (q := 24) rfl ?_
      refine st_iinc O dX4_secondsAlone_24 rfl (by first | exact am_ii1 _ | exact rfl) rfl (q := 27) rfl ?_
      refine st_goto O dX4_secondsAlone_27 (t := 4) rfl ?_
      exact ih (m + 1) (by omega) (by omega)
  refine am_begin rfl ?_
  refine st_iconst O dX4_secondsAlone_0 am_iconst_0 (q := 1) rfl ?_
  refine st_istoren O dX4_secondsAlone_1 rfl (q := 2) rfl ?_
  refine st_iconst O dX4_secondsAlone_2 am_iconst_0 (q := 3) rfl ?_
  refine st_istoren O dX4_secondsAlone_3 rfl (q := 4) rfl ?_
  exact loop n 0 (by omega) (by omega)
theorem C_X4_secondsAlone : am_ctr yX4_secondsAlone cX4_secondsAlone 3 (some .int) 1 20 sh_Road [some 0] T_X4_secondsAlone := am_mk (by decide) (Or.inr (Or.inl ⟨rfl, rfl⟩)) (by decide) (by decide) (by decide) fl_X4_ok kc_X4_ok ck_X4_secondsAlone B_X4_secondsAlone
def cs_X4_letsIn : Nat → List am_V → am_D → am_K → Prop := am_cs [(16, am_site 3 [none, none, none] T_X2_lettingIn [] [])]
theorem cs_X4_letsIn_16 : cs_X4_letsIn 16 = am_site 3 [none, none, none] T_X2_lettingIn [] [] := rfl
theorem ck_X4_letsIn : ∀ X : am_X, am_cx X RX4 cX4_letsIn 2 1 22 → ∀ pc, am_csok X 2 sh_Road pc (cs_X4_letsIn pc) := fun X hX => am_cs_ok (List.forall_mem_cons.mpr ⟨am_callS hX C_X2_lettingIn mo_X2_lettingIn rfl lk_X4_52 dX4_letsIn_16 rfl (by decide), fun _ h => absurd h List.not_mem_nil⟩)
abbrev ok_X4_letsIn (X : am_X) (K : List Int32 → am_D → Prop) : Prop := am_ok X RX4 cX4_letsIn 2 sh_Road fl_X4 kc_X4 none 1 cs_X4_letsIn K
abbrev aw_X4_letsIn (X : am_X) (pc : Nat) (ls : am_L) (st : List am_V) (D : am_D) : Prop := am_aw X 2 sh_Road pc ls st D
abbrev T_X4_letsIn : am_TT := am_pure (fun is D r => ∃ n b w kd fg la hu li c, rA n b w kd fg la hu li D ∧ c < n ∧ is = [nI c] ∧ r = nI (lt (kd c) (fg c) b))
theorem B_X4_letsIn : ∀ (X : am_X) (is : List Int32) (D : am_D) (K : List Int32 → am_D → Prop), ok_X4_letsIn X K → T_X4_letsIn is D K → is.length = (List.filter Option.isNone ([some 0, none] : List (Option Nat))).length → D.length = sh_Road.length → am_aw X 2 sh_Road 0 (am_l0 2 [some 0, none] is) [] D := by
  intro X is D K O hT _ _
  obtain ⟨r, ⟨n, b, w, kd, fg, la, hu, li, c, hR, hc, rfl, rfl⟩, hK⟩ := hT
  obtain ⟨k, f, l, h, i, rfl, hn, hb, hw, hj, hp, hi⟩ := hR
  have h3 := hj c hc
  refine am_begin rfl ?_
  refine st_aloadn O dX4_letsIn_0 rfl (q := 1) rfl ?_
  refine st_getr O dX4_letsIn_1 fl_X4_21 rfl rfl rfl (q := 4) rfl ?_
  refine st_iloadn O dX4_letsIn_4 rfl (q := 5) rfl ?_
  refine sn_ald O dX4_letsIn_5 rfl rfl rfl ⟨by omega, by decide⟩ h3.1.1 (q := 6) rfl ?_
  refine st_aloadn O dX4_letsIn_6 rfl (q := 7) rfl ?_
  refine st_getr O dX4_letsIn_7 fl_X4_25 rfl rfl rfl (q := 10) rfl ?_
  refine st_iloadn O dX4_letsIn_10 rfl (q := 11) rfl ?_
  refine sn_ald O dX4_letsIn_11 rfl rfl rfl ⟨by omega, by decide⟩ h3.2.1.1 (q := 12) rfl ?_
  refine st_aloadn O dX4_letsIn_12 rfl (q := 13) rfl ?_
  refine st_geti O dX4_letsIn_13 fl_X4_15 rfl rfl rfl rfl (q := 16) rfl ?_
  refine st_callS O dX4_letsIn_16 cs_X4_letsIn_16 (q := 19) rfl (am_sip rfl rfl rfl (Nat.le_of_ble_eq_true rfl) rfl (r := nI (lt (kd c) (fg c) b)) ⟨_, _, _, h3.1.2, hb, rfl, rfl⟩ ?_)
  refine st_ireturn O dX4_letsIn_19 ?_
  exact hK
theorem C_X4_letsIn : am_ctr yX4_letsIn cX4_letsIn 2 (some .int) 1 22 sh_Road [some 0, none] T_X4_letsIn := am_mk (by decide) (Or.inr (Or.inl ⟨rfl, rfl⟩)) (by decide) (by decide) (by decide) fl_X4_ok kc_X4_ok ck_X4_letsIn B_X4_letsIn
end
section
/-! Road: places, and what changes it -/
theorem ix_ne {a c : Nat} (h : ¬ a = c) (r : List Nat) : (a :: r).idxOf c = r.idxOf c + 1 := by
  have hb : (a == c) = false := by simpa using h
  rw [List.idxOf_cons, hb]
  rfl
theorem ix_filter {c : Nat} (p : Nat → Bool) (hpc : p c = true) : ∀ (li : List Nat), c ∈ li → (li.filter p).idxOf c = ((li.take (li.idxOf c)).filter p).length
  | [], h => by cases h
  | a :: r, h => by
    by_cases ha : a = c
    · subst ha
      rw [List.filter_cons_of_pos hpc, List.idxOf_cons_self, List.idxOf_cons_self]
      rfl
    · have hr : c ∈ r := by
        rcases List.mem_cons.mp h with e | e
        · exact absurd e.symm ha
        · exact e
      have ih := ix_filter p hpc r hr
      rw [ix_ne ha, List.take_succ_cons]
      by_cases hpa : p a = true
      · rw [List.filter_cons_of_pos hpa, List.filter_cons_of_pos hpa, ix_ne ha, ih]
        rfl
      · rw [List.filter_cons_of_neg hpa, List.filter_cons_of_neg hpa, ih]
theorem tk_cnt (p : Nat → Bool) {li : List Nat} {m : Nat} (h : m < li.length) : ((li.take (m + 1)).filter p).length = ((li.take m).filter p).length + (if p (li.getD m 0) then 1 else 0) := by
  rw [List.take_succ, List.filter_append, List.length_append, List.getD_eq_getElem?_getD, List.getElem?_eq_getElem h]
  congr 1
  by_cases hp : p li[m] = true
  · simp [hp]
  · simp [hp]
def cs_X4_placeOf : Nat → List am_V → am_D → am_K → Prop := am_cs [(4, am_site 2 [some 0, none] T_X4_lineIndex [0, 1, 2, 3, 4, 5] [0, 1, 2, 3, 4, 5])]
theorem cs_X4_placeOf_4 : cs_X4_placeOf 4 = am_site 2 [some 0, none] T_X4_lineIndex [0, 1, 2, 3, 4, 5] [0, 1, 2, 3, 4, 5] := rfl
theorem ck_X4_placeOf : ∀ X : am_X, am_cx X RX4 cX4_placeOf 5 1 22 → ∀ pc, am_csok X 5 sh_Road pc (cs_X4_placeOf pc) := fun X hX => am_cs_ok (List.forall_mem_cons.mpr ⟨am_callV hX C_X4_lineIndex mo_X4_lineIndex rfl lk_X4_45 dX4_placeOf_4 rfl rfl rfl (by decide), fun _ h => absurd h List.not_mem_nil⟩)
abbrev ok_X4_placeOf (X : am_X) (K : List Int32 → am_D → Prop) : Prop := am_ok X RX4 cX4_placeOf 5 sh_Road fl_X4 kc_X4 none 1 cs_X4_placeOf K
abbrev aw_X4_placeOf (X : am_X) (pc : Nat) (ls : am_L) (st : List am_V) (D : am_D) : Prop := am_aw X 5 sh_Road pc ls st D
abbrev T_X4_placeOf : am_TT := am_pure (fun is D r => ∃ n b w kd fg la hu li c, rA n b w kd fg la hu li D ∧ c < n ∧ is = [nI c] ∧ r = nI ((li.filter (fun z => la z = la c)).idxOf c))
theorem B_X4_placeOf : ∀ (X : am_X) (is : List Int32) (D : am_D) (K : List Int32 → am_D → Prop), ok_X4_placeOf X K → T_X4_placeOf is D K → is.length = (List.filter Option.isNone ([some 0, none] : List (Option Nat))).length → D.length = sh_Road.length → am_aw X 5 sh_Road 0 (am_l0 5 [some 0, none] is) [] D := by
  intro X is D K O hT _ _
  obtain ⟨r, ⟨n, b, w, kd, fg, la, hu, li, c, hR, hc, rfl, rfl⟩, hK⟩ := hT
  obtain ⟨k, f, l, h, i, rfl, hn, hb, hw, hj, hp, hi⟩ := id hR
  have h2 := pl_idx hp hc
  have h3 := hj c hc
  rw [ix_filter _ (by simp) li ((pl_mem hp).mpr hc)] at hK
  have loop : ∀ d m, li.idxOf c - m = d → m ≤ li.idxOf c → am_aw X 5 sh_Road 11 [some (.inr 0), some (.inl (nI c)), some (.inl (nI ((li.take m).filter (fun z => decide (la z = la c))).length)), some (.inl (nI (li.idxOf c))), some (.inl (nI m))] [] [.inl [nI n, nI b, nI w], .inr k, .inr f, .inr l, .inr h, .inr i] := by
    intro d
    induction d with
    | zero =>
      intro m hd hm
      have e : m = li.idxOf c := by omega
      subst e
      refine st_iload O dX4_placeOf_11 rfl (q := 13) rfl ?_
      refine st_iloadn O dX4_placeOf_13 rfl (q := 14) rfl ?_
      refine sn_icmp_ge O dX4_placeOf_14 (t := 47) rfl (q := 17) rfl (by omega) (by omega) (fun c14 => ?_) (fun c14 => ?_)
      · refine st_iloadn O dX4_placeOf_47 rfl (q := 48) rfl ?_
        refine st_ireturn O dX4_placeOf_48 ?_
        exact hK
      omega
    | succ d ih =>
      intro m hd hm
      have ih := ih (m + 1) (by omega) (by omega)
      rw [tk_cnt _ (by rw [pl_len hp]; omega)] at ih
      have h4 := pl_get hp (j := m) (by omega)
      have h5 := hj _ h4
      have h6 := h5.2.2.1.2
      have h7 := h3.2.2.1.2
      refine st_iload O dX4_placeOf_11 rfl (q := 13) rfl ?_
      refine st_iloadn O dX4_placeOf_13 rfl (q := 14) rfl ?_
      refine sn_icmp_ge O dX4_placeOf_14 (t := 47) rfl (q := 17) rfl (by omega) (by omega) (fun c14 => ?_) (fun c14 => ?_)
      · omega
      refine st_aloadn O dX4_placeOf_17 rfl (q := 18) rfl ?_
      refine st_getr O dX4_placeOf_18 fl_X4_28 rfl rfl rfl (q := 21) rfl ?_
      refine st_aloadn O dX4_placeOf_21 rfl (q := 22) rfl ?_
      refine st_getr O dX4_placeOf_22 fl_X4_34 rfl rfl rfl (q := 25) rfl ?_
      refine st_iload O dX4_placeOf_25 rfl (q := 27) rfl ?_
      refine sn_ald O dX4_placeOf_27 rfl rfl rfl ⟨by omega, by decide⟩ (hi m (by omega)) (q := 28) rfl ?_
      refine sn_ald O dX4_placeOf_28 rfl rfl rfl ⟨by omega, by decide⟩ h5.2.2.1.1 (q := 29) rfl ?_
      refine st_aloadn O dX4_placeOf_29 rfl (q := 30) rfl ?_
      refine st_getr O dX4_placeOf_30 fl_X4_28 rfl rfl rfl (q := 33) rfl ?_
      refine st_iloadn O dX4_placeOf_33 rfl (q := 34) rfl ?_
      refine sn_ald O dX4_placeOf_34 rfl rfl rfl ⟨by omega, by decide⟩ h3.2.2.1.1 (q := 35) rfl ?_
      refine sn_icmp_ne O dX4_placeOf_35 (t := 41) rfl (q := 38) rfl (by omega) (by omega) (fun c35 => ?_) (fun c35 => ?_)
      · refine st_iinc O dX4_placeOf_41 rfl (by first | exact am_ii1 _ | exact rfl) rfl (q := 44) rfl ?_
        refine st_goto O dX4_placeOf_44 (t := 11) rfl ?_
        first | (rw [if_pos (by simpa using c35)] at ih; exact ih) | (rw [if_neg (by simpa using c35)] at ih; exact ih)
      refine st_iinc O dX4_placeOf_38 rfl (by first | exact am_ii1 _ | exact rfl) rfl (q := 41) rfl ?_
      refine st_iinc O dX4_placeOf_41 rfl (by first | exact am_ii1 _ | exact rfl) rfl (q := 44) rfl ?_
      refine st_goto O dX4_placeOf_44 (t := 11) rfl ?_
      first | (rw [if_pos (by simpa using c35)] at ih; exact ih) | (rw [if_neg (by simpa using c35)] at ih; exact ih)
  refine am_begin rfl ?_
  refine st_iconst O dX4_placeOf_0 am_iconst_0 (q := 1) rfl ?_
  refine st_istoren O dX4_placeOf_1 rfl (q := 2) rfl ?_
  refine st_aloadn O dX4_placeOf_2 rfl (q := 3) rfl ?_
  refine st_iloadn O dX4_placeOf_3 rfl (q := 4) rfl ?_
  refine st_call O dX4_placeOf_4 cs_X4_placeOf_4 (q := 7) rfl (am_sip rfl rfl rfl (Nat.le_of_ble_eq_true rfl) rfl (r := nI (li.idxOf c)) ⟨n, b, w, kd, fg, la, hu, li, c, hR, hc, rfl, rfl⟩ ?_)
  refine st_istoren O dX4_placeOf_7 rfl (q := 8) rfl ?_
  refine st_iconst O dX4_placeOf_8 am_iconst_0 (q := 9) rfl ?_
  refine st_istore O dX4_placeOf_9 rfl (q := 11) rfl ?_
  exact loop (li.idxOf c) 0 (by omega) (by omega)
theorem C_X4_placeOf : am_ctr yX4_placeOf cX4_placeOf 5 (some .int) 1 22 sh_Road [some 0, none] T_X4_placeOf := am_mk (by decide) (Or.inr (Or.inl ⟨rfl, rfl⟩)) (by decide) (by decide) (by decide) fl_X4_ok kc_X4_ok ck_X4_placeOf B_X4_placeOf
/-- a road's cells of which nothing is known but their form -/
def rF (D : am_D) : Prop := ∃ (a b c : Int32) (k f l h i : Nat → Int32), D = [.inl [a, b, c], .inr k, .inr f, .inr l, .inr h, .inr i]
theorem rA.form {n b w : Nat} {kd fg la hu : Nat → Nat} {li : List Nat} {D : am_D} (h : rA n b w kd fg la hu li D) : rF D := by
  obtain ⟨k, f, l, h, i, rfl, -⟩ := h
  exact ⟨_, _, _, _, _, _, _, _, rfl⟩
def cs_X4_copyFrom : Nat → List am_V → am_D → am_K → Prop := am_cs []
theorem ck_X4_copyFrom : ∀ X : am_X, am_cx X RX4 cX4_copyFrom 3 0 0 → ∀ pc, am_csok X 3 sh_RR pc (cs_X4_copyFrom pc) := fun X hX => am_cs_ok (fun _ h => absurd h List.not_mem_nil)
abbrev ok_X4_copyFrom (X : am_X) (K : List Int32 → am_D → Prop) : Prop := am_ok X RX4 cX4_copyFrom 3 sh_RR fl_X4 kc_X4 none 0 cs_X4_copyFrom K
abbrev aw_X4_copyFrom (X : am_X) (pc : Nat) (ls : am_L) (st : List am_V) (D : am_D) : Prop := am_aw X 3 sh_RR pc ls st D
abbrev T_X4_copyFrom : am_TT := fun is D K => ∃ n b w kd fg la hu li d1 d2, is = [] ∧ D = d1 ++ d2 ∧ rF d1 ∧ rA n b w kd fg la hu li d2 ∧ ∀ d, rA n b w kd fg la hu li d → K [] (d ++ d2)
theorem B_X4_copyFrom : ∀ (X : am_X) (is : List Int32) (D : am_D) (K : List Int32 → am_D → Prop), ok_X4_copyFrom X K → T_X4_copyFrom is D K → is.length = (List.filter Option.isNone ([some 0, some 6] : List (Option Nat))).length → D.length = sh_RR.length → am_aw X 3 sh_RR 0 (am_l0 3 [some 0, some 6] is) [] D := by
  intro X is D K O hT _ _
  obtain ⟨n, b, w, kd, fg, la, hu, li, d1, d2, rfl, rfl, h1, hR, hK⟩ := hT
  obtain ⟨a0, b0, c0, k0, f0, l0, h0, i0, rfl⟩ := h1
  obtain ⟨k, f, l, h, i, rfl, hn, hb, hw, hj, hp, hi⟩ := hR
  have loop : ∀ d m (k0 f0 l0 h0 i0 : Nat → Int32), n - m = d → m ≤ n → (∀ j, j < m → k0 j = k j ∧ f0 j = f j ∧ l0 j = l j ∧ h0 j = h j ∧ i0 j = i j) → am_aw X 3 sh_RR 26 [some (.inr 0), some (.inr 6), some (.inl (nI m))] [] [.inl [nI n, nI b, nI w], .inr k0, .inr f0, .inr l0, .inr h0, .inr i0, .inl [nI n, nI b, nI w], .inr k, .inr f, .inr l, .inr h, .inr i] := by
    intro d
    induction d with
    | zero =>
      intro m k0 f0 l0 h0 i0 hd hm hq
      have e : m = n := by omega
      subst e
      refine st_iloadn O dX4_copyFrom_26 rfl (q := 27) rfl ?_
      refine st_aloadn O dX4_copyFrom_27 rfl (q := 28) rfl ?_
      refine st_geti O dX4_copyFrom_28 fl_X4_9 rfl rfl rfl rfl (q := 31) rfl ?_
      refine sn_icmp_ge O dX4_copyFrom_31 (t := 100) rfl (q := 34) rfl (by omega) (by omega) (fun c31 => ?_) (fun c31 => ?_)
      · refine st_vreturn O dX4_copyFrom_100 ?_
        refine hK [.inl [nI m, nI b, nI w], .inr k0, .inr f0, .inr l0, .inr h0, .inr i0] ⟨k0, f0, l0, h0, i0, rfl, hn, hb, hw, fun j hjm => ?_, hp, fun j hjm => by rw [(hq j hjm).2.2.2.2]; exact hi j hjm⟩
        obtain ⟨q1, q2, q3, q4, q5⟩ := hq j hjm
        rw [q1, q2, q3, q4]
        exact hj j hjm
      omega
    | succ d ih =>
      intro m k0 f0 l0 h0 i0 hd hm hq
      refine st_iloadn O dX4_copyFrom_26 rfl (q := 27) rfl ?_
      refine st_aloadn O dX4_copyFrom_27 rfl (q := 28) rfl ?_
      refine st_geti O dX4_copyFrom_28 fl_X4_9 rfl rfl rfl rfl (q := 31) rfl ?_
      refine sn_icmp_ge O dX4_copyFrom_31 (t := 100) rfl (q := 34) rfl (by omega) (by omega) (fun c31 => ?_) (fun c31 => ?_)
      · omega
      refine st_aloadn O dX4_copyFrom_34 rfl (q := 35) rfl ?_
      refine st_getr O dX4_copyFrom_35 fl_X4_21 rfl rfl rfl (q := 38) rfl ?_
      refine st_iloadn O dX4_copyFrom_38 rfl (q := 39) rfl ?_
      refine st_aloadn O dX4_copyFrom_39 rfl (q := 40) rfl ?_
      refine st_getr O dX4_copyFrom_40 fl_X4_21 rfl rfl rfl (q := 43) rfl ?_
      refine st_iloadn O dX4_copyFrom_43 rfl (q := 44) rfl ?_
      refine sn_ald O dX4_copyFrom_44 rfl rfl rfl ⟨by omega, by decide⟩ rfl (q := 45) rfl ?_
      refine sn_ast O dX4_copyFrom_45 rfl rfl rfl ⟨by omega, by decide⟩ rfl rfl (q := 46) rfl ?_
      refine st_aloadn O dX4_copyFrom_46 rfl (q := 47) rfl ?_
      refine st_getr O dX4_copyFrom_47 fl_X4_25 rfl rfl rfl (q := 50) rfl ?_
      refine st_iloadn O dX4_copyFrom_50 rfl (q := 51) rfl ?_
      refine st_aloadn O dX4_copyFrom_51 rfl (q := 52) rfl ?_
      refine st_getr O dX4_copyFrom_52 fl_X4_25 rfl rfl rfl (q := 55) rfl ?_
      refine st_iloadn O dX4_copyFrom_55 rfl (q := 56) rfl ?_
      refine sn_ald O dX4_copyFrom_56 rfl rfl rfl ⟨by omega, by decide⟩ rfl (q := 57) rfl ?_
      refine sn_ast O dX4_copyFrom_57 rfl rfl rfl ⟨by omega, by decide⟩ rfl rfl (q := 58) rfl ?_
      refine st_aloadn O dX4_copyFrom_58 rfl (q := 59) rfl ?_
      refine st_getr O dX4_copyFrom_59 fl_X4_28 rfl rfl rfl (q := 62) rfl ?_
      refine st_iloadn O dX4_copyFrom_62 rfl (q := 63) rfl ?_
      refine st_aloadn O dX4_copyFrom_63 rfl (q := 64) rfl ?_
      refine st_getr O dX4_copyFrom_64 fl_X4_28 rfl rfl rfl (q := 67) rfl ?_
      refine st_iloadn O dX4_copyFrom_67 rfl (q := 68) rfl ?_
      refine sn_ald O dX4_copyFrom_68 rfl rfl rfl ⟨by omega, by decide⟩ rfl (q := 69) rfl ?_
      refine sn_ast O dX4_copyFrom_69 rfl rfl rfl ⟨by omega, by decide⟩ rfl rfl (q := 70) rfl ?_
      refine st_aloadn O dX4_copyFrom_70 rfl (q := 71) rfl ?_
      refine st_getr O dX4_copyFrom_71 fl_X4_31 rfl rfl rfl (q := 74) rfl ?_
      refine st_iloadn O dX4_copyFrom_74 rfl (q := 75) rfl ?_
      refine st_aloadn O dX4_copyFrom_75 rfl (q := 76) rfl ?_
      refine st_getr O dX4_copyFrom_76 fl_X4_31 rfl rfl rfl (q := 79) rfl ?_
      refine st_iloadn O dX4_copyFrom_79 rfl (q := 80) rfl ?_
      refine sn_ald O dX4_copyFrom_80 rfl rfl rfl ⟨by omega, by decide⟩ rfl (q := 81) rfl ?_
      refine sn_ast O dX4_copyFrom_81 rfl rfl rfl ⟨by omega, by decide⟩ rfl rfl (q := 82) rfl ?_
      refine st_aloadn O dX4_copyFrom_82 rfl (q := 83) rfl ?_
      refine st_getr O dX4_copyFrom_83 fl_X4_34 rfl rfl rfl (q := 86) rfl ?_
      refine st_iloadn O dX4_copyFrom_86 rfl (q := 87) rfl ?_
      refine st_aloadn O dX4_copyFrom_87 rfl (q := 88) rfl ?_
      refine st_getr O dX4_copyFrom_88 fl_X4_34 rfl rfl rfl (q := 91) rfl ?_
      refine st_iloadn O dX4_copyFrom_91 rfl (q := 92) rfl ?_
      refine sn_ald O dX4_copyFrom_92 rfl rfl rfl ⟨by omega, by decide⟩ rfl (q := 93) rfl ?_
      refine sn_ast O dX4_copyFrom_93 rfl rfl rfl ⟨by omega, by decide⟩ rfl rfl (q := 94) rfl ?_
      refine st_iinc O dX4_copyFrom_94 rfl (by first | exact am_ii1 _ | exact rfl) rfl (q := 97) rfl ?_
      refine st_goto O dX4_copyFrom_97 (t := 26) rfl ?_
      refine ih (m + 1) _ _ _ _ _ (by omega) (by omega) (fun j hjm => ?_)
      by_cases e : j = m
      · subst e; exact ⟨pk_us, pk_us, pk_us, pk_us, pk_us⟩
      · rw [pk_un e, pk_un e, pk_un e, pk_un e, pk_un e]; exact hq j (by omega)
  refine am_begin rfl ?_
  refine st_aloadn O dX4_copyFrom_0 rfl (q := 1) rfl ?_
  refine st_aloadn O dX4_copyFrom_1 rfl (q := 2) rfl ?_
  refine st_geti O dX4_copyFrom_2 fl_X4_9 rfl rfl rfl rfl (q := 5) rfl ?_
  refine st_puti O dX4_copyFrom_5 fl_X4_9 rfl rfl rfl rfl rfl (q := 8) rfl ?_
  refine st_aloadn O dX4_copyFrom_8 rfl (q := 9) rfl ?_
  refine st_aloadn O dX4_copyFrom_9 rfl (q := 10) rfl ?_
  refine st_geti O dX4_copyFrom_10 fl_X4_15 rfl rfl rfl rfl (q := 13) rfl ?_
  refine st_puti O dX4_copyFrom_13 fl_X4_15 rfl rfl rfl rfl rfl (q := 16) rfl ?_
  refine st_aloadn O dX4_copyFrom_16 rfl (q := 17) rfl ?_
  refine st_aloadn O dX4_copyFrom_17 rfl (q := 18) rfl ?_
  refine st_geti O dX4_copyFrom_18 fl_X4_18 rfl rfl rfl rfl (q := 21) rfl ?_
  refine st_puti O dX4_copyFrom_21 fl_X4_18 rfl rfl rfl rfl rfl (q := 24) rfl ?_
  refine st_iconst O dX4_copyFrom_24 am_iconst_0 (q := 25) rfl ?_
  refine st_istoren O dX4_copyFrom_25 rfl (q := 26) rfl ?_
  exact loop n 0 _ _ _ _ _ (by omega) (by omega) (fun j h => by omega)
theorem C_X4_copyFrom : am_ctr yX4_copyFrom cX4_copyFrom 3 none 0 0 sh_RR [some 0, some 6] T_X4_copyFrom := am_mk (by decide) (Or.inl ⟨rfl, rfl⟩) (by decide) (by decide) (by decide) fl_X4_ok kc_X4_ok ck_X4_copyFrom B_X4_copyFrom
def cs_X4_putBoard : Nat → List am_V → am_D → am_K → Prop := am_cs []
theorem ck_X4_putBoard : ∀ X : am_X, am_cx X RX4 cX4_putBoard 2 0 0 → ∀ pc, am_csok X 2 sh_R1 pc (cs_X4_putBoard pc) := fun X hX => am_cs_ok (fun _ h => absurd h List.not_mem_nil)
abbrev ok_X4_putBoard (X : am_X) (K : List Int32 → am_D → Prop) : Prop := am_ok X RX4 cX4_putBoard 2 sh_R1 fl_X4 kc_X4 none 2 cs_X4_putBoard K
abbrev aw_X4_putBoard (X : am_X) (pc : Nat) (ls : am_L) (st : List am_V) (D : am_D) : Prop := am_aw X 2 sh_R1 pc ls st D
abbrev T_X4_putBoard : am_TT := fun is D K => ∃ x n b w, is = [x] ∧ D = [.inl [n, b, w]] ∧ ((∃ v, v ≤ 2 ∧ x = nI v ∧ K [1] [.inl [n, x, w]]) ∨ ((¬ ∃ v, v ≤ 2 ∧ x = nI v) ∧ K [0] [.inl [n, b, w]]))
theorem le_iff {x : Int32} (m : Nat) (hm : m < 2 ^ 31) : (0 ≤ x ∧ x ≤ nI m) ↔ ∃ v, v ≤ m ∧ x = nI v := by
  constructor
  · intro h
    obtain ⟨j, hj, rfl⟩ := nI_of (Int32.not_lt.mpr h.1)
    exact ⟨j, (nI_leI hj hm).mp h.2, rfl⟩
  · rintro ⟨j, hj, rfl⟩
    exact ⟨nI_pos' (by omega), (nI_leI (by omega) hm).mpr hj⟩
theorem B_X4_putBoard : ∀ (X : am_X) (is : List Int32) (D : am_D) (K : List Int32 → am_D → Prop), ok_X4_putBoard X K → T_X4_putBoard is D K → is.length = (List.filter Option.isNone ([some 0, none] : List (Option Nat))).length → D.length = sh_R1.length → am_aw X 2 sh_R1 0 (am_l0 2 [some 0, none] is) [] D := by
  intro X is D K O hT _ _
  obtain ⟨x, n, b, w, rfl, rfl, h⟩ := hT
  rcases h with ⟨v, hv, rfl, hK⟩ | ⟨hv, hK⟩
  · refine am_begin rfl ?_
    refine st_iloadn O dX4_putBoard_0 rfl (q := 1) rfl ?_
    refine sn_if_lt O dX4_putBoard_1 (t := 9) rfl (q := 4) rfl (by omega) (fun c1 => ?_) (fun c1 => ?_)
    · exact c1.elim
    refine st_iloadn O dX4_putBoard_4 rfl (q := 5) rfl ?_
    refine st_iconst O dX4_putBoard_5 am_iconst_2 (q := 6) rfl ?_
    refine sn_icmp_le O dX4_putBoard_6 (t := 11) rfl (q := 9) rfl (by omega) (by omega) (fun c6 => ?_) (fun c6 => ?_)
    · refine st_aloadn O dX4_putBoard_11 rfl (q := 12) rfl ?_
      refine st_iloadn O dX4_putBoard_12 rfl (q := 13) rfl ?_
      refine st_puti O dX4_putBoard_13 fl_X4_15 rfl rfl rfl rfl rfl (q := 16) rfl ?_
      refine st_iconst O dX4_putBoard_16 am_iconst_1 (q := 17) rfl ?_
      refine st_zreturn O dX4_putBoard_17 (by first | exact Or.inl rfl | exact Or.inr rfl | assumption) ?_
      exact hK
    omega
  · rw [← le_iff 2 (by decide)] at hv
    refine am_begin rfl ?_
    refine st_iloadn O dX4_putBoard_0 rfl (q := 1) rfl ?_
    refine st_if_lt O dX4_putBoard_1 (t := 9) rfl (q := 4) rfl (fun c1 => ?_) (fun c1 => ?_)
    · refine st_iconst O dX4_putBoard_9 am_iconst_0 (q := 10) rfl ?_
      refine st_zreturn O dX4_putBoard_10 (by first | exact Or.inl rfl | exact Or.inr rfl | assumption) ?_
      exact hK
    refine st_iloadn O dX4_putBoard_4 rfl (q := 5) rfl ?_
    refine st_iconst O dX4_putBoard_5 am_iconst_2 (q := 6) rfl ?_
    refine st_icmp_le O dX4_putBoard_6 (t := 11) rfl (q := 9) rfl (fun c6 => ?_) (fun c6 => ?_)
    · exact absurd ⟨Int32.not_lt.mp c1, c6⟩ hv
    refine st_iconst O dX4_putBoard_9 am_iconst_0 (q := 10) rfl ?_
    refine st_zreturn O dX4_putBoard_10 (by first | exact Or.inl rfl | exact Or.inr rfl | assumption) ?_
    exact hK
theorem C_X4_putBoard : am_ctr yX4_putBoard cX4_putBoard 2 (some .boolean) 0 0 sh_R1 [some 0, none] T_X4_putBoard := am_mk (by decide) (Or.inr (Or.inr ⟨rfl, rfl⟩)) (by decide) (by decide) (by decide) fl_X4_ok kc_X4_ok ck_X4_putBoard B_X4_putBoard
def cs_X4_putWave : Nat → List am_V → am_D → am_K → Prop := am_cs []
theorem ck_X4_putWave : ∀ X : am_X, am_cx X RX4 cX4_putWave 2 0 0 → ∀ pc, am_csok X 2 sh_R1 pc (cs_X4_putWave pc) := fun X hX => am_cs_ok (fun _ h => absurd h List.not_mem_nil)
abbrev ok_X4_putWave (X : am_X) (K : List Int32 → am_D → Prop) : Prop := am_ok X RX4 cX4_putWave 2 sh_R1 fl_X4 kc_X4 none 2 cs_X4_putWave K
abbrev aw_X4_putWave (X : am_X) (pc : Nat) (ls : am_L) (st : List am_V) (D : am_D) : Prop := am_aw X 2 sh_R1 pc ls st D
abbrev T_X4_putWave : am_TT := fun is D K => ∃ x n b w, is = [x] ∧ D = [.inl [n, b, w]] ∧ ((∃ v, v ≤ 9 ∧ x = nI v ∧ K [1] [.inl [n, b, x]]) ∨ ((¬ ∃ v, v ≤ 9 ∧ x = nI v) ∧ K [0] [.inl [n, b, w]]))
theorem B_X4_putWave : ∀ (X : am_X) (is : List Int32) (D : am_D) (K : List Int32 → am_D → Prop), ok_X4_putWave X K → T_X4_putWave is D K → is.length = (List.filter Option.isNone ([some 0, none] : List (Option Nat))).length → D.length = sh_R1.length → am_aw X 2 sh_R1 0 (am_l0 2 [some 0, none] is) [] D := by
  intro X is D K O hT _ _
  obtain ⟨x, n, b, w, rfl, rfl, h⟩ := hT
  rcases h with ⟨v, hv, rfl, hK⟩ | ⟨hv, hK⟩
  · refine am_begin rfl ?_
    refine st_iloadn O dX4_putWave_0 rfl (q := 1) rfl ?_
    refine sn_if_lt O dX4_putWave_1 (t := 10) rfl (q := 4) rfl (by omega) (fun c1 => ?_) (fun c1 => ?_)
    · exact c1.elim
    refine st_iloadn O dX4_putWave_4 rfl (q := 5) rfl ?_
    refine st_bipush O dX4_putWave_5 am_bipush_9 (q := 7) rfl ?_
    refine sn_icmp_le O dX4_putWave_7 (t := 12) rfl (q := 10) rfl (by omega) (by omega) (fun c7 => ?_) (fun c7 => ?_)
    · refine st_aloadn O dX4_putWave_12 rfl (q := 13) rfl ?_
      refine st_iloadn O dX4_putWave_13 rfl (q := 14) rfl ?_
      refine st_puti O dX4_putWave_14 fl_X4_18 rfl rfl rfl rfl rfl (q := 17) rfl ?_
      refine st_iconst O dX4_putWave_17 am_iconst_1 (q := 18) rfl ?_
      refine st_zreturn O dX4_putWave_18 (by first | exact Or.inl rfl | exact Or.inr rfl | assumption) ?_
      exact hK
    omega
  · rw [← le_iff 9 (by decide)] at hv
    refine am_begin rfl ?_
    refine st_iloadn O dX4_putWave_0 rfl (q := 1) rfl ?_
    refine st_if_lt O dX4_putWave_1 (t := 10) rfl (q := 4) rfl (fun c1 => ?_) (fun c1 => ?_)
    · refine st_iconst O dX4_putWave_10 am_iconst_0 (q := 11) rfl ?_
      refine st_zreturn O dX4_putWave_11 (by first | exact Or.inl rfl | exact Or.inr rfl | assumption) ?_
      exact hK
    refine st_iloadn O dX4_putWave_4 rfl (q := 5) rfl ?_
    refine st_bipush O dX4_putWave_5 am_bipush_9 (q := 7) rfl ?_
    refine st_icmp_le O dX4_putWave_7 (t := 12) rfl (q := 10) rfl (fun c7 => ?_) (fun c7 => ?_)
    · exact absurd ⟨Int32.not_lt.mp c1, c7⟩ hv
    refine st_iconst O dX4_putWave_10 am_iconst_0 (q := 11) rfl ?_
    refine st_zreturn O dX4_putWave_11 (by first | exact Or.inl rfl | exact Or.inr rfl | assumption) ?_
    exact hK
theorem C_X4_putWave : am_ctr yX4_putWave cX4_putWave 2 (some .boolean) 0 0 sh_R1 [some 0, none] T_X4_putWave := am_mk (by decide) (Or.inr (Or.inr ⟨rfl, rfl⟩)) (by decide) (by decide) (by decide) fl_X4_ok kc_X4_ok ck_X4_putWave B_X4_putWave
def cs_X4_add : Nat → List am_V → am_D → am_K → Prop := am_cs []
theorem ck_X4_add : ∀ X : am_X, am_cx X RX4 cX4_add 5 0 0 → ∀ pc, am_csok X 5 sh_Road pc (cs_X4_add pc) := fun X hX => am_cs_ok (fun _ h => absurd h List.not_mem_nil)
abbrev ok_X4_add (X : am_X) (K : List Int32 → am_D → Prop) : Prop := am_ok X RX4 cX4_add 5 sh_Road fl_X4 kc_X4 none 2 cs_X4_add K
abbrev aw_X4_add (X : am_X) (pc : Nat) (ls : am_L) (st : List am_V) (D : am_D) : Prop := am_aw X 5 sh_Road pc ls st D
abbrev T_X4_add : am_TT := fun is D K => ∃ n b w kd fg la hu li k f l h, rA n b w kd fg la hu li D ∧ k < 6 ∧ f < 10 ∧ l < 10 ∧ h < 100 ∧ is = [nI k, nI f, nI l, nI h] ∧ (((n = 9 ∨ 2 ≤ l ∨ 20 < h) ∧ K [0] D) ∨ (n < 9 ∧ l < 2 ∧ h ≤ 20 ∧ ∀ D', rA (n + 1) b w (va_up kd n k) (va_up fg n f) (va_up la n l) (va_up hu n h) (li ++ [n]) D' → K [1] D'))
theorem B_X4_add : ∀ (X : am_X) (is : List Int32) (D : am_D) (K : List Int32 → am_D → Prop), ok_X4_add X K → T_X4_add is D K → is.length = (List.filter Option.isNone ([some 0, none, none, none, none] : List (Option Nat))).length → D.length = sh_Road.length → am_aw X 5 sh_Road 0 (am_l0 5 [some 0, none, none, none, none] is) [] D := by
  intro X is D K O hT _ _
  obtain ⟨n, b, w, kd, fg, la, hu, li, k1, f1, l1, h1, hR, g1, g2, g3, g4, rfl, hK⟩ := hT
  obtain ⟨k, f, l, h, i, rfl, hn, hb, hw, hj, hp, hi⟩ := hR
  rcases hK with ⟨hx, hK⟩ | ⟨x1, x2, x3, hK⟩
  · refine am_begin rfl ?_
    refine st_aloadn O dX4_add_0 rfl (q := 1) rfl ?_
    refine st_geti O dX4_add_1 fl_X4_9 rfl rfl rfl rfl (q := 4) rfl ?_
    refine st_bipush O dX4_add_4 am_bipush_9 (q := 6) rfl ?_
    refine sn_icmp_ge O dX4_add_6 (t := 30) rfl (q := 9) rfl (by omega) (by omega) (fun c6 => ?_) (fun c6 => ?_)
    · refine st_iconst O dX4_add_30 am_iconst_0 (q := 31) rfl ?_
      refine st_zreturn O dX4_add_31 (by first | exact Or.inl rfl | exact Or.inr rfl | assumption) ?_
      exact hK
    refine st_iloadn O dX4_add_9 rfl (q := 10) rfl ?_
    refine sn_if_lt O dX4_add_10 (t := 30) rfl (q := 13) rfl (by omega) (fun c10 => ?_) (fun c10 => ?_)
    · exact c10.elim
    refine st_iloadn O dX4_add_13 rfl (q := 14) rfl ?_
    refine st_iconst O dX4_add_14 am_iconst_2 (q := 15) rfl ?_
    refine sn_icmp_ge O dX4_add_15 (t := 30) rfl (q := 18) rfl (by omega) (by omega) (fun c15 => ?_) (fun c15 => ?_)
    · refine st_iconst O dX4_add_30 am_iconst_0 (q := 31) rfl ?_
      refine st_zreturn O dX4_add_31 (by first | exact Or.inl rfl | exact Or.inr rfl | assumption) ?_
      exact hK
    refine st_iload O dX4_add_18 rfl (q := 20) rfl ?_
    refine sn_if_lt O dX4_add_20 (t := 30) rfl (q := 23) rfl (by omega) (fun c20 => ?_) (fun c20 => ?_)
    · exact c20.elim
    refine st_iload O dX4_add_23 rfl (q := 25) rfl ?_
    refine st_bipush O dX4_add_25 am_bipush_20 (q := 27) rfl ?_
    refine sn_icmp_le O dX4_add_27 (t := 32) rfl (q := 30) rfl (by omega) (by omega) (fun c27 => ?_) (fun c27 => ?_)
    · omega
    refine st_iconst O dX4_add_30 am_iconst_0 (q := 31) rfl ?_
    refine st_zreturn O dX4_add_31 (by first | exact Or.inl rfl | exact Or.inr rfl | assumption) ?_
    exact hK
  · refine am_begin rfl ?_
    refine st_aloadn O dX4_add_0 rfl (q := 1) rfl ?_
    refine st_geti O dX4_add_1 fl_X4_9 rfl rfl rfl rfl (q := 4) rfl ?_
    refine st_bipush O dX4_add_4 am_bipush_9 (q := 6) rfl ?_
    refine sn_icmp_ge O dX4_add_6 (t := 30) rfl (q := 9) rfl (by omega) (by omega) (fun c6 => ?_) (fun c6 => ?_)
    · omega
    refine st_iloadn O dX4_add_9 rfl (q := 10) rfl ?_
    refine sn_if_lt O dX4_add_10 (t := 30) rfl (q := 13) rfl (by omega) (fun c10 => ?_) (fun c10 => ?_)
    · exact c10.elim
    refine st_iloadn O dX4_add_13 rfl (q := 14) rfl ?_
    refine st_iconst O dX4_add_14 am_iconst_2 (q := 15) rfl ?_
    refine sn_icmp_ge O dX4_add_15 (t := 30) rfl (q := 18) rfl (by omega) (by omega) (fun c15 => ?_) (fun c15 => ?_)
    · omega
    refine st_iload O dX4_add_18 rfl (q := 20) rfl ?_
    refine sn_if_lt O dX4_add_20 (t := 30) rfl (q := 23) rfl (by omega) (fun c20 => ?_) (fun c20 => ?_)
    · exact c20.elim
    refine st_iload O dX4_add_23 rfl (q := 25) rfl ?_
    refine st_bipush O dX4_add_25 am_bipush_20 (q := 27) rfl ?_
    refine sn_icmp_le O dX4_add_27 (t := 32) rfl (q := 30) rfl (by omega) (by omega) (fun c27 => ?_) (fun c27 => ?_)
    · refine st_aloadn O dX4_add_32 rfl (q := 33) rfl ?_
      refine st_getr O dX4_add_33 fl_X4_21 rfl rfl rfl (q := 36) rfl ?_
      refine st_aloadn O dX4_add_36 rfl (q := 37) rfl ?_
      refine st_geti O dX4_add_37 fl_X4_9 rfl rfl rfl rfl (q := 40) rfl ?_
      refine st_iloadn O dX4_add_40 rfl (q := 41) rfl ?_
      refine sn_ast O dX4_add_41 rfl rfl rfl ⟨by omega, by decide⟩ rfl rfl (q := 42) rfl ?_
      refine st_aloadn O dX4_add_42 rfl (q := 43) rfl ?_
      refine st_getr O dX4_add_43 fl_X4_25 rfl rfl rfl (q := 46) rfl ?_
      refine st_aloadn O dX4_add_46 rfl (q := 47) rfl ?_
      refine st_geti O dX4_add_47 fl_X4_9 rfl rfl rfl rfl (q := 50) rfl ?_
      refine st_iloadn O dX4_add_50 rfl (q := 51) rfl ?_
      refine sn_ast O dX4_add_51 rfl rfl rfl ⟨by omega, by decide⟩ rfl rfl (q := 52) rfl ?_
      refine st_aloadn O dX4_add_52 rfl (q := 53) rfl ?_
      refine st_getr O dX4_add_53 fl_X4_28 rfl rfl rfl (q := 56) rfl ?_
      refine st_aloadn O dX4_add_56 rfl (q := 57) rfl ?_
      refine st_geti O dX4_add_57 fl_X4_9 rfl rfl rfl rfl (q := 60) rfl ?_
      refine st_iloadn O dX4_add_60 rfl (q := 61) rfl ?_
      refine sn_ast O dX4_add_61 rfl rfl rfl ⟨by omega, by decide⟩ rfl rfl (q := 62) rfl ?_
      refine st_aloadn O dX4_add_62 rfl (q := 63) rfl ?_
      refine st_getr O dX4_add_63 fl_X4_31 rfl rfl rfl (q := 66) rfl ?_
      refine st_aloadn O dX4_add_66 rfl (q := 67) rfl ?_
      refine st_geti O dX4_add_67 fl_X4_9 rfl rfl rfl rfl (q := 70) rfl ?_
      refine st_iload O dX4_add_70 rfl (q := 72) rfl ?_
      refine sn_ast O dX4_add_72 rfl rfl rfl ⟨by omega, by decide⟩ rfl rfl (q := 73) rfl ?_
      refine st_aloadn O dX4_add_73 rfl (q := 74) rfl ?_
      refine st_getr O dX4_add_74 fl_X4_34 rfl rfl rfl (q := 77) rfl ?_
      refine st_aloadn O dX4_add_77 rfl (q := 78) rfl ?_
      refine st_geti O dX4_add_78 fl_X4_9 rfl rfl rfl rfl (q := 81) rfl ?_
      refine st_aloadn O dX4_add_81 rfl (q := 82) rfl ?_
      refine st_geti O dX4_add_82 fl_X4_9 rfl rfl rfl rfl (q := 85) rfl ?_
      refine sn_ast O dX4_add_85 rfl rfl rfl ⟨by omega, by decide⟩ rfl rfl (q := 86) rfl ?_
      refine st_aloadn O dX4_add_86 rfl (q := 87) rfl ?_
      refine st_dup O dX4_add_87 (q := 88) rfl ?_
      refine st_geti O dX4_add_88 fl_X4_9 rfl rfl rfl rfl (q := 91) rfl ?_
      refine st_iconst O dX4_add_91 am_iconst_1 (q := 92) rfl ?_
      refine st_iadd O dX4_add_92 (by first | exact nI_add _ _ | exact rfl) (q := 93) rfl ?_
      refine st_puti O dX4_add_93 fl_X4_9 rfl rfl rfl rfl rfl (q := 96) rfl ?_
      refine st_iconst O dX4_add_96 am_iconst_1 (q := 97) rfl ?_
      refine st_zreturn O dX4_add_97 (by first | exact Or.inl rfl | exact Or.inr rfl | assumption) ?_
      refine hK _ ⟨_, _, _, _, _, rfl, by omega, hb, hw, fun j hjm => ?_, ?_, fun j hjm => ?_⟩
      · by_cases e : j = n
        · subst e; simp only [pk_us, va_up, if_true]; exact ⟨⟨trivial, g1⟩, ⟨trivial, g2⟩, ⟨trivial, x2⟩, ⟨trivial, x3⟩⟩
        · simp only [pk_un e, va_up, if_neg e]; exact hj j (by omega)
      · rw [List.range_succ]; exact hp.append_right [n]
      · have hl := pl_len hp
        by_cases e : j = n
        · subst e; rw [pk_us, List.getD_eq_getElem?_getD, List.getElem?_append_right (by omega)]; simp [hl]
        · rw [pk_un e, hi j (by omega), List.getD_eq_getElem?_getD, List.getD_eq_getElem?_getD, List.getElem?_append_left (by omega)]
    omega
theorem C_X4_add : am_ctr yX4_add cX4_add 5 (some .boolean) 0 0 sh_Road [some 0, none, none, none, none] T_X4_add := am_mk (by decide) (Or.inr (Or.inr ⟨rfl, rfl⟩)) (by decide) (by decide) (by decide) fl_X4_ok kc_X4_ok ck_X4_add B_X4_add
end
section
/-! Road: to an end of a lane, to its front, kinds exchanged -/
theorem er_get {c : Nat} : ∀ (li : List Nat) (j : Nat), c ∈ li → (li.erase c).getD j 0 = if j < li.idxOf c then li.getD j 0 else li.getD (j + 1) 0
  | [], _, h => by cases h
  | a :: r, j, h => by
    by_cases ha : a = c
    · subst ha
      rw [List.erase_cons_head, List.idxOf_cons_self, if_neg (Nat.not_lt_zero j), List.getD_cons_succ]
    · have hr : c ∈ r := by
        rcases List.mem_cons.mp h with e | e
        · exact absurd e.symm ha
        · exact e
      rw [List.erase_cons_tail (by simpa using ha), ix_ne ha]
      cases j with
      | zero => rw [if_pos (Nat.zero_lt_succ _)]; rfl
      | succ j =>
        rw [List.getD_cons_succ, er_get r j hr, List.getD_cons_succ, List.getD_cons_succ]
        by_cases q : j < r.idxOf c
        · rw [if_pos q, if_pos (by omega)]
        · rw [if_neg q, if_neg (by omega)]
theorem ga_left {l r : List Nat} {j : Nat} (h : j < l.length) : (l ++ r).getD j 0 = l.getD j 0 := by
  rw [List.getD_eq_getElem?_getD, List.getElem?_append_left h, List.getD_eq_getElem?_getD]
theorem ga_last {l : List Nat} {c j : Nat} (h : j = l.length) : (l ++ [c]).getD j 0 = c := by
  subst h
  rw [List.getD_eq_getElem?_getD, List.getElem?_append_right (Nat.le_refl _), Nat.sub_self]
  rfl
def cs_X4_moveToEndOf : Nat → List am_V → am_D → am_K → Prop := am_cs [(2, am_site 2 [some 0, none] T_X4_has [0] [0, 1, 2, 3, 4, 5]), (12, am_site 2 [some 0, none] T_X4_lineIndex [0, 1, 2, 3, 4, 5] [0, 1, 2, 3, 4, 5])]
theorem cs_X4_moveToEndOf_2 : cs_X4_moveToEndOf 2 = am_site 2 [some 0, none] T_X4_has [0] [0, 1, 2, 3, 4, 5] := rfl
theorem cs_X4_moveToEndOf_12 : cs_X4_moveToEndOf 12 = am_site 2 [some 0, none] T_X4_lineIndex [0, 1, 2, 3, 4, 5] [0, 1, 2, 3, 4, 5] := rfl
theorem ck_X4_moveToEndOf : ∀ X : am_X, am_cx X RX4 cX4_moveToEndOf 4 1 22 → ∀ pc, am_csok X 4 sh_Road pc (cs_X4_moveToEndOf pc) := fun X hX => am_cs_ok (List.forall_mem_cons.mpr ⟨am_callV hX C_X4_has mo_X4_has rfl lk_X4_37 dX4_moveToEndOf_2 rfl rfl rfl (by decide), List.forall_mem_cons.mpr ⟨am_callV hX C_X4_lineIndex mo_X4_lineIndex rfl lk_X4_45 dX4_moveToEndOf_12 rfl rfl rfl (by decide), fun _ h => absurd h List.not_mem_nil⟩⟩)
abbrev ok_X4_moveToEndOf (X : am_X) (K : List Int32 → am_D → Prop) : Prop := am_ok X RX4 cX4_moveToEndOf 4 sh_Road fl_X4 kc_X4 none 2 cs_X4_moveToEndOf K
abbrev aw_X4_moveToEndOf (X : am_X) (pc : Nat) (ls : am_L) (st : List am_V) (D : am_D) : Prop := am_aw X 4 sh_Road pc ls st D
abbrev T_X4_moveToEndOf : am_TT := fun is D K => ∃ n b w kd fg la hu li z c, rA n b w kd fg la hu li D ∧ z < 2 ∧ c < n ∧ is = [nI z, nI c] ∧ ∀ D', rA n b w kd fg (va_up la c z) hu (li.erase c ++ [c]) D' → K [1] D'
theorem B_X4_moveToEndOf : ∀ (X : am_X) (is : List Int32) (D : am_D) (K : List Int32 → am_D → Prop), ok_X4_moveToEndOf X K → T_X4_moveToEndOf is D K → is.length = (List.filter Option.isNone ([some 0, none, none] : List (Option Nat))).length → D.length = sh_Road.length → am_aw X 4 sh_Road 0 (am_l0 4 [some 0, none, none] is) [] D := by
  intro X is D K O hT _ _
  obtain ⟨n, b, w, kd, fg, la, hu, li, z, c, hR, hz, hc, rfl, hK⟩ := hT
  obtain ⟨k, f, l, h, i, rfl, hn, hb, hw, hj, hp, hi⟩ := id hR
  have h2 := pl_idx hp hc
  have hm := (pl_mem hp).mpr hc
  have hl := pl_len hp
  have loop : ∀ d m (i0 : Nat → Int32), n - m = d → li.idxOf c ≤ m → m < n → (∀ j, j < n → i0 j = if li.idxOf c ≤ j ∧ j < m then i (j + 1) else i j) → am_aw X 4 sh_Road 16 [some (.inr 0), some (.inl (nI z)), some (.inl (nI c)), some (.inl (nI m))] [] [.inl [nI n, nI b, nI w], .inr k, .inr f, .inr l, .inr h, .inr i0] := by
    intro d
    induction d with
    | zero => intro m i0 h1 h3 h4; omega
    | succ d ih =>
      intro m i0 hd h3 h4 hq
      refine st_iloadn O dX4_moveToEndOf_16 rfl (q := 17) rfl ?_
      refine st_iconst O dX4_moveToEndOf_17 am_iconst_1 (q := 18) rfl ?_
      refine st_iadd O dX4_moveToEndOf_18 (by first | exact nI_add _ _ | exact rfl) (q := 19) rfl ?_
      refine st_aloadn O dX4_moveToEndOf_19 rfl (q := 20) rfl ?_
      refine st_geti O dX4_moveToEndOf_20 fl_X4_9 rfl rfl rfl rfl (q := 23) rfl ?_
      refine sn_icmp_ge O dX4_moveToEndOf_23 (t := 46) rfl (q := 26) rfl (by omega) (by omega) (fun c23 => ?_) (fun c23 => ?_)
      · refine st_aloadn O dX4_moveToEndOf_46 rfl (q := 47) rfl ?_
        refine st_getr O dX4_moveToEndOf_47 fl_X4_34 rfl rfl rfl (q := 50) rfl ?_
        refine st_aloadn O dX4_moveToEndOf_50 rfl (q := 51) rfl ?_
        refine st_geti O dX4_moveToEndOf_51 fl_X4_9 rfl rfl rfl rfl (q := 54) rfl ?_
        refine st_iconst O dX4_moveToEndOf_54 am_iconst_1 (q := 55) rfl ?_
        refine st_isub O dX4_moveToEndOf_55 (by first | exact pk_sub (by omega) | exact rfl) (q := 56) rfl ?_
        refine st_iloadn O dX4_moveToEndOf_56 rfl (q := 57) rfl ?_
        refine sn_ast O dX4_moveToEndOf_57 rfl rfl rfl ⟨by omega, by decide⟩ rfl rfl (q := 58) rfl ?_
        refine st_aloadn O dX4_moveToEndOf_58 rfl (q := 59) rfl ?_
        refine st_getr O dX4_moveToEndOf_59 fl_X4_28 rfl rfl rfl (q := 62) rfl ?_
        refine st_iloadn O dX4_moveToEndOf_62 rfl (q := 63) rfl ?_
        refine st_iloadn O dX4_moveToEndOf_63 rfl (q := 64) rfl ?_
        refine sn_ast O dX4_moveToEndOf_64 rfl rfl rfl ⟨by omega, by decide⟩ rfl rfl (q := 65) rfl ?_
        refine st_iconst O dX4_moveToEndOf_65 am_iconst_1 (q := 66) rfl ?_
        refine st_zreturn O dX4_moveToEndOf_66 (by first | exact Or.inl rfl | exact Or.inr rfl | assumption) ?_
        have hle : (li.erase c).length = n - 1 := by rw [List.length_erase_of_mem hm, hl]
        refine hK _ ⟨k, f, _, h, _, rfl, hn, hb, hw, fun j hjn => ?_, ?_, fun j hjn => ?_⟩
        · obtain ⟨q1, q2, q3, q4⟩ := hj j hjn
          refine ⟨q1, q2, ?_, q4⟩
          by_cases e : j = c
          · subst e; simp only [pk_us, va_up, if_true]; exact ⟨trivial, hz⟩
          · simp only [pk_un e, va_up, if_neg e]; exact q3
        · exact (((List.perm_cons_erase hm).symm.trans hp).symm.trans (List.perm_append_comm (l₁ := [c]))).symm
        · by_cases e : j = n - 1
          · rw [e, pk_us, ga_last hle.symm]
          · rw [pk_un e, hq j hjn, ga_left (by omega), er_get li j hm]
            by_cases e2 : j < li.idxOf c
            · rw [if_pos e2, if_neg (by omega)]; exact hi j hjn
            · rw [if_neg e2, if_pos (by omega)]; exact hi (j + 1) (by omega)
      refine st_aloadn O dX4_moveToEndOf_26 rfl (q := 27) rfl ?_
      refine st_getr O dX4_moveToEndOf_27 fl_X4_34 rfl rfl rfl (q := 30) rfl ?_
      refine st_iloadn O dX4_moveToEndOf_30 rfl (q := 31) rfl ?_
      refine st_aloadn O dX4_moveToEndOf_31 rfl (q := 32) rfl ?_
      refine st_getr O dX4_moveToEndOf_32 fl_X4_34 rfl rfl rfl (q := 35) rfl ?_
      refine st_iloadn O dX4_moveToEndOf_35 rfl (q := 36) rfl ?_
      refine st_iconst O dX4_moveToEndOf_36 am_iconst_1 (q := 37) rfl ?_
      refine st_iadd O dX4_moveToEndOf_37 (by first | exact nI_add _ _ | exact rfl) (q := 38) rfl ?_
      refine sn_ald O dX4_moveToEndOf_38 rfl rfl rfl ⟨by omega, by decide⟩ rfl (q := 39) rfl ?_
      refine sn_ast O dX4_moveToEndOf_39 rfl rfl rfl ⟨by omega, by decide⟩ rfl rfl (q := 40) rfl ?_
      refine st_iinc O dX4_moveToEndOf_40 rfl (by first | exact am_ii1 _ | exact rfl) rfl (q := 43) rfl ?_
      refine st_goto O dX4_moveToEndOf_43 (t := 16) rfl ?_
      refine ih (m + 1) _ (by omega) (by omega) (by omega) (fun j hjn => ?_)
      by_cases e : j = m
      · subst e; rw [pk_us, hq (j + 1) (by omega), if_neg (by omega), if_pos (by omega)]
      · rw [pk_un e, hq j hjn]
        by_cases e2 : li.idxOf c ≤ j ∧ j < m
        · rw [if_pos e2, if_pos (by omega)]
        · rw [if_neg e2, if_neg (by omega)]
  refine am_begin rfl ?_
  refine st_aloadn O dX4_moveToEndOf_0 rfl (q := 1) rfl ?_
  refine st_iloadn O dX4_moveToEndOf_1 rfl (q := 2) rfl ?_
  refine st_call O dX4_moveToEndOf_2 cs_X4_moveToEndOf_2 (q := 5) rfl (am_sip rfl rfl rfl (Nat.le_of_ble_eq_true rfl) rfl (r := 1) ⟨nI c, n, _, hn, rfl, rfl, Or.inl ⟨⟨c, hc, rfl⟩, rfl⟩⟩ ?_)
  refine st_if_ne O dX4_moveToEndOf_5 (t := 10) rfl (q := 8) rfl (fun c5 => ?_) (fun c5 => ?_)
  · refine st_aloadn O dX4_moveToEndOf_10 rfl (q := 11) rfl ?_
    refine st_iloadn O dX4_moveToEndOf_11 rfl (q := 12) rfl ?_
    refine st_call O dX4_moveToEndOf_12 cs_X4_moveToEndOf_12 (q := 15) rfl (am_sip rfl rfl rfl (Nat.le_of_ble_eq_true rfl) rfl (r := nI (li.idxOf c)) ⟨n, b, w, kd, fg, la, hu, li, c, hR, hc, rfl, rfl⟩ ?_)
    refine st_istoren O dX4_moveToEndOf_15 rfl (q := 16) rfl ?_
    exact loop _ (li.idxOf c) i rfl (Nat.le_refl _) h2 (fun j _ => by rw [if_neg (by omega)])
  exact absurd c5 (by decide)
theorem C_X4_moveToEndOf : am_ctr yX4_moveToEndOf cX4_moveToEndOf 4 (some .boolean) 1 22 sh_Road [some 0, none, none] T_X4_moveToEndOf := am_mk (by decide) (Or.inr (Or.inr ⟨rfl, rfl⟩)) (by decide) (by decide) (by decide) fl_X4_ok kc_X4_ok ck_X4_moveToEndOf B_X4_moveToEndOf
def cs_X4_crossOver : Nat → List am_V → am_D → am_K → Prop := am_cs [(2, am_site 2 [some 0, none] T_X4_has [0] [0, 1, 2, 3, 4, 5]), (18, am_site 3 [some 0, none, none] T_X4_moveToEndOf [0, 1, 2, 3, 4, 5] [0, 1, 2, 3, 4, 5])]
theorem cs_X4_crossOver_2 : cs_X4_crossOver 2 = am_site 2 [some 0, none] T_X4_has [0] [0, 1, 2, 3, 4, 5] := rfl
theorem cs_X4_crossOver_18 : cs_X4_crossOver 18 = am_site 3 [some 0, none, none] T_X4_moveToEndOf [0, 1, 2, 3, 4, 5] [0, 1, 2, 3, 4, 5] := rfl
theorem ck_X4_crossOver : ∀ X : am_X, am_cx X RX4 cX4_crossOver 2 2 45 → ∀ pc, am_csok X 2 sh_Road pc (cs_X4_crossOver pc) := fun X hX => am_cs_ok (List.forall_mem_cons.mpr ⟨am_callV hX C_X4_has mo_X4_has rfl lk_X4_37 dX4_crossOver_2 rfl rfl rfl (by decide), List.forall_mem_cons.mpr ⟨am_callV hX C_X4_moveToEndOf mo_X4_moveToEndOf rfl lk_X4_41 dX4_crossOver_18 rfl rfl rfl (by decide), fun _ h => absurd h List.not_mem_nil⟩⟩)
abbrev ok_X4_crossOver (X : am_X) (K : List Int32 → am_D → Prop) : Prop := am_ok X RX4 cX4_crossOver 2 sh_Road fl_X4 kc_X4 none 2 cs_X4_crossOver K
abbrev aw_X4_crossOver (X : am_X) (pc : Nat) (ls : am_L) (st : List am_V) (D : am_D) : Prop := am_aw X 2 sh_Road pc ls st D
abbrev T_X4_crossOver : am_TT := fun is D K => ∃ n b w kd fg la hu li x, rA n b w kd fg la hu li D ∧ is = [x] ∧ ((∃ c, c < n ∧ x = nI c ∧ ∀ D', rA n b w kd fg (va_up la c (1 - la c)) hu (li.erase c ++ [c]) D' → K [1] D') ∨ ((¬ ∃ c, c < n ∧ x = nI c) ∧ K [0] D))
theorem B_X4_crossOver : ∀ (X : am_X) (is : List Int32) (D : am_D) (K : List Int32 → am_D → Prop), ok_X4_crossOver X K → T_X4_crossOver is D K → is.length = (List.filter Option.isNone ([some 0, none] : List (Option Nat))).length → D.length = sh_Road.length → am_aw X 2 sh_Road 0 (am_l0 2 [some 0, none] is) [] D := by
  intro X is D K O hT _ _
  obtain ⟨n, b, w, kd, fg, la, hu, li, x, hR, rfl, hK⟩ := hT
  obtain ⟨k, f, l, h, i, rfl, hn, hb, hw, hj, hp, hi⟩ := id hR
  rcases hK with ⟨c, hc, rfl, hK⟩ | ⟨hx, hK⟩
  · have h3 := (hj c hc).2.2.1
    have h4 := h3.2
    refine am_begin rfl ?_
    refine st_aloadn O dX4_crossOver_0 rfl (q := 1) rfl ?_
    refine st_iloadn O dX4_crossOver_1 rfl (q := 2) rfl ?_
    refine st_call O dX4_crossOver_2 cs_X4_crossOver_2 (q := 5) rfl (am_sip rfl rfl rfl (Nat.le_of_ble_eq_true rfl) rfl (r := 1) ⟨nI c, n, _, hn, rfl, rfl, Or.inl ⟨⟨c, hc, rfl⟩, rfl⟩⟩ ?_)
    refine st_if_eq O dX4_crossOver_5 (t := 28) rfl (q := 8) rfl (fun c5 => ?_) (fun c5 => ?_)
    · exact absurd c5 (by decide)
    refine st_aloadn O dX4_crossOver_8 rfl (q := 9) rfl ?_
    refine st_iconst O dX4_crossOver_9 am_iconst_1 (q := 10) rfl ?_
    refine st_aloadn O dX4_crossOver_10 rfl (q := 11) rfl ?_
    refine st_getr O dX4_crossOver_11 fl_X4_28 rfl rfl rfl (q := 14) rfl ?_
    refine st_iloadn O dX4_crossOver_14 rfl (q := 15) rfl ?_
    refine sn_ald O dX4_crossOver_15 rfl rfl rfl ⟨by omega, by decide⟩ h3.1 (q := 16) rfl ?_
    refine st_isub O dX4_crossOver_16 (by first | exact pk_sub (by omega) | exact rfl) (q := 17) rfl ?_
    refine st_iloadn O dX4_crossOver_17 rfl (q := 18) rfl ?_
    refine st_call O dX4_crossOver_18 cs_X4_crossOver_18 (q := 21) rfl (am_si rfl rfl rfl (Nat.le_of_ble_eq_true rfl) rfl ?_)
    refine ⟨n, b, w, kd, fg, la, hu, li, 1 - la c, c, hR, by omega, hc, rfl, fun D' hR' => ?_⟩
    have hK := hK D' hR'
    obtain ⟨k', f', l', h', i', rfl, -⟩ := hR'
    refine am_norm rfl rfl ?_
    refine st_if_eq O dX4_crossOver_21 (t := 28) rfl (q := 24) rfl (fun c21 => ?_) (fun c21 => ?_)
    · exact absurd c21 (by decide)
    refine st_iconst O dX4_crossOver_24 am_iconst_1 (q := 25) rfl ?_
    refine st_goto O dX4_crossOver_25 (t := 29) rfl ?_
    refine st_zreturn O dX4_crossOver_29 (by first | exact Or.inl rfl | exact Or.inr rfl | assumption) ?_
    exact hK
  · refine am_begin rfl ?_
    refine st_aloadn O dX4_crossOver_0 rfl (q := 1) rfl ?_
    refine st_iloadn O dX4_crossOver_1 rfl (q := 2) rfl ?_
    refine st_call O dX4_crossOver_2 cs_X4_crossOver_2 (q := 5) rfl (am_sip rfl rfl rfl (Nat.le_of_ble_eq_true rfl) rfl (r := 0) ⟨x, n, _, hn, rfl, rfl, Or.inr ⟨hx, rfl⟩⟩ ?_)
    refine st_if_eq O dX4_crossOver_5 (t := 28) rfl (q := 8) rfl (fun c5 => ?_) (fun c5 => ?_)
    · refine st_iconst O dX4_crossOver_28 am_iconst_0 (q := 29) rfl ?_
      refine st_zreturn O dX4_crossOver_29 (by first | exact Or.inl rfl | exact Or.inr rfl | assumption) ?_
      exact hK
    exact absurd c5 (by decide)
theorem C_X4_crossOver : am_ctr yX4_crossOver cX4_crossOver 2 (some .boolean) 2 45 sh_Road [some 0, none] T_X4_crossOver := am_mk (by decide) (Or.inr (Or.inr ⟨rfl, rfl⟩)) (by decide) (by decide) (by decide) fl_X4_ok kc_X4_ok ck_X4_crossOver B_X4_crossOver
def cs_X4_moveToFront : Nat → List am_V → am_D → am_K → Prop := am_cs [(2, am_site 2 [some 0, none] T_X4_has [0] [0, 1, 2, 3, 4, 5]), (12, am_site 2 [some 0, none] T_X4_lineIndex [0, 1, 2, 3, 4, 5] [0, 1, 2, 3, 4, 5])]
theorem cs_X4_moveToFront_2 : cs_X4_moveToFront 2 = am_site 2 [some 0, none] T_X4_has [0] [0, 1, 2, 3, 4, 5] := rfl
theorem cs_X4_moveToFront_12 : cs_X4_moveToFront 12 = am_site 2 [some 0, none] T_X4_lineIndex [0, 1, 2, 3, 4, 5] [0, 1, 2, 3, 4, 5] := rfl
theorem ck_X4_moveToFront : ∀ X : am_X, am_cx X RX4 cX4_moveToFront 3 1 22 → ∀ pc, am_csok X 3 sh_Road pc (cs_X4_moveToFront pc) := fun X hX => am_cs_ok (List.forall_mem_cons.mpr ⟨am_callV hX C_X4_has mo_X4_has rfl lk_X4_37 dX4_moveToFront_2 rfl rfl rfl (by decide), List.forall_mem_cons.mpr ⟨am_callV hX C_X4_lineIndex mo_X4_lineIndex rfl lk_X4_45 dX4_moveToFront_12 rfl rfl rfl (by decide), fun _ h => absurd h List.not_mem_nil⟩⟩)
abbrev ok_X4_moveToFront (X : am_X) (K : List Int32 → am_D → Prop) : Prop := am_ok X RX4 cX4_moveToFront 3 sh_Road fl_X4 kc_X4 none 2 cs_X4_moveToFront K
abbrev aw_X4_moveToFront (X : am_X) (pc : Nat) (ls : am_L) (st : List am_V) (D : am_D) : Prop := am_aw X 3 sh_Road pc ls st D
abbrev T_X4_moveToFront : am_TT := fun is D K => ∃ n b w kd fg la hu li x, rA n b w kd fg la hu li D ∧ is = [x] ∧ ((∃ c, c < n ∧ x = nI c ∧ ∀ D', rA n b w kd fg la hu (c :: li.erase c) D' → K [1] D') ∨ ((¬ ∃ c, c < n ∧ x = nI c) ∧ K [0] D))
theorem B_X4_moveToFront : ∀ (X : am_X) (is : List Int32) (D : am_D) (K : List Int32 → am_D → Prop), ok_X4_moveToFront X K → T_X4_moveToFront is D K → is.length = (List.filter Option.isNone ([some 0, none] : List (Option Nat))).length → D.length = sh_Road.length → am_aw X 3 sh_Road 0 (am_l0 3 [some 0, none] is) [] D := by
  intro X is D K O hT _ _
  obtain ⟨n, b, w, kd, fg, la, hu, li, x, hR, rfl, hK⟩ := hT
  obtain ⟨k, f, l, h, i, rfl, hn, hb, hw, hj, hp, hi⟩ := id hR
  rcases hK with ⟨c, hc, rfl, hK⟩ | ⟨hx, hK⟩
  · have h2 := pl_idx hp hc
    have hm := (pl_mem hp).mpr hc
    have hl := pl_len hp
    have loop : ∀ m (i0 : Nat → Int32), m ≤ li.idxOf c → (∀ j, j < n → i0 j = if m < j ∧ j ≤ li.idxOf c then i (j - 1) else i j) → am_aw X 3 sh_Road 16 [some (.inr 0), some (.inl (nI c)), some (.inl (nI m))] [] [.inl [nI n, nI b, nI w], .inr k, .inr f, .inr l, .inr h, .inr i0] := by
      intro m
      induction m with
      | zero =>
        intro i0 h1 hq
        refine st_iloadn O dX4_moveToFront_16 rfl (q := 17) rfl ?_
        refine sn_if_le O dX4_moveToFront_17 (t := 40) rfl (q := 20) rfl (by omega) (fun c17 => ?_) (fun c17 => ?_)
        · refine st_aloadn O dX4_moveToFront_40 rfl (q := 41) rfl ?_
          refine st_getr O dX4_moveToFront_41 fl_X4_34 rfl rfl rfl (q := 44) rfl ?_
          refine st_iconst O dX4_moveToFront_44 am_iconst_0 (q := 45) rfl ?_
          refine st_iloadn O dX4_moveToFront_45 rfl (q := 46) rfl ?_
          refine sn_ast O dX4_moveToFront_46 rfl rfl rfl ⟨by omega, by decide⟩ rfl rfl (q := 47) rfl ?_
          refine st_iconst O dX4_moveToFront_47 am_iconst_1 (q := 48) rfl ?_
          refine st_zreturn O dX4_moveToFront_48 (by first | exact Or.inl rfl | exact Or.inr rfl | assumption) ?_
          refine hK _ ⟨k, f, l, h, _, rfl, hn, hb, hw, hj, ((List.perm_cons_erase hm).symm.trans hp), fun j hjn => ?_⟩
          cases j with
          | zero => rw [pk_us]; rfl
          | succ j =>
            rw [pk_un (by omega), hq (j + 1) hjn, List.getD_cons_succ, er_get li j hm]
            by_cases e : j < li.idxOf c
            · rw [if_pos (by omega), if_pos e]; exact hi j (by omega)
            · rw [if_neg (by omega), if_neg e]; exact hi (j + 1) hjn
        omega
      | succ m ih =>
        intro i0 h1 hq
        refine st_iloadn O dX4_moveToFront_16 rfl (q := 17) rfl ?_
        refine sn_if_le O dX4_moveToFront_17 (t := 40) rfl (q := 20) rfl (by omega) (fun c17 => ?_) (fun c17 => ?_)
        · omega
        refine st_aloadn O dX4_moveToFront_20 rfl (q := 21) rfl ?_
        refine st_getr O dX4_moveToFront_21 fl_X4_34 rfl rfl rfl (q := 24) rfl ?_
        refine st_iloadn O dX4_moveToFront_24 rfl (q := 25) rfl ?_
        refine st_aloadn O dX4_moveToFront_25 rfl (q := 26) rfl ?_
        refine st_getr O dX4_moveToFront_26 fl_X4_34 rfl rfl rfl (q := 29) rfl ?_
        refine st_iloadn O dX4_moveToFront_29 rfl (q := 30) rfl ?_
        refine st_iconst O dX4_moveToFront_30 am_iconst_1 (q := 31) rfl ?_
        refine st_isub O dX4_moveToFront_31 (by first | exact pk_sub (by omega) | exact rfl) (q := 32) rfl ?_
        refine sn_ald O dX4_moveToFront_32 rfl rfl rfl ⟨by omega, by decide⟩ rfl (q := 33) rfl ?_
        refine sn_ast O dX4_moveToFront_33 rfl rfl rfl ⟨by omega, by decide⟩ rfl rfl (q := 34) rfl ?_
        refine st_iinc O dX4_moveToFront_34 rfl (by first | exact am_iim (by omega) | exact rfl) rfl (q := 37) rfl ?_
        refine st_goto O dX4_moveToFront_37 (t := 16) rfl ?_
        refine ih _ (by omega) (fun j hjn => ?_)
        by_cases e : j = m + 1
        · subst e; rw [pk_us, Nat.add_sub_cancel, hq m (by omega), if_neg (by omega), if_pos (by omega)]; rfl
        · rw [pk_un e, hq j hjn]
          by_cases e2 : m + 1 < j ∧ j ≤ li.idxOf c
          · rw [if_pos e2, if_pos (by omega)]
          · rw [if_neg e2, if_neg (by omega)]
    refine am_begin rfl ?_
    refine st_aloadn O dX4_moveToFront_0 rfl (q := 1) rfl ?_
    refine st_iloadn O dX4_moveToFront_1 rfl (q := 2) rfl ?_
    refine st_call O dX4_moveToFront_2 cs_X4_moveToFront_2 (q := 5) rfl (am_sip rfl rfl rfl (Nat.le_of_ble_eq_true rfl) rfl (r := 1) ⟨nI c, n, _, hn, rfl, rfl, Or.inl ⟨⟨c, hc, rfl⟩, rfl⟩⟩ ?_)
    refine st_if_ne O dX4_moveToFront_5 (t := 10) rfl (q := 8) rfl (fun c5 => ?_) (fun c5 => ?_)
    · refine st_aloadn O dX4_moveToFront_10 rfl (q := 11) rfl ?_
      refine st_iloadn O dX4_moveToFront_11 rfl (q := 12) rfl ?_
      refine st_call O dX4_moveToFront_12 cs_X4_moveToFront_12 (q := 15) rfl (am_sip rfl rfl rfl (Nat.le_of_ble_eq_true rfl) rfl (r := nI (li.idxOf c)) ⟨n, b, w, kd, fg, la, hu, li, c, hR, hc, rfl, rfl⟩ ?_)
      refine st_istoren O dX4_moveToFront_15 rfl (q := 16) rfl ?_
      exact loop (li.idxOf c) i (Nat.le_refl _) (fun j _ => by rw [if_neg (by omega)])
    exact absurd c5 (by decide)
  · refine am_begin rfl ?_
    refine st_aloadn O dX4_moveToFront_0 rfl (q := 1) rfl ?_
    refine st_iloadn O dX4_moveToFront_1 rfl (q := 2) rfl ?_
    refine st_call O dX4_moveToFront_2 cs_X4_moveToFront_2 (q := 5) rfl (am_sip rfl rfl rfl (Nat.le_of_ble_eq_true rfl) rfl (r := 0) ⟨x, n, _, hn, rfl, rfl, Or.inr ⟨hx, rfl⟩⟩ ?_)
    refine st_if_ne O dX4_moveToFront_5 (t := 10) rfl (q := 8) rfl (fun c5 => ?_) (fun c5 => ?_)
    · exact absurd c5 (by decide)
    refine st_iconst O dX4_moveToFront_8 am_iconst_0 (q := 9) rfl ?_
    refine st_zreturn O dX4_moveToFront_9 (by first | exact Or.inl rfl | exact Or.inr rfl | assumption) ?_
    exact hK
theorem C_X4_moveToFront : am_ctr yX4_moveToFront cX4_moveToFront 3 (some .boolean) 1 22 sh_Road [some 0, none] T_X4_moveToFront := am_mk (by decide) (Or.inr (Or.inr ⟨rfl, rfl⟩)) (by decide) (by decide) (by decide) fl_X4_ok kc_X4_ok ck_X4_moveToFront B_X4_moveToFront
def cs_X4_exchangeKinds : Nat → List am_V → am_D → am_K → Prop := am_cs [(3, am_site 3 [some 0, none, none] T_X4_areTwo [0] [0, 1, 2, 3, 4, 5])]
theorem cs_X4_exchangeKinds_3 : cs_X4_exchangeKinds 3 = am_site 3 [some 0, none, none] T_X4_areTwo [0] [0, 1, 2, 3, 4, 5] := rfl
theorem ck_X4_exchangeKinds : ∀ X : am_X, am_cx X RX4 cX4_exchangeKinds 5 2 43 → ∀ pc, am_csok X 5 sh_Road pc (cs_X4_exchangeKinds pc) := fun X hX => am_cs_ok (List.forall_mem_cons.mpr ⟨am_callV hX C_X4_areTwo mo_X4_areTwo rfl lk_X4_49 dX4_exchangeKinds_3 rfl rfl rfl (by decide), fun _ h => absurd h List.not_mem_nil⟩)
abbrev ok_X4_exchangeKinds (X : am_X) (K : List Int32 → am_D → Prop) : Prop := am_ok X RX4 cX4_exchangeKinds 5 sh_Road fl_X4 kc_X4 none 2 cs_X4_exchangeKinds K
abbrev aw_X4_exchangeKinds (X : am_X) (pc : Nat) (ls : am_L) (st : List am_V) (D : am_D) : Prop := am_aw X 5 sh_Road pc ls st D
abbrev T_X4_exchangeKinds : am_TT := fun is D K => ∃ n b w kd fg la hu li x y, rA n b w kd fg la hu li D ∧ is = [x, y] ∧ ((∃ p q, p < n ∧ q < n ∧ p ≠ q ∧ x = nI p ∧ y = nI q ∧ ∀ D', rA n b w (va_up (va_up kd p (kd q)) q (kd p)) (va_up (va_up fg p (fg q)) q (fg p)) la hu li D' → K [1] D') ∨ ((¬ ∃ p q, p < n ∧ q < n ∧ p ≠ q ∧ x = nI p ∧ y = nI q) ∧ K [0] D))
theorem B_X4_exchangeKinds : ∀ (X : am_X) (is : List Int32) (D : am_D) (K : List Int32 → am_D → Prop), ok_X4_exchangeKinds X K → T_X4_exchangeKinds is D K → is.length = (List.filter Option.isNone ([some 0, none, none] : List (Option Nat))).length → D.length = sh_Road.length → am_aw X 5 sh_Road 0 (am_l0 5 [some 0, none, none] is) [] D := by
  intro X is D K O hT _ _
  obtain ⟨n, b, w, kd, fg, la, hu, li, x, y, hR, rfl, hK⟩ := hT
  obtain ⟨k, f, l, h, i, rfl, hn, hb, hw, hj, hp, hi⟩ := id hR
  rcases hK with ⟨p, q, hp1, hq1, hpq, rfl, rfl, hK⟩ | ⟨hx, hK⟩
  · refine am_begin rfl ?_
    refine st_aloadn O dX4_exchangeKinds_0 rfl (q := 1) rfl ?_
    refine st_iloadn O dX4_exchangeKinds_1 rfl (q := 2) rfl ?_
    refine st_iloadn O dX4_exchangeKinds_2 rfl (q := 3) rfl ?_
    refine st_call O dX4_exchangeKinds_3 cs_X4_exchangeKinds_3 (q := 6) rfl (am_sip rfl rfl rfl (Nat.le_of_ble_eq_true rfl) rfl (r := 1) ⟨nI p, nI q, n, _, hn, rfl, rfl, Or.inl ⟨⟨p, q, hp1, hq1, hpq, rfl, rfl⟩, rfl⟩⟩ ?_)
    refine st_if_ne O dX4_exchangeKinds_6 (t := 11) rfl (q := 9) rfl (fun c6 => ?_) (fun c6 => ?_)
    · refine st_aloadn O dX4_exchangeKinds_11 rfl (q := 12) rfl ?_
      refine st_getr O dX4_exchangeKinds_12 fl_X4_21 rfl rfl rfl (q := 15) rfl ?_
      refine st_iloadn O dX4_exchangeKinds_15 rfl (q := 16) rfl ?_
      refine sn_ald O dX4_exchangeKinds_16 rfl rfl rfl ⟨by omega, by decide⟩ rfl (q := 17) rfl ?_
      refine st_istoren O dX4_exchangeKinds_17 rfl (q := 18) rfl ?_
      refine st_aloadn O dX4_exchangeKinds_18 rfl (q := 19) rfl ?_
      refine st_getr O dX4_exchangeKinds_19 fl_X4_25 rfl rfl rfl (q := 22) rfl ?_
      refine st_iloadn O dX4_exchangeKinds_22 rfl (q := 23) rfl ?_
      refine sn_ald O dX4_exchangeKinds_23 rfl rfl rfl ⟨by omega, by decide⟩ rfl (q := 24) rfl ?_
      refine st_istore O dX4_exchangeKinds_24 rfl (q := 26) rfl ?_
      refine st_aloadn O dX4_exchangeKinds_26 rfl (q := 27) rfl ?_
      refine st_getr O dX4_exchangeKinds_27 fl_X4_21 rfl rfl rfl (q := 30) rfl ?_
      refine st_iloadn O dX4_exchangeKinds_30 rfl (q := 31) rfl ?_
      refine st_aloadn O dX4_exchangeKinds_31 rfl (q := 32) rfl ?_
      refine st_getr O dX4_exchangeKinds_32 fl_X4_21 rfl rfl rfl (q := 35) rfl ?_
      refine st_iloadn O dX4_exchangeKinds_35 rfl (q := 36) rfl ?_
      refine sn_ald O dX4_exchangeKinds_36 rfl rfl rfl ⟨by omega, by decide⟩ rfl (q := 37) rfl ?_
      refine sn_ast O dX4_exchangeKinds_37 rfl rfl rfl ⟨by omega, by decide⟩ rfl rfl (q := 38) rfl ?_
      refine st_aloadn O dX4_exchangeKinds_38 rfl (q := 39) rfl ?_
      refine st_getr O dX4_exchangeKinds_39 fl_X4_25 rfl rfl rfl (q := 42) rfl ?_
      refine st_iloadn O dX4_exchangeKinds_42 rfl (q := 43) rfl ?_
      refine st_aloadn O dX4_exchangeKinds_43 rfl (q := 44) rfl ?_
      refine st_getr O dX4_exchangeKinds_44 fl_X4_25 rfl rfl rfl (q := 47) rfl ?_
      refine st_iloadn O dX4_exchangeKinds_47 rfl (q := 48) rfl ?_
      refine sn_ald O dX4_exchangeKinds_48 rfl rfl rfl ⟨by omega, by decide⟩ rfl (q := 49) rfl ?_
      refine sn_ast O dX4_exchangeKinds_49 rfl rfl rfl ⟨by omega, by decide⟩ rfl rfl (q := 50) rfl ?_
      refine st_aloadn O dX4_exchangeKinds_50 rfl (q := 51) rfl ?_
      refine st_getr O dX4_exchangeKinds_51 fl_X4_21 rfl rfl rfl (q := 54) rfl ?_
      refine st_iloadn O dX4_exchangeKinds_54 rfl (q := 55) rfl ?_
      refine st_iloadn O dX4_exchangeKinds_55 rfl (q := 56) rfl ?_
      refine sn_ast O dX4_exchangeKinds_56 rfl rfl rfl ⟨by omega, by decide⟩ rfl rfl (q := 57) rfl ?_
      refine st_aloadn O dX4_exchangeKinds_57 rfl (q := 58) rfl ?_
      refine st_getr O dX4_exchangeKinds_58 fl_X4_25 rfl rfl rfl (q := 61) rfl ?_
      refine st_iloadn O dX4_exchangeKinds_61 rfl (q := 62) rfl ?_
      refine st_iload O dX4_exchangeKinds_62 rfl (q := 64) rfl ?_
      refine sn_ast O dX4_exchangeKinds_64 rfl rfl rfl ⟨by omega, by decide⟩ rfl rfl (q := 65) rfl ?_
      refine st_iconst O dX4_exchangeKinds_65 am_iconst_1 (q := 66) rfl ?_
      refine st_zreturn O dX4_exchangeKinds_66 (by first | exact Or.inl rfl | exact Or.inr rfl | assumption) ?_
      refine hK _ ⟨_, _, l, h, i, rfl, hn, hb, hw, fun j hjn => ?_, hp, hi⟩
      obtain ⟨q1, q2, q3, q4⟩ := hj j hjn
      obtain ⟨p1, p2, -, -⟩ := hj p hp1
      obtain ⟨r1, r2, -, -⟩ := hj q hq1
      refine ⟨?_, ?_, q3, q4⟩
      · by_cases e : j = q
        · subst e; simp only [pk_us, va_up, if_true]; exact p1
        · by_cases e2 : j = p
          · subst e2; simp only [pk_un e, pk_us, va_up, if_neg e, if_true]; exact r1
          · simp only [pk_un e, pk_un e2, va_up, if_neg e, if_neg e2]; exact q1
      · by_cases e : j = q
        · subst e; simp only [pk_us, va_up, if_true]; exact p2
        · by_cases e2 : j = p
          · subst e2; simp only [pk_un e, pk_us, va_up, if_neg e, if_true]; exact r2
          · simp only [pk_un e, pk_un e2, va_up, if_neg e, if_neg e2]; exact q2
    exact absurd c6 (by decide)
  · refine am_begin rfl ?_
    refine st_aloadn O dX4_exchangeKinds_0 rfl (q := 1) rfl ?_
    refine st_iloadn O dX4_exchangeKinds_1 rfl (q := 2) rfl ?_
    refine st_iloadn O dX4_exchangeKinds_2 rfl (q := 3) rfl ?_
    refine st_call O dX4_exchangeKinds_3 cs_X4_exchangeKinds_3 (q := 6) rfl (am_sip rfl rfl rfl (Nat.le_of_ble_eq_true rfl) rfl (r := 0) ⟨x, y, n, _, hn, rfl, rfl, Or.inr ⟨hx, rfl⟩⟩ ?_)
    refine st_if_ne O dX4_exchangeKinds_6 (t := 11) rfl (q := 9) rfl (fun c6 => ?_) (fun c6 => ?_)
    · exact absurd c6 (by decide)
    refine st_iconst O dX4_exchangeKinds_9 am_iconst_0 (q := 10) rfl ?_
    refine st_zreturn O dX4_exchangeKinds_10 (by first | exact Or.inl rfl | exact Or.inr rfl | assumption) ?_
    exact hK
theorem C_X4_exchangeKinds : am_ctr yX4_exchangeKinds cX4_exchangeKinds 5 (some .boolean) 2 43 sh_Road [some 0, none, none] T_X4_exchangeKinds := am_mk (by decide) (Or.inr (Or.inr ⟨rfl, rfl⟩)) (by decide) (by decide) (by decide) fl_X4_ok kc_X4_ok ck_X4_exchangeKinds B_X4_exchangeKinds
end
