-- ===== PART A: goes FIRST, ahead of the names: the tables' words, and 'selects' of the private methods out of them =====
/-- a private method of a class that the tables say can be made, by its rows of tables_1 -/
def lw_okq (q : MethodName × Nat) : Prop := (q.1.cls ≠ "java/lang/invoke/MethodHandle" ∧ q.1.cls ≠ "java/lang/invoke/VarHandle") ∧ Cond.instantiable q.1.cls q.2 ∈ tables_1 ∧ Cond.privateMethod q.1 ∈ tables_1 ∧ Cond.instanceMethod q.1 ∈ tables_1
theorem lw_p0 : lw_okq (⟨"TrailBreakers$Trail", "reckonDues", "()Z"⟩, 13) := ⟨⟨by decide +kernel, by decide +kernel⟩, List.mem_of_getElem? (i := 36) (by decide +kernel), List.mem_of_getElem? (i := 366) (by decide +kernel), List.mem_of_getElem? (i := 367) (by decide +kernel)⟩
theorem lw_p1 : lw_okq (⟨"TrailBreakers$Ways", "layOutStretch", "(I)V"⟩, 7) := ⟨⟨by decide +kernel, by decide +kernel⟩, List.mem_of_getElem? (i := 117) (by decide +kernel), List.mem_of_getElem? (i := 421) (by decide +kernel), List.mem_of_getElem? (i := 422) (by decide +kernel)⟩
theorem lw_p2 : lw_okq (⟨"TrailBreakers$BestFirsts", "goOn", "(IIII)V"⟩, 5) := ⟨⟨by decide +kernel, by decide +kernel⟩, List.mem_of_getElem? (i := 111) (by decide +kernel), List.mem_of_getElem? (i := 434) (by decide +kernel), List.mem_of_getElem? (i := 435) (by decide +kernel)⟩
theorem lw_p3 : lw_okq (⟨"TrailBreakers$BestFirsts", "isBeaten", "(II)Z"⟩, 5) := ⟨⟨by decide +kernel, by decide +kernel⟩, List.mem_of_getElem? (i := 111) (by decide +kernel), List.mem_of_getElem? (i := 438) (by decide +kernel), List.mem_of_getElem? (i := 439) (by decide +kernel)⟩
theorem lw_p4 : lw_okq (⟨"TrailBreakers$BestFirsts", "keep", "(II)V"⟩, 5) := ⟨⟨by decide +kernel, by decide +kernel⟩, List.mem_of_getElem? (i := 111) (by decide +kernel), List.mem_of_getElem? (i := 442) (by decide +kernel), List.mem_of_getElem? (i := 443) (by decide +kernel)⟩
theorem lw_p5 : lw_okq (⟨"TrailBreakers$BestFirsts", "step", "(III)V"⟩, 5) := ⟨⟨by decide +kernel, by decide +kernel⟩, List.mem_of_getElem? (i := 111) (by decide +kernel), List.mem_of_getElem? (i := 450) (by decide +kernel), List.mem_of_getElem? (i := 451) (by decide +kernel)⟩
theorem lw_p6 : lw_okq (⟨"TrailBreakers$SettingOut", "fillFrom", "(I)V"⟩, 5) := ⟨⟨by decide +kernel, by decide +kernel⟩, List.mem_of_getElem? (i := 202) (by decide +kernel), List.mem_of_getElem? (i := 473) (by decide +kernel), List.mem_of_getElem? (i := 474) (by decide +kernel)⟩
theorem lw_p7 : lw_okq (⟨"TrailBreakers$SettingOut", "tryFile", "()V"⟩, 5) := ⟨⟨by decide +kernel, by decide +kernel⟩, List.mem_of_getElem? (i := 202) (by decide +kernel), List.mem_of_getElem? (i := 477) (by decide +kernel), List.mem_of_getElem? (i := 478) (by decide +kernel)⟩
theorem lw_p8 : lw_okq (⟨"TrailBreakers$SettingOut", "startAnew", "()V"⟩, 5) := ⟨⟨by decide +kernel, by decide +kernel⟩, List.mem_of_getElem? (i := 202) (by decide +kernel), List.mem_of_getElem? (i := 481) (by decide +kernel), List.mem_of_getElem? (i := 482) (by decide +kernel)⟩
theorem lw_p9 : lw_okq (⟨"TrailBreakers$SettingOut", "step", "(II)V"⟩, 5) := ⟨⟨by decide +kernel, by decide +kernel⟩, List.mem_of_getElem? (i := 202) (by decide +kernel), List.mem_of_getElem? (i := 488) (by decide +kernel), List.mem_of_getElem? (i := 489) (by decide +kernel)⟩
theorem lw_p10 : lw_okq (⟨"TrailBreakers", "mayReadBook", "()Z"⟩, 11) := ⟨⟨by decide +kernel, by decide +kernel⟩, List.mem_of_getElem? (i := 11) (by decide +kernel), List.mem_of_getElem? (i := 500) (by decide +kernel), List.mem_of_getElem? (i := 501) (by decide +kernel)⟩
theorem lw_p11 : lw_okq (⟨"TrailBreakers$BookFirsts", "goOn", "(II)V"⟩, 7) := ⟨⟨by decide +kernel, by decide +kernel⟩, List.mem_of_getElem? (i := 170) (by decide +kernel), List.mem_of_getElem? (i := 509) (by decide +kernel), List.mem_of_getElem? (i := 510) (by decide +kernel)⟩
theorem lw_p12 : lw_okq (⟨"TrailBreakers$BookFirsts", "note", "(I)V"⟩, 7) := ⟨⟨by decide +kernel, by decide +kernel⟩, List.mem_of_getElem? (i := 170) (by decide +kernel), List.mem_of_getElem? (i := 513) (by decide +kernel), List.mem_of_getElem? (i := 514) (by decide +kernel)⟩
theorem lw_p13 : lw_okq (⟨"TrailBreakers$BookFirsts", "step", "(III)V"⟩, 7) := ⟨⟨by decide +kernel, by decide +kernel⟩, List.mem_of_getElem? (i := 170) (by decide +kernel), List.mem_of_getElem? (i := 517) (by decide +kernel), List.mem_of_getElem? (i := 518) (by decide +kernel)⟩
theorem lw_p14 : lw_okq (⟨"TrailBreakers", "spendDays", "(II)I"⟩, 11) := ⟨⟨by decide +kernel, by decide +kernel⟩, List.mem_of_getElem? (i := 11) (by decide +kernel), List.mem_of_getElem? (i := 530) (by decide +kernel), List.mem_of_getElem? (i := 531) (by decide +kernel)⟩
theorem lw_p15 : lw_okq (⟨"TrailBreakersModel", "faultOf", "()I"⟩, 40) := ⟨⟨by decide +kernel, by decide +kernel⟩, List.mem_of_getElem? (i := 572) (by decide +kernel), List.mem_of_getElem? (i := 715) (by decide +kernel), List.mem_of_getElem? (i := 716) (by decide +kernel)⟩
def lw_privs_1 : List (MethodName × Nat) := [(⟨"TrailBreakers$Trail", "reckonDues", "()Z"⟩, 13), (⟨"TrailBreakers$Ways", "layOutStretch", "(I)V"⟩, 7), (⟨"TrailBreakers$BestFirsts", "goOn", "(IIII)V"⟩, 5), (⟨"TrailBreakers$BestFirsts", "isBeaten", "(II)Z"⟩, 5), (⟨"TrailBreakers$BestFirsts", "keep", "(II)V"⟩, 5), (⟨"TrailBreakers$BestFirsts", "step", "(III)V"⟩, 5), (⟨"TrailBreakers$SettingOut", "fillFrom", "(I)V"⟩, 5), (⟨"TrailBreakers$SettingOut", "tryFile", "()V"⟩, 5), (⟨"TrailBreakers$SettingOut", "startAnew", "()V"⟩, 5), (⟨"TrailBreakers$SettingOut", "step", "(II)V"⟩, 5), (⟨"TrailBreakers", "mayReadBook", "()Z"⟩, 11), (⟨"TrailBreakers$BookFirsts", "goOn", "(II)V"⟩, 7), (⟨"TrailBreakers$BookFirsts", "note", "(I)V"⟩, 7), (⟨"TrailBreakers$BookFirsts", "step", "(III)V"⟩, 7), (⟨"TrailBreakers", "spendDays", "(II)I"⟩, 11), (⟨"TrailBreakersModel", "faultOf", "()I"⟩, 40)]
theorem lw_r1 : ∀ q ∈ lw_privs_1, lw_okq q := List.forall_mem_cons.mpr ⟨lw_p0, List.forall_mem_cons.mpr ⟨lw_p1, List.forall_mem_cons.mpr ⟨lw_p2, List.forall_mem_cons.mpr ⟨lw_p3, List.forall_mem_cons.mpr ⟨lw_p4, List.forall_mem_cons.mpr ⟨lw_p5, List.forall_mem_cons.mpr ⟨lw_p6, List.forall_mem_cons.mpr ⟨lw_p7, List.forall_mem_cons.mpr ⟨lw_p8, List.forall_mem_cons.mpr ⟨lw_p9, List.forall_mem_cons.mpr ⟨lw_p10, List.forall_mem_cons.mpr ⟨lw_p11, List.forall_mem_cons.mpr ⟨lw_p12, List.forall_mem_cons.mpr ⟨lw_p13, List.forall_mem_cons.mpr ⟨lw_p14, List.forall_mem_cons.mpr ⟨lw_p15, fun _ h => absurd h List.not_mem_nil⟩⟩⟩⟩⟩⟩⟩⟩⟩⟩⟩⟩⟩⟩⟩⟩
theorem lw_p16 : lw_okq (⟨"TrailBreakersModel", "go", "(I)Z"⟩, 40) := ⟨⟨by decide +kernel, by decide +kernel⟩, List.mem_of_getElem? (i := 572) (by decide +kernel), List.mem_of_getElem? (i := 719) (by decide +kernel), List.mem_of_getElem? (i := 720) (by decide +kernel)⟩
theorem lw_p17 : lw_okq (⟨"TrailBreakersModel", "isStretch", "(I)Z"⟩, 40) := ⟨⟨by decide +kernel, by decide +kernel⟩, List.mem_of_getElem? (i := 572) (by decide +kernel), List.mem_of_getElem? (i := 736) (by decide +kernel), List.mem_of_getElem? (i := 737) (by decide +kernel)⟩
theorem lw_p18 : lw_okq (⟨"TrailBreakersModel", "lacks", "()Z"⟩, 40) := ⟨⟨by decide +kernel, by decide +kernel⟩, List.mem_of_getElem? (i := 572) (by decide +kernel), List.mem_of_getElem? (i := 746) (by decide +kernel), List.mem_of_getElem? (i := 747) (by decide +kernel)⟩
theorem lw_p19 : lw_okq (⟨"TrailBreakersModel", "isWalker", "(I)Z"⟩, 40) := ⟨⟨by decide +kernel, by decide +kernel⟩, List.mem_of_getElem? (i := 572) (by decide +kernel), List.mem_of_getElem? (i := 754) (by decide +kernel), List.mem_of_getElem? (i := 755) (by decide +kernel)⟩
theorem lw_p20 : lw_okq (⟨"TrailBreakersModel", "tells", "(II)I"⟩, 40) := ⟨⟨by decide +kernel, by decide +kernel⟩, List.mem_of_getElem? (i := 572) (by decide +kernel), List.mem_of_getElem? (i := 758) (by decide +kernel), List.mem_of_getElem? (i := 759) (by decide +kernel)⟩
theorem lw_p21 : lw_okq (⟨"TrailBreakersModel", "placeOf", "(I)I"⟩, 40) := ⟨⟨by decide +kernel, by decide +kernel⟩, List.mem_of_getElem? (i := 572) (by decide +kernel), List.mem_of_getElem? (i := 762) (by decide +kernel), List.mem_of_getElem? (i := 763) (by decide +kernel)⟩
theorem lw_p22 : lw_okq (⟨"TrailBreakersModel", "firstsOf", "(I)I"⟩, 40) := ⟨⟨by decide +kernel, by decide +kernel⟩, List.mem_of_getElem? (i := 572) (by decide +kernel), List.mem_of_getElem? (i := 766) (by decide +kernel), List.mem_of_getElem? (i := 767) (by decide +kernel)⟩
theorem lw_p23 : lw_okq (⟨"TrailBreakersModel", "paysAt", "([III)I"⟩, 40) := ⟨⟨by decide +kernel, by decide +kernel⟩, List.mem_of_getElem? (i := 572) (by decide +kernel), List.mem_of_getElem? (i := 770) (by decide +kernel), List.mem_of_getElem? (i := 771) (by decide +kernel)⟩
theorem lw_p24 : lw_okq (⟨"TrailBreakersModel", "asItIs", "()V"⟩, 40) := ⟨⟨by decide +kernel, by decide +kernel⟩, List.mem_of_getElem? (i := 572) (by decide +kernel), List.mem_of_getElem? (i := 782) (by decide +kernel), List.mem_of_getElem? (i := 783) (by decide +kernel)⟩
theorem lw_p25 : lw_okq (⟨"TrailBreakersModel", "canTread", "(I)Z"⟩, 40) := ⟨⟨by decide +kernel, by decide +kernel⟩, List.mem_of_getElem? (i := 572) (by decide +kernel), List.mem_of_getElem? (i := 786) (by decide +kernel), List.mem_of_getElem? (i := 787) (by decide +kernel)⟩
theorem lw_p26 : lw_okq (⟨"TrailBreakersModel", "treads", "(I)V"⟩, 40) := ⟨⟨by decide +kernel, by decide +kernel⟩, List.mem_of_getElem? (i := 572) (by decide +kernel), List.mem_of_getElem? (i := 790) (by decide +kernel), List.mem_of_getElem? (i := 791) (by decide +kernel)⟩
theorem lw_p27 : lw_okq (⟨"TrailBreakersModel", "layNow", "()V"⟩, 40) := ⟨⟨by decide +kernel, by decide +kernel⟩, List.mem_of_getElem? (i := 572) (by decide +kernel), List.mem_of_getElem? (i := 794) (by decide +kernel), List.mem_of_getElem? (i := 795) (by decide +kernel)⟩
theorem lw_p28 : lw_okq (⟨"TrailBreakersModel", "turns", "()V"⟩, 40) := ⟨⟨by decide +kernel, by decide +kernel⟩, List.mem_of_getElem? (i := 572) (by decide +kernel), List.mem_of_getElem? (i := 802) (by decide +kernel), List.mem_of_getElem? (i := 803) (by decide +kernel)⟩
theorem lw_p29 : lw_okq (⟨"TrailBreakersModel", "restsNow", "()I"⟩, 40) := ⟨⟨by decide +kernel, by decide +kernel⟩, List.mem_of_getElem? (i := 572) (by decide +kernel), List.mem_of_getElem? (i := 810) (by decide +kernel), List.mem_of_getElem? (i := 811) (by decide +kernel)⟩
theorem lw_p30 : lw_okq (⟨"TrailBreakersModel", "depthsLeft", "()I"⟩, 40) := ⟨⟨by decide +kernel, by decide +kernel⟩, List.mem_of_getElem? (i := 572) (by decide +kernel), List.mem_of_getElem? (i := 819) (by decide +kernel), List.mem_of_getElem? (i := 820) (by decide +kernel)⟩
theorem lw_p31 : lw_okq (⟨"TrailBreakersModel", "tellBest", "(I)I"⟩, 40) := ⟨⟨by decide +kernel, by decide +kernel⟩, List.mem_of_getElem? (i := 572) (by decide +kernel), List.mem_of_getElem? (i := 833) (by decide +kernel), List.mem_of_getElem? (i := 834) (by decide +kernel)⟩
def lw_privs_2 : List (MethodName × Nat) := [(⟨"TrailBreakersModel", "go", "(I)Z"⟩, 40), (⟨"TrailBreakersModel", "isStretch", "(I)Z"⟩, 40), (⟨"TrailBreakersModel", "lacks", "()Z"⟩, 40), (⟨"TrailBreakersModel", "isWalker", "(I)Z"⟩, 40), (⟨"TrailBreakersModel", "tells", "(II)I"⟩, 40), (⟨"TrailBreakersModel", "placeOf", "(I)I"⟩, 40), (⟨"TrailBreakersModel", "firstsOf", "(I)I"⟩, 40), (⟨"TrailBreakersModel", "paysAt", "([III)I"⟩, 40), (⟨"TrailBreakersModel", "asItIs", "()V"⟩, 40), (⟨"TrailBreakersModel", "canTread", "(I)Z"⟩, 40), (⟨"TrailBreakersModel", "treads", "(I)V"⟩, 40), (⟨"TrailBreakersModel", "layNow", "()V"⟩, 40), (⟨"TrailBreakersModel", "turns", "()V"⟩, 40), (⟨"TrailBreakersModel", "restsNow", "()I"⟩, 40), (⟨"TrailBreakersModel", "depthsLeft", "()I"⟩, 40), (⟨"TrailBreakersModel", "tellBest", "(I)I"⟩, 40)]
theorem lw_r2 : ∀ q ∈ lw_privs_2, lw_okq q := List.forall_mem_cons.mpr ⟨lw_p16, List.forall_mem_cons.mpr ⟨lw_p17, List.forall_mem_cons.mpr ⟨lw_p18, List.forall_mem_cons.mpr ⟨lw_p19, List.forall_mem_cons.mpr ⟨lw_p20, List.forall_mem_cons.mpr ⟨lw_p21, List.forall_mem_cons.mpr ⟨lw_p22, List.forall_mem_cons.mpr ⟨lw_p23, List.forall_mem_cons.mpr ⟨lw_p24, List.forall_mem_cons.mpr ⟨lw_p25, List.forall_mem_cons.mpr ⟨lw_p26, List.forall_mem_cons.mpr ⟨lw_p27, List.forall_mem_cons.mpr ⟨lw_p28, List.forall_mem_cons.mpr ⟨lw_p29, List.forall_mem_cons.mpr ⟨lw_p30, List.forall_mem_cons.mpr ⟨lw_p31, fun _ h => absurd h List.not_mem_nil⟩⟩⟩⟩⟩⟩⟩⟩⟩⟩⟩⟩⟩⟩⟩⟩
theorem lw_p32 : lw_okq (⟨"TrailBreakersModel", "layBest", "()V"⟩, 40) := ⟨⟨by decide +kernel, by decide +kernel⟩, List.mem_of_getElem? (i := 572) (by decide +kernel), List.mem_of_getElem? (i := 837) (by decide +kernel), List.mem_of_getElem? (i := 838) (by decide +kernel)⟩
theorem lw_p33 : lw_okq (⟨"TrailBreakersModel", "ways", "()I"⟩, 40) := ⟨⟨by decide +kernel, by decide +kernel⟩, List.mem_of_getElem? (i := 572) (by decide +kernel), List.mem_of_getElem? (i := 841) (by decide +kernel), List.mem_of_getElem? (i := 842) (by decide +kernel)⟩
theorem lw_p34 : lw_okq (⟨"TrailBreakersModel", "layWho", "(I)V"⟩, 40) := ⟨⟨by decide +kernel, by decide +kernel⟩, List.mem_of_getElem? (i := 572) (by decide +kernel), List.mem_of_getElem? (i := 845) (by decide +kernel), List.mem_of_getElem? (i := 846) (by decide +kernel)⟩
theorem lw_p35 : lw_okq (⟨"TrailBreakersModel", "goesBy", "()Z"⟩, 40) := ⟨⟨by decide +kernel, by decide +kernel⟩, List.mem_of_getElem? (i := 572) (by decide +kernel), List.mem_of_getElem? (i := 849) (by decide +kernel), List.mem_of_getElem? (i := 850) (by decide +kernel)⟩
theorem lw_p36 : lw_okq (⟨"TrailBreakersModel", "leastLeft", "()I"⟩, 40) := ⟨⟨by decide +kernel, by decide +kernel⟩, List.mem_of_getElem? (i := 572) (by decide +kernel), List.mem_of_getElem? (i := 853) (by decide +kernel), List.mem_of_getElem? (i := 854) (by decide +kernel)⟩
theorem lw_p37 : lw_okq (⟨"TrailBreakersModel", "farOf", "(I)I"⟩, 40) := ⟨⟨by decide +kernel, by decide +kernel⟩, List.mem_of_getElem? (i := 572) (by decide +kernel), List.mem_of_getElem? (i := 862) (by decide +kernel), List.mem_of_getElem? (i := 863) (by decide +kernel)⟩
theorem lw_p38 : lw_okq (⟨"TrailBreakersModel", "setOutLeft", "()I"⟩, 40) := ⟨⟨by decide +kernel, by decide +kernel⟩, List.mem_of_getElem? (i := 572) (by decide +kernel), List.mem_of_getElem? (i := 871) (by decide +kernel), List.mem_of_getElem? (i := 872) (by decide +kernel)⟩
theorem lw_p39 : lw_okq (⟨"TrailBreakersModel", "isOrder", "(I)Z"⟩, 40) := ⟨⟨by decide +kernel, by decide +kernel⟩, List.mem_of_getElem? (i := 572) (by decide +kernel), List.mem_of_getElem? (i := 875) (by decide +kernel), List.mem_of_getElem? (i := 876) (by decide +kernel)⟩
theorem lw_p40 : lw_okq (⟨"TrailBreakersModel", "setsOut", "()Z"⟩, 40) := ⟨⟨by decide +kernel, by decide +kernel⟩, List.mem_of_getElem? (i := 572) (by decide +kernel), List.mem_of_getElem? (i := 879) (by decide +kernel), List.mem_of_getElem? (i := 880) (by decide +kernel)⟩
theorem lw_p41 : lw_okq (⟨"TrailBreakersModel", "layFits", "()I"⟩, 40) := ⟨⟨by decide +kernel, by decide +kernel⟩, List.mem_of_getElem? (i := 572) (by decide +kernel), List.mem_of_getElem? (i := 895) (by decide +kernel), List.mem_of_getElem? (i := 896) (by decide +kernel)⟩
theorem lw_p42 : lw_okq (⟨"TrailBreakersModel", "isBooked", "()Z"⟩, 40) := ⟨⟨by decide +kernel, by decide +kernel⟩, List.mem_of_getElem? (i := 572) (by decide +kernel), List.mem_of_getElem? (i := 899) (by decide +kernel), List.mem_of_getElem? (i := 900) (by decide +kernel)⟩
theorem lw_p43 : lw_okq (⟨"TrailBreakersModel", "draw", "(I)I"⟩, 40) := ⟨⟨by decide +kernel, by decide +kernel⟩, List.mem_of_getElem? (i := 572) (by decide +kernel), List.mem_of_getElem? (i := 913) (by decide +kernel), List.mem_of_getElem? (i := 914) (by decide +kernel)⟩
theorem lw_p44 : lw_okq (⟨"TrailBreakersModel", "countOf", "(I)I"⟩, 40) := ⟨⟨by decide +kernel, by decide +kernel⟩, List.mem_of_getElem? (i := 572) (by decide +kernel), List.mem_of_getElem? (i := 933) (by decide +kernel), List.mem_of_getElem? (i := 934) (by decide +kernel)⟩
theorem lw_p45 : lw_okq (⟨"TrailBreakersModel", "say", "(J)V"⟩, 40) := ⟨⟨by decide +kernel, by decide +kernel⟩, List.mem_of_getElem? (i := 572) (by decide +kernel), List.mem_of_getElem? (i := 942) (by decide +kernel), List.mem_of_getElem? (i := 943) (by decide +kernel)⟩
def lw_privs_3 : List (MethodName × Nat) := [(⟨"TrailBreakersModel", "layBest", "()V"⟩, 40), (⟨"TrailBreakersModel", "ways", "()I"⟩, 40), (⟨"TrailBreakersModel", "layWho", "(I)V"⟩, 40), (⟨"TrailBreakersModel", "goesBy", "()Z"⟩, 40), (⟨"TrailBreakersModel", "leastLeft", "()I"⟩, 40), (⟨"TrailBreakersModel", "farOf", "(I)I"⟩, 40), (⟨"TrailBreakersModel", "setOutLeft", "()I"⟩, 40), (⟨"TrailBreakersModel", "isOrder", "(I)Z"⟩, 40), (⟨"TrailBreakersModel", "setsOut", "()Z"⟩, 40), (⟨"TrailBreakersModel", "layFits", "()I"⟩, 40), (⟨"TrailBreakersModel", "isBooked", "()Z"⟩, 40), (⟨"TrailBreakersModel", "draw", "(I)I"⟩, 40), (⟨"TrailBreakersModel", "countOf", "(I)I"⟩, 40), (⟨"TrailBreakersModel", "say", "(J)V"⟩, 40)]
theorem lw_r3 : ∀ q ∈ lw_privs_3, lw_okq q := List.forall_mem_cons.mpr ⟨lw_p32, List.forall_mem_cons.mpr ⟨lw_p33, List.forall_mem_cons.mpr ⟨lw_p34, List.forall_mem_cons.mpr ⟨lw_p35, List.forall_mem_cons.mpr ⟨lw_p36, List.forall_mem_cons.mpr ⟨lw_p37, List.forall_mem_cons.mpr ⟨lw_p38, List.forall_mem_cons.mpr ⟨lw_p39, List.forall_mem_cons.mpr ⟨lw_p40, List.forall_mem_cons.mpr ⟨lw_p41, List.forall_mem_cons.mpr ⟨lw_p42, List.forall_mem_cons.mpr ⟨lw_p43, List.forall_mem_cons.mpr ⟨lw_p44, List.forall_mem_cons.mpr ⟨lw_p45, fun _ h => absurd h List.not_mem_nil⟩⟩⟩⟩⟩⟩⟩⟩⟩⟩⟩⟩⟩⟩
def lw_privs : List (MethodName × Nat) := lw_privs_1 ++ (lw_privs_2 ++ (lw_privs_3))
def lw_tbl : List Cond := k2_sels lw_privs ++ tables_1
theorem lw_privs_ok : ∀ q ∈ lw_privs, lw_okq q := by
  show ∀ q ∈ lw_privs_1 ++ (lw_privs_2 ++ (lw_privs_3)), lw_okq q
  exact List.forall_mem_append.mpr ⟨lw_r1, List.forall_mem_append.mpr ⟨lw_r2, lw_r3⟩⟩
-- ===== end of PART A; then your names; then what follows =====

/-! the tables: classes, fields, methods, what an instruction names, by numbers -/
def RRs : List String := ["TrailBreakers$BestFirsts", "TrailBreakers$BookFirsts", "TrailBreakers$Page", "TrailBreakers$SettingOut", "TrailBreakers$Trail", "TrailBreakers$Ways", "TrailBreakers", "TrailBreakersModel", "TrailBreakersLaw"]
def RR (k : Nat) : String := RRs.getD k ""
def fts : List (List (String × String × String × Bool)) := [[("TrailBreakers$BestFirsts", "ways", "LTrailBreakers$Ways;", true), ("TrailBreakers$BestFirsts", "tried", "[I", true), ("TrailBreakers$BestFirsts", "firsts", "[I", true), ("TrailBreakers$BestFirsts", "least", "I", false), ("TrailBreakers$BestFirsts", "changes", "I", false)], [("TrailBreakers$BookFirsts", "ways", "LTrailBreakers$Ways;", true), ("TrailBreakers$BookFirsts", "told", "[I", true), ("TrailBreakers$BookFirsts", "often", "[I", true), ("TrailBreakers$BookFirsts", "tried", "[I", true), ("TrailBreakers$BookFirsts", "owed", "I", false), ("TrailBreakers$BookFirsts", "found", "I", false), ("TrailBreakers$BookFirsts", "agreed", "I", false)], [("TrailBreakers$Page", "codes", "[I", true), ("TrailBreakers$Page", "size", "I", false)], [("TrailBreakers$SettingOut", "trial", "LTrailBreakers$Trail;", true), ("TrailBreakers$SettingOut", "placed", "[Z", true), ("TrailBreakers$SettingOut", "tried", "[I", true), ("TrailBreakers$SettingOut", "file", "[I", true), ("TrailBreakers$SettingOut", "least", "I", false)], [("TrailBreakers$Trail", "stretches", "I", false), ("TrailBreakers$Trail", "melt", "I", false), ("TrailBreakers$Trail", "trodden", "I", false), ("TrailBreakers$Trail", "walkers", "I", false), ("TrailBreakers$Trail", "minutes", "I", false), ("TrailBreakers$Trail", "depth", "[I", true), ("TrailBreakers$Trail", "firstOn", "[I", true), ("TrailBreakers$Trail", "kind", "[I", true), ("TrailBreakers$Trail", "strength", "[I", true), ("TrailBreakers$Trail", "left", "[I", true), ("TrailBreakers$Trail", "told", "[I", true), ("TrailBreakers$Trail", "file", "[I", true), ("TrailBreakers$Trail", "dues", "[I", true)], [("TrailBreakers$Ways", "turned", "LTrailBreakers$Trail;", true), ("TrailBreakers$Ways", "pays", "[I", true), ("TrailBreakers$Ways", "leftAhead", "[I", true), ("TrailBreakers$Ways", "place", "[I", true), ("TrailBreakers$Ways", "walkers", "I", false), ("TrailBreakers$Ways", "from", "I", false), ("TrailBreakers$Ways", "stretches", "I", false)], [("TrailBreakers", "page", "LTrailBreakers$Page;", true), ("TrailBreakers", "now", "LTrailBreakers$Trail;", true), ("TrailBreakers", "kept", "LTrailBreakers$Trail;", true), ("TrailBreakers", "trial", "LTrailBreakers$Trail;", true), ("TrailBreakers", "bestFirsts", "LTrailBreakers$BestFirsts;", true), ("TrailBreakers", "bookFirsts", "LTrailBreakers$BookFirsts;", true), ("TrailBreakers", "settingOut", "LTrailBreakers$SettingOut;", true), ("TrailBreakers", "imageStands", "Z", false), ("TrailBreakers", "slopesRead", "I", false), ("TrailBreakers", "bestDone", "I", false), ("TrailBreakers", "fitsDone", "I", false)], [("TrailBreakersModel", "page", "[I", true), ("TrailBreakersModel", "pageMany", "I", false), ("TrailBreakersModel", "state", "I", false), ("TrailBreakersModel", "readMany", "I", false), ("TrailBreakersModel", "stretches", "I", false), ("TrailBreakersModel", "melt", "I", false), ("TrailBreakersModel", "trodden", "I", false), ("TrailBreakersModel", "minutes", "I", false), ("TrailBreakersModel", "slopesRead", "I", false), ("TrailBreakersModel", "depths", "[I", true), ("TrailBreakersModel", "firsts", "[I", true), ("TrailBreakersModel", "walkers", "I", false), ("TrailBreakersModel", "rows", "[I", true), ("TrailBreakersModel", "left", "[I", true), ("TrailBreakersModel", "file", "[I", true), ("TrailBreakersModel", "nowFile", "[I", true), ("TrailBreakersModel", "nowLeft", "[I", true), ("TrailBreakersModel", "who", "[I", true), ("TrailBreakersModel", "changes", "I", false), ("TrailBreakersModel", "bestMany", "I", false), ("TrailBreakersModel", "bestCode", "I", false), ("TrailBreakersModel", "bestLeft", "I", false), ("TrailBreakersModel", "bestChanges", "I", false), ("TrailBreakersModel", "order", "[I", true), ("TrailBreakersModel", "bestOrder", "[I", true), ("TrailBreakersModel", "asked", "I", false), ("TrailBreakersModel", "often", "[I", true), ("TrailBreakersModel", "may", "[I", true), ("TrailBreakersModel", "seedNow", "I", false), ("TrailBreakersModel", "savedDepths", "[I", true), ("TrailBreakersModel", "keptSlope", "I", false), ("TrailBreakersModel", "keptWalkers", "I", false), ("TrailBreakersModel", "keptTrodden", "I", false), ("TrailBreakersModel", "keptMinutes", "I", false), ("TrailBreakersModel", "keptRows", "[I", true), ("TrailBreakersModel", "keptLeft", "[I", true), ("TrailBreakersModel", "keptFile", "[I", true), ("TrailBreakersModel", "keptDepths", "[I", true), ("TrailBreakersModel", "keptFirsts", "[I", true), ("TrailBreakersModel", "hash", "J", false)]]
def TT (c : Nat) : u_T := fun k => (fts.getD c []).getD k ("", "", "", false)
def NNs : List Nat := [5, 7, 2, 5, 13, 7, 11, 40]
def NN (c : Nat) : Nat := NNs.getD c 0
def tys : List (List FieldType) := [[.object "TrailBreakers$Ways", .array .int, .array .int, .int, .int], [.object "TrailBreakers$Ways", .array .int, .array .int, .array .int, .int, .int, .int], [.array .int, .int], [.object "TrailBreakers$Trail", .array .boolean, .array .int, .array .int, .int], [.int, .int, .int, .int, .int, .array .int, .array .int, .array .int, .array .int, .array .int, .array .int, .array .int, .array .int], [.object "TrailBreakers$Trail", .array .int, .array .int, .array .int, .int, .int, .int], [.object "TrailBreakers$Page", .object "TrailBreakers$Trail", .object "TrailBreakers$Trail", .object "TrailBreakers$Trail", .object "TrailBreakers$BestFirsts", .object "TrailBreakers$BookFirsts", .object "TrailBreakers$SettingOut", .boolean, .int, .int, .int], [.array .int, .int, .int, .int, .int, .int, .int, .int, .int, .array .int, .array .int, .int, .array .int, .array .int, .array .int, .array .int, .array .int, .array .int, .int, .int, .int, .int, .int, .array .int, .array .int, .int, .array .int, .array .int, .int, .array .int, .int, .int, .int, .int, .array .int, .array .int, .array .int, .array .int, .array .int, .long]]
def TY (c : Nat) : Nat → FieldType := fun k => (tys.getD c []).getD k .int
def clss : List vw_C := (List.range 8).map fun c => (RR c, TT c, NN c)
def yys : List MethodName := [⟨"TrailBreakers$BestFirsts", "<init>", "()V"⟩, ⟨"TrailBreakers$BestFirsts", "search", "(LTrailBreakers$Trail;)V"⟩, ⟨"TrailBreakers$BestFirsts", "goOn", "(IIII)V"⟩, ⟨"TrailBreakers$BestFirsts", "step", "(III)V"⟩, ⟨"TrailBreakers$BestFirsts", "isBeaten", "(II)Z"⟩, ⟨"TrailBreakers$BestFirsts", "keep", "(II)V"⟩, ⟨"TrailBreakers$BookFirsts", "<init>", "()V"⟩, ⟨"TrailBreakers$BookFirsts", "search", "(LTrailBreakers$Trail;I)V"⟩, ⟨"TrailBreakers$BookFirsts", "goOn", "(II)V"⟩, ⟨"TrailBreakers$BookFirsts", "step", "(III)V"⟩, ⟨"TrailBreakers$BookFirsts", "note", "(I)V"⟩, ⟨"TrailBreakers$Page", "<init>", "()V"⟩, ⟨"TrailBreakers$Page", "append", "(I)V"⟩, ⟨"TrailBreakers$Page", "firstWrongPlace", "()I"⟩, ⟨"TrailBreakers$Page", "placesForDigits", "(I)I"⟩, ⟨"TrailBreakers$Page", "isSlope", "()Z"⟩, ⟨"TrailBreakers$Page", "digitAt", "(I)I"⟩, ⟨"TrailBreakers$SettingOut", "<init>", "()V"⟩, ⟨"TrailBreakers$SettingOut", "search", "(LTrailBreakers$Trail;)V"⟩, ⟨"TrailBreakers$SettingOut", "fillFrom", "(I)V"⟩, ⟨"TrailBreakers$SettingOut", "step", "(II)V"⟩, ⟨"TrailBreakers$SettingOut", "tryFile", "()V"⟩, ⟨"TrailBreakers$SettingOut", "startAnew", "()V"⟩, ⟨"TrailBreakers$Trail", "<init>", "()V"⟩, ⟨"TrailBreakers$Trail", "begin", "(LTrailBreakers$Page;)V"⟩, ⟨"TrailBreakers$Trail", "copyFrom", "(LTrailBreakers$Trail;)V"⟩, ⟨"TrailBreakers$Trail", "hasStretch", "(I)Z"⟩, ⟨"TrailBreakers$Trail", "hasWalker", "(I)Z"⟩, ⟨"TrailBreakers$Trail", "join", "(II)I"⟩, ⟨"TrailBreakers$Trail", "isOfKind", "(II)Z"⟩, ⟨"TrailBreakers$Trail", "placeOf", "(I)I"⟩, ⟨"TrailBreakers$Trail", "timesFirst", "(I)I"⟩, ⟨"TrailBreakers$Trail", "nextPay", "(I)I"⟩, ⟨"TrailBreakers$Trail", "payAt", "(II)I"⟩, ⟨"TrailBreakers$Trail", "treadNext", "()Z"⟩, ⟨"TrailBreakers$Trail", "reckonDues", "()Z"⟩, ⟨"TrailBreakers$Trail", "changeFirst", "()V"⟩, ⟨"TrailBreakers$Trail", "restAll", "()I"⟩, ⟨"TrailBreakers$Trail", "deepenBy", "(I)V"⟩, ⟨"TrailBreakers$Trail", "depthAhead", "()I"⟩, ⟨"TrailBreakers$Trail", "leftOfAll", "()I"⟩, ⟨"TrailBreakers$Trail", "leastLeft", "()I"⟩, ⟨"TrailBreakers$Trail", "toldOf", "()I"⟩, ⟨"TrailBreakers$Ways", "<init>", "()V"⟩, ⟨"TrailBreakers$Ways", "layOut", "(LTrailBreakers$Trail;)V"⟩, ⟨"TrailBreakers$Ways", "layOutStretch", "(I)V"⟩, ⟨"TrailBreakers$Ways", "rowOfPays", "(II)I"⟩, ⟨"TrailBreakers$Ways", "leastBehind", "(II)I"⟩, ⟨"TrailBreakers$Ways", "changesFrom", "(II)I"⟩, ⟨"TrailBreakers", "<init>", "()V"⟩, ⟨"TrailBreakers", "letter", "(I)I"⟩, ⟨"TrailBreakers", "blank", "()I"⟩, ⟨"TrailBreakers", "fault", "()I"⟩, ⟨"TrailBreakers", "slope", "()I"⟩, ⟨"TrailBreakers", "stretch", "(II)I"⟩, ⟨"TrailBreakers", "walker", "(II)I"⟩, ⟨"TrailBreakers", "about", "(II)I"⟩, ⟨"TrailBreakers", "as", "(II)I"⟩, ⟨"TrailBreakers", "tread", "()I"⟩, ⟨"TrailBreakers", "change", "()I"⟩, ⟨"TrailBreakers", "rest", "()I"⟩, ⟨"TrailBreakers", "snow", "(I)I"⟩, ⟨"TrailBreakers", "sun", "()I"⟩, ⟨"TrailBreakers", "best", "(I)I"⟩, ⟨"TrailBreakers", "far", "(I)I"⟩, ⟨"TrailBreakers", "setOut", "(I)I"⟩, ⟨"TrailBreakers", "tell", "(II)I"⟩, ⟨"TrailBreakers", "fits", "()I"⟩, ⟨"TrailBreakers", "sure", "(I)I"⟩, ⟨"TrailBreakers", "days", "(III)I"⟩, ⟨"TrailBreakers", "image", "()I"⟩, ⟨"TrailBreakers", "restore", "()I"⟩, ⟨"TrailBreakers", "count", "(I)I"⟩, ⟨"TrailBreakers", "digest", "()J"⟩, ⟨"TrailBreakers", "isKind", "(I)Z"⟩, ⟨"TrailBreakers", "mayReadBook", "()Z"⟩, ⟨"TrailBreakers", "spendDays", "(II)I"⟩, ⟨"TrailBreakers", "nextSeed", "(I)I"⟩, ⟨"TrailBreakersModel", "<init>", "()V"⟩, ⟨"TrailBreakersModel", "in", "(JJJ)Z"⟩, ⟨"TrailBreakersModel", "letter", "(I)I"⟩, ⟨"TrailBreakersModel", "blank", "()I"⟩, ⟨"TrailBreakersModel", "isDigit", "(I)Z"⟩, ⟨"TrailBreakersModel", "go", "(I)Z"⟩, ⟨"TrailBreakersModel", "faultOf", "()I"⟩, ⟨"TrailBreakersModel", "fault", "()I"⟩, ⟨"TrailBreakersModel", "slope", "()I"⟩, ⟨"TrailBreakersModel", "lacks", "()Z"⟩, ⟨"TrailBreakersModel", "isStretch", "(I)Z"⟩, ⟨"TrailBreakersModel", "stretch", "(II)I"⟩, ⟨"TrailBreakersModel", "isWalker", "(I)Z"⟩, ⟨"TrailBreakersModel", "walker", "(II)I"⟩, ⟨"TrailBreakersModel", "paysAt", "([III)I"⟩, ⟨"TrailBreakersModel", "placeOf", "(I)I"⟩, ⟨"TrailBreakersModel", "firstsOf", "(I)I"⟩, ⟨"TrailBreakersModel", "tells", "(II)I"⟩, ⟨"TrailBreakersModel", "about", "(II)I"⟩, ⟨"TrailBreakersModel", "as", "(II)I"⟩, ⟨"TrailBreakersModel", "asItIs", "()V"⟩, ⟨"TrailBreakersModel", "layNow", "()V"⟩, ⟨"TrailBreakersModel", "turns", "()V"⟩, ⟨"TrailBreakersModel", "canTread", "(I)Z"⟩, ⟨"TrailBreakersModel", "treads", "(I)V"⟩, ⟨"TrailBreakersModel", "leastLeft", "()I"⟩, ⟨"TrailBreakersModel", "tread", "()I"⟩, ⟨"TrailBreakersModel", "change", "()I"⟩, ⟨"TrailBreakersModel", "restsNow", "()I"⟩, ⟨"TrailBreakersModel", "rest", "()I"⟩, ⟨"TrailBreakersModel", "depthsLeft", "()I"⟩, ⟨"TrailBreakersModel", "snow", "(I)I"⟩, ⟨"TrailBreakersModel", "sun", "()I"⟩, ⟨"TrailBreakersModel", "ways", "()I"⟩, ⟨"TrailBreakersModel", "layWho", "(I)V"⟩, ⟨"TrailBreakersModel", "goesBy", "()Z"⟩, ⟨"TrailBreakersModel", "layBest", "()V"⟩, ⟨"TrailBreakersModel", "tellBest", "(I)I"⟩, ⟨"TrailBreakersModel", "best", "(I)I"⟩, ⟨"TrailBreakersModel", "farOf", "(I)I"⟩, ⟨"TrailBreakersModel", "far", "(I)I"⟩, ⟨"TrailBreakersModel", "isOrder", "(I)Z"⟩, ⟨"TrailBreakersModel", "setsOut", "()Z"⟩, ⟨"TrailBreakersModel", "setOutLeft", "()I"⟩, ⟨"TrailBreakersModel", "setOut", "(I)I"⟩, ⟨"TrailBreakersModel", "tell", "(II)I"⟩, ⟨"TrailBreakersModel", "isBooked", "()Z"⟩, ⟨"TrailBreakersModel", "layFits", "()I"⟩, ⟨"TrailBreakersModel", "fits", "()I"⟩, ⟨"TrailBreakersModel", "sure", "(I)I"⟩, ⟨"TrailBreakersModel", "draw", "(I)I"⟩, ⟨"TrailBreakersModel", "copy", "([I[I)V"⟩, ⟨"TrailBreakersModel", "days", "(III)I"⟩, ⟨"TrailBreakersModel", "image", "()I"⟩, ⟨"TrailBreakersModel", "restore", "()I"⟩, ⟨"TrailBreakersModel", "countOf", "(I)I"⟩, ⟨"TrailBreakersModel", "count", "(I)I"⟩, ⟨"TrailBreakersModel", "say", "(J)V"⟩, ⟨"TrailBreakersModel", "digest", "()J"⟩, ⟨"TrailBreakersLaw", "law", "([I)Z"⟩]
def yy (m : Nat) : MethodName := yys.getD m ⟨"", "", ""⟩
def cbs : List ByteArray := [prog_2_method_1_code, prog_2_method_2_code, prog_2_method_3_code, prog_2_method_4_code, prog_2_method_5_code, prog_2_method_6_code, prog_3_method_1_code, prog_3_method_2_code, prog_3_method_3_code, prog_3_method_4_code, prog_3_method_5_code, prog_4_method_1_code, prog_4_method_2_code, prog_4_method_3_code, prog_4_method_4_code, prog_4_method_5_code, prog_4_method_6_code, prog_5_method_1_code, prog_5_method_2_code, prog_5_method_3_code, prog_5_method_4_code, prog_5_method_5_code, prog_5_method_6_code, prog_6_method_1_code, prog_6_method_2_code, prog_6_method_3_code, prog_6_method_4_code, prog_6_method_5_code, prog_6_method_6_code, prog_6_method_7_code, prog_6_method_8_code, prog_6_method_9_code, prog_6_method_10_code, prog_6_method_11_code, prog_6_method_12_code, prog_6_method_13_code, prog_6_method_14_code, prog_6_method_15_code, prog_6_method_16_code, prog_6_method_17_code, prog_6_method_18_code, prog_6_method_19_code, prog_6_method_20_code, prog_7_method_1_code, prog_7_method_2_code, prog_7_method_3_code, prog_7_method_4_code, prog_7_method_5_code, prog_7_method_6_code, prog_1_method_1_code, prog_1_method_2_code, prog_1_method_3_code, prog_1_method_4_code, prog_1_method_5_code, prog_1_method_6_code, prog_1_method_7_code, prog_1_method_8_code, prog_1_method_9_code, prog_1_method_10_code, prog_1_method_11_code, prog_1_method_12_code, prog_1_method_13_code, prog_1_method_14_code, prog_1_method_15_code, prog_1_method_16_code, prog_1_method_17_code, prog_1_method_18_code, prog_1_method_19_code, prog_1_method_20_code, prog_1_method_21_code, prog_1_method_22_code, prog_1_method_23_code, prog_1_method_24_code, prog_1_method_25_code, prog_1_method_26_code, prog_1_method_27_code, prog_1_method_28_code, prog_1_method_29_code, prog_9_method_1_code, prog_9_method_2_code, prog_9_method_3_code, prog_9_method_4_code, prog_9_method_5_code, prog_9_method_6_code, prog_9_method_7_code, prog_9_method_8_code, prog_9_method_9_code, prog_9_method_10_code, prog_9_method_11_code, prog_9_method_12_code, prog_9_method_13_code, prog_9_method_14_code, prog_9_method_15_code, prog_9_method_16_code, prog_9_method_17_code, prog_9_method_18_code, prog_9_method_19_code, prog_9_method_20_code, prog_9_method_21_code, prog_9_method_22_code, prog_9_method_23_code, prog_9_method_24_code, prog_9_method_25_code, prog_9_method_26_code, prog_9_method_27_code, prog_9_method_28_code, prog_9_method_29_code, prog_9_method_30_code, prog_9_method_31_code, prog_9_method_32_code, prog_9_method_33_code, prog_9_method_34_code, prog_9_method_35_code, prog_9_method_36_code, prog_9_method_37_code, prog_9_method_38_code, prog_9_method_39_code, prog_9_method_40_code, prog_9_method_41_code, prog_9_method_42_code, prog_9_method_43_code, prog_9_method_44_code, prog_9_method_45_code, prog_9_method_46_code, prog_9_method_47_code, prog_9_method_48_code, prog_9_method_49_code, prog_9_method_50_code, prog_9_method_51_code, prog_9_method_52_code, prog_9_method_53_code, prog_9_method_54_code, prog_9_method_55_code, prog_9_method_56_code, prog_9_method_57_code, prog_9_method_58_code, prog_9_method_59_code, code]
def cb (m : Nat) : ByteArray := cbs.getD m ByteArray.empty
def mls : List Nat := [1, 3, 6, 5, 3, 4, 1, 4, 4, 5, 2, 1, 2, 4, 1, 1, 2, 1, 3, 3, 3, 2, 2, 1, 3, 3, 2, 2, 4, 3, 3, 4, 3, 5, 4, 3, 3, 3, 3, 3, 3, 3, 3, 1, 4, 4, 2, 8, 4, 1, 2, 2, 1, 1, 3, 3, 3, 3, 1, 1, 1, 2, 1, 3, 3, 3, 4, 1, 2, 5, 1, 1, 2, 5, 1, 1, 6, 1, 1, 6, 2, 2, 1, 3, 2, 1, 2, 1, 2, 3, 2, 3, 8, 3, 4, 3, 3, 5, 2, 2, 3, 4, 3, 3, 3, 1, 4, 2, 3, 3, 2, 3, 4, 3, 4, 2, 2, 3, 2, 5, 3, 4, 3, 4, 3, 4, 1, 4, 2, 3, 9, 1, 1, 5, 2, 3, 3, 4]
def ml (m : Nat) : Nat := mls.getD m 0
def rts : List (Option FieldType) := [none, none, none, none, some .boolean, none, none, none, none, none, none, none, none, some .int, some .int, some .boolean, some .int, none, none, none, none, none, none, none, none, none, some .boolean, some .boolean, some .int, some .boolean, some .int, some .int, some .int, some .int, some .boolean, some .boolean, none, some .int, none, some .int, some .int, some .int, some .int, none, none, none, some .int, some .int, some .int, none, some .int, some .int, some .int, some .int, some .int, some .int, some .int, some .int, some .int, some .int, some .int, some .int, some .int, some .int, some .int, some .int, some .int, some .int, some .int, some .int, some .int, some .int, some .int, some .long, some .boolean, some .boolean, some .int, some .int, none, some .boolean, some .int, some .int, some .boolean, some .boolean, some .int, some .int, some .int, some .boolean, some .boolean, some .int, some .boolean, some .int, some .int, some .int, some .int, some .int, some .int, some .int, none, none, none, some .boolean, none, some .int, some .int, some .int, some .int, some .int, some .int, some .int, some .int, some .int, none, some .boolean, none, some .int, some .int, some .int, some .int, some .boolean, some .boolean, some .int, some .int, some .int, some .boolean, some .int, some .int, some .int, some .int, none, some .int, some .int, some .int, some .int, some .int, none, some .long, some .boolean]
def rt (m : Nat) : Option FieldType := rts.getD m none
def ows : List Nat := [0, 0, 0, 0, 0, 0, 1, 1, 1, 1, 1, 2, 2, 2, 2, 2, 2, 3, 3, 3, 3, 3, 3, 4, 4, 4, 4, 4, 4, 4, 4, 4, 4, 4, 4, 4, 4, 4, 4, 4, 4, 4, 4, 5, 5, 5, 5, 5, 5, 6, 6, 6, 6, 6, 6, 6, 6, 6, 6, 6, 6, 6, 6, 6, 6, 6, 6, 6, 6, 6, 6, 6, 6, 6, 6, 6, 6, 6, 7, 7, 7, 7, 7, 7, 7, 7, 7, 7, 7, 7, 7, 7, 7, 7, 7, 7, 7, 7, 7, 7, 7, 7, 7, 7, 7, 7, 7, 7, 7, 7, 7, 7, 7, 7, 7, 7, 7, 7, 7, 7, 7, 7, 7, 7, 7, 7, 7, 7, 7, 7, 7, 7, 7, 7, 7, 7, 7, 8]
def ow (m : Nat) : Nat := ows.getD m 0
def ftb : List (Nat × Nat × Nat × Nat × Nat × Int) := [(0, 12, 0, 0, 3, 196), (0, 18, 0, 1, 3, 197), (0, 22, 0, 2, 3, 198), (0, 25, 0, 3, 0, 200), (0, 29, 0, 4, 0, 202), (0, 36, 4, 2, 0, 95), (0, 41, 4, 11, 3, 124), (0, 56, 5, 6, 0, 180), (0, 63, 5, 4, 0, 175), (1, 12, 1, 0, 3, 223), (1, 18, 1, 1, 3, 224), (1, 22, 1, 2, 3, 225), (1, 25, 1, 3, 3, 226), (1, 28, 1, 4, 0, 227), (1, 32, 1, 5, 0, 228), (1, 35, 1, 6, 0, 230), (1, 42, 4, 3, 0, 101), (1, 47, 4, 10, 3, 121), (1, 48, 4, 2, 0, 96), (1, 55, 5, 6, 0, 179), (1, 62, 5, 4, 0, 176), (2, 9, 2, 0, 3, 70), (2, 15, 2, 1, 0, 72), (3, 12, 3, 0, 3, 255), (3, 18, 3, 1, 3, 256), (3, 22, 3, 2, 3, 257), (3, 26, 3, 3, 3, 258), (3, 29, 3, 4, 0, 260), (3, 41, 4, 3, 0, 102), (3, 54, 4, 0, 0, 89), (3, 64, 4, 2, 0, 97), (3, 71, 4, 9, 3, 118), (3, 74, 4, 8, 3, 114), (3, 77, 4, 11, 3, 126), (4, 9, 4, 0, 0, 87), (4, 15, 4, 1, 0, 91), (4, 18, 4, 2, 0, 93), (4, 21, 4, 3, 0, 99), (4, 24, 4, 4, 0, 104), (4, 27, 4, 5, 3, 106), (4, 31, 4, 6, 3, 109), (4, 34, 4, 7, 3, 111), (4, 37, 4, 8, 3, 113), (4, 40, 4, 9, 3, 116), (4, 43, 4, 10, 3, 120), (4, 46, 4, 11, 3, 123), (4, 49, 4, 12, 3, 128), (4, 52, 2, 1, 0, 73), (5, 12, 5, 0, 3, 170), (5, 18, 5, 1, 3, 171), (5, 22, 5, 2, 3, 172), (5, 25, 5, 3, 3, 173), (5, 28, 5, 4, 0, 174), (5, 32, 5, 5, 0, 177), (5, 35, 5, 6, 0, 178), (5, 42, 4, 3, 0, 100), (5, 43, 4, 2, 0, 94), (5, 46, 4, 0, 0, 88), (5, 47, 4, 9, 3, 117), (5, 50, 4, 11, 3, 125), (5, 64, 4, 5, 3, 107), (6, 10, 6, 0, 3, 274), (6, 19, 6, 1, 3, 275), (6, 23, 6, 2, 3, 276), (6, 26, 6, 3, 3, 277), (6, 32, 6, 4, 3, 278), (6, 39, 6, 5, 3, 279), (6, 46, 6, 6, 3, 280), (6, 50, 6, 7, 1, 281), (6, 54, 6, 8, 0, 282), (6, 58, 6, 9, 0, 283), (6, 61, 6, 10, 0, 284), (6, 64, 2, 1, 0, 74), (6, 83, 4, 0, 0, 90), (6, 90, 4, 5, 3, 108), (6, 94, 4, 6, 3, 110), (6, 100, 4, 3, 0, 103), (6, 110, 4, 7, 3, 112), (6, 113, 4, 8, 3, 115), (6, 116, 4, 9, 3, 119), (6, 129, 4, 10, 3, 122), (6, 139, 4, 2, 0, 98), (6, 145, 4, 11, 3, 127), (6, 157, 4, 1, 0, 92), (6, 164, 0, 2, 3, 199), (6, 167, 0, 3, 0, 201), (6, 170, 0, 4, 0, 203), (6, 177, 3, 3, 3, 259), (6, 178, 3, 4, 0, 261), (6, 185, 1, 5, 0, 229), (6, 188, 1, 6, 0, 231), (6, 197, 4, 4, 0, 105), (6, 219, 2, 0, 3, 71), (7, 7, 7, 0, 3, 623), (7, 13, 7, 9, 3, 632), (7, 16, 7, 10, 3, 633), (7, 19, 7, 12, 3, 635), (7, 22, 7, 13, 3, 636), (7, 25, 7, 14, 3, 637), (7, 28, 7, 15, 3, 638), (7, 31, 7, 16, 3, 639), (7, 34, 7, 17, 3, 640), (7, 37, 7, 23, 3, 646), (7, 40, 7, 24, 3, 647), (7, 43, 7, 26, 3, 649), (7, 46, 7, 27, 3, 650), (7, 49, 7, 29, 3, 652), (7, 52, 7, 34, 3, 657), (7, 55, 7, 35, 3, 658), (7, 58, 7, 36, 3, 659), (7, 61, 7, 37, 3, 660), (7, 64, 7, 38, 3, 661), (7, 67, 7, 30, 0, 653), (7, 77, 7, 1, 0, 624), (7, 84, 7, 2, 0, 625), (7, 87, 7, 3, 0, 626), (7, 101, 7, 4, 0, 627), (7, 104, 7, 5, 0, 628), (7, 107, 7, 6, 0, 629), (7, 110, 7, 7, 0, 630), (7, 113, 7, 11, 0, 634), (7, 116, 7, 8, 0, 631), (7, 172, 7, 18, 0, 641), (7, 175, 7, 20, 0, 643), (7, 178, 7, 21, 0, 644), (7, 181, 7, 22, 0, 645), (7, 203, 7, 19, 0, 642), (7, 234, 7, 25, 0, 648), (7, 242, 7, 28, 0, 651), (7, 257, 7, 31, 0, 654), (7, 260, 7, 32, 0, 655), (7, 263, 7, 33, 0, 656), (7, 271, 7, 39, 2, 662)]
def mtb : List (Nat × Nat × Nat × Nat × Nat × Int) := [(0, 3, 0, 0, 4, 161), (0, 11, 43, 0, 3, 164), (0, 32, 44, 1, 0, 458), (0, 44, 41, 0, 0, 475), (0, 48, 2, 4, 0, 479), (0, 52, 4, 2, 0, 483), (0, 59, 5, 2, 0, 487), (0, 66, 48, 2, 0, 491), (0, 70, 3, 3, 0, 495), (0, 74, 47, 2, 0, 499), (1, 3, 0, 0, 4, 220), (1, 11, 43, 0, 3, 222), (1, 38, 44, 1, 0, 553), (1, 51, 8, 2, 0, 554), (1, 58, 10, 1, 0, 558), (1, 63, 9, 3, 0, 562), (1, 67, 47, 2, 0, 566), (2, 3, 0, 0, 4, 69), (2, 19, 14, 1, 1, 328), (2, 23, 13, 0, 0, 339), (3, 3, 0, 0, 4, 252), (3, 11, 23, 0, 3, 254), (3, 33, 25, 1, 0, 517), (3, 37, 19, 1, 0, 518), (3, 44, 21, 0, 0, 522), (3, 47, 20, 2, 0, 533), (3, 51, 22, 0, 0, 526), (3, 57, 34, 0, 0, 530), (3, 61, 36, 0, 0, 531), (3, 67, 41, 0, 0, 532), (4, 3, 0, 0, 4, 86), (4, 57, 0, 2, 5, 344), (4, 63, 16, 1, 0, 347), (4, 67, 30, 1, 0, 390), (4, 70, 33, 2, 0, 391), (4, 73, 35, 0, 0, 411), (4, 77, 0, 2, 6, 439), (5, 3, 0, 0, 4, 167), (5, 11, 23, 0, 3, 169), (5, 38, 25, 1, 0, 462), (5, 53, 45, 1, 0, 466), (5, 57, 36, 0, 0, 474), (5, 60, 46, 2, 1, 470), (5, 67, 33, 2, 0, 473), (5, 70, 0, 2, 5, 503), (6, 1, 0, 0, 4, 61), (6, 9, 11, 0, 3, 66), (6, 18, 23, 0, 3, 83), (6, 31, 0, 0, 3, 158), (6, 38, 6, 0, 3, 217), (6, 45, 17, 0, 3, 249), (6, 67, 12, 1, 0, 312), (6, 71, 13, 0, 0, 324), (6, 75, 15, 0, 0, 335), (6, 79, 24, 1, 0, 340), (6, 86, 26, 1, 0, 355), (6, 97, 74, 1, 1, 363), (6, 103, 28, 2, 0, 366), (6, 107, 27, 1, 0, 374), (6, 119, 30, 1, 0, 378), (6, 123, 31, 1, 0, 382), (6, 126, 32, 1, 0, 386), (6, 132, 29, 2, 0, 399), (6, 136, 34, 0, 0, 407), (6, 142, 36, 0, 0, 419), (6, 148, 37, 0, 0, 427), (6, 151, 38, 1, 0, 435), (6, 154, 39, 0, 0, 442), (6, 160, 1, 1, 0, 454), (6, 173, 25, 1, 0, 508), (6, 176, 18, 1, 0, 513), (6, 179, 75, 0, 0, 545), (6, 182, 7, 2, 0, 549), (6, 191, 76, 2, 0, 575), (6, 194, 40, 0, 0, 586), (6, 200, 42, 0, 0, 602), (6, 207, 54, 2, 0, 612), (6, 210, 56, 2, 0, 613), (6, 213, 64, 1, 0, 614), (6, 216, 65, 1, 0, 615), (6, 222, 72, 1, 0, 616), (6, 225, 77, 1, 1, 579), (7, 1, 0, 0, 4, 622), (7, 73, 79, 3, 1, 749), (7, 90, 82, 1, 1, 768), (7, 94, 83, 1, 0, 764), (7, 97, 84, 0, 0, 760), (7, 119, 88, 1, 0, 781), (7, 126, 87, 0, 0, 791), (7, 130, 93, 1, 0, 807), (7, 134, 94, 1, 0, 811), (7, 137, 92, 3, 0, 815), (7, 141, 90, 1, 0, 799), (7, 144, 95, 2, 0, 803), (7, 148, 98, 0, 0, 827), (7, 151, 101, 1, 0, 831), (7, 154, 102, 1, 0, 835), (7, 158, 99, 0, 0, 839), (7, 161, 100, 0, 0, 847), (7, 164, 106, 0, 0, 855), (7, 169, 108, 0, 0, 864), (7, 184, 111, 0, 0, 886), (7, 187, 112, 1, 0, 890), (7, 190, 113, 0, 0, 894), (7, 193, 103, 0, 0, 898), (7, 196, 114, 0, 0, 882), (7, 206, 115, 1, 0, 878), (7, 211, 117, 1, 0, 907), (7, 214, 119, 1, 0, 920), (7, 217, 120, 0, 0, 924), (7, 220, 129, 2, 1, 928), (7, 226, 121, 0, 0, 916), (7, 231, 124, 0, 0, 944), (7, 237, 125, 0, 0, 940), (7, 254, 128, 1, 0, 958), (7, 266, 133, 1, 0, 978), (7, 277, 135, 1, 0, 987), (8, 9, 49, 0, 2, 58), (8, 12, 78, 0, 2, 619), (8, 13, 50, 1, 0, 308), (8, 17, 80, 1, 0, 744), (8, 18, 51, 0, 0, 316), (8, 22, 81, 0, 0, 752), (8, 23, 52, 0, 0, 320), (8, 26, 85, 0, 0, 756), (8, 27, 53, 0, 0, 331), (8, 30, 86, 0, 0, 773), (8, 31, 54, 2, 0, 351), (8, 35, 89, 2, 0, 777), (8, 36, 55, 2, 0, 359), (8, 39, 91, 2, 0, 785), (8, 40, 56, 2, 0, 370), (8, 43, 96, 2, 0, 795), (8, 44, 57, 2, 0, 395), (8, 47, 97, 2, 0, 819), (8, 48, 58, 0, 0, 403), (8, 51, 104, 0, 0, 823), (8, 52, 59, 0, 0, 415), (8, 55, 105, 0, 0, 843), (8, 56, 60, 0, 0, 423), (8, 59, 107, 0, 0, 851), (8, 60, 61, 1, 0, 431), (8, 63, 109, 1, 0, 859), (8, 64, 62, 0, 0, 446), (8, 67, 110, 0, 0, 868), (8, 68, 63, 1, 0, 450), (8, 71, 116, 1, 0, 872), (8, 72, 64, 1, 0, 504), (8, 75, 118, 1, 0, 902), (8, 76, 65, 1, 0, 509), (8, 79, 122, 1, 0, 911), (8, 80, 66, 2, 0, 537), (8, 83, 123, 2, 0, 931), (8, 84, 67, 0, 0, 541), (8, 87, 126, 0, 0, 936), (8, 88, 68, 1, 0, 567), (8, 91, 127, 1, 0, 948), (8, 92, 69, 3, 0, 571), (8, 96, 130, 3, 0, 952), (8, 97, 70, 0, 0, 590), (8, 100, 131, 0, 0, 966), (8, 101, 71, 0, 0, 594), (8, 104, 132, 0, 0, 970), (8, 105, 72, 1, 0, 598), (8, 108, 134, 1, 0, 974), (8, 109, 73, 0, 0, 606), (8, 113, 136, 0, 0, 982)]
def ctb : List (Nat × Nat × Nat × Nat × Nat × Int) := [(0, 9, 5, 7, 0, 162), (1, 9, 5, 7, 0, 221), (3, 9, 4, 13, 0, 253), (5, 9, 4, 13, 0, 168), (6, 7, 2, 2, 0, 64), (6, 16, 4, 13, 0, 81), (6, 29, 0, 5, 0, 156), (6, 36, 1, 7, 0, 215), (6, 43, 3, 5, 0, 247), (8, 7, 6, 11, 0, 56), (8, 10, 7, 40, 0, 617)]
def ktb : List (Nat × Nat × Nat × Nat × Nat × Int) := [(6, 203, 1, 610, 0, 787), (6, 205, 1, 611, 0, 31), (6, 228, 0, 585, 0, 65536), (6, 229, 1, 582, 0, 1103515245), (6, 231, 1, 583, 0, 12345), (6, 233, 1, 584, 0, 2147483648), (7, 71, 1, 748, 0, 126), (7, 80, 1, 771, 0, 48), (7, 82, 1, 772, 0, 57), (7, 122, 1, 789, 0, 4), (7, 124, 1, 790, 0, 99), (7, 167, 1, 863, 0, 9), (7, 199, 1, 876, 0, 10), (7, 201, 1, 877, 0, 15), (7, 209, 1, 906, 0, 6), (7, 224, 1, 915, 0, 14), (7, 229, 1, 935, 0, (-1)), (7, 240, 1, 962, 0, 1103515245), (7, 245, 1, 963, 0, 12345), (7, 247, 1, 964, 0, 2147483647), (7, 249, 0, 965, 0, 65536), (7, 250, 1, 956, 0, 60), (7, 252, 1, 957, 0, 2), (7, 269, 1, 991, 0, 31), (7, 275, 1, 986, 0, 787)]
def mws : List (Nat × Nat × Nat × Nat) := [(159, 0, 50, 160), (455, 456, 50, 457), (481, 2, 50, 482), (497, 5, 50, 498), (485, 3, 50, 486), (489, 4, 50, 490), (218, 0, 52, 219), (550, 551, 52, 552), (556, 11, 52, 557), (564, 13, 52, 565), (560, 12, 52, 561), (67, 0, 48, 68), (313, 314, 48, 315), (325, 326, 48, 327), (329, 0, 48, 330), (336, 337, 48, 338), (348, 349, 48, 350), (250, 0, 53, 251), (514, 515, 53, 516), (520, 6, 53, 521), (535, 9, 53, 536), (524, 7, 53, 525), (528, 8, 53, 529), (84, 0, 49, 85), (341, 342, 49, 343), (463, 464, 49, 465), (356, 357, 49, 358), (375, 376, 49, 377), (367, 368, 49, 369), (400, 401, 49, 402), (379, 380, 49, 381), (383, 384, 49, 385), (387, 388, 49, 389), (392, 393, 49, 394), (408, 409, 49, 410), (413, 0, 49, 414), (420, 421, 49, 422), (428, 429, 49, 430), (436, 437, 49, 438), (443, 444, 49, 445), (587, 588, 49, 589), (476, 477, 49, 478), (603, 604, 49, 605), (165, 0, 51, 166), (459, 460, 51, 461), (468, 1, 51, 469), (471, 0, 51, 472), (500, 501, 51, 502), (492, 493, 51, 494), (59, 0, 47, 60), (309, 310, 47, 311), (317, 318, 47, 319), (321, 322, 47, 323), (332, 333, 47, 334), (352, 353, 47, 354), (360, 361, 47, 362), (371, 372, 47, 373), (396, 397, 47, 398), (404, 405, 47, 406), (416, 417, 47, 418), (424, 425, 47, 426), (432, 433, 47, 434), (447, 448, 47, 449), (451, 452, 47, 453), (505, 506, 47, 507), (510, 511, 47, 512), (538, 539, 47, 540), (542, 543, 47, 544), (568, 569, 47, 570), (572, 573, 47, 574), (591, 592, 47, 593), (595, 596, 47, 597), (599, 600, 47, 601), (607, 608, 47, 609), (364, 0, 47, 365), (547, 10, 47, 548), (577, 14, 47, 578), (580, 0, 47, 581), (620, 0, 54, 621), (750, 0, 54, 751), (745, 746, 54, 747), (753, 754, 54, 755), (769, 0, 54, 770), (766, 16, 54, 767), (762, 15, 54, 763), (757, 758, 54, 759), (774, 775, 54, 776), (793, 18, 54, 794), (783, 17, 54, 784), (778, 779, 54, 780), (801, 19, 54, 802), (786, 787, 54, 788), (817, 23, 54, 818), (809, 21, 54, 810), (813, 22, 54, 814), (805, 20, 54, 806), (796, 797, 54, 798), (820, 821, 54, 822), (829, 24, 54, 830), (841, 27, 54, 842), (849, 28, 54, 850), (833, 25, 54, 834), (837, 26, 54, 838), (900, 36, 54, 901), (824, 825, 54, 826), (844, 845, 54, 846), (857, 29, 54, 858), (852, 853, 54, 854), (866, 30, 54, 867), (860, 861, 54, 862), (869, 870, 54, 871), (888, 33, 54, 889), (892, 34, 54, 893), (896, 35, 54, 897), (884, 32, 54, 885), (880, 31, 54, 881), (873, 874, 54, 875), (909, 37, 54, 910), (903, 904, 54, 905), (922, 39, 54, 923), (926, 40, 54, 927), (918, 38, 54, 919), (912, 913, 54, 914), (932, 933, 54, 934), (946, 42, 54, 947), (942, 41, 54, 943), (937, 938, 54, 939), (949, 950, 54, 951), (960, 43, 54, 961), (929, 0, 54, 930), (953, 954, 54, 955), (967, 968, 54, 969), (971, 972, 54, 973), (980, 44, 54, 981), (975, 976, 54, 977), (989, 45, 54, 990), (983, 984, 54, 985), (0, 0, 0, 0)]
def mwd (m : Nat) : Nat × Nat × Nat × Nat := mws.getD m (0, 0, 0, 0)
def look (tb : List (Nat × Nat × Nat × Nat × Nat × Int)) (own idx : Nat) : Nat × Nat × Nat × Int := match tb.find? (fun e => e.1 == own && e.2.1 == idx) with
  | some e => e.2.2
  | none => (0, 0, 99, 0)
def rs (own pc : Nat) (i : Instr) : Nat × Nat × Nat × Int := match i with
  | .getfield idx => look ftb own idx
  | .putfield idx => look ftb own idx
  | .invokevirtual idx => look mtb own idx
  | .invokespecial idx => look mtb own idx
  | .invokestatic idx => look mtb own idx
  | .new idx => look ctb own idx
  | .ldc idx => look ktb own idx
  | .ldc2_w idx => look ktb own idx
  | .goto off => (((pc : Int) + off).toNat, 0, 0, 0)
  | .if_icmp _ off => (((pc : Int) + off).toNat, 0, 0, 0)
  | .ifCond _ off => (((pc : Int) + off).toNat, 0, 0, 0)
  | _ => (0, 0, 0, 0)
/-- an instruction: what it is, how long, the next place, and what it names -/
abbrev IT : Type := Instr × Nat × Nat × Nat × Nat × Nat × Int
def ft (m pc : Nat) : Option IT := match decode (cb m) pc with
  | .ok (i, len) => some (i, len, pc + len, rs (ow m) pc i)
  | .error _ => none
theorem ft_dec {m pc len nx : Nat} {i : Instr} {X : Nat × Nat × Nat × Int} (h : ft m pc = some (i, len, nx, X)) : decode (cb m) pc = .ok (i, len) ∧ pc + len = nx ∧ rs (ow m) pc i = X := by
  unfold ft at h
  split at h
  · next i' len' hd =>
    cases h
    exact ⟨hd, rfl, rfl⟩
  · cases h
theorem look_in {tb : List (Nat × Nat × Nat × Nat × Nat × Int)} {own idx : Nat} {x y z : Nat} {v : Int} (h : look tb own idx = (x, y, z, v)) (hz : z ≠ 99) : (own, idx, x, y, z, v) ∈ tb := by
  unfold look at h
  split at h
  · next e he =>
    have h1 := List.find?_some he
    have h2 := List.mem_of_find?_eq_some he
    simp only [Bool.and_eq_true, beq_iff_eq] at h1
    obtain ⟨a, b, c⟩ := e
    obtain ⟨rfl, rfl⟩ := h1
    dsimp only at h
    rw [h] at h2
    exact h2
  · simp only [Prod.mk.injEq] at h
    exact absurd h.2.2.1.symm hz
theorem tw_all : ∀ c, c < 8 → ∀ w ∈ u_ws (RR c) (TT c) (NN c), w ∈ lw_tbl := by decide +kernel
theorem ty_all : ∀ c, c < 8 → ∀ k, k < NN c → parseFieldDescriptor (TT c k).2.2.1 = some (TY c k) := by decide +kernel
theorem nm_all : ∀ c, c < 8 → ∀ a, a < NN c → ∀ b, b < NN c → a ≠ b → (TT c a).2.1 ≠ (TT c b).2.1 := by decide +kernel
def tagOf (t : FieldType) : Nat := match t with
  | .int => 0
  | .boolean => 1
  | .long => 2
  | _ => 3
theorem f_all : ∀ e ∈ ftb, e.2.2.1 < 8 ∧ e.2.2.2.1 < NN e.2.2.1 ∧ (TT e.2.2.1 e.2.2.2.1).1 = RR e.2.2.1 ∧ tagOf (TY e.2.2.1 e.2.2.2.1) = e.2.2.2.2.1 ∧ lw_tbl[e.2.2.2.2.2.toNat]? = some (.fieldLink (RR e.1) e.2.1 (RR e.2.2.1) (TT e.2.2.1 e.2.2.2.1).2.1 (TT e.2.2.1 e.2.2.2.1).2.2.1) := by decide +kernel
theorem c_all : ∀ e ∈ ctb, e.2.2.1 < 8 ∧ e.2.2.2.1 = NN e.2.2.1 ∧ lw_tbl[e.2.2.2.2.2.toNat]? = some (.classLink (RR e.1) e.2.1 (RR e.2.2.1)) ∧ Cond.instantiable (RR e.2.2.1) (NN e.2.2.1) ∈ lw_tbl ∧ Cond.initialized (RR e.2.2.1) ∈ lw_tbl := by decide +kernel
theorem k_all : ∀ e ∈ ktb, (e.2.2.1 = 0 → lw_tbl[e.2.2.2.1]? = some (.constant (RR e.1) e.2.1 (Int32.ofInt e.2.2.2.2.2))) ∧ (e.2.2.1 = 1 → lw_tbl[e.2.2.2.1]? = some (.constantLong (RR e.1) e.2.1 (Int64.ofInt e.2.2.2.2.2))) := by decide +kernel
theorem m_all : ∀ e ∈ mtb, (e.2.2.2.2.1 < 3 → lw_tbl[e.2.2.2.2.2.toNat]? = some (.methodLink (RR e.1) e.2.1 (yy e.2.2.1))) ∧ (e.2.2.2.2.1 = 3 → lw_tbl[e.2.2.2.2.2.toNat]? = some (.methodLinkNest (RR e.1) e.2.1 (yy e.2.2.1) "TrailBreakers")) ∧ (e.2.2.2.2.1 = 4 → lw_tbl[e.2.2.2.2.2.toNat]? = some (.methodLink (RR e.1) e.2.1 objectInit)) ∧ (e.2.2.2.2.1 = 5 → lw_tbl[e.2.2.2.2.2.toNat]? = some (.methodLink (RR e.1) e.2.1 Lib.Math.min.name)) ∧ (e.2.2.2.2.1 = 6 → lw_tbl[e.2.2.2.2.2.toNat]? = some (.methodLink (RR e.1) e.2.1 Lib.Math.max.name)) ∧ (e.2.2.2.2.1 < 4 → e.2.2.1 < 137 ∧ (parseMethodDescriptor (yy e.2.2.1).desc).map (fun d => d.parameters.length) = some e.2.2.2.1) := by decide +kernel
theorem y_all : ∀ m, m < 137 → (yy m).cls ≠ "java/lang/invoke/MethodHandle" ∧ (yy m).cls ≠ "java/lang/invoke/VarHandle" ∧ plainName (yy m).cls = true ∧ (yy m).cls = RR (ow m) ∧ ow m < 8 ∧ ml m ≤ 20 := by decide +kernel
theorem i_all : ∀ m, m < 137 → lw_tbl[(mwd m).2.2.1]? = some (.initialized (yy m).cls) := by decide +kernel
theorem n_all : ∀ e ∈ mtb, (e.2.2.2.2.1 = 0 → lw_tbl[(mwd e.2.2.1).1]? = some (.instanceMethod (yy e.2.2.1)) ∧ lw_tbl[(mwd e.2.2.1).2.1]? = some (.selects (yy e.2.2.1).cls (yy e.2.2.1) (yy e.2.2.1))) ∧ (e.2.2.2.2.1 = 1 → lw_tbl[(mwd e.2.2.1).1]? = some (.static (yy e.2.2.1))) ∧ (e.2.2.2.2.1 = 2 ∨ e.2.2.2.2.1 = 3 → (yy e.2.2.1).name = "<init>" ∧ rt e.2.2.1 = none ∧ lw_tbl[(mwd e.2.2.1).1]? = some (.instanceMethod (yy e.2.2.1))) := by decide +kernel
set_option maxRecDepth 100000 in
theorem cw_0 : lw_tbl[160]? = some (.code (yy 0) (cb 0) (ml 0) (rt 0)) := rfl
set_option maxRecDepth 100000 in
theorem cw_1 : lw_tbl[457]? = some (.code (yy 1) (cb 1) (ml 1) (rt 1)) := rfl
set_option maxRecDepth 100000 in
theorem cw_2 : lw_tbl[482]? = some (.code (yy 2) (cb 2) (ml 2) (rt 2)) := rfl
set_option maxRecDepth 100000 in
theorem cw_3 : lw_tbl[498]? = some (.code (yy 3) (cb 3) (ml 3) (rt 3)) := rfl
set_option maxRecDepth 100000 in
theorem cw_4 : lw_tbl[486]? = some (.code (yy 4) (cb 4) (ml 4) (rt 4)) := rfl
set_option maxRecDepth 100000 in
theorem cw_5 : lw_tbl[490]? = some (.code (yy 5) (cb 5) (ml 5) (rt 5)) := rfl
set_option maxRecDepth 100000 in
theorem cw_6 : lw_tbl[219]? = some (.code (yy 6) (cb 6) (ml 6) (rt 6)) := rfl
set_option maxRecDepth 100000 in
theorem cw_7 : lw_tbl[552]? = some (.code (yy 7) (cb 7) (ml 7) (rt 7)) := rfl
set_option maxRecDepth 100000 in
theorem cw_8 : lw_tbl[557]? = some (.code (yy 8) (cb 8) (ml 8) (rt 8)) := rfl
set_option maxRecDepth 100000 in
theorem cw_9 : lw_tbl[565]? = some (.code (yy 9) (cb 9) (ml 9) (rt 9)) := rfl
set_option maxRecDepth 100000 in
theorem cw_10 : lw_tbl[561]? = some (.code (yy 10) (cb 10) (ml 10) (rt 10)) := rfl
set_option maxRecDepth 100000 in
theorem cw_11 : lw_tbl[68]? = some (.code (yy 11) (cb 11) (ml 11) (rt 11)) := rfl
set_option maxRecDepth 100000 in
theorem cw_12 : lw_tbl[315]? = some (.code (yy 12) (cb 12) (ml 12) (rt 12)) := rfl
set_option maxRecDepth 100000 in
theorem cw_13 : lw_tbl[327]? = some (.code (yy 13) (cb 13) (ml 13) (rt 13)) := rfl
set_option maxRecDepth 100000 in
theorem cw_14 : lw_tbl[330]? = some (.code (yy 14) (cb 14) (ml 14) (rt 14)) := rfl
set_option maxRecDepth 100000 in
theorem cw_15 : lw_tbl[338]? = some (.code (yy 15) (cb 15) (ml 15) (rt 15)) := rfl
set_option maxRecDepth 100000 in
theorem cw_16 : lw_tbl[350]? = some (.code (yy 16) (cb 16) (ml 16) (rt 16)) := rfl
set_option maxRecDepth 100000 in
theorem cw_17 : lw_tbl[251]? = some (.code (yy 17) (cb 17) (ml 17) (rt 17)) := rfl
set_option maxRecDepth 100000 in
theorem cw_18 : lw_tbl[516]? = some (.code (yy 18) (cb 18) (ml 18) (rt 18)) := rfl
set_option maxRecDepth 100000 in
theorem cw_19 : lw_tbl[521]? = some (.code (yy 19) (cb 19) (ml 19) (rt 19)) := rfl
set_option maxRecDepth 100000 in
theorem cw_20 : lw_tbl[536]? = some (.code (yy 20) (cb 20) (ml 20) (rt 20)) := rfl
set_option maxRecDepth 100000 in
theorem cw_21 : lw_tbl[525]? = some (.code (yy 21) (cb 21) (ml 21) (rt 21)) := rfl
set_option maxRecDepth 100000 in
theorem cw_22 : lw_tbl[529]? = some (.code (yy 22) (cb 22) (ml 22) (rt 22)) := rfl
set_option maxRecDepth 100000 in
theorem cw_23 : lw_tbl[85]? = some (.code (yy 23) (cb 23) (ml 23) (rt 23)) := rfl
set_option maxRecDepth 100000 in
theorem cw_24 : lw_tbl[343]? = some (.code (yy 24) (cb 24) (ml 24) (rt 24)) := rfl
set_option maxRecDepth 100000 in
theorem cw_25 : lw_tbl[465]? = some (.code (yy 25) (cb 25) (ml 25) (rt 25)) := rfl
set_option maxRecDepth 100000 in
theorem cw_26 : lw_tbl[358]? = some (.code (yy 26) (cb 26) (ml 26) (rt 26)) := rfl
set_option maxRecDepth 100000 in
theorem cw_27 : lw_tbl[377]? = some (.code (yy 27) (cb 27) (ml 27) (rt 27)) := rfl
set_option maxRecDepth 100000 in
theorem cw_28 : lw_tbl[369]? = some (.code (yy 28) (cb 28) (ml 28) (rt 28)) := rfl
set_option maxRecDepth 100000 in
theorem cw_29 : lw_tbl[402]? = some (.code (yy 29) (cb 29) (ml 29) (rt 29)) := rfl
set_option maxRecDepth 100000 in
theorem cw_30 : lw_tbl[381]? = some (.code (yy 30) (cb 30) (ml 30) (rt 30)) := rfl
set_option maxRecDepth 100000 in
theorem cw_31 : lw_tbl[385]? = some (.code (yy 31) (cb 31) (ml 31) (rt 31)) := rfl
set_option maxRecDepth 100000 in
theorem cw_32 : lw_tbl[389]? = some (.code (yy 32) (cb 32) (ml 32) (rt 32)) := rfl
set_option maxRecDepth 100000 in
theorem cw_33 : lw_tbl[394]? = some (.code (yy 33) (cb 33) (ml 33) (rt 33)) := rfl
set_option maxRecDepth 100000 in
theorem cw_34 : lw_tbl[410]? = some (.code (yy 34) (cb 34) (ml 34) (rt 34)) := rfl
set_option maxRecDepth 100000 in
theorem cw_35 : lw_tbl[414]? = some (.code (yy 35) (cb 35) (ml 35) (rt 35)) := rfl
set_option maxRecDepth 100000 in
theorem cw_36 : lw_tbl[422]? = some (.code (yy 36) (cb 36) (ml 36) (rt 36)) := rfl
set_option maxRecDepth 100000 in
theorem cw_37 : lw_tbl[430]? = some (.code (yy 37) (cb 37) (ml 37) (rt 37)) := rfl
set_option maxRecDepth 100000 in
theorem cw_38 : lw_tbl[438]? = some (.code (yy 38) (cb 38) (ml 38) (rt 38)) := rfl
set_option maxRecDepth 100000 in
theorem cw_39 : lw_tbl[445]? = some (.code (yy 39) (cb 39) (ml 39) (rt 39)) := rfl
set_option maxRecDepth 100000 in
theorem cw_40 : lw_tbl[589]? = some (.code (yy 40) (cb 40) (ml 40) (rt 40)) := rfl
set_option maxRecDepth 100000 in
theorem cw_41 : lw_tbl[478]? = some (.code (yy 41) (cb 41) (ml 41) (rt 41)) := rfl
set_option maxRecDepth 100000 in
theorem cw_42 : lw_tbl[605]? = some (.code (yy 42) (cb 42) (ml 42) (rt 42)) := rfl
set_option maxRecDepth 100000 in
theorem cw_43 : lw_tbl[166]? = some (.code (yy 43) (cb 43) (ml 43) (rt 43)) := rfl
set_option maxRecDepth 100000 in
theorem cw_44 : lw_tbl[461]? = some (.code (yy 44) (cb 44) (ml 44) (rt 44)) := rfl
set_option maxRecDepth 100000 in
theorem cw_45 : lw_tbl[469]? = some (.code (yy 45) (cb 45) (ml 45) (rt 45)) := rfl
set_option maxRecDepth 100000 in
theorem cw_46 : lw_tbl[472]? = some (.code (yy 46) (cb 46) (ml 46) (rt 46)) := rfl
set_option maxRecDepth 100000 in
theorem cw_47 : lw_tbl[502]? = some (.code (yy 47) (cb 47) (ml 47) (rt 47)) := rfl
set_option maxRecDepth 100000 in
theorem cw_48 : lw_tbl[494]? = some (.code (yy 48) (cb 48) (ml 48) (rt 48)) := rfl
set_option maxRecDepth 100000 in
theorem cw_49 : lw_tbl[60]? = some (.code (yy 49) (cb 49) (ml 49) (rt 49)) := rfl
set_option maxRecDepth 100000 in
theorem cw_50 : lw_tbl[311]? = some (.code (yy 50) (cb 50) (ml 50) (rt 50)) := rfl
set_option maxRecDepth 100000 in
theorem cw_51 : lw_tbl[319]? = some (.code (yy 51) (cb 51) (ml 51) (rt 51)) := rfl
set_option maxRecDepth 100000 in
theorem cw_52 : lw_tbl[323]? = some (.code (yy 52) (cb 52) (ml 52) (rt 52)) := rfl
set_option maxRecDepth 100000 in
theorem cw_53 : lw_tbl[334]? = some (.code (yy 53) (cb 53) (ml 53) (rt 53)) := rfl
set_option maxRecDepth 100000 in
theorem cw_54 : lw_tbl[354]? = some (.code (yy 54) (cb 54) (ml 54) (rt 54)) := rfl
set_option maxRecDepth 100000 in
theorem cw_55 : lw_tbl[362]? = some (.code (yy 55) (cb 55) (ml 55) (rt 55)) := rfl
set_option maxRecDepth 100000 in
theorem cw_56 : lw_tbl[373]? = some (.code (yy 56) (cb 56) (ml 56) (rt 56)) := rfl
set_option maxRecDepth 100000 in
theorem cw_57 : lw_tbl[398]? = some (.code (yy 57) (cb 57) (ml 57) (rt 57)) := rfl
set_option maxRecDepth 100000 in
theorem cw_58 : lw_tbl[406]? = some (.code (yy 58) (cb 58) (ml 58) (rt 58)) := rfl
set_option maxRecDepth 100000 in
theorem cw_59 : lw_tbl[418]? = some (.code (yy 59) (cb 59) (ml 59) (rt 59)) := rfl
set_option maxRecDepth 100000 in
theorem cw_60 : lw_tbl[426]? = some (.code (yy 60) (cb 60) (ml 60) (rt 60)) := rfl
set_option maxRecDepth 100000 in
theorem cw_61 : lw_tbl[434]? = some (.code (yy 61) (cb 61) (ml 61) (rt 61)) := rfl
set_option maxRecDepth 100000 in
theorem cw_62 : lw_tbl[449]? = some (.code (yy 62) (cb 62) (ml 62) (rt 62)) := rfl
set_option maxRecDepth 100000 in
theorem cw_63 : lw_tbl[453]? = some (.code (yy 63) (cb 63) (ml 63) (rt 63)) := rfl
set_option maxRecDepth 100000 in
theorem cw_64 : lw_tbl[507]? = some (.code (yy 64) (cb 64) (ml 64) (rt 64)) := rfl
set_option maxRecDepth 100000 in
theorem cw_65 : lw_tbl[512]? = some (.code (yy 65) (cb 65) (ml 65) (rt 65)) := rfl
set_option maxRecDepth 100000 in
theorem cw_66 : lw_tbl[540]? = some (.code (yy 66) (cb 66) (ml 66) (rt 66)) := rfl
set_option maxRecDepth 100000 in
theorem cw_67 : lw_tbl[544]? = some (.code (yy 67) (cb 67) (ml 67) (rt 67)) := rfl
set_option maxRecDepth 100000 in
theorem cw_68 : lw_tbl[570]? = some (.code (yy 68) (cb 68) (ml 68) (rt 68)) := rfl
set_option maxRecDepth 100000 in
theorem cw_69 : lw_tbl[574]? = some (.code (yy 69) (cb 69) (ml 69) (rt 69)) := rfl
set_option maxRecDepth 100000 in
theorem cw_70 : lw_tbl[593]? = some (.code (yy 70) (cb 70) (ml 70) (rt 70)) := rfl
set_option maxRecDepth 100000 in
theorem cw_71 : lw_tbl[597]? = some (.code (yy 71) (cb 71) (ml 71) (rt 71)) := rfl
set_option maxRecDepth 100000 in
theorem cw_72 : lw_tbl[601]? = some (.code (yy 72) (cb 72) (ml 72) (rt 72)) := rfl
set_option maxRecDepth 100000 in
theorem cw_73 : lw_tbl[609]? = some (.code (yy 73) (cb 73) (ml 73) (rt 73)) := rfl
set_option maxRecDepth 100000 in
theorem cw_74 : lw_tbl[365]? = some (.code (yy 74) (cb 74) (ml 74) (rt 74)) := rfl
set_option maxRecDepth 100000 in
theorem cw_75 : lw_tbl[548]? = some (.code (yy 75) (cb 75) (ml 75) (rt 75)) := rfl
set_option maxRecDepth 100000 in
theorem cw_76 : lw_tbl[578]? = some (.code (yy 76) (cb 76) (ml 76) (rt 76)) := rfl
set_option maxRecDepth 100000 in
theorem cw_77 : lw_tbl[581]? = some (.code (yy 77) (cb 77) (ml 77) (rt 77)) := rfl
set_option maxRecDepth 100000 in
theorem cw_78 : lw_tbl[621]? = some (.code (yy 78) (cb 78) (ml 78) (rt 78)) := rfl
set_option maxRecDepth 100000 in
theorem cw_79 : lw_tbl[751]? = some (.code (yy 79) (cb 79) (ml 79) (rt 79)) := rfl
set_option maxRecDepth 100000 in
theorem cw_80 : lw_tbl[747]? = some (.code (yy 80) (cb 80) (ml 80) (rt 80)) := rfl
set_option maxRecDepth 100000 in
theorem cw_81 : lw_tbl[755]? = some (.code (yy 81) (cb 81) (ml 81) (rt 81)) := rfl
set_option maxRecDepth 100000 in
theorem cw_82 : lw_tbl[770]? = some (.code (yy 82) (cb 82) (ml 82) (rt 82)) := rfl
set_option maxRecDepth 100000 in
theorem cw_83 : lw_tbl[767]? = some (.code (yy 83) (cb 83) (ml 83) (rt 83)) := rfl
set_option maxRecDepth 100000 in
theorem cw_84 : lw_tbl[763]? = some (.code (yy 84) (cb 84) (ml 84) (rt 84)) := rfl
set_option maxRecDepth 100000 in
theorem cw_85 : lw_tbl[759]? = some (.code (yy 85) (cb 85) (ml 85) (rt 85)) := rfl
set_option maxRecDepth 100000 in
theorem cw_86 : lw_tbl[776]? = some (.code (yy 86) (cb 86) (ml 86) (rt 86)) := rfl
set_option maxRecDepth 100000 in
theorem cw_87 : lw_tbl[794]? = some (.code (yy 87) (cb 87) (ml 87) (rt 87)) := rfl
set_option maxRecDepth 100000 in
theorem cw_88 : lw_tbl[784]? = some (.code (yy 88) (cb 88) (ml 88) (rt 88)) := rfl
set_option maxRecDepth 100000 in
theorem cw_89 : lw_tbl[780]? = some (.code (yy 89) (cb 89) (ml 89) (rt 89)) := rfl
set_option maxRecDepth 100000 in
theorem cw_90 : lw_tbl[802]? = some (.code (yy 90) (cb 90) (ml 90) (rt 90)) := rfl
set_option maxRecDepth 100000 in
theorem cw_91 : lw_tbl[788]? = some (.code (yy 91) (cb 91) (ml 91) (rt 91)) := rfl
set_option maxRecDepth 100000 in
theorem cw_92 : lw_tbl[818]? = some (.code (yy 92) (cb 92) (ml 92) (rt 92)) := rfl
set_option maxRecDepth 100000 in
theorem cw_93 : lw_tbl[810]? = some (.code (yy 93) (cb 93) (ml 93) (rt 93)) := rfl
set_option maxRecDepth 100000 in
theorem cw_94 : lw_tbl[814]? = some (.code (yy 94) (cb 94) (ml 94) (rt 94)) := rfl
set_option maxRecDepth 100000 in
theorem cw_95 : lw_tbl[806]? = some (.code (yy 95) (cb 95) (ml 95) (rt 95)) := rfl
set_option maxRecDepth 100000 in
theorem cw_96 : lw_tbl[798]? = some (.code (yy 96) (cb 96) (ml 96) (rt 96)) := rfl
set_option maxRecDepth 100000 in
theorem cw_97 : lw_tbl[822]? = some (.code (yy 97) (cb 97) (ml 97) (rt 97)) := rfl
set_option maxRecDepth 100000 in
theorem cw_98 : lw_tbl[830]? = some (.code (yy 98) (cb 98) (ml 98) (rt 98)) := rfl
set_option maxRecDepth 100000 in
theorem cw_99 : lw_tbl[842]? = some (.code (yy 99) (cb 99) (ml 99) (rt 99)) := rfl
set_option maxRecDepth 100000 in
theorem cw_100 : lw_tbl[850]? = some (.code (yy 100) (cb 100) (ml 100) (rt 100)) := rfl
set_option maxRecDepth 100000 in
theorem cw_101 : lw_tbl[834]? = some (.code (yy 101) (cb 101) (ml 101) (rt 101)) := rfl
set_option maxRecDepth 100000 in
theorem cw_102 : lw_tbl[838]? = some (.code (yy 102) (cb 102) (ml 102) (rt 102)) := rfl
set_option maxRecDepth 100000 in
theorem cw_103 : lw_tbl[901]? = some (.code (yy 103) (cb 103) (ml 103) (rt 103)) := rfl
set_option maxRecDepth 100000 in
theorem cw_104 : lw_tbl[826]? = some (.code (yy 104) (cb 104) (ml 104) (rt 104)) := rfl
set_option maxRecDepth 100000 in
theorem cw_105 : lw_tbl[846]? = some (.code (yy 105) (cb 105) (ml 105) (rt 105)) := rfl
set_option maxRecDepth 100000 in
theorem cw_106 : lw_tbl[858]? = some (.code (yy 106) (cb 106) (ml 106) (rt 106)) := rfl
set_option maxRecDepth 100000 in
theorem cw_107 : lw_tbl[854]? = some (.code (yy 107) (cb 107) (ml 107) (rt 107)) := rfl
set_option maxRecDepth 100000 in
theorem cw_108 : lw_tbl[867]? = some (.code (yy 108) (cb 108) (ml 108) (rt 108)) := rfl
set_option maxRecDepth 100000 in
theorem cw_109 : lw_tbl[862]? = some (.code (yy 109) (cb 109) (ml 109) (rt 109)) := rfl
set_option maxRecDepth 100000 in
theorem cw_110 : lw_tbl[871]? = some (.code (yy 110) (cb 110) (ml 110) (rt 110)) := rfl
set_option maxRecDepth 100000 in
theorem cw_111 : lw_tbl[889]? = some (.code (yy 111) (cb 111) (ml 111) (rt 111)) := rfl
set_option maxRecDepth 100000 in
theorem cw_112 : lw_tbl[893]? = some (.code (yy 112) (cb 112) (ml 112) (rt 112)) := rfl
set_option maxRecDepth 100000 in
theorem cw_113 : lw_tbl[897]? = some (.code (yy 113) (cb 113) (ml 113) (rt 113)) := rfl
set_option maxRecDepth 100000 in
theorem cw_114 : lw_tbl[885]? = some (.code (yy 114) (cb 114) (ml 114) (rt 114)) := rfl
set_option maxRecDepth 100000 in
theorem cw_115 : lw_tbl[881]? = some (.code (yy 115) (cb 115) (ml 115) (rt 115)) := rfl
set_option maxRecDepth 100000 in
theorem cw_116 : lw_tbl[875]? = some (.code (yy 116) (cb 116) (ml 116) (rt 116)) := rfl
set_option maxRecDepth 100000 in
theorem cw_117 : lw_tbl[910]? = some (.code (yy 117) (cb 117) (ml 117) (rt 117)) := rfl
set_option maxRecDepth 100000 in
theorem cw_118 : lw_tbl[905]? = some (.code (yy 118) (cb 118) (ml 118) (rt 118)) := rfl
set_option maxRecDepth 100000 in
theorem cw_119 : lw_tbl[923]? = some (.code (yy 119) (cb 119) (ml 119) (rt 119)) := rfl
set_option maxRecDepth 100000 in
theorem cw_120 : lw_tbl[927]? = some (.code (yy 120) (cb 120) (ml 120) (rt 120)) := rfl
set_option maxRecDepth 100000 in
theorem cw_121 : lw_tbl[919]? = some (.code (yy 121) (cb 121) (ml 121) (rt 121)) := rfl
set_option maxRecDepth 100000 in
theorem cw_122 : lw_tbl[914]? = some (.code (yy 122) (cb 122) (ml 122) (rt 122)) := rfl
set_option maxRecDepth 100000 in
theorem cw_123 : lw_tbl[934]? = some (.code (yy 123) (cb 123) (ml 123) (rt 123)) := rfl
set_option maxRecDepth 100000 in
theorem cw_124 : lw_tbl[947]? = some (.code (yy 124) (cb 124) (ml 124) (rt 124)) := rfl
set_option maxRecDepth 100000 in
theorem cw_125 : lw_tbl[943]? = some (.code (yy 125) (cb 125) (ml 125) (rt 125)) := rfl
set_option maxRecDepth 100000 in
theorem cw_126 : lw_tbl[939]? = some (.code (yy 126) (cb 126) (ml 126) (rt 126)) := rfl
set_option maxRecDepth 100000 in
theorem cw_127 : lw_tbl[951]? = some (.code (yy 127) (cb 127) (ml 127) (rt 127)) := rfl
set_option maxRecDepth 100000 in
theorem cw_128 : lw_tbl[961]? = some (.code (yy 128) (cb 128) (ml 128) (rt 128)) := rfl
set_option maxRecDepth 100000 in
theorem cw_129 : lw_tbl[930]? = some (.code (yy 129) (cb 129) (ml 129) (rt 129)) := rfl
set_option maxRecDepth 100000 in
theorem cw_130 : lw_tbl[955]? = some (.code (yy 130) (cb 130) (ml 130) (rt 130)) := rfl
set_option maxRecDepth 100000 in
theorem cw_131 : lw_tbl[969]? = some (.code (yy 131) (cb 131) (ml 131) (rt 131)) := rfl
set_option maxRecDepth 100000 in
theorem cw_132 : lw_tbl[973]? = some (.code (yy 132) (cb 132) (ml 132) (rt 132)) := rfl
set_option maxRecDepth 100000 in
theorem cw_133 : lw_tbl[981]? = some (.code (yy 133) (cb 133) (ml 133) (rt 133)) := rfl
set_option maxRecDepth 100000 in
theorem cw_134 : lw_tbl[977]? = some (.code (yy 134) (cb 134) (ml 134) (rt 134)) := rfl
set_option maxRecDepth 100000 in
theorem cw_135 : lw_tbl[990]? = some (.code (yy 135) (cb 135) (ml 135) (rt 135)) := rfl
set_option maxRecDepth 100000 in
theorem cw_136 : lw_tbl[985]? = some (.code (yy 136) (cb 136) (ml 136) (rt 136)) := rfl
theorem cw_all : ∀ m, m < 137 → Cond.code (yy m) (cb m) (ml m) (rt m) ∈ lw_tbl := by
  intro m h
  match m, h with
  | 0, _ => exact List.mem_of_getElem? cw_0
  | 1, _ => exact List.mem_of_getElem? cw_1
  | 2, _ => exact List.mem_of_getElem? cw_2
  | 3, _ => exact List.mem_of_getElem? cw_3
  | 4, _ => exact List.mem_of_getElem? cw_4
  | 5, _ => exact List.mem_of_getElem? cw_5
  | 6, _ => exact List.mem_of_getElem? cw_6
  | 7, _ => exact List.mem_of_getElem? cw_7
  | 8, _ => exact List.mem_of_getElem? cw_8
  | 9, _ => exact List.mem_of_getElem? cw_9
  | 10, _ => exact List.mem_of_getElem? cw_10
  | 11, _ => exact List.mem_of_getElem? cw_11
  | 12, _ => exact List.mem_of_getElem? cw_12
  | 13, _ => exact List.mem_of_getElem? cw_13
  | 14, _ => exact List.mem_of_getElem? cw_14
  | 15, _ => exact List.mem_of_getElem? cw_15
  | 16, _ => exact List.mem_of_getElem? cw_16
  | 17, _ => exact List.mem_of_getElem? cw_17
  | 18, _ => exact List.mem_of_getElem? cw_18
  | 19, _ => exact List.mem_of_getElem? cw_19
  | 20, _ => exact List.mem_of_getElem? cw_20
  | 21, _ => exact List.mem_of_getElem? cw_21
  | 22, _ => exact List.mem_of_getElem? cw_22
  | 23, _ => exact List.mem_of_getElem? cw_23
  | 24, _ => exact List.mem_of_getElem? cw_24
  | 25, _ => exact List.mem_of_getElem? cw_25
  | 26, _ => exact List.mem_of_getElem? cw_26
  | 27, _ => exact List.mem_of_getElem? cw_27
  | 28, _ => exact List.mem_of_getElem? cw_28
  | 29, _ => exact List.mem_of_getElem? cw_29
  | 30, _ => exact List.mem_of_getElem? cw_30
  | 31, _ => exact List.mem_of_getElem? cw_31
  | 32, _ => exact List.mem_of_getElem? cw_32
  | 33, _ => exact List.mem_of_getElem? cw_33
  | 34, _ => exact List.mem_of_getElem? cw_34
  | 35, _ => exact List.mem_of_getElem? cw_35
  | 36, _ => exact List.mem_of_getElem? cw_36
  | 37, _ => exact List.mem_of_getElem? cw_37
  | 38, _ => exact List.mem_of_getElem? cw_38
  | 39, _ => exact List.mem_of_getElem? cw_39
  | 40, _ => exact List.mem_of_getElem? cw_40
  | 41, _ => exact List.mem_of_getElem? cw_41
  | 42, _ => exact List.mem_of_getElem? cw_42
  | 43, _ => exact List.mem_of_getElem? cw_43
  | 44, _ => exact List.mem_of_getElem? cw_44
  | 45, _ => exact List.mem_of_getElem? cw_45
  | 46, _ => exact List.mem_of_getElem? cw_46
  | 47, _ => exact List.mem_of_getElem? cw_47
  | 48, _ => exact List.mem_of_getElem? cw_48
  | 49, _ => exact List.mem_of_getElem? cw_49
  | 50, _ => exact List.mem_of_getElem? cw_50
  | 51, _ => exact List.mem_of_getElem? cw_51
  | 52, _ => exact List.mem_of_getElem? cw_52
  | 53, _ => exact List.mem_of_getElem? cw_53
  | 54, _ => exact List.mem_of_getElem? cw_54
  | 55, _ => exact List.mem_of_getElem? cw_55
  | 56, _ => exact List.mem_of_getElem? cw_56
  | 57, _ => exact List.mem_of_getElem? cw_57
  | 58, _ => exact List.mem_of_getElem? cw_58
  | 59, _ => exact List.mem_of_getElem? cw_59
  | 60, _ => exact List.mem_of_getElem? cw_60
  | 61, _ => exact List.mem_of_getElem? cw_61
  | 62, _ => exact List.mem_of_getElem? cw_62
  | 63, _ => exact List.mem_of_getElem? cw_63
  | 64, _ => exact List.mem_of_getElem? cw_64
  | 65, _ => exact List.mem_of_getElem? cw_65
  | 66, _ => exact List.mem_of_getElem? cw_66
  | 67, _ => exact List.mem_of_getElem? cw_67
  | 68, _ => exact List.mem_of_getElem? cw_68
  | 69, _ => exact List.mem_of_getElem? cw_69
  | 70, _ => exact List.mem_of_getElem? cw_70
  | 71, _ => exact List.mem_of_getElem? cw_71
  | 72, _ => exact List.mem_of_getElem? cw_72
  | 73, _ => exact List.mem_of_getElem? cw_73
  | 74, _ => exact List.mem_of_getElem? cw_74
  | 75, _ => exact List.mem_of_getElem? cw_75
  | 76, _ => exact List.mem_of_getElem? cw_76
  | 77, _ => exact List.mem_of_getElem? cw_77
  | 78, _ => exact List.mem_of_getElem? cw_78
  | 79, _ => exact List.mem_of_getElem? cw_79
  | 80, _ => exact List.mem_of_getElem? cw_80
  | 81, _ => exact List.mem_of_getElem? cw_81
  | 82, _ => exact List.mem_of_getElem? cw_82
  | 83, _ => exact List.mem_of_getElem? cw_83
  | 84, _ => exact List.mem_of_getElem? cw_84
  | 85, _ => exact List.mem_of_getElem? cw_85
  | 86, _ => exact List.mem_of_getElem? cw_86
  | 87, _ => exact List.mem_of_getElem? cw_87
  | 88, _ => exact List.mem_of_getElem? cw_88
  | 89, _ => exact List.mem_of_getElem? cw_89
  | 90, _ => exact List.mem_of_getElem? cw_90
  | 91, _ => exact List.mem_of_getElem? cw_91
  | 92, _ => exact List.mem_of_getElem? cw_92
  | 93, _ => exact List.mem_of_getElem? cw_93
  | 94, _ => exact List.mem_of_getElem? cw_94
  | 95, _ => exact List.mem_of_getElem? cw_95
  | 96, _ => exact List.mem_of_getElem? cw_96
  | 97, _ => exact List.mem_of_getElem? cw_97
  | 98, _ => exact List.mem_of_getElem? cw_98
  | 99, _ => exact List.mem_of_getElem? cw_99
  | 100, _ => exact List.mem_of_getElem? cw_100
  | 101, _ => exact List.mem_of_getElem? cw_101
  | 102, _ => exact List.mem_of_getElem? cw_102
  | 103, _ => exact List.mem_of_getElem? cw_103
  | 104, _ => exact List.mem_of_getElem? cw_104
  | 105, _ => exact List.mem_of_getElem? cw_105
  | 106, _ => exact List.mem_of_getElem? cw_106
  | 107, _ => exact List.mem_of_getElem? cw_107
  | 108, _ => exact List.mem_of_getElem? cw_108
  | 109, _ => exact List.mem_of_getElem? cw_109
  | 110, _ => exact List.mem_of_getElem? cw_110
  | 111, _ => exact List.mem_of_getElem? cw_111
  | 112, _ => exact List.mem_of_getElem? cw_112
  | 113, _ => exact List.mem_of_getElem? cw_113
  | 114, _ => exact List.mem_of_getElem? cw_114
  | 115, _ => exact List.mem_of_getElem? cw_115
  | 116, _ => exact List.mem_of_getElem? cw_116
  | 117, _ => exact List.mem_of_getElem? cw_117
  | 118, _ => exact List.mem_of_getElem? cw_118
  | 119, _ => exact List.mem_of_getElem? cw_119
  | 120, _ => exact List.mem_of_getElem? cw_120
  | 121, _ => exact List.mem_of_getElem? cw_121
  | 122, _ => exact List.mem_of_getElem? cw_122
  | 123, _ => exact List.mem_of_getElem? cw_123
  | 124, _ => exact List.mem_of_getElem? cw_124
  | 125, _ => exact List.mem_of_getElem? cw_125
  | 126, _ => exact List.mem_of_getElem? cw_126
  | 127, _ => exact List.mem_of_getElem? cw_127
  | 128, _ => exact List.mem_of_getElem? cw_128
  | 129, _ => exact List.mem_of_getElem? cw_129
  | 130, _ => exact List.mem_of_getElem? cw_130
  | 131, _ => exact List.mem_of_getElem? cw_131
  | 132, _ => exact List.mem_of_getElem? cw_132
  | 133, _ => exact List.mem_of_getElem? cw_133
  | 134, _ => exact List.mem_of_getElem? cw_134
  | 135, _ => exact List.mem_of_getElem? cw_135
  | 136, _ => exact List.mem_of_getElem? cw_136
  | n + 137, h => omega
/-- the words that stay good whatever is loaded -/
def gt : List Cond := lw_tbl.filter goodWord
theorem gt_in {w : Cond} (h : w ∈ lw_tbl) (hg : goodWord w = true) : w ∈ gt := List.mem_filter.mpr ⟨h, hg⟩
theorem gt_at {w : Cond} {k : Nat} (h : lw_tbl[k]? = some w) (hg : goodWord w = true) : w ∈ gt := gt_in (List.mem_of_getElem? h) hg
theorem gt_tbl {w : Cond} (h : w ∈ gt) : w ∈ lw_tbl := (List.mem_filter.mp h).1
theorem gt_good : GoodIn gt gt := fun w h => ⟨h, good_of_word (List.mem_filter.mp h).2⟩
theorem tw_good : ∀ c, c < 8 → ∀ w ∈ u_ws (RR c) (TT c) (NN c), goodWord w = true := by decide +kernel
theorem tw_gt : ∀ c, c < 8 → ∀ w ∈ u_ws (RR c) (TT c) (NN c), w ∈ gt := fun c hc w hw => gt_in (tw_all c hc w hw) (tw_good c hc w hw)
theorem ac_I : Cond.arrayClass .int ∈ lw_tbl := by decide +kernel
theorem ac_Z : Cond.arrayClass .boolean ∈ lw_tbl := by decide +kernel
theorem oi_1 : Cond.instanceMethod objectInit ∈ lw_tbl := by decide +kernel
theorem oi_2 : Cond.code objectInit ⟨#[0xb1]⟩ 1 none ∈ lw_tbl := by decide +kernel
theorem mm_1 : Cond.static Lib.Math.min.name ∈ lw_tbl := by decide +kernel
theorem mm_2 : Cond.static Lib.Math.max.name ∈ lw_tbl := by decide +kernel
theorem mm_3 : Cond.initialized "java/lang/Math" ∈ lw_tbl := by decide +kernel
theorem mm_4 : Cond.code Lib.Math.min.name Lib.Math.min.code 2 (some .int) ∈ lw_tbl := by decide +kernel
theorem mm_5 : Cond.code Lib.Math.max.name Lib.Math.max.code 2 (some .int) ∈ lw_tbl := by decide +kernel
