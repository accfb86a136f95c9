section
-- ===== PART A: goes FIRST, ahead of the names: the tables' words, and 'selects' of the private methods out of them =====
/-- a private method of a class that the tables say can be made, by its rows of tables_1 -/
def lw_okq (q : MethodName × Nat) : Prop := (q.1.cls ≠ "java/lang/invoke/MethodHandle" ∧ q.1.cls ≠ "java/lang/invoke/VarHandle") ∧ Cond.instantiable q.1.cls q.2 ∈ tables_1 ∧ Cond.privateMethod q.1 ∈ tables_1 ∧ Cond.instanceMethod q.1 ∈ tables_1
theorem lw_p0 : lw_okq (⟨"TrailBreakers$Trail", "reckonDues", "()Z"⟩, 13) := ⟨⟨by decide +kernel, by decide +kernel⟩, List.mem_of_getElem? (i := 36) (by decide +kernel), List.mem_of_getElem? (i := 366) (by decide +kernel), List.mem_of_getElem? (i := 367) (by decide +kernel)⟩
theorem lw_p1 : lw_okq (⟨"TrailBreakers$Ways", "layOutStretch", "(I)V"⟩, 7) := ⟨⟨by decide +kernel, by decide +kernel⟩, List.mem_of_getElem? (i := 117) (by decide +kernel), List.mem_of_getElem? (i := 421) (by decide +kernel), List.mem_of_getElem? (i := 422) (by decide +kernel)⟩
theorem lw_p2 : lw_okq (⟨"TrailBreakers$BestFirsts", "goOn", "(IIII)V"⟩, 5) := ⟨⟨by decide +kernel, by decide +kernel⟩, List.mem_of_getElem? (i := 111) (by decide +kernel), List.mem_of_getElem? (i := 434) (by decide +kernel), List.mem_of_getElem? (i := 435) (by decide +kernel)⟩
theorem lw_p3 : lw_okq (⟨"TrailBreakers$BestFirsts", "isBeaten", "(II)Z"⟩, 5) := ⟨⟨by decide +kernel, by decide +kernel⟩, List.mem_of_getElem? (i := 111) (by decide +kernel), List.mem_of_getElem? (i := 438) (by decide +kernel), List.mem_of_getElem? (i := 439) (by decide +kernel)⟩
theorem lw_p4 : lw_okq (⟨"TrailBreakers$BestFirsts", "keep", "(II)V"⟩, 5) := ⟨⟨by decide +kernel, by decide +kernel⟩, List.mem_of_getElem? (i := 111) (by decide +kernel), List.mem_of_getElem? (i := 442) (by decide +kernel), List.mem_of_getElem? (i := 443) (by decide +kernel)⟩
theorem lw_p5 : lw_okq (⟨"TrailBreakers$BestFirsts", "step", "(III)V"⟩, 5) := ⟨⟨by decide +kernel, by decide +kernel⟩, List.mem_of_getElem? (i := 111) (by decide +kernel), List.mem_of_getElem? (i := 450) (by decide +kernel), List.mem_of_getElem? (i := 451) (by decide +kernel)⟩
theorem lw_p6 : lw_okq (⟨"TrailBreakers$SettingOut", "fillFrom", "(I)V"⟩, 5) := ⟨⟨by decide +kernel, by decide +kernel⟩, List.mem_of_getElem? (i := 202) (by decide +kernel), List.mem_of_getElem? (i := 473) (by decide +kernel), List.mem_of_getElem? (i := 474) (by decide +kernel)⟩
theorem lw_p7 : lw_okq (⟨"TrailBreakers$SettingOut", "tryFile", "()V"⟩, 5) := ⟨⟨by decide +kernel, by decide +kernel⟩, List.mem_of_getElem? (i := 202) (by decide +kernel), List.mem_of_getElem? (i := 477) (by decide +kernel), List.mem_of_getElem? (i := 478) (by decide +kernel)⟩
theorem lw_p8 : lw_okq (⟨"TrailBreakers$SettingOut", "startAnew", "()V"⟩, 5) := ⟨⟨by decide +kernel, by decide +kernel⟩, List.mem_of_getElem? (i := 202) (by decide +kernel), List.mem_of_getElem? (i := 481) (by decide +kernel), List.mem_of_getElem? (i := 482) (by decide +kernel)⟩
theorem lw_p9 : lw_okq (⟨"TrailBreakers$SettingOut", "step", "(II)V"⟩, 5) := ⟨⟨by decide +kernel, by decide +kernel⟩, List.mem_of_getElem? (i := 202) (by decide +kernel), List.mem_of_getElem? (i := 488) (by decide +kernel), List.mem_of_getElem? (i := 489) (by decide +kernel)⟩
theorem lw_p10 : lw_okq (⟨"TrailBreakers", "mayReadBook", "()Z"⟩, 11) := ⟨⟨by decide +kernel, by decide +kernel⟩, List.mem_of_getElem? (i := 11) (by decide +kernel), List.mem_of_getElem? (i := 500) (by decide +kernel), List.mem_of_getElem? (i := 501) (by decide +kernel)⟩
theorem lw_p11 : lw_okq (⟨"TrailBreakers$BookFirsts", "goOn", "(II)V"⟩, 7) := ⟨⟨by decide +kernel, by decide +kernel⟩, List.mem_of_getElem? (i := 170) (by decide +kernel), List.mem_of_getElem? (i := 509) (by decide +kernel), List.mem_of_getElem? (i := 510) (by decide +kernel)⟩
theorem lw_p12 : lw_okq (⟨"TrailBreakers$BookFirsts", "note", "(I)V"⟩, 7) := ⟨⟨by decide +kernel, by decide +kernel⟩, List.mem_of_getElem? (i := 170) (by decide +kernel), List.mem_of_getElem? (i := 513) (by decide +kernel), List.mem_of_getElem? (i := 514) (by decide +kernel)⟩
theorem lw_p13 : lw_okq (⟨"TrailBreakers$BookFirsts", "step", "(III)V"⟩, 7) := ⟨⟨by decide +kernel, by decide +kernel⟩, List.mem_of_getElem? (i := 170) (by decide +kernel), List.mem_of_getElem? (i := 517) (by decide +kernel), List.mem_of_getElem? (i := 518) (by decide +kernel)⟩
theorem lw_p14 : lw_okq (⟨"TrailBreakers", "spendDays", "(II)I"⟩, 11) := ⟨⟨by decide +kernel, by decide +kernel⟩, List.mem_of_getElem? (i := 11) (by decide +kernel), List.mem_of_getElem? (i := 530) (by decide +kernel), List.mem_of_getElem? (i := 531) (by decide +kernel)⟩
theorem lw_p15 : lw_okq (⟨"TrailBreakersModel", "faultOf", "()I"⟩, 40) := ⟨⟨by decide +kernel, by decide +kernel⟩, List.mem_of_getElem? (i := 572) (by decide +kernel), List.mem_of_getElem? (i := 715) (by decide +kernel), List.mem_of_getElem? (i := 716) (by decide +kernel)⟩
def lw_privs_1 : List (MethodName × Nat) := [(⟨"TrailBreakers$Trail", "reckonDues", "()Z"⟩, 13), (⟨"TrailBreakers$Ways", "layOutStretch", "(I)V"⟩, 7), (⟨"TrailBreakers$BestFirsts", "goOn", "(IIII)V"⟩, 5), (⟨"TrailBreakers$BestFirsts", "isBeaten", "(II)Z"⟩, 5), (⟨"TrailBreakers$BestFirsts", "keep", "(II)V"⟩, 5), (⟨"TrailBreakers$BestFirsts", "step", "(III)V"⟩, 5), (⟨"TrailBreakers$SettingOut", "fillFrom", "(I)V"⟩, 5), (⟨"TrailBreakers$SettingOut", "tryFile", "()V"⟩, 5), (⟨"TrailBreakers$SettingOut", "startAnew", "()V"⟩, 5), (⟨"TrailBreakers$SettingOut", "step", "(II)V"⟩, 5), (⟨"TrailBreakers", "mayReadBook", "()Z"⟩, 11), (⟨"TrailBreakers$BookFirsts", "goOn", "(II)V"⟩, 7), (⟨"TrailBreakers$BookFirsts", "note", "(I)V"⟩, 7), (⟨"TrailBreakers$BookFirsts", "step", "(III)V"⟩, 7), (⟨"TrailBreakers", "spendDays", "(II)I"⟩, 11), (⟨"TrailBreakersModel", "faultOf", "()I"⟩, 40)]
theorem lw_r1 : ∀ q ∈ lw_privs_1, lw_okq q := List.forall_mem_cons.mpr ⟨lw_p0, List.forall_mem_cons.mpr ⟨lw_p1, List.forall_mem_cons.mpr ⟨lw_p2, List.forall_mem_cons.mpr ⟨lw_p3, List.forall_mem_cons.mpr ⟨lw_p4, List.forall_mem_cons.mpr ⟨lw_p5, List.forall_mem_cons.mpr ⟨lw_p6, List.forall_mem_cons.mpr ⟨lw_p7, List.forall_mem_cons.mpr ⟨lw_p8, List.forall_mem_cons.mpr ⟨lw_p9, List.forall_mem_cons.mpr ⟨lw_p10, List.forall_mem_cons.mpr ⟨lw_p11, List.forall_mem_cons.mpr ⟨lw_p12, List.forall_mem_cons.mpr ⟨lw_p13, List.forall_mem_cons.mpr ⟨lw_p14, List.forall_mem_cons.mpr ⟨lw_p15, fun _ h => absurd h List.not_mem_nil⟩⟩⟩⟩⟩⟩⟩⟩⟩⟩⟩⟩⟩⟩⟩⟩
theorem lw_p16 : lw_okq (⟨"TrailBreakersModel", "go", "(I)Z"⟩, 40) := ⟨⟨by decide +kernel, by decide +kernel⟩, List.mem_of_getElem? (i := 572) (by decide +kernel), List.mem_of_getElem? (i := 719) (by decide +kernel), List.mem_of_getElem? (i := 720) (by decide +kernel)⟩
theorem lw_p17 : lw_okq (⟨"TrailBreakersModel", "isStretch", "(I)Z"⟩, 40) := ⟨⟨by decide +kernel, by decide +kernel⟩, List.mem_of_getElem? (i := 572) (by decide +kernel), List.mem_of_getElem? (i := 736) (by decide +kernel), List.mem_of_getElem? (i := 737) (by decide +kernel)⟩
theorem lw_p18 : lw_okq (⟨"TrailBreakersModel", "lacks", "()Z"⟩, 40) := ⟨⟨by decide +kernel, by decide +kernel⟩, List.mem_of_getElem? (i := 572) (by decide +kernel), List.mem_of_getElem? (i := 746) (by decide +kernel), List.mem_of_getElem? (i := 747) (by decide +kernel)⟩
theorem lw_p19 : lw_okq (⟨"TrailBreakersModel", "isWalker", "(I)Z"⟩, 40) := ⟨⟨by decide +kernel, by decide +kernel⟩, List.mem_of_getElem? (i := 572) (by decide +kernel), List.mem_of_getElem? (i := 754) (by decide +kernel), List.mem_of_getElem? (i := 755) (by decide +kernel)⟩
theorem lw_p20 : lw_okq (⟨"TrailBreakersModel", "tells", "(II)I"⟩, 40) := ⟨⟨by decide +kernel, by decide +kernel⟩, List.mem_of_getElem? (i := 572) (by decide +kernel), List.mem_of_getElem? (i := 758) (by decide +kernel), List.mem_of_getElem? (i := 759) (by decide +kernel)⟩
theorem lw_p21 : lw_okq (⟨"TrailBreakersModel", "placeOf", "(I)I"⟩, 40) := ⟨⟨by decide +kernel, by decide +kernel⟩, List.mem_of_getElem? (i := 572) (by decide +kernel), List.mem_of_getElem? (i := 762) (by decide +kernel), List.mem_of_getElem? (i := 763) (by decide +kernel)⟩
theorem lw_p22 : lw_okq (⟨"TrailBreakersModel", "firstsOf", "(I)I"⟩, 40) := ⟨⟨by decide +kernel, by decide +kernel⟩, List.mem_of_getElem? (i := 572) (by decide +kernel), List.mem_of_getElem? (i := 766) (by decide +kernel), List.mem_of_getElem? (i := 767) (by decide +kernel)⟩
theorem lw_p23 : lw_okq (⟨"TrailBreakersModel", "paysAt", "([III)I"⟩, 40) := ⟨⟨by decide +kernel, by decide +kernel⟩, List.mem_of_getElem? (i := 572) (by decide +kernel), List.mem_of_getElem? (i := 770) (by decide +kernel), List.mem_of_getElem? (i := 771) (by decide +kernel)⟩
theorem lw_p24 : lw_okq (⟨"TrailBreakersModel", "asItIs", "()V"⟩, 40) := ⟨⟨by decide +kernel, by decide +kernel⟩, List.mem_of_getElem? (i := 572) (by decide +kernel), List.mem_of_getElem? (i := 782) (by decide +kernel), List.mem_of_getElem? (i := 783) (by decide +kernel)⟩
theorem lw_p25 : lw_okq (⟨"TrailBreakersModel", "canTread", "(I)Z"⟩, 40) := ⟨⟨by decide +kernel, by decide +kernel⟩, List.mem_of_getElem? (i := 572) (by decide +kernel), List.mem_of_getElem? (i := 786) (by decide +kernel), List.mem_of_getElem? (i := 787) (by decide +kernel)⟩
theorem lw_p26 : lw_okq (⟨"TrailBreakersModel", "treads", "(I)V"⟩, 40) := ⟨⟨by decide +kernel, by decide +kernel⟩, List.mem_of_getElem? (i := 572) (by decide +kernel), List.mem_of_getElem? (i := 790) (by decide +kernel), List.mem_of_getElem? (i := 791) (by decide +kernel)⟩
theorem lw_p27 : lw_okq (⟨"TrailBreakersModel", "layNow", "()V"⟩, 40) := ⟨⟨by decide +kernel, by decide +kernel⟩, List.mem_of_getElem? (i := 572) (by decide +kernel), List.mem_of_getElem? (i := 794) (by decide +kernel), List.mem_of_getElem? (i := 795) (by decide +kernel)⟩
theorem lw_p28 : lw_okq (⟨"TrailBreakersModel", "turns", "()V"⟩, 40) := ⟨⟨by decide +kernel, by decide +kernel⟩, List.mem_of_getElem? (i := 572) (by decide +kernel), List.mem_of_getElem? (i := 802) (by decide +kernel), List.mem_of_getElem? (i := 803) (by decide +kernel)⟩
theorem lw_p29 : lw_okq (⟨"TrailBreakersModel", "restsNow", "()I"⟩, 40) := ⟨⟨by decide +kernel, by decide +kernel⟩, List.mem_of_getElem? (i := 572) (by decide +kernel), List.mem_of_getElem? (i := 810) (by decide +kernel), List.mem_of_getElem? (i := 811) (by decide +kernel)⟩
theorem lw_p30 : lw_okq (⟨"TrailBreakersModel", "depthsLeft", "()I"⟩, 40) := ⟨⟨by decide +kernel, by decide +kernel⟩, List.mem_of_getElem? (i := 572) (by decide +kernel), List.mem_of_getElem? (i := 819) (by decide +kernel), List.mem_of_getElem? (i := 820) (by decide +kernel)⟩
theorem lw_p31 : lw_okq (⟨"TrailBreakersModel", "tellBest", "(I)I"⟩, 40) := ⟨⟨by decide +kernel, by decide +kernel⟩, List.mem_of_getElem? (i := 572) (by decide +kernel), List.mem_of_getElem? (i := 833) (by decide +kernel), List.mem_of_getElem? (i := 834) (by decide +kernel)⟩
def lw_privs_2 : List (MethodName × Nat) := [(⟨"TrailBreakersModel", "go", "(I)Z"⟩, 40), (⟨"TrailBreakersModel", "isStretch", "(I)Z"⟩, 40), (⟨"TrailBreakersModel", "lacks", "()Z"⟩, 40), (⟨"TrailBreakersModel", "isWalker", "(I)Z"⟩, 40), (⟨"TrailBreakersModel", "tells", "(II)I"⟩, 40), (⟨"TrailBreakersModel", "placeOf", "(I)I"⟩, 40), (⟨"TrailBreakersModel", "firstsOf", "(I)I"⟩, 40), (⟨"TrailBreakersModel", "paysAt", "([III)I"⟩, 40), (⟨"TrailBreakersModel", "asItIs", "()V"⟩, 40), (⟨"TrailBreakersModel", "canTread", "(I)Z"⟩, 40), (⟨"TrailBreakersModel", "treads", "(I)V"⟩, 40), (⟨"TrailBreakersModel", "layNow", "()V"⟩, 40), (⟨"TrailBreakersModel", "turns", "()V"⟩, 40), (⟨"TrailBreakersModel", "restsNow", "()I"⟩, 40), (⟨"TrailBreakersModel", "depthsLeft", "()I"⟩, 40), (⟨"TrailBreakersModel", "tellBest", "(I)I"⟩, 40)]
theorem lw_r2 : ∀ q ∈ lw_privs_2, lw_okq q := List.forall_mem_cons.mpr ⟨lw_p16, List.forall_mem_cons.mpr ⟨lw_p17, List.forall_mem_cons.mpr ⟨lw_p18, List.forall_mem_cons.mpr ⟨lw_p19, List.forall_mem_cons.mpr ⟨lw_p20, List.forall_mem_cons.mpr ⟨lw_p21, List.forall_mem_cons.mpr ⟨lw_p22, List.forall_mem_cons.mpr ⟨lw_p23, List.forall_mem_cons.mpr ⟨lw_p24, List.forall_mem_cons.mpr ⟨lw_p25, List.forall_mem_cons.mpr ⟨lw_p26, List.forall_mem_cons.mpr ⟨lw_p27, List.forall_mem_cons.mpr ⟨lw_p28, List.forall_mem_cons.mpr ⟨lw_p29, List.forall_mem_cons.mpr ⟨lw_p30, List.forall_mem_cons.mpr ⟨lw_p31, fun _ h => absurd h List.not_mem_nil⟩⟩⟩⟩⟩⟩⟩⟩⟩⟩⟩⟩⟩⟩⟩⟩
theorem lw_p32 : lw_okq (⟨"TrailBreakersModel", "layBest", "()V"⟩, 40) := ⟨⟨by decide +kernel, by decide +kernel⟩, List.mem_of_getElem? (i := 572) (by decide +kernel), List.mem_of_getElem? (i := 837) (by decide +kernel), List.mem_of_getElem? (i := 838) (by decide +kernel)⟩
theorem lw_p33 : lw_okq (⟨"TrailBreakersModel", "ways", "()I"⟩, 40) := ⟨⟨by decide +kernel, by decide +kernel⟩, List.mem_of_getElem? (i := 572) (by decide +kernel), List.mem_of_getElem? (i := 841) (by decide +kernel), List.mem_of_getElem? (i := 842) (by decide +kernel)⟩
theorem lw_p34 : lw_okq (⟨"TrailBreakersModel", "layWho", "(I)V"⟩, 40) := ⟨⟨by decide +kernel, by decide +kernel⟩, List.mem_of_getElem? (i := 572) (by decide +kernel), List.mem_of_getElem? (i := 845) (by decide +kernel), List.mem_of_getElem? (i := 846) (by decide +kernel)⟩
theorem lw_p35 : lw_okq (⟨"TrailBreakersModel", "goesBy", "()Z"⟩, 40) := ⟨⟨by decide +kernel, by decide +kernel⟩, List.mem_of_getElem? (i := 572) (by decide +kernel), List.mem_of_getElem? (i := 849) (by decide +kernel), List.mem_of_getElem? (i := 850) (by decide +kernel)⟩
theorem lw_p36 : lw_okq (⟨"TrailBreakersModel", "leastLeft", "()I"⟩, 40) := ⟨⟨by decide +kernel, by decide +kernel⟩, List.mem_of_getElem? (i := 572) (by decide +kernel), List.mem_of_getElem? (i := 853) (by decide +kernel), List.mem_of_getElem? (i := 854) (by decide +kernel)⟩
theorem lw_p37 : lw_okq (⟨"TrailBreakersModel", "farOf", "(I)I"⟩, 40) := ⟨⟨by decide +kernel, by decide +kernel⟩, List.mem_of_getElem? (i := 572) (by decide +kernel), List.mem_of_getElem? (i := 862) (by decide +kernel), List.mem_of_getElem? (i := 863) (by decide +kernel)⟩
theorem lw_p38 : lw_okq (⟨"TrailBreakersModel", "setOutLeft", "()I"⟩, 40) := ⟨⟨by decide +kernel, by decide +kernel⟩, List.mem_of_getElem? (i := 572) (by decide +kernel), List.mem_of_getElem? (i := 871) (by decide +kernel), List.mem_of_getElem? (i := 872) (by decide +kernel)⟩
theorem lw_p39 : lw_okq (⟨"TrailBreakersModel", "isOrder", "(I)Z"⟩, 40) := ⟨⟨by decide +kernel, by decide +kernel⟩, List.mem_of_getElem? (i := 572) (by decide +kernel), List.mem_of_getElem? (i := 875) (by decide +kernel), List.mem_of_getElem? (i := 876) (by decide +kernel)⟩
theorem lw_p40 : lw_okq (⟨"TrailBreakersModel", "setsOut", "()Z"⟩, 40) := ⟨⟨by decide +kernel, by decide +kernel⟩, List.mem_of_getElem? (i := 572) (by decide +kernel), List.mem_of_getElem? (i := 879) (by decide +kernel), List.mem_of_getElem? (i := 880) (by decide +kernel)⟩
theorem lw_p41 : lw_okq (⟨"TrailBreakersModel", "layFits", "()I"⟩, 40) := ⟨⟨by decide +kernel, by decide +kernel⟩, List.mem_of_getElem? (i := 572) (by decide +kernel), List.mem_of_getElem? (i := 895) (by decide +kernel), List.mem_of_getElem? (i := 896) (by decide +kernel)⟩
theorem lw_p42 : lw_okq (⟨"TrailBreakersModel", "isBooked", "()Z"⟩, 40) := ⟨⟨by decide +kernel, by decide +kernel⟩, List.mem_of_getElem? (i := 572) (by decide +kernel), List.mem_of_getElem? (i := 899) (by decide +kernel), List.mem_of_getElem? (i := 900) (by decide +kernel)⟩
theorem lw_p43 : lw_okq (⟨"TrailBreakersModel", "draw", "(I)I"⟩, 40) := ⟨⟨by decide +kernel, by decide +kernel⟩, List.mem_of_getElem? (i := 572) (by decide +kernel), List.mem_of_getElem? (i := 913) (by decide +kernel), List.mem_of_getElem? (i := 914) (by decide +kernel)⟩
theorem lw_p44 : lw_okq (⟨"TrailBreakersModel", "countOf", "(I)I"⟩, 40) := ⟨⟨by decide +kernel, by decide +kernel⟩, List.mem_of_getElem? (i := 572) (by decide +kernel), List.mem_of_getElem? (i := 933) (by decide +kernel), List.mem_of_getElem? (i := 934) (by decide +kernel)⟩
theorem lw_p45 : lw_okq (⟨"TrailBreakersModel", "say", "(J)V"⟩, 40) := ⟨⟨by decide +kernel, by decide +kernel⟩, List.mem_of_getElem? (i := 572) (by decide +kernel), List.mem_of_getElem? (i := 942) (by decide +kernel), List.mem_of_getElem? (i := 943) (by decide +kernel)⟩
def lw_privs_3 : List (MethodName × Nat) := [(⟨"TrailBreakersModel", "layBest", "()V"⟩, 40), (⟨"TrailBreakersModel", "ways", "()I"⟩, 40), (⟨"TrailBreakersModel", "layWho", "(I)V"⟩, 40), (⟨"TrailBreakersModel", "goesBy", "()Z"⟩, 40), (⟨"TrailBreakersModel", "leastLeft", "()I"⟩, 40), (⟨"TrailBreakersModel", "farOf", "(I)I"⟩, 40), (⟨"TrailBreakersModel", "setOutLeft", "()I"⟩, 40), (⟨"TrailBreakersModel", "isOrder", "(I)Z"⟩, 40), (⟨"TrailBreakersModel", "setsOut", "()Z"⟩, 40), (⟨"TrailBreakersModel", "layFits", "()I"⟩, 40), (⟨"TrailBreakersModel", "isBooked", "()Z"⟩, 40), (⟨"TrailBreakersModel", "draw", "(I)I"⟩, 40), (⟨"TrailBreakersModel", "countOf", "(I)I"⟩, 40), (⟨"TrailBreakersModel", "say", "(J)V"⟩, 40)]
theorem lw_r3 : ∀ q ∈ lw_privs_3, lw_okq q := List.forall_mem_cons.mpr ⟨lw_p32, List.forall_mem_cons.mpr ⟨lw_p33, List.forall_mem_cons.mpr ⟨lw_p34, List.forall_mem_cons.mpr ⟨lw_p35, List.forall_mem_cons.mpr ⟨lw_p36, List.forall_mem_cons.mpr ⟨lw_p37, List.forall_mem_cons.mpr ⟨lw_p38, List.forall_mem_cons.mpr ⟨lw_p39, List.forall_mem_cons.mpr ⟨lw_p40, List.forall_mem_cons.mpr ⟨lw_p41, List.forall_mem_cons.mpr ⟨lw_p42, List.forall_mem_cons.mpr ⟨lw_p43, List.forall_mem_cons.mpr ⟨lw_p44, List.forall_mem_cons.mpr ⟨lw_p45, fun _ h => absurd h List.not_mem_nil⟩⟩⟩⟩⟩⟩⟩⟩⟩⟩⟩⟩⟩⟩
def lw_privs : List (MethodName × Nat) := lw_privs_1 ++ (lw_privs_2 ++ (lw_privs_3))
def lw_tbl : List Cond := k2_sels lw_privs ++ tables_1
theorem lw_privs_ok : ∀ q ∈ lw_privs, lw_okq q := by
  show ∀ q ∈ lw_privs_1 ++ (lw_privs_2 ++ (lw_privs_3)), lw_okq q
  exact List.forall_mem_append.mpr ⟨lw_r1, List.forall_mem_append.mpr ⟨lw_r2, lw_r3⟩⟩
-- ===== end of PART A; then your names; then what follows =====

/-! the tables: classes, fields, methods, what an instruction names, by numbers -/
def RRs : List String := ["TrailBreakers$BestFirsts", "TrailBreakers$BookFirsts", "TrailBreakers$Page", "TrailBreakers$SettingOut", "TrailBreakers$Trail", "TrailBreakers$Ways", "TrailBreakers", "TrailBreakersModel", "TrailBreakersLaw"]
def RR (k : Nat) : String := RRs.getD k ""
def fts : List (List (String × String × String × Bool)) := [[("TrailBreakers$BestFirsts", "ways", "LTrailBreakers$Ways;", true), ("TrailBreakers$BestFirsts", "tried", "[I", true), ("TrailBreakers$BestFirsts", "firsts", "[I", true), ("TrailBreakers$BestFirsts", "least", "I", false), ("TrailBreakers$BestFirsts", "changes", "I", false)], [("TrailBreakers$BookFirsts", "ways", "LTrailBreakers$Ways;", true), ("TrailBreakers$BookFirsts", "told", "[I", true), ("TrailBreakers$BookFirsts", "often", "[I", true), ("TrailBreakers$BookFirsts", "tried", "[I", true), ("TrailBreakers$BookFirsts", "owed", "I", false), ("TrailBreakers$BookFirsts", "found", "I", false), ("TrailBreakers$BookFirsts", "agreed", "I", false)], [("TrailBreakers$Page", "codes", "[I", true), ("TrailBreakers$Page", "size", "I", false)], [("TrailBreakers$SettingOut", "trial", "LTrailBreakers$Trail;", true), ("TrailBreakers$SettingOut", "placed", "[Z", true), ("TrailBreakers$SettingOut", "tried", "[I", true), ("TrailBreakers$SettingOut", "file", "[I", true), ("TrailBreakers$SettingOut", "least", "I", false)], [("TrailBreakers$Trail", "stretches", "I", false), ("TrailBreakers$Trail", "melt", "I", false), ("TrailBreakers$Trail", "trodden", "I", false), ("TrailBreakers$Trail", "walkers", "I", false), ("TrailBreakers$Trail", "minutes", "I", false), ("TrailBreakers$Trail", "depth", "[I", true), ("TrailBreakers$Trail", "firstOn", "[I", true), ("TrailBreakers$Trail", "kind", "[I", true), ("TrailBreakers$Trail", "strength", "[I", true), ("TrailBreakers$Trail", "left", "[I", true), ("TrailBreakers$Trail", "told", "[I", true), ("TrailBreakers$Trail", "file", "[I", true), ("TrailBreakers$Trail", "dues", "[I", true)], [("TrailBreakers$Ways", "turned", "LTrailBreakers$Trail;", true), ("TrailBreakers$Ways", "pays", "[I", true), ("TrailBreakers$Ways", "leftAhead", "[I", true), ("TrailBreakers$Ways", "place", "[I", true), ("TrailBreakers$Ways", "walkers", "I", false), ("TrailBreakers$Ways", "from", "I", false), ("TrailBreakers$Ways", "stretches", "I", false)], [("TrailBreakers", "page", "LTrailBreakers$Page;", true), ("TrailBreakers", "now", "LTrailBreakers$Trail;", true), ("TrailBreakers", "kept", "LTrailBreakers$Trail;", true), ("TrailBreakers", "trial", "LTrailBreakers$Trail;", true), ("TrailBreakers", "bestFirsts", "LTrailBreakers$BestFirsts;", true), ("TrailBreakers", "bookFirsts", "LTrailBreakers$BookFirsts;", true), ("TrailBreakers", "settingOut", "LTrailBreakers$SettingOut;", true), ("TrailBreakers", "imageStands", "Z", false), ("TrailBreakers", "slopesRead", "I", false), ("TrailBreakers", "bestDone", "I", false), ("TrailBreakers", "fitsDone", "I", false)], [("TrailBreakersModel", "page", "[I", true), ("TrailBreakersModel", "pageMany", "I", false), ("TrailBreakersModel", "state", "I", false), ("TrailBreakersModel", "readMany", "I", false), ("TrailBreakersModel", "stretches", "I", false), ("TrailBreakersModel", "melt", "I", false), ("TrailBreakersModel", "trodden", "I", false), ("TrailBreakersModel", "minutes", "I", false), ("TrailBreakersModel", "slopesRead", "I", false), ("TrailBreakersModel", "depths", "[I", true), ("TrailBreakersModel", "firsts", "[I", true), ("TrailBreakersModel", "walkers", "I", false), ("TrailBreakersModel", "rows", "[I", true), ("TrailBreakersModel", "left", "[I", true), ("TrailBreakersModel", "file", "[I", true), ("TrailBreakersModel", "nowFile", "[I", true), ("TrailBreakersModel", "nowLeft", "[I", true), ("TrailBreakersModel", "who", "[I", true), ("TrailBreakersModel", "changes", "I", false), ("TrailBreakersModel", "bestMany", "I", false), ("TrailBreakersModel", "bestCode", "I", false), ("TrailBreakersModel", "bestLeft", "I", false), ("TrailBreakersModel", "bestChanges", "I", false), ("TrailBreakersModel", "order", "[I", true), ("TrailBreakersModel", "bestOrder", "[I", true), ("TrailBreakersModel", "asked", "I", false), ("TrailBreakersModel", "often", "[I", true), ("TrailBreakersModel", "may", "[I", true), ("TrailBreakersModel", "seedNow", "I", false), ("TrailBreakersModel", "savedDepths", "[I", true), ("TrailBreakersModel", "keptSlope", "I", false), ("TrailBreakersModel", "keptWalkers", "I", false), ("TrailBreakersModel", "keptTrodden", "I", false), ("TrailBreakersModel", "keptMinutes", "I", false), ("TrailBreakersModel", "keptRows", "[I", true), ("TrailBreakersModel", "keptLeft", "[I", true), ("TrailBreakersModel", "keptFile", "[I", true), ("TrailBreakersModel", "keptDepths", "[I", true), ("TrailBreakersModel", "keptFirsts", "[I", true), ("TrailBreakersModel", "hash", "J", false)]]
def TT (c : Nat) : u_T := fun k => (fts.getD c []).getD k ("", "", "", false)
def NNs : List Nat := [5, 7, 2, 5, 13, 7, 11, 40]
def NN (c : Nat) : Nat := NNs.getD c 0
def tys : List (List FieldType) := [[.object "TrailBreakers$Ways", .array .int, .array .int, .int, .int], [.object "TrailBreakers$Ways", .array .int, .array .int, .array .int, .int, .int, .int], [.array .int, .int], [.object "TrailBreakers$Trail", .array .boolean, .array .int, .array .int, .int], [.int, .int, .int, .int, .int, .array .int, .array .int, .array .int, .array .int, .array .int, .array .int, .array .int, .array .int], [.object "TrailBreakers$Trail", .array .int, .array .int, .array .int, .int, .int, .int], [.object "TrailBreakers$Page", .object "TrailBreakers$Trail", .object "TrailBreakers$Trail", .object "TrailBreakers$Trail", .object "TrailBreakers$BestFirsts", .object "TrailBreakers$BookFirsts", .object "TrailBreakers$SettingOut", .boolean, .int, .int, .int], [.array .int, .int, .int, .int, .int, .int, .int, .int, .int, .array .int, .array .int, .int, .array .int, .array .int, .array .int, .array .int, .array .int, .array .int, .int, .int, .int, .int, .int, .array .int, .array .int, .int, .array .int, .array .int, .int, .array .int, .int, .int, .int, .int, .array .int, .array .int, .array .int, .array .int, .array .int, .long]]
def TY (c : Nat) : Nat → FieldType := fun k => (tys.getD c []).getD k .int
def clss : List vw_C := (List.range 8).map fun c => (RR c, TT c, NN c)
def yys : List MethodName := [⟨"TrailBreakers$BestFirsts", "<init>", "()V"⟩, ⟨"TrailBreakers$BestFirsts", "search", "(LTrailBreakers$Trail;)V"⟩, ⟨"TrailBreakers$BestFirsts", "goOn", "(IIII)V"⟩, ⟨"TrailBreakers$BestFirsts", "step", "(III)V"⟩, ⟨"TrailBreakers$BestFirsts", "isBeaten", "(II)Z"⟩, ⟨"TrailBreakers$BestFirsts", "keep", "(II)V"⟩, ⟨"TrailBreakers$BookFirsts", "<init>", "()V"⟩, ⟨"TrailBreakers$BookFirsts", "search", "(LTrailBreakers$Trail;I)V"⟩, ⟨"TrailBreakers$BookFirsts", "goOn", "(II)V"⟩, ⟨"TrailBreakers$BookFirsts", "step", "(III)V"⟩, ⟨"TrailBreakers$BookFirsts", "note", "(I)V"⟩, ⟨"TrailBreakers$Page", "<init>", "()V"⟩, ⟨"TrailBreakers$Page", "append", "(I)V"⟩, ⟨"TrailBreakers$Page", "firstWrongPlace", "()I"⟩, ⟨"TrailBreakers$Page", "placesForDigits", "(I)I"⟩, ⟨"TrailBreakers$Page", "isSlope", "()Z"⟩, ⟨"TrailBreakers$Page", "digitAt", "(I)I"⟩, ⟨"TrailBreakers$SettingOut", "<init>", "()V"⟩, ⟨"TrailBreakers$SettingOut", "search", "(LTrailBreakers$Trail;)V"⟩, ⟨"TrailBreakers$SettingOut", "fillFrom", "(I)V"⟩, ⟨"TrailBreakers$SettingOut", "step", "(II)V"⟩, ⟨"TrailBreakers$SettingOut", "tryFile", "()V"⟩, ⟨"TrailBreakers$SettingOut", "startAnew", "()V"⟩, ⟨"TrailBreakers$Trail", "<init>", "()V"⟩, ⟨"TrailBreakers$Trail", "begin", "(LTrailBreakers$Page;)V"⟩, ⟨"TrailBreakers$Trail", "copyFrom", "(LTrailBreakers$Trail;)V"⟩, ⟨"TrailBreakers$Trail", "hasStretch", "(I)Z"⟩, ⟨"TrailBreakers$Trail", "hasWalker", "(I)Z"⟩, ⟨"TrailBreakers$Trail", "join", "(II)I"⟩, ⟨"TrailBreakers$Trail", "isOfKind", "(II)Z"⟩, ⟨"TrailBreakers$Trail", "placeOf", "(I)I"⟩, ⟨"TrailBreakers$Trail", "timesFirst", "(I)I"⟩, ⟨"TrailBreakers$Trail", "nextPay", "(I)I"⟩, ⟨"TrailBreakers$Trail", "payAt", "(II)I"⟩, ⟨"TrailBreakers$Trail", "treadNext", "()Z"⟩, ⟨"TrailBreakers$Trail", "reckonDues", "()Z"⟩, ⟨"TrailBreakers$Trail", "changeFirst", "()V"⟩, ⟨"TrailBreakers$Trail", "restAll", "()I"⟩, ⟨"TrailBreakers$Trail", "deepenBy", "(I)V"⟩, ⟨"TrailBreakers$Trail", "depthAhead", "()I"⟩, ⟨"TrailBreakers$Trail", "leftOfAll", "()I"⟩, ⟨"TrailBreakers$Trail", "leastLeft", "()I"⟩, ⟨"TrailBreakers$Trail", "toldOf", "()I"⟩, ⟨"TrailBreakers$Ways", "<init>", "()V"⟩, ⟨"TrailBreakers$Ways", "layOut", "(LTrailBreakers$Trail;)V"⟩, ⟨"TrailBreakers$Ways", "layOutStretch", "(I)V"⟩, ⟨"TrailBreakers$Ways", "rowOfPays", "(II)I"⟩, ⟨"TrailBreakers$Ways", "leastBehind", "(II)I"⟩, ⟨"TrailBreakers$Ways", "changesFrom", "(II)I"⟩, ⟨"TrailBreakers", "<init>", "()V"⟩, ⟨"TrailBreakers", "letter", "(I)I"⟩, ⟨"TrailBreakers", "blank", "()I"⟩, ⟨"TrailBreakers", "fault", "()I"⟩, ⟨"TrailBreakers", "slope", "()I"⟩, ⟨"TrailBreakers", "stretch", "(II)I"⟩, ⟨"TrailBreakers", "walker", "(II)I"⟩, ⟨"TrailBreakers", "about", "(II)I"⟩, ⟨"TrailBreakers", "as", "(II)I"⟩, ⟨"TrailBreakers", "tread", "()I"⟩, ⟨"TrailBreakers", "change", "()I"⟩, ⟨"TrailBreakers", "rest", "()I"⟩, ⟨"TrailBreakers", "snow", "(I)I"⟩, ⟨"TrailBreakers", "sun", "()I"⟩, ⟨"TrailBreakers", "best", "(I)I"⟩, ⟨"TrailBreakers", "far", "(I)I"⟩, ⟨"TrailBreakers", "setOut", "(I)I"⟩, ⟨"TrailBreakers", "tell", "(II)I"⟩, ⟨"TrailBreakers", "fits", "()I"⟩, ⟨"TrailBreakers", "sure", "(I)I"⟩, ⟨"TrailBreakers", "days", "(III)I"⟩, ⟨"TrailBreakers", "image", "()I"⟩, ⟨"TrailBreakers", "restore", "()I"⟩, ⟨"TrailBreakers", "count", "(I)I"⟩, ⟨"TrailBreakers", "digest", "()J"⟩, ⟨"TrailBreakers", "isKind", "(I)Z"⟩, ⟨"TrailBreakers", "mayReadBook", "()Z"⟩, ⟨"TrailBreakers", "spendDays", "(II)I"⟩, ⟨"TrailBreakers", "nextSeed", "(I)I"⟩, ⟨"TrailBreakersModel", "<init>", "()V"⟩, ⟨"TrailBreakersModel", "in", "(JJJ)Z"⟩, ⟨"TrailBreakersModel", "letter", "(I)I"⟩, ⟨"TrailBreakersModel", "blank", "()I"⟩, ⟨"TrailBreakersModel", "isDigit", "(I)Z"⟩, ⟨"TrailBreakersModel", "go", "(I)Z"⟩, ⟨"TrailBreakersModel", "faultOf", "()I"⟩, ⟨"TrailBreakersModel", "fault", "()I"⟩, ⟨"TrailBreakersModel", "slope", "()I"⟩, ⟨"TrailBreakersModel", "lacks", "()Z"⟩, ⟨"TrailBreakersModel", "isStretch", "(I)Z"⟩, ⟨"TrailBreakersModel", "stretch", "(II)I"⟩, ⟨"TrailBreakersModel", "isWalker", "(I)Z"⟩, ⟨"TrailBreakersModel", "walker", "(II)I"⟩, ⟨"TrailBreakersModel", "paysAt", "([III)I"⟩, ⟨"TrailBreakersModel", "placeOf", "(I)I"⟩, ⟨"TrailBreakersModel", "firstsOf", "(I)I"⟩, ⟨"TrailBreakersModel", "tells", "(II)I"⟩, ⟨"TrailBreakersModel", "about", "(II)I"⟩, ⟨"TrailBreakersModel", "as", "(II)I"⟩, ⟨"TrailBreakersModel", "asItIs", "()V"⟩, ⟨"TrailBreakersModel", "layNow", "()V"⟩, ⟨"TrailBreakersModel", "turns", "()V"⟩, ⟨"TrailBreakersModel", "canTread", "(I)Z"⟩, ⟨"TrailBreakersModel", "treads", "(I)V"⟩, ⟨"TrailBreakersModel", "leastLeft", "()I"⟩, ⟨"TrailBreakersModel", "tread", "()I"⟩, ⟨"TrailBreakersModel", "change", "()I"⟩, ⟨"TrailBreakersModel", "restsNow", "()I"⟩, ⟨"TrailBreakersModel", "rest", "()I"⟩, ⟨"TrailBreakersModel", "depthsLeft", "()I"⟩, ⟨"TrailBreakersModel", "snow", "(I)I"⟩, ⟨"TrailBreakersModel", "sun", "()I"⟩, ⟨"TrailBreakersModel", "ways", "()I"⟩, ⟨"TrailBreakersModel", "layWho", "(I)V"⟩, ⟨"TrailBreakersModel", "goesBy", "()Z"⟩, ⟨"TrailBreakersModel", "layBest", "()V"⟩, ⟨"TrailBreakersModel", "tellBest", "(I)I"⟩, ⟨"TrailBreakersModel", "best", "(I)I"⟩, ⟨"TrailBreakersModel", "farOf", "(I)I"⟩, ⟨"TrailBreakersModel", "far", "(I)I"⟩, ⟨"TrailBreakersModel", "isOrder", "(I)Z"⟩, ⟨"TrailBreakersModel", "setsOut", "()Z"⟩, ⟨"TrailBreakersModel", "setOutLeft", "()I"⟩, ⟨"TrailBreakersModel", "setOut", "(I)I"⟩, ⟨"TrailBreakersModel", "tell", "(II)I"⟩, ⟨"TrailBreakersModel", "isBooked", "()Z"⟩, ⟨"TrailBreakersModel", "layFits", "()I"⟩, ⟨"TrailBreakersModel", "fits", "()I"⟩, ⟨"TrailBreakersModel", "sure", "(I)I"⟩, ⟨"TrailBreakersModel", "draw", "(I)I"⟩, ⟨"TrailBreakersModel", "copy", "([I[I)V"⟩, ⟨"TrailBreakersModel", "days", "(III)I"⟩, ⟨"TrailBreakersModel", "image", "()I"⟩, ⟨"TrailBreakersModel", "restore", "()I"⟩, ⟨"TrailBreakersModel", "countOf", "(I)I"⟩, ⟨"TrailBreakersModel", "count", "(I)I"⟩, ⟨"TrailBreakersModel", "say", "(J)V"⟩, ⟨"TrailBreakersModel", "digest", "()J"⟩, ⟨"TrailBreakersLaw", "law", "([I)Z"⟩]
def yy (m : Nat) : MethodName := yys.getD m ⟨"", "", ""⟩
def cbs : List ByteArray := [prog_2_method_1_code, prog_2_method_2_code, prog_2_method_3_code, prog_2_method_4_code, prog_2_method_5_code, prog_2_method_6_code, prog_3_method_1_code, prog_3_method_2_code, prog_3_method_3_code, prog_3_method_4_code, prog_3_method_5_code, prog_4_method_1_code, prog_4_method_2_code, prog_4_method_3_code, prog_4_method_4_code, prog_4_method_5_code, prog_4_method_6_code, prog_5_method_1_code, prog_5_method_2_code, prog_5_method_3_code, prog_5_method_4_code, prog_5_method_5_code, prog_5_method_6_code, prog_6_method_1_code, prog_6_method_2_code, prog_6_method_3_code, prog_6_method_4_code, prog_6_method_5_code, prog_6_method_6_code, prog_6_method_7_code, prog_6_method_8_code, prog_6_method_9_code, prog_6_method_10_code, prog_6_method_11_code, prog_6_method_12_code, prog_6_method_13_code, prog_6_method_14_code, prog_6_method_15_code, prog_6_method_16_code, prog_6_method_17_code, prog_6_method_18_code, prog_6_method_19_code, prog_6_method_20_code, prog_7_method_1_code, prog_7_method_2_code, prog_7_method_3_code, prog_7_method_4_code, prog_7_method_5_code, prog_7_method_6_code, prog_1_method_1_code, prog_1_method_2_code, prog_1_method_3_code, prog_1_method_4_code, prog_1_method_5_code, prog_1_method_6_code, prog_1_method_7_code, prog_1_method_8_code, prog_1_method_9_code, prog_1_method_10_code, prog_1_method_11_code, prog_1_method_12_code, prog_1_method_13_code, prog_1_method_14_code, prog_1_method_15_code, prog_1_method_16_code, prog_1_method_17_code, prog_1_method_18_code, prog_1_method_19_code, prog_1_method_20_code, prog_1_method_21_code, prog_1_method_22_code, prog_1_method_23_code, prog_1_method_24_code, prog_1_method_25_code, prog_1_method_26_code, prog_1_method_27_code, prog_1_method_28_code, prog_1_method_29_code, prog_9_method_1_code, prog_9_method_2_code, prog_9_method_3_code, prog_9_method_4_code, prog_9_method_5_code, prog_9_method_6_code, prog_9_method_7_code, prog_9_method_8_code, prog_9_method_9_code, prog_9_method_10_code, prog_9_method_11_code, prog_9_method_12_code, prog_9_method_13_code, prog_9_method_14_code, prog_9_method_15_code, prog_9_method_16_code, prog_9_method_17_code, prog_9_method_18_code, prog_9_method_19_code, prog_9_method_20_code, prog_9_method_21_code, prog_9_method_22_code, prog_9_method_23_code, prog_9_method_24_code, prog_9_method_25_code, prog_9_method_26_code, prog_9_method_27_code, prog_9_method_28_code, prog_9_method_29_code, prog_9_method_30_code, prog_9_method_31_code, prog_9_method_32_code, prog_9_method_33_code, prog_9_method_34_code, prog_9_method_35_code, prog_9_method_36_code, prog_9_method_37_code, prog_9_method_38_code, prog_9_method_39_code, prog_9_method_40_code, prog_9_method_41_code, prog_9_method_42_code, prog_9_method_43_code, prog_9_method_44_code, prog_9_method_45_code, prog_9_method_46_code, prog_9_method_47_code, prog_9_method_48_code, prog_9_method_49_code, prog_9_method_50_code, prog_9_method_51_code, prog_9_method_52_code, prog_9_method_53_code, prog_9_method_54_code, prog_9_method_55_code, prog_9_method_56_code, prog_9_method_57_code, prog_9_method_58_code, prog_9_method_59_code, code]
def cb (m : Nat) : ByteArray := cbs.getD m ByteArray.empty
def mls : List Nat := [1, 3, 6, 5, 3, 4, 1, 4, 4, 5, 2, 1, 2, 4, 1, 1, 2, 1, 3, 3, 3, 2, 2, 1, 3, 3, 2, 2, 4, 3, 3, 4, 3, 5, 4, 3, 3, 3, 3, 3, 3, 3, 3, 1, 4, 4, 2, 8, 4, 1, 2, 2, 1, 1, 3, 3, 3, 3, 1, 1, 1, 2, 1, 3, 3, 3, 4, 1, 2, 5, 1, 1, 2, 5, 1, 1, 6, 1, 1, 6, 2, 2, 1, 3, 2, 1, 2, 1, 2, 3, 2, 3, 8, 3, 4, 3, 3, 5, 2, 2, 3, 4, 3, 3, 3, 1, 4, 2, 3, 3, 2, 3, 4, 3, 4, 2, 2, 3, 2, 5, 3, 4, 3, 4, 3, 4, 1, 4, 2, 3, 9, 1, 1, 5, 2, 3, 3, 4]
def ml (m : Nat) : Nat := mls.getD m 0
def rts : List (Option FieldType) := [none, none, none, none, some .boolean, none, none, none, none, none, none, none, none, some .int, some .int, some .boolean, some .int, none, none, none, none, none, none, none, none, none, some .boolean, some .boolean, some .int, some .boolean, some .int, some .int, some .int, some .int, some .boolean, some .boolean, none, some .int, none, some .int, some .int, some .int, some .int, none, none, none, some .int, some .int, some .int, none, some .int, some .int, some .int, some .int, some .int, some .int, some .int, some .int, some .int, some .int, some .int, some .int, some .int, some .int, some .int, some .int, some .int, some .int, some .int, some .int, some .int, some .int, some .int, some .long, some .boolean, some .boolean, some .int, some .int, none, some .boolean, some .int, some .int, some .boolean, some .boolean, some .int, some .int, some .int, some .boolean, some .boolean, some .int, some .boolean, some .int, some .int, some .int, some .int, some .int, some .int, some .int, none, none, none, some .boolean, none, some .int, some .int, some .int, some .int, some .int, some .int, some .int, some .int, some .int, none, some .boolean, none, some .int, some .int, some .int, some .int, some .boolean, some .boolean, some .int, some .int, some .int, some .boolean, some .int, some .int, some .int, some .int, none, some .int, some .int, some .int, some .int, some .int, none, some .long, some .boolean]
def rt (m : Nat) : Option FieldType := rts.getD m none
def ows : List Nat := [0, 0, 0, 0, 0, 0, 1, 1, 1, 1, 1, 2, 2, 2, 2, 2, 2, 3, 3, 3, 3, 3, 3, 4, 4, 4, 4, 4, 4, 4, 4, 4, 4, 4, 4, 4, 4, 4, 4, 4, 4, 4, 4, 5, 5, 5, 5, 5, 5, 6, 6, 6, 6, 6, 6, 6, 6, 6, 6, 6, 6, 6, 6, 6, 6, 6, 6, 6, 6, 6, 6, 6, 6, 6, 6, 6, 6, 6, 7, 7, 7, 7, 7, 7, 7, 7, 7, 7, 7, 7, 7, 7, 7, 7, 7, 7, 7, 7, 7, 7, 7, 7, 7, 7, 7, 7, 7, 7, 7, 7, 7, 7, 7, 7, 7, 7, 7, 7, 7, 7, 7, 7, 7, 7, 7, 7, 7, 7, 7, 7, 7, 7, 7, 7, 7, 7, 7, 8]
def ow (m : Nat) : Nat := ows.getD m 0
def ftb : List (Nat × Nat × Nat × Nat × Nat × Int) := [(0, 12, 0, 0, 3, 196), (0, 18, 0, 1, 3, 197), (0, 22, 0, 2, 3, 198), (0, 25, 0, 3, 0, 200), (0, 29, 0, 4, 0, 202), (0, 36, 4, 2, 0, 95), (0, 41, 4, 11, 3, 124), (0, 56, 5, 6, 0, 180), (0, 63, 5, 4, 0, 175), (1, 12, 1, 0, 3, 223), (1, 18, 1, 1, 3, 224), (1, 22, 1, 2, 3, 225), (1, 25, 1, 3, 3, 226), (1, 28, 1, 4, 0, 227), (1, 32, 1, 5, 0, 228), (1, 35, 1, 6, 0, 230), (1, 42, 4, 3, 0, 101), (1, 47, 4, 10, 3, 121), (1, 48, 4, 2, 0, 96), (1, 55, 5, 6, 0, 179), (1, 62, 5, 4, 0, 176), (2, 9, 2, 0, 3, 70), (2, 15, 2, 1, 0, 72), (3, 12, 3, 0, 3, 255), (3, 18, 3, 1, 3, 256), (3, 22, 3, 2, 3, 257), (3, 26, 3, 3, 3, 258), (3, 29, 3, 4, 0, 260), (3, 41, 4, 3, 0, 102), (3, 54, 4, 0, 0, 89), (3, 64, 4, 2, 0, 97), (3, 71, 4, 9, 3, 118), (3, 74, 4, 8, 3, 114), (3, 77, 4, 11, 3, 126), (4, 9, 4, 0, 0, 87), (4, 15, 4, 1, 0, 91), (4, 18, 4, 2, 0, 93), (4, 21, 4, 3, 0, 99), (4, 24, 4, 4, 0, 104), (4, 27, 4, 5, 3, 106), (4, 31, 4, 6, 3, 109), (4, 34, 4, 7, 3, 111), (4, 37, 4, 8, 3, 113), (4, 40, 4, 9, 3, 116), (4, 43, 4, 10, 3, 120), (4, 46, 4, 11, 3, 123), (4, 49, 4, 12, 3, 128), (4, 52, 2, 1, 0, 73), (5, 12, 5, 0, 3, 170), (5, 18, 5, 1, 3, 171), (5, 22, 5, 2, 3, 172), (5, 25, 5, 3, 3, 173), (5, 28, 5, 4, 0, 174), (5, 32, 5, 5, 0, 177), (5, 35, 5, 6, 0, 178), (5, 42, 4, 3, 0, 100), (5, 43, 4, 2, 0, 94), (5, 46, 4, 0, 0, 88), (5, 47, 4, 9, 3, 117), (5, 50, 4, 11, 3, 125), (5, 64, 4, 5, 3, 107), (6, 10, 6, 0, 3, 274), (6, 19, 6, 1, 3, 275), (6, 23, 6, 2, 3, 276), (6, 26, 6, 3, 3, 277), (6, 32, 6, 4, 3, 278), (6, 39, 6, 5, 3, 279), (6, 46, 6, 6, 3, 280), (6, 50, 6, 7, 1, 281), (6, 54, 6, 8, 0, 282), (6, 58, 6, 9, 0, 283), (6, 61, 6, 10, 0, 284), (6, 64, 2, 1, 0, 74), (6, 83, 4, 0, 0, 90), (6, 90, 4, 5, 3, 108), (6, 94, 4, 6, 3, 110), (6, 100, 4, 3, 0, 103), (6, 110, 4, 7, 3, 112), (6, 113, 4, 8, 3, 115), (6, 116, 4, 9, 3, 119), (6, 129, 4, 10, 3, 122), (6, 139, 4, 2, 0, 98), (6, 145, 4, 11, 3, 127), (6, 157, 4, 1, 0, 92), (6, 164, 0, 2, 3, 199), (6, 167, 0, 3, 0, 201), (6, 170, 0, 4, 0, 203), (6, 177, 3, 3, 3, 259), (6, 178, 3, 4, 0, 261), (6, 185, 1, 5, 0, 229), (6, 188, 1, 6, 0, 231), (6, 197, 4, 4, 0, 105), (6, 219, 2, 0, 3, 71), (7, 7, 7, 0, 3, 623), (7, 13, 7, 9, 3, 632), (7, 16, 7, 10, 3, 633), (7, 19, 7, 12, 3, 635), (7, 22, 7, 13, 3, 636), (7, 25, 7, 14, 3, 637), (7, 28, 7, 15, 3, 638), (7, 31, 7, 16, 3, 639), (7, 34, 7, 17, 3, 640), (7, 37, 7, 23, 3, 646), (7, 40, 7, 24, 3, 647), (7, 43, 7, 26, 3, 649), (7, 46, 7, 27, 3, 650), (7, 49, 7, 29, 3, 652), (7, 52, 7, 34, 3, 657), (7, 55, 7, 35, 3, 658), (7, 58, 7, 36, 3, 659), (7, 61, 7, 37, 3, 660), (7, 64, 7, 38, 3, 661), (7, 67, 7, 30, 0, 653), (7, 77, 7, 1, 0, 624), (7, 84, 7, 2, 0, 625), (7, 87, 7, 3, 0, 626), (7, 101, 7, 4, 0, 627), (7, 104, 7, 5, 0, 628), (7, 107, 7, 6, 0, 629), (7, 110, 7, 7, 0, 630), (7, 113, 7, 11, 0, 634), (7, 116, 7, 8, 0, 631), (7, 172, 7, 18, 0, 641), (7, 175, 7, 20, 0, 643), (7, 178, 7, 21, 0, 644), (7, 181, 7, 22, 0, 645), (7, 203, 7, 19, 0, 642), (7, 234, 7, 25, 0, 648), (7, 242, 7, 28, 0, 651), (7, 257, 7, 31, 0, 654), (7, 260, 7, 32, 0, 655), (7, 263, 7, 33, 0, 656), (7, 271, 7, 39, 2, 662)]
def mtb : List (Nat × Nat × Nat × Nat × Nat × Int) := [(0, 3, 0, 0, 4, 161), (0, 11, 43, 0, 3, 164), (0, 32, 44, 1, 0, 458), (0, 44, 41, 0, 0, 475), (0, 48, 2, 4, 0, 479), (0, 52, 4, 2, 0, 483), (0, 59, 5, 2, 0, 487), (0, 66, 48, 2, 0, 491), (0, 70, 3, 3, 0, 495), (0, 74, 47, 2, 0, 499), (1, 3, 0, 0, 4, 220), (1, 11, 43, 0, 3, 222), (1, 38, 44, 1, 0, 553), (1, 51, 8, 2, 0, 554), (1, 58, 10, 1, 0, 558), (1, 63, 9, 3, 0, 562), (1, 67, 47, 2, 0, 566), (2, 3, 0, 0, 4, 69), (2, 19, 14, 1, 1, 328), (2, 23, 13, 0, 0, 339), (3, 3, 0, 0, 4, 252), (3, 11, 23, 0, 3, 254), (3, 33, 25, 1, 0, 517), (3, 37, 19, 1, 0, 518), (3, 44, 21, 0, 0, 522), (3, 47, 20, 2, 0, 533), (3, 51, 22, 0, 0, 526), (3, 57, 34, 0, 0, 530), (3, 61, 36, 0, 0, 531), (3, 67, 41, 0, 0, 532), (4, 3, 0, 0, 4, 86), (4, 57, 0, 2, 5, 344), (4, 63, 16, 1, 0, 347), (4, 67, 30, 1, 0, 390), (4, 70, 33, 2, 0, 391), (4, 73, 35, 0, 0, 411), (4, 77, 0, 2, 6, 439), (5, 3, 0, 0, 4, 167), (5, 11, 23, 0, 3, 169), (5, 38, 25, 1, 0, 462), (5, 53, 45, 1, 0, 466), (5, 57, 36, 0, 0, 474), (5, 60, 46, 2, 1, 470), (5, 67, 33, 2, 0, 473), (5, 70, 0, 2, 5, 503), (6, 1, 0, 0, 4, 61), (6, 9, 11, 0, 3, 66), (6, 18, 23, 0, 3, 83), (6, 31, 0, 0, 3, 158), (6, 38, 6, 0, 3, 217), (6, 45, 17, 0, 3, 249), (6, 67, 12, 1, 0, 312), (6, 71, 13, 0, 0, 324), (6, 75, 15, 0, 0, 335), (6, 79, 24, 1, 0, 340), (6, 86, 26, 1, 0, 355), (6, 97, 74, 1, 1, 363), (6, 103, 28, 2, 0, 366), (6, 107, 27, 1, 0, 374), (6, 119, 30, 1, 0, 378), (6, 123, 31, 1, 0, 382), (6, 126, 32, 1, 0, 386), (6, 132, 29, 2, 0, 399), (6, 136, 34, 0, 0, 407), (6, 142, 36, 0, 0, 419), (6, 148, 37, 0, 0, 427), (6, 151, 38, 1, 0, 435), (6, 154, 39, 0, 0, 442), (6, 160, 1, 1, 0, 454), (6, 173, 25, 1, 0, 508), (6, 176, 18, 1, 0, 513), (6, 179, 75, 0, 0, 545), (6, 182, 7, 2, 0, 549), (6, 191, 76, 2, 0, 575), (6, 194, 40, 0, 0, 586), (6, 200, 42, 0, 0, 602), (6, 207, 54, 2, 0, 612), (6, 210, 56, 2, 0, 613), (6, 213, 64, 1, 0, 614), (6, 216, 65, 1, 0, 615), (6, 222, 72, 1, 0, 616), (6, 225, 77, 1, 1, 579), (7, 1, 0, 0, 4, 622), (7, 73, 79, 3, 1, 749), (7, 90, 82, 1, 1, 768), (7, 94, 83, 1, 0, 764), (7, 97, 84, 0, 0, 760), (7, 119, 88, 1, 0, 781), (7, 126, 87, 0, 0, 791), (7, 130, 93, 1, 0, 807), (7, 134, 94, 1, 0, 811), (7, 137, 92, 3, 0, 815), (7, 141, 90, 1, 0, 799), (7, 144, 95, 2, 0, 803), (7, 148, 98, 0, 0, 827), (7, 151, 101, 1, 0, 831), (7, 154, 102, 1, 0, 835), (7, 158, 99, 0, 0, 839), (7, 161, 100, 0, 0, 847), (7, 164, 106, 0, 0, 855), (7, 169, 108, 0, 0, 864), (7, 184, 111, 0, 0, 886), (7, 187, 112, 1, 0, 890), (7, 190, 113, 0, 0, 894), (7, 193, 103, 0, 0, 898), (7, 196, 114, 0, 0, 882), (7, 206, 115, 1, 0, 878), (7, 211, 117, 1, 0, 907), (7, 214, 119, 1, 0, 920), (7, 217, 120, 0, 0, 924), (7, 220, 129, 2, 1, 928), (7, 226, 121, 0, 0, 916), (7, 231, 124, 0, 0, 944), (7, 237, 125, 0, 0, 940), (7, 254, 128, 1, 0, 958), (7, 266, 133, 1, 0, 978), (7, 277, 135, 1, 0, 987), (8, 9, 49, 0, 2, 58), (8, 12, 78, 0, 2, 619), (8, 13, 50, 1, 0, 308), (8, 17, 80, 1, 0, 744), (8, 18, 51, 0, 0, 316), (8, 22, 81, 0, 0, 752), (8, 23, 52, 0, 0, 320), (8, 26, 85, 0, 0, 756), (8, 27, 53, 0, 0, 331), (8, 30, 86, 0, 0, 773), (8, 31, 54, 2, 0, 351), (8, 35, 89, 2, 0, 777), (8, 36, 55, 2, 0, 359), (8, 39, 91, 2, 0, 785), (8, 40, 56, 2, 0, 370), (8, 43, 96, 2, 0, 795), (8, 44, 57, 2, 0, 395), (8, 47, 97, 2, 0, 819), (8, 48, 58, 0, 0, 403), (8, 51, 104, 0, 0, 823), (8, 52, 59, 0, 0, 415), (8, 55, 105, 0, 0, 843), (8, 56, 60, 0, 0, 423), (8, 59, 107, 0, 0, 851), (8, 60, 61, 1, 0, 431), (8, 63, 109, 1, 0, 859), (8, 64, 62, 0, 0, 446), (8, 67, 110, 0, 0, 868), (8, 68, 63, 1, 0, 450), (8, 71, 116, 1, 0, 872), (8, 72, 64, 1, 0, 504), (8, 75, 118, 1, 0, 902), (8, 76, 65, 1, 0, 509), (8, 79, 122, 1, 0, 911), (8, 80, 66, 2, 0, 537), (8, 83, 123, 2, 0, 931), (8, 84, 67, 0, 0, 541), (8, 87, 126, 0, 0, 936), (8, 88, 68, 1, 0, 567), (8, 91, 127, 1, 0, 948), (8, 92, 69, 3, 0, 571), (8, 96, 130, 3, 0, 952), (8, 97, 70, 0, 0, 590), (8, 100, 131, 0, 0, 966), (8, 101, 71, 0, 0, 594), (8, 104, 132, 0, 0, 970), (8, 105, 72, 1, 0, 598), (8, 108, 134, 1, 0, 974), (8, 109, 73, 0, 0, 606), (8, 113, 136, 0, 0, 982)]
def ctb : List (Nat × Nat × Nat × Nat × Nat × Int) := [(0, 9, 5, 7, 0, 162), (1, 9, 5, 7, 0, 221), (3, 9, 4, 13, 0, 253), (5, 9, 4, 13, 0, 168), (6, 7, 2, 2, 0, 64), (6, 16, 4, 13, 0, 81), (6, 29, 0, 5, 0, 156), (6, 36, 1, 7, 0, 215), (6, 43, 3, 5, 0, 247), (8, 7, 6, 11, 0, 56), (8, 10, 7, 40, 0, 617)]
def ktb : List (Nat × Nat × Nat × Nat × Nat × Int) := [(6, 203, 1, 610, 0, 787), (6, 205, 1, 611, 0, 31), (6, 228, 0, 585, 0, 65536), (6, 229, 1, 582, 0, 1103515245), (6, 231, 1, 583, 0, 12345), (6, 233, 1, 584, 0, 2147483648), (7, 71, 1, 748, 0, 126), (7, 80, 1, 771, 0, 48), (7, 82, 1, 772, 0, 57), (7, 122, 1, 789, 0, 4), (7, 124, 1, 790, 0, 99), (7, 167, 1, 863, 0, 9), (7, 199, 1, 876, 0, 10), (7, 201, 1, 877, 0, 15), (7, 209, 1, 906, 0, 6), (7, 224, 1, 915, 0, 14), (7, 229, 1, 935, 0, (-1)), (7, 240, 1, 962, 0, 1103515245), (7, 245, 1, 963, 0, 12345), (7, 247, 1, 964, 0, 2147483647), (7, 249, 0, 965, 0, 65536), (7, 250, 1, 956, 0, 60), (7, 252, 1, 957, 0, 2), (7, 269, 1, 991, 0, 31), (7, 275, 1, 986, 0, 787)]
def mws : List (Nat × Nat × Nat × Nat) := [(159, 0, 50, 160), (455, 456, 50, 457), (481, 2, 50, 482), (497, 5, 50, 498), (485, 3, 50, 486), (489, 4, 50, 490), (218, 0, 52, 219), (550, 551, 52, 552), (556, 11, 52, 557), (564, 13, 52, 565), (560, 12, 52, 561), (67, 0, 48, 68), (313, 314, 48, 315), (325, 326, 48, 327), (329, 0, 48, 330), (336, 337, 48, 338), (348, 349, 48, 350), (250, 0, 53, 251), (514, 515, 53, 516), (520, 6, 53, 521), (535, 9, 53, 536), (524, 7, 53, 525), (528, 8, 53, 529), (84, 0, 49, 85), (341, 342, 49, 343), (463, 464, 49, 465), (356, 357, 49, 358), (375, 376, 49, 377), (367, 368, 49, 369), (400, 401, 49, 402), (379, 380, 49, 381), (383, 384, 49, 385), (387, 388, 49, 389), (392, 393, 49, 394), (408, 409, 49, 410), (413, 0, 49, 414), (420, 421, 49, 422), (428, 429, 49, 430), (436, 437, 49, 438), (443, 444, 49, 445), (587, 588, 49, 589), (476, 477, 49, 478), (603, 604, 49, 605), (165, 0, 51, 166), (459, 460, 51, 461), (468, 1, 51, 469), (471, 0, 51, 472), (500, 501, 51, 502), (492, 493, 51, 494), (59, 0, 47, 60), (309, 310, 47, 311), (317, 318, 47, 319), (321, 322, 47, 323), (332, 333, 47, 334), (352, 353, 47, 354), (360, 361, 47, 362), (371, 372, 47, 373), (396, 397, 47, 398), (404, 405, 47, 406), (416, 417, 47, 418), (424, 425, 47, 426), (432, 433, 47, 434), (447, 448, 47, 449), (451, 452, 47, 453), (505, 506, 47, 507), (510, 511, 47, 512), (538, 539, 47, 540), (542, 543, 47, 544), (568, 569, 47, 570), (572, 573, 47, 574), (591, 592, 47, 593), (595, 596, 47, 597), (599, 600, 47, 601), (607, 608, 47, 609), (364, 0, 47, 365), (547, 10, 47, 548), (577, 14, 47, 578), (580, 0, 47, 581), (620, 0, 54, 621), (750, 0, 54, 751), (745, 746, 54, 747), (753, 754, 54, 755), (769, 0, 54, 770), (766, 16, 54, 767), (762, 15, 54, 763), (757, 758, 54, 759), (774, 775, 54, 776), (793, 18, 54, 794), (783, 17, 54, 784), (778, 779, 54, 780), (801, 19, 54, 802), (786, 787, 54, 788), (817, 23, 54, 818), (809, 21, 54, 810), (813, 22, 54, 814), (805, 20, 54, 806), (796, 797, 54, 798), (820, 821, 54, 822), (829, 24, 54, 830), (841, 27, 54, 842), (849, 28, 54, 850), (833, 25, 54, 834), (837, 26, 54, 838), (900, 36, 54, 901), (824, 825, 54, 826), (844, 845, 54, 846), (857, 29, 54, 858), (852, 853, 54, 854), (866, 30, 54, 867), (860, 861, 54, 862), (869, 870, 54, 871), (888, 33, 54, 889), (892, 34, 54, 893), (896, 35, 54, 897), (884, 32, 54, 885), (880, 31, 54, 881), (873, 874, 54, 875), (909, 37, 54, 910), (903, 904, 54, 905), (922, 39, 54, 923), (926, 40, 54, 927), (918, 38, 54, 919), (912, 913, 54, 914), (932, 933, 54, 934), (946, 42, 54, 947), (942, 41, 54, 943), (937, 938, 54, 939), (949, 950, 54, 951), (960, 43, 54, 961), (929, 0, 54, 930), (953, 954, 54, 955), (967, 968, 54, 969), (971, 972, 54, 973), (980, 44, 54, 981), (975, 976, 54, 977), (989, 45, 54, 990), (983, 984, 54, 985), (0, 0, 0, 0)]
def mwd (m : Nat) : Nat × Nat × Nat × Nat := mws.getD m (0, 0, 0, 0)
def look (tb : List (Nat × Nat × Nat × Nat × Nat × Int)) (own idx : Nat) : Nat × Nat × Nat × Int := match tb.find? (fun e => e.1 == own && e.2.1 == idx) with
  | some e => e.2.2
  | none => (0, 0, 99, 0)
def rs (own pc : Nat) (i : Instr) : Nat × Nat × Nat × Int := match i with
  | .getfield idx => look ftb own idx
  | .putfield idx => look ftb own idx
  | .invokevirtual idx => look mtb own idx
  | .invokespecial idx => look mtb own idx
  | .invokestatic idx => look mtb own idx
  | .new idx => look ctb own idx
  | .ldc idx => look ktb own idx
  | .ldc2_w idx => look ktb own idx
  | .goto off => (((pc : Int) + off).toNat, 0, 0, 0)
  | .if_icmp _ off => (((pc : Int) + off).toNat, 0, 0, 0)
  | .ifCond _ off => (((pc : Int) + off).toNat, 0, 0, 0)
  | _ => (0, 0, 0, 0)
/-- an instruction: what it is, how long, the next place, and what it names -/
abbrev IT : Type := Instr × Nat × Nat × Nat × Nat × Nat × Int
def ft (m pc : Nat) : Option IT := match decode (cb m) pc with
  | .ok (i, len) => some (i, len, pc + len, rs (ow m) pc i)
  | .error _ => none
theorem ft_dec {m pc len nx : Nat} {i : Instr} {X : Nat × Nat × Nat × Int} (h : ft m pc = some (i, len, nx, X)) : decode (cb m) pc = .ok (i, len) ∧ pc + len = nx ∧ rs (ow m) pc i = X := by
  unfold ft at h
  split at h
  · next i' len' hd =>
    cases h
    exact ⟨hd, rfl, rfl⟩
  · cases h
theorem look_in {tb : List (Nat × Nat × Nat × Nat × Nat × Int)} {own idx : Nat} {x y z : Nat} {v : Int} (h : look tb own idx = (x, y, z, v)) (hz : z ≠ 99) : (own, idx, x, y, z, v) ∈ tb := by
  unfold look at h
  split at h
  · next e he =>
    have h1 := List.find?_some he
    have h2 := List.mem_of_find?_eq_some he
    simp only [Bool.and_eq_true, beq_iff_eq] at h1
    obtain ⟨a, b, c⟩ := e
    obtain ⟨rfl, rfl⟩ := h1
    dsimp only at h
    rw [h] at h2
    exact h2
  · simp only [Prod.mk.injEq] at h
    exact absurd h.2.2.1.symm hz
theorem tw_all : ∀ c, c < 8 → ∀ w ∈ u_ws (RR c) (TT c) (NN c), w ∈ lw_tbl := by decide +kernel
theorem ty_all : ∀ c, c < 8 → ∀ k, k < NN c → parseFieldDescriptor (TT c k).2.2.1 = some (TY c k) := by decide +kernel
theorem nm_all : ∀ c, c < 8 → ∀ a, a < NN c → ∀ b, b < NN c → a ≠ b → (TT c a).2.1 ≠ (TT c b).2.1 := by decide +kernel
def tagOf (t : FieldType) : Nat := match t with
  | .int => 0
  | .boolean => 1
  | .long => 2
  | _ => 3
theorem f_all : ∀ e ∈ ftb, e.2.2.1 < 8 ∧ e.2.2.2.1 < NN e.2.2.1 ∧ (TT e.2.2.1 e.2.2.2.1).1 = RR e.2.2.1 ∧ tagOf (TY e.2.2.1 e.2.2.2.1) = e.2.2.2.2.1 ∧ lw_tbl[e.2.2.2.2.2.toNat]? = some (.fieldLink (RR e.1) e.2.1 (RR e.2.2.1) (TT e.2.2.1 e.2.2.2.1).2.1 (TT e.2.2.1 e.2.2.2.1).2.2.1) := by decide +kernel
theorem c_all : ∀ e ∈ ctb, e.2.2.1 < 8 ∧ e.2.2.2.1 = NN e.2.2.1 ∧ lw_tbl[e.2.2.2.2.2.toNat]? = some (.classLink (RR e.1) e.2.1 (RR e.2.2.1)) ∧ Cond.instantiable (RR e.2.2.1) (NN e.2.2.1) ∈ lw_tbl ∧ Cond.initialized (RR e.2.2.1) ∈ lw_tbl := by decide +kernel
theorem k_all : ∀ e ∈ ktb, (e.2.2.1 = 0 → lw_tbl[e.2.2.2.1]? = some (.constant (RR e.1) e.2.1 (Int32.ofInt e.2.2.2.2.2))) ∧ (e.2.2.1 = 1 → lw_tbl[e.2.2.2.1]? = some (.constantLong (RR e.1) e.2.1 (Int64.ofInt e.2.2.2.2.2))) := by decide +kernel
theorem m_all : ∀ e ∈ mtb, (e.2.2.2.2.1 < 3 → lw_tbl[e.2.2.2.2.2.toNat]? = some (.methodLink (RR e.1) e.2.1 (yy e.2.2.1))) ∧ (e.2.2.2.2.1 = 3 → lw_tbl[e.2.2.2.2.2.toNat]? = some (.methodLinkNest (RR e.1) e.2.1 (yy e.2.2.1) "TrailBreakers")) ∧ (e.2.2.2.2.1 = 4 → lw_tbl[e.2.2.2.2.2.toNat]? = some (.methodLink (RR e.1) e.2.1 objectInit)) ∧ (e.2.2.2.2.1 = 5 → lw_tbl[e.2.2.2.2.2.toNat]? = some (.methodLink (RR e.1) e.2.1 Lib.Math.min.name)) ∧ (e.2.2.2.2.1 = 6 → lw_tbl[e.2.2.2.2.2.toNat]? = some (.methodLink (RR e.1) e.2.1 Lib.Math.max.name)) ∧ (e.2.2.2.2.1 < 4 → e.2.2.1 < 137 ∧ (parseMethodDescriptor (yy e.2.2.1).desc).map (fun d => d.parameters.length) = some e.2.2.2.1) := by decide +kernel
theorem y_all : ∀ m, m < 137 → (yy m).cls ≠ "java/lang/invoke/MethodHandle" ∧ (yy m).cls ≠ "java/lang/invoke/VarHandle" ∧ plainName (yy m).cls = true ∧ (yy m).cls = RR (ow m) ∧ ow m < 8 ∧ ml m ≤ 20 := by decide +kernel
theorem i_all : ∀ m, m < 137 → lw_tbl[(mwd m).2.2.1]? = some (.initialized (yy m).cls) := by decide +kernel
theorem n_all : ∀ e ∈ mtb, (e.2.2.2.2.1 = 0 → lw_tbl[(mwd e.2.2.1).1]? = some (.instanceMethod (yy e.2.2.1)) ∧ lw_tbl[(mwd e.2.2.1).2.1]? = some (.selects (yy e.2.2.1).cls (yy e.2.2.1) (yy e.2.2.1))) ∧ (e.2.2.2.2.1 = 1 → lw_tbl[(mwd e.2.2.1).1]? = some (.static (yy e.2.2.1))) ∧ (e.2.2.2.2.1 = 2 ∨ e.2.2.2.2.1 = 3 → (yy e.2.2.1).name = "<init>" ∧ rt e.2.2.1 = none ∧ lw_tbl[(mwd e.2.2.1).1]? = some (.instanceMethod (yy e.2.2.1))) := by decide +kernel
set_option maxRecDepth 100000 in
theorem cw_0 : lw_tbl[160]? = some (.code (yy 0) (cb 0) (ml 0) (rt 0)) := rfl
set_option maxRecDepth 100000 in
theorem cw_1 : lw_tbl[457]? = some (.code (yy 1) (cb 1) (ml 1) (rt 1)) := rfl
set_option maxRecDepth 100000 in
theorem cw_2 : lw_tbl[482]? = some (.code (yy 2) (cb 2) (ml 2) (rt 2)) := rfl
set_option maxRecDepth 100000 in
theorem cw_3 : lw_tbl[498]? = some (.code (yy 3) (cb 3) (ml 3) (rt 3)) := rfl
set_option maxRecDepth 100000 in
theorem cw_4 : lw_tbl[486]? = some (.code (yy 4) (cb 4) (ml 4) (rt 4)) := rfl
set_option maxRecDepth 100000 in
theorem cw_5 : lw_tbl[490]? = some (.code (yy 5) (cb 5) (ml 5) (rt 5)) := rfl
set_option maxRecDepth 100000 in
theorem cw_6 : lw_tbl[219]? = some (.code (yy 6) (cb 6) (ml 6) (rt 6)) := rfl
set_option maxRecDepth 100000 in
theorem cw_7 : lw_tbl[552]? = some (.code (yy 7) (cb 7) (ml 7) (rt 7)) := rfl
set_option maxRecDepth 100000 in
theorem cw_8 : lw_tbl[557]? = some (.code (yy 8) (cb 8) (ml 8) (rt 8)) := rfl
set_option maxRecDepth 100000 in
theorem cw_9 : lw_tbl[565]? = some (.code (yy 9) (cb 9) (ml 9) (rt 9)) := rfl
set_option maxRecDepth 100000 in
theorem cw_10 : lw_tbl[561]? = some (.code (yy 10) (cb 10) (ml 10) (rt 10)) := rfl
set_option maxRecDepth 100000 in
theorem cw_11 : lw_tbl[68]? = some (.code (yy 11) (cb 11) (ml 11) (rt 11)) := rfl
set_option maxRecDepth 100000 in
theorem cw_12 : lw_tbl[315]? = some (.code (yy 12) (cb 12) (ml 12) (rt 12)) := rfl
set_option maxRecDepth 100000 in
theorem cw_13 : lw_tbl[327]? = some (.code (yy 13) (cb 13) (ml 13) (rt 13)) := rfl
set_option maxRecDepth 100000 in
theorem cw_14 : lw_tbl[330]? = some (.code (yy 14) (cb 14) (ml 14) (rt 14)) := rfl
set_option maxRecDepth 100000 in
theorem cw_15 : lw_tbl[338]? = some (.code (yy 15) (cb 15) (ml 15) (rt 15)) := rfl
set_option maxRecDepth 100000 in
theorem cw_16 : lw_tbl[350]? = some (.code (yy 16) (cb 16) (ml 16) (rt 16)) := rfl
set_option maxRecDepth 100000 in
theorem cw_17 : lw_tbl[251]? = some (.code (yy 17) (cb 17) (ml 17) (rt 17)) := rfl
set_option maxRecDepth 100000 in
theorem cw_18 : lw_tbl[516]? = some (.code (yy 18) (cb 18) (ml 18) (rt 18)) := rfl
set_option maxRecDepth 100000 in
theorem cw_19 : lw_tbl[521]? = some (.code (yy 19) (cb 19) (ml 19) (rt 19)) := rfl
set_option maxRecDepth 100000 in
theorem cw_20 : lw_tbl[536]? = some (.code (yy 20) (cb 20) (ml 20) (rt 20)) := rfl
set_option maxRecDepth 100000 in
theorem cw_21 : lw_tbl[525]? = some (.code (yy 21) (cb 21) (ml 21) (rt 21)) := rfl
set_option maxRecDepth 100000 in
theorem cw_22 : lw_tbl[529]? = some (.code (yy 22) (cb 22) (ml 22) (rt 22)) := rfl
set_option maxRecDepth 100000 in
theorem cw_23 : lw_tbl[85]? = some (.code (yy 23) (cb 23) (ml 23) (rt 23)) := rfl
set_option maxRecDepth 100000 in
theorem cw_24 : lw_tbl[343]? = some (.code (yy 24) (cb 24) (ml 24) (rt 24)) := rfl
set_option maxRecDepth 100000 in
theorem cw_25 : lw_tbl[465]? = some (.code (yy 25) (cb 25) (ml 25) (rt 25)) := rfl
set_option maxRecDepth 100000 in
theorem cw_26 : lw_tbl[358]? = some (.code (yy 26) (cb 26) (ml 26) (rt 26)) := rfl
set_option maxRecDepth 100000 in
theorem cw_27 : lw_tbl[377]? = some (.code (yy 27) (cb 27) (ml 27) (rt 27)) := rfl
set_option maxRecDepth 100000 in
theorem cw_28 : lw_tbl[369]? = some (.code (yy 28) (cb 28) (ml 28) (rt 28)) := rfl
set_option maxRecDepth 100000 in
theorem cw_29 : lw_tbl[402]? = some (.code (yy 29) (cb 29) (ml 29) (rt 29)) := rfl
set_option maxRecDepth 100000 in
theorem cw_30 : lw_tbl[381]? = some (.code (yy 30) (cb 30) (ml 30) (rt 30)) := rfl
set_option maxRecDepth 100000 in
theorem cw_31 : lw_tbl[385]? = some (.code (yy 31) (cb 31) (ml 31) (rt 31)) := rfl
set_option maxRecDepth 100000 in
theorem cw_32 : lw_tbl[389]? = some (.code (yy 32) (cb 32) (ml 32) (rt 32)) := rfl
set_option maxRecDepth 100000 in
theorem cw_33 : lw_tbl[394]? = some (.code (yy 33) (cb 33) (ml 33) (rt 33)) := rfl
set_option maxRecDepth 100000 in
theorem cw_34 : lw_tbl[410]? = some (.code (yy 34) (cb 34) (ml 34) (rt 34)) := rfl
set_option maxRecDepth 100000 in
theorem cw_35 : lw_tbl[414]? = some (.code (yy 35) (cb 35) (ml 35) (rt 35)) := rfl
set_option maxRecDepth 100000 in
theorem cw_36 : lw_tbl[422]? = some (.code (yy 36) (cb 36) (ml 36) (rt 36)) := rfl
set_option maxRecDepth 100000 in
theorem cw_37 : lw_tbl[430]? = some (.code (yy 37) (cb 37) (ml 37) (rt 37)) := rfl
set_option maxRecDepth 100000 in
theorem cw_38 : lw_tbl[438]? = some (.code (yy 38) (cb 38) (ml 38) (rt 38)) := rfl
set_option maxRecDepth 100000 in
theorem cw_39 : lw_tbl[445]? = some (.code (yy 39) (cb 39) (ml 39) (rt 39)) := rfl
set_option maxRecDepth 100000 in
theorem cw_40 : lw_tbl[589]? = some (.code (yy 40) (cb 40) (ml 40) (rt 40)) := rfl
set_option maxRecDepth 100000 in
theorem cw_41 : lw_tbl[478]? = some (.code (yy 41) (cb 41) (ml 41) (rt 41)) := rfl
set_option maxRecDepth 100000 in
theorem cw_42 : lw_tbl[605]? = some (.code (yy 42) (cb 42) (ml 42) (rt 42)) := rfl
set_option maxRecDepth 100000 in
theorem cw_43 : lw_tbl[166]? = some (.code (yy 43) (cb 43) (ml 43) (rt 43)) := rfl
set_option maxRecDepth 100000 in
theorem cw_44 : lw_tbl[461]? = some (.code (yy 44) (cb 44) (ml 44) (rt 44)) := rfl
set_option maxRecDepth 100000 in
theorem cw_45 : lw_tbl[469]? = some (.code (yy 45) (cb 45) (ml 45) (rt 45)) := rfl
set_option maxRecDepth 100000 in
theorem cw_46 : lw_tbl[472]? = some (.code (yy 46) (cb 46) (ml 46) (rt 46)) := rfl
set_option maxRecDepth 100000 in
theorem cw_47 : lw_tbl[502]? = some (.code (yy 47) (cb 47) (ml 47) (rt 47)) := rfl
set_option maxRecDepth 100000 in
theorem cw_48 : lw_tbl[494]? = some (.code (yy 48) (cb 48) (ml 48) (rt 48)) := rfl
set_option maxRecDepth 100000 in
theorem cw_49 : lw_tbl[60]? = some (.code (yy 49) (cb 49) (ml 49) (rt 49)) := rfl
set_option maxRecDepth 100000 in
theorem cw_50 : lw_tbl[311]? = some (.code (yy 50) (cb 50) (ml 50) (rt 50)) := rfl
set_option maxRecDepth 100000 in
theorem cw_51 : lw_tbl[319]? = some (.code (yy 51) (cb 51) (ml 51) (rt 51)) := rfl
set_option maxRecDepth 100000 in
theorem cw_52 : lw_tbl[323]? = some (.code (yy 52) (cb 52) (ml 52) (rt 52)) := rfl
set_option maxRecDepth 100000 in
theorem cw_53 : lw_tbl[334]? = some (.code (yy 53) (cb 53) (ml 53) (rt 53)) := rfl
set_option maxRecDepth 100000 in
theorem cw_54 : lw_tbl[354]? = some (.code (yy 54) (cb 54) (ml 54) (rt 54)) := rfl
set_option maxRecDepth 100000 in
theorem cw_55 : lw_tbl[362]? = some (.code (yy 55) (cb 55) (ml 55) (rt 55)) := rfl
set_option maxRecDepth 100000 in
theorem cw_56 : lw_tbl[373]? = some (.code (yy 56) (cb 56) (ml 56) (rt 56)) := rfl
set_option maxRecDepth 100000 in
theorem cw_57 : lw_tbl[398]? = some (.code (yy 57) (cb 57) (ml 57) (rt 57)) := rfl
set_option maxRecDepth 100000 in
theorem cw_58 : lw_tbl[406]? = some (.code (yy 58) (cb 58) (ml 58) (rt 58)) := rfl
set_option maxRecDepth 100000 in
theorem cw_59 : lw_tbl[418]? = some (.code (yy 59) (cb 59) (ml 59) (rt 59)) := rfl
set_option maxRecDepth 100000 in
theorem cw_60 : lw_tbl[426]? = some (.code (yy 60) (cb 60) (ml 60) (rt 60)) := rfl
set_option maxRecDepth 100000 in
theorem cw_61 : lw_tbl[434]? = some (.code (yy 61) (cb 61) (ml 61) (rt 61)) := rfl
set_option maxRecDepth 100000 in
theorem cw_62 : lw_tbl[449]? = some (.code (yy 62) (cb 62) (ml 62) (rt 62)) := rfl
set_option maxRecDepth 100000 in
theorem cw_63 : lw_tbl[453]? = some (.code (yy 63) (cb 63) (ml 63) (rt 63)) := rfl
set_option maxRecDepth 100000 in
theorem cw_64 : lw_tbl[507]? = some (.code (yy 64) (cb 64) (ml 64) (rt 64)) := rfl
set_option maxRecDepth 100000 in
theorem cw_65 : lw_tbl[512]? = some (.code (yy 65) (cb 65) (ml 65) (rt 65)) := rfl
set_option maxRecDepth 100000 in
theorem cw_66 : lw_tbl[540]? = some (.code (yy 66) (cb 66) (ml 66) (rt 66)) := rfl
set_option maxRecDepth 100000 in
theorem cw_67 : lw_tbl[544]? = some (.code (yy 67) (cb 67) (ml 67) (rt 67)) := rfl
set_option maxRecDepth 100000 in
theorem cw_68 : lw_tbl[570]? = some (.code (yy 68) (cb 68) (ml 68) (rt 68)) := rfl
set_option maxRecDepth 100000 in
theorem cw_69 : lw_tbl[574]? = some (.code (yy 69) (cb 69) (ml 69) (rt 69)) := rfl
set_option maxRecDepth 100000 in
theorem cw_70 : lw_tbl[593]? = some (.code (yy 70) (cb 70) (ml 70) (rt 70)) := rfl
set_option maxRecDepth 100000 in
theorem cw_71 : lw_tbl[597]? = some (.code (yy 71) (cb 71) (ml 71) (rt 71)) := rfl
set_option maxRecDepth 100000 in
theorem cw_72 : lw_tbl[601]? = some (.code (yy 72) (cb 72) (ml 72) (rt 72)) := rfl
set_option maxRecDepth 100000 in
theorem cw_73 : lw_tbl[609]? = some (.code (yy 73) (cb 73) (ml 73) (rt 73)) := rfl
set_option maxRecDepth 100000 in
theorem cw_74 : lw_tbl[365]? = some (.code (yy 74) (cb 74) (ml 74) (rt 74)) := rfl
set_option maxRecDepth 100000 in
theorem cw_75 : lw_tbl[548]? = some (.code (yy 75) (cb 75) (ml 75) (rt 75)) := rfl
set_option maxRecDepth 100000 in
theorem cw_76 : lw_tbl[578]? = some (.code (yy 76) (cb 76) (ml 76) (rt 76)) := rfl
set_option maxRecDepth 100000 in
theorem cw_77 : lw_tbl[581]? = some (.code (yy 77) (cb 77) (ml 77) (rt 77)) := rfl
set_option maxRecDepth 100000 in
theorem cw_78 : lw_tbl[621]? = some (.code (yy 78) (cb 78) (ml 78) (rt 78)) := rfl
set_option maxRecDepth 100000 in
theorem cw_79 : lw_tbl[751]? = some (.code (yy 79) (cb 79) (ml 79) (rt 79)) := rfl
set_option maxRecDepth 100000 in
theorem cw_80 : lw_tbl[747]? = some (.code (yy 80) (cb 80) (ml 80) (rt 80)) := rfl
set_option maxRecDepth 100000 in
theorem cw_81 : lw_tbl[755]? = some (.code (yy 81) (cb 81) (ml 81) (rt 81)) := rfl
set_option maxRecDepth 100000 in
theorem cw_82 : lw_tbl[770]? = some (.code (yy 82) (cb 82) (ml 82) (rt 82)) := rfl
set_option maxRecDepth 100000 in
theorem cw_83 : lw_tbl[767]? = some (.code (yy 83) (cb 83) (ml 83) (rt 83)) := rfl
set_option maxRecDepth 100000 in
theorem cw_84 : lw_tbl[763]? = some (.code (yy 84) (cb 84) (ml 84) (rt 84)) := rfl
set_option maxRecDepth 100000 in
theorem cw_85 : lw_tbl[759]? = some (.code (yy 85) (cb 85) (ml 85) (rt 85)) := rfl
set_option maxRecDepth 100000 in
theorem cw_86 : lw_tbl[776]? = some (.code (yy 86) (cb 86) (ml 86) (rt 86)) := rfl
set_option maxRecDepth 100000 in
theorem cw_87 : lw_tbl[794]? = some (.code (yy 87) (cb 87) (ml 87) (rt 87)) := rfl
set_option maxRecDepth 100000 in
theorem cw_88 : lw_tbl[784]? = some (.code (yy 88) (cb 88) (ml 88) (rt 88)) := rfl
set_option maxRecDepth 100000 in
theorem cw_89 : lw_tbl[780]? = some (.code (yy 89) (cb 89) (ml 89) (rt 89)) := rfl
set_option maxRecDepth 100000 in
theorem cw_90 : lw_tbl[802]? = some (.code (yy 90) (cb 90) (ml 90) (rt 90)) := rfl
set_option maxRecDepth 100000 in
theorem cw_91 : lw_tbl[788]? = some (.code (yy 91) (cb 91) (ml 91) (rt 91)) := rfl
set_option maxRecDepth 100000 in
theorem cw_92 : lw_tbl[818]? = some (.code (yy 92) (cb 92) (ml 92) (rt 92)) := rfl
set_option maxRecDepth 100000 in
theorem cw_93 : lw_tbl[810]? = some (.code (yy 93) (cb 93) (ml 93) (rt 93)) := rfl
set_option maxRecDepth 100000 in
theorem cw_94 : lw_tbl[814]? = some (.code (yy 94) (cb 94) (ml 94) (rt 94)) := rfl
set_option maxRecDepth 100000 in
theorem cw_95 : lw_tbl[806]? = some (.code (yy 95) (cb 95) (ml 95) (rt 95)) := rfl
set_option maxRecDepth 100000 in
theorem cw_96 : lw_tbl[798]? = some (.code (yy 96) (cb 96) (ml 96) (rt 96)) := rfl
set_option maxRecDepth 100000 in
theorem cw_97 : lw_tbl[822]? = some (.code (yy 97) (cb 97) (ml 97) (rt 97)) := rfl
set_option maxRecDepth 100000 in
theorem cw_98 : lw_tbl[830]? = some (.code (yy 98) (cb 98) (ml 98) (rt 98)) := rfl
set_option maxRecDepth 100000 in
theorem cw_99 : lw_tbl[842]? = some (.code (yy 99) (cb 99) (ml 99) (rt 99)) := rfl
set_option maxRecDepth 100000 in
theorem cw_100 : lw_tbl[850]? = some (.code (yy 100) (cb 100) (ml 100) (rt 100)) := rfl
set_option maxRecDepth 100000 in
theorem cw_101 : lw_tbl[834]? = some (.code (yy 101) (cb 101) (ml 101) (rt 101)) := rfl
set_option maxRecDepth 100000 in
theorem cw_102 : lw_tbl[838]? = some (.code (yy 102) (cb 102) (ml 102) (rt 102)) := rfl
set_option maxRecDepth 100000 in
theorem cw_103 : lw_tbl[901]? = some (.code (yy 103) (cb 103) (ml 103) (rt 103)) := rfl
set_option maxRecDepth 100000 in
theorem cw_104 : lw_tbl[826]? = some (.code (yy 104) (cb 104) (ml 104) (rt 104)) := rfl
set_option maxRecDepth 100000 in
theorem cw_105 : lw_tbl[846]? = some (.code (yy 105) (cb 105) (ml 105) (rt 105)) := rfl
set_option maxRecDepth 100000 in
theorem cw_106 : lw_tbl[858]? = some (.code (yy 106) (cb 106) (ml 106) (rt 106)) := rfl
set_option maxRecDepth 100000 in
theorem cw_107 : lw_tbl[854]? = some (.code (yy 107) (cb 107) (ml 107) (rt 107)) := rfl
set_option maxRecDepth 100000 in
theorem cw_108 : lw_tbl[867]? = some (.code (yy 108) (cb 108) (ml 108) (rt 108)) := rfl
set_option maxRecDepth 100000 in
theorem cw_109 : lw_tbl[862]? = some (.code (yy 109) (cb 109) (ml 109) (rt 109)) := rfl
set_option maxRecDepth 100000 in
theorem cw_110 : lw_tbl[871]? = some (.code (yy 110) (cb 110) (ml 110) (rt 110)) := rfl
set_option maxRecDepth 100000 in
theorem cw_111 : lw_tbl[889]? = some (.code (yy 111) (cb 111) (ml 111) (rt 111)) := rfl
set_option maxRecDepth 100000 in
theorem cw_112 : lw_tbl[893]? = some (.code (yy 112) (cb 112) (ml 112) (rt 112)) := rfl
set_option maxRecDepth 100000 in
theorem cw_113 : lw_tbl[897]? = some (.code (yy 113) (cb 113) (ml 113) (rt 113)) := rfl
set_option maxRecDepth 100000 in
theorem cw_114 : lw_tbl[885]? = some (.code (yy 114) (cb 114) (ml 114) (rt 114)) := rfl
set_option maxRecDepth 100000 in
theorem cw_115 : lw_tbl[881]? = some (.code (yy 115) (cb 115) (ml 115) (rt 115)) := rfl
set_option maxRecDepth 100000 in
theorem cw_116 : lw_tbl[875]? = some (.code (yy 116) (cb 116) (ml 116) (rt 116)) := rfl
set_option maxRecDepth 100000 in
theorem cw_117 : lw_tbl[910]? = some (.code (yy 117) (cb 117) (ml 117) (rt 117)) := rfl
set_option maxRecDepth 100000 in
theorem cw_118 : lw_tbl[905]? = some (.code (yy 118) (cb 118) (ml 118) (rt 118)) := rfl
set_option maxRecDepth 100000 in
theorem cw_119 : lw_tbl[923]? = some (.code (yy 119) (cb 119) (ml 119) (rt 119)) := rfl
set_option maxRecDepth 100000 in
theorem cw_120 : lw_tbl[927]? = some (.code (yy 120) (cb 120) (ml 120) (rt 120)) := rfl
set_option maxRecDepth 100000 in
theorem cw_121 : lw_tbl[919]? = some (.code (yy 121) (cb 121) (ml 121) (rt 121)) := rfl
set_option maxRecDepth 100000 in
theorem cw_122 : lw_tbl[914]? = some (.code (yy 122) (cb 122) (ml 122) (rt 122)) := rfl
set_option maxRecDepth 100000 in
theorem cw_123 : lw_tbl[934]? = some (.code (yy 123) (cb 123) (ml 123) (rt 123)) := rfl
set_option maxRecDepth 100000 in
theorem cw_124 : lw_tbl[947]? = some (.code (yy 124) (cb 124) (ml 124) (rt 124)) := rfl
set_option maxRecDepth 100000 in
theorem cw_125 : lw_tbl[943]? = some (.code (yy 125) (cb 125) (ml 125) (rt 125)) := rfl
set_option maxRecDepth 100000 in
theorem cw_126 : lw_tbl[939]? = some (.code (yy 126) (cb 126) (ml 126) (rt 126)) := rfl
set_option maxRecDepth 100000 in
theorem cw_127 : lw_tbl[951]? = some (.code (yy 127) (cb 127) (ml 127) (rt 127)) := rfl
set_option maxRecDepth 100000 in
theorem cw_128 : lw_tbl[961]? = some (.code (yy 128) (cb 128) (ml 128) (rt 128)) := rfl
set_option maxRecDepth 100000 in
theorem cw_129 : lw_tbl[930]? = some (.code (yy 129) (cb 129) (ml 129) (rt 129)) := rfl
set_option maxRecDepth 100000 in
theorem cw_130 : lw_tbl[955]? = some (.code (yy 130) (cb 130) (ml 130) (rt 130)) := rfl
set_option maxRecDepth 100000 in
theorem cw_131 : lw_tbl[969]? = some (.code (yy 131) (cb 131) (ml 131) (rt 131)) := rfl
set_option maxRecDepth 100000 in
theorem cw_132 : lw_tbl[973]? = some (.code (yy 132) (cb 132) (ml 132) (rt 132)) := rfl
set_option maxRecDepth 100000 in
theorem cw_133 : lw_tbl[981]? = some (.code (yy 133) (cb 133) (ml 133) (rt 133)) := rfl
set_option maxRecDepth 100000 in
theorem cw_134 : lw_tbl[977]? = some (.code (yy 134) (cb 134) (ml 134) (rt 134)) := rfl
set_option maxRecDepth 100000 in
theorem cw_135 : lw_tbl[990]? = some (.code (yy 135) (cb 135) (ml 135) (rt 135)) := rfl
set_option maxRecDepth 100000 in
theorem cw_136 : lw_tbl[985]? = some (.code (yy 136) (cb 136) (ml 136) (rt 136)) := rfl
theorem cw_all : ∀ m, m < 137 → Cond.code (yy m) (cb m) (ml m) (rt m) ∈ lw_tbl := by
  intro m h
  match m, h with
  | 0, _ => exact List.mem_of_getElem? cw_0
  | 1, _ => exact List.mem_of_getElem? cw_1
  | 2, _ => exact List.mem_of_getElem? cw_2
  | 3, _ => exact List.mem_of_getElem? cw_3
  | 4, _ => exact List.mem_of_getElem? cw_4
  | 5, _ => exact List.mem_of_getElem? cw_5
  | 6, _ => exact List.mem_of_getElem? cw_6
  | 7, _ => exact List.mem_of_getElem? cw_7
  | 8, _ => exact List.mem_of_getElem? cw_8
  | 9, _ => exact List.mem_of_getElem? cw_9
  | 10, _ => exact List.mem_of_getElem? cw_10
  | 11, _ => exact List.mem_of_getElem? cw_11
  | 12, _ => exact List.mem_of_getElem? cw_12
  | 13, _ => exact List.mem_of_getElem? cw_13
  | 14, _ => exact List.mem_of_getElem? cw_14
  | 15, _ => exact List.mem_of_getElem? cw_15
  | 16, _ => exact List.mem_of_getElem? cw_16
  | 17, _ => exact List.mem_of_getElem? cw_17
  | 18, _ => exact List.mem_of_getElem? cw_18
  | 19, _ => exact List.mem_of_getElem? cw_19
  | 20, _ => exact List.mem_of_getElem? cw_20
  | 21, _ => exact List.mem_of_getElem? cw_21
  | 22, _ => exact List.mem_of_getElem? cw_22
  | 23, _ => exact List.mem_of_getElem? cw_23
  | 24, _ => exact List.mem_of_getElem? cw_24
  | 25, _ => exact List.mem_of_getElem? cw_25
  | 26, _ => exact List.mem_of_getElem? cw_26
  | 27, _ => exact List.mem_of_getElem? cw_27
  | 28, _ => exact List.mem_of_getElem? cw_28
  | 29, _ => exact List.mem_of_getElem? cw_29
  | 30, _ => exact List.mem_of_getElem? cw_30
  | 31, _ => exact List.mem_of_getElem? cw_31
  | 32, _ => exact List.mem_of_getElem? cw_32
  | 33, _ => exact List.mem_of_getElem? cw_33
  | 34, _ => exact List.mem_of_getElem? cw_34
  | 35, _ => exact List.mem_of_getElem? cw_35
  | 36, _ => exact List.mem_of_getElem? cw_36
  | 37, _ => exact List.mem_of_getElem? cw_37
  | 38, _ => exact List.mem_of_getElem? cw_38
  | 39, _ => exact List.mem_of_getElem? cw_39
  | 40, _ => exact List.mem_of_getElem? cw_40
  | 41, _ => exact List.mem_of_getElem? cw_41
  | 42, _ => exact List.mem_of_getElem? cw_42
  | 43, _ => exact List.mem_of_getElem? cw_43
  | 44, _ => exact List.mem_of_getElem? cw_44
  | 45, _ => exact List.mem_of_getElem? cw_45
  | 46, _ => exact List.mem_of_getElem? cw_46
  | 47, _ => exact List.mem_of_getElem? cw_47
  | 48, _ => exact List.mem_of_getElem? cw_48
  | 49, _ => exact List.mem_of_getElem? cw_49
  | 50, _ => exact List.mem_of_getElem? cw_50
  | 51, _ => exact List.mem_of_getElem? cw_51
  | 52, _ => exact List.mem_of_getElem? cw_52
  | 53, _ => exact List.mem_of_getElem? cw_53
  | 54, _ => exact List.mem_of_getElem? cw_54
  | 55, _ => exact List.mem_of_getElem? cw_55
  | 56, _ => exact List.mem_of_getElem? cw_56
  | 57, _ => exact List.mem_of_getElem? cw_57
  | 58, _ => exact List.mem_of_getElem? cw_58
  | 59, _ => exact List.mem_of_getElem? cw_59
  | 60, _ => exact List.mem_of_getElem? cw_60
  | 61, _ => exact List.mem_of_getElem? cw_61
  | 62, _ => exact List.mem_of_getElem? cw_62
  | 63, _ => exact List.mem_of_getElem? cw_63
  | 64, _ => exact List.mem_of_getElem? cw_64
  | 65, _ => exact List.mem_of_getElem? cw_65
  | 66, _ => exact List.mem_of_getElem? cw_66
  | 67, _ => exact List.mem_of_getElem? cw_67
  | 68, _ => exact List.mem_of_getElem? cw_68
  | 69, _ => exact List.mem_of_getElem? cw_69
  | 70, _ => exact List.mem_of_getElem? cw_70
  | 71, _ => exact List.mem_of_getElem? cw_71
  | 72, _ => exact List.mem_of_getElem? cw_72
  | 73, _ => exact List.mem_of_getElem? cw_73
  | 74, _ => exact List.mem_of_getElem? cw_74
  | 75, _ => exact List.mem_of_getElem? cw_75
  | 76, _ => exact List.mem_of_getElem? cw_76
  | 77, _ => exact List.mem_of_getElem? cw_77
  | 78, _ => exact List.mem_of_getElem? cw_78
  | 79, _ => exact List.mem_of_getElem? cw_79
  | 80, _ => exact List.mem_of_getElem? cw_80
  | 81, _ => exact List.mem_of_getElem? cw_81
  | 82, _ => exact List.mem_of_getElem? cw_82
  | 83, _ => exact List.mem_of_getElem? cw_83
  | 84, _ => exact List.mem_of_getElem? cw_84
  | 85, _ => exact List.mem_of_getElem? cw_85
  | 86, _ => exact List.mem_of_getElem? cw_86
  | 87, _ => exact List.mem_of_getElem? cw_87
  | 88, _ => exact List.mem_of_getElem? cw_88
  | 89, _ => exact List.mem_of_getElem? cw_89
  | 90, _ => exact List.mem_of_getElem? cw_90
  | 91, _ => exact List.mem_of_getElem? cw_91
  | 92, _ => exact List.mem_of_getElem? cw_92
  | 93, _ => exact List.mem_of_getElem? cw_93
  | 94, _ => exact List.mem_of_getElem? cw_94
  | 95, _ => exact List.mem_of_getElem? cw_95
  | 96, _ => exact List.mem_of_getElem? cw_96
  | 97, _ => exact List.mem_of_getElem? cw_97
  | 98, _ => exact List.mem_of_getElem? cw_98
  | 99, _ => exact List.mem_of_getElem? cw_99
  | 100, _ => exact List.mem_of_getElem? cw_100
  | 101, _ => exact List.mem_of_getElem? cw_101
  | 102, _ => exact List.mem_of_getElem? cw_102
  | 103, _ => exact List.mem_of_getElem? cw_103
  | 104, _ => exact List.mem_of_getElem? cw_104
  | 105, _ => exact List.mem_of_getElem? cw_105
  | 106, _ => exact List.mem_of_getElem? cw_106
  | 107, _ => exact List.mem_of_getElem? cw_107
  | 108, _ => exact List.mem_of_getElem? cw_108
  | 109, _ => exact List.mem_of_getElem? cw_109
  | 110, _ => exact List.mem_of_getElem? cw_110
  | 111, _ => exact List.mem_of_getElem? cw_111
  | 112, _ => exact List.mem_of_getElem? cw_112
  | 113, _ => exact List.mem_of_getElem? cw_113
  | 114, _ => exact List.mem_of_getElem? cw_114
  | 115, _ => exact List.mem_of_getElem? cw_115
  | 116, _ => exact List.mem_of_getElem? cw_116
  | 117, _ => exact List.mem_of_getElem? cw_117
  | 118, _ => exact List.mem_of_getElem? cw_118
  | 119, _ => exact List.mem_of_getElem? cw_119
  | 120, _ => exact List.mem_of_getElem? cw_120
  | 121, _ => exact List.mem_of_getElem? cw_121
  | 122, _ => exact List.mem_of_getElem? cw_122
  | 123, _ => exact List.mem_of_getElem? cw_123
  | 124, _ => exact List.mem_of_getElem? cw_124
  | 125, _ => exact List.mem_of_getElem? cw_125
  | 126, _ => exact List.mem_of_getElem? cw_126
  | 127, _ => exact List.mem_of_getElem? cw_127
  | 128, _ => exact List.mem_of_getElem? cw_128
  | 129, _ => exact List.mem_of_getElem? cw_129
  | 130, _ => exact List.mem_of_getElem? cw_130
  | 131, _ => exact List.mem_of_getElem? cw_131
  | 132, _ => exact List.mem_of_getElem? cw_132
  | 133, _ => exact List.mem_of_getElem? cw_133
  | 134, _ => exact List.mem_of_getElem? cw_134
  | 135, _ => exact List.mem_of_getElem? cw_135
  | 136, _ => exact List.mem_of_getElem? cw_136
  | n + 137, h => omega
/-- the words that stay good whatever is loaded -/
def gt : List Cond := lw_tbl.filter goodWord
theorem gt_in {w : Cond} (h : w ∈ lw_tbl) (hg : goodWord w = true) : w ∈ gt := List.mem_filter.mpr ⟨h, hg⟩
theorem gt_at {w : Cond} {k : Nat} (h : lw_tbl[k]? = some w) (hg : goodWord w = true) : w ∈ gt := gt_in (List.mem_of_getElem? h) hg
theorem gt_tbl {w : Cond} (h : w ∈ gt) : w ∈ lw_tbl := (List.mem_filter.mp h).1
theorem gt_good : GoodIn gt gt := fun w h => ⟨h, good_of_word (List.mem_filter.mp h).2⟩
theorem tw_good : ∀ c, c < 8 → ∀ w ∈ u_ws (RR c) (TT c) (NN c), goodWord w = true := by decide +kernel
theorem tw_gt : ∀ c, c < 8 → ∀ w ∈ u_ws (RR c) (TT c) (NN c), w ∈ gt := fun c hc w hw => gt_in (tw_all c hc w hw) (tw_good c hc w hw)
theorem ac_I : Cond.arrayClass .int ∈ lw_tbl := by decide +kernel
theorem ac_Z : Cond.arrayClass .boolean ∈ lw_tbl := by decide +kernel
theorem oi_1 : Cond.instanceMethod objectInit ∈ lw_tbl := by decide +kernel
theorem oi_2 : Cond.code objectInit ⟨#[0xb1]⟩ 1 none ∈ lw_tbl := by decide +kernel
theorem mm_1 : Cond.static Lib.Math.min.name ∈ lw_tbl := by decide +kernel
theorem mm_2 : Cond.static Lib.Math.max.name ∈ lw_tbl := by decide +kernel
theorem mm_3 : Cond.initialized "java/lang/Math" ∈ lw_tbl := by decide +kernel
theorem mm_4 : Cond.code Lib.Math.min.name Lib.Math.min.code 2 (some .int) ∈ lw_tbl := by decide +kernel
theorem mm_5 : Cond.code Lib.Math.max.name Lib.Math.max.code 2 (some .int) ∈ lw_tbl := by decide +kernel
end
section

theorem f_fin : ∀ e ∈ ftb, (TT e.2.2.1 e.2.2.2.1).2.2.2 = (e.2.2.2.2.1 == 3) := by decide +kernel
theorem cl_all : ∀ c, c < 8 → clss[c]? = some (RR c, TT c, NN c) := by
  intro c h
  simp [clss, h]
/-! the store: the kinds of the cells (0: the script), what objects hold, what arrays hold -/
abbrev Sto : Type := List Nat × (Nat → List Value) × (Nat → List Int32)
def ad (b B : Nat) (i : Nat) : Nat := match i with
  | 0 => b
  | i + 1 => B + i
def cv (b B : Nat) (v : Value) : Value := match v with
  | .ref i => .ref (ad b B i)
  | v => v
theorem cv_cat (b B : Nat) (v : Value) : (cv b B v).category = v.category := by cases v <;> rfl
theorem cv_sum (b B : Nat) (S : List Value) : ((S.map (cv b B)).map fun v => v.category).sum = (S.map fun v => v.category).sum := by
  rw [List.map_map]
  congr 1
  exact List.map_congr_left fun v _ => cv_cat b B v
def ent (b B : Nat) (cI cZ : ClassId) (σ : Sto) (i : Nat) : va_E :=
  if σ.1.getD i 0 < 8 then .inr (σ.1.getD i 0, (σ.2.1 i).map (cv b B)) else .inl ((if σ.1.getD i 0 = 100 then cI else cZ), (σ.2.2 i).length, .inl (fun j => (σ.2.2 i).getD j 0))
def wsT (b B : Nat) (cI cZ : ClassId) (σ : Sto) : va_W := (List.range (σ.1.length - 1)).map (fun i => (B + i, ent b B cI cZ σ (i + 1)))
theorem ws_at {b B : Nat} {cI cZ : ClassId} {σ : Sto} {i k : Nat} (h : σ.1[i + 1]? = some k) : (wsT b B cI cZ σ)[i]? = some (B + i, ent b B cI cZ σ (i + 1)) := by
  have hl := (List.getElem?_eq_some_iff.mp h).1
  have : i < σ.1.length - 1 := by omega
  simp [wsT, this]
theorem ws_obj {b B : Nat} {cI cZ : ClassId} {σ : Sto} {i k : Nat} (h : σ.1[i + 1]? = some k) (h8 : k < 8) : (wsT b B cI cZ σ)[i]? = some (B + i, .inr (k, (σ.2.1 (i + 1)).map (cv b B))) := by
  rw [ws_at h]
  simp [ent, List.getD, h, h8]
theorem ws_arr {b B : Nat} {cI cZ : ClassId} {σ : Sto} {i : Nat} (h : σ.1[i + 1]? = some 100) : (wsT b B cI cZ σ)[i]? = some (B + i, .inl (cI, (σ.2.2 (i + 1)).length, .inl (fun j => (σ.2.2 (i + 1)).getD j 0))) := by
  rw [ws_at h]
  simp [ent, h]
theorem ws_arz {b B : Nat} {cI cZ : ClassId} {σ : Sto} {i : Nat} (h : σ.1[i + 1]? = some 101) : (wsT b B cI cZ σ)[i]? = some (B + i, .inl (cZ, (σ.2.2 (i + 1)).length, .inl (fun j => (σ.2.2 (i + 1)).getD j 0))) := by
  rw [ws_at h]
  simp [ent, h]
theorem ws_D (b B : Nat) (cI cZ : ClassId) (σ : Sto) : va_D (fun q => B ≤ q) (wsT b B cI cZ σ) := by
  have key : ∀ (k : Nat) (q : Nat × va_E), (wsT b B cI cZ σ)[k]? = some q → q.1 = B + k := by
    intro k q h
    simp only [wsT, List.getElem?_map, Option.map_eq_some_iff] at h
    obtain ⟨a, h1, rfl⟩ := h
    obtain ⟨h2, h3⟩ := List.getElem?_eq_some_iff.mp h1
    simp at h3
    simp [h3]
  refine ⟨fun i j p q h1 h2 h3 => ?_, fun k q h => ?_⟩
  · have e1 := key i p h1
    have e2 := key j q h2
    omega
  · have e1 := key k q h
    show B ≤ q.1
    omega
theorem ent_eq {b B : Nat} {cI cZ : ClassId} {σ σ' : Sto} {i : Nat} (h1 : σ'.1.getD i 0 = σ.1.getD i 0) (h2 : σ'.2.1 i = σ.2.1 i) (h3 : σ'.2.2 i = σ.2.2 i) : ent b B cI cZ σ' i = ent b B cI cZ σ i := by
  unfold ent
  rw [h1, h2, h3]
theorem ws_up {b B : Nat} {cI cZ : ClassId} {σ σ' : Sto} {i : Nat} {e : va_E} (h1 : σ'.1 = σ.1) (hn : ∀ j, j ≠ i + 1 → σ'.2.1 j = σ.2.1 j ∧ σ'.2.2 j = σ.2.2 j) (he : ent b B cI cZ σ' (i + 1) = e) : (wsT b B cI cZ σ).set i (B + i, e) = wsT b B cI cZ σ' := by
  apply List.ext_getElem?
  intro n
  rw [List.getElem?_set]
  unfold wsT
  rw [h1]
  simp only [List.length_map, List.length_range, List.getElem?_map]
  by_cases hin : i = n
  · subst hin
    by_cases hl : i < σ.1.length - 1
    · simp [hl, he]
    · simp [hl]
  · simp only [hin, if_false]
    by_cases hl : n < σ.1.length - 1
    · simp only [List.getElem?_range hl, Option.map_some]
      rw [ent_eq (σ := σ') (σ' := σ) (by rw [h1]) (hn (n + 1) (by omega)).1.symm (hn (n + 1) (by omega)).2.symm]
    · have : (List.range (σ.1.length - 1))[n]? = none := by simp; omega
      simp [this]
theorem ws_push {b B : Nat} {cI cZ : ClassId} {σ σ' : Sto} {k : Nat} {e : va_E} (hl : 0 < σ.1.length) (h1 : σ'.1 = σ.1 ++ [k]) (hn : ∀ j, j < σ.1.length → σ'.2.1 j = σ.2.1 j ∧ σ'.2.2 j = σ.2.2 j) (he : ent b B cI cZ σ' σ.1.length = e) : wsT b B cI cZ σ ++ [(B + (σ.1.length - 1), e)] = wsT b B cI cZ σ' := by
  have hlen : σ'.1.length - 1 = (σ.1.length - 1) + 1 := by rw [h1]; simp; omega
  unfold wsT
  rw [hlen, List.range_succ, List.map_append, List.map_cons, List.map_nil]
  congr 1
  · apply List.map_congr_left
    intro n hn1
    have hn2 : n < σ.1.length - 1 := List.mem_range.mp hn1
    rw [ent_eq (σ := σ') (σ' := σ) ?_ (hn (n + 1) (by omega)).1.symm (hn (n + 1) (by omega)).2.symm]
    rw [h1, List.getD_eq_getElem?_getD, List.getD_eq_getElem?_getD, List.getElem?_append_left (by omega)]
  · rw [← he, show σ.1.length - 1 + 1 = σ.1.length by omega]
/-- the heap holds the store: the cells lie one behind the other from B on; the script lies at b -/
def HI (b B : Nat) (D : va_G) (cI cZ : ClassId) (scr : Cell) (σ : Sto) (H : Heap) : Prop :=
  H.size + 1 = B + σ.1.length ∧ H[b]? = some scr ∧ va_P D clss (wsT b B cI cZ σ) H ∧ σ.1[0]? = some 102 ∧ (scr.slots.size = (σ.2.2 0).length ∧ ∀ j, j < (σ.2.2 0).length → scr.slots[j]? = some (.int ((σ.2.2 0).getD j 0))) ∧ ∀ i k, σ.1[i]? = some k → k < 8 → (σ.2.1 i).length = NN k
theorem HI.pos {b B : Nat} {D : va_G} {cI cZ : ClassId} {scr : Cell} {σ : Sto} {H : Heap} (h : HI b B D cI cZ scr σ H) {o k : Nat} (hk : σ.1[o]? = some k) (hne : k ≠ 102) : ∃ i, o = i + 1 := by
  cases o with
  | zero =>
    rw [h.2.2.2.1] at hk
    cases hk
    exact absurd rfl hne
  | succ i => exact ⟨i, rfl⟩
/-! locals: a list of values, .null where nothing is known -/
def lvo (b B : Nat) (L : List Value) : List (Nat × Value) := (List.range L.length).filterMap (fun k => match L[k]? with
  | some v => if v = .null then none else some (k, cv b B v)
  | none => none)
theorem lvo_mem {b B : Nat} {L : List Value} {q : Nat × Value} : q ∈ lvo b B L ↔ ∃ v, L[q.1]? = some v ∧ v ≠ .null ∧ q.2 = cv b B v := by
  unfold lvo
  rw [List.mem_filterMap]
  constructor
  · rintro ⟨k, hk, h⟩
    split at h
    · next v hv =>
      split at h
      · cases h
      · next hn => cases h; exact ⟨v, hv, hn, rfl⟩
    · cases h
  · rintro ⟨v, hv, hn, he⟩
    refine ⟨q.1, List.mem_range.mpr (List.getElem?_eq_some_iff.mp hv).1, ?_⟩
    rw [hv]
    simp only [hn, if_false]
    rw [← he]
def Lr (b B : Nat) (ls : Array Slot) (n : Nat) (L : List Value) : Prop := lv_has ls n (lvo b B L)
theorem Lr.get {b B : Nat} {ls : Array Slot} {n : Nat} {L : List Value} (h : Lr b B ls n L) {k : Nat} {v : Value} (hk : L[k]? = some v) (hn : v ≠ .null) : ls[k]? = some (.val (cv b B v)) := h.2.2 (k, cv b B v) (lvo_mem.mpr ⟨v, hk, hn, rfl⟩)
theorem Lr.set1 {b B : Nat} {ls : Array Slot} {n : Nat} {L : List Value} {i : Nat} {v : Value} (h : lv_has ls n ((i, cv b B v) :: (lvo b B L).filter (fun q => !(q.1 == i) && !(q.1 + 1 == i && q.2.category == 2)))) (hp : ∀ j w, j + 1 = i → L[j]? = some w → w.category = 1) : Lr b B ls n (L.set i v) := by
  refine ⟨h.1, h.2.1, fun q hq => h.2.2 q ?_⟩
  obtain ⟨w, hw, hn, he⟩ := lvo_mem.mp hq
  rw [List.getElem?_set] at hw
  by_cases hi : i = q.1
  · rw [if_pos hi] at hw
    split at hw
    · cases hw
      refine List.mem_cons.mpr (Or.inl ?_)
      obtain ⟨a, c⟩ := q
      simp only at hi he
      rw [hi, he]
    · cases hw
  · rw [if_neg hi] at hw
    refine List.mem_cons.mpr (Or.inr (List.mem_filter.mpr ⟨lvo_mem.mpr ⟨w, hw, hn, he⟩, ?_⟩))
    have h1 : (q.1 == i) = false := by simp; exact fun z => hi z.symm
    by_cases h2 : q.1 + 1 = i
    · have h3 := hp q.1 w h2 hw
      rw [he, cv_cat, h3, h1]
      simp
    · simp [h1, h2]
theorem Lr.set2 {b B : Nat} {ls : Array Slot} {n : Nat} {L : List Value} {i : Nat} {v : Value} (h : lv_has ls n ((i, cv b B v) :: (lvo b B L).filter (fun q => !(q.1 == i) && (!(q.1 == i + 1) && !(q.1 + 1 == i && q.2.category == 2))))) (hp : ∀ j w, j + 1 = i → L[j]? = some w → w.category = 1) : Lr b B ls n ((L.set i v).set (i + 1) .null) := by
  refine ⟨h.1, h.2.1, fun q hq => h.2.2 q ?_⟩
  obtain ⟨w, hw, hn, he⟩ := lvo_mem.mp hq
  rw [List.getElem?_set] at hw
  by_cases hi1 : i + 1 = q.1
  · rw [if_pos hi1] at hw
    split at hw
    · cases hw; exact absurd rfl hn
    · cases hw
  · rw [if_neg hi1, List.getElem?_set] at hw
    by_cases hi : i = q.1
    · rw [if_pos hi] at hw
      split at hw
      · cases hw
        refine List.mem_cons.mpr (Or.inl ?_)
        obtain ⟨a, c⟩ := q
        simp only at hi he
        rw [hi, he]
      · cases hw
    · rw [if_neg hi] at hw
      refine List.mem_cons.mpr (Or.inr (List.mem_filter.mpr ⟨lvo_mem.mpr ⟨w, hw, hn, he⟩, ?_⟩))
      have h1 : (q.1 == i) = false := by simp; exact fun z => hi z.symm
      have h0 : (q.1 == i + 1) = false := by simp; exact fun z => hi1 z.symm
      by_cases h2 : q.1 + 1 = i
      · have h3 := hp q.1 w h2 hw
        rw [he, cv_cat, h3, h1, h0]
        simp
      · simp [h1, h0, h2]
/-- the locals at a method's entry -/
def entA : List Value → List Value
  | [] => []
  | v :: vs => if v.category = 2 then v :: .null :: entA vs else v :: entA vs
def entL (n : Nat) (As : List Value) : List Value := entA As ++ List.replicate (n - (entA As).length) .null
theorem entA_len (b B : Nat) : ∀ As : List Value, (lg_sl (As.map (cv b B))).length = (entA As).length
  | [] => rfl
  | v :: vs => by
    have ih := entA_len b B vs
    unfold lg_sl at ih ⊢
    rw [List.map_cons, List.flatMap_cons, List.length_append, ih, cv_cat]
    rw [entA]
    split <;> simp <;> omega
theorem entA_at (b B : Nat) : ∀ (As : List Value) (n k : Nat) (v : Value), (entA As)[k]? = some v → v ≠ .null → (n + k, cv b B v) ∈ lv_args n (As.map (cv b B))
  | [], n, k, v, h, _ => by simp [entA] at h
  | w :: vs, n, k, v, h, hv => by
    unfold entA at h
    simp only [List.map_cons, lv_args, cv_cat]
    split at h
    · next hc =>
      rw [if_pos hc]
      match k, h with
      | 0, h => simp at h; subst h; exact List.mem_cons_self
      | 1, h => simp at h; exact absurd h.symm hv
      | k + 2, h =>
        simp at h
        have := entA_at b B vs (n + 2) k v h hv
        rw [show n + (k + 2) = n + 2 + k by omega]
        exact List.mem_cons_of_mem _ this
    · next hc =>
      rw [if_neg hc]
      match k, h with
      | 0, h => simp at h; subst h; exact List.mem_cons_self
      | k + 1, h =>
        simp at h
        have := entA_at b B vs (n + 1) k v h hv
        rw [show n + (k + 1) = n + 1 + k by omega]
        exact List.mem_cons_of_mem _ this
theorem Lr.entry (b B : Nat) (As : List Value) {n : Nat} (h : (entA As).length ≤ n) : Lr b B ((lg_sl (As.map (cv b B)) ++ List.replicate (n - (lg_sl (As.map (cv b B))).length) Slot.unset).toArray) n (entL n As) := by
  have h1 := lv_entry (As.map (cv b B)) (n := n) (by rw [entA_len]; exact h)
  refine ⟨h1.1, h1.2.1, fun q hq => h1.2.2 q ?_⟩
  obtain ⟨v, hv, hn, he⟩ := lvo_mem.mp hq
  unfold entL at hv
  by_cases hl : q.1 < (entA As).length
  · rw [List.getElem?_append_left hl] at hv
    have := entA_at b B As 0 q.1 v hv hn
    rw [Nat.zero_add] at this
    obtain ⟨a, c⟩ := q
    simp only at he this ⊢
    rw [he]
    exact this
  · rw [List.getElem?_append_right (by omega), List.getElem?_replicate] at hv
    split at hv
    · cases hv; exact absurd rfl hn
    · cases hv
/-! the two judgements -/
/-- the links to a nest mate's constructor -/
def NWs (U : State) : Prop := ∀ e ∈ mtb, e.2.2.2.2.1 = 3 → va_Nw (.methodLinkNest (RR e.1) e.2.1 (yy e.2.2.1) "TrailBreakers") U
def Cx (p : Program) (R : Room) (s : State) (mi : MethodId) (args : Array Value) (meth : Method) (c : Code) (b B : Nat) (D : va_G) (cI cZ : ClassId) (scr : Cell) (m d : Nat) : Prop :=
  p.tables.exec = Jvm.exec ∧ c.code = cb m ∧ c.maxLocals = ml m ∧ s.vm.findClass (RR (ow m)) = some mi.cls ∧ (∀ w ∈ gt, w.before args s = true) ∧ va_K D clss [(cI, .int), (cZ, .boolean)] s ∧ b < B ∧ B ≤ s.heap.size ∧ (s.isArrayOf scr .int ∧ scr.vm ≠ .unknown) ∧ (d ≤ R.frames ∧ 40 * d ≤ R.locals) ∧ ((yy m).name = "<init>" → meth.name = "<init>") ∧ NWs s
def rOK (m : Nat) (r : Option Value) (i : Instr) : Prop := (i = .ireturn ∧ ∃ x : Int32, r = some (.int x) ∧ (rt m = some .int ∨ (rt m = some .boolean ∧ (x = 0 ∨ x = 1)))) ∨ (i = .lreturn ∧ ∃ x : Int64, r = some (.long x) ∧ rt m = some .long) ∨ (i = .return_ ∧ r = none ∧ rt m = none)
def Fz (p : Program) (l : Launch) (e : Env) (R : Room) (s : State) (mi : MethodId) (args : Array Value) (below : List Frame) (meth : Method) (c : Code) (b B : Nat) (D : va_G) (cI cZ : ClassId) (scr : Cell) (Z : State → Prop) (m : Nat) (r : Option Value) (σ' : Sto) : Prop :=
  ∀ (H : Heap) (locs : List Loc) (ls : Array Slot) (pc : Nat) (i : Instr) (cells slots : Nat), rOK m r i → decode (cb m) pc = .ok (i, 1) → HI b B D cI cZ scr σ' H → va_S (fun q => B ≤ q) s.heap H locs → cells ≤ R.cells → slots ≤ R.slots → W p l e R s mi args below meth c H locs cells slots Z (F0 mi pc ls (r.toList.map (cv b B)))
/-- from place pc of method m, with these locals, this stack, this store, the method ends with r, and the store is σ' then; d: how deep it calls; mc, ms: cells and slots that it makes -/
def WP (d mc ms m pc : Nat) (L S : List Value) (σ : Sto) (r : Option Value) (σ' : Sto) : Prop :=
  ∀ (p : Program) (l : Launch) (e : Env) (R : Room) (s : State) (mi : MethodId) (args : Array Value) (below : List Frame) (meth : Method) (c : Code) (b B : Nat) (D : va_G) (cI cZ : ClassId) (scr : Cell) (Z : State → Prop),
    Cx p R s mi args meth c b B D cI cZ scr m d → Fz p l e R s mi args below meth c b B D cI cZ scr Z m r σ' →
    ∀ (H : Heap) (locs : List Loc) (ls : Array Slot) (cells slots : Nat), HI b B D cI cZ scr σ H → va_S (fun q => B ≤ q) s.heap H locs → Lr b B ls (ml m) L → cells + mc ≤ R.cells → slots + ms ≤ R.slots →
      W p l e R s mi args below meth c H locs cells slots Z (F0 mi pc ls (S.map (cv b B)))
def Pm (b B : Nat) (D : va_G) (cI cZ : ClassId) (scr : Cell) (As : List Value) (σ : Sto) : Array Value → State → Prop := fun v U =>
  v = (As.map (cv b B)).toArray ∧ b < B ∧ B ≤ U.heap.size ∧ HI b B D cI cZ scr σ U.heap ∧ va_K D clss [(cI, .int), (cZ, .boolean)] U ∧ (U.isArrayOf scr .int ∧ scr.vm ≠ .unknown) ∧ NWs U
def Qm (b B : Nat) (D : va_G) (cI cZ : ClassId) (scr : Cell) (r : Option Value) (σ' : Sto) : Array Value → State → Outcome → State → Prop := fun _ st oc t =>
  oc = .returned (r.map (cv b B)) ∧ HI b B D cI cZ scr σ' t.heap ∧ va_F (fun q => B ≤ q) st t
def wm (m : Nat) : List Cond := Cond.code (yy m) (cb m) (ml m) (rt m) :: gt
/-- a whole call of method m -/
def Ev (d mc ms m : Nat) (As : List Value) (σ : Sto) (r : Option Value) (σ' : Sto) : Prop :=
  ∀ (l : Launch) (b B : Nat) (D : va_G) (cI cZ : ClassId) (scr : Cell), Met l (yy m) (wm m) { frames := d, cells := mc, slots := ms, locals := 40 * d } (Pm b B D cI cZ scr As σ) (Qm b B D cI cZ scr r σ') mc ms (fun q => B ≤ q)
theorem wm_good {m : Nat} (hm : m < 137) : GoodIn gt (wm m) := by
  intro w hw
  rcases List.mem_cons.mp hw with h | h
  · subst h
    exact ⟨gt_in (cw_all m hm) rfl, Or.inl rfl⟩
  · exact gt_good w h
set_option maxHeartbeats 1000000 in
theorem ev_of {d mc ms m : Nat} {As L : List Value} {σ : Sto} {r : Option Value} {σ' : Sto} (hm : m < 137) (hL : entL (ml m) As = L) (hl : (entA As).length ≤ ml m) (k : WP d mc ms m 0 L [] σ r σ') : Ev d mc ms m As σ r σ' := by
  intro l b B D cI cZ scr
  refine Met.ofW (cc := cb m) (maxL := ml m) (ret := rt m) (y_all m hm).2.2.1 rfl ?_
  intro p e s mi args below meth c s₁ Bd hml hv
  obtain ⟨rfl, hbB, hBs, hH, hK, hsc, hNw⟩ := hv
  have hts0 := atoms_spec (ws := wm m) Bd.pre
  have hts : ∀ w ∈ gt, w.before ((As.map (cv b B)).toArray) s = true := fun w h => hts0 w (List.mem_cons_of_mem _ h)
  have hown : s.vm.findClass (RR (ow m)) = some mi.cls := by rw [← (y_all m hm).2.2.2.1]; exact findClass_of_methodNamed Bd.named
  have hlocks := Bd.notSynchronized
  have hr := Bd.returns
  have hx := Bd.exec
  have hb := Bd.bytes
  have hl2 := Lr.entry b B As hl
  rw [hL] at hl2
  rw [lg_entry_eq]
  refine k p l e _ s mi _ below meth c b B D cI cZ scr _ ⟨hx, hb, hml, hown, hts, hK, hbB, hBs, hsc, ⟨Nat.le_refl _, Nat.le_refl _⟩, fun h => ?_, hNw⟩ ?_ s.heap [] _ 0 0 hH va_S.rf hl2 (by rw [Nat.zero_add]; exact Nat.le_refl _) (by rw [Nat.zero_add]; exact Nat.le_refl _)
  · have := (name_of_methodNamed Bd.named Bd.method).1
    rw [this]; exact h
  · intro H locs ls pc i cells slots hro hdec hH' hS' h1 h2
    refine W.widen (k := mc) (n := ms) h1 h2 ?_
    rcases hro with ⟨rfl, x, rfl, hrt⟩ | ⟨rfl, x, rfl, hrt⟩ | ⟨rfl, rfl, hrt⟩
    · rcases hrt with hrt | ⟨hrt, hx01⟩
      · exact W.zret (v := x) (ty := .int) hx hb (hr.trans hrt) rfl (fun t ht hW => ⟨rfl, by rw [ht]; exact hH', hS'.F ht⟩) hS'.2.2 hdec
      · refine W.zret (v := x) (ty := .boolean) hx hb (hr.trans hrt) ?_ (fun t ht hW => ⟨rfl, by rw [ht]; exact hH', hS'.F ht⟩) hS'.2.2 hdec
        rcases hx01 with rfl | rfl <;> rfl
    · exact W.lret (v := x) hx hb (hr.trans hrt) (fun t ht hW => ⟨rfl, by rw [ht]; exact hH', hS'.F ht⟩) hS'.2.2 hdec
    · exact W.vret hx hb (hr.trans hrt) (fun t ht hW => ⟨rfl, by rw [ht]; exact hH', hS'.F ht⟩) hS'.2.2 hdec

theorem wp_iconst {d mc ms m pc nx : Nat} {L S : List Value} {σ σ' : Sto} {r : Option Value} {X : Nat × Nat × Nat × Int} {n : Int} {v : Int32} (hd : ft m pc = some (.iconst n, 1, nx, X)) (hv : Int32.ofInt n = v) (k : WP d mc ms m nx L (.int v :: S) σ r σ') : WP d mc ms m pc L (S) σ r σ' := by
  intro p l e R s mi args below meth c b B D cI cZ scr Z C hZ H locs ls cells slots hH hS hL hc hs
  obtain ⟨hdec, rfl, -⟩ := ft_dec hd
  exact lv_iconst C.1 C.2.1 hdec hv (k p l e R s mi args below meth c b B D cI cZ scr Z C hZ H locs ls cells slots hH hS hL hc hs)
theorem wp_bipush {d mc ms m pc nx : Nat} {L S : List Value} {σ σ' : Sto} {r : Option Value} {X : Nat × Nat × Nat × Int} {n : Int} {v : Int32} (hd : ft m pc = some (.bipush n, 2, nx, X)) (hv : (Int8.ofInt n).toInt32 = v) (k : WP d mc ms m nx L (.int v :: S) σ r σ') : WP d mc ms m pc L (S) σ r σ' := by
  intro p l e R s mi args below meth c b B D cI cZ scr Z C hZ H locs ls cells slots hH hS hL hc hs
  obtain ⟨hdec, rfl, -⟩ := ft_dec hd
  exact lv_bipush C.1 C.2.1 hdec hv (k p l e R s mi args below meth c b B D cI cZ scr Z C hZ H locs ls cells slots hH hS hL hc hs)
theorem wp_sipush {d mc ms m pc nx : Nat} {L S : List Value} {σ σ' : Sto} {r : Option Value} {X : Nat × Nat × Nat × Int} {n : Int} {v : Int32} (hd : ft m pc = some (.sipush n, 3, nx, X)) (hv : (Int16.ofInt n).toInt32 = v) (k : WP d mc ms m nx L (.int v :: S) σ r σ') : WP d mc ms m pc L (S) σ r σ' := by
  intro p l e R s mi args below meth c b B D cI cZ scr Z C hZ H locs ls cells slots hH hS hL hc hs
  obtain ⟨hdec, rfl, -⟩ := ft_dec hd
  exact lv_sipush C.1 C.2.1 hdec hv (k p l e R s mi args below meth c b B D cI cZ scr Z C hZ H locs ls cells slots hH hS hL hc hs)
theorem wp_lconst {d mc ms m pc nx : Nat} {L S : List Value} {σ σ' : Sto} {r : Option Value} {X : Nat × Nat × Nat × Int} {n : Fin 2} {v : Int64} (hd : ft m pc = some (.lconst n, 1, nx, X)) (hv : Int64.ofNat (n : Nat) = v) (k : WP d mc ms m nx L (.long v :: S) σ r σ') : WP d mc ms m pc L (S) σ r σ' := by
  intro p l e R s mi args below meth c b B D cI cZ scr Z C hZ H locs ls cells slots hH hS hL hc hs
  obtain ⟨hdec, rfl, -⟩ := ft_dec hd
  exact lv_lconst C.1 C.2.1 hdec hv (k p l e R s mi args below meth c b B D cI cZ scr Z C hZ H locs ls cells slots hH hS hL hc hs)
theorem wp_iadd {d mc ms m pc nx : Nat} {L S : List Value} {σ σ' : Sto} {r : Option Value} {X : Nat × Nat × Nat × Int} {x y : Int32} (hd : ft m pc = some (.iadd, 1, nx, X))  (k : WP d mc ms m nx L (.int (x + y) :: S) σ r σ') : WP d mc ms m pc L (.int y :: .int x :: S) σ r σ' := by
  intro p l e R s mi args below meth c b B D cI cZ scr Z C hZ H locs ls cells slots hH hS hL hc hs
  obtain ⟨hdec, rfl, -⟩ := ft_dec hd
  exact lv_iadd C.1 C.2.1 hdec (k p l e R s mi args below meth c b B D cI cZ scr Z C hZ H locs ls cells slots hH hS hL hc hs)
theorem wp_isub {d mc ms m pc nx : Nat} {L S : List Value} {σ σ' : Sto} {r : Option Value} {X : Nat × Nat × Nat × Int} {x y : Int32} (hd : ft m pc = some (.isub, 1, nx, X))  (k : WP d mc ms m nx L (.int (x - y) :: S) σ r σ') : WP d mc ms m pc L (.int y :: .int x :: S) σ r σ' := by
  intro p l e R s mi args below meth c b B D cI cZ scr Z C hZ H locs ls cells slots hH hS hL hc hs
  obtain ⟨hdec, rfl, -⟩ := ft_dec hd
  exact lv_isub C.1 C.2.1 hdec (k p l e R s mi args below meth c b B D cI cZ scr Z C hZ H locs ls cells slots hH hS hL hc hs)
theorem wp_imul {d mc ms m pc nx : Nat} {L S : List Value} {σ σ' : Sto} {r : Option Value} {X : Nat × Nat × Nat × Int} {x y : Int32} (hd : ft m pc = some (.imul, 1, nx, X))  (k : WP d mc ms m nx L (.int (x * y) :: S) σ r σ') : WP d mc ms m pc L (.int y :: .int x :: S) σ r σ' := by
  intro p l e R s mi args below meth c b B D cI cZ scr Z C hZ H locs ls cells slots hH hS hL hc hs
  obtain ⟨hdec, rfl, -⟩ := ft_dec hd
  exact lv_imul C.1 C.2.1 hdec (k p l e R s mi args below meth c b B D cI cZ scr Z C hZ H locs ls cells slots hH hS hL hc hs)
theorem wp_iand {d mc ms m pc nx : Nat} {L S : List Value} {σ σ' : Sto} {r : Option Value} {X : Nat × Nat × Nat × Int} {x y : Int32} (hd : ft m pc = some (.iand, 1, nx, X))  (k : WP d mc ms m nx L (.int (x &&& y) :: S) σ r σ') : WP d mc ms m pc L (.int y :: .int x :: S) σ r σ' := by
  intro p l e R s mi args below meth c b B D cI cZ scr Z C hZ H locs ls cells slots hH hS hL hc hs
  obtain ⟨hdec, rfl, -⟩ := ft_dec hd
  exact lv_iand C.1 C.2.1 hdec (k p l e R s mi args below meth c b B D cI cZ scr Z C hZ H locs ls cells slots hH hS hL hc hs)
theorem wp_ior {d mc ms m pc nx : Nat} {L S : List Value} {σ σ' : Sto} {r : Option Value} {X : Nat × Nat × Nat × Int} {x y : Int32} (hd : ft m pc = some (.ior, 1, nx, X))  (k : WP d mc ms m nx L (.int (x ||| y) :: S) σ r σ') : WP d mc ms m pc L (.int y :: .int x :: S) σ r σ' := by
  intro p l e R s mi args below meth c b B D cI cZ scr Z C hZ H locs ls cells slots hH hS hL hc hs
  obtain ⟨hdec, rfl, -⟩ := ft_dec hd
  exact lv_ior C.1 C.2.1 hdec (k p l e R s mi args below meth c b B D cI cZ scr Z C hZ H locs ls cells slots hH hS hL hc hs)
theorem wp_ishl {d mc ms m pc nx : Nat} {L S : List Value} {σ σ' : Sto} {r : Option Value} {X : Nat × Nat × Nat × Int} {x y : Int32} (hd : ft m pc = some (.ishl, 1, nx, X))  (k : WP d mc ms m nx L (.int (x <<< (y &&& 31)) :: S) σ r σ') : WP d mc ms m pc L (.int y :: .int x :: S) σ r σ' := by
  intro p l e R s mi args below meth c b B D cI cZ scr Z C hZ H locs ls cells slots hH hS hL hc hs
  obtain ⟨hdec, rfl, -⟩ := ft_dec hd
  exact lv_ishl C.1 C.2.1 hdec (k p l e R s mi args below meth c b B D cI cZ scr Z C hZ H locs ls cells slots hH hS hL hc hs)
theorem wp_ishr {d mc ms m pc nx : Nat} {L S : List Value} {σ σ' : Sto} {r : Option Value} {X : Nat × Nat × Nat × Int} {x y : Int32} (hd : ft m pc = some (.ishr, 1, nx, X))  (k : WP d mc ms m nx L (.int (x >>> (y &&& 31)) :: S) σ r σ') : WP d mc ms m pc L (.int y :: .int x :: S) σ r σ' := by
  intro p l e R s mi args below meth c b B D cI cZ scr Z C hZ H locs ls cells slots hH hS hL hc hs
  obtain ⟨hdec, rfl, -⟩ := ft_dec hd
  exact lv_ishr C.1 C.2.1 hdec (k p l e R s mi args below meth c b B D cI cZ scr Z C hZ H locs ls cells slots hH hS hL hc hs)
theorem wp_idiv {d mc ms m pc nx : Nat} {L S : List Value} {σ σ' : Sto} {r : Option Value} {X : Nat × Nat × Nat × Int} {x y : Int32} (hd : ft m pc = some (.idiv, 1, nx, X)) (hne : ¬ y = 0) (k : WP d mc ms m nx L (.int (x / y) :: S) σ r σ') : WP d mc ms m pc L (.int y :: .int x :: S) σ r σ' := by
  intro p l e R s mi args below meth c b B D cI cZ scr Z C hZ H locs ls cells slots hH hS hL hc hs
  obtain ⟨hdec, rfl, -⟩ := ft_dec hd
  exact lv_idiv C.1 C.2.1 hdec hne (k p l e R s mi args below meth c b B D cI cZ scr Z C hZ H locs ls cells slots hH hS hL hc hs)
theorem wp_irem {d mc ms m pc nx : Nat} {L S : List Value} {σ σ' : Sto} {r : Option Value} {X : Nat × Nat × Nat × Int} {x y : Int32} (hd : ft m pc = some (.irem, 1, nx, X)) (hne : ¬ y = 0) (k : WP d mc ms m nx L (.int (x - x / y * y) :: S) σ r σ') : WP d mc ms m pc L (.int y :: .int x :: S) σ r σ' := by
  intro p l e R s mi args below meth c b B D cI cZ scr Z C hZ H locs ls cells slots hH hS hL hc hs
  obtain ⟨hdec, rfl, -⟩ := ft_dec hd
  exact lv_irem C.1 C.2.1 hdec hne (k p l e R s mi args below meth c b B D cI cZ scr Z C hZ H locs ls cells slots hH hS hL hc hs)
theorem wp_lrem {d mc ms m pc nx : Nat} {L S : List Value} {σ σ' : Sto} {r : Option Value} {X : Nat × Nat × Nat × Int} {x y : Int64} (hd : ft m pc = some (.lrem, 1, nx, X)) (hne : ¬ y = 0) (k : WP d mc ms m nx L (.long (x - x / y * y) :: S) σ r σ') : WP d mc ms m pc L (.long y :: .long x :: S) σ r σ' := by
  intro p l e R s mi args below meth c b B D cI cZ scr Z C hZ H locs ls cells slots hH hS hL hc hs
  obtain ⟨hdec, rfl, -⟩ := ft_dec hd
  exact lv_lrem C.1 C.2.1 hdec hne (k p l e R s mi args below meth c b B D cI cZ scr Z C hZ H locs ls cells slots hH hS hL hc hs)
theorem wp_ineg {d mc ms m pc nx : Nat} {L S : List Value} {σ σ' : Sto} {r : Option Value} {X : Nat × Nat × Nat × Int} {x : Int32} (hd : ft m pc = some (.ineg, 1, nx, X))  (k : WP d mc ms m nx L (.int (-x) :: S) σ r σ') : WP d mc ms m pc L (.int x :: S) σ r σ' := by
  intro p l e R s mi args below meth c b B D cI cZ scr Z C hZ H locs ls cells slots hH hS hL hc hs
  obtain ⟨hdec, rfl, -⟩ := ft_dec hd
  exact lv_ineg C.1 C.2.1 hdec (k p l e R s mi args below meth c b B D cI cZ scr Z C hZ H locs ls cells slots hH hS hL hc hs)
theorem wp_ladd {d mc ms m pc nx : Nat} {L S : List Value} {σ σ' : Sto} {r : Option Value} {X : Nat × Nat × Nat × Int} {x y : Int64} (hd : ft m pc = some (.ladd, 1, nx, X))  (k : WP d mc ms m nx L (.long (x + y) :: S) σ r σ') : WP d mc ms m pc L (.long y :: .long x :: S) σ r σ' := by
  intro p l e R s mi args below meth c b B D cI cZ scr Z C hZ H locs ls cells slots hH hS hL hc hs
  obtain ⟨hdec, rfl, -⟩ := ft_dec hd
  exact lv_ladd C.1 C.2.1 hdec (k p l e R s mi args below meth c b B D cI cZ scr Z C hZ H locs ls cells slots hH hS hL hc hs)
theorem wp_lmul {d mc ms m pc nx : Nat} {L S : List Value} {σ σ' : Sto} {r : Option Value} {X : Nat × Nat × Nat × Int} {x y : Int64} (hd : ft m pc = some (.lmul, 1, nx, X))  (k : WP d mc ms m nx L (.long (x * y) :: S) σ r σ') : WP d mc ms m pc L (.long y :: .long x :: S) σ r σ' := by
  intro p l e R s mi args below meth c b B D cI cZ scr Z C hZ H locs ls cells slots hH hS hL hc hs
  obtain ⟨hdec, rfl, -⟩ := ft_dec hd
  exact lv_lmul C.1 C.2.1 hdec (k p l e R s mi args below meth c b B D cI cZ scr Z C hZ H locs ls cells slots hH hS hL hc hs)
theorem wp_land {d mc ms m pc nx : Nat} {L S : List Value} {σ σ' : Sto} {r : Option Value} {X : Nat × Nat × Nat × Int} {x y : Int64} (hd : ft m pc = some (.land, 1, nx, X))  (k : WP d mc ms m nx L (.long (x &&& y) :: S) σ r σ') : WP d mc ms m pc L (.long y :: .long x :: S) σ r σ' := by
  intro p l e R s mi args below meth c b B D cI cZ scr Z C hZ H locs ls cells slots hH hS hL hc hs
  obtain ⟨hdec, rfl, -⟩ := ft_dec hd
  exact lv_land C.1 C.2.1 hdec (k p l e R s mi args below meth c b B D cI cZ scr Z C hZ H locs ls cells slots hH hS hL hc hs)
theorem wp_lcmp {d mc ms m pc nx : Nat} {L S : List Value} {σ σ' : Sto} {r : Option Value} {X : Nat × Nat × Nat × Int} {x y : Int64} (hd : ft m pc = some (.lcmp, 1, nx, X))  (k : WP d mc ms m nx L (.int (lg_cmp x y) :: S) σ r σ') : WP d mc ms m pc L (.long y :: .long x :: S) σ r σ' := by
  intro p l e R s mi args below meth c b B D cI cZ scr Z C hZ H locs ls cells slots hH hS hL hc hs
  obtain ⟨hdec, rfl, -⟩ := ft_dec hd
  exact W.lcmp C.1 C.2.1 hdec (k p l e R s mi args below meth c b B D cI cZ scr Z C hZ H locs ls cells slots hH hS hL hc hs)
theorem wp_i2l {d mc ms m pc nx : Nat} {L S : List Value} {σ σ' : Sto} {r : Option Value} {X : Nat × Nat × Nat × Int} {x : Int32} (hd : ft m pc = some (.i2l, 1, nx, X))  (k : WP d mc ms m nx L (.long x.toInt64 :: S) σ r σ') : WP d mc ms m pc L (.int x :: S) σ r σ' := by
  intro p l e R s mi args below meth c b B D cI cZ scr Z C hZ H locs ls cells slots hH hS hL hc hs
  obtain ⟨hdec, rfl, -⟩ := ft_dec hd
  exact lv_i2l C.1 C.2.1 hdec rfl (k p l e R s mi args below meth c b B D cI cZ scr Z C hZ H locs ls cells slots hH hS hL hc hs)
theorem wp_l2i {d mc ms m pc nx : Nat} {L S : List Value} {σ σ' : Sto} {r : Option Value} {X : Nat × Nat × Nat × Int} {x : Int64} (hd : ft m pc = some (.l2i, 1, nx, X))  (k : WP d mc ms m nx L (.int x.toInt32 :: S) σ r σ') : WP d mc ms m pc L (.long x :: S) σ r σ' := by
  intro p l e R s mi args below meth c b B D cI cZ scr Z C hZ H locs ls cells slots hH hS hL hc hs
  obtain ⟨hdec, rfl, -⟩ := ft_dec hd
  exact lv_l2i C.1 C.2.1 hdec rfl (k p l e R s mi args below meth c b B D cI cZ scr Z C hZ H locs ls cells slots hH hS hL hc hs)
theorem wp_dup {d mc ms m pc nx : Nat} {L S : List Value} {σ σ' : Sto} {r : Option Value} {X : Nat × Nat × Nat × Int} {v : Value} (hd : ft m pc = some (.dup, 1, nx, X)) (hv : v.category = 1) (k : WP d mc ms m nx L (v :: v :: S) σ r σ') : WP d mc ms m pc L (v :: S) σ r σ' := by
  intro p l e R s mi args below meth c b B D cI cZ scr Z C hZ H locs ls cells slots hH hS hL hc hs
  obtain ⟨hdec, rfl, -⟩ := ft_dec hd
  exact lv_dup C.1 C.2.1 hdec ((cv_cat b B v).trans hv) (k p l e R s mi args below meth c b B D cI cZ scr Z C hZ H locs ls cells slots hH hS hL hc hs)
theorem wp_pop {d mc ms m pc nx : Nat} {L S : List Value} {σ σ' : Sto} {r : Option Value} {X : Nat × Nat × Nat × Int} {v : Value} (hd : ft m pc = some (.pop, 1, nx, X)) (hv : v.category = 1) (k : WP d mc ms m nx L (S) σ r σ') : WP d mc ms m pc L (v :: S) σ r σ' := by
  intro p l e R s mi args below meth c b B D cI cZ scr Z C hZ H locs ls cells slots hH hS hL hc hs
  obtain ⟨hdec, rfl, -⟩ := ft_dec hd
  exact lv_pop C.1 C.2.1 hdec ((cv_cat b B v).trans hv) (k p l e R s mi args below meth c b B D cI cZ scr Z C hZ H locs ls cells slots hH hS hL hc hs)
theorem wp_dup2 {d mc ms m pc nx : Nat} {L S : List Value} {σ σ' : Sto} {r : Option Value} {X : Nat × Nat × Nat × Int} {v w : Value} (hd : ft m pc = some (.dup2, 1, nx, X)) (hv : v.category = 1) (hw : w.category = 1) (k : WP d mc ms m nx L (v :: w :: v :: w :: S) σ r σ') : WP d mc ms m pc L (v :: w :: S) σ r σ' := by
  intro p l e R s mi args below meth c b B D cI cZ scr Z C hZ H locs ls cells slots hH hS hL hc hs
  obtain ⟨hdec, rfl, -⟩ := ft_dec hd
  exact lv_dup2_11 C.1 C.2.1 hdec ((cv_cat b B v).trans hv) ((cv_cat b B w).trans hw) (k p l e R s mi args below meth c b B D cI cZ scr Z C hZ H locs ls cells slots hH hS hL hc hs)
theorem wp_icmp_eq {d mc ms m pc nx tg a2 a3 : Nat} {a4 : Int} {L S : List Value} {σ σ' : Sto} {r : Option Value} {x y : Int32} {off : Int} (hd : ft m pc = some (.if_icmp .eq off, 3, nx, tg, a2, a3, a4)) (h0 : 0 ≤ (pc : Int) + off) (kt : x = y → WP d mc ms m tg L S σ r σ') (kf : ¬ x = y → WP d mc ms m nx L S σ r σ') : WP d mc ms m pc L (.int y :: .int x :: S) σ r σ' := by
  intro p l e R s mi args below meth c b B D cI cZ scr Z C hZ H locs ls cells slots hH hS hL hc hs
  obtain ⟨hdec, rfl, hrs⟩ := ft_dec hd
  have ht : (pc : Int) + off = (tg : Int) := by
    have : ((pc : Int) + off).toNat = tg := congrArg (fun z => z.1) hrs
    omega
  exact lv_icmp_eq C.1 C.2.1 hdec ht (fun h => kt h p l e R s mi args below meth c b B D cI cZ scr Z C hZ H locs ls cells slots hH hS hL hc hs) (fun h => kf h p l e R s mi args below meth c b B D cI cZ scr Z C hZ H locs ls cells slots hH hS hL hc hs)
theorem wp_if_eq {d mc ms m pc nx tg a2 a3 : Nat} {a4 : Int} {L S : List Value} {σ σ' : Sto} {r : Option Value} {x : Int32} {off : Int} (hd : ft m pc = some (.ifCond .eq off, 3, nx, tg, a2, a3, a4)) (h0 : 0 ≤ (pc : Int) + off) (kt : x = 0 → WP d mc ms m tg L S σ r σ') (kf : ¬ x = 0 → WP d mc ms m nx L S σ r σ') : WP d mc ms m pc L (.int x :: S) σ r σ' := by
  intro p l e R s mi args below meth c b B D cI cZ scr Z C hZ H locs ls cells slots hH hS hL hc hs
  obtain ⟨hdec, rfl, hrs⟩ := ft_dec hd
  have ht : (pc : Int) + off = (tg : Int) := by
    have : ((pc : Int) + off).toNat = tg := congrArg (fun z => z.1) hrs
    omega
  exact lv_if_eq C.1 C.2.1 hdec ht (fun h => kt h p l e R s mi args below meth c b B D cI cZ scr Z C hZ H locs ls cells slots hH hS hL hc hs) (fun h => kf h p l e R s mi args below meth c b B D cI cZ scr Z C hZ H locs ls cells slots hH hS hL hc hs)
theorem wp_icmp_ne {d mc ms m pc nx tg a2 a3 : Nat} {a4 : Int} {L S : List Value} {σ σ' : Sto} {r : Option Value} {x y : Int32} {off : Int} (hd : ft m pc = some (.if_icmp .ne off, 3, nx, tg, a2, a3, a4)) (h0 : 0 ≤ (pc : Int) + off) (kt : ¬ x = y → WP d mc ms m tg L S σ r σ') (kf : x = y → WP d mc ms m nx L S σ r σ') : WP d mc ms m pc L (.int y :: .int x :: S) σ r σ' := by
  intro p l e R s mi args below meth c b B D cI cZ scr Z C hZ H locs ls cells slots hH hS hL hc hs
  obtain ⟨hdec, rfl, hrs⟩ := ft_dec hd
  have ht : (pc : Int) + off = (tg : Int) := by
    have : ((pc : Int) + off).toNat = tg := congrArg (fun z => z.1) hrs
    omega
  exact lv_icmp_ne C.1 C.2.1 hdec ht (fun h => kt h p l e R s mi args below meth c b B D cI cZ scr Z C hZ H locs ls cells slots hH hS hL hc hs) (fun h => kf h p l e R s mi args below meth c b B D cI cZ scr Z C hZ H locs ls cells slots hH hS hL hc hs)
theorem wp_if_ne {d mc ms m pc nx tg a2 a3 : Nat} {a4 : Int} {L S : List Value} {σ σ' : Sto} {r : Option Value} {x : Int32} {off : Int} (hd : ft m pc = some (.ifCond .ne off, 3, nx, tg, a2, a3, a4)) (h0 : 0 ≤ (pc : Int) + off) (kt : ¬ x = 0 → WP d mc ms m tg L S σ r σ') (kf : x = 0 → WP d mc ms m nx L S σ r σ') : WP d mc ms m pc L (.int x :: S) σ r σ' := by
  intro p l e R s mi args below meth c b B D cI cZ scr Z C hZ H locs ls cells slots hH hS hL hc hs
  obtain ⟨hdec, rfl, hrs⟩ := ft_dec hd
  have ht : (pc : Int) + off = (tg : Int) := by
    have : ((pc : Int) + off).toNat = tg := congrArg (fun z => z.1) hrs
    omega
  exact lv_if_ne C.1 C.2.1 hdec ht (fun h => kt h p l e R s mi args below meth c b B D cI cZ scr Z C hZ H locs ls cells slots hH hS hL hc hs) (fun h => kf h p l e R s mi args below meth c b B D cI cZ scr Z C hZ H locs ls cells slots hH hS hL hc hs)
theorem wp_icmp_lt {d mc ms m pc nx tg a2 a3 : Nat} {a4 : Int} {L S : List Value} {σ σ' : Sto} {r : Option Value} {x y : Int32} {off : Int} (hd : ft m pc = some (.if_icmp .lt off, 3, nx, tg, a2, a3, a4)) (h0 : 0 ≤ (pc : Int) + off) (kt : x < y → WP d mc ms m tg L S σ r σ') (kf : ¬ x < y → WP d mc ms m nx L S σ r σ') : WP d mc ms m pc L (.int y :: .int x :: S) σ r σ' := by
  intro p l e R s mi args below meth c b B D cI cZ scr Z C hZ H locs ls cells slots hH hS hL hc hs
  obtain ⟨hdec, rfl, hrs⟩ := ft_dec hd
  have ht : (pc : Int) + off = (tg : Int) := by
    have : ((pc : Int) + off).toNat = tg := congrArg (fun z => z.1) hrs
    omega
  exact lv_icmp_lt C.1 C.2.1 hdec ht (fun h => kt h p l e R s mi args below meth c b B D cI cZ scr Z C hZ H locs ls cells slots hH hS hL hc hs) (fun h => kf h p l e R s mi args below meth c b B D cI cZ scr Z C hZ H locs ls cells slots hH hS hL hc hs)
theorem wp_if_lt {d mc ms m pc nx tg a2 a3 : Nat} {a4 : Int} {L S : List Value} {σ σ' : Sto} {r : Option Value} {x : Int32} {off : Int} (hd : ft m pc = some (.ifCond .lt off, 3, nx, tg, a2, a3, a4)) (h0 : 0 ≤ (pc : Int) + off) (kt : x < 0 → WP d mc ms m tg L S σ r σ') (kf : ¬ x < 0 → WP d mc ms m nx L S σ r σ') : WP d mc ms m pc L (.int x :: S) σ r σ' := by
  intro p l e R s mi args below meth c b B D cI cZ scr Z C hZ H locs ls cells slots hH hS hL hc hs
  obtain ⟨hdec, rfl, hrs⟩ := ft_dec hd
  have ht : (pc : Int) + off = (tg : Int) := by
    have : ((pc : Int) + off).toNat = tg := congrArg (fun z => z.1) hrs
    omega
  exact lv_if_lt C.1 C.2.1 hdec ht (fun h => kt h p l e R s mi args below meth c b B D cI cZ scr Z C hZ H locs ls cells slots hH hS hL hc hs) (fun h => kf h p l e R s mi args below meth c b B D cI cZ scr Z C hZ H locs ls cells slots hH hS hL hc hs)
theorem wp_icmp_ge {d mc ms m pc nx tg a2 a3 : Nat} {a4 : Int} {L S : List Value} {σ σ' : Sto} {r : Option Value} {x y : Int32} {off : Int} (hd : ft m pc = some (.if_icmp .ge off, 3, nx, tg, a2, a3, a4)) (h0 : 0 ≤ (pc : Int) + off) (kt : y ≤ x → WP d mc ms m tg L S σ r σ') (kf : ¬ y ≤ x → WP d mc ms m nx L S σ r σ') : WP d mc ms m pc L (.int y :: .int x :: S) σ r σ' := by
  intro p l e R s mi args below meth c b B D cI cZ scr Z C hZ H locs ls cells slots hH hS hL hc hs
  obtain ⟨hdec, rfl, hrs⟩ := ft_dec hd
  have ht : (pc : Int) + off = (tg : Int) := by
    have : ((pc : Int) + off).toNat = tg := congrArg (fun z => z.1) hrs
    omega
  exact lv_icmp_ge C.1 C.2.1 hdec ht (fun h => kt h p l e R s mi args below meth c b B D cI cZ scr Z C hZ H locs ls cells slots hH hS hL hc hs) (fun h => kf h p l e R s mi args below meth c b B D cI cZ scr Z C hZ H locs ls cells slots hH hS hL hc hs)
theorem wp_if_ge {d mc ms m pc nx tg a2 a3 : Nat} {a4 : Int} {L S : List Value} {σ σ' : Sto} {r : Option Value} {x : Int32} {off : Int} (hd : ft m pc = some (.ifCond .ge off, 3, nx, tg, a2, a3, a4)) (h0 : 0 ≤ (pc : Int) + off) (kt : 0 ≤ x → WP d mc ms m tg L S σ r σ') (kf : ¬ 0 ≤ x → WP d mc ms m nx L S σ r σ') : WP d mc ms m pc L (.int x :: S) σ r σ' := by
  intro p l e R s mi args below meth c b B D cI cZ scr Z C hZ H locs ls cells slots hH hS hL hc hs
  obtain ⟨hdec, rfl, hrs⟩ := ft_dec hd
  have ht : (pc : Int) + off = (tg : Int) := by
    have : ((pc : Int) + off).toNat = tg := congrArg (fun z => z.1) hrs
    omega
  exact lv_if_ge C.1 C.2.1 hdec ht (fun h => kt h p l e R s mi args below meth c b B D cI cZ scr Z C hZ H locs ls cells slots hH hS hL hc hs) (fun h => kf h p l e R s mi args below meth c b B D cI cZ scr Z C hZ H locs ls cells slots hH hS hL hc hs)
theorem wp_icmp_gt {d mc ms m pc nx tg a2 a3 : Nat} {a4 : Int} {L S : List Value} {σ σ' : Sto} {r : Option Value} {x y : Int32} {off : Int} (hd : ft m pc = some (.if_icmp .gt off, 3, nx, tg, a2, a3, a4)) (h0 : 0 ≤ (pc : Int) + off) (kt : y < x → WP d mc ms m tg L S σ r σ') (kf : ¬ y < x → WP d mc ms m nx L S σ r σ') : WP d mc ms m pc L (.int y :: .int x :: S) σ r σ' := by
  intro p l e R s mi args below meth c b B D cI cZ scr Z C hZ H locs ls cells slots hH hS hL hc hs
  obtain ⟨hdec, rfl, hrs⟩ := ft_dec hd
  have ht : (pc : Int) + off = (tg : Int) := by
    have : ((pc : Int) + off).toNat = tg := congrArg (fun z => z.1) hrs
    omega
  exact lv_icmp_gt C.1 C.2.1 hdec ht (fun h => kt h p l e R s mi args below meth c b B D cI cZ scr Z C hZ H locs ls cells slots hH hS hL hc hs) (fun h => kf h p l e R s mi args below meth c b B D cI cZ scr Z C hZ H locs ls cells slots hH hS hL hc hs)
theorem wp_if_gt {d mc ms m pc nx tg a2 a3 : Nat} {a4 : Int} {L S : List Value} {σ σ' : Sto} {r : Option Value} {x : Int32} {off : Int} (hd : ft m pc = some (.ifCond .gt off, 3, nx, tg, a2, a3, a4)) (h0 : 0 ≤ (pc : Int) + off) (kt : 0 < x → WP d mc ms m tg L S σ r σ') (kf : ¬ 0 < x → WP d mc ms m nx L S σ r σ') : WP d mc ms m pc L (.int x :: S) σ r σ' := by
  intro p l e R s mi args below meth c b B D cI cZ scr Z C hZ H locs ls cells slots hH hS hL hc hs
  obtain ⟨hdec, rfl, hrs⟩ := ft_dec hd
  have ht : (pc : Int) + off = (tg : Int) := by
    have : ((pc : Int) + off).toNat = tg := congrArg (fun z => z.1) hrs
    omega
  exact lv_if_gt C.1 C.2.1 hdec ht (fun h => kt h p l e R s mi args below meth c b B D cI cZ scr Z C hZ H locs ls cells slots hH hS hL hc hs) (fun h => kf h p l e R s mi args below meth c b B D cI cZ scr Z C hZ H locs ls cells slots hH hS hL hc hs)
theorem wp_icmp_le {d mc ms m pc nx tg a2 a3 : Nat} {a4 : Int} {L S : List Value} {σ σ' : Sto} {r : Option Value} {x y : Int32} {off : Int} (hd : ft m pc = some (.if_icmp .le off, 3, nx, tg, a2, a3, a4)) (h0 : 0 ≤ (pc : Int) + off) (kt : x ≤ y → WP d mc ms m tg L S σ r σ') (kf : ¬ x ≤ y → WP d mc ms m nx L S σ r σ') : WP d mc ms m pc L (.int y :: .int x :: S) σ r σ' := by
  intro p l e R s mi args below meth c b B D cI cZ scr Z C hZ H locs ls cells slots hH hS hL hc hs
  obtain ⟨hdec, rfl, hrs⟩ := ft_dec hd
  have ht : (pc : Int) + off = (tg : Int) := by
    have : ((pc : Int) + off).toNat = tg := congrArg (fun z => z.1) hrs
    omega
  exact lv_icmp_le C.1 C.2.1 hdec ht (fun h => kt h p l e R s mi args below meth c b B D cI cZ scr Z C hZ H locs ls cells slots hH hS hL hc hs) (fun h => kf h p l e R s mi args below meth c b B D cI cZ scr Z C hZ H locs ls cells slots hH hS hL hc hs)
theorem wp_if_le {d mc ms m pc nx tg a2 a3 : Nat} {a4 : Int} {L S : List Value} {σ σ' : Sto} {r : Option Value} {x : Int32} {off : Int} (hd : ft m pc = some (.ifCond .le off, 3, nx, tg, a2, a3, a4)) (h0 : 0 ≤ (pc : Int) + off) (kt : x ≤ 0 → WP d mc ms m tg L S σ r σ') (kf : ¬ x ≤ 0 → WP d mc ms m nx L S σ r σ') : WP d mc ms m pc L (.int x :: S) σ r σ' := by
  intro p l e R s mi args below meth c b B D cI cZ scr Z C hZ H locs ls cells slots hH hS hL hc hs
  obtain ⟨hdec, rfl, hrs⟩ := ft_dec hd
  have ht : (pc : Int) + off = (tg : Int) := by
    have : ((pc : Int) + off).toNat = tg := congrArg (fun z => z.1) hrs
    omega
  exact lv_if_le C.1 C.2.1 hdec ht (fun h => kt h p l e R s mi args below meth c b B D cI cZ scr Z C hZ H locs ls cells slots hH hS hL hc hs) (fun h => kf h p l e R s mi args below meth c b B D cI cZ scr Z C hZ H locs ls cells slots hH hS hL hc hs)
theorem wp_goto {d mc ms m pc nx tg a2 a3 : Nat} {a4 : Int} {L S : List Value} {σ σ' : Sto} {r : Option Value} {off : Int} (hd : ft m pc = some (.goto off, 3, nx, tg, a2, a3, a4)) (h0 : 0 ≤ (pc : Int) + off) (k : WP d mc ms m tg L S σ r σ') : WP d mc ms m pc L S σ r σ' := by
  intro p l e R s mi args below meth c b B D cI cZ scr Z C hZ H locs ls cells slots hH hS hL hc hs
  obtain ⟨hdec, rfl, hrs⟩ := ft_dec hd
  have ht : (pc : Int) + off = (tg : Int) := by
    have : ((pc : Int) + off).toNat = tg := congrArg (fun z => z.1) hrs
    omega
  exact lv_goto C.1 C.2.1 hdec ht (k p l e R s mi args below meth c b B D cI cZ scr Z C hZ H locs ls cells slots hH hS hL hc hs)
theorem wp_swin {d mc ms m pc nx : Nat} {L S : List Value} {σ σ' : Sto} {r : Option Value} {X : Nat × Nat × Nat × Int} {dflt lo hi : Int} {offs : Array Int} {len tgt : Nat} {x : Int32} {off : Int} (hd : ft m pc = some (.tableswitch dflt lo hi offs, len, nx, X)) (h1 : ¬ x.toInt < lo) (h2 : ¬ hi < x.toInt) (ho : offs[(x.toInt - lo).toNat]? = some off) (ht : (pc : Int) + off = (tgt : Int)) (k : WP d mc ms m tgt L S σ r σ') : WP d mc ms m pc L (.int x :: S) σ r σ' := by
  intro p l e R s mi args below meth c b B D cI cZ scr Z C hZ H locs ls cells slots hH hS hL hc hs
  obtain ⟨hdec, rfl, -⟩ := ft_dec hd
  exact lv_tableIn C.1 C.2.1 hdec h1 h2 ho ht (k p l e R s mi args below meth c b B D cI cZ scr Z C hZ H locs ls cells slots hH hS hL hc hs)
theorem wp_swout {d mc ms m pc nx : Nat} {L S : List Value} {σ σ' : Sto} {r : Option Value} {X : Nat × Nat × Nat × Int} {dflt lo hi : Int} {offs : Array Int} {len tgt : Nat} {x : Int32} (hd : ft m pc = some (.tableswitch dflt lo hi offs, len, nx, X)) (h : x.toInt < lo ∨ hi < x.toInt) (ht : (pc : Int) + dflt = (tgt : Int)) (k : WP d mc ms m tgt L S σ r σ') : WP d mc ms m pc L (.int x :: S) σ r σ' := by
  intro p l e R s mi args below meth c b B D cI cZ scr Z C hZ H locs ls cells slots hH hS hL hc hs
  obtain ⟨hdec, rfl, -⟩ := ft_dec hd
  exact lv_tableOut C.1 C.2.1 hdec h ht (k p l e R s mi args below meth c b B D cI cZ scr Z C hZ H locs ls cells slots hH hS hL hc hs)
theorem wp_ldc {d mc ms m pc nx a1 a2 a3 idx : Nat} {L S : List Value} {σ σ' : Sto} {r : Option Value} {z : Int} {v : Int32} (hd : ft m pc = some (.ldc idx, 2, nx, a1, a2, a3, z)) (h9 : a3 ≠ 99) (h0 : a1 = 0) (hv : Int32.ofInt z = v) (k : WP d mc ms m nx L (.int v :: S) σ r σ') : WP d mc ms m pc L S σ r σ' := by
  intro p l e R s mi args below meth c b B D cI cZ scr Z C hZ H locs ls cells slots hH hS hL hc hs
  obtain ⟨hdec, rfl, hrs⟩ := ft_dec hd
  subst hv
  exact lv_ldc C.1 C.2.1 C.2.2.2.1 (C.2.2.2.2.1 _ (gt_at ((k_all _ (look_in hrs h9)).1 h0) rfl)) hdec (k p l e R s mi args below meth c b B D cI cZ scr Z C hZ H locs ls cells slots hH hS hL hc hs)
theorem wp_ldc2 {d mc ms m pc nx a1 a2 a3 idx : Nat} {L S : List Value} {σ σ' : Sto} {r : Option Value} {z : Int} {v : Int64} (hd : ft m pc = some (.ldc2_w idx, 3, nx, a1, a2, a3, z)) (h9 : a3 ≠ 99) (h0 : a1 = 1) (hv : Int64.ofInt z = v) (k : WP d mc ms m nx L (.long v :: S) σ r σ') : WP d mc ms m pc L S σ r σ' := by
  intro p l e R s mi args below meth c b B D cI cZ scr Z C hZ H locs ls cells slots hH hS hL hc hs
  obtain ⟨hdec, rfl, hrs⟩ := ft_dec hd
  subst hv
  exact lv_ldc2 C.1 C.2.1 C.2.2.2.1 (C.2.2.2.2.1 _ (gt_at ((k_all _ (look_in hrs h9)).2 h0) rfl)) hdec (k p l e R s mi args below meth c b B D cI cZ scr Z C hZ H locs ls cells slots hH hS hL hc hs)
theorem wp_iret {d mc ms m pc nx : Nat} {L : List Value} {σ σ' : Sto} {r : Option Value} {X : Nat × Nat × Nat × Int} {x : Int32} (hd : ft m pc = some (.ireturn, 1, nx, X)) (ht : rt m = some .int) (hr : r = some (.int x)) (hσ : σ' = σ) : WP d mc ms m pc L [.int x] σ r σ' := by
  intro p l e R s mi args below meth c b B D cI cZ scr Z C hZ H locs ls cells slots hH hS hL hc hs
  subst hr; subst hσ
  exact hZ H locs ls pc _ cells slots (Or.inl ⟨rfl, x, rfl, Or.inl ht⟩) (ft_dec hd).1 hH hS (by omega) (by omega)
theorem wp_zret {d mc ms m pc nx : Nat} {L : List Value} {σ σ' : Sto} {r : Option Value} {X : Nat × Nat × Nat × Int} {x : Int32} (hd : ft m pc = some (.ireturn, 1, nx, X)) (ht : rt m = some .boolean) (h01 : x = 0 ∨ x = 1) (hr : r = some (.int x)) (hσ : σ' = σ) : WP d mc ms m pc L [.int x] σ r σ' := by
  intro p l e R s mi args below meth c b B D cI cZ scr Z C hZ H locs ls cells slots hH hS hL hc hs
  subst hr; subst hσ
  exact hZ H locs ls pc _ cells slots (Or.inl ⟨rfl, x, rfl, Or.inr ⟨ht, h01⟩⟩) (ft_dec hd).1 hH hS (by omega) (by omega)
theorem wp_lret {d mc ms m pc nx : Nat} {L : List Value} {σ σ' : Sto} {r : Option Value} {X : Nat × Nat × Nat × Int} {x : Int64} (hd : ft m pc = some (.lreturn, 1, nx, X)) (ht : rt m = some .long) (hr : r = some (.long x)) (hσ : σ' = σ) : WP d mc ms m pc L [.long x] σ r σ' := by
  intro p l e R s mi args below meth c b B D cI cZ scr Z C hZ H locs ls cells slots hH hS hL hc hs
  subst hr; subst hσ
  exact hZ H locs ls pc _ cells slots (Or.inr (Or.inl ⟨rfl, x, rfl, ht⟩)) (ft_dec hd).1 hH hS (by omega) (by omega)
theorem wp_vret {d mc ms m pc nx : Nat} {L : List Value} {σ σ' : Sto} {r : Option Value} {X : Nat × Nat × Nat × Int} (hd : ft m pc = some (.return_, 1, nx, X)) (ht : rt m = none) (hr : r = none) (hσ : σ' = σ) : WP d mc ms m pc L [] σ r σ' := by
  intro p l e R s mi args below meth c b B D cI cZ scr Z C hZ H locs ls cells slots hH hS hL hc hs
  subst hr; subst hσ
  exact hZ H locs ls pc _ cells slots (Or.inr (Or.inr ⟨rfl, rfl, ht⟩)) (ft_dec hd).1 hH hS (by omega) (by omega)
theorem wp_iload_0 {d mc ms m pc nx : Nat} {L S : List Value} {σ σ' : Sto} {r : Option Value} {X : Nat × Nat × Nat × Int}  {x : Int32} (hd : ft m pc = some (.iload_n 0, 1, nx, X)) (k : WP d mc ms m nx (.int x :: L) (.int x :: S) σ r σ') : WP d mc ms m pc (.int x :: L) S σ r σ' := by
  intro p l e R s mi args below meth c b B D cI cZ scr Z C hZ H locs ls cells slots hH hS hL hc hs
  obtain ⟨hdec, rfl, -⟩ := ft_dec hd
  exact lv_iload_n C.1 C.2.1 hdec rfl (hL.get (k := 0) (v := .int x) rfl (fun h => by cases h)) (k p l e R s mi args below meth c b B D cI cZ scr Z C hZ H locs ls cells slots hH hS hL hc hs)
theorem wp_aload_0 {d mc ms m pc nx : Nat} {L S : List Value} {σ σ' : Sto} {r : Option Value} {X : Nat × Nat × Nat × Int}  {x : Nat} (hd : ft m pc = some (.aload_n 0, 1, nx, X)) (k : WP d mc ms m nx (.ref x :: L) (.ref x :: S) σ r σ') : WP d mc ms m pc (.ref x :: L) S σ r σ' := by
  intro p l e R s mi args below meth c b B D cI cZ scr Z C hZ H locs ls cells slots hH hS hL hc hs
  obtain ⟨hdec, rfl, -⟩ := ft_dec hd
  exact lv_aload_n C.1 C.2.1 hdec rfl (hL.get (k := 0) (v := .ref x) rfl (fun h => by cases h)) (k p l e R s mi args below meth c b B D cI cZ scr Z C hZ H locs ls cells slots hH hS hL hc hs)
theorem wp_lload_0 {d mc ms m pc nx : Nat} {L S : List Value} {σ σ' : Sto} {r : Option Value} {X : Nat × Nat × Nat × Int}  {x : Int64} (hd : ft m pc = some (.lload_n 0, 1, nx, X)) (k : WP d mc ms m nx (.long x :: L) (.long x :: S) σ r σ') : WP d mc ms m pc (.long x :: L) S σ r σ' := by
  intro p l e R s mi args below meth c b B D cI cZ scr Z C hZ H locs ls cells slots hH hS hL hc hs
  obtain ⟨hdec, rfl, -⟩ := ft_dec hd
  exact lv_lload_n C.1 C.2.1 hdec rfl (hL.get (k := 0) (v := .long x) rfl (fun h => by cases h)) (k p l e R s mi args below meth c b B D cI cZ scr Z C hZ H locs ls cells slots hH hS hL hc hs)
theorem wp_istore_0 {d mc ms m pc nx : Nat} {L S : List Value} {σ σ' : Sto} {r : Option Value} {X : Nat × Nat × Nat × Int}  {u : Value} {x : Int32} (hd : ft m pc = some (.istore_n 0, 1, nx, X)) (hn : 0 < ml m)  (k : WP d mc ms m nx (.int x :: L) S σ r σ') : WP d mc ms m pc (u :: L) (.int x :: S) σ r σ' := by
  intro p l e R s mi args below meth c b B D cI cZ scr Z C hZ H locs ls cells slots hH hS hL hc hs
  obtain ⟨hdec, rfl, -⟩ := ft_dec hd
  refine lv_istore_n C.1 C.2.1 hdec rfl hL hn rfl (fun ls' hl' => ?_)
  exact k p l e R s mi args below meth c b B D cI cZ scr Z C hZ H locs ls' cells slots hH hS (Lr.set1 (v := .int x) hl' (fun j w hj hw => by cases hj)) hc hs
theorem wp_astore_0 {d mc ms m pc nx : Nat} {L S : List Value} {σ σ' : Sto} {r : Option Value} {X : Nat × Nat × Nat × Int}  {u : Value} {x : Nat} (hd : ft m pc = some (.astore_n 0, 1, nx, X)) (hn : 0 < ml m)  (k : WP d mc ms m nx (.ref x :: L) S σ r σ') : WP d mc ms m pc (u :: L) (.ref x :: S) σ r σ' := by
  intro p l e R s mi args below meth c b B D cI cZ scr Z C hZ H locs ls cells slots hH hS hL hc hs
  obtain ⟨hdec, rfl, -⟩ := ft_dec hd
  refine lv_astore_n C.1 C.2.1 hdec rfl hL hn rfl (fun ls' hl' => ?_)
  exact k p l e R s mi args below meth c b B D cI cZ scr Z C hZ H locs ls' cells slots hH hS (Lr.set1 (v := .ref x) hl' (fun j w hj hw => by cases hj)) hc hs
theorem wp_lstore_0 {d mc ms m pc nx : Nat} {L S : List Value} {σ σ' : Sto} {r : Option Value} {X : Nat × Nat × Nat × Int}  {u u2 : Value} {x : Int64} (hd : ft m pc = some (.lstore_n 0, 1, nx, X)) (hn : 0 + 1 < ml m)  (k : WP d mc ms m nx (.long x :: .null :: L) S σ r σ') : WP d mc ms m pc (u :: u2 :: L) (.long x :: S) σ r σ' := by
  intro p l e R s mi args below meth c b B D cI cZ scr Z C hZ H locs ls cells slots hH hS hL hc hs
  obtain ⟨hdec, rfl, -⟩ := ft_dec hd
  refine lv_lstore_n C.1 C.2.1 hdec rfl hL hn rfl (fun ls' hl' => ?_)
  exact k p l e R s mi args below meth c b B D cI cZ scr Z C hZ H locs ls' cells slots hH hS (Lr.set2 (v := .long x) hl' (fun j w hj hw => by cases hj)) hc hs
theorem wp_iinc_0 {d mc ms m pc nx : Nat} {L S : List Value} {σ σ' : Sto} {r : Option Value} {X : Nat × Nat × Nat × Int}  {x v : Int32} {n : Int} (hd : ft m pc = some (.iinc 0 n, 3, nx, X)) (hn : 0 < ml m)  (hv : x + Int32.ofInt n = v) (k : WP d mc ms m nx (.int v :: L) S σ r σ') : WP d mc ms m pc (.int x :: L) S σ r σ' := by
  intro p l e R s mi args below meth c b B D cI cZ scr Z C hZ H locs ls cells slots hH hS hL hc hs
  obtain ⟨hdec, rfl, -⟩ := ft_dec hd
  obtain ⟨j, hj⟩ := List.getElem?_of_mem (lvo_mem (q := (0, .int x)).mpr ⟨.int x, (rfl : (Value.int x :: L)[0]? = some (.int x)), (fun h => by cases h), (rfl : Value.int x = cv b B (.int x))⟩)
  refine lv_iinc C.1 C.2.1 hdec hL hj hv hn rfl (fun ls' hl' => ?_)
  exact k p l e R s mi args below meth c b B D cI cZ scr Z C hZ H locs ls' cells slots hH hS (Lr.set1 (v := .int v) hl' (fun j w hj hw => by cases hj)) hc hs
theorem wp_iload_1 {d mc ms m pc nx : Nat} {L S : List Value} {σ σ' : Sto} {r : Option Value} {X : Nat × Nat × Nat × Int} {l0 : Value} {x : Int32} (hd : ft m pc = some (.iload_n 1, 1, nx, X)) (k : WP d mc ms m nx (l0 :: .int x :: L) (.int x :: S) σ r σ') : WP d mc ms m pc (l0 :: .int x :: L) S σ r σ' := by
  intro p l e R s mi args below meth c b B D cI cZ scr Z C hZ H locs ls cells slots hH hS hL hc hs
  obtain ⟨hdec, rfl, -⟩ := ft_dec hd
  exact lv_iload_n C.1 C.2.1 hdec rfl (hL.get (k := 1) (v := .int x) rfl (fun h => by cases h)) (k p l e R s mi args below meth c b B D cI cZ scr Z C hZ H locs ls cells slots hH hS hL hc hs)
theorem wp_aload_1 {d mc ms m pc nx : Nat} {L S : List Value} {σ σ' : Sto} {r : Option Value} {X : Nat × Nat × Nat × Int} {l0 : Value} {x : Nat} (hd : ft m pc = some (.aload_n 1, 1, nx, X)) (k : WP d mc ms m nx (l0 :: .ref x :: L) (.ref x :: S) σ r σ') : WP d mc ms m pc (l0 :: .ref x :: L) S σ r σ' := by
  intro p l e R s mi args below meth c b B D cI cZ scr Z C hZ H locs ls cells slots hH hS hL hc hs
  obtain ⟨hdec, rfl, -⟩ := ft_dec hd
  exact lv_aload_n C.1 C.2.1 hdec rfl (hL.get (k := 1) (v := .ref x) rfl (fun h => by cases h)) (k p l e R s mi args below meth c b B D cI cZ scr Z C hZ H locs ls cells slots hH hS hL hc hs)
theorem wp_lload_1 {d mc ms m pc nx : Nat} {L S : List Value} {σ σ' : Sto} {r : Option Value} {X : Nat × Nat × Nat × Int} {l0 : Value} {x : Int64} (hd : ft m pc = some (.lload_n 1, 1, nx, X)) (k : WP d mc ms m nx (l0 :: .long x :: L) (.long x :: S) σ r σ') : WP d mc ms m pc (l0 :: .long x :: L) S σ r σ' := by
  intro p l e R s mi args below meth c b B D cI cZ scr Z C hZ H locs ls cells slots hH hS hL hc hs
  obtain ⟨hdec, rfl, -⟩ := ft_dec hd
  exact lv_lload_n C.1 C.2.1 hdec rfl (hL.get (k := 1) (v := .long x) rfl (fun h => by cases h)) (k p l e R s mi args below meth c b B D cI cZ scr Z C hZ H locs ls cells slots hH hS hL hc hs)
theorem wp_istore_1 {d mc ms m pc nx : Nat} {L S : List Value} {σ σ' : Sto} {r : Option Value} {X : Nat × Nat × Nat × Int} {l0 : Value} {u : Value} {x : Int32} (hd : ft m pc = some (.istore_n 1, 1, nx, X)) (hn : 1 < ml m) (hp : l0.category = 1) (k : WP d mc ms m nx (l0 :: .int x :: L) S σ r σ') : WP d mc ms m pc (l0 :: u :: L) (.int x :: S) σ r σ' := by
  intro p l e R s mi args below meth c b B D cI cZ scr Z C hZ H locs ls cells slots hH hS hL hc hs
  obtain ⟨hdec, rfl, -⟩ := ft_dec hd
  refine lv_istore_n C.1 C.2.1 hdec rfl hL hn rfl (fun ls' hl' => ?_)
  exact k p l e R s mi args below meth c b B D cI cZ scr Z C hZ H locs ls' cells slots hH hS (Lr.set1 (v := .int x) hl' (fun j w hj hw => by cases hj; cases hw; exact hp)) hc hs
theorem wp_astore_1 {d mc ms m pc nx : Nat} {L S : List Value} {σ σ' : Sto} {r : Option Value} {X : Nat × Nat × Nat × Int} {l0 : Value} {u : Value} {x : Nat} (hd : ft m pc = some (.astore_n 1, 1, nx, X)) (hn : 1 < ml m) (hp : l0.category = 1) (k : WP d mc ms m nx (l0 :: .ref x :: L) S σ r σ') : WP d mc ms m pc (l0 :: u :: L) (.ref x :: S) σ r σ' := by
  intro p l e R s mi args below meth c b B D cI cZ scr Z C hZ H locs ls cells slots hH hS hL hc hs
  obtain ⟨hdec, rfl, -⟩ := ft_dec hd
  refine lv_astore_n C.1 C.2.1 hdec rfl hL hn rfl (fun ls' hl' => ?_)
  exact k p l e R s mi args below meth c b B D cI cZ scr Z C hZ H locs ls' cells slots hH hS (Lr.set1 (v := .ref x) hl' (fun j w hj hw => by cases hj; cases hw; exact hp)) hc hs
theorem wp_lstore_1 {d mc ms m pc nx : Nat} {L S : List Value} {σ σ' : Sto} {r : Option Value} {X : Nat × Nat × Nat × Int} {l0 : Value} {u u2 : Value} {x : Int64} (hd : ft m pc = some (.lstore_n 1, 1, nx, X)) (hn : 1 + 1 < ml m) (hp : l0.category = 1) (k : WP d mc ms m nx (l0 :: .long x :: .null :: L) S σ r σ') : WP d mc ms m pc (l0 :: u :: u2 :: L) (.long x :: S) σ r σ' := by
  intro p l e R s mi args below meth c b B D cI cZ scr Z C hZ H locs ls cells slots hH hS hL hc hs
  obtain ⟨hdec, rfl, -⟩ := ft_dec hd
  refine lv_lstore_n C.1 C.2.1 hdec rfl hL hn rfl (fun ls' hl' => ?_)
  exact k p l e R s mi args below meth c b B D cI cZ scr Z C hZ H locs ls' cells slots hH hS (Lr.set2 (v := .long x) hl' (fun j w hj hw => by cases hj; cases hw; exact hp)) hc hs
theorem wp_iinc_1 {d mc ms m pc nx : Nat} {L S : List Value} {σ σ' : Sto} {r : Option Value} {X : Nat × Nat × Nat × Int} {l0 : Value} {x v : Int32} {n : Int} (hd : ft m pc = some (.iinc 1 n, 3, nx, X)) (hn : 1 < ml m) (hp : l0.category = 1) (hv : x + Int32.ofInt n = v) (k : WP d mc ms m nx (l0 :: .int v :: L) S σ r σ') : WP d mc ms m pc (l0 :: .int x :: L) S σ r σ' := by
  intro p l e R s mi args below meth c b B D cI cZ scr Z C hZ H locs ls cells slots hH hS hL hc hs
  obtain ⟨hdec, rfl, -⟩ := ft_dec hd
  obtain ⟨j, hj⟩ := List.getElem?_of_mem (lvo_mem (q := (1, .int x)).mpr ⟨.int x, (rfl : (l0 :: Value.int x :: L)[1]? = some (.int x)), (fun h => by cases h), (rfl : Value.int x = cv b B (.int x))⟩)
  refine lv_iinc C.1 C.2.1 hdec hL hj hv hn rfl (fun ls' hl' => ?_)
  exact k p l e R s mi args below meth c b B D cI cZ scr Z C hZ H locs ls' cells slots hH hS (Lr.set1 (v := .int v) hl' (fun j w hj hw => by cases hj; cases hw; exact hp)) hc hs
theorem wp_iload_2 {d mc ms m pc nx : Nat} {L S : List Value} {σ σ' : Sto} {r : Option Value} {X : Nat × Nat × Nat × Int} {l0 l1 : Value} {x : Int32} (hd : ft m pc = some (.iload_n 2, 1, nx, X)) (k : WP d mc ms m nx (l0 :: l1 :: .int x :: L) (.int x :: S) σ r σ') : WP d mc ms m pc (l0 :: l1 :: .int x :: L) S σ r σ' := by
  intro p l e R s mi args below meth c b B D cI cZ scr Z C hZ H locs ls cells slots hH hS hL hc hs
  obtain ⟨hdec, rfl, -⟩ := ft_dec hd
  exact lv_iload_n C.1 C.2.1 hdec rfl (hL.get (k := 2) (v := .int x) rfl (fun h => by cases h)) (k p l e R s mi args below meth c b B D cI cZ scr Z C hZ H locs ls cells slots hH hS hL hc hs)
theorem wp_aload_2 {d mc ms m pc nx : Nat} {L S : List Value} {σ σ' : Sto} {r : Option Value} {X : Nat × Nat × Nat × Int} {l0 l1 : Value} {x : Nat} (hd : ft m pc = some (.aload_n 2, 1, nx, X)) (k : WP d mc ms m nx (l0 :: l1 :: .ref x :: L) (.ref x :: S) σ r σ') : WP d mc ms m pc (l0 :: l1 :: .ref x :: L) S σ r σ' := by
  intro p l e R s mi args below meth c b B D cI cZ scr Z C hZ H locs ls cells slots hH hS hL hc hs
  obtain ⟨hdec, rfl, -⟩ := ft_dec hd
  exact lv_aload_n C.1 C.2.1 hdec rfl (hL.get (k := 2) (v := .ref x) rfl (fun h => by cases h)) (k p l e R s mi args below meth c b B D cI cZ scr Z C hZ H locs ls cells slots hH hS hL hc hs)
theorem wp_lload_2 {d mc ms m pc nx : Nat} {L S : List Value} {σ σ' : Sto} {r : Option Value} {X : Nat × Nat × Nat × Int} {l0 l1 : Value} {x : Int64} (hd : ft m pc = some (.lload_n 2, 1, nx, X)) (k : WP d mc ms m nx (l0 :: l1 :: .long x :: L) (.long x :: S) σ r σ') : WP d mc ms m pc (l0 :: l1 :: .long x :: L) S σ r σ' := by
  intro p l e R s mi args below meth c b B D cI cZ scr Z C hZ H locs ls cells slots hH hS hL hc hs
  obtain ⟨hdec, rfl, -⟩ := ft_dec hd
  exact lv_lload_n C.1 C.2.1 hdec rfl (hL.get (k := 2) (v := .long x) rfl (fun h => by cases h)) (k p l e R s mi args below meth c b B D cI cZ scr Z C hZ H locs ls cells slots hH hS hL hc hs)
theorem wp_istore_2 {d mc ms m pc nx : Nat} {L S : List Value} {σ σ' : Sto} {r : Option Value} {X : Nat × Nat × Nat × Int} {l0 l1 : Value} {u : Value} {x : Int32} (hd : ft m pc = some (.istore_n 2, 1, nx, X)) (hn : 2 < ml m) (hp : l1.category = 1) (k : WP d mc ms m nx (l0 :: l1 :: .int x :: L) S σ r σ') : WP d mc ms m pc (l0 :: l1 :: u :: L) (.int x :: S) σ r σ' := by
  intro p l e R s mi args below meth c b B D cI cZ scr Z C hZ H locs ls cells slots hH hS hL hc hs
  obtain ⟨hdec, rfl, -⟩ := ft_dec hd
  refine lv_istore_n C.1 C.2.1 hdec rfl hL hn rfl (fun ls' hl' => ?_)
  exact k p l e R s mi args below meth c b B D cI cZ scr Z C hZ H locs ls' cells slots hH hS (Lr.set1 (v := .int x) hl' (fun j w hj hw => by cases hj; cases hw; exact hp)) hc hs
theorem wp_astore_2 {d mc ms m pc nx : Nat} {L S : List Value} {σ σ' : Sto} {r : Option Value} {X : Nat × Nat × Nat × Int} {l0 l1 : Value} {u : Value} {x : Nat} (hd : ft m pc = some (.astore_n 2, 1, nx, X)) (hn : 2 < ml m) (hp : l1.category = 1) (k : WP d mc ms m nx (l0 :: l1 :: .ref x :: L) S σ r σ') : WP d mc ms m pc (l0 :: l1 :: u :: L) (.ref x :: S) σ r σ' := by
  intro p l e R s mi args below meth c b B D cI cZ scr Z C hZ H locs ls cells slots hH hS hL hc hs
  obtain ⟨hdec, rfl, -⟩ := ft_dec hd
  refine lv_astore_n C.1 C.2.1 hdec rfl hL hn rfl (fun ls' hl' => ?_)
  exact k p l e R s mi args below meth c b B D cI cZ scr Z C hZ H locs ls' cells slots hH hS (Lr.set1 (v := .ref x) hl' (fun j w hj hw => by cases hj; cases hw; exact hp)) hc hs
theorem wp_lstore_2 {d mc ms m pc nx : Nat} {L S : List Value} {σ σ' : Sto} {r : Option Value} {X : Nat × Nat × Nat × Int} {l0 l1 : Value} {u u2 : Value} {x : Int64} (hd : ft m pc = some (.lstore_n 2, 1, nx, X)) (hn : 2 + 1 < ml m) (hp : l1.category = 1) (k : WP d mc ms m nx (l0 :: l1 :: .long x :: .null :: L) S σ r σ') : WP d mc ms m pc (l0 :: l1 :: u :: u2 :: L) (.long x :: S) σ r σ' := by
  intro p l e R s mi args below meth c b B D cI cZ scr Z C hZ H locs ls cells slots hH hS hL hc hs
  obtain ⟨hdec, rfl, -⟩ := ft_dec hd
  refine lv_lstore_n C.1 C.2.1 hdec rfl hL hn rfl (fun ls' hl' => ?_)
  exact k p l e R s mi args below meth c b B D cI cZ scr Z C hZ H locs ls' cells slots hH hS (Lr.set2 (v := .long x) hl' (fun j w hj hw => by cases hj; cases hw; exact hp)) hc hs
theorem wp_iinc_2 {d mc ms m pc nx : Nat} {L S : List Value} {σ σ' : Sto} {r : Option Value} {X : Nat × Nat × Nat × Int} {l0 l1 : Value} {x v : Int32} {n : Int} (hd : ft m pc = some (.iinc 2 n, 3, nx, X)) (hn : 2 < ml m) (hp : l1.category = 1) (hv : x + Int32.ofInt n = v) (k : WP d mc ms m nx (l0 :: l1 :: .int v :: L) S σ r σ') : WP d mc ms m pc (l0 :: l1 :: .int x :: L) S σ r σ' := by
  intro p l e R s mi args below meth c b B D cI cZ scr Z C hZ H locs ls cells slots hH hS hL hc hs
  obtain ⟨hdec, rfl, -⟩ := ft_dec hd
  obtain ⟨j, hj⟩ := List.getElem?_of_mem (lvo_mem (q := (2, .int x)).mpr ⟨.int x, (rfl : (l0 :: l1 :: Value.int x :: L)[2]? = some (.int x)), (fun h => by cases h), (rfl : Value.int x = cv b B (.int x))⟩)
  refine lv_iinc C.1 C.2.1 hdec hL hj hv hn rfl (fun ls' hl' => ?_)
  exact k p l e R s mi args below meth c b B D cI cZ scr Z C hZ H locs ls' cells slots hH hS (Lr.set1 (v := .int v) hl' (fun j w hj hw => by cases hj; cases hw; exact hp)) hc hs
theorem wp_iload_3 {d mc ms m pc nx : Nat} {L S : List Value} {σ σ' : Sto} {r : Option Value} {X : Nat × Nat × Nat × Int} {l0 l1 l2 : Value} {x : Int32} (hd : ft m pc = some (.iload_n 3, 1, nx, X)) (k : WP d mc ms m nx (l0 :: l1 :: l2 :: .int x :: L) (.int x :: S) σ r σ') : WP d mc ms m pc (l0 :: l1 :: l2 :: .int x :: L) S σ r σ' := by
  intro p l e R s mi args below meth c b B D cI cZ scr Z C hZ H locs ls cells slots hH hS hL hc hs
  obtain ⟨hdec, rfl, -⟩ := ft_dec hd
  exact lv_iload_n C.1 C.2.1 hdec rfl (hL.get (k := 3) (v := .int x) rfl (fun h => by cases h)) (k p l e R s mi args below meth c b B D cI cZ scr Z C hZ H locs ls cells slots hH hS hL hc hs)
theorem wp_aload_3 {d mc ms m pc nx : Nat} {L S : List Value} {σ σ' : Sto} {r : Option Value} {X : Nat × Nat × Nat × Int} {l0 l1 l2 : Value} {x : Nat} (hd : ft m pc = some (.aload_n 3, 1, nx, X)) (k : WP d mc ms m nx (l0 :: l1 :: l2 :: .ref x :: L) (.ref x :: S) σ r σ') : WP d mc ms m pc (l0 :: l1 :: l2 :: .ref x :: L) S σ r σ' := by
  intro p l e R s mi args below meth c b B D cI cZ scr Z C hZ H locs ls cells slots hH hS hL hc hs
  obtain ⟨hdec, rfl, -⟩ := ft_dec hd
  exact lv_aload_n C.1 C.2.1 hdec rfl (hL.get (k := 3) (v := .ref x) rfl (fun h => by cases h)) (k p l e R s mi args below meth c b B D cI cZ scr Z C hZ H locs ls cells slots hH hS hL hc hs)
theorem wp_lload_3 {d mc ms m pc nx : Nat} {L S : List Value} {σ σ' : Sto} {r : Option Value} {X : Nat × Nat × Nat × Int} {l0 l1 l2 : Value} {x : Int64} (hd : ft m pc = some (.lload_n 3, 1, nx, X)) (k : WP d mc ms m nx (l0 :: l1 :: l2 :: .long x :: L) (.long x :: S) σ r σ') : WP d mc ms m pc (l0 :: l1 :: l2 :: .long x :: L) S σ r σ' := by
  intro p l e R s mi args below meth c b B D cI cZ scr Z C hZ H locs ls cells slots hH hS hL hc hs
  obtain ⟨hdec, rfl, -⟩ := ft_dec hd
  exact lv_lload_n C.1 C.2.1 hdec rfl (hL.get (k := 3) (v := .long x) rfl (fun h => by cases h)) (k p l e R s mi args below meth c b B D cI cZ scr Z C hZ H locs ls cells slots hH hS hL hc hs)
theorem wp_istore_3 {d mc ms m pc nx : Nat} {L S : List Value} {σ σ' : Sto} {r : Option Value} {X : Nat × Nat × Nat × Int} {l0 l1 l2 : Value} {u : Value} {x : Int32} (hd : ft m pc = some (.istore_n 3, 1, nx, X)) (hn : 3 < ml m) (hp : l2.category = 1) (k : WP d mc ms m nx (l0 :: l1 :: l2 :: .int x :: L) S σ r σ') : WP d mc ms m pc (l0 :: l1 :: l2 :: u :: L) (.int x :: S) σ r σ' := by
  intro p l e R s mi args below meth c b B D cI cZ scr Z C hZ H locs ls cells slots hH hS hL hc hs
  obtain ⟨hdec, rfl, -⟩ := ft_dec hd
  refine lv_istore_n C.1 C.2.1 hdec rfl hL hn rfl (fun ls' hl' => ?_)
  exact k p l e R s mi args below meth c b B D cI cZ scr Z C hZ H locs ls' cells slots hH hS (Lr.set1 (v := .int x) hl' (fun j w hj hw => by cases hj; cases hw; exact hp)) hc hs
theorem wp_astore_3 {d mc ms m pc nx : Nat} {L S : List Value} {σ σ' : Sto} {r : Option Value} {X : Nat × Nat × Nat × Int} {l0 l1 l2 : Value} {u : Value} {x : Nat} (hd : ft m pc = some (.astore_n 3, 1, nx, X)) (hn : 3 < ml m) (hp : l2.category = 1) (k : WP d mc ms m nx (l0 :: l1 :: l2 :: .ref x :: L) S σ r σ') : WP d mc ms m pc (l0 :: l1 :: l2 :: u :: L) (.ref x :: S) σ r σ' := by
  intro p l e R s mi args below meth c b B D cI cZ scr Z C hZ H locs ls cells slots hH hS hL hc hs
  obtain ⟨hdec, rfl, -⟩ := ft_dec hd
  refine lv_astore_n C.1 C.2.1 hdec rfl hL hn rfl (fun ls' hl' => ?_)
  exact k p l e R s mi args below meth c b B D cI cZ scr Z C hZ H locs ls' cells slots hH hS (Lr.set1 (v := .ref x) hl' (fun j w hj hw => by cases hj; cases hw; exact hp)) hc hs
theorem wp_iinc_3 {d mc ms m pc nx : Nat} {L S : List Value} {σ σ' : Sto} {r : Option Value} {X : Nat × Nat × Nat × Int} {l0 l1 l2 : Value} {x v : Int32} {n : Int} (hd : ft m pc = some (.iinc 3 n, 3, nx, X)) (hn : 3 < ml m) (hp : l2.category = 1) (hv : x + Int32.ofInt n = v) (k : WP d mc ms m nx (l0 :: l1 :: l2 :: .int v :: L) S σ r σ') : WP d mc ms m pc (l0 :: l1 :: l2 :: .int x :: L) S σ r σ' := by
  intro p l e R s mi args below meth c b B D cI cZ scr Z C hZ H locs ls cells slots hH hS hL hc hs
  obtain ⟨hdec, rfl, -⟩ := ft_dec hd
  obtain ⟨j, hj⟩ := List.getElem?_of_mem (lvo_mem (q := (3, .int x)).mpr ⟨.int x, (rfl : (l0 :: l1 :: l2 :: Value.int x :: L)[3]? = some (.int x)), (fun h => by cases h), (rfl : Value.int x = cv b B (.int x))⟩)
  refine lv_iinc C.1 C.2.1 hdec hL hj hv hn rfl (fun ls' hl' => ?_)
  exact k p l e R s mi args below meth c b B D cI cZ scr Z C hZ H locs ls' cells slots hH hS (Lr.set1 (v := .int v) hl' (fun j w hj hw => by cases hj; cases hw; exact hp)) hc hs
theorem wp_iload_4 {d mc ms m pc nx : Nat} {L S : List Value} {σ σ' : Sto} {r : Option Value} {X : Nat × Nat × Nat × Int} {l0 l1 l2 l3 : Value} {x : Int32} (hd : ft m pc = some (.iload 4, 2, nx, X)) (k : WP d mc ms m nx (l0 :: l1 :: l2 :: l3 :: .int x :: L) (.int x :: S) σ r σ') : WP d mc ms m pc (l0 :: l1 :: l2 :: l3 :: .int x :: L) S σ r σ' := by
  intro p l e R s mi args below meth c b B D cI cZ scr Z C hZ H locs ls cells slots hH hS hL hc hs
  obtain ⟨hdec, rfl, -⟩ := ft_dec hd
  exact lv_iload C.1 C.2.1 hdec (hL.get (k := 4) (v := .int x) rfl (fun h => by cases h)) (k p l e R s mi args below meth c b B D cI cZ scr Z C hZ H locs ls cells slots hH hS hL hc hs)
theorem wp_aload_4 {d mc ms m pc nx : Nat} {L S : List Value} {σ σ' : Sto} {r : Option Value} {X : Nat × Nat × Nat × Int} {l0 l1 l2 l3 : Value} {x : Nat} (hd : ft m pc = some (.aload 4, 2, nx, X)) (k : WP d mc ms m nx (l0 :: l1 :: l2 :: l3 :: .ref x :: L) (.ref x :: S) σ r σ') : WP d mc ms m pc (l0 :: l1 :: l2 :: l3 :: .ref x :: L) S σ r σ' := by
  intro p l e R s mi args below meth c b B D cI cZ scr Z C hZ H locs ls cells slots hH hS hL hc hs
  obtain ⟨hdec, rfl, -⟩ := ft_dec hd
  exact lv_aload C.1 C.2.1 hdec (hL.get (k := 4) (v := .ref x) rfl (fun h => by cases h)) (k p l e R s mi args below meth c b B D cI cZ scr Z C hZ H locs ls cells slots hH hS hL hc hs)
theorem wp_lload_4 {d mc ms m pc nx : Nat} {L S : List Value} {σ σ' : Sto} {r : Option Value} {X : Nat × Nat × Nat × Int} {l0 l1 l2 l3 : Value} {x : Int64} (hd : ft m pc = some (.lload 4, 2, nx, X)) (k : WP d mc ms m nx (l0 :: l1 :: l2 :: l3 :: .long x :: L) (.long x :: S) σ r σ') : WP d mc ms m pc (l0 :: l1 :: l2 :: l3 :: .long x :: L) S σ r σ' := by
  intro p l e R s mi args below meth c b B D cI cZ scr Z C hZ H locs ls cells slots hH hS hL hc hs
  obtain ⟨hdec, rfl, -⟩ := ft_dec hd
  exact lv_lload C.1 C.2.1 hdec (hL.get (k := 4) (v := .long x) rfl (fun h => by cases h)) (k p l e R s mi args below meth c b B D cI cZ scr Z C hZ H locs ls cells slots hH hS hL hc hs)
theorem wp_istore_4 {d mc ms m pc nx : Nat} {L S : List Value} {σ σ' : Sto} {r : Option Value} {X : Nat × Nat × Nat × Int} {l0 l1 l2 l3 : Value} {u : Value} {x : Int32} (hd : ft m pc = some (.istore 4, 2, nx, X)) (hn : 4 < ml m) (hp : l3.category = 1) (k : WP d mc ms m nx (l0 :: l1 :: l2 :: l3 :: .int x :: L) S σ r σ') : WP d mc ms m pc (l0 :: l1 :: l2 :: l3 :: u :: L) (.int x :: S) σ r σ' := by
  intro p l e R s mi args below meth c b B D cI cZ scr Z C hZ H locs ls cells slots hH hS hL hc hs
  obtain ⟨hdec, rfl, -⟩ := ft_dec hd
  refine lv_istore C.1 C.2.1 hdec hL hn rfl (fun ls' hl' => ?_)
  exact k p l e R s mi args below meth c b B D cI cZ scr Z C hZ H locs ls' cells slots hH hS (Lr.set1 (v := .int x) hl' (fun j w hj hw => by cases hj; cases hw; exact hp)) hc hs
theorem wp_iinc_4 {d mc ms m pc nx : Nat} {L S : List Value} {σ σ' : Sto} {r : Option Value} {X : Nat × Nat × Nat × Int} {l0 l1 l2 l3 : Value} {x v : Int32} {n : Int} (hd : ft m pc = some (.iinc 4 n, 3, nx, X)) (hn : 4 < ml m) (hp : l3.category = 1) (hv : x + Int32.ofInt n = v) (k : WP d mc ms m nx (l0 :: l1 :: l2 :: l3 :: .int v :: L) S σ r σ') : WP d mc ms m pc (l0 :: l1 :: l2 :: l3 :: .int x :: L) S σ r σ' := by
  intro p l e R s mi args below meth c b B D cI cZ scr Z C hZ H locs ls cells slots hH hS hL hc hs
  obtain ⟨hdec, rfl, -⟩ := ft_dec hd
  obtain ⟨j, hj⟩ := List.getElem?_of_mem (lvo_mem (q := (4, .int x)).mpr ⟨.int x, (rfl : (l0 :: l1 :: l2 :: l3 :: Value.int x :: L)[4]? = some (.int x)), (fun h => by cases h), (rfl : Value.int x = cv b B (.int x))⟩)
  refine lv_iinc C.1 C.2.1 hdec hL hj hv hn rfl (fun ls' hl' => ?_)
  exact k p l e R s mi args below meth c b B D cI cZ scr Z C hZ H locs ls' cells slots hH hS (Lr.set1 (v := .int v) hl' (fun j w hj hw => by cases hj; cases hw; exact hp)) hc hs
theorem wp_iload_5 {d mc ms m pc nx : Nat} {L S : List Value} {σ σ' : Sto} {r : Option Value} {X : Nat × Nat × Nat × Int} {l0 l1 l2 l3 l4 : Value} {x : Int32} (hd : ft m pc = some (.iload 5, 2, nx, X)) (k : WP d mc ms m nx (l0 :: l1 :: l2 :: l3 :: l4 :: .int x :: L) (.int x :: S) σ r σ') : WP d mc ms m pc (l0 :: l1 :: l2 :: l3 :: l4 :: .int x :: L) S σ r σ' := by
  intro p l e R s mi args below meth c b B D cI cZ scr Z C hZ H locs ls cells slots hH hS hL hc hs
  obtain ⟨hdec, rfl, -⟩ := ft_dec hd
  exact lv_iload C.1 C.2.1 hdec (hL.get (k := 5) (v := .int x) rfl (fun h => by cases h)) (k p l e R s mi args below meth c b B D cI cZ scr Z C hZ H locs ls cells slots hH hS hL hc hs)
theorem wp_aload_5 {d mc ms m pc nx : Nat} {L S : List Value} {σ σ' : Sto} {r : Option Value} {X : Nat × Nat × Nat × Int} {l0 l1 l2 l3 l4 : Value} {x : Nat} (hd : ft m pc = some (.aload 5, 2, nx, X)) (k : WP d mc ms m nx (l0 :: l1 :: l2 :: l3 :: l4 :: .ref x :: L) (.ref x :: S) σ r σ') : WP d mc ms m pc (l0 :: l1 :: l2 :: l3 :: l4 :: .ref x :: L) S σ r σ' := by
  intro p l e R s mi args below meth c b B D cI cZ scr Z C hZ H locs ls cells slots hH hS hL hc hs
  obtain ⟨hdec, rfl, -⟩ := ft_dec hd
  exact lv_aload C.1 C.2.1 hdec (hL.get (k := 5) (v := .ref x) rfl (fun h => by cases h)) (k p l e R s mi args below meth c b B D cI cZ scr Z C hZ H locs ls cells slots hH hS hL hc hs)
theorem wp_istore_5 {d mc ms m pc nx : Nat} {L S : List Value} {σ σ' : Sto} {r : Option Value} {X : Nat × Nat × Nat × Int} {l0 l1 l2 l3 l4 : Value} {u : Value} {x : Int32} (hd : ft m pc = some (.istore 5, 2, nx, X)) (hn : 5 < ml m) (hp : l4.category = 1) (k : WP d mc ms m nx (l0 :: l1 :: l2 :: l3 :: l4 :: .int x :: L) S σ r σ') : WP d mc ms m pc (l0 :: l1 :: l2 :: l3 :: l4 :: u :: L) (.int x :: S) σ r σ' := by
  intro p l e R s mi args below meth c b B D cI cZ scr Z C hZ H locs ls cells slots hH hS hL hc hs
  obtain ⟨hdec, rfl, -⟩ := ft_dec hd
  refine lv_istore C.1 C.2.1 hdec hL hn rfl (fun ls' hl' => ?_)
  exact k p l e R s mi args below meth c b B D cI cZ scr Z C hZ H locs ls' cells slots hH hS (Lr.set1 (v := .int x) hl' (fun j w hj hw => by cases hj; cases hw; exact hp)) hc hs
theorem wp_iinc_5 {d mc ms m pc nx : Nat} {L S : List Value} {σ σ' : Sto} {r : Option Value} {X : Nat × Nat × Nat × Int} {l0 l1 l2 l3 l4 : Value} {x v : Int32} {n : Int} (hd : ft m pc = some (.iinc 5 n, 3, nx, X)) (hn : 5 < ml m) (hp : l4.category = 1) (hv : x + Int32.ofInt n = v) (k : WP d mc ms m nx (l0 :: l1 :: l2 :: l3 :: l4 :: .int v :: L) S σ r σ') : WP d mc ms m pc (l0 :: l1 :: l2 :: l3 :: l4 :: .int x :: L) S σ r σ' := by
  intro p l e R s mi args below meth c b B D cI cZ scr Z C hZ H locs ls cells slots hH hS hL hc hs
  obtain ⟨hdec, rfl, -⟩ := ft_dec hd
  obtain ⟨j, hj⟩ := List.getElem?_of_mem (lvo_mem (q := (5, .int x)).mpr ⟨.int x, (rfl : (l0 :: l1 :: l2 :: l3 :: l4 :: Value.int x :: L)[5]? = some (.int x)), (fun h => by cases h), (rfl : Value.int x = cv b B (.int x))⟩)
  refine lv_iinc C.1 C.2.1 hdec hL hj hv hn rfl (fun ls' hl' => ?_)
  exact k p l e R s mi args below meth c b B D cI cZ scr Z C hZ H locs ls' cells slots hH hS (Lr.set1 (v := .int v) hl' (fun j w hj hw => by cases hj; cases hw; exact hp)) hc hs
theorem wp_iload_6 {d mc ms m pc nx : Nat} {L S : List Value} {σ σ' : Sto} {r : Option Value} {X : Nat × Nat × Nat × Int} {l0 l1 l2 l3 l4 l5 : Value} {x : Int32} (hd : ft m pc = some (.iload 6, 2, nx, X)) (k : WP d mc ms m nx (l0 :: l1 :: l2 :: l3 :: l4 :: l5 :: .int x :: L) (.int x :: S) σ r σ') : WP d mc ms m pc (l0 :: l1 :: l2 :: l3 :: l4 :: l5 :: .int x :: L) S σ r σ' := by
  intro p l e R s mi args below meth c b B D cI cZ scr Z C hZ H locs ls cells slots hH hS hL hc hs
  obtain ⟨hdec, rfl, -⟩ := ft_dec hd
  exact lv_iload C.1 C.2.1 hdec (hL.get (k := 6) (v := .int x) rfl (fun h => by cases h)) (k p l e R s mi args below meth c b B D cI cZ scr Z C hZ H locs ls cells slots hH hS hL hc hs)
theorem wp_aload_6 {d mc ms m pc nx : Nat} {L S : List Value} {σ σ' : Sto} {r : Option Value} {X : Nat × Nat × Nat × Int} {l0 l1 l2 l3 l4 l5 : Value} {x : Nat} (hd : ft m pc = some (.aload 6, 2, nx, X)) (k : WP d mc ms m nx (l0 :: l1 :: l2 :: l3 :: l4 :: l5 :: .ref x :: L) (.ref x :: S) σ r σ') : WP d mc ms m pc (l0 :: l1 :: l2 :: l3 :: l4 :: l5 :: .ref x :: L) S σ r σ' := by
  intro p l e R s mi args below meth c b B D cI cZ scr Z C hZ H locs ls cells slots hH hS hL hc hs
  obtain ⟨hdec, rfl, -⟩ := ft_dec hd
  exact lv_aload C.1 C.2.1 hdec (hL.get (k := 6) (v := .ref x) rfl (fun h => by cases h)) (k p l e R s mi args below meth c b B D cI cZ scr Z C hZ H locs ls cells slots hH hS hL hc hs)
theorem wp_istore_6 {d mc ms m pc nx : Nat} {L S : List Value} {σ σ' : Sto} {r : Option Value} {X : Nat × Nat × Nat × Int} {l0 l1 l2 l3 l4 l5 : Value} {u : Value} {x : Int32} (hd : ft m pc = some (.istore 6, 2, nx, X)) (hn : 6 < ml m) (hp : l5.category = 1) (k : WP d mc ms m nx (l0 :: l1 :: l2 :: l3 :: l4 :: l5 :: .int x :: L) S σ r σ') : WP d mc ms m pc (l0 :: l1 :: l2 :: l3 :: l4 :: l5 :: u :: L) (.int x :: S) σ r σ' := by
  intro p l e R s mi args below meth c b B D cI cZ scr Z C hZ H locs ls cells slots hH hS hL hc hs
  obtain ⟨hdec, rfl, -⟩ := ft_dec hd
  refine lv_istore C.1 C.2.1 hdec hL hn rfl (fun ls' hl' => ?_)
  exact k p l e R s mi args below meth c b B D cI cZ scr Z C hZ H locs ls' cells slots hH hS (Lr.set1 (v := .int x) hl' (fun j w hj hw => by cases hj; cases hw; exact hp)) hc hs
theorem wp_iinc_6 {d mc ms m pc nx : Nat} {L S : List Value} {σ σ' : Sto} {r : Option Value} {X : Nat × Nat × Nat × Int} {l0 l1 l2 l3 l4 l5 : Value} {x v : Int32} {n : Int} (hd : ft m pc = some (.iinc 6 n, 3, nx, X)) (hn : 6 < ml m) (hp : l5.category = 1) (hv : x + Int32.ofInt n = v) (k : WP d mc ms m nx (l0 :: l1 :: l2 :: l3 :: l4 :: l5 :: .int v :: L) S σ r σ') : WP d mc ms m pc (l0 :: l1 :: l2 :: l3 :: l4 :: l5 :: .int x :: L) S σ r σ' := by
  intro p l e R s mi args below meth c b B D cI cZ scr Z C hZ H locs ls cells slots hH hS hL hc hs
  obtain ⟨hdec, rfl, -⟩ := ft_dec hd
  obtain ⟨j, hj⟩ := List.getElem?_of_mem (lvo_mem (q := (6, .int x)).mpr ⟨.int x, (rfl : (l0 :: l1 :: l2 :: l3 :: l4 :: l5 :: Value.int x :: L)[6]? = some (.int x)), (fun h => by cases h), (rfl : Value.int x = cv b B (.int x))⟩)
  refine lv_iinc C.1 C.2.1 hdec hL hj hv hn rfl (fun ls' hl' => ?_)
  exact k p l e R s mi args below meth c b B D cI cZ scr Z C hZ H locs ls' cells slots hH hS (Lr.set1 (v := .int v) hl' (fun j w hj hw => by cases hj; cases hw; exact hp)) hc hs
theorem wp_iload_7 {d mc ms m pc nx : Nat} {L S : List Value} {σ σ' : Sto} {r : Option Value} {X : Nat × Nat × Nat × Int} {l0 l1 l2 l3 l4 l5 l6 : Value} {x : Int32} (hd : ft m pc = some (.iload 7, 2, nx, X)) (k : WP d mc ms m nx (l0 :: l1 :: l2 :: l3 :: l4 :: l5 :: l6 :: .int x :: L) (.int x :: S) σ r σ') : WP d mc ms m pc (l0 :: l1 :: l2 :: l3 :: l4 :: l5 :: l6 :: .int x :: L) S σ r σ' := by
  intro p l e R s mi args below meth c b B D cI cZ scr Z C hZ H locs ls cells slots hH hS hL hc hs
  obtain ⟨hdec, rfl, -⟩ := ft_dec hd
  exact lv_iload C.1 C.2.1 hdec (hL.get (k := 7) (v := .int x) rfl (fun h => by cases h)) (k p l e R s mi args below meth c b B D cI cZ scr Z C hZ H locs ls cells slots hH hS hL hc hs)
theorem wp_aload_7 {d mc ms m pc nx : Nat} {L S : List Value} {σ σ' : Sto} {r : Option Value} {X : Nat × Nat × Nat × Int} {l0 l1 l2 l3 l4 l5 l6 : Value} {x : Nat} (hd : ft m pc = some (.aload 7, 2, nx, X)) (k : WP d mc ms m nx (l0 :: l1 :: l2 :: l3 :: l4 :: l5 :: l6 :: .ref x :: L) (.ref x :: S) σ r σ') : WP d mc ms m pc (l0 :: l1 :: l2 :: l3 :: l4 :: l5 :: l6 :: .ref x :: L) S σ r σ' := by
  intro p l e R s mi args below meth c b B D cI cZ scr Z C hZ H locs ls cells slots hH hS hL hc hs
  obtain ⟨hdec, rfl, -⟩ := ft_dec hd
  exact lv_aload C.1 C.2.1 hdec (hL.get (k := 7) (v := .ref x) rfl (fun h => by cases h)) (k p l e R s mi args below meth c b B D cI cZ scr Z C hZ H locs ls cells slots hH hS hL hc hs)
theorem wp_istore_7 {d mc ms m pc nx : Nat} {L S : List Value} {σ σ' : Sto} {r : Option Value} {X : Nat × Nat × Nat × Int} {l0 l1 l2 l3 l4 l5 l6 : Value} {u : Value} {x : Int32} (hd : ft m pc = some (.istore 7, 2, nx, X)) (hn : 7 < ml m) (hp : l6.category = 1) (k : WP d mc ms m nx (l0 :: l1 :: l2 :: l3 :: l4 :: l5 :: l6 :: .int x :: L) S σ r σ') : WP d mc ms m pc (l0 :: l1 :: l2 :: l3 :: l4 :: l5 :: l6 :: u :: L) (.int x :: S) σ r σ' := by
  intro p l e R s mi args below meth c b B D cI cZ scr Z C hZ H locs ls cells slots hH hS hL hc hs
  obtain ⟨hdec, rfl, -⟩ := ft_dec hd
  refine lv_istore C.1 C.2.1 hdec hL hn rfl (fun ls' hl' => ?_)
  exact k p l e R s mi args below meth c b B D cI cZ scr Z C hZ H locs ls' cells slots hH hS (Lr.set1 (v := .int x) hl' (fun j w hj hw => by cases hj; cases hw; exact hp)) hc hs
theorem wp_iinc_7 {d mc ms m pc nx : Nat} {L S : List Value} {σ σ' : Sto} {r : Option Value} {X : Nat × Nat × Nat × Int} {l0 l1 l2 l3 l4 l5 l6 : Value} {x v : Int32} {n : Int} (hd : ft m pc = some (.iinc 7 n, 3, nx, X)) (hn : 7 < ml m) (hp : l6.category = 1) (hv : x + Int32.ofInt n = v) (k : WP d mc ms m nx (l0 :: l1 :: l2 :: l3 :: l4 :: l5 :: l6 :: .int v :: L) S σ r σ') : WP d mc ms m pc (l0 :: l1 :: l2 :: l3 :: l4 :: l5 :: l6 :: .int x :: L) S σ r σ' := by
  intro p l e R s mi args below meth c b B D cI cZ scr Z C hZ H locs ls cells slots hH hS hL hc hs
  obtain ⟨hdec, rfl, -⟩ := ft_dec hd
  obtain ⟨j, hj⟩ := List.getElem?_of_mem (lvo_mem (q := (7, .int x)).mpr ⟨.int x, (rfl : (l0 :: l1 :: l2 :: l3 :: l4 :: l5 :: l6 :: Value.int x :: L)[7]? = some (.int x)), (fun h => by cases h), (rfl : Value.int x = cv b B (.int x))⟩)
  refine lv_iinc C.1 C.2.1 hdec hL hj hv hn rfl (fun ls' hl' => ?_)
  exact k p l e R s mi args below meth c b B D cI cZ scr Z C hZ H locs ls' cells slots hH hS (Lr.set1 (v := .int v) hl' (fun j w hj hw => by cases hj; cases hw; exact hp)) hc hs
theorem wp_iload_8 {d mc ms m pc nx : Nat} {L S : List Value} {σ σ' : Sto} {r : Option Value} {X : Nat × Nat × Nat × Int} {l0 l1 l2 l3 l4 l5 l6 l7 : Value} {x : Int32} (hd : ft m pc = some (.iload 8, 2, nx, X)) (k : WP d mc ms m nx (l0 :: l1 :: l2 :: l3 :: l4 :: l5 :: l6 :: l7 :: .int x :: L) (.int x :: S) σ r σ') : WP d mc ms m pc (l0 :: l1 :: l2 :: l3 :: l4 :: l5 :: l6 :: l7 :: .int x :: L) S σ r σ' := by
  intro p l e R s mi args below meth c b B D cI cZ scr Z C hZ H locs ls cells slots hH hS hL hc hs
  obtain ⟨hdec, rfl, -⟩ := ft_dec hd
  exact lv_iload C.1 C.2.1 hdec (hL.get (k := 8) (v := .int x) rfl (fun h => by cases h)) (k p l e R s mi args below meth c b B D cI cZ scr Z C hZ H locs ls cells slots hH hS hL hc hs)
theorem wp_aload_8 {d mc ms m pc nx : Nat} {L S : List Value} {σ σ' : Sto} {r : Option Value} {X : Nat × Nat × Nat × Int} {l0 l1 l2 l3 l4 l5 l6 l7 : Value} {x : Nat} (hd : ft m pc = some (.aload 8, 2, nx, X)) (k : WP d mc ms m nx (l0 :: l1 :: l2 :: l3 :: l4 :: l5 :: l6 :: l7 :: .ref x :: L) (.ref x :: S) σ r σ') : WP d mc ms m pc (l0 :: l1 :: l2 :: l3 :: l4 :: l5 :: l6 :: l7 :: .ref x :: L) S σ r σ' := by
  intro p l e R s mi args below meth c b B D cI cZ scr Z C hZ H locs ls cells slots hH hS hL hc hs
  obtain ⟨hdec, rfl, -⟩ := ft_dec hd
  exact lv_aload C.1 C.2.1 hdec (hL.get (k := 8) (v := .ref x) rfl (fun h => by cases h)) (k p l e R s mi args below meth c b B D cI cZ scr Z C hZ H locs ls cells slots hH hS hL hc hs)
theorem wp_istore_8 {d mc ms m pc nx : Nat} {L S : List Value} {σ σ' : Sto} {r : Option Value} {X : Nat × Nat × Nat × Int} {l0 l1 l2 l3 l4 l5 l6 l7 : Value} {u : Value} {x : Int32} (hd : ft m pc = some (.istore 8, 2, nx, X)) (hn : 8 < ml m) (hp : l7.category = 1) (k : WP d mc ms m nx (l0 :: l1 :: l2 :: l3 :: l4 :: l5 :: l6 :: l7 :: .int x :: L) S σ r σ') : WP d mc ms m pc (l0 :: l1 :: l2 :: l3 :: l4 :: l5 :: l6 :: l7 :: u :: L) (.int x :: S) σ r σ' := by
  intro p l e R s mi args below meth c b B D cI cZ scr Z C hZ H locs ls cells slots hH hS hL hc hs
  obtain ⟨hdec, rfl, -⟩ := ft_dec hd
  refine lv_istore C.1 C.2.1 hdec hL hn rfl (fun ls' hl' => ?_)
  exact k p l e R s mi args below meth c b B D cI cZ scr Z C hZ H locs ls' cells slots hH hS (Lr.set1 (v := .int x) hl' (fun j w hj hw => by cases hj; cases hw; exact hp)) hc hs
theorem wp_iinc_8 {d mc ms m pc nx : Nat} {L S : List Value} {σ σ' : Sto} {r : Option Value} {X : Nat × Nat × Nat × Int} {l0 l1 l2 l3 l4 l5 l6 l7 : Value} {x v : Int32} {n : Int} (hd : ft m pc = some (.iinc 8 n, 3, nx, X)) (hn : 8 < ml m) (hp : l7.category = 1) (hv : x + Int32.ofInt n = v) (k : WP d mc ms m nx (l0 :: l1 :: l2 :: l3 :: l4 :: l5 :: l6 :: l7 :: .int v :: L) S σ r σ') : WP d mc ms m pc (l0 :: l1 :: l2 :: l3 :: l4 :: l5 :: l6 :: l7 :: .int x :: L) S σ r σ' := by
  intro p l e R s mi args below meth c b B D cI cZ scr Z C hZ H locs ls cells slots hH hS hL hc hs
  obtain ⟨hdec, rfl, -⟩ := ft_dec hd
  obtain ⟨j, hj⟩ := List.getElem?_of_mem (lvo_mem (q := (8, .int x)).mpr ⟨.int x, (rfl : (l0 :: l1 :: l2 :: l3 :: l4 :: l5 :: l6 :: l7 :: Value.int x :: L)[8]? = some (.int x)), (fun h => by cases h), (rfl : Value.int x = cv b B (.int x))⟩)
  refine lv_iinc C.1 C.2.1 hdec hL hj hv hn rfl (fun ls' hl' => ?_)
  exact k p l e R s mi args below meth c b B D cI cZ scr Z C hZ H locs ls' cells slots hH hS (Lr.set1 (v := .int v) hl' (fun j w hj hw => by cases hj; cases hw; exact hp)) hc hs
end
section

section MEM
variable {p : Program} {l : Launch} {e : Env} {R : Room} {s : State} {m : MethodId} {args : Array Value} {below : List Frame} {meth : Method} {c : Code} {H : Heap} {locs : List Loc} {cells slots : Nat} {Q : State → Prop}
variable {cc : ByteArray} {pc : Nat} {ls : Array Slot} {rest : List Value} {D : va_G} {cl : List vw_C} {A : Nat → Prop} {a : Nat} {tys : List (ClassId × FieldType)} {ws : va_W} {H0 : Heap}
theorem my_put (hexec : p.tables.exec = Jvm.exec) (hb : c.code = cc) {own ref C : String} {T : u_T} {N ci index : Nat} {Ts : List Cond} (hts : ∀ w ∈ Ts, w.before args s = true) (hin : ∀ w ∈ u_ws C T N, w ∈ Ts) (ty0 : Nat → FieldType) (hty : ∀ k, k < N → parseFieldDescriptor (T k).2.2.1 = some (ty0 k)) (hnm : ∀ a, a < N → ∀ b, b < N → a ≠ b → (T a).2.1 ≠ (T b).2.1) (hown : s.vm.findClass own = some m.cls) (hK : va_K D cl tys s) (hP : va_P D cl ws H) (hD : va_D A ws) (hS0 : va_S A H0 H locs) (q0 : Nat) {fs : List Value} (he : ws[q0]? = some (a, .inr (ci, fs))) (hc : cl[ci]? = some (C, T, N)) (k : Nat) (hk : k < N) (hlink : (Cond.fieldLink own index ref (T k).2.1 (T k).2.2.1).before args s = true) (hsame : ∀ x, s.fieldFound? (T k).1 (T k).2.1 (T k).2.2.1 = some x → s.fieldFound? ref (T k).2.1 (T k).2.2.1 = some x) (hfin : (T k).2.2.2 = false) {ty : FieldType} {v : Value} (hd : parseFieldDescriptor (T k).2.2.1 = some ty) (hn : narrow ty v = v) (hfit : fits ty v = true) (hl : k < fs.length)
    (hdg : decode cc pc = .ok (.putfield index, 3)) (kk : ∀ (H1 : Heap) (locs1 : List Loc), va_P D cl (ws.set q0 (a, .inr (ci, fs.set k v))) H1 → H1.size = H.size → va_S A H0 H1 locs1 → W p l e R s m args below meth c H1 locs1 cells slots Q (F0 m (pc + 3) ls rest)) : W p l e R s m args below meth c H locs cells slots Q (F0 m pc ls (v :: .ref a :: rest)) := by
  have hap := va_apart (own := own) hts hin ty0 hty hnm hK hc
  obtain ⟨r, h1, cell, q1, q2, q3, q4⟩ := hP q0 _ he
  have hr : r = (C, T, N) := Option.some.inj (h1.symm.trans hc)
  subst hr
  obtain ⟨hS, hfc, kC, hkC, hkind⟩ := hK.1 ci _ hc
  obtain ⟨cf, kf, fi, f, hi, hsl⟩ := hS k hk
  have hlay := hts _ (hin _ (u_in_lay hk))
  unfold u_lay at hlay
  rw [if_neg (by rw [hfin]; decide)] at hlay
  have hst := (u_facts hfc hkC (u_lays hts hin hk) hi).1
  have h6 := u_store hfc hkC hkind hlay hi hd hn hfit
  refine W.putK hexec hb (f := f) ⟨hown, hlink, ⟨_, _, _, hsame _ hi⟩, hst⟩ (by rw [q2]; exact h6) q1 q3 (by rw [hsl]; exact k2_hasslot (q4 k hk)) rfl rfl hdg fun H' e1 e2 e3 => ?_
  rw [hsl] at e1 ⊢
  exact kk H' _ (hP.set hD he ⟨_, hc, t_OB.to (V := updV (vp_V fs) k v) ⟨_, e1, q2, q3, t_set q4 hap hk v⟩ (fun j _ => vp_updV_set hl v j)⟩ e3) e2 (hS0.put e2 e3 (hD.2 q0 _ he))
theorem my_putF (hexec : p.tables.exec = Jvm.exec) (hb : c.code = cc) {own ref C : String} {T : u_T} {N ci index : Nat} {Ts : List Cond} (hts : ∀ w ∈ Ts, w.before args s = true) (hin : ∀ w ∈ u_ws C T N, w ∈ Ts) (ty0 : Nat → FieldType) (hty : ∀ k, k < N → parseFieldDescriptor (T k).2.2.1 = some (ty0 k)) (hnm : ∀ a, a < N → ∀ b, b < N → a ≠ b → (T a).2.1 ≠ (T b).2.1) (hown : s.vm.findClass own = some m.cls) (hK : va_K D cl tys s) (hP : va_P D cl ws H) (hD : va_D A ws) (hS0 : va_S A H0 H locs) (q0 : Nat) {fs : List Value} (he : ws[q0]? = some (a, .inr (ci, fs))) (hc : cl[ci]? = some (C, T, N)) (k : Nat) (hk : k < N) (hlink : (Cond.fieldLink own index ref (T k).2.1 (T k).2.2.1).before args s = true) (hsame : ∀ x, s.fieldFound? (T k).1 (T k).2.1 (T k).2.2.1 = some x → s.fieldFound? ref (T k).2.1 (T k).2.2.1 = some x) (hfin : (T k).2.2.2 = true) (hin2 : meth.name = "<init>") (hdecl : (T k).1 = own) {ty : FieldType} {v : Value} (hd : parseFieldDescriptor (T k).2.2.1 = some ty) (hn : narrow ty v = v) (hfit : fits ty v = true) (hl : k < fs.length)
    (hdg : decode cc pc = .ok (.putfield index, 3)) (kk : ∀ (H1 : Heap) (locs1 : List Loc), va_P D cl (ws.set q0 (a, .inr (ci, fs.set k v))) H1 → H1.size = H.size → va_S A H0 H1 locs1 → W p l e R s m args below meth c H1 locs1 cells slots Q (F0 m (pc + 3) ls rest)) : W p l e R s m args below meth c H locs cells slots Q (F0 m pc ls (v :: .ref a :: rest)) := by
  have hap := va_apart (own := own) hts hin ty0 hty hnm hK hc
  obtain ⟨r, h1, cell, q1, q2, q3, q4⟩ := hP q0 _ he
  have hr : r = (C, T, N) := Option.some.inj (h1.symm.trans hc)
  subst hr
  obtain ⟨hS, hfc, kC, hkC, hkind⟩ := hK.1 ci _ hc
  obtain ⟨cf, kf, fi, f, hi, hsl⟩ := hS k hk
  have hlay := hts _ (hin _ (u_in_lay hk))
  unfold u_lay at hlay
  rw [if_pos hfin] at hlay
  have hst := (u_facts hfc hkC (u_lays hts hin hk) hi).1
  have hcf : m.cls = cf := by
    obtain ⟨_, _, c', _, _, _, -, -, hf', -, -, -, hown2, -⟩ := Cond.laysFinal_spec hlay
    have e1 : c' = cf := by have := hi.symm.trans hf'; simp at this; exact this.1.symm
    rw [hdecl] at hown2
    rw [← e1]; exact Option.some.inj (hown.symm.trans hown2)
  have h6 := u_fits hfc hkC hkind (Or.inr hlay) hi hd hn hfit
  refine W.putFinK hexec hb hown hlink (hsame _ hi) hst hcf hin2 (by rw [q2]; exact h6) q1 q3 (by rw [hsl]; exact k2_hasslot (q4 k hk)) rfl rfl hdg fun H' e1 e2 e3 => ?_
  rw [hsl] at e1 ⊢
  exact kk H' _ (hP.set hD he ⟨_, hc, t_OB.to (V := updV (vp_V fs) k v) ⟨_, e1, q2, q3, t_set q4 hap hk v⟩ (fun j _ => vp_updV_set hl v j)⟩ e3) e2 (hS0.put e2 e3 (hD.2 q0 _ he))
theorem my_iast (hexec : p.tables.exec = Jvm.exec) (hb : c.code = cc) (hK : va_K D cl tys s) (hP : va_P D cl ws H) (hD : va_D A ws) (hS : va_S A H0 H locs) (q0 t0 : Nat) {cA : ClassId} {n : Nat} {f : Nat → Int32} (ha : ws[q0]? = some (a, .inl (cA, n, .inl f))) (ht : tys[t0]? = some (cA, .int)) {i : Int32} {x : Int32} (hin : vp_in i n) (hdg : decode cc pc = .ok (.iastore, 1))
    (kk : ∀ (H1 : Heap) (locs1 : List Loc), va_P D cl (ws.set q0 (a, .inl (cA, n, .inl (upd f i.toNatClampNeg x)))) H1 → H1.size = H.size → va_S A H0 H1 locs1 → W p l e R s m args below meth c H1 locs1 cells slots Q (F0 m (pc + 1) ls rest)) : W p l e R s m args below meth c H locs cells slots Q (F0 m pc ls (.int x :: .int i :: .ref a :: rest)) := by
  refine W.iast hexec hb (hP q0 _ ha) ((hK.2 t0 _ ht).1 n (fun j => .int (f j))) (fun q => by cases q) (by show ¬ (i < 0 ∨ (arrV _ _ _).slots.size ≤ _); rw [arrV_size]; exact hin) rfl rfl hdg fun H1 e z oq => ?_
  refine kk H1 _ (hP.set hD ha ?_ oq) z (hS.put z oq (hD.2 q0 _ ha))
  show H1[a]? = some (vp_cell _ _)
  rw [e]
  rw [vp_cell_i, vp_cell_i, arrV_store]
  congr 2
  funext q
  by_cases hq : q = i.toNatClampNeg
  · subst hq
    simp [updV, upd]
  · simp [updV, upd, hq]
theorem my_zast (hexec : p.tables.exec = Jvm.exec) (hb : c.code = cc) (hK : va_K D cl tys s) (hP : va_P D cl ws H) (hD : va_D A ws) (hS : va_S A H0 H locs) (q0 t0 : Nat) {cA : ClassId} {n : Nat} {f : Nat → Int32} (ha : ws[q0]? = some (a, .inl (cA, n, .inl f))) (ht : tys[t0]? = some (cA, .boolean)) {i : Int32} {x : Int32} (hx01 : x = 0 ∨ x = 1) (hin : vp_in i n) (hdg : decode cc pc = .ok (.bastore, 1))
    (kk : ∀ (H1 : Heap) (locs1 : List Loc), va_P D cl (ws.set q0 (a, .inl (cA, n, .inl (upd f i.toNatClampNeg x)))) H1 → H1.size = H.size → va_S A H0 H1 locs1 → W p l e R s m args below meth c H1 locs1 cells slots Q (F0 m (pc + 1) ls rest)) : W p l e R s m args below meth c H locs cells slots Q (F0 m pc ls (.int x :: .int i :: .ref a :: rest)) := by
  refine W.zast hexec hb (hP q0 _ ha) ((hK.2 t0 _ ht).1 n (fun j => .int (f j))) (fun q => by cases q) (by show ¬ (i < 0 ∨ (arrV _ _ _).slots.size ≤ _); rw [arrV_size]; exact hin) rfl rfl hdg fun H1 e z oq => ?_
  refine kk H1 _ (hP.set hD ha ?_ oq) z (hS.put z oq (hD.2 q0 _ ha))
  show H1[a]? = some (vp_cell _ _)
  rw [e]
  rw [vp_cell_i, vp_cell_i, arrV_store]
  congr 2
  funext q
  by_cases hq : q = i.toNatClampNeg
  · subst hq
    rcases hx01 with rfl | rfl <;> simp [updV, upd] <;> rfl
  · simp [updV, upd, hq]
theorem call_go {b B : Nat} {cI cZ : ClassId} {scr : Cell} {mc1 ms1 : Nat} {r1 : Option Value} {σ1 : Sto} {st0 : List Value} {av : Array Value} (hr : va_Run p l e R s m args below meth c H locs cells slots mc1 ms1 (F0 m pc ls st0) rest (Qm b B D cI cZ scr r1 σ1 av) (fun q => B ≤ q)) (hS : va_S (fun q => B ≤ q) s.heap H locs)
    (kk : ∀ (H1 : Heap) (locs1 : List Loc), HI b B D cI cZ scr σ1 H1 → va_S (fun q => B ≤ q) s.heap H1 locs1 → W p l e R s m args below meth c H1 locs1 (cells + mc1) (slots + ms1) Q (F0 m (pc + 3) ls ((r1.map (cv b B)).toList ++ rest))) : W p l e R s m args below meth c H locs cells slots Q (F0 m pc ls st0) := by
  intro T hT X
  obtain ⟨v, st₀, t, T', L, h0, X', hL, e1, e2, ⟨hv, hH1, hz, hk⟩, st⟩ := hr T hT X
  cases hv
  rw [h0] at hz hk
  obtain ⟨t2, a1, b1⟩ := kk T'.heap (locs ++ L) (by rw [e1]; exact hH1) ⟨Nat.le_trans hS.1 (by rw [e1]; exact hz), fun q h1 h2 => by rw [e1, hk q (Nat.lt_of_lt_of_le h1 hS.1) h2]; exact hS.2.1 q h1 h2, fun q hq => by
      rcases List.mem_append.mp hq with h | h
      · exact hS.2.2 q h
      · exact hL q h⟩ T' rfl X'
  exact ⟨t2, st t2 a1, b1⟩
end MEM
theorem HI.up {b B : Nat} {D : va_G} {cI cZ : ClassId} {scr : Cell} {σ σ' : Sto} {H H1 : Heap} {s : State} {locs locs1 : List Loc} (h : HI b B D cI cZ scr σ H) (hbB : b < B) (hBs : B ≤ s.heap.size) (h1 : σ'.1 = σ.1) (hF : ∀ i, (σ'.2.1 i).length = (σ.2.1 i).length) (h0 : σ'.2.2 0 = σ.2.2 0) (hP : va_P D clss (wsT b B cI cZ σ') H1) (hz : H1.size = H.size) (hS : va_S (fun q => B ≤ q) s.heap H locs) (hS1 : va_S (fun q => B ≤ q) s.heap H1 locs1) : HI b B D cI cZ scr σ' H1 := by
  obtain ⟨a1, a2, a3, a4, a5, a6⟩ := h
  refine ⟨by rw [hz, h1]; exact a1, ?_, hP, by rw [h1]; exact a4, by rw [h0]; exact a5, fun i k hk h8 => ?_⟩
  · rw [hS1.2.1 b (by omega) (by show ¬ B ≤ b; omega), ← hS.2.1 b (by omega) (by show ¬ B ≤ b; omega)]
    exact a2
  · rw [hF]
    rw [h1] at hk
    exact a6 i k hk h8
def setF (σ : Sto) (o k : Nat) (v : Value) : Sto := (σ.1, fun i => if i = o then (σ.2.1 o).set k v else σ.2.1 i, σ.2.2)
def setA (σ : Sto) (a : Nat) (l : List Int32) : Sto := (σ.1, σ.2.1, fun i => if i = a then l else σ.2.2 i)
def refT (t : FieldType) : Bool := match t with
  | .object _ => true
  | .array _ => true
  | _ => false
theorem f_ref : ∀ e ∈ ftb, e.2.2.2.2.1 = 3 → refT (TY e.2.2.1 e.2.2.2.1) = true := by decide +kernel

theorem wp_get {d mc ms m pc nx idx cc k tg o : Nat} {ps : Int} {L S fs : List Value} {σ σ' : Sto} {r : Option Value} {v : Value} (hd : ft m pc = some (.getfield idx, 3, nx, cc, k, tg, ps)) (h9 : tg < 4) (hK : σ.1[o]? = some cc) (hF : σ.2.1 o = fs) (hv : fs[k]? = some v) (kk : WP d mc ms m nx L (v :: S) σ r σ') : WP d mc ms m pc L (.ref o :: S) σ r σ' := by
  intro p l e R s mi args below meth c b B D cI cZ scr Z C hZ H locs ls cells slots hH hS hL hc hs
  obtain ⟨hdec, rfl, hrs⟩ := ft_dec hd
  obtain ⟨h8, hkN, hown, -, hlk⟩ : cc < 8 ∧ k < NN cc ∧ (TT cc k).1 = RR cc ∧ tagOf (TY cc k) = tg ∧ lw_tbl[ps.toNat]? = some (.fieldLink (RR (ow m)) idx (RR cc) (TT cc k).2.1 (TT cc k).2.2.1) := f_all _ (look_in hrs (by omega))
  obtain ⟨i, rfl⟩ := hH.pos hK (by omega)
  exact va_get (D := D) (cl := clss) (ws := wsT b B cI cZ σ) (ci := cc) (v := cv b B v) (C := RR cc) (T := TT cc) (N := NN cc) (own := RR (ow m)) (ref := RR cc) C.1 C.2.1 C.2.2.2.2.1 (tw_gt cc h8) C.2.2.2.1 C.2.2.2.2.2.1 hH.2.2.1 i (ws_obj hK h8) (cl_all cc h8) k hkN (C.2.2.2.2.1 _ (gt_at hlk rfl)) (fun x h => by rw [hown] at h; exact h) (by rw [List.getElem?_map, hF, hv]; rfl) hdec (kk p l e R s mi args below meth c b B D cI cZ scr Z C hZ H locs ls cells slots hH hS hL hc hs)
theorem wp_put {d mc ms m pc nx idx cc k tg o : Nat} {ps : Int} {L S : List Value} {σ σ' : Sto} {r : Option Value} {v : Value} (hd : ft m pc = some (.putfield idx, 3, nx, cc, k, tg, ps)) (h9 : tg < 4) (hK : σ.1[o]? = some cc) (hv : ∀ b B, narrow (TY cc k) (cv b B v) = cv b B v ∧ fits (TY cc k) (cv b B v) = true) (hi : tg = 3 → (yy m).name = "<init>" ∧ RR cc = RR (ow m)) (kk : WP d mc ms m nx L S (setF σ o k v) r σ') : WP d mc ms m pc L (v :: .ref o :: S) σ r σ' := by
  intro p l e R s mi args below meth c b B D cI cZ scr Z C hZ H locs ls cells slots hH hS hL hc hs
  obtain ⟨hdec, rfl, hrs⟩ := ft_dec hd
  have hmem := look_in (tb := ftb) hrs (by omega)
  obtain ⟨h8, hkN, hown, -, hlk⟩ : cc < 8 ∧ k < NN cc ∧ (TT cc k).1 = RR cc ∧ tagOf (TY cc k) = tg ∧ lw_tbl[ps.toNat]? = some (.fieldLink (RR (ow m)) idx (RR cc) (TT cc k).2.1 (TT cc k).2.2.1) := f_all _ hmem
  have hfin : (TT cc k).2.2.2 = (tg == 3) := f_fin _ hmem
  obtain ⟨i, rfl⟩ := hH.pos hK (by omega)
  have hlen : (σ.2.1 (i + 1)).length = NN cc := hH.2.2.2.2.2 _ _ hK h8
  have hgo : ∀ (H1 : Heap) (locs1 : List Loc), va_P D clss ((wsT b B cI cZ σ).set i (B + i, .inr (cc, ((σ.2.1 (i + 1)).map (cv b B)).set k (cv b B v)))) H1 → H1.size = H.size → va_S (fun q => B ≤ q) s.heap H1 locs1 → W p l e R s mi args below meth c H1 locs1 cells slots Z (F0 mi (pc + 3) ls (S.map (cv b B))) := by
    intro H1 locs1 hP1 hz hS1
    rw [ws_up (b := b) (B := B) (cI := cI) (cZ := cZ) (σ := σ) (σ' := setF σ (i + 1) k v) rfl (fun j hj => ⟨by simp [setF, hj], rfl⟩) (by simp [ent, setF, List.getD, hK, h8, List.map_set])] at hP1
    refine kk p l e R s mi args below meth c b B D cI cZ scr Z C hZ H1 locs1 ls cells slots (hH.up C.2.2.2.2.2.2.1 C.2.2.2.2.2.2.2.1 rfl (fun j => ?_) rfl hP1 hz hS hS1) hS1 hL hc hs
    show (if j = i + 1 then (σ.2.1 (i + 1)).set k v else σ.2.1 j).length = _
    split
    · next h => rw [List.length_set, h]
    · rfl
  by_cases h3 : tg = 3
  · exact my_putF (D := D) (cl := clss) (ws := wsT b B cI cZ σ) (ci := cc) (v := cv b B v) (ty := TY cc k) (C := RR cc) (T := TT cc) (N := NN cc) (own := RR (ow m)) (ref := RR cc) C.1 C.2.1 C.2.2.2.2.1 (tw_gt cc h8) (TY cc) (ty_all cc h8) (nm_all cc h8) C.2.2.2.1 C.2.2.2.2.2.1 hH.2.2.1 (ws_D b B cI cZ σ) hS i (ws_obj hK h8) (cl_all cc h8) k hkN (C.2.2.2.2.1 _ (gt_at hlk rfl)) (fun x h => by rw [hown] at h; exact h) (by rw [hfin, h3]; rfl) (C.2.2.2.2.2.2.2.2.2.2.1 (hi h3).1) (hown.trans (hi h3).2) (ty_all cc h8 k hkN) (hv b B).1 (hv b B).2 (by rw [List.length_map, hlen]; exact hkN) hdec hgo
  · exact my_put (D := D) (cl := clss) (ws := wsT b B cI cZ σ) (ci := cc) (v := cv b B v) (ty := TY cc k) (C := RR cc) (T := TT cc) (N := NN cc) (own := RR (ow m)) (ref := RR cc) C.1 C.2.1 C.2.2.2.2.1 (tw_gt cc h8) (TY cc) (ty_all cc h8) (nm_all cc h8) C.2.2.2.1 C.2.2.2.2.2.1 hH.2.2.1 (ws_D b B cI cZ σ) hS i (ws_obj hK h8) (cl_all cc h8) k hkN (C.2.2.2.2.1 _ (gt_at hlk rfl)) (fun x h => by rw [hown] at h; exact h) (by rw [hfin]; simp [h3]) (ty_all cc h8 k hkN) (hv b B).1 (hv b B).2 (by rw [List.length_map, hlen]; exact hkN) hdec hgo
theorem tag0 {t : FieldType} (h : tagOf t = 0) : t = .int := by cases t <;> first | rfl | (simp [tagOf] at h)
theorem tag1 {t : FieldType} (h : tagOf t = 1) : t = .boolean := by cases t <;> first | rfl | (simp [tagOf] at h)
theorem tag2 {t : FieldType} (h : tagOf t = 2) : t = .long := by cases t <;> first | rfl | (simp [tagOf] at h)
theorem f_tag {m pc nx idx cc k tg len : Nat} {ps : Int} (hd : ft m pc = some (.putfield idx, len, nx, cc, k, tg, ps)) (h9 : tg < 4) : tagOf (TY cc k) = tg ∧ (tg = 3 → refT (TY cc k) = true) := by
  obtain ⟨-, -, hrs⟩ := ft_dec hd
  have hmem := look_in (tb := ftb) hrs (by omega)
  exact ⟨(f_all _ hmem).2.2.2.1, f_ref _ hmem⟩
theorem wp_putI {d mc ms m pc nx idx cc k o : Nat} {ps : Int} {L S : List Value} {σ σ' : Sto} {r : Option Value} {x : Int32} (hd : ft m pc = some (.putfield idx, 3, nx, cc, k, 0, ps)) (hK : σ.1[o]? = some cc) (kk : WP d mc ms m nx L S (setF σ o k (.int x)) r σ') : WP d mc ms m pc L (.int x :: .ref o :: S) σ r σ' :=
  wp_put hd (by decide) hK (fun b B => by rw [tag0 (f_tag hd (by decide)).1]; exact ⟨rfl, rfl⟩) (fun h => by cases h) kk
theorem wp_putZ {d mc ms m pc nx idx cc k o : Nat} {ps : Int} {L S : List Value} {σ σ' : Sto} {r : Option Value} {x : Int32} (hd : ft m pc = some (.putfield idx, 3, nx, cc, k, 1, ps)) (hK : σ.1[o]? = some cc) (h01 : x = 0 ∨ x = 1) (kk : WP d mc ms m nx L S (setF σ o k (.int x)) r σ') : WP d mc ms m pc L (.int x :: .ref o :: S) σ r σ' :=
  wp_put hd (by decide) hK (fun b B => by rw [tag1 (f_tag hd (by decide)).1]; rcases h01 with rfl | rfl <;> exact ⟨rfl, rfl⟩) (fun h => by cases h) kk
theorem wp_putL {d mc ms m pc nx idx cc k o : Nat} {ps : Int} {L S : List Value} {σ σ' : Sto} {r : Option Value} {x : Int64} (hd : ft m pc = some (.putfield idx, 3, nx, cc, k, 2, ps)) (hK : σ.1[o]? = some cc) (kk : WP d mc ms m nx L S (setF σ o k (.long x)) r σ') : WP d mc ms m pc L (.long x :: .ref o :: S) σ r σ' :=
  wp_put hd (by decide) hK (fun b B => by rw [tag2 (f_tag hd (by decide)).1]; exact ⟨rfl, rfl⟩) (fun h => by cases h) kk
theorem wp_putR {d mc ms m pc nx idx cc k o a : Nat} {ps : Int} {L S : List Value} {σ σ' : Sto} {r : Option Value} (hd : ft m pc = some (.putfield idx, 3, nx, cc, k, 3, ps)) (hK : σ.1[o]? = some cc) (hi : (yy m).name = "<init>" ∧ RR cc = RR (ow m)) (kk : WP d mc ms m nx L S (setF σ o k (.ref a)) r σ') : WP d mc ms m pc L (.ref a :: .ref o :: S) σ r σ' :=
  wp_put hd (by decide) hK (fun b B => by
    have h := (f_tag hd (by decide)).2 rfl
    revert h
    cases TY cc k <;> intro h <;> first | exact ⟨rfl, rfl⟩ | (simp [refT] at h)) (fun _ => hi) kk
theorem getD_up {l : List Int32} {j : Nat} {x : Int32} (hj : j < l.length) : (fun q => (l.set j x).getD q 0) = upd (fun q => l.getD q 0) j x := by
  funext q
  by_cases hq : q = j
  · subst hq
    simp [upd, List.getD, hj]
  · simp [upd, List.getD, hq, List.getElem?_set_ne (Ne.symm hq)]
theorem wp_iald {d mc ms m pc nx : Nat} {L S : List Value} {σ σ' : Sto} {r : Option Value} {X : Nat × Nat × Nat × Int} {a j : Nat} (hd : ft m pc = some (.iaload, 1, nx, X)) (hK : σ.1[a]? = some 100) (hj : j < (σ.2.2 a).length) (hl : (σ.2.2 a).length < 2 ^ 31) (kk : WP d mc ms m nx L (.int ((σ.2.2 a).getD j 0) :: S) σ r σ') : WP d mc ms m pc L (.int (nI j) :: .ref a :: S) σ r σ' := by
  intro p l e R s mi args below meth c b B D cI cZ scr Z C hZ H locs ls cells slots hH hS hL hc hs
  obtain ⟨hdec, rfl, -⟩ := ft_dec hd
  obtain ⟨i, rfl⟩ := hH.pos hK (by decide)
  refine va_iald (D := D) (cl := clss) (ws := wsT b B cI cZ σ) C.1 C.2.1 C.2.2.2.2.2.1 hH.2.2.1 i 0 (ws_arr hK) rfl (vp_in_nI hj hl) hdec ?_
  rw [nI_clamp (by omega)]
  exact kk p l e R s mi args below meth c b B D cI cZ scr Z C hZ H locs ls cells slots hH hS hL hc hs
theorem wp_zald {d mc ms m pc nx : Nat} {L S : List Value} {σ σ' : Sto} {r : Option Value} {X : Nat × Nat × Nat × Int} {a j : Nat} (hd : ft m pc = some (.baload, 1, nx, X)) (hK : σ.1[a]? = some 101) (hj : j < (σ.2.2 a).length) (hl : (σ.2.2 a).length < 2 ^ 31) (kk : WP d mc ms m nx L (.int ((σ.2.2 a).getD j 0) :: S) σ r σ') : WP d mc ms m pc L (.int (nI j) :: .ref a :: S) σ r σ' := by
  intro p l e R s mi args below meth c b B D cI cZ scr Z C hZ H locs ls cells slots hH hS hL hc hs
  obtain ⟨hdec, rfl, -⟩ := ft_dec hd
  obtain ⟨i, rfl⟩ := hH.pos hK (by decide)
  refine va_zald (D := D) (cl := clss) (ws := wsT b B cI cZ σ) C.1 C.2.1 C.2.2.2.2.2.1 hH.2.2.1 i 1 (ws_arz hK) rfl (vp_in_nI hj hl) hdec ?_
  rw [nI_clamp (by omega)]
  exact kk p l e R s mi args below meth c b B D cI cZ scr Z C hZ H locs ls cells slots hH hS hL hc hs
theorem wp_sald {d mc ms m pc nx : Nat} {L S : List Value} {σ σ' : Sto} {r : Option Value} {X : Nat × Nat × Nat × Int} {j : Nat} (hd : ft m pc = some (.iaload, 1, nx, X)) (hj : j < (σ.2.2 0).length) (hl : (σ.2.2 0).length < 2 ^ 31) (kk : WP d mc ms m nx L (.int ((σ.2.2 0).getD j 0) :: S) σ r σ') : WP d mc ms m pc L (.int (nI j) :: .ref 0 :: S) σ r σ' := by
  intro p l e R s mi args below meth c b B D cI cZ scr Z C hZ H locs ls cells slots hH hS hL hc hs
  obtain ⟨hdec, rfl, -⟩ := ft_dec hd
  have hsc := hH.2.2.2.2.1
  refine W.iald (v := .int ((σ.2.2 0).getD j 0)) C.1 C.2.1 (a := b) hH.2.1 C.2.2.2.2.2.2.2.2.1.1 C.2.2.2.2.2.2.2.2.1.2 (by rw [hsc.1]; exact vp_in_nI hj hl) (by rw [nI_clamp (by omega)]; exact hsc.2 j hj) rfl rfl hdec ?_
  exact kk p l e R s mi args below meth c b B D cI cZ scr Z C hZ H locs ls cells slots hH hS hL hc hs
theorem wp_slen {d mc ms m pc nx : Nat} {L S : List Value} {σ σ' : Sto} {r : Option Value} {X : Nat × Nat × Nat × Int} (hd : ft m pc = some (.arraylength, 1, nx, X)) (kk : WP d mc ms m nx L (.int (nI (σ.2.2 0).length) :: S) σ r σ') : WP d mc ms m pc L (.ref 0 :: S) σ r σ' := by
  intro p l e R s mi args below meth c b B D cI cZ scr Z C hZ H locs ls cells slots hH hS hL hc hs
  obtain ⟨hdec, rfl, -⟩ := ft_dec hd
  have hsc := hH.2.2.2.2.1
  exact W.alen (n := nI (σ.2.2 0).length) C.1 C.2.1 (a := b) hH.2.1 C.2.2.2.2.2.2.2.2.1.1 (by rw [hsc.1]; rfl) rfl rfl hdec (kk p l e R s mi args below meth c b B D cI cZ scr Z C hZ H locs ls cells slots hH hS hL hc hs)
theorem wp_alen {d mc ms m pc nx : Nat} {L S : List Value} {σ σ' : Sto} {r : Option Value} {X : Nat × Nat × Nat × Int} {a : Nat} (hd : ft m pc = some (.arraylength, 1, nx, X)) (hK : σ.1[a]? = some 100) (kk : WP d mc ms m nx L (.int (nI (σ.2.2 a).length) :: S) σ r σ') : WP d mc ms m pc L (.ref a :: S) σ r σ' := by
  intro p l e R s mi args below meth c b B D cI cZ scr Z C hZ H locs ls cells slots hH hS hL hc hs
  obtain ⟨hdec, rfl, -⟩ := ft_dec hd
  obtain ⟨i, rfl⟩ := hH.pos hK (by decide)
  exact va_alen (D := D) (cl := clss) (ws := wsT b B cI cZ σ) C.1 C.2.1 C.2.2.2.2.2.1 hH.2.2.1 i 0 (ws_arr hK) rfl (v := nI (σ.2.2 (i + 1)).length) rfl hdec (kk p l e R s mi args below meth c b B D cI cZ scr Z C hZ H locs ls cells slots hH hS hL hc hs)
theorem wp_iast {d mc ms m pc nx : Nat} {L S : List Value} {σ σ' : Sto} {r : Option Value} {X : Nat × Nat × Nat × Int} {a j : Nat} {x : Int32} (hd : ft m pc = some (.iastore, 1, nx, X)) (hK : σ.1[a]? = some 100) (hj : j < (σ.2.2 a).length) (hl : (σ.2.2 a).length < 2 ^ 31) (kk : WP d mc ms m nx L S (setA σ a ((σ.2.2 a).set j x)) r σ') : WP d mc ms m pc L (.int x :: .int (nI j) :: .ref a :: S) σ r σ' := by
  intro p l e R s mi args below meth c b B D cI cZ scr Z C hZ H locs ls cells slots hH hS hL hc hs
  obtain ⟨hdec, rfl, -⟩ := ft_dec hd
  obtain ⟨i, rfl⟩ := hH.pos hK (by decide)
  refine my_iast (D := D) (cl := clss) (ws := wsT b B cI cZ σ) C.1 C.2.1 C.2.2.2.2.2.1 hH.2.2.1 (ws_D b B cI cZ σ) hS i 0 (ws_arr hK) rfl (vp_in_nI hj hl) hdec (fun H1 locs1 hP1 hz hS1 => ?_)
  rw [nI_clamp (by omega), ← getD_up hj] at hP1
  rw [ws_up (b := b) (B := B) (cI := cI) (cZ := cZ) (σ := σ) (σ' := setA σ (i + 1) ((σ.2.2 (i + 1)).set j x)) rfl (fun j hj => ⟨rfl, by simp [setA, hj]⟩) (by simp [ent, setA, hK])] at hP1
  exact kk p l e R s mi args below meth c b B D cI cZ scr Z C hZ H1 locs1 ls cells slots (hH.up C.2.2.2.2.2.2.1 C.2.2.2.2.2.2.2.1 rfl (fun j => rfl) (by simp [setA]) hP1 hz hS hS1) hS1 hL hc hs
theorem wp_zast {d mc ms m pc nx : Nat} {L S : List Value} {σ σ' : Sto} {r : Option Value} {X : Nat × Nat × Nat × Int} {a j : Nat} {x : Int32} (hd : ft m pc = some (.bastore, 1, nx, X)) (hK : σ.1[a]? = some 101) (h01 : x = 0 ∨ x = 1) (hj : j < (σ.2.2 a).length) (hl : (σ.2.2 a).length < 2 ^ 31) (kk : WP d mc ms m nx L S (setA σ a ((σ.2.2 a).set j x)) r σ') : WP d mc ms m pc L (.int x :: .int (nI j) :: .ref a :: S) σ r σ' := by
  intro p l e R s mi args below meth c b B D cI cZ scr Z C hZ H locs ls cells slots hH hS hL hc hs
  obtain ⟨hdec, rfl, -⟩ := ft_dec hd
  obtain ⟨i, rfl⟩ := hH.pos hK (by decide)
  refine my_zast (D := D) (cl := clss) (ws := wsT b B cI cZ σ) C.1 C.2.1 C.2.2.2.2.2.1 hH.2.2.1 (ws_D b B cI cZ σ) hS i 1 (ws_arz hK) rfl h01 (vp_in_nI hj hl) hdec (fun H1 locs1 hP1 hz hS1 => ?_)
  rw [nI_clamp (by omega), ← getD_up hj] at hP1
  rw [ws_up (b := b) (B := B) (cI := cI) (cZ := cZ) (σ := σ) (σ' := setA σ (i + 1) ((σ.2.2 (i + 1)).set j x)) rfl (fun j hj => ⟨rfl, by simp [setA, hj]⟩) (by simp [ent, setA, hK])] at hP1
  exact kk p l e R s mi args below meth c b B D cI cZ scr Z C hZ H1 locs1 ls cells slots (hH.up C.2.2.2.2.2.2.1 C.2.2.2.2.2.2.2.1 rfl (fun j => rfl) (by simp [setA]) hP1 hz hS hS1) hS1 hL hc hs
/-! making cells -/
def dfl (c : Nat) : List Value := (List.range (NN c)).map (fun k => defaultValue (TY c k))
theorem dfl_ok : ∀ c, c < 8 → ∀ k, k < NN c → defaultValue (TY c k) = .null ∨ defaultValue (TY c k) = .int 0 ∨ defaultValue (TY c k) = .long 0 := by decide +kernel
theorem dfl_cv {c : Nat} (h : c < 8) (b B : Nat) : (dfl c).map (cv b B) = dfl c := by
  unfold dfl
  rw [List.map_map]
  apply List.map_congr_left
  intro k hk
  rcases dfl_ok c h k (List.mem_range.mp hk) with e | e | e <;> simp only [Function.comp, e] <;> rfl
def newO (σ : Sto) (c : Nat) : Sto := (σ.1 ++ [c], fun i => if i = σ.1.length then dfl c else σ.2.1 i, σ.2.2)
def newA (σ : Sto) (k n : Nat) : Sto := (σ.1 ++ [k], σ.2.1, fun i => if i = σ.1.length then List.replicate n 0 else σ.2.2 i)
theorem HI.len {b B : Nat} {D : va_G} {cI cZ : ClassId} {scr : Cell} {σ : Sto} {H : Heap} (h : HI b B D cI cZ scr σ H) : 0 < σ.1.length := (List.getElem?_eq_some_iff.mp h.2.2.2.1).1
theorem ad_len {b B n h : Nat} (hn : 0 < n) (hh : h + 1 = B + n) : ad b B n = h := by
  cases n with
  | zero => omega
  | succ k => show B + k = h; omega
theorem HI.push {b B : Nat} {D : va_G} {cI cZ : ClassId} {scr : Cell} {σ σ' : Sto} {H H1 : Heap} {k : Nat} {e : va_E} (h : HI b B D cI cZ scr σ H) (h1 : σ'.1 = σ.1 ++ [k]) (hn : ∀ j, j < σ.1.length → σ'.2.1 j = σ.2.1 j ∧ σ'.2.2 j = σ.2.2 j) (he : ent b B cI cZ σ' σ.1.length = e) (hlen : k < 8 → (σ'.2.1 σ.1.length).length = NN k) (hbs : b < H.size) (hz : H1.size = H.size + 1) (ho : ∀ q, q < H.size → H1[q]? = H[q]?) (hat : va_at D clss (H.size, e) H1) : HI b B D cI cZ scr σ' H1 := by
  have hl := h.len
  obtain ⟨a1, a2, a3, a4, a5, a6⟩ := h
  have e0 := hn 0 hl
  refine ⟨by rw [hz, h1]; simp; omega, by rw [ho b hbs]; exact a2, ?_, by rw [h1, List.getElem?_append_left hl]; exact a4, by rw [e0.2]; exact a5, fun i k' hk h8 => ?_⟩
  · rw [← ws_push hl h1 hn he]
    refine (a3.kept (fun k q hk => ho q.1 ((a3 k q hk).lt))).app (fun k q hk => ?_)
    have hz : k < 1 := (List.getElem?_eq_some_iff.mp hk).1
    rw [show k = 0 by omega] at hk
    cases hk
    rw [show B + (σ.1.length - 1) = H.size by omega]
    exact hat
  · rw [h1] at hk
    by_cases hi : i < σ.1.length
    · rw [List.getElem?_append_left hi] at hk
      rw [(hn i hi).1]
      exact a6 i k' hk h8
    · rw [List.getElem?_append_right (by omega)] at hk
      have : i - σ.1.length < 1 := (List.getElem?_eq_some_iff.mp hk).1
      have hi2 : i = σ.1.length := by omega
      subst hi2
      rw [Nat.sub_self] at hk
      cases hk
      exact hlen h8
theorem wp_new {d mc ms m pc nx idx cc n a3 : Nat} {ps : Int} {L S : List Value} {σ σ' : Sto} {r : Option Value} (hd : ft m pc = some (.new idx, 3, nx, cc, n, a3, ps)) (h9 : a3 ≠ 99) (kk : WP d mc ms m nx L (.ref σ.1.length :: S) (newO σ cc) r σ') : WP d (mc + 1) (ms + n) m pc L S σ r σ' := by
  intro p l e R s mi args below meth c b B D cI cZ scr Z C hZ H locs ls cells slots hH hS hL hc hs
  obtain ⟨hdec, rfl, hrs⟩ := ft_dec hd
  obtain ⟨h8, hn, hlk, hins, hini⟩ : cc < 8 ∧ n = NN cc ∧ lw_tbl[ps.toNat]? = some (.classLink (RR (ow m)) idx (RR cc)) ∧ Cond.instantiable (RR cc) (NN cc) ∈ lw_tbl ∧ Cond.initialized (RR cc) ∈ lw_tbl := c_all _ (look_in hrs h9)
  subst hn
  have hKn := C.2.2.2.2.2.1.1 cc _ (cl_all cc h8)
  refine W.newcK C.1 C.2.1 (C := RR cc) (own := RR (ow m)) C.2.2.2.1 (C.2.2.2.2.1 _ (gt_at hlk rfl)) (C.2.2.2.2.1 _ (gt_in hins rfl)) (C.2.2.2.2.1 _ (gt_in hini rfl)) rfl hdec (by omega) (by omega) hKn.2.1 rfl fun H1 kC hkC e1 z1 o1 => ?_
  have hbs : b < H.size := by have := C.2.2.2.2.2.2.1; have := C.2.2.2.2.2.2.2.1; have := hS.1; omega
  have hH1 : HI b B D cI cZ scr (newO σ cc) H1 := by
    refine hH.push (σ' := newO σ cc) (k := cc) rfl (fun j hj => ⟨by simp [newO, Nat.ne_of_lt hj], rfl⟩) rfl (fun _ => by simp [newO, dfl]) hbs z1 o1 ?_
    rw [show ent b B cI cZ (newO σ cc) σ.1.length = .inr (cc, dfl cc) by simp [ent, newO, List.getD, h8, dfl_cv h8]]
    refine ⟨_, cl_all cc h8, (u_born (TY cc) C.2.2.2.2.1 (tw_gt cc h8) hKn hkC e1 (ty_all cc h8)).to (fun j hj => ?_)⟩
    have hj' : j < NN cc := hj
    simp [vp_V, dfl, hj']
  have hS1 : va_S (fun q => B ≤ q) s.heap H1 locs := ⟨Nat.le_trans hS.1 (by omega), fun x h1 h2 => (o1 x (Nat.lt_of_lt_of_le h1 hS.1)).trans (hS.2.1 x h1 h2), hS.2.2⟩
  have := kk p l e R s mi args below meth c b B D cI cZ scr Z C hZ H1 locs ls (cells + 1) (slots + NN cc) hH1 hS1 hL (by omega) (by omega)
  rw [List.map_cons, show cv b B (.ref σ.1.length) = .ref H.size from congrArg Value.ref (ad_len hH.len hH.1)] at this
  exact this
theorem wp_newI {d mc ms m pc nx : Nat} {L S : List Value} {σ σ' : Sto} {r : Option Value} {X : Nat × Nat × Nat × Int} {n : Nat} (hd : ft m pc = some (.newarray .int, 2, nx, X)) (hn : n < 1000) (kk : WP d mc ms m nx L (.ref σ.1.length :: S) (newA σ 100 n) r σ') : WP d (mc + 1) (ms + n) m pc L (.int (nI n) :: S) σ r σ' := by
  intro p l e R s mi args below meth c b B D cI cZ scr Z C hZ H locs ls cells slots hH hS hL hc hs
  obtain ⟨hdec, rfl, hrs⟩ := ft_dec hd
  refine va_newaK (atype := .int) C.1 C.2.1 (C.2.2.2.2.1 _ (gt_in ac_I rfl)) rfl hdec rfl (nI_pos (by omega)) (nI_clamp (by omega)) (show n * 4 ≤ 536870912 by omega) (by omega) (by omega) rfl fun H1 cA e1 z1 o1 hAr hNm => ?_
  have hcA : cA = cI := Option.some.inj (hNm.symm.trans ((C.2.2.2.2.2.1.2 0 _ rfl).2))
  subst hcA
  have hbs : b < H.size := by have := C.2.2.2.2.2.2.1; have := C.2.2.2.2.2.2.2.1; have := hS.1; omega
  have hH1 : HI b B D cA cZ scr (newA σ 100 n) H1 := by
    refine hH.push (σ' := newA σ 100 n) (k := 100) rfl (fun j hj => ⟨rfl, by simp [newA, Nat.ne_of_lt hj]⟩) rfl (fun h => by omega) hbs z1 o1 ?_
    rw [show ent b B cA cZ (newA σ 100 n) σ.1.length = .inl (cA, n, .inl (fun _ => 0)) by simp [ent, newA, List.getD, List.getElem?_replicate]; funext j; split <;> rfl]
    exact e1
  have hS1 : va_S (fun q => B ≤ q) s.heap H1 locs := ⟨Nat.le_trans hS.1 (by omega), fun x h1 h2 => (o1 x (Nat.lt_of_lt_of_le h1 hS.1)).trans (hS.2.1 x h1 h2), hS.2.2⟩
  have := kk p l e R s mi args below meth c b B D cA cZ scr Z C hZ H1 locs ls (cells + 1) (slots + n) hH1 hS1 hL (by omega) (by omega)
  rw [List.map_cons, show cv b B (.ref σ.1.length) = .ref H.size from congrArg Value.ref (ad_len hH.len hH.1)] at this
  exact this
theorem wp_newZ {d mc ms m pc nx : Nat} {L S : List Value} {σ σ' : Sto} {r : Option Value} {X : Nat × Nat × Nat × Int} {n : Nat} (hd : ft m pc = some (.newarray .boolean, 2, nx, X)) (hn : n < 1000) (kk : WP d mc ms m nx L (.ref σ.1.length :: S) (newA σ 101 n) r σ') : WP d (mc + 1) (ms + n) m pc L (.int (nI n) :: S) σ r σ' := by
  intro p l e R s mi args below meth c b B D cI cZ scr Z C hZ H locs ls cells slots hH hS hL hc hs
  obtain ⟨hdec, rfl, hrs⟩ := ft_dec hd
  refine va_newaK (atype := .boolean) C.1 C.2.1 (C.2.2.2.2.1 _ (gt_in ac_Z rfl)) rfl hdec rfl (nI_pos (by omega)) (nI_clamp (by omega)) (show n * 1 ≤ 536870912 by omega) (by omega) (by omega) rfl fun H1 cA e1 z1 o1 hAr hNm => ?_
  have hcA : cA = cZ := Option.some.inj (hNm.symm.trans ((C.2.2.2.2.2.1.2 1 _ rfl).2))
  subst hcA
  have hbs : b < H.size := by have := C.2.2.2.2.2.2.1; have := C.2.2.2.2.2.2.2.1; have := hS.1; omega
  have hH1 : HI b B D cI cA scr (newA σ 101 n) H1 := by
    refine hH.push (σ' := newA σ 101 n) (k := 101) rfl (fun j hj => ⟨rfl, by simp [newA, Nat.ne_of_lt hj]⟩) rfl (fun h => by omega) hbs z1 o1 ?_
    rw [show ent b B cI cA (newA σ 101 n) σ.1.length = .inl (cA, n, .inl (fun _ => 0)) by simp [ent, newA, List.getD, List.getElem?_replicate]; funext j; split <;> rfl]
    exact e1
  have hS1 : va_S (fun q => B ≤ q) s.heap H1 locs := ⟨Nat.le_trans hS.1 (by omega), fun x h1 h2 => (o1 x (Nat.lt_of_lt_of_le h1 hS.1)).trans (hS.2.1 x h1 h2), hS.2.2⟩
  have := kk p l e R s mi args below meth c b B D cI cA scr Z C hZ H1 locs ls (cells + 1) (slots + n) hH1 hS1 hL (by omega) (by omega)
  rw [List.map_cons, show cv b B (.ref σ.1.length) = .ref H.size from congrArg Value.ref (ad_len hH.len hH.1)] at this
  exact this
/-! calls -/
theorem Pm_blind {b B : Nat} {D : va_G} {cI cZ : ClassId} {scr : Cell} {As : List Value} {σ : Sto} : FrameBlind (Pm b B D cI cZ scr As σ) := fun a U g mk q => by
  obtain ⟨q0, q1, q2, q3, q4, q5, q6⟩ := q
  exact ⟨q0, q1, q2, q3, va_K.moved (u := U) (U := U.calling g mk a) (Vm.Alike.refl U.vm) q4, ⟨State.isArrayOf_alike (Vm.Alike.refl U.vm) q5.1, q5.2⟩, fun e he h3 => va_Nw.same rfl rfl (q6 e he h3)⟩
theorem Pm_of {p : Program} {R : Room} {s : State} {mi : MethodId} {args : Array Value} {meth : Method} {c : Code} {b B : Nat} {D : va_G} {cI cZ : ClassId} {scr : Cell} {m d : Nat} {As : List Value} {σ : Sto} {H : Heap} {locs : List Loc} (C : Cx p R s mi args meth c b B D cI cZ scr m d) (hH : HI b B D cI cZ scr σ H) (hS : va_S (fun q => B ≤ q) s.heap H locs) : ∀ U : State, U.heap = H → s.WarmedH U.vm → Pm b B D cI cZ scr As σ (As.map (cv b B)).toArray U := fun U hU hW =>
  ⟨rfl, C.2.2.2.2.2.2.1, by rw [hU]; exact Nat.le_trans C.2.2.2.2.2.2.2.1 hS.1, by rw [hU]; exact hH, va_K.moved hW.alike C.2.2.2.2.2.1, ⟨State.isArrayOf_alike hW.alike C.2.2.2.2.2.2.2.2.1.1, C.2.2.2.2.2.2.2.2.1.2⟩, fun e he h3 => va_Nw.warmM hW (C.2.2.2.2.2.2.2.2.2.2.2 e he h3)⟩
theorem tl_map (r : Option Value) (b B : Nat) (S : List Value) : (r.map (cv b B)).toList ++ S.map (cv b B) = (r.toList ++ S).map (cv b B) := by cases r <;> rfl
set_option maxHeartbeats 1000000 in
theorem wp_callV {d d' mc ms mc' ms' m m' n pc nx idx o : Nat} {ps : Int} {L As S : List Value} {σ σ1 σ' : Sto} {r r1 : Option Value} (hd : ft m pc = some (.invokevirtual idx, 3, nx, m', n, 0, ps)) (hn : As.length = n) (hK : σ.1[o]? = some (ow m')) (hE : Ev d' mc' ms' m' (.ref o :: As) σ r1 σ1) (hdd : d' + 1 ≤ d) (hcat : (S.map fun v => v.category).sum ≤ 8) (kk : WP d mc ms m nx L (r1.toList ++ S) σ1 r σ') : WP d (mc + mc') (ms + ms') m pc L (As.reverse ++ .ref o :: S) σ r σ' := by
  intro p l e R s mi args below meth c b B D cI cZ scr Z C hZ H locs ls cells slots hH hS hL hc hs
  obtain ⟨hdec, rfl, hrs⟩ := ft_dec hd
  have hmem := look_in (tb := mtb) hrs (by decide)
  obtain ⟨hm1, -, -, -, -, hm2⟩ := m_all _ hmem
  obtain ⟨hm2, hdesc⟩ := hm2 (by decide : (0 : Nat) < 4)
  obtain ⟨hv1, hv2⟩ := (n_all _ hmem).1 rfl
  have hm' : m' < 137 := hm2
  have hy := y_all m' hm'
  have hlk : Cond.methodLink (RR (ow m)) idx (yy m') ∈ gt := gt_at (hm1 (by decide : (0 : Nat) < 3)) rfl
  have hG : GoodIn gt (wsV (RR (ow m)) idx (yy m').cls (yy m') (wm m')) := by
    intro w hw
    rcases List.mem_append.mp hw with h | h
    · simp only [List.mem_cons, List.not_mem_nil, or_false] at h
      rcases h with rfl | rfl | rfl | rfl
      · exact ⟨hlk, Or.inl rfl⟩
      · exact ⟨gt_at hv1 rfl, Or.inl rfl⟩
      · exact ⟨gt_at hv2 rfl, Or.inl rfl⟩
      · exact ⟨gt_at (i_all m' hm') rfl, Or.inl rfl⟩
    · exact wm_good hm' w h
  obtain ⟨i, rfl⟩ := hH.pos hK (by omega)
  have hR := C.2.2.2.2.2.2.2.2.2.1
  have hrun := va_runV (As := As.map (cv b B)) (rest := S.map (cv b B)) (g := F0 mi pc ls ((As.reverse ++ .ref (i + 1) :: S).map (cv b B))) (e := e) (below := below) (meth := meth) (locs := locs) (cells := cells) (slots := slots) (b := B + i) (H := H) ⟨C.1, C.2.1, C.2.2.1, C.2.2.2.1, C.2.2.2.2.1⟩ (hE l b B D cI cZ scr) (cwV n C.2.2.2.2.1 hG rfl rfl rfl ⟨rfl, hy.1, hy.2.1, hdesc⟩ ⟨by show d' + 1 ≤ R.frames; omega, by show 8 + (ml m' + 11) + 40 * d' ≤ R.locals; omega⟩) ⟨Pm_blind, by rw [hy.2.2.2.1]; exact va_recv C.2.2.2.2.2.1 hH.2.2.1 (cl_all _ hy.2.2.2.2.1) (ws_obj hK hy.2.2.2.2.1), Pm_of (As := .ref (i + 1) :: As) C hH hS⟩ rfl (by rw [List.length_map]; exact hn) hL.1 (by simp [ad, cv]) (lv_room (by rw [cv_sum]; exact hcat)) hdec ⟨by omega, by omega⟩
  refine call_go hrun hS (fun H1 locs1 hH1 hS1 => ?_)
  rw [tl_map]
  exact kk p l e R s mi args below meth c b B D cI cZ scr Z C hZ H1 locs1 ls (cells + mc') (slots + ms') hH1 hS1 hL (by omega) (by omega)
set_option maxHeartbeats 1000000 in
theorem wp_callS {d d' mc ms mc' ms' m m' n pc nx idx : Nat} {ps : Int} {L As S : List Value} {σ σ1 σ' : Sto} {r r1 : Option Value} (hd : ft m pc = some (.invokestatic idx, 3, nx, m', n, 1, ps)) (hn : As.length = n) (ho : ow m = ow m') (hE : Ev d' mc' ms' m' As σ r1 σ1) (hdd : d' + 1 ≤ d) (hcat : (S.map fun v => v.category).sum ≤ 8) (kk : WP d mc ms m nx L (r1.toList ++ S) σ1 r σ') : WP d (mc + mc') (ms + ms') m pc L (As.reverse ++ S) σ r σ' := by
  intro p l e R s mi args below meth c b B D cI cZ scr Z C hZ H locs ls cells slots hH hS hL hc hs
  obtain ⟨hdec, rfl, hrs⟩ := ft_dec hd
  have hmem := look_in (tb := mtb) hrs (by decide)
  obtain ⟨hm1, -, -, -, -, hm2⟩ := m_all _ hmem
  obtain ⟨hm2, hdesc⟩ := hm2 (by decide : (1 : Nat) < 4)
  have hv1 := (n_all _ hmem).2.1 rfl
  have hm' : m' < 137 := hm2
  have hy := y_all m' hm'
  have hlk : Cond.methodLink (RR (ow m)) idx (yy m') ∈ gt := gt_at (hm1 (by decide : (1 : Nat) < 3)) rfl
  have hcl : (yy m').cls = RR (ow m) := by rw [ho]; exact hy.2.2.2.1
  have hG : GoodIn gt (wsS (RR (ow m)) idx (yy m') (wm m')) := by
    intro w hw
    rcases List.mem_append.mp hw with h | h
    · simp only [List.mem_cons, List.not_mem_nil, or_false] at h
      rcases h with rfl | rfl | rfl
      · exact ⟨hlk, Or.inl rfl⟩
      · exact ⟨gt_at hv1 rfl, Or.inl rfl⟩
      · rw [← hcl]; exact ⟨gt_at (i_all m' hm') rfl, Or.inl rfl⟩
    · exact wm_good hm' w h
  have hR := C.2.2.2.2.2.2.2.2.2.1
  have hrun := va_runS (As := As.map (cv b B)) (rest := S.map (cv b B)) (g := F0 mi pc ls ((As.reverse ++ S).map (cv b B))) (e := e) (below := below) (meth := meth) (locs := locs) (cells := cells) (slots := slots) (H := H) ⟨C.1, C.2.1, C.2.2.1, C.2.2.2.1, C.2.2.2.2.1⟩ (hE l b B D cI cZ scr) (cwS n C.2.2.2.2.1 hG rfl rfl rfl ⟨hcl, hy.1, hy.2.1, hdesc⟩ ⟨by show d' + 1 ≤ R.frames; omega, by show 8 + (ml m' + 11) + 40 * d' ≤ R.locals; omega⟩) ⟨Pm_blind, Pm_of (As := As) C hH hS⟩ rfl (by rw [List.length_map]; exact hn) hL.1 (by simp) (lv_room (by rw [cv_sum]; exact hcat)) hdec ⟨by omega, by omega⟩
  refine call_go hrun hS (fun H1 locs1 hH1 hS1 => ?_)
  rw [tl_map]
  exact kk p l e R s mi args below meth c b B D cI cZ scr Z C hZ H1 locs1 ls (cells + mc') (slots + ms') hH1 hS1 hL (by omega) (by omega)
set_option maxHeartbeats 1000000 in
theorem wp_callI {d d' mc ms mc' ms' m m' pc nx idx o kd : Nat} {ps : Int} {L S : List Value} {σ σ1 σ' : Sto} {r : Option Value} (hd : ft m pc = some (.invokespecial idx, 3, nx, m', 0, kd, ps)) (hkd : kd = 2 ∨ kd = 3) (hk0 : 0 < o) (hE : Ev d' mc' ms' m' [.ref o] σ none σ1) (hdd : d' + 1 ≤ d) (hcat : (S.map fun v => v.category).sum ≤ 8) (kk : WP d mc ms m nx L S σ1 r σ') : WP d (mc + mc') (ms + ms') m pc L (.ref o :: S) σ r σ' := by
  intro p l e R s mi args below meth c b B D cI cZ scr Z C hZ H locs ls cells slots hH hS hL hc hs
  obtain ⟨hdec, rfl, hrs⟩ := ft_dec hd
  have hmem := look_in (tb := mtb) hrs (by omega)
  obtain ⟨hm1, hm3, -, -, -, hm2⟩ := m_all _ hmem
  obtain ⟨hm2, hdesc⟩ := hm2 (show kd < 4 by omega)
  obtain ⟨hnm, hrt, hv1⟩ := (n_all _ hmem).2.2 hkd
  have hm' : m' < 137 := hm2
  have hnm : (yy m').name = "<init>" := hnm
  have hrt : rt m' = none := hrt
  have hy := y_all m' hm'
  obtain ⟨i, rfl⟩ : ∃ i, o = i + 1 := ⟨o - 1, by omega⟩
  have hR := C.2.2.2.2.2.2.2.2.2.1
  have hini := C.2.2.2.2.1 _ (gt_at (i_all m' hm') rfl)
  have hins := C.2.2.2.2.1 _ (gt_at hv1 rfl)
  have hRR : d' + 1 ≤ R.frames ∧ 8 + (ml m' + 11) + 40 * d' ≤ R.locals := ⟨by omega, by omega⟩
  have hw : wm m' = Cond.code (yy m') (cb m') (ml m') none :: gt := by rw [← hrt]; rfl
  have hp : PreS s H (Pm b B D cI cZ scr [.ref (i + 1)] σ) (.ref (B + i) :: ([] : List Value)) := ⟨Pm_blind, Pm_of (As := [.ref (i + 1)]) C hH hS⟩
  have hrun : va_Run p l e R s mi args below meth c H locs cells slots mc' ms' (F0 mi pc ls ((.ref (i + 1) :: S).map (cv b B))) (S.map (cv b B)) (Qm b B D cI cZ scr none σ1 (Value.ref (B + i) :: []).toArray) (fun q => B ≤ q) := by
    rcases hkd with rfl | rfl
    · exact va_runI (As := []) (rest := S.map (cv b B)) (b := B + i) ⟨C.1, C.2.1, C.2.2.1, C.2.2.2.1, C.2.2.2.2.1⟩ (hE l b B D cI cZ scr) (cwI 0 C.2.2.2.2.1 (wm_good hm') hw rfl rfl hini (C.2.2.2.2.1 _ (gt_at (hm1 (by decide : (2 : Nat) < 3)) rfl)) hins hnm ⟨hy.1, hy.2.1, hdesc⟩ hRR) hp rfl rfl hL.1 rfl (lv_room (by rw [cv_sum]; exact hcat)) hdec ⟨by omega, by omega⟩
    · have hnw : va_Nw (.methodLinkNest (RR (ow m)) idx (yy m') "TrailBreakers") s := by have h0 : NWs s := C.2.2.2.2.2.2.2.2.2.2.2; exact h0 (ow m, idx, m', 0, 3, ps) hmem rfl
      have hcn : va_CN R s args (RR (ow m)) idx (yy m') "TrailBreakers" (cb m') (ml m') none (wm m') { frames := d', cells := mc', slots := ms', locals := 40 * d' } mc' ms' 0 := va_cnB (Ts := gt) (ws' := gt) 0 C.2.2.2.2.1 (wm_good hm') hw rfl rfl hnw hini ⟨hy.1, hy.2.1, hdesc⟩ hRR
      exact va_runIN (Ts := gt) (own := RR (ow m)) (host := "TrailBreakers") (y := yy m') (bytes := cb m') (maxL := ml m') (nL := ml m) (mc := mc') (ms := ms') (n := 0) (ws := wm m') (rm := { frames := d', cells := mc', slots := ms', locals := 40 * d' }) (Pc := Pm b B D cI cZ scr [.ref (i + 1)] σ) (Qc := Qm b B D cI cZ scr none σ1) (free := fun q => B ≤ q) (As := []) (rest := S.map (cv b B)) (b := B + i) ⟨C.1, C.2.1, C.2.2.1, C.2.2.2.1, C.2.2.2.2.1⟩ (hE l b B D cI cZ scr) ⟨hcn, hnm, hins⟩ hp rfl rfl hL.1 rfl (lv_room (by rw [cv_sum]; exact hcat)) hdec ⟨by omega, by omega⟩
  refine call_go hrun hS (fun H1 locs1 hH1 hS1 => ?_)
  exact kk p l e R s mi args below meth c b B D cI cZ scr Z C hZ H1 locs1 ls (cells + mc') (slots + ms') hH1 hS1 hL (by omega) (by omega)
theorem wp_objInit {d mc ms m pc nx idx a1 a2 o : Nat} {ps : Int} {L S : List Value} {σ σ' : Sto} {r : Option Value} (hd : ft m pc = some (.invokespecial idx, 3, nx, a1, a2, 4, ps)) (hdd : 1 ≤ d) (hcat : (S.map fun v => v.category).sum ≤ 8) (kk : WP d mc ms m nx L S σ r σ') : WP d mc ms m pc L (.ref o :: S) σ r σ' := by
  intro p l e R s mi args below meth c b B D cI cZ scr Z C hZ H locs ls cells slots hH hS hL hc hs
  obtain ⟨hdec, rfl, hrs⟩ := ft_dec hd
  have hmem := look_in (tb := mtb) hrs (by decide)
  have hm1 := (m_all _ hmem).2.2.1 rfl
  have hR := C.2.2.2.2.2.2.2.2.2.1
  have h8 : 2 * (F0 mi pc ls ((.ref o :: S).map (cv b B))).monitorRoom + ((S.map (cv b B)).map fun v => v.category).sum ≤ 8 := lv_room (by rw [cv_sum]; exact hcat)
  exact W.objInit C.1 C.2.1 (own := RR (ow m)) C.2.2.2.1 (C.2.2.2.2.1 _ (gt_at hm1 rfl)) (C.2.2.2.2.1 _ (gt_in oi_1 rfl)) (C.2.2.2.2.1 _ (gt_in oi_2 rfl)) rfl (by rw [C.2.2.1]; exact hL.1) rfl hdec (by omega) (by omega) (kk p l e R s mi args below meth c b B D cI cZ scr Z C hZ H locs ls cells slots hH hS hL hc hs)
theorem wp_min {d mc ms m pc nx idx a1 a2 : Nat} {ps : Int} {L S : List Value} {σ σ' : Sto} {r : Option Value} {x y : Int32} (hd : ft m pc = some (.invokestatic idx, 3, nx, a1, a2, 5, ps)) (hdd : 1 ≤ d) (hcat : (S.map fun v => v.category).sum ≤ 8) (kk : WP d mc ms m nx L (.int (if y < x then y else x) :: S) σ r σ') : WP d mc ms m pc L (.int y :: .int x :: S) σ r σ' := by
  intro p l e R s mi args below meth c b B D cI cZ scr Z C hZ H locs ls cells slots hH hS hL hc hs
  obtain ⟨hdec, rfl, hrs⟩ := ft_dec hd
  have hmem := look_in (tb := mtb) hrs (by decide)
  have hm1 := (m_all _ hmem).2.2.2.1 rfl
  have hR := C.2.2.2.2.2.2.2.2.2.1
  exact va_mmin C.1 C.2.1 (by rw [C.2.2.1]; exact hL.1.symm) (own := RR (ow m)) C.2.2.2.1 (C.2.2.2.2.1 _ (gt_at hm1 rfl)) (C.2.2.2.2.1 _ (gt_in mm_1 rfl)) (C.2.2.2.2.1 _ (gt_in mm_3 rfl)) (C.2.2.2.2.1 _ (gt_in mm_4 rfl)) (by omega) (by rw [cv_sum]; omega) (by omega) (by omega) hdec (kk p l e R s mi args below meth c b B D cI cZ scr Z C hZ H locs ls cells slots hH hS hL hc hs)
theorem wp_max {d mc ms m pc nx idx a1 a2 : Nat} {ps : Int} {L S : List Value} {σ σ' : Sto} {r : Option Value} {x y : Int32} (hd : ft m pc = some (.invokestatic idx, 3, nx, a1, a2, 6, ps)) (hdd : 1 ≤ d) (hcat : (S.map fun v => v.category).sum ≤ 8) (kk : WP d mc ms m nx L (.int (if x < y then y else x) :: S) σ r σ') : WP d mc ms m pc L (.int y :: .int x :: S) σ r σ' := by
  intro p l e R s mi args below meth c b B D cI cZ scr Z C hZ H locs ls cells slots hH hS hL hc hs
  obtain ⟨hdec, rfl, hrs⟩ := ft_dec hd
  have hmem := look_in (tb := mtb) hrs (by decide)
  have hm1 := (m_all _ hmem).2.2.2.2.1 rfl
  have hR := C.2.2.2.2.2.2.2.2.2.1
  exact va_mmax C.1 C.2.1 (by rw [C.2.2.1]; exact hL.1.symm) (own := RR (ow m)) C.2.2.2.1 (C.2.2.2.2.1 _ (gt_at hm1 rfl)) (C.2.2.2.2.1 _ (gt_in mm_2 rfl)) (C.2.2.2.2.1 _ (gt_in mm_3 rfl)) (C.2.2.2.2.1 _ (gt_in mm_5 rfl)) (by omega) (by rw [cv_sum]; omega) (by omega) (by omega) hdec (kk p l e R s mi args below meth c b B D cI cZ scr Z C hZ H locs ls cells slots hH hS hL hc hs)
theorem WP.cast {d mc ms mc' ms' m pc : Nat} {L S : List Value} {σ σ' : Sto} {r : Option Value} (h1 : mc' ≤ mc) (h2 : ms' ≤ ms) (k : WP d mc' ms' m pc L S σ r σ') : WP d mc ms m pc L S σ r σ' := by
  intro p l e R s mi args below meth c b B D cI cZ scr Z C hZ H locs ls cells slots hH hS hL hc hs
  exact k p l e R s mi args below meth c b B D cI cZ scr Z C hZ H locs ls cells slots hH hS hL (by omega) (by omega)
end
section
def ftq (m pc : Nat) (x : IT) : Bool := match ft m pc with
  | some y => decide (y = x)
  | none => false
theorem ftq_ok {m pc : Nat} {x : IT} (h : ftq m pc x = true) : ft m pc = some x := by
  unfold ftq at h
  split at h
  · next y hy => rw [hy, of_decide_eq_true h]
  · cases h
-- 78: Mo_init
theorem d78_0 : ft 78 0 = some (.aload_n 0, 1, 1, 0, 0, 0, 0) := ftq_ok (by decide +kernel)
theorem d78_1 : ft 78 1 = some (.invokespecial 1, 3, 4, 0, 0, 4, 622) := ftq_ok (by decide +kernel)
theorem d78_4 : ft 78 4 = some (.aload_n 0, 1, 5, 0, 0, 0, 0) := ftq_ok (by decide +kernel)
theorem d78_5 : ft 78 5 = some (.bipush 10, 2, 7, 0, 0, 0, 0) := ftq_ok (by decide +kernel)
theorem d78_7 : ft 78 7 = some (.newarray .int, 2, 9, 0, 0, 0, 0) := ftq_ok (by decide +kernel)
theorem d78_9 : ft 78 9 = some (.putfield 7, 3, 12, 7, 0, 3, 623) := ftq_ok (by decide +kernel)
theorem d78_12 : ft 78 12 = some (.aload_n 0, 1, 13, 0, 0, 0, 0) := ftq_ok (by decide +kernel)
theorem d78_13 : ft 78 13 = some (.bipush 6, 2, 15, 0, 0, 0, 0) := ftq_ok (by decide +kernel)
theorem d78_15 : ft 78 15 = some (.newarray .int, 2, 17, 0, 0, 0, 0) := ftq_ok (by decide +kernel)
theorem d78_17 : ft 78 17 = some (.putfield 13, 3, 20, 7, 9, 3, 632) := ftq_ok (by decide +kernel)
theorem d78_20 : ft 78 20 = some (.aload_n 0, 1, 21, 0, 0, 0, 0) := ftq_ok (by decide +kernel)
theorem d78_21 : ft 78 21 = some (.bipush 6, 2, 23, 0, 0, 0, 0) := ftq_ok (by decide +kernel)
theorem d78_23 : ft 78 23 = some (.newarray .int, 2, 25, 0, 0, 0, 0) := ftq_ok (by decide +kernel)
theorem d78_25 : ft 78 25 = some (.putfield 16, 3, 28, 7, 10, 3, 633) := ftq_ok (by decide +kernel)
theorem d78_28 : ft 78 28 = some (.aload_n 0, 1, 29, 0, 0, 0, 0) := ftq_ok (by decide +kernel)
theorem d78_29 : ft 78 29 = some (.bipush 15, 2, 31, 0, 0, 0, 0) := ftq_ok (by decide +kernel)
theorem d78_31 : ft 78 31 = some (.newarray .int, 2, 33, 0, 0, 0, 0) := ftq_ok (by decide +kernel)
theorem d78_33 : ft 78 33 = some (.putfield 19, 3, 36, 7, 12, 3, 635) := ftq_ok (by decide +kernel)
theorem d78_36 : ft 78 36 = some (.aload_n 0, 1, 37, 0, 0, 0, 0) := ftq_ok (by decide +kernel)
theorem d78_37 : ft 78 37 = some (.iconst 5, 1, 38, 0, 0, 0, 0) := ftq_ok (by decide +kernel)
theorem d78_38 : ft 78 38 = some (.newarray .int, 2, 40, 0, 0, 0, 0) := ftq_ok (by decide +kernel)
theorem d78_40 : ft 78 40 = some (.putfield 22, 3, 43, 7, 13, 3, 636) := ftq_ok (by decide +kernel)
theorem d78_43 : ft 78 43 = some (.aload_n 0, 1, 44, 0, 0, 0, 0) := ftq_ok (by decide +kernel)
theorem d78_44 : ft 78 44 = some (.iconst 5, 1, 45, 0, 0, 0, 0) := ftq_ok (by decide +kernel)
theorem d78_45 : ft 78 45 = some (.newarray .int, 2, 47, 0, 0, 0, 0) := ftq_ok (by decide +kernel)
theorem d78_47 : ft 78 47 = some (.putfield 25, 3, 50, 7, 14, 3, 637) := ftq_ok (by decide +kernel)
theorem d78_50 : ft 78 50 = some (.aload_n 0, 1, 51, 0, 0, 0, 0) := ftq_ok (by decide +kernel)
theorem d78_51 : ft 78 51 = some (.iconst 5, 1, 52, 0, 0, 0, 0) := ftq_ok (by decide +kernel)
theorem d78_52 : ft 78 52 = some (.newarray .int, 2, 54, 0, 0, 0, 0) := ftq_ok (by decide +kernel)
theorem d78_54 : ft 78 54 = some (.putfield 28, 3, 57, 7, 15, 3, 638) := ftq_ok (by decide +kernel)
theorem d78_57 : ft 78 57 = some (.aload_n 0, 1, 58, 0, 0, 0, 0) := ftq_ok (by decide +kernel)
theorem d78_58 : ft 78 58 = some (.iconst 5, 1, 59, 0, 0, 0, 0) := ftq_ok (by decide +kernel)
theorem d78_59 : ft 78 59 = some (.newarray .int, 2, 61, 0, 0, 0, 0) := ftq_ok (by decide +kernel)
theorem d78_61 : ft 78 61 = some (.putfield 31, 3, 64, 7, 16, 3, 639) := ftq_ok (by decide +kernel)
theorem d78_64 : ft 78 64 = some (.aload_n 0, 1, 65, 0, 0, 0, 0) := ftq_ok (by decide +kernel)
theorem d78_65 : ft 78 65 = some (.bipush 6, 2, 67, 0, 0, 0, 0) := ftq_ok (by decide +kernel)
theorem d78_67 : ft 78 67 = some (.newarray .int, 2, 69, 0, 0, 0, 0) := ftq_ok (by decide +kernel)
theorem d78_69 : ft 78 69 = some (.putfield 34, 3, 72, 7, 17, 3, 640) := ftq_ok (by decide +kernel)
theorem d78_72 : ft 78 72 = some (.aload_n 0, 1, 73, 0, 0, 0, 0) := ftq_ok (by decide +kernel)
theorem d78_73 : ft 78 73 = some (.iconst 5, 1, 74, 0, 0, 0, 0) := ftq_ok (by decide +kernel)
theorem d78_74 : ft 78 74 = some (.newarray .int, 2, 76, 0, 0, 0, 0) := ftq_ok (by decide +kernel)
theorem d78_76 : ft 78 76 = some (.putfield 37, 3, 79, 7, 23, 3, 646) := ftq_ok (by decide +kernel)
theorem d78_79 : ft 78 79 = some (.aload_n 0, 1, 80, 0, 0, 0, 0) := ftq_ok (by decide +kernel)
theorem d78_80 : ft 78 80 = some (.iconst 5, 1, 81, 0, 0, 0, 0) := ftq_ok (by decide +kernel)
theorem d78_81 : ft 78 81 = some (.newarray .int, 2, 83, 0, 0, 0, 0) := ftq_ok (by decide +kernel)
theorem d78_83 : ft 78 83 = some (.putfield 40, 3, 86, 7, 24, 3, 647) := ftq_ok (by decide +kernel)
theorem d78_86 : ft 78 86 = some (.aload_n 0, 1, 87, 0, 0, 0, 0) := ftq_ok (by decide +kernel)
theorem d78_87 : ft 78 87 = some (.iconst 5, 1, 88, 0, 0, 0, 0) := ftq_ok (by decide +kernel)
theorem d78_88 : ft 78 88 = some (.newarray .int, 2, 90, 0, 0, 0, 0) := ftq_ok (by decide +kernel)
theorem d78_90 : ft 78 90 = some (.putfield 43, 3, 93, 7, 26, 3, 649) := ftq_ok (by decide +kernel)
theorem d78_93 : ft 78 93 = some (.aload_n 0, 1, 94, 0, 0, 0, 0) := ftq_ok (by decide +kernel)
theorem d78_94 : ft 78 94 = some (.bipush 6, 2, 96, 0, 0, 0, 0) := ftq_ok (by decide +kernel)
theorem d78_96 : ft 78 96 = some (.newarray .int, 2, 98, 0, 0, 0, 0) := ftq_ok (by decide +kernel)
theorem d78_98 : ft 78 98 = some (.putfield 46, 3, 101, 7, 27, 3, 650) := ftq_ok (by decide +kernel)
theorem d78_101 : ft 78 101 = some (.aload_n 0, 1, 102, 0, 0, 0, 0) := ftq_ok (by decide +kernel)
theorem d78_102 : ft 78 102 = some (.bipush 6, 2, 104, 0, 0, 0, 0) := ftq_ok (by decide +kernel)
theorem d78_104 : ft 78 104 = some (.newarray .int, 2, 106, 0, 0, 0, 0) := ftq_ok (by decide +kernel)
theorem d78_106 : ft 78 106 = some (.putfield 49, 3, 109, 7, 29, 3, 652) := ftq_ok (by decide +kernel)
theorem d78_109 : ft 78 109 = some (.aload_n 0, 1, 110, 0, 0, 0, 0) := ftq_ok (by decide +kernel)
theorem d78_110 : ft 78 110 = some (.bipush 15, 2, 112, 0, 0, 0, 0) := ftq_ok (by decide +kernel)
theorem d78_112 : ft 78 112 = some (.newarray .int, 2, 114, 0, 0, 0, 0) := ftq_ok (by decide +kernel)
theorem d78_114 : ft 78 114 = some (.putfield 52, 3, 117, 7, 34, 3, 657) := ftq_ok (by decide +kernel)
theorem d78_117 : ft 78 117 = some (.aload_n 0, 1, 118, 0, 0, 0, 0) := ftq_ok (by decide +kernel)
theorem d78_118 : ft 78 118 = some (.iconst 5, 1, 119, 0, 0, 0, 0) := ftq_ok (by decide +kernel)
theorem d78_119 : ft 78 119 = some (.newarray .int, 2, 121, 0, 0, 0, 0) := ftq_ok (by decide +kernel)
theorem d78_121 : ft 78 121 = some (.putfield 55, 3, 124, 7, 35, 3, 658) := ftq_ok (by decide +kernel)
theorem d78_124 : ft 78 124 = some (.aload_n 0, 1, 125, 0, 0, 0, 0) := ftq_ok (by decide +kernel)
theorem d78_125 : ft 78 125 = some (.iconst 5, 1, 126, 0, 0, 0, 0) := ftq_ok (by decide +kernel)
theorem d78_126 : ft 78 126 = some (.newarray .int, 2, 128, 0, 0, 0, 0) := ftq_ok (by decide +kernel)
theorem d78_128 : ft 78 128 = some (.putfield 58, 3, 131, 7, 36, 3, 659) := ftq_ok (by decide +kernel)
theorem d78_131 : ft 78 131 = some (.aload_n 0, 1, 132, 0, 0, 0, 0) := ftq_ok (by decide +kernel)
theorem d78_132 : ft 78 132 = some (.bipush 6, 2, 134, 0, 0, 0, 0) := ftq_ok (by decide +kernel)
theorem d78_134 : ft 78 134 = some (.newarray .int, 2, 136, 0, 0, 0, 0) := ftq_ok (by decide +kernel)
theorem d78_136 : ft 78 136 = some (.putfield 61, 3, 139, 7, 37, 3, 660) := ftq_ok (by decide +kernel)
theorem d78_139 : ft 78 139 = some (.aload_n 0, 1, 140, 0, 0, 0, 0) := ftq_ok (by decide +kernel)
theorem d78_140 : ft 78 140 = some (.bipush 6, 2, 142, 0, 0, 0, 0) := ftq_ok (by decide +kernel)
theorem d78_142 : ft 78 142 = some (.newarray .int, 2, 144, 0, 0, 0, 0) := ftq_ok (by decide +kernel)
theorem d78_144 : ft 78 144 = some (.putfield 64, 3, 147, 7, 38, 3, 661) := ftq_ok (by decide +kernel)
theorem d78_147 : ft 78 147 = some (.aload_n 0, 1, 148, 0, 0, 0, 0) := ftq_ok (by decide +kernel)
theorem d78_148 : ft 78 148 = some (.iconst (-1), 1, 149, 0, 0, 0, 0) := ftq_ok (by decide +kernel)
theorem d78_149 : ft 78 149 = some (.putfield 67, 3, 152, 7, 30, 0, 653) := ftq_ok (by decide +kernel)
theorem d78_152 : ft 78 152 = some (.return_, 1, 153, 0, 0, 0, 0) := ftq_ok (by decide +kernel)
-- 79: Mo_in
theorem d79_0 : ft 79 0 = some (.lload_n 0, 1, 1, 0, 0, 0, 0) := ftq_ok (by decide +kernel)
theorem d79_1 : ft 79 1 = some (.lload_n 2, 1, 2, 0, 0, 0, 0) := ftq_ok (by decide +kernel)
theorem d79_2 : ft 79 2 = some (.lcmp, 1, 3, 0, 0, 0, 0) := ftq_ok (by decide +kernel)
theorem d79_3 : ft 79 3 = some (.ifCond .lt 14, 3, 6, 17, 0, 0, 0) := ftq_ok (by decide +kernel)
theorem d79_6 : ft 79 6 = some (.lload_n 0, 1, 7, 0, 0, 0, 0) := ftq_ok (by decide +kernel)
theorem d79_7 : ft 79 7 = some (.lload 4, 2, 9, 0, 0, 0, 0) := ftq_ok (by decide +kernel)
theorem d79_9 : ft 79 9 = some (.lcmp, 1, 10, 0, 0, 0, 0) := ftq_ok (by decide +kernel)
theorem d79_10 : ft 79 10 = some (.ifCond .gt 7, 3, 13, 17, 0, 0, 0) := ftq_ok (by decide +kernel)
theorem d79_13 : ft 79 13 = some (.iconst 1, 1, 14, 0, 0, 0, 0) := ftq_ok (by decide +kernel)
theorem d79_14 : ft 79 14 = some (.goto 4, 3, 17, 18, 0, 0, 0) := ftq_ok (by decide +kernel)
theorem d79_17 : ft 79 17 = some (.iconst 0, 1, 18, 0, 0, 0, 0) := ftq_ok (by decide +kernel)
theorem d79_18 : ft 79 18 = some (.ireturn, 1, 19, 0, 0, 0, 0) := ftq_ok (by decide +kernel)
-- 80: Mo_letter
theorem d80_0 : ft 80 0 = some (.iload_n 1, 1, 1, 0, 0, 0, 0) := ftq_ok (by decide +kernel)
theorem d80_1 : ft 80 1 = some (.i2l, 1, 2, 0, 0, 0, 0) := ftq_ok (by decide +kernel)
theorem d80_2 : ft 80 2 = some (.lconst 1, 1, 3, 0, 0, 0, 0) := ftq_ok (by decide +kernel)
theorem d80_3 : ft 80 3 = some (.ldc2_w 71, 3, 6, 1, 748, 0, 126) := ftq_ok (by decide +kernel)
theorem d80_6 : ft 80 6 = some (.invokestatic 73, 3, 9, 79, 3, 1, 749) := ftq_ok (by decide +kernel)
theorem d80_9 : ft 80 9 = some (.ifCond .ne 6, 3, 12, 15, 0, 0, 0) := ftq_ok (by decide +kernel)
theorem d80_12 : ft 80 12 = some (.bipush (-102), 2, 14, 0, 0, 0, 0) := ftq_ok (by decide +kernel)
theorem d80_14 : ft 80 14 = some (.ireturn, 1, 15, 0, 0, 0, 0) := ftq_ok (by decide +kernel)
theorem d80_15 : ft 80 15 = some (.aload_n 0, 1, 16, 0, 0, 0, 0) := ftq_ok (by decide +kernel)
theorem d80_16 : ft 80 16 = some (.getfield 77, 3, 19, 7, 1, 0, 624) := ftq_ok (by decide +kernel)
theorem d80_19 : ft 80 19 = some (.bipush 10, 2, 21, 0, 0, 0, 0) := ftq_ok (by decide +kernel)
theorem d80_21 : ft 80 21 = some (.if_icmp .ne 6, 3, 24, 27, 0, 0, 0) := ftq_ok (by decide +kernel)
theorem d80_24 : ft 80 24 = some (.bipush (-104), 2, 26, 0, 0, 0, 0) := ftq_ok (by decide +kernel)
theorem d80_26 : ft 80 26 = some (.ireturn, 1, 27, 0, 0, 0, 0) := ftq_ok (by decide +kernel)
theorem d80_27 : ft 80 27 = some (.aload_n 0, 1, 28, 0, 0, 0, 0) := ftq_ok (by decide +kernel)
theorem d80_28 : ft 80 28 = some (.getfield 7, 3, 31, 7, 0, 3, 623) := ftq_ok (by decide +kernel)
theorem d80_31 : ft 80 31 = some (.aload_n 0, 1, 32, 0, 0, 0, 0) := ftq_ok (by decide +kernel)
theorem d80_32 : ft 80 32 = some (.getfield 77, 3, 35, 7, 1, 0, 624) := ftq_ok (by decide +kernel)
theorem d80_35 : ft 80 35 = some (.iload_n 1, 1, 36, 0, 0, 0, 0) := ftq_ok (by decide +kernel)
theorem d80_36 : ft 80 36 = some (.iastore, 1, 37, 0, 0, 0, 0) := ftq_ok (by decide +kernel)
theorem d80_37 : ft 80 37 = some (.aload_n 0, 1, 38, 0, 0, 0, 0) := ftq_ok (by decide +kernel)
theorem d80_38 : ft 80 38 = some (.dup, 1, 39, 0, 0, 0, 0) := ftq_ok (by decide +kernel)
theorem d80_39 : ft 80 39 = some (.getfield 77, 3, 42, 7, 1, 0, 624) := ftq_ok (by decide +kernel)
theorem d80_42 : ft 80 42 = some (.iconst 1, 1, 43, 0, 0, 0, 0) := ftq_ok (by decide +kernel)
theorem d80_43 : ft 80 43 = some (.iadd, 1, 44, 0, 0, 0, 0) := ftq_ok (by decide +kernel)
theorem d80_44 : ft 80 44 = some (.putfield 77, 3, 47, 7, 1, 0, 624) := ftq_ok (by decide +kernel)
theorem d80_47 : ft 80 47 = some (.aload_n 0, 1, 48, 0, 0, 0, 0) := ftq_ok (by decide +kernel)
theorem d80_48 : ft 80 48 = some (.getfield 77, 3, 51, 7, 1, 0, 624) := ftq_ok (by decide +kernel)
theorem d80_51 : ft 80 51 = some (.ireturn, 1, 52, 0, 0, 0, 0) := ftq_ok (by decide +kernel)
-- 81: Mo_blank
theorem d81_0 : ft 81 0 = some (.aload_n 0, 1, 1, 0, 0, 0, 0) := ftq_ok (by decide +kernel)
theorem d81_1 : ft 81 1 = some (.getfield 77, 3, 4, 7, 1, 0, 624) := ftq_ok (by decide +kernel)
theorem d81_4 : ft 81 4 = some (.istore_n 1, 1, 5, 0, 0, 0, 0) := ftq_ok (by decide +kernel)
theorem d81_5 : ft 81 5 = some (.aload_n 0, 1, 6, 0, 0, 0, 0) := ftq_ok (by decide +kernel)
theorem d81_6 : ft 81 6 = some (.iconst 0, 1, 7, 0, 0, 0, 0) := ftq_ok (by decide +kernel)
theorem d81_7 : ft 81 7 = some (.putfield 77, 3, 10, 7, 1, 0, 624) := ftq_ok (by decide +kernel)
theorem d81_10 : ft 81 10 = some (.iload_n 1, 1, 11, 0, 0, 0, 0) := ftq_ok (by decide +kernel)
theorem d81_11 : ft 81 11 = some (.ireturn, 1, 12, 0, 0, 0, 0) := ftq_ok (by decide +kernel)
-- 82: Mo_isDigit
theorem d82_0 : ft 82 0 = some (.iload_n 0, 1, 1, 0, 0, 0, 0) := ftq_ok (by decide +kernel)
theorem d82_1 : ft 82 1 = some (.i2l, 1, 2, 0, 0, 0, 0) := ftq_ok (by decide +kernel)
theorem d82_2 : ft 82 2 = some (.ldc2_w 80, 3, 5, 1, 771, 0, 48) := ftq_ok (by decide +kernel)
theorem d82_5 : ft 82 5 = some (.ldc2_w 82, 3, 8, 1, 772, 0, 57) := ftq_ok (by decide +kernel)
theorem d82_8 : ft 82 8 = some (.invokestatic 73, 3, 11, 79, 3, 1, 749) := ftq_ok (by decide +kernel)
theorem d82_11 : ft 82 11 = some (.ireturn, 1, 12, 0, 0, 0, 0) := ftq_ok (by decide +kernel)
-- 83: Mo_go
theorem d83_0 : ft 83 0 = some (.aload_n 0, 1, 1, 0, 0, 0, 0) := ftq_ok (by decide +kernel)
theorem d83_1 : ft 83 1 = some (.getfield 84, 3, 4, 7, 2, 0, 625) := ftq_ok (by decide +kernel)
theorem d83_4 : ft 83 4 = some (.ifCond .eq 17, 3, 7, 21, 0, 0, 0) := ftq_ok (by decide +kernel)
theorem d83_7 : ft 83 7 = some (.aload_n 0, 1, 8, 0, 0, 0, 0) := ftq_ok (by decide +kernel)
theorem d83_8 : ft 83 8 = some (.getfield 84, 3, 11, 7, 2, 0, 625) := ftq_ok (by decide +kernel)
theorem d83_11 : ft 83 11 = some (.iconst 1, 1, 12, 0, 0, 0, 0) := ftq_ok (by decide +kernel)
theorem d83_12 : ft 83 12 = some (.if_icmp .ne 46, 3, 15, 58, 0, 0, 0) := ftq_ok (by decide +kernel)
theorem d83_15 : ft 83 15 = some (.iload_n 1, 1, 16, 0, 0, 0, 0) := ftq_ok (by decide +kernel)
theorem d83_16 : ft 83 16 = some (.bipush 59, 2, 18, 0, 0, 0, 0) := ftq_ok (by decide +kernel)
theorem d83_18 : ft 83 18 = some (.if_icmp .eq 40, 3, 21, 58, 0, 0, 0) := ftq_ok (by decide +kernel)
theorem d83_21 : ft 83 21 = some (.aload_n 0, 1, 22, 0, 0, 0, 0) := ftq_ok (by decide +kernel)
theorem d83_22 : ft 83 22 = some (.iconst 1, 1, 23, 0, 0, 0, 0) := ftq_ok (by decide +kernel)
theorem d83_23 : ft 83 23 = some (.putfield 84, 3, 26, 7, 2, 0, 625) := ftq_ok (by decide +kernel)
theorem d83_26 : ft 83 26 = some (.aload_n 0, 1, 27, 0, 0, 0, 0) := ftq_ok (by decide +kernel)
theorem d83_27 : ft 83 27 = some (.dup, 1, 28, 0, 0, 0, 0) := ftq_ok (by decide +kernel)
theorem d83_28 : ft 83 28 = some (.getfield 87, 3, 31, 7, 3, 0, 626) := ftq_ok (by decide +kernel)
theorem d83_31 : ft 83 31 = some (.iconst 1, 1, 32, 0, 0, 0, 0) := ftq_ok (by decide +kernel)
theorem d83_32 : ft 83 32 = some (.iadd, 1, 33, 0, 0, 0, 0) := ftq_ok (by decide +kernel)
theorem d83_33 : ft 83 33 = some (.putfield 87, 3, 36, 7, 3, 0, 626) := ftq_ok (by decide +kernel)
theorem d83_36 : ft 83 36 = some (.iload_n 1, 1, 37, 0, 0, 0, 0) := ftq_ok (by decide +kernel)
theorem d83_37 : ft 83 37 = some (.invokestatic 90, 3, 40, 82, 1, 1, 768) := ftq_ok (by decide +kernel)
theorem d83_40 : ft 83 40 = some (.ifCond .eq 16, 3, 43, 56, 0, 0, 0) := ftq_ok (by decide +kernel)
theorem d83_43 : ft 83 43 = some (.aload_n 0, 1, 44, 0, 0, 0, 0) := ftq_ok (by decide +kernel)
theorem d83_44 : ft 83 44 = some (.getfield 87, 3, 47, 7, 3, 0, 626) := ftq_ok (by decide +kernel)
theorem d83_47 : ft 83 47 = some (.bipush 7, 2, 49, 0, 0, 0, 0) := ftq_ok (by decide +kernel)
theorem d83_49 : ft 83 49 = some (.if_icmp .ge 7, 3, 52, 56, 0, 0, 0) := ftq_ok (by decide +kernel)
theorem d83_52 : ft 83 52 = some (.iconst 1, 1, 53, 0, 0, 0, 0) := ftq_ok (by decide +kernel)
theorem d83_53 : ft 83 53 = some (.goto 4, 3, 56, 57, 0, 0, 0) := ftq_ok (by decide +kernel)
theorem d83_56 : ft 83 56 = some (.iconst 0, 1, 57, 0, 0, 0, 0) := ftq_ok (by decide +kernel)
theorem d83_57 : ft 83 57 = some (.ireturn, 1, 58, 0, 0, 0, 0) := ftq_ok (by decide +kernel)
theorem d83_58 : ft 83 58 = some (.aload_n 0, 1, 59, 0, 0, 0, 0) := ftq_ok (by decide +kernel)
theorem d83_59 : ft 83 59 = some (.getfield 84, 3, 62, 7, 2, 0, 625) := ftq_ok (by decide +kernel)
theorem d83_62 : ft 83 62 = some (.iconst 1, 1, 63, 0, 0, 0, 0) := ftq_ok (by decide +kernel)
theorem d83_63 : ft 83 63 = some (.if_icmp .eq 18, 3, 66, 81, 0, 0, 0) := ftq_ok (by decide +kernel)
theorem d83_66 : ft 83 66 = some (.aload_n 0, 1, 67, 0, 0, 0, 0) := ftq_ok (by decide +kernel)
theorem d83_67 : ft 83 67 = some (.getfield 84, 3, 70, 7, 2, 0, 625) := ftq_ok (by decide +kernel)
theorem d83_70 : ft 83 70 = some (.iconst 2, 1, 71, 0, 0, 0, 0) := ftq_ok (by decide +kernel)
theorem d83_71 : ft 83 71 = some (.if_icmp .ne 14, 3, 74, 85, 0, 0, 0) := ftq_ok (by decide +kernel)
theorem d83_74 : ft 83 74 = some (.iload_n 1, 1, 75, 0, 0, 0, 0) := ftq_ok (by decide +kernel)
theorem d83_75 : ft 83 75 = some (.invokestatic 90, 3, 78, 82, 1, 1, 768) := ftq_ok (by decide +kernel)
theorem d83_78 : ft 83 78 = some (.ifCond .eq 7, 3, 81, 85, 0, 0, 0) := ftq_ok (by decide +kernel)
theorem d83_81 : ft 83 81 = some (.iconst 1, 1, 82, 0, 0, 0, 0) := ftq_ok (by decide +kernel)
theorem d83_82 : ft 83 82 = some (.goto 4, 3, 85, 86, 0, 0, 0) := ftq_ok (by decide +kernel)
theorem d83_85 : ft 83 85 = some (.iconst 0, 1, 86, 0, 0, 0, 0) := ftq_ok (by decide +kernel)
theorem d83_86 : ft 83 86 = some (.istore_n 2, 1, 87, 0, 0, 0, 0) := ftq_ok (by decide +kernel)
theorem d83_87 : ft 83 87 = some (.aload_n 0, 1, 88, 0, 0, 0, 0) := ftq_ok (by decide +kernel)
theorem d83_88 : ft 83 88 = some (.dup, 1, 89, 0, 0, 0, 0) := ftq_ok (by decide +kernel)
theorem d83_89 : ft 83 89 = some (.getfield 84, 3, 92, 7, 2, 0, 625) := ftq_ok (by decide +kernel)
theorem d83_92 : ft 83 92 = some (.iconst 1, 1, 93, 0, 0, 0, 0) := ftq_ok (by decide +kernel)
theorem d83_93 : ft 83 93 = some (.iadd, 1, 94, 0, 0, 0, 0) := ftq_ok (by decide +kernel)
theorem d83_94 : ft 83 94 = some (.putfield 84, 3, 97, 7, 2, 0, 625) := ftq_ok (by decide +kernel)
theorem d83_97 : ft 83 97 = some (.iload_n 2, 1, 98, 0, 0, 0, 0) := ftq_ok (by decide +kernel)
theorem d83_98 : ft 83 98 = some (.ireturn, 1, 99, 0, 0, 0, 0) := ftq_ok (by decide +kernel)
-- 84: Mo_faultOf
theorem d84_0 : ft 84 0 = some (.aload_n 0, 1, 1, 0, 0, 0, 0) := ftq_ok (by decide +kernel)
theorem d84_1 : ft 84 1 = some (.iconst 0, 1, 2, 0, 0, 0, 0) := ftq_ok (by decide +kernel)
theorem d84_2 : ft 84 2 = some (.putfield 84, 3, 5, 7, 2, 0, 625) := ftq_ok (by decide +kernel)
theorem d84_5 : ft 84 5 = some (.aload_n 0, 1, 6, 0, 0, 0, 0) := ftq_ok (by decide +kernel)
theorem d84_6 : ft 84 6 = some (.iconst 0, 1, 7, 0, 0, 0, 0) := ftq_ok (by decide +kernel)
theorem d84_7 : ft 84 7 = some (.putfield 87, 3, 10, 7, 3, 0, 626) := ftq_ok (by decide +kernel)
theorem d84_10 : ft 84 10 = some (.iconst 0, 1, 11, 0, 0, 0, 0) := ftq_ok (by decide +kernel)
theorem d84_11 : ft 84 11 = some (.istore_n 1, 1, 12, 0, 0, 0, 0) := ftq_ok (by decide +kernel)
theorem d84_12 : ft 84 12 = some (.iload_n 1, 1, 13, 0, 0, 0, 0) := ftq_ok (by decide +kernel)
theorem d84_13 : ft 84 13 = some (.aload_n 0, 1, 14, 0, 0, 0, 0) := ftq_ok (by decide +kernel)
theorem d84_14 : ft 84 14 = some (.getfield 77, 3, 17, 7, 1, 0, 624) := ftq_ok (by decide +kernel)
theorem d84_17 : ft 84 17 = some (.if_icmp .ge 22, 3, 20, 39, 0, 0, 0) := ftq_ok (by decide +kernel)
theorem d84_20 : ft 84 20 = some (.aload_n 0, 1, 21, 0, 0, 0, 0) := ftq_ok (by decide +kernel)
theorem d84_21 : ft 84 21 = some (.aload_n 0, 1, 22, 0, 0, 0, 0) := ftq_ok (by decide +kernel)
theorem d84_22 : ft 84 22 = some (.getfield 7, 3, 25, 7, 0, 3, 623) := ftq_ok (by decide +kernel)
theorem d84_25 : ft 84 25 = some (.iload_n 1, 1, 26, 0, 0, 0, 0) := ftq_ok (by decide +kernel)
theorem d84_26 : ft 84 26 = some (.iaload, 1, 27, 0, 0, 0, 0) := ftq_ok (by decide +kernel)
theorem d84_27 : ft 84 27 = some (.invokevirtual 94, 3, 30, 83, 1, 0, 764) := ftq_ok (by decide +kernel)
theorem d84_30 : ft 84 30 = some (.ifCond .eq 9, 3, 33, 39, 0, 0, 0) := ftq_ok (by decide +kernel)
theorem d84_33 : ft 84 33 = some (.iinc 1 1, 3, 36, 0, 0, 0, 0) := ftq_ok (by decide +kernel)
theorem d84_36 : ft 84 36 = some (.goto (-24), 3, 39, 12, 0, 0, 0) := ftq_ok (by decide +kernel)
theorem d84_39 : ft 84 39 = some (.iload_n 1, 1, 40, 0, 0, 0, 0) := ftq_ok (by decide +kernel)
theorem d84_40 : ft 84 40 = some (.ireturn, 1, 41, 0, 0, 0, 0) := ftq_ok (by decide +kernel)
-- 85: Mo_fault
theorem d85_0 : ft 85 0 = some (.aload_n 0, 1, 1, 0, 0, 0, 0) := ftq_ok (by decide +kernel)
theorem d85_1 : ft 85 1 = some (.invokevirtual 97, 3, 4, 84, 0, 0, 760) := ftq_ok (by decide +kernel)
theorem d85_4 : ft 85 4 = some (.ireturn, 1, 5, 0, 0, 0, 0) := ftq_ok (by decide +kernel)
-- 86: Mo_slope
theorem d86_0 : ft 86 0 = some (.aload_n 0, 1, 1, 0, 0, 0, 0) := ftq_ok (by decide +kernel)
theorem d86_1 : ft 86 1 = some (.invokevirtual 97, 3, 4, 84, 0, 0, 760) := ftq_ok (by decide +kernel)
theorem d86_4 : ft 86 4 = some (.aload_n 0, 1, 5, 0, 0, 0, 0) := ftq_ok (by decide +kernel)
theorem d86_5 : ft 86 5 = some (.getfield 77, 3, 8, 7, 1, 0, 624) := ftq_ok (by decide +kernel)
theorem d86_8 : ft 86 8 = some (.if_icmp .lt 11, 3, 11, 19, 0, 0, 0) := ftq_ok (by decide +kernel)
theorem d86_11 : ft 86 11 = some (.aload_n 0, 1, 12, 0, 0, 0, 0) := ftq_ok (by decide +kernel)
theorem d86_12 : ft 86 12 = some (.getfield 84, 3, 15, 7, 2, 0, 625) := ftq_ok (by decide +kernel)
theorem d86_15 : ft 86 15 = some (.iconst 3, 1, 16, 0, 0, 0, 0) := ftq_ok (by decide +kernel)
theorem d86_16 : ft 86 16 = some (.if_icmp .eq 6, 3, 19, 22, 0, 0, 0) := ftq_ok (by decide +kernel)
theorem d86_19 : ft 86 19 = some (.bipush (-103), 2, 21, 0, 0, 0, 0) := ftq_ok (by decide +kernel)
theorem d86_21 : ft 86 21 = some (.ireturn, 1, 22, 0, 0, 0, 0) := ftq_ok (by decide +kernel)
theorem d86_22 : ft 86 22 = some (.aload_n 0, 1, 23, 0, 0, 0, 0) := ftq_ok (by decide +kernel)
theorem d86_23 : ft 86 23 = some (.aload_n 0, 1, 24, 0, 0, 0, 0) := ftq_ok (by decide +kernel)
theorem d86_24 : ft 86 24 = some (.getfield 87, 3, 27, 7, 3, 0, 626) := ftq_ok (by decide +kernel)
theorem d86_27 : ft 86 27 = some (.putfield 101, 3, 30, 7, 4, 0, 627) := ftq_ok (by decide +kernel)
theorem d86_30 : ft 86 30 = some (.iconst 0, 1, 31, 0, 0, 0, 0) := ftq_ok (by decide +kernel)
theorem d86_31 : ft 86 31 = some (.istore_n 1, 1, 32, 0, 0, 0, 0) := ftq_ok (by decide +kernel)
theorem d86_32 : ft 86 32 = some (.iload_n 1, 1, 33, 0, 0, 0, 0) := ftq_ok (by decide +kernel)
theorem d86_33 : ft 86 33 = some (.bipush 6, 2, 35, 0, 0, 0, 0) := ftq_ok (by decide +kernel)
theorem d86_35 : ft 86 35 = some (.if_icmp .ge 43, 3, 38, 78, 0, 0, 0) := ftq_ok (by decide +kernel)
theorem d86_38 : ft 86 38 = some (.aload_n 0, 1, 39, 0, 0, 0, 0) := ftq_ok (by decide +kernel)
theorem d86_39 : ft 86 39 = some (.getfield 13, 3, 42, 7, 9, 3, 632) := ftq_ok (by decide +kernel)
theorem d86_42 : ft 86 42 = some (.iload_n 1, 1, 43, 0, 0, 0, 0) := ftq_ok (by decide +kernel)
theorem d86_43 : ft 86 43 = some (.iload_n 1, 1, 44, 0, 0, 0, 0) := ftq_ok (by decide +kernel)
theorem d86_44 : ft 86 44 = some (.aload_n 0, 1, 45, 0, 0, 0, 0) := ftq_ok (by decide +kernel)
theorem d86_45 : ft 86 45 = some (.getfield 101, 3, 48, 7, 4, 0, 627) := ftq_ok (by decide +kernel)
theorem d86_48 : ft 86 48 = some (.if_icmp .ge 15, 3, 51, 63, 0, 0, 0) := ftq_ok (by decide +kernel)
theorem d86_51 : ft 86 51 = some (.aload_n 0, 1, 52, 0, 0, 0, 0) := ftq_ok (by decide +kernel)
theorem d86_52 : ft 86 52 = some (.getfield 7, 3, 55, 7, 0, 3, 623) := ftq_ok (by decide +kernel)
theorem d86_55 : ft 86 55 = some (.iload_n 1, 1, 56, 0, 0, 0, 0) := ftq_ok (by decide +kernel)
theorem d86_56 : ft 86 56 = some (.iaload, 1, 57, 0, 0, 0, 0) := ftq_ok (by decide +kernel)
theorem d86_57 : ft 86 57 = some (.bipush 48, 2, 59, 0, 0, 0, 0) := ftq_ok (by decide +kernel)
theorem d86_59 : ft 86 59 = some (.isub, 1, 60, 0, 0, 0, 0) := ftq_ok (by decide +kernel)
theorem d86_60 : ft 86 60 = some (.goto 4, 3, 63, 64, 0, 0, 0) := ftq_ok (by decide +kernel)
theorem d86_63 : ft 86 63 = some (.iconst 0, 1, 64, 0, 0, 0, 0) := ftq_ok (by decide +kernel)
theorem d86_64 : ft 86 64 = some (.iastore, 1, 65, 0, 0, 0, 0) := ftq_ok (by decide +kernel)
theorem d86_65 : ft 86 65 = some (.aload_n 0, 1, 66, 0, 0, 0, 0) := ftq_ok (by decide +kernel)
theorem d86_66 : ft 86 66 = some (.getfield 16, 3, 69, 7, 10, 3, 633) := ftq_ok (by decide +kernel)
theorem d86_69 : ft 86 69 = some (.iload_n 1, 1, 70, 0, 0, 0, 0) := ftq_ok (by decide +kernel)
theorem d86_70 : ft 86 70 = some (.iconst (-1), 1, 71, 0, 0, 0, 0) := ftq_ok (by decide +kernel)
theorem d86_71 : ft 86 71 = some (.iastore, 1, 72, 0, 0, 0, 0) := ftq_ok (by decide +kernel)
theorem d86_72 : ft 86 72 = some (.iinc 1 1, 3, 75, 0, 0, 0, 0) := ftq_ok (by decide +kernel)
theorem d86_75 : ft 86 75 = some (.goto (-43), 3, 78, 32, 0, 0, 0) := ftq_ok (by decide +kernel)
theorem d86_78 : ft 86 78 = some (.aload_n 0, 1, 79, 0, 0, 0, 0) := ftq_ok (by decide +kernel)
theorem d86_79 : ft 86 79 = some (.aload_n 0, 1, 80, 0, 0, 0, 0) := ftq_ok (by decide +kernel)
theorem d86_80 : ft 86 80 = some (.getfield 7, 3, 83, 7, 0, 3, 623) := ftq_ok (by decide +kernel)
theorem d86_83 : ft 86 83 = some (.aload_n 0, 1, 84, 0, 0, 0, 0) := ftq_ok (by decide +kernel)
theorem d86_84 : ft 86 84 = some (.getfield 77, 3, 87, 7, 1, 0, 624) := ftq_ok (by decide +kernel)
theorem d86_87 : ft 86 87 = some (.iconst 1, 1, 88, 0, 0, 0, 0) := ftq_ok (by decide +kernel)
theorem d86_88 : ft 86 88 = some (.isub, 1, 89, 0, 0, 0, 0) := ftq_ok (by decide +kernel)
theorem d86_89 : ft 86 89 = some (.iaload, 1, 90, 0, 0, 0, 0) := ftq_ok (by decide +kernel)
theorem d86_90 : ft 86 90 = some (.bipush 48, 2, 92, 0, 0, 0, 0) := ftq_ok (by decide +kernel)
theorem d86_92 : ft 86 92 = some (.isub, 1, 93, 0, 0, 0, 0) := ftq_ok (by decide +kernel)
theorem d86_93 : ft 86 93 = some (.putfield 104, 3, 96, 7, 5, 0, 628) := ftq_ok (by decide +kernel)
theorem d86_96 : ft 86 96 = some (.aload_n 0, 1, 97, 0, 0, 0, 0) := ftq_ok (by decide +kernel)
theorem d86_97 : ft 86 97 = some (.iconst 0, 1, 98, 0, 0, 0, 0) := ftq_ok (by decide +kernel)
theorem d86_98 : ft 86 98 = some (.putfield 107, 3, 101, 7, 6, 0, 629) := ftq_ok (by decide +kernel)
theorem d86_101 : ft 86 101 = some (.aload_n 0, 1, 102, 0, 0, 0, 0) := ftq_ok (by decide +kernel)
theorem d86_102 : ft 86 102 = some (.iconst 0, 1, 103, 0, 0, 0, 0) := ftq_ok (by decide +kernel)
theorem d86_103 : ft 86 103 = some (.putfield 110, 3, 106, 7, 7, 0, 630) := ftq_ok (by decide +kernel)
theorem d86_106 : ft 86 106 = some (.aload_n 0, 1, 107, 0, 0, 0, 0) := ftq_ok (by decide +kernel)
theorem d86_107 : ft 86 107 = some (.iconst 0, 1, 108, 0, 0, 0, 0) := ftq_ok (by decide +kernel)
theorem d86_108 : ft 86 108 = some (.putfield 113, 3, 111, 7, 11, 0, 634) := ftq_ok (by decide +kernel)
theorem d86_111 : ft 86 111 = some (.aload_n 0, 1, 112, 0, 0, 0, 0) := ftq_ok (by decide +kernel)
theorem d86_112 : ft 86 112 = some (.dup, 1, 113, 0, 0, 0, 0) := ftq_ok (by decide +kernel)
theorem d86_113 : ft 86 113 = some (.getfield 116, 3, 116, 7, 8, 0, 631) := ftq_ok (by decide +kernel)
theorem d86_116 : ft 86 116 = some (.iconst 1, 1, 117, 0, 0, 0, 0) := ftq_ok (by decide +kernel)
theorem d86_117 : ft 86 117 = some (.iadd, 1, 118, 0, 0, 0, 0) := ftq_ok (by decide +kernel)
theorem d86_118 : ft 86 118 = some (.putfield 116, 3, 121, 7, 8, 0, 631) := ftq_ok (by decide +kernel)
theorem d86_121 : ft 86 121 = some (.aload_n 0, 1, 122, 0, 0, 0, 0) := ftq_ok (by decide +kernel)
theorem d86_122 : ft 86 122 = some (.iconst 0, 1, 123, 0, 0, 0, 0) := ftq_ok (by decide +kernel)
theorem d86_123 : ft 86 123 = some (.putfield 77, 3, 126, 7, 1, 0, 624) := ftq_ok (by decide +kernel)
theorem d86_126 : ft 86 126 = some (.aload_n 0, 1, 127, 0, 0, 0, 0) := ftq_ok (by decide +kernel)
theorem d86_127 : ft 86 127 = some (.getfield 101, 3, 130, 7, 4, 0, 627) := ftq_ok (by decide +kernel)
theorem d86_130 : ft 86 130 = some (.ireturn, 1, 131, 0, 0, 0, 0) := ftq_ok (by decide +kernel)
-- 87: Mo_lacks
theorem d87_0 : ft 87 0 = some (.aload_n 0, 1, 1, 0, 0, 0, 0) := ftq_ok (by decide +kernel)
theorem d87_1 : ft 87 1 = some (.getfield 101, 3, 4, 7, 4, 0, 627) := ftq_ok (by decide +kernel)
theorem d87_4 : ft 87 4 = some (.ifCond .ne 7, 3, 7, 11, 0, 0, 0) := ftq_ok (by decide +kernel)
theorem d87_7 : ft 87 7 = some (.iconst 1, 1, 8, 0, 0, 0, 0) := ftq_ok (by decide +kernel)
theorem d87_8 : ft 87 8 = some (.goto 4, 3, 11, 12, 0, 0, 0) := ftq_ok (by decide +kernel)
theorem d87_11 : ft 87 11 = some (.iconst 0, 1, 12, 0, 0, 0, 0) := ftq_ok (by decide +kernel)
theorem d87_12 : ft 87 12 = some (.ireturn, 1, 13, 0, 0, 0, 0) := ftq_ok (by decide +kernel)
-- 88: Mo_isStretch
theorem d88_0 : ft 88 0 = some (.iload_n 1, 1, 1, 0, 0, 0, 0) := ftq_ok (by decide +kernel)
theorem d88_1 : ft 88 1 = some (.i2l, 1, 2, 0, 0, 0, 0) := ftq_ok (by decide +kernel)
theorem d88_2 : ft 88 2 = some (.lconst 0, 1, 3, 0, 0, 0, 0) := ftq_ok (by decide +kernel)
theorem d88_3 : ft 88 3 = some (.aload_n 0, 1, 4, 0, 0, 0, 0) := ftq_ok (by decide +kernel)
theorem d88_4 : ft 88 4 = some (.getfield 101, 3, 7, 7, 4, 0, 627) := ftq_ok (by decide +kernel)
theorem d88_7 : ft 88 7 = some (.iconst 1, 1, 8, 0, 0, 0, 0) := ftq_ok (by decide +kernel)
theorem d88_8 : ft 88 8 = some (.isub, 1, 9, 0, 0, 0, 0) := ftq_ok (by decide +kernel)
theorem d88_9 : ft 88 9 = some (.i2l, 1, 10, 0, 0, 0, 0) := ftq_ok (by decide +kernel)
theorem d88_10 : ft 88 10 = some (.invokestatic 73, 3, 13, 79, 3, 1, 749) := ftq_ok (by decide +kernel)
theorem d88_13 : ft 88 13 = some (.ireturn, 1, 14, 0, 0, 0, 0) := ftq_ok (by decide +kernel)
-- 89: Mo_stretch
theorem d89_0 : ft 89 0 = some (.aload_n 0, 1, 1, 0, 0, 0, 0) := ftq_ok (by decide +kernel)
theorem d89_1 : ft 89 1 = some (.iload_n 1, 1, 2, 0, 0, 0, 0) := ftq_ok (by decide +kernel)
theorem d89_2 : ft 89 2 = some (.invokevirtual 119, 3, 5, 88, 1, 0, 781) := ftq_ok (by decide +kernel)
theorem d89_5 : ft 89 5 = some (.ifCond .ne 6, 3, 8, 11, 0, 0, 0) := ftq_ok (by decide +kernel)
theorem d89_8 : ft 89 8 = some (.bipush (-101), 2, 10, 0, 0, 0, 0) := ftq_ok (by decide +kernel)
theorem d89_10 : ft 89 10 = some (.ireturn, 1, 11, 0, 0, 0, 0) := ftq_ok (by decide +kernel)
theorem d89_11 : ft 89 11 = some (.iload_n 2, 1, 12, 0, 0, 0, 0) := ftq_ok (by decide +kernel)
theorem d89_12 : ft 89 12 = some (.ifCond .ne 12, 3, 15, 24, 0, 0, 0) := ftq_ok (by decide +kernel)
theorem d89_15 : ft 89 15 = some (.aload_n 0, 1, 16, 0, 0, 0, 0) := ftq_ok (by decide +kernel)
theorem d89_16 : ft 89 16 = some (.getfield 13, 3, 19, 7, 9, 3, 632) := ftq_ok (by decide +kernel)
theorem d89_19 : ft 89 19 = some (.iload_n 1, 1, 20, 0, 0, 0, 0) := ftq_ok (by decide +kernel)
theorem d89_20 : ft 89 20 = some (.iaload, 1, 21, 0, 0, 0, 0) := ftq_ok (by decide +kernel)
theorem d89_21 : ft 89 21 = some (.goto 19, 3, 24, 40, 0, 0, 0) := ftq_ok (by decide +kernel)
theorem d89_24 : ft 89 24 = some (.iload_n 2, 1, 25, 0, 0, 0, 0) := ftq_ok (by decide +kernel)
theorem d89_25 : ft 89 25 = some (.iconst 1, 1, 26, 0, 0, 0, 0) := ftq_ok (by decide +kernel)
theorem d89_26 : ft 89 26 = some (.if_icmp .ne 12, 3, 29, 38, 0, 0, 0) := ftq_ok (by decide +kernel)
theorem d89_29 : ft 89 29 = some (.aload_n 0, 1, 30, 0, 0, 0, 0) := ftq_ok (by decide +kernel)
theorem d89_30 : ft 89 30 = some (.getfield 16, 3, 33, 7, 10, 3, 633) := ftq_ok (by decide +kernel)
theorem d89_33 : ft 89 33 = some (.iload_n 1, 1, 34, 0, 0, 0, 0) := ftq_ok (by decide +kernel)
theorem d89_34 : ft 89 34 = some (.iaload, 1, 35, 0, 0, 0, 0) := ftq_ok (by decide +kernel)
theorem d89_35 : ft 89 35 = some (.goto 5, 3, 38, 40, 0, 0, 0) := ftq_ok (by decide +kernel)
theorem d89_38 : ft 89 38 = some (.bipush (-102), 2, 40, 0, 0, 0, 0) := ftq_ok (by decide +kernel)
theorem d89_40 : ft 89 40 = some (.ireturn, 1, 41, 0, 0, 0, 0) := ftq_ok (by decide +kernel)
-- 90: Mo_isWalker
theorem d90_0 : ft 90 0 = some (.iload_n 1, 1, 1, 0, 0, 0, 0) := ftq_ok (by decide +kernel)
theorem d90_1 : ft 90 1 = some (.i2l, 1, 2, 0, 0, 0, 0) := ftq_ok (by decide +kernel)
theorem d90_2 : ft 90 2 = some (.lconst 0, 1, 3, 0, 0, 0, 0) := ftq_ok (by decide +kernel)
theorem d90_3 : ft 90 3 = some (.aload_n 0, 1, 4, 0, 0, 0, 0) := ftq_ok (by decide +kernel)
theorem d90_4 : ft 90 4 = some (.getfield 113, 3, 7, 7, 11, 0, 634) := ftq_ok (by decide +kernel)
theorem d90_7 : ft 90 7 = some (.iconst 1, 1, 8, 0, 0, 0, 0) := ftq_ok (by decide +kernel)
theorem d90_8 : ft 90 8 = some (.isub, 1, 9, 0, 0, 0, 0) := ftq_ok (by decide +kernel)
theorem d90_9 : ft 90 9 = some (.i2l, 1, 10, 0, 0, 0, 0) := ftq_ok (by decide +kernel)
theorem d90_10 : ft 90 10 = some (.invokestatic 73, 3, 13, 79, 3, 1, 749) := ftq_ok (by decide +kernel)
theorem d90_13 : ft 90 13 = some (.ireturn, 1, 14, 0, 0, 0, 0) := ftq_ok (by decide +kernel)
-- 91: Mo_walker
theorem d91_0 : ft 91 0 = some (.iload_n 1, 1, 1, 0, 0, 0, 0) := ftq_ok (by decide +kernel)
theorem d91_1 : ft 91 1 = some (.i2l, 1, 2, 0, 0, 0, 0) := ftq_ok (by decide +kernel)
theorem d91_2 : ft 91 2 = some (.lconst 0, 1, 3, 0, 0, 0, 0) := ftq_ok (by decide +kernel)
theorem d91_3 : ft 91 3 = some (.ldc2_w 122, 3, 6, 1, 789, 0, 4) := ftq_ok (by decide +kernel)
theorem d91_6 : ft 91 6 = some (.invokestatic 73, 3, 9, 79, 3, 1, 749) := ftq_ok (by decide +kernel)
theorem d91_9 : ft 91 9 = some (.ifCond .eq 15, 3, 12, 24, 0, 0, 0) := ftq_ok (by decide +kernel)
theorem d91_12 : ft 91 12 = some (.iload_n 2, 1, 13, 0, 0, 0, 0) := ftq_ok (by decide +kernel)
theorem d91_13 : ft 91 13 = some (.i2l, 1, 14, 0, 0, 0, 0) := ftq_ok (by decide +kernel)
theorem d91_14 : ft 91 14 = some (.lconst 1, 1, 15, 0, 0, 0, 0) := ftq_ok (by decide +kernel)
theorem d91_15 : ft 91 15 = some (.ldc2_w 124, 3, 18, 1, 790, 0, 99) := ftq_ok (by decide +kernel)
theorem d91_18 : ft 91 18 = some (.invokestatic 73, 3, 21, 79, 3, 1, 749) := ftq_ok (by decide +kernel)
theorem d91_21 : ft 91 21 = some (.ifCond .ne 6, 3, 24, 27, 0, 0, 0) := ftq_ok (by decide +kernel)
theorem d91_24 : ft 91 24 = some (.bipush (-102), 2, 26, 0, 0, 0, 0) := ftq_ok (by decide +kernel)
theorem d91_26 : ft 91 26 = some (.ireturn, 1, 27, 0, 0, 0, 0) := ftq_ok (by decide +kernel)
theorem d91_27 : ft 91 27 = some (.aload_n 0, 1, 28, 0, 0, 0, 0) := ftq_ok (by decide +kernel)
theorem d91_28 : ft 91 28 = some (.invokevirtual 126, 3, 31, 87, 0, 0, 791) := ftq_ok (by decide +kernel)
theorem d91_31 : ft 91 31 = some (.ifCond .eq 6, 3, 34, 37, 0, 0, 0) := ftq_ok (by decide +kernel)
theorem d91_34 : ft 91 34 = some (.bipush (-103), 2, 36, 0, 0, 0, 0) := ftq_ok (by decide +kernel)
theorem d91_36 : ft 91 36 = some (.ireturn, 1, 37, 0, 0, 0, 0) := ftq_ok (by decide +kernel)
theorem d91_37 : ft 91 37 = some (.aload_n 0, 1, 38, 0, 0, 0, 0) := ftq_ok (by decide +kernel)
theorem d91_38 : ft 91 38 = some (.getfield 113, 3, 41, 7, 11, 0, 634) := ftq_ok (by decide +kernel)
theorem d91_41 : ft 91 41 = some (.iconst 5, 1, 42, 0, 0, 0, 0) := ftq_ok (by decide +kernel)
theorem d91_42 : ft 91 42 = some (.if_icmp .ne 6, 3, 45, 48, 0, 0, 0) := ftq_ok (by decide +kernel)
theorem d91_45 : ft 91 45 = some (.bipush (-104), 2, 47, 0, 0, 0, 0) := ftq_ok (by decide +kernel)
theorem d91_47 : ft 91 47 = some (.ireturn, 1, 48, 0, 0, 0, 0) := ftq_ok (by decide +kernel)
theorem d91_48 : ft 91 48 = some (.aload_n 0, 1, 49, 0, 0, 0, 0) := ftq_ok (by decide +kernel)
theorem d91_49 : ft 91 49 = some (.getfield 19, 3, 52, 7, 12, 3, 635) := ftq_ok (by decide +kernel)
theorem d91_52 : ft 91 52 = some (.iconst 3, 1, 53, 0, 0, 0, 0) := ftq_ok (by decide +kernel)
theorem d91_53 : ft 91 53 = some (.aload_n 0, 1, 54, 0, 0, 0, 0) := ftq_ok (by decide +kernel)
theorem d91_54 : ft 91 54 = some (.getfield 113, 3, 57, 7, 11, 0, 634) := ftq_ok (by decide +kernel)
theorem d91_57 : ft 91 57 = some (.imul, 1, 58, 0, 0, 0, 0) := ftq_ok (by decide +kernel)
theorem d91_58 : ft 91 58 = some (.iload_n 1, 1, 59, 0, 0, 0, 0) := ftq_ok (by decide +kernel)
theorem d91_59 : ft 91 59 = some (.iastore, 1, 60, 0, 0, 0, 0) := ftq_ok (by decide +kernel)
theorem d91_60 : ft 91 60 = some (.aload_n 0, 1, 61, 0, 0, 0, 0) := ftq_ok (by decide +kernel)
theorem d91_61 : ft 91 61 = some (.getfield 19, 3, 64, 7, 12, 3, 635) := ftq_ok (by decide +kernel)
theorem d91_64 : ft 91 64 = some (.iconst 3, 1, 65, 0, 0, 0, 0) := ftq_ok (by decide +kernel)
theorem d91_65 : ft 91 65 = some (.aload_n 0, 1, 66, 0, 0, 0, 0) := ftq_ok (by decide +kernel)
theorem d91_66 : ft 91 66 = some (.getfield 113, 3, 69, 7, 11, 0, 634) := ftq_ok (by decide +kernel)
theorem d91_69 : ft 91 69 = some (.imul, 1, 70, 0, 0, 0, 0) := ftq_ok (by decide +kernel)
theorem d91_70 : ft 91 70 = some (.iconst 1, 1, 71, 0, 0, 0, 0) := ftq_ok (by decide +kernel)
theorem d91_71 : ft 91 71 = some (.iadd, 1, 72, 0, 0, 0, 0) := ftq_ok (by decide +kernel)
theorem d91_72 : ft 91 72 = some (.iload_n 2, 1, 73, 0, 0, 0, 0) := ftq_ok (by decide +kernel)
theorem d91_73 : ft 91 73 = some (.iastore, 1, 74, 0, 0, 0, 0) := ftq_ok (by decide +kernel)
theorem d91_74 : ft 91 74 = some (.aload_n 0, 1, 75, 0, 0, 0, 0) := ftq_ok (by decide +kernel)
theorem d91_75 : ft 91 75 = some (.getfield 19, 3, 78, 7, 12, 3, 635) := ftq_ok (by decide +kernel)
theorem d91_78 : ft 91 78 = some (.iconst 3, 1, 79, 0, 0, 0, 0) := ftq_ok (by decide +kernel)
theorem d91_79 : ft 91 79 = some (.aload_n 0, 1, 80, 0, 0, 0, 0) := ftq_ok (by decide +kernel)
theorem d91_80 : ft 91 80 = some (.getfield 113, 3, 83, 7, 11, 0, 634) := ftq_ok (by decide +kernel)
theorem d91_83 : ft 91 83 = some (.imul, 1, 84, 0, 0, 0, 0) := ftq_ok (by decide +kernel)
theorem d91_84 : ft 91 84 = some (.iconst 2, 1, 85, 0, 0, 0, 0) := ftq_ok (by decide +kernel)
theorem d91_85 : ft 91 85 = some (.iadd, 1, 86, 0, 0, 0, 0) := ftq_ok (by decide +kernel)
theorem d91_86 : ft 91 86 = some (.iconst (-1), 1, 87, 0, 0, 0, 0) := ftq_ok (by decide +kernel)
theorem d91_87 : ft 91 87 = some (.iastore, 1, 88, 0, 0, 0, 0) := ftq_ok (by decide +kernel)
theorem d91_88 : ft 91 88 = some (.aload_n 0, 1, 89, 0, 0, 0, 0) := ftq_ok (by decide +kernel)
theorem d91_89 : ft 91 89 = some (.getfield 22, 3, 92, 7, 13, 3, 636) := ftq_ok (by decide +kernel)
theorem d91_92 : ft 91 92 = some (.aload_n 0, 1, 93, 0, 0, 0, 0) := ftq_ok (by decide +kernel)
theorem d91_93 : ft 91 93 = some (.getfield 113, 3, 96, 7, 11, 0, 634) := ftq_ok (by decide +kernel)
theorem d91_96 : ft 91 96 = some (.iload_n 2, 1, 97, 0, 0, 0, 0) := ftq_ok (by decide +kernel)
theorem d91_97 : ft 91 97 = some (.iastore, 1, 98, 0, 0, 0, 0) := ftq_ok (by decide +kernel)
theorem d91_98 : ft 91 98 = some (.aload_n 0, 1, 99, 0, 0, 0, 0) := ftq_ok (by decide +kernel)
theorem d91_99 : ft 91 99 = some (.getfield 25, 3, 102, 7, 14, 3, 637) := ftq_ok (by decide +kernel)
theorem d91_102 : ft 91 102 = some (.aload_n 0, 1, 103, 0, 0, 0, 0) := ftq_ok (by decide +kernel)
theorem d91_103 : ft 91 103 = some (.getfield 113, 3, 106, 7, 11, 0, 634) := ftq_ok (by decide +kernel)
theorem d91_106 : ft 91 106 = some (.aload_n 0, 1, 107, 0, 0, 0, 0) := ftq_ok (by decide +kernel)
theorem d91_107 : ft 91 107 = some (.getfield 113, 3, 110, 7, 11, 0, 634) := ftq_ok (by decide +kernel)
theorem d91_110 : ft 91 110 = some (.iastore, 1, 111, 0, 0, 0, 0) := ftq_ok (by decide +kernel)
theorem d91_111 : ft 91 111 = some (.aload_n 0, 1, 112, 0, 0, 0, 0) := ftq_ok (by decide +kernel)
theorem d91_112 : ft 91 112 = some (.dup, 1, 113, 0, 0, 0, 0) := ftq_ok (by decide +kernel)
theorem d91_113 : ft 91 113 = some (.getfield 113, 3, 116, 7, 11, 0, 634) := ftq_ok (by decide +kernel)
theorem d91_116 : ft 91 116 = some (.iconst 1, 1, 117, 0, 0, 0, 0) := ftq_ok (by decide +kernel)
theorem d91_117 : ft 91 117 = some (.iadd, 1, 118, 0, 0, 0, 0) := ftq_ok (by decide +kernel)
theorem d91_118 : ft 91 118 = some (.putfield 113, 3, 121, 7, 11, 0, 634) := ftq_ok (by decide +kernel)
theorem d91_121 : ft 91 121 = some (.aload_n 0, 1, 122, 0, 0, 0, 0) := ftq_ok (by decide +kernel)
theorem d91_122 : ft 91 122 = some (.getfield 113, 3, 125, 7, 11, 0, 634) := ftq_ok (by decide +kernel)
theorem d91_125 : ft 91 125 = some (.iconst 1, 1, 126, 0, 0, 0, 0) := ftq_ok (by decide +kernel)
theorem d91_126 : ft 91 126 = some (.isub, 1, 127, 0, 0, 0, 0) := ftq_ok (by decide +kernel)
theorem d91_127 : ft 91 127 = some (.ireturn, 1, 128, 0, 0, 0, 0) := ftq_ok (by decide +kernel)
-- 92: Mo_paysAt
theorem d92_0 : ft 92 0 = some (.aload_n 1, 1, 1, 0, 0, 0, 0) := ftq_ok (by decide +kernel)
theorem d92_1 : ft 92 1 = some (.iload_n 2, 1, 2, 0, 0, 0, 0) := ftq_ok (by decide +kernel)
theorem d92_2 : ft 92 2 = some (.iaload, 1, 3, 0, 0, 0, 0) := ftq_ok (by decide +kernel)
theorem d92_3 : ft 92 3 = some (.istore 4, 2, 5, 0, 0, 0, 0) := ftq_ok (by decide +kernel)
theorem d92_5 : ft 92 5 = some (.aload_n 0, 1, 6, 0, 0, 0, 0) := ftq_ok (by decide +kernel)
theorem d92_6 : ft 92 6 = some (.getfield 19, 3, 9, 7, 12, 3, 635) := ftq_ok (by decide +kernel)
theorem d92_9 : ft 92 9 = some (.iconst 3, 1, 10, 0, 0, 0, 0) := ftq_ok (by decide +kernel)
theorem d92_10 : ft 92 10 = some (.iload 4, 2, 12, 0, 0, 0, 0) := ftq_ok (by decide +kernel)
theorem d92_12 : ft 92 12 = some (.imul, 1, 13, 0, 0, 0, 0) := ftq_ok (by decide +kernel)
theorem d92_13 : ft 92 13 = some (.iaload, 1, 14, 0, 0, 0, 0) := ftq_ok (by decide +kernel)
theorem d92_14 : ft 92 14 = some (.istore 5, 2, 16, 0, 0, 0, 0) := ftq_ok (by decide +kernel)
theorem d92_16 : ft 92 16 = some (.iload_n 2, 1, 17, 0, 0, 0, 0) := ftq_ok (by decide +kernel)
theorem d92_17 : ft 92 17 = some (.ifCond .ne 13, 3, 20, 30, 0, 0, 0) := ftq_ok (by decide +kernel)
theorem d92_20 : ft 92 20 = some (.iload 5, 2, 22, 0, 0, 0, 0) := ftq_ok (by decide +kernel)
theorem d92_22 : ft 92 22 = some (.iconst 2, 1, 23, 0, 0, 0, 0) := ftq_ok (by decide +kernel)
theorem d92_23 : ft 92 23 = some (.if_icmp .le 7, 3, 26, 30, 0, 0, 0) := ftq_ok (by decide +kernel)
theorem d92_26 : ft 92 26 = some (.iconst 1, 1, 27, 0, 0, 0, 0) := ftq_ok (by decide +kernel)
theorem d92_27 : ft 92 27 = some (.goto 36, 3, 30, 63, 0, 0, 0) := ftq_ok (by decide +kernel)
theorem d92_30 : ft 92 30 = some (.iload_n 2, 1, 31, 0, 0, 0, 0) := ftq_ok (by decide +kernel)
theorem d92_31 : ft 92 31 = some (.ifCond .le 31, 3, 34, 62, 0, 0, 0) := ftq_ok (by decide +kernel)
theorem d92_34 : ft 92 34 = some (.iload 5, 2, 36, 0, 0, 0, 0) := ftq_ok (by decide +kernel)
theorem d92_36 : ft 92 36 = some (.iconst 1, 1, 37, 0, 0, 0, 0) := ftq_ok (by decide +kernel)
theorem d92_37 : ft 92 37 = some (.if_icmp .ne 25, 3, 40, 62, 0, 0, 0) := ftq_ok (by decide +kernel)
theorem d92_40 : ft 92 40 = some (.aload_n 0, 1, 41, 0, 0, 0, 0) := ftq_ok (by decide +kernel)
theorem d92_41 : ft 92 41 = some (.getfield 19, 3, 44, 7, 12, 3, 635) := ftq_ok (by decide +kernel)
theorem d92_44 : ft 92 44 = some (.iconst 3, 1, 45, 0, 0, 0, 0) := ftq_ok (by decide +kernel)
theorem d92_45 : ft 92 45 = some (.aload_n 1, 1, 46, 0, 0, 0, 0) := ftq_ok (by decide +kernel)
theorem d92_46 : ft 92 46 = some (.iload_n 2, 1, 47, 0, 0, 0, 0) := ftq_ok (by decide +kernel)
theorem d92_47 : ft 92 47 = some (.iconst 1, 1, 48, 0, 0, 0, 0) := ftq_ok (by decide +kernel)
theorem d92_48 : ft 92 48 = some (.isub, 1, 49, 0, 0, 0, 0) := ftq_ok (by decide +kernel)
theorem d92_49 : ft 92 49 = some (.iaload, 1, 50, 0, 0, 0, 0) := ftq_ok (by decide +kernel)
theorem d92_50 : ft 92 50 = some (.imul, 1, 51, 0, 0, 0, 0) := ftq_ok (by decide +kernel)
theorem d92_51 : ft 92 51 = some (.iaload, 1, 52, 0, 0, 0, 0) := ftq_ok (by decide +kernel)
theorem d92_52 : ft 92 52 = some (.iconst 4, 1, 53, 0, 0, 0, 0) := ftq_ok (by decide +kernel)
theorem d92_53 : ft 92 53 = some (.if_icmp .ne 9, 3, 56, 62, 0, 0, 0) := ftq_ok (by decide +kernel)
theorem d92_56 : ft 92 56 = some (.iload_n 2, 1, 57, 0, 0, 0, 0) := ftq_ok (by decide +kernel)
theorem d92_57 : ft 92 57 = some (.iconst 1, 1, 58, 0, 0, 0, 0) := ftq_ok (by decide +kernel)
theorem d92_58 : ft 92 58 = some (.isub, 1, 59, 0, 0, 0, 0) := ftq_ok (by decide +kernel)
theorem d92_59 : ft 92 59 = some (.goto 4, 3, 62, 63, 0, 0, 0) := ftq_ok (by decide +kernel)
theorem d92_62 : ft 92 62 = some (.iload_n 2, 1, 63, 0, 0, 0, 0) := ftq_ok (by decide +kernel)
theorem d92_63 : ft 92 63 = some (.istore 6, 2, 65, 0, 0, 0, 0) := ftq_ok (by decide +kernel)
theorem d92_65 : ft 92 65 = some (.iconst 1, 1, 66, 0, 0, 0, 0) := ftq_ok (by decide +kernel)
theorem d92_66 : ft 92 66 = some (.iload 6, 2, 68, 0, 0, 0, 0) := ftq_ok (by decide +kernel)
theorem d92_68 : ft 92 68 = some (.ishl, 1, 69, 0, 0, 0, 0) := ftq_ok (by decide +kernel)
theorem d92_69 : ft 92 69 = some (.istore 7, 2, 71, 0, 0, 0, 0) := ftq_ok (by decide +kernel)
theorem d92_71 : ft 92 71 = some (.iload_n 3, 1, 72, 0, 0, 0, 0) := ftq_ok (by decide +kernel)
theorem d92_72 : ft 92 72 = some (.iload 7, 2, 74, 0, 0, 0, 0) := ftq_ok (by decide +kernel)
theorem d92_74 : ft 92 74 = some (.iadd, 1, 75, 0, 0, 0, 0) := ftq_ok (by decide +kernel)
theorem d92_75 : ft 92 75 = some (.iconst 1, 1, 76, 0, 0, 0, 0) := ftq_ok (by decide +kernel)
theorem d92_76 : ft 92 76 = some (.isub, 1, 77, 0, 0, 0, 0) := ftq_ok (by decide +kernel)
theorem d92_77 : ft 92 77 = some (.iload 7, 2, 79, 0, 0, 0, 0) := ftq_ok (by decide +kernel)
theorem d92_79 : ft 92 79 = some (.idiv, 1, 80, 0, 0, 0, 0) := ftq_ok (by decide +kernel)
theorem d92_80 : ft 92 80 = some (.ireturn, 1, 81, 0, 0, 0, 0) := ftq_ok (by decide +kernel)
-- 93: Mo_placeOf
theorem d93_0 : ft 93 0 = some (.iconst 0, 1, 1, 0, 0, 0, 0) := ftq_ok (by decide +kernel)
theorem d93_1 : ft 93 1 = some (.istore_n 2, 1, 2, 0, 0, 0, 0) := ftq_ok (by decide +kernel)
theorem d93_2 : ft 93 2 = some (.aload_n 0, 1, 3, 0, 0, 0, 0) := ftq_ok (by decide +kernel)
theorem d93_3 : ft 93 3 = some (.getfield 25, 3, 6, 7, 14, 3, 637) := ftq_ok (by decide +kernel)
theorem d93_6 : ft 93 6 = some (.iload_n 2, 1, 7, 0, 0, 0, 0) := ftq_ok (by decide +kernel)
theorem d93_7 : ft 93 7 = some (.iaload, 1, 8, 0, 0, 0, 0) := ftq_ok (by decide +kernel)
theorem d93_8 : ft 93 8 = some (.iload_n 1, 1, 9, 0, 0, 0, 0) := ftq_ok (by decide +kernel)
theorem d93_9 : ft 93 9 = some (.if_icmp .eq 9, 3, 12, 18, 0, 0, 0) := ftq_ok (by decide +kernel)
theorem d93_12 : ft 93 12 = some (.iinc 2 1, 3, 15, 0, 0, 0, 0) := ftq_ok (by decide +kernel)
theorem d93_15 : ft 93 15 = some (.goto (-13), 3, 18, 2, 0, 0, 0) := ftq_ok (by decide +kernel)
theorem d93_18 : ft 93 18 = some (.iload_n 2, 1, 19, 0, 0, 0, 0) := ftq_ok (by decide +kernel)
theorem d93_19 : ft 93 19 = some (.ireturn, 1, 20, 0, 0, 0, 0) := ftq_ok (by decide +kernel)
-- 94: Mo_firstsOf
theorem d94_0 : ft 94 0 = some (.iconst 0, 1, 1, 0, 0, 0, 0) := ftq_ok (by decide +kernel)
theorem d94_1 : ft 94 1 = some (.istore_n 2, 1, 2, 0, 0, 0, 0) := ftq_ok (by decide +kernel)
theorem d94_2 : ft 94 2 = some (.iconst 0, 1, 3, 0, 0, 0, 0) := ftq_ok (by decide +kernel)
theorem d94_3 : ft 94 3 = some (.istore_n 3, 1, 4, 0, 0, 0, 0) := ftq_ok (by decide +kernel)
theorem d94_4 : ft 94 4 = some (.iload_n 3, 1, 5, 0, 0, 0, 0) := ftq_ok (by decide +kernel)
theorem d94_5 : ft 94 5 = some (.aload_n 0, 1, 6, 0, 0, 0, 0) := ftq_ok (by decide +kernel)
theorem d94_6 : ft 94 6 = some (.getfield 107, 3, 9, 7, 6, 0, 629) := ftq_ok (by decide +kernel)
theorem d94_9 : ft 94 9 = some (.if_icmp .ge 27, 3, 12, 36, 0, 0, 0) := ftq_ok (by decide +kernel)
theorem d94_12 : ft 94 12 = some (.iload_n 2, 1, 13, 0, 0, 0, 0) := ftq_ok (by decide +kernel)
theorem d94_13 : ft 94 13 = some (.aload_n 0, 1, 14, 0, 0, 0, 0) := ftq_ok (by decide +kernel)
theorem d94_14 : ft 94 14 = some (.getfield 16, 3, 17, 7, 10, 3, 633) := ftq_ok (by decide +kernel)
theorem d94_17 : ft 94 17 = some (.iload_n 3, 1, 18, 0, 0, 0, 0) := ftq_ok (by decide +kernel)
theorem d94_18 : ft 94 18 = some (.iaload, 1, 19, 0, 0, 0, 0) := ftq_ok (by decide +kernel)
theorem d94_19 : ft 94 19 = some (.iload_n 1, 1, 20, 0, 0, 0, 0) := ftq_ok (by decide +kernel)
theorem d94_20 : ft 94 20 = some (.if_icmp .ne 7, 3, 23, 27, 0, 0, 0) := ftq_ok (by decide +kernel)
theorem d94_23 : ft 94 23 = some (.iconst 1, 1, 24, 0, 0, 0, 0) := ftq_ok (by decide +kernel)
theorem d94_24 : ft 94 24 = some (.goto 4, 3, 27, 28, 0, 0, 0) := ftq_ok (by decide +kernel)
theorem d94_27 : ft 94 27 = some (.iconst 0, 1, 28, 0, 0, 0, 0) := ftq_ok (by decide +kernel)
theorem d94_28 : ft 94 28 = some (.iadd, 1, 29, 0, 0, 0, 0) := ftq_ok (by decide +kernel)
theorem d94_29 : ft 94 29 = some (.istore_n 2, 1, 30, 0, 0, 0, 0) := ftq_ok (by decide +kernel)
theorem d94_30 : ft 94 30 = some (.iinc 3 1, 3, 33, 0, 0, 0, 0) := ftq_ok (by decide +kernel)
theorem d94_33 : ft 94 33 = some (.goto (-29), 3, 36, 4, 0, 0, 0) := ftq_ok (by decide +kernel)
theorem d94_36 : ft 94 36 = some (.iload_n 2, 1, 37, 0, 0, 0, 0) := ftq_ok (by decide +kernel)
theorem d94_37 : ft 94 37 = some (.ireturn, 1, 38, 0, 0, 0, 0) := ftq_ok (by decide +kernel)
-- 95: Mo_tells
theorem d95_0 : ft 95 0 = some (.iload_n 2, 1, 1, 0, 0, 0, 0) := ftq_ok (by decide +kernel)
theorem d95_1 : ft 95 1 = some (.tableswitch 122 0 6 #[43, 43, 54, 61, 67, 73, 111], 43, 44, 0, 0, 0, 0) := ftq_ok (by decide +kernel)
theorem d95_44 : ft 95 44 = some (.aload_n 0, 1, 45, 0, 0, 0, 0) := ftq_ok (by decide +kernel)
theorem d95_45 : ft 95 45 = some (.getfield 19, 3, 48, 7, 12, 3, 635) := ftq_ok (by decide +kernel)
theorem d95_48 : ft 95 48 = some (.iconst 3, 1, 49, 0, 0, 0, 0) := ftq_ok (by decide +kernel)
theorem d95_49 : ft 95 49 = some (.iload_n 1, 1, 50, 0, 0, 0, 0) := ftq_ok (by decide +kernel)
theorem d95_50 : ft 95 50 = some (.imul, 1, 51, 0, 0, 0, 0) := ftq_ok (by decide +kernel)
theorem d95_51 : ft 95 51 = some (.iload_n 2, 1, 52, 0, 0, 0, 0) := ftq_ok (by decide +kernel)
theorem d95_52 : ft 95 52 = some (.iadd, 1, 53, 0, 0, 0, 0) := ftq_ok (by decide +kernel)
theorem d95_53 : ft 95 53 = some (.iaload, 1, 54, 0, 0, 0, 0) := ftq_ok (by decide +kernel)
theorem d95_54 : ft 95 54 = some (.ireturn, 1, 55, 0, 0, 0, 0) := ftq_ok (by decide +kernel)
theorem d95_55 : ft 95 55 = some (.aload_n 0, 1, 56, 0, 0, 0, 0) := ftq_ok (by decide +kernel)
theorem d95_56 : ft 95 56 = some (.getfield 22, 3, 59, 7, 13, 3, 636) := ftq_ok (by decide +kernel)
theorem d95_59 : ft 95 59 = some (.iload_n 1, 1, 60, 0, 0, 0, 0) := ftq_ok (by decide +kernel)
theorem d95_60 : ft 95 60 = some (.iaload, 1, 61, 0, 0, 0, 0) := ftq_ok (by decide +kernel)
theorem d95_61 : ft 95 61 = some (.ireturn, 1, 62, 0, 0, 0, 0) := ftq_ok (by decide +kernel)
theorem d95_62 : ft 95 62 = some (.aload_n 0, 1, 63, 0, 0, 0, 0) := ftq_ok (by decide +kernel)
theorem d95_63 : ft 95 63 = some (.iload_n 1, 1, 64, 0, 0, 0, 0) := ftq_ok (by decide +kernel)
theorem d95_64 : ft 95 64 = some (.invokevirtual 130, 3, 67, 93, 1, 0, 807) := ftq_ok (by decide +kernel)
theorem d95_67 : ft 95 67 = some (.ireturn, 1, 68, 0, 0, 0, 0) := ftq_ok (by decide +kernel)
theorem d95_68 : ft 95 68 = some (.aload_n 0, 1, 69, 0, 0, 0, 0) := ftq_ok (by decide +kernel)
theorem d95_69 : ft 95 69 = some (.iload_n 1, 1, 70, 0, 0, 0, 0) := ftq_ok (by decide +kernel)
theorem d95_70 : ft 95 70 = some (.invokevirtual 134, 3, 73, 94, 1, 0, 811) := ftq_ok (by decide +kernel)
theorem d95_73 : ft 95 73 = some (.ireturn, 1, 74, 0, 0, 0, 0) := ftq_ok (by decide +kernel)
theorem d95_74 : ft 95 74 = some (.aload_n 0, 1, 75, 0, 0, 0, 0) := ftq_ok (by decide +kernel)
theorem d95_75 : ft 95 75 = some (.getfield 107, 3, 78, 7, 6, 0, 629) := ftq_ok (by decide +kernel)
theorem d95_78 : ft 95 78 = some (.aload_n 0, 1, 79, 0, 0, 0, 0) := ftq_ok (by decide +kernel)
theorem d95_79 : ft 95 79 = some (.getfield 101, 3, 82, 7, 4, 0, 627) := ftq_ok (by decide +kernel)
theorem d95_82 : ft 95 82 = some (.if_icmp .ne 7, 3, 85, 89, 0, 0, 0) := ftq_ok (by decide +kernel)
theorem d95_85 : ft 95 85 = some (.iconst (-1), 1, 86, 0, 0, 0, 0) := ftq_ok (by decide +kernel)
theorem d95_86 : ft 95 86 = some (.goto 25, 3, 89, 111, 0, 0, 0) := ftq_ok (by decide +kernel)
theorem d95_89 : ft 95 89 = some (.aload_n 0, 1, 90, 0, 0, 0, 0) := ftq_ok (by decide +kernel)
theorem d95_90 : ft 95 90 = some (.aload_n 0, 1, 91, 0, 0, 0, 0) := ftq_ok (by decide +kernel)
theorem d95_91 : ft 95 91 = some (.getfield 25, 3, 94, 7, 14, 3, 637) := ftq_ok (by decide +kernel)
theorem d95_94 : ft 95 94 = some (.aload_n 0, 1, 95, 0, 0, 0, 0) := ftq_ok (by decide +kernel)
theorem d95_95 : ft 95 95 = some (.iload_n 1, 1, 96, 0, 0, 0, 0) := ftq_ok (by decide +kernel)
theorem d95_96 : ft 95 96 = some (.invokevirtual 130, 3, 99, 93, 1, 0, 807) := ftq_ok (by decide +kernel)
theorem d95_99 : ft 95 99 = some (.aload_n 0, 1, 100, 0, 0, 0, 0) := ftq_ok (by decide +kernel)
theorem d95_100 : ft 95 100 = some (.getfield 13, 3, 103, 7, 9, 3, 632) := ftq_ok (by decide +kernel)
theorem d95_103 : ft 95 103 = some (.aload_n 0, 1, 104, 0, 0, 0, 0) := ftq_ok (by decide +kernel)
theorem d95_104 : ft 95 104 = some (.getfield 107, 3, 107, 7, 6, 0, 629) := ftq_ok (by decide +kernel)
theorem d95_107 : ft 95 107 = some (.iaload, 1, 108, 0, 0, 0, 0) := ftq_ok (by decide +kernel)
theorem d95_108 : ft 95 108 = some (.invokevirtual 137, 3, 111, 92, 3, 0, 815) := ftq_ok (by decide +kernel)
theorem d95_111 : ft 95 111 = some (.ireturn, 1, 112, 0, 0, 0, 0) := ftq_ok (by decide +kernel)
theorem d95_112 : ft 95 112 = some (.aload_n 0, 1, 113, 0, 0, 0, 0) := ftq_ok (by decide +kernel)
theorem d95_113 : ft 95 113 = some (.getfield 19, 3, 116, 7, 12, 3, 635) := ftq_ok (by decide +kernel)
theorem d95_116 : ft 95 116 = some (.iconst 3, 1, 117, 0, 0, 0, 0) := ftq_ok (by decide +kernel)
theorem d95_117 : ft 95 117 = some (.iload_n 1, 1, 118, 0, 0, 0, 0) := ftq_ok (by decide +kernel)
theorem d95_118 : ft 95 118 = some (.imul, 1, 119, 0, 0, 0, 0) := ftq_ok (by decide +kernel)
theorem d95_119 : ft 95 119 = some (.iconst 2, 1, 120, 0, 0, 0, 0) := ftq_ok (by decide +kernel)
theorem d95_120 : ft 95 120 = some (.iadd, 1, 121, 0, 0, 0, 0) := ftq_ok (by decide +kernel)
theorem d95_121 : ft 95 121 = some (.iaload, 1, 122, 0, 0, 0, 0) := ftq_ok (by decide +kernel)
theorem d95_122 : ft 95 122 = some (.ireturn, 1, 123, 0, 0, 0, 0) := ftq_ok (by decide +kernel)
theorem d95_123 : ft 95 123 = some (.bipush (-102), 2, 125, 0, 0, 0, 0) := ftq_ok (by decide +kernel)
theorem d95_125 : ft 95 125 = some (.ireturn, 1, 126, 0, 0, 0, 0) := ftq_ok (by decide +kernel)
-- 96: Mo_about
theorem d96_0 : ft 96 0 = some (.aload_n 0, 1, 1, 0, 0, 0, 0) := ftq_ok (by decide +kernel)
theorem d96_1 : ft 96 1 = some (.iload_n 1, 1, 2, 0, 0, 0, 0) := ftq_ok (by decide +kernel)
theorem d96_2 : ft 96 2 = some (.invokevirtual 141, 3, 5, 90, 1, 0, 799) := ftq_ok (by decide +kernel)
theorem d96_5 : ft 96 5 = some (.ifCond .eq 12, 3, 8, 17, 0, 0, 0) := ftq_ok (by decide +kernel)
theorem d96_8 : ft 96 8 = some (.aload_n 0, 1, 9, 0, 0, 0, 0) := ftq_ok (by decide +kernel)
theorem d96_9 : ft 96 9 = some (.iload_n 1, 1, 10, 0, 0, 0, 0) := ftq_ok (by decide +kernel)
theorem d96_10 : ft 96 10 = some (.iload_n 2, 1, 11, 0, 0, 0, 0) := ftq_ok (by decide +kernel)
theorem d96_11 : ft 96 11 = some (.invokevirtual 144, 3, 14, 95, 2, 0, 803) := ftq_ok (by decide +kernel)
theorem d96_14 : ft 96 14 = some (.goto 5, 3, 17, 19, 0, 0, 0) := ftq_ok (by decide +kernel)
theorem d96_17 : ft 96 17 = some (.bipush (-101), 2, 19, 0, 0, 0, 0) := ftq_ok (by decide +kernel)
theorem d96_19 : ft 96 19 = some (.ireturn, 1, 20, 0, 0, 0, 0) := ftq_ok (by decide +kernel)
-- 97: Mo_as
theorem d97_0 : ft 97 0 = some (.aload_n 0, 1, 1, 0, 0, 0, 0) := ftq_ok (by decide +kernel)
theorem d97_1 : ft 97 1 = some (.iload_n 1, 1, 2, 0, 0, 0, 0) := ftq_ok (by decide +kernel)
theorem d97_2 : ft 97 2 = some (.invokevirtual 141, 3, 5, 90, 1, 0, 799) := ftq_ok (by decide +kernel)
theorem d97_5 : ft 97 5 = some (.ifCond .ne 6, 3, 8, 11, 0, 0, 0) := ftq_ok (by decide +kernel)
theorem d97_8 : ft 97 8 = some (.bipush (-101), 2, 10, 0, 0, 0, 0) := ftq_ok (by decide +kernel)
theorem d97_10 : ft 97 10 = some (.ireturn, 1, 11, 0, 0, 0, 0) := ftq_ok (by decide +kernel)
theorem d97_11 : ft 97 11 = some (.iload_n 2, 1, 12, 0, 0, 0, 0) := ftq_ok (by decide +kernel)
theorem d97_12 : ft 97 12 = some (.i2l, 1, 13, 0, 0, 0, 0) := ftq_ok (by decide +kernel)
theorem d97_13 : ft 97 13 = some (.lconst 0, 1, 14, 0, 0, 0, 0) := ftq_ok (by decide +kernel)
theorem d97_14 : ft 97 14 = some (.ldc2_w 122, 3, 17, 1, 789, 0, 4) := ftq_ok (by decide +kernel)
theorem d97_17 : ft 97 17 = some (.invokestatic 73, 3, 20, 79, 3, 1, 749) := ftq_ok (by decide +kernel)
theorem d97_20 : ft 97 20 = some (.ifCond .ne 6, 3, 23, 26, 0, 0, 0) := ftq_ok (by decide +kernel)
theorem d97_23 : ft 97 23 = some (.bipush (-102), 2, 25, 0, 0, 0, 0) := ftq_ok (by decide +kernel)
theorem d97_25 : ft 97 25 = some (.ireturn, 1, 26, 0, 0, 0, 0) := ftq_ok (by decide +kernel)
theorem d97_26 : ft 97 26 = some (.aload_n 0, 1, 27, 0, 0, 0, 0) := ftq_ok (by decide +kernel)
theorem d97_27 : ft 97 27 = some (.getfield 19, 3, 30, 7, 12, 3, 635) := ftq_ok (by decide +kernel)
theorem d97_30 : ft 97 30 = some (.iconst 3, 1, 31, 0, 0, 0, 0) := ftq_ok (by decide +kernel)
theorem d97_31 : ft 97 31 = some (.iload_n 1, 1, 32, 0, 0, 0, 0) := ftq_ok (by decide +kernel)
theorem d97_32 : ft 97 32 = some (.imul, 1, 33, 0, 0, 0, 0) := ftq_ok (by decide +kernel)
theorem d97_33 : ft 97 33 = some (.iaload, 1, 34, 0, 0, 0, 0) := ftq_ok (by decide +kernel)
theorem d97_34 : ft 97 34 = some (.istore_n 3, 1, 35, 0, 0, 0, 0) := ftq_ok (by decide +kernel)
theorem d97_35 : ft 97 35 = some (.iload_n 2, 1, 36, 0, 0, 0, 0) := ftq_ok (by decide +kernel)
theorem d97_36 : ft 97 36 = some (.ifCond .eq 18, 3, 39, 54, 0, 0, 0) := ftq_ok (by decide +kernel)
theorem d97_39 : ft 97 39 = some (.iload_n 2, 1, 40, 0, 0, 0, 0) := ftq_ok (by decide +kernel)
theorem d97_40 : ft 97 40 = some (.iload_n 3, 1, 41, 0, 0, 0, 0) := ftq_ok (by decide +kernel)
theorem d97_41 : ft 97 41 = some (.if_icmp .eq 13, 3, 44, 54, 0, 0, 0) := ftq_ok (by decide +kernel)
theorem d97_44 : ft 97 44 = some (.iload_n 2, 1, 45, 0, 0, 0, 0) := ftq_ok (by decide +kernel)
theorem d97_45 : ft 97 45 = some (.iconst 3, 1, 46, 0, 0, 0, 0) := ftq_ok (by decide +kernel)
theorem d97_46 : ft 97 46 = some (.if_icmp .ne 12, 3, 49, 58, 0, 0, 0) := ftq_ok (by decide +kernel)
theorem d97_49 : ft 97 49 = some (.iload_n 3, 1, 50, 0, 0, 0, 0) := ftq_ok (by decide +kernel)
theorem d97_50 : ft 97 50 = some (.iconst 4, 1, 51, 0, 0, 0, 0) := ftq_ok (by decide +kernel)
theorem d97_51 : ft 97 51 = some (.if_icmp .ne 7, 3, 54, 58, 0, 0, 0) := ftq_ok (by decide +kernel)
theorem d97_54 : ft 97 54 = some (.iconst 1, 1, 55, 0, 0, 0, 0) := ftq_ok (by decide +kernel)
theorem d97_55 : ft 97 55 = some (.goto 4, 3, 58, 59, 0, 0, 0) := ftq_ok (by decide +kernel)
theorem d97_58 : ft 97 58 = some (.iconst 0, 1, 59, 0, 0, 0, 0) := ftq_ok (by decide +kernel)
theorem d97_59 : ft 97 59 = some (.istore 4, 2, 61, 0, 0, 0, 0) := ftq_ok (by decide +kernel)
theorem d97_61 : ft 97 61 = some (.iload 4, 2, 63, 0, 0, 0, 0) := ftq_ok (by decide +kernel)
theorem d97_63 : ft 97 63 = some (.ifCond .eq 7, 3, 66, 70, 0, 0, 0) := ftq_ok (by decide +kernel)
theorem d97_66 : ft 97 66 = some (.iload_n 1, 1, 67, 0, 0, 0, 0) := ftq_ok (by decide +kernel)
theorem d97_67 : ft 97 67 = some (.goto 4, 3, 70, 71, 0, 0, 0) := ftq_ok (by decide +kernel)
theorem d97_70 : ft 97 70 = some (.iconst (-1), 1, 71, 0, 0, 0, 0) := ftq_ok (by decide +kernel)
theorem d97_71 : ft 97 71 = some (.ireturn, 1, 72, 0, 0, 0, 0) := ftq_ok (by decide +kernel)
-- 98: Mo_asItIs
theorem d98_0 : ft 98 0 = some (.iconst 0, 1, 1, 0, 0, 0, 0) := ftq_ok (by decide +kernel)
theorem d98_1 : ft 98 1 = some (.istore_n 1, 1, 2, 0, 0, 0, 0) := ftq_ok (by decide +kernel)
theorem d98_2 : ft 98 2 = some (.iload_n 1, 1, 3, 0, 0, 0, 0) := ftq_ok (by decide +kernel)
theorem d98_3 : ft 98 3 = some (.iconst 5, 1, 4, 0, 0, 0, 0) := ftq_ok (by decide +kernel)
theorem d98_4 : ft 98 4 = some (.if_icmp .ge 33, 3, 7, 37, 0, 0, 0) := ftq_ok (by decide +kernel)
theorem d98_7 : ft 98 7 = some (.aload_n 0, 1, 8, 0, 0, 0, 0) := ftq_ok (by decide +kernel)
theorem d98_8 : ft 98 8 = some (.getfield 28, 3, 11, 7, 15, 3, 638) := ftq_ok (by decide +kernel)
theorem d98_11 : ft 98 11 = some (.iload_n 1, 1, 12, 0, 0, 0, 0) := ftq_ok (by decide +kernel)
theorem d98_12 : ft 98 12 = some (.aload_n 0, 1, 13, 0, 0, 0, 0) := ftq_ok (by decide +kernel)
theorem d98_13 : ft 98 13 = some (.getfield 25, 3, 16, 7, 14, 3, 637) := ftq_ok (by decide +kernel)
theorem d98_16 : ft 98 16 = some (.iload_n 1, 1, 17, 0, 0, 0, 0) := ftq_ok (by decide +kernel)
theorem d98_17 : ft 98 17 = some (.iaload, 1, 18, 0, 0, 0, 0) := ftq_ok (by decide +kernel)
theorem d98_18 : ft 98 18 = some (.iastore, 1, 19, 0, 0, 0, 0) := ftq_ok (by decide +kernel)
theorem d98_19 : ft 98 19 = some (.aload_n 0, 1, 20, 0, 0, 0, 0) := ftq_ok (by decide +kernel)
theorem d98_20 : ft 98 20 = some (.getfield 31, 3, 23, 7, 16, 3, 639) := ftq_ok (by decide +kernel)
theorem d98_23 : ft 98 23 = some (.iload_n 1, 1, 24, 0, 0, 0, 0) := ftq_ok (by decide +kernel)
theorem d98_24 : ft 98 24 = some (.aload_n 0, 1, 25, 0, 0, 0, 0) := ftq_ok (by decide +kernel)
theorem d98_25 : ft 98 25 = some (.getfield 22, 3, 28, 7, 13, 3, 636) := ftq_ok (by decide +kernel)
theorem d98_28 : ft 98 28 = some (.iload_n 1, 1, 29, 0, 0, 0, 0) := ftq_ok (by decide +kernel)
theorem d98_29 : ft 98 29 = some (.iaload, 1, 30, 0, 0, 0, 0) := ftq_ok (by decide +kernel)
theorem d98_30 : ft 98 30 = some (.iastore, 1, 31, 0, 0, 0, 0) := ftq_ok (by decide +kernel)
theorem d98_31 : ft 98 31 = some (.iinc 1 1, 3, 34, 0, 0, 0, 0) := ftq_ok (by decide +kernel)
theorem d98_34 : ft 98 34 = some (.goto (-32), 3, 37, 2, 0, 0, 0) := ftq_ok (by decide +kernel)
theorem d98_37 : ft 98 37 = some (.return_, 1, 38, 0, 0, 0, 0) := ftq_ok (by decide +kernel)
-- 99: Mo_layNow
theorem d99_0 : ft 99 0 = some (.iconst 0, 1, 1, 0, 0, 0, 0) := ftq_ok (by decide +kernel)
theorem d99_1 : ft 99 1 = some (.istore_n 1, 1, 2, 0, 0, 0, 0) := ftq_ok (by decide +kernel)
theorem d99_2 : ft 99 2 = some (.iload_n 1, 1, 3, 0, 0, 0, 0) := ftq_ok (by decide +kernel)
theorem d99_3 : ft 99 3 = some (.iconst 5, 1, 4, 0, 0, 0, 0) := ftq_ok (by decide +kernel)
theorem d99_4 : ft 99 4 = some (.if_icmp .ge 33, 3, 7, 37, 0, 0, 0) := ftq_ok (by decide +kernel)
theorem d99_7 : ft 99 7 = some (.aload_n 0, 1, 8, 0, 0, 0, 0) := ftq_ok (by decide +kernel)
theorem d99_8 : ft 99 8 = some (.getfield 25, 3, 11, 7, 14, 3, 637) := ftq_ok (by decide +kernel)
theorem d99_11 : ft 99 11 = some (.iload_n 1, 1, 12, 0, 0, 0, 0) := ftq_ok (by decide +kernel)
theorem d99_12 : ft 99 12 = some (.aload_n 0, 1, 13, 0, 0, 0, 0) := ftq_ok (by decide +kernel)
theorem d99_13 : ft 99 13 = some (.getfield 28, 3, 16, 7, 15, 3, 638) := ftq_ok (by decide +kernel)
theorem d99_16 : ft 99 16 = some (.iload_n 1, 1, 17, 0, 0, 0, 0) := ftq_ok (by decide +kernel)
theorem d99_17 : ft 99 17 = some (.iaload, 1, 18, 0, 0, 0, 0) := ftq_ok (by decide +kernel)
theorem d99_18 : ft 99 18 = some (.iastore, 1, 19, 0, 0, 0, 0) := ftq_ok (by decide +kernel)
theorem d99_19 : ft 99 19 = some (.aload_n 0, 1, 20, 0, 0, 0, 0) := ftq_ok (by decide +kernel)
theorem d99_20 : ft 99 20 = some (.getfield 22, 3, 23, 7, 13, 3, 636) := ftq_ok (by decide +kernel)
theorem d99_23 : ft 99 23 = some (.iload_n 1, 1, 24, 0, 0, 0, 0) := ftq_ok (by decide +kernel)
theorem d99_24 : ft 99 24 = some (.aload_n 0, 1, 25, 0, 0, 0, 0) := ftq_ok (by decide +kernel)
theorem d99_25 : ft 99 25 = some (.getfield 31, 3, 28, 7, 16, 3, 639) := ftq_ok (by decide +kernel)
theorem d99_28 : ft 99 28 = some (.iload_n 1, 1, 29, 0, 0, 0, 0) := ftq_ok (by decide +kernel)
theorem d99_29 : ft 99 29 = some (.iaload, 1, 30, 0, 0, 0, 0) := ftq_ok (by decide +kernel)
theorem d99_30 : ft 99 30 = some (.iastore, 1, 31, 0, 0, 0, 0) := ftq_ok (by decide +kernel)
theorem d99_31 : ft 99 31 = some (.iinc 1 1, 3, 34, 0, 0, 0, 0) := ftq_ok (by decide +kernel)
theorem d99_34 : ft 99 34 = some (.goto (-32), 3, 37, 2, 0, 0, 0) := ftq_ok (by decide +kernel)
theorem d99_37 : ft 99 37 = some (.return_, 1, 38, 0, 0, 0, 0) := ftq_ok (by decide +kernel)
-- 100: Mo_turns
theorem d100_0 : ft 100 0 = some (.aload_n 0, 1, 1, 0, 0, 0, 0) := ftq_ok (by decide +kernel)
theorem d100_1 : ft 100 1 = some (.getfield 28, 3, 4, 7, 15, 3, 638) := ftq_ok (by decide +kernel)
theorem d100_4 : ft 100 4 = some (.iconst 0, 1, 5, 0, 0, 0, 0) := ftq_ok (by decide +kernel)
theorem d100_5 : ft 100 5 = some (.iaload, 1, 6, 0, 0, 0, 0) := ftq_ok (by decide +kernel)
theorem d100_6 : ft 100 6 = some (.istore_n 1, 1, 7, 0, 0, 0, 0) := ftq_ok (by decide +kernel)
theorem d100_7 : ft 100 7 = some (.iconst 1, 1, 8, 0, 0, 0, 0) := ftq_ok (by decide +kernel)
theorem d100_8 : ft 100 8 = some (.istore_n 2, 1, 9, 0, 0, 0, 0) := ftq_ok (by decide +kernel)
theorem d100_9 : ft 100 9 = some (.iload_n 2, 1, 10, 0, 0, 0, 0) := ftq_ok (by decide +kernel)
theorem d100_10 : ft 100 10 = some (.aload_n 0, 1, 11, 0, 0, 0, 0) := ftq_ok (by decide +kernel)
theorem d100_11 : ft 100 11 = some (.getfield 113, 3, 14, 7, 11, 0, 634) := ftq_ok (by decide +kernel)
theorem d100_14 : ft 100 14 = some (.if_icmp .ge 23, 3, 17, 37, 0, 0, 0) := ftq_ok (by decide +kernel)
theorem d100_17 : ft 100 17 = some (.aload_n 0, 1, 18, 0, 0, 0, 0) := ftq_ok (by decide +kernel)
theorem d100_18 : ft 100 18 = some (.getfield 28, 3, 21, 7, 15, 3, 638) := ftq_ok (by decide +kernel)
theorem d100_21 : ft 100 21 = some (.iload_n 2, 1, 22, 0, 0, 0, 0) := ftq_ok (by decide +kernel)
theorem d100_22 : ft 100 22 = some (.iconst 1, 1, 23, 0, 0, 0, 0) := ftq_ok (by decide +kernel)
theorem d100_23 : ft 100 23 = some (.isub, 1, 24, 0, 0, 0, 0) := ftq_ok (by decide +kernel)
theorem d100_24 : ft 100 24 = some (.aload_n 0, 1, 25, 0, 0, 0, 0) := ftq_ok (by decide +kernel)
theorem d100_25 : ft 100 25 = some (.getfield 28, 3, 28, 7, 15, 3, 638) := ftq_ok (by decide +kernel)
theorem d100_28 : ft 100 28 = some (.iload_n 2, 1, 29, 0, 0, 0, 0) := ftq_ok (by decide +kernel)
theorem d100_29 : ft 100 29 = some (.iaload, 1, 30, 0, 0, 0, 0) := ftq_ok (by decide +kernel)
theorem d100_30 : ft 100 30 = some (.iastore, 1, 31, 0, 0, 0, 0) := ftq_ok (by decide +kernel)
theorem d100_31 : ft 100 31 = some (.iinc 2 1, 3, 34, 0, 0, 0, 0) := ftq_ok (by decide +kernel)
theorem d100_34 : ft 100 34 = some (.goto (-25), 3, 37, 9, 0, 0, 0) := ftq_ok (by decide +kernel)
theorem d100_37 : ft 100 37 = some (.aload_n 0, 1, 38, 0, 0, 0, 0) := ftq_ok (by decide +kernel)
theorem d100_38 : ft 100 38 = some (.getfield 28, 3, 41, 7, 15, 3, 638) := ftq_ok (by decide +kernel)
theorem d100_41 : ft 100 41 = some (.aload_n 0, 1, 42, 0, 0, 0, 0) := ftq_ok (by decide +kernel)
theorem d100_42 : ft 100 42 = some (.getfield 113, 3, 45, 7, 11, 0, 634) := ftq_ok (by decide +kernel)
theorem d100_45 : ft 100 45 = some (.iconst 1, 1, 46, 0, 0, 0, 0) := ftq_ok (by decide +kernel)
theorem d100_46 : ft 100 46 = some (.isub, 1, 47, 0, 0, 0, 0) := ftq_ok (by decide +kernel)
theorem d100_47 : ft 100 47 = some (.iload_n 1, 1, 48, 0, 0, 0, 0) := ftq_ok (by decide +kernel)
theorem d100_48 : ft 100 48 = some (.iastore, 1, 49, 0, 0, 0, 0) := ftq_ok (by decide +kernel)
theorem d100_49 : ft 100 49 = some (.return_, 1, 50, 0, 0, 0, 0) := ftq_ok (by decide +kernel)
-- 101: Mo_canTread
theorem d101_0 : ft 101 0 = some (.iconst 1, 1, 1, 0, 0, 0, 0) := ftq_ok (by decide +kernel)
theorem d101_1 : ft 101 1 = some (.istore_n 2, 1, 2, 0, 0, 0, 0) := ftq_ok (by decide +kernel)
theorem d101_2 : ft 101 2 = some (.iconst 0, 1, 3, 0, 0, 0, 0) := ftq_ok (by decide +kernel)
theorem d101_3 : ft 101 3 = some (.istore_n 3, 1, 4, 0, 0, 0, 0) := ftq_ok (by decide +kernel)
theorem d101_4 : ft 101 4 = some (.iload_n 3, 1, 5, 0, 0, 0, 0) := ftq_ok (by decide +kernel)
theorem d101_5 : ft 101 5 = some (.aload_n 0, 1, 6, 0, 0, 0, 0) := ftq_ok (by decide +kernel)
theorem d101_6 : ft 101 6 = some (.getfield 113, 3, 9, 7, 11, 0, 634) := ftq_ok (by decide +kernel)
theorem d101_9 : ft 101 9 = some (.if_icmp .ge 43, 3, 12, 52, 0, 0, 0) := ftq_ok (by decide +kernel)
theorem d101_12 : ft 101 12 = some (.iload_n 2, 1, 13, 0, 0, 0, 0) := ftq_ok (by decide +kernel)
theorem d101_13 : ft 101 13 = some (.ifCond .eq 31, 3, 16, 44, 0, 0, 0) := ftq_ok (by decide +kernel)
theorem d101_16 : ft 101 16 = some (.aload_n 0, 1, 17, 0, 0, 0, 0) := ftq_ok (by decide +kernel)
theorem d101_17 : ft 101 17 = some (.getfield 31, 3, 20, 7, 16, 3, 639) := ftq_ok (by decide +kernel)
theorem d101_20 : ft 101 20 = some (.aload_n 0, 1, 21, 0, 0, 0, 0) := ftq_ok (by decide +kernel)
theorem d101_21 : ft 101 21 = some (.getfield 28, 3, 24, 7, 15, 3, 638) := ftq_ok (by decide +kernel)
theorem d101_24 : ft 101 24 = some (.iload_n 3, 1, 25, 0, 0, 0, 0) := ftq_ok (by decide +kernel)
theorem d101_25 : ft 101 25 = some (.iaload, 1, 26, 0, 0, 0, 0) := ftq_ok (by decide +kernel)
theorem d101_26 : ft 101 26 = some (.iaload, 1, 27, 0, 0, 0, 0) := ftq_ok (by decide +kernel)
theorem d101_27 : ft 101 27 = some (.aload_n 0, 1, 28, 0, 0, 0, 0) := ftq_ok (by decide +kernel)
theorem d101_28 : ft 101 28 = some (.aload_n 0, 1, 29, 0, 0, 0, 0) := ftq_ok (by decide +kernel)
theorem d101_29 : ft 101 29 = some (.getfield 28, 3, 32, 7, 15, 3, 638) := ftq_ok (by decide +kernel)
theorem d101_32 : ft 101 32 = some (.iload_n 3, 1, 33, 0, 0, 0, 0) := ftq_ok (by decide +kernel)
theorem d101_33 : ft 101 33 = some (.iload_n 1, 1, 34, 0, 0, 0, 0) := ftq_ok (by decide +kernel)
theorem d101_34 : ft 101 34 = some (.invokevirtual 137, 3, 37, 92, 3, 0, 815) := ftq_ok (by decide +kernel)
theorem d101_37 : ft 101 37 = some (.if_icmp .lt 7, 3, 40, 44, 0, 0, 0) := ftq_ok (by decide +kernel)
theorem d101_40 : ft 101 40 = some (.iconst 1, 1, 41, 0, 0, 0, 0) := ftq_ok (by decide +kernel)
theorem d101_41 : ft 101 41 = some (.goto 4, 3, 44, 45, 0, 0, 0) := ftq_ok (by decide +kernel)
theorem d101_44 : ft 101 44 = some (.iconst 0, 1, 45, 0, 0, 0, 0) := ftq_ok (by decide +kernel)
theorem d101_45 : ft 101 45 = some (.istore_n 2, 1, 46, 0, 0, 0, 0) := ftq_ok (by decide +kernel)
theorem d101_46 : ft 101 46 = some (.iinc 3 1, 3, 49, 0, 0, 0, 0) := ftq_ok (by decide +kernel)
theorem d101_49 : ft 101 49 = some (.goto (-45), 3, 52, 4, 0, 0, 0) := ftq_ok (by decide +kernel)
theorem d101_52 : ft 101 52 = some (.iload_n 2, 1, 53, 0, 0, 0, 0) := ftq_ok (by decide +kernel)
theorem d101_53 : ft 101 53 = some (.ireturn, 1, 54, 0, 0, 0, 0) := ftq_ok (by decide +kernel)
-- 102: Mo_treads
theorem d102_0 : ft 102 0 = some (.iconst 0, 1, 1, 0, 0, 0, 0) := ftq_ok (by decide +kernel)
theorem d102_1 : ft 102 1 = some (.istore_n 2, 1, 2, 0, 0, 0, 0) := ftq_ok (by decide +kernel)
theorem d102_2 : ft 102 2 = some (.iload_n 2, 1, 3, 0, 0, 0, 0) := ftq_ok (by decide +kernel)
theorem d102_3 : ft 102 3 = some (.aload_n 0, 1, 4, 0, 0, 0, 0) := ftq_ok (by decide +kernel)
theorem d102_4 : ft 102 4 = some (.getfield 113, 3, 7, 7, 11, 0, 634) := ftq_ok (by decide +kernel)
theorem d102_7 : ft 102 7 = some (.if_icmp .ge 33, 3, 10, 40, 0, 0, 0) := ftq_ok (by decide +kernel)
theorem d102_10 : ft 102 10 = some (.aload_n 0, 1, 11, 0, 0, 0, 0) := ftq_ok (by decide +kernel)
theorem d102_11 : ft 102 11 = some (.getfield 31, 3, 14, 7, 16, 3, 639) := ftq_ok (by decide +kernel)
theorem d102_14 : ft 102 14 = some (.aload_n 0, 1, 15, 0, 0, 0, 0) := ftq_ok (by decide +kernel)
theorem d102_15 : ft 102 15 = some (.getfield 28, 3, 18, 7, 15, 3, 638) := ftq_ok (by decide +kernel)
theorem d102_18 : ft 102 18 = some (.iload_n 2, 1, 19, 0, 0, 0, 0) := ftq_ok (by decide +kernel)
theorem d102_19 : ft 102 19 = some (.iaload, 1, 20, 0, 0, 0, 0) := ftq_ok (by decide +kernel)
theorem d102_20 : ft 102 20 = some (.dup2, 1, 21, 0, 0, 0, 0) := ftq_ok (by decide +kernel)
theorem d102_21 : ft 102 21 = some (.iaload, 1, 22, 0, 0, 0, 0) := ftq_ok (by decide +kernel)
theorem d102_22 : ft 102 22 = some (.aload_n 0, 1, 23, 0, 0, 0, 0) := ftq_ok (by decide +kernel)
theorem d102_23 : ft 102 23 = some (.aload_n 0, 1, 24, 0, 0, 0, 0) := ftq_ok (by decide +kernel)
theorem d102_24 : ft 102 24 = some (.getfield 28, 3, 27, 7, 15, 3, 638) := ftq_ok (by decide +kernel)
theorem d102_27 : ft 102 27 = some (.iload_n 2, 1, 28, 0, 0, 0, 0) := ftq_ok (by decide +kernel)
theorem d102_28 : ft 102 28 = some (.iload_n 1, 1, 29, 0, 0, 0, 0) := ftq_ok (by decide +kernel)
theorem d102_29 : ft 102 29 = some (.invokevirtual 137, 3, 32, 92, 3, 0, 815) := ftq_ok (by decide +kernel)
theorem d102_32 : ft 102 32 = some (.isub, 1, 33, 0, 0, 0, 0) := ftq_ok (by decide +kernel)
theorem d102_33 : ft 102 33 = some (.iastore, 1, 34, 0, 0, 0, 0) := ftq_ok (by decide +kernel)
theorem d102_34 : ft 102 34 = some (.iinc 2 1, 3, 37, 0, 0, 0, 0) := ftq_ok (by decide +kernel)
theorem d102_37 : ft 102 37 = some (.goto (-35), 3, 40, 2, 0, 0, 0) := ftq_ok (by decide +kernel)
theorem d102_40 : ft 102 40 = some (.return_, 1, 41, 0, 0, 0, 0) := ftq_ok (by decide +kernel)
-- 103: Mo_leastLeft
theorem d103_0 : ft 103 0 = some (.bipush 100, 2, 2, 0, 0, 0, 0) := ftq_ok (by decide +kernel)
theorem d103_2 : ft 103 2 = some (.istore_n 1, 1, 3, 0, 0, 0, 0) := ftq_ok (by decide +kernel)
theorem d103_3 : ft 103 3 = some (.iconst 0, 1, 4, 0, 0, 0, 0) := ftq_ok (by decide +kernel)
theorem d103_4 : ft 103 4 = some (.istore_n 2, 1, 5, 0, 0, 0, 0) := ftq_ok (by decide +kernel)
theorem d103_5 : ft 103 5 = some (.iload_n 2, 1, 6, 0, 0, 0, 0) := ftq_ok (by decide +kernel)
theorem d103_6 : ft 103 6 = some (.aload_n 0, 1, 7, 0, 0, 0, 0) := ftq_ok (by decide +kernel)
theorem d103_7 : ft 103 7 = some (.getfield 113, 3, 10, 7, 11, 0, 634) := ftq_ok (by decide +kernel)
theorem d103_10 : ft 103 10 = some (.if_icmp .ge 30, 3, 13, 40, 0, 0, 0) := ftq_ok (by decide +kernel)
theorem d103_13 : ft 103 13 = some (.aload_n 0, 1, 14, 0, 0, 0, 0) := ftq_ok (by decide +kernel)
theorem d103_14 : ft 103 14 = some (.getfield 31, 3, 17, 7, 16, 3, 639) := ftq_ok (by decide +kernel)
theorem d103_17 : ft 103 17 = some (.iload_n 2, 1, 18, 0, 0, 0, 0) := ftq_ok (by decide +kernel)
theorem d103_18 : ft 103 18 = some (.iaload, 1, 19, 0, 0, 0, 0) := ftq_ok (by decide +kernel)
theorem d103_19 : ft 103 19 = some (.iload_n 1, 1, 20, 0, 0, 0, 0) := ftq_ok (by decide +kernel)
theorem d103_20 : ft 103 20 = some (.if_icmp .ge 12, 3, 23, 32, 0, 0, 0) := ftq_ok (by decide +kernel)
theorem d103_23 : ft 103 23 = some (.aload_n 0, 1, 24, 0, 0, 0, 0) := ftq_ok (by decide +kernel)
theorem d103_24 : ft 103 24 = some (.getfield 31, 3, 27, 7, 16, 3, 639) := ftq_ok (by decide +kernel)
theorem d103_27 : ft 103 27 = some (.iload_n 2, 1, 28, 0, 0, 0, 0) := ftq_ok (by decide +kernel)
theorem d103_28 : ft 103 28 = some (.iaload, 1, 29, 0, 0, 0, 0) := ftq_ok (by decide +kernel)
theorem d103_29 : ft 103 29 = some (.goto 4, 3, 32, 33, 0, 0, 0) := ftq_ok (by decide +kernel)
theorem d103_32 : ft 103 32 = some (.iload_n 1, 1, 33, 0, 0, 0, 0) := ftq_ok (by decide +kernel)
theorem d103_33 : ft 103 33 = some (.istore_n 1, 1, 34, 0, 0, 0, 0) := ftq_ok (by decide +kernel)
theorem d103_34 : ft 103 34 = some (.iinc 2 1, 3, 37, 0, 0, 0, 0) := ftq_ok (by decide +kernel)
theorem d103_37 : ft 103 37 = some (.goto (-32), 3, 40, 5, 0, 0, 0) := ftq_ok (by decide +kernel)
theorem d103_40 : ft 103 40 = some (.iload_n 1, 1, 41, 0, 0, 0, 0) := ftq_ok (by decide +kernel)
theorem d103_41 : ft 103 41 = some (.ireturn, 1, 42, 0, 0, 0, 0) := ftq_ok (by decide +kernel)
-- 104: Mo_tread
theorem d104_0 : ft 104 0 = some (.aload_n 0, 1, 1, 0, 0, 0, 0) := ftq_ok (by decide +kernel)
theorem d104_1 : ft 104 1 = some (.getfield 113, 3, 4, 7, 11, 0, 634) := ftq_ok (by decide +kernel)
theorem d104_4 : ft 104 4 = some (.ifCond .eq 14, 3, 7, 18, 0, 0, 0) := ftq_ok (by decide +kernel)
theorem d104_7 : ft 104 7 = some (.aload_n 0, 1, 8, 0, 0, 0, 0) := ftq_ok (by decide +kernel)
theorem d104_8 : ft 104 8 = some (.getfield 107, 3, 11, 7, 6, 0, 629) := ftq_ok (by decide +kernel)
theorem d104_11 : ft 104 11 = some (.aload_n 0, 1, 12, 0, 0, 0, 0) := ftq_ok (by decide +kernel)
theorem d104_12 : ft 104 12 = some (.getfield 101, 3, 15, 7, 4, 0, 627) := ftq_ok (by decide +kernel)
theorem d104_15 : ft 104 15 = some (.if_icmp .ne 6, 3, 18, 21, 0, 0, 0) := ftq_ok (by decide +kernel)
theorem d104_18 : ft 104 18 = some (.bipush (-103), 2, 20, 0, 0, 0, 0) := ftq_ok (by decide +kernel)
theorem d104_20 : ft 104 20 = some (.ireturn, 1, 21, 0, 0, 0, 0) := ftq_ok (by decide +kernel)
theorem d104_21 : ft 104 21 = some (.aload_n 0, 1, 22, 0, 0, 0, 0) := ftq_ok (by decide +kernel)
theorem d104_22 : ft 104 22 = some (.invokevirtual 148, 3, 25, 98, 0, 0, 827) := ftq_ok (by decide +kernel)
theorem d104_25 : ft 104 25 = some (.aload_n 0, 1, 26, 0, 0, 0, 0) := ftq_ok (by decide +kernel)
theorem d104_26 : ft 104 26 = some (.getfield 13, 3, 29, 7, 9, 3, 632) := ftq_ok (by decide +kernel)
theorem d104_29 : ft 104 29 = some (.aload_n 0, 1, 30, 0, 0, 0, 0) := ftq_ok (by decide +kernel)
theorem d104_30 : ft 104 30 = some (.getfield 107, 3, 33, 7, 6, 0, 629) := ftq_ok (by decide +kernel)
theorem d104_33 : ft 104 33 = some (.iaload, 1, 34, 0, 0, 0, 0) := ftq_ok (by decide +kernel)
theorem d104_34 : ft 104 34 = some (.istore_n 1, 1, 35, 0, 0, 0, 0) := ftq_ok (by decide +kernel)
theorem d104_35 : ft 104 35 = some (.aload_n 0, 1, 36, 0, 0, 0, 0) := ftq_ok (by decide +kernel)
theorem d104_36 : ft 104 36 = some (.iload_n 1, 1, 37, 0, 0, 0, 0) := ftq_ok (by decide +kernel)
theorem d104_37 : ft 104 37 = some (.invokevirtual 151, 3, 40, 101, 1, 0, 831) := ftq_ok (by decide +kernel)
theorem d104_40 : ft 104 40 = some (.ifCond .ne 6, 3, 43, 46, 0, 0, 0) := ftq_ok (by decide +kernel)
theorem d104_43 : ft 104 43 = some (.bipush (-103), 2, 45, 0, 0, 0, 0) := ftq_ok (by decide +kernel)
theorem d104_45 : ft 104 45 = some (.ireturn, 1, 46, 0, 0, 0, 0) := ftq_ok (by decide +kernel)
theorem d104_46 : ft 104 46 = some (.aload_n 0, 1, 47, 0, 0, 0, 0) := ftq_ok (by decide +kernel)
theorem d104_47 : ft 104 47 = some (.iload_n 1, 1, 48, 0, 0, 0, 0) := ftq_ok (by decide +kernel)
theorem d104_48 : ft 104 48 = some (.invokevirtual 154, 3, 51, 102, 1, 0, 835) := ftq_ok (by decide +kernel)
theorem d104_51 : ft 104 51 = some (.aload_n 0, 1, 52, 0, 0, 0, 0) := ftq_ok (by decide +kernel)
theorem d104_52 : ft 104 52 = some (.invokevirtual 158, 3, 55, 99, 0, 0, 839) := ftq_ok (by decide +kernel)
theorem d104_55 : ft 104 55 = some (.aload_n 0, 1, 56, 0, 0, 0, 0) := ftq_ok (by decide +kernel)
theorem d104_56 : ft 104 56 = some (.getfield 19, 3, 59, 7, 12, 3, 635) := ftq_ok (by decide +kernel)
theorem d104_59 : ft 104 59 = some (.iconst 3, 1, 60, 0, 0, 0, 0) := ftq_ok (by decide +kernel)
theorem d104_60 : ft 104 60 = some (.aload_n 0, 1, 61, 0, 0, 0, 0) := ftq_ok (by decide +kernel)
theorem d104_61 : ft 104 61 = some (.getfield 25, 3, 64, 7, 14, 3, 637) := ftq_ok (by decide +kernel)
theorem d104_64 : ft 104 64 = some (.iconst 0, 1, 65, 0, 0, 0, 0) := ftq_ok (by decide +kernel)
theorem d104_65 : ft 104 65 = some (.iaload, 1, 66, 0, 0, 0, 0) := ftq_ok (by decide +kernel)
theorem d104_66 : ft 104 66 = some (.imul, 1, 67, 0, 0, 0, 0) := ftq_ok (by decide +kernel)
theorem d104_67 : ft 104 67 = some (.iaload, 1, 68, 0, 0, 0, 0) := ftq_ok (by decide +kernel)
theorem d104_68 : ft 104 68 = some (.iconst 2, 1, 69, 0, 0, 0, 0) := ftq_ok (by decide +kernel)
theorem d104_69 : ft 104 69 = some (.if_icmp .ne 34, 3, 72, 103, 0, 0, 0) := ftq_ok (by decide +kernel)
theorem d104_72 : ft 104 72 = some (.aload_n 0, 1, 73, 0, 0, 0, 0) := ftq_ok (by decide +kernel)
theorem d104_73 : ft 104 73 = some (.getfield 107, 3, 76, 7, 6, 0, 629) := ftq_ok (by decide +kernel)
theorem d104_76 : ft 104 76 = some (.ifCond .le 27, 3, 79, 103, 0, 0, 0) := ftq_ok (by decide +kernel)
theorem d104_79 : ft 104 79 = some (.aload_n 0, 1, 80, 0, 0, 0, 0) := ftq_ok (by decide +kernel)
theorem d104_80 : ft 104 80 = some (.getfield 16, 3, 83, 7, 10, 3, 633) := ftq_ok (by decide +kernel)
theorem d104_83 : ft 104 83 = some (.aload_n 0, 1, 84, 0, 0, 0, 0) := ftq_ok (by decide +kernel)
theorem d104_84 : ft 104 84 = some (.getfield 107, 3, 87, 7, 6, 0, 629) := ftq_ok (by decide +kernel)
theorem d104_87 : ft 104 87 = some (.iconst 1, 1, 88, 0, 0, 0, 0) := ftq_ok (by decide +kernel)
theorem d104_88 : ft 104 88 = some (.isub, 1, 89, 0, 0, 0, 0) := ftq_ok (by decide +kernel)
theorem d104_89 : ft 104 89 = some (.iaload, 1, 90, 0, 0, 0, 0) := ftq_ok (by decide +kernel)
theorem d104_90 : ft 104 90 = some (.aload_n 0, 1, 91, 0, 0, 0, 0) := ftq_ok (by decide +kernel)
theorem d104_91 : ft 104 91 = some (.getfield 25, 3, 94, 7, 14, 3, 637) := ftq_ok (by decide +kernel)
theorem d104_94 : ft 104 94 = some (.iconst 0, 1, 95, 0, 0, 0, 0) := ftq_ok (by decide +kernel)
theorem d104_95 : ft 104 95 = some (.iaload, 1, 96, 0, 0, 0, 0) := ftq_ok (by decide +kernel)
theorem d104_96 : ft 104 96 = some (.if_icmp .ne 7, 3, 99, 103, 0, 0, 0) := ftq_ok (by decide +kernel)
theorem d104_99 : ft 104 99 = some (.iconst 1, 1, 100, 0, 0, 0, 0) := ftq_ok (by decide +kernel)
theorem d104_100 : ft 104 100 = some (.goto 4, 3, 103, 104, 0, 0, 0) := ftq_ok (by decide +kernel)
theorem d104_103 : ft 104 103 = some (.iconst 0, 1, 104, 0, 0, 0, 0) := ftq_ok (by decide +kernel)
theorem d104_104 : ft 104 104 = some (.istore_n 2, 1, 105, 0, 0, 0, 0) := ftq_ok (by decide +kernel)
theorem d104_105 : ft 104 105 = some (.aload_n 0, 1, 106, 0, 0, 0, 0) := ftq_ok (by decide +kernel)
theorem d104_106 : ft 104 106 = some (.dup, 1, 107, 0, 0, 0, 0) := ftq_ok (by decide +kernel)
theorem d104_107 : ft 104 107 = some (.getfield 110, 3, 110, 7, 7, 0, 630) := ftq_ok (by decide +kernel)
theorem d104_110 : ft 104 110 = some (.iconst 2, 1, 111, 0, 0, 0, 0) := ftq_ok (by decide +kernel)
theorem d104_111 : ft 104 111 = some (.iload_n 1, 1, 112, 0, 0, 0, 0) := ftq_ok (by decide +kernel)
theorem d104_112 : ft 104 112 = some (.iconst 3, 1, 113, 0, 0, 0, 0) := ftq_ok (by decide +kernel)
theorem d104_113 : ft 104 113 = some (.idiv, 1, 114, 0, 0, 0, 0) := ftq_ok (by decide +kernel)
theorem d104_114 : ft 104 114 = some (.iadd, 1, 115, 0, 0, 0, 0) := ftq_ok (by decide +kernel)
theorem d104_115 : ft 104 115 = some (.iload_n 2, 1, 116, 0, 0, 0, 0) := ftq_ok (by decide +kernel)
theorem d104_116 : ft 104 116 = some (.ifCond .eq 7, 3, 119, 123, 0, 0, 0) := ftq_ok (by decide +kernel)
theorem d104_119 : ft 104 119 = some (.iconst 2, 1, 120, 0, 0, 0, 0) := ftq_ok (by decide +kernel)
theorem d104_120 : ft 104 120 = some (.goto 4, 3, 123, 124, 0, 0, 0) := ftq_ok (by decide +kernel)
theorem d104_123 : ft 104 123 = some (.iconst 0, 1, 124, 0, 0, 0, 0) := ftq_ok (by decide +kernel)
theorem d104_124 : ft 104 124 = some (.iadd, 1, 125, 0, 0, 0, 0) := ftq_ok (by decide +kernel)
theorem d104_125 : ft 104 125 = some (.iadd, 1, 126, 0, 0, 0, 0) := ftq_ok (by decide +kernel)
theorem d104_126 : ft 104 126 = some (.putfield 110, 3, 129, 7, 7, 0, 630) := ftq_ok (by decide +kernel)
theorem d104_129 : ft 104 129 = some (.aload_n 0, 1, 130, 0, 0, 0, 0) := ftq_ok (by decide +kernel)
theorem d104_130 : ft 104 130 = some (.getfield 16, 3, 133, 7, 10, 3, 633) := ftq_ok (by decide +kernel)
theorem d104_133 : ft 104 133 = some (.aload_n 0, 1, 134, 0, 0, 0, 0) := ftq_ok (by decide +kernel)
theorem d104_134 : ft 104 134 = some (.getfield 107, 3, 137, 7, 6, 0, 629) := ftq_ok (by decide +kernel)
theorem d104_137 : ft 104 137 = some (.aload_n 0, 1, 138, 0, 0, 0, 0) := ftq_ok (by decide +kernel)
theorem d104_138 : ft 104 138 = some (.getfield 25, 3, 141, 7, 14, 3, 637) := ftq_ok (by decide +kernel)
theorem d104_141 : ft 104 141 = some (.iconst 0, 1, 142, 0, 0, 0, 0) := ftq_ok (by decide +kernel)
theorem d104_142 : ft 104 142 = some (.iaload, 1, 143, 0, 0, 0, 0) := ftq_ok (by decide +kernel)
theorem d104_143 : ft 104 143 = some (.iastore, 1, 144, 0, 0, 0, 0) := ftq_ok (by decide +kernel)
theorem d104_144 : ft 104 144 = some (.aload_n 0, 1, 145, 0, 0, 0, 0) := ftq_ok (by decide +kernel)
theorem d104_145 : ft 104 145 = some (.dup, 1, 146, 0, 0, 0, 0) := ftq_ok (by decide +kernel)
theorem d104_146 : ft 104 146 = some (.getfield 107, 3, 149, 7, 6, 0, 629) := ftq_ok (by decide +kernel)
theorem d104_149 : ft 104 149 = some (.iconst 1, 1, 150, 0, 0, 0, 0) := ftq_ok (by decide +kernel)
theorem d104_150 : ft 104 150 = some (.iadd, 1, 151, 0, 0, 0, 0) := ftq_ok (by decide +kernel)
theorem d104_151 : ft 104 151 = some (.putfield 107, 3, 154, 7, 6, 0, 629) := ftq_ok (by decide +kernel)
theorem d104_154 : ft 104 154 = some (.aload_n 0, 1, 155, 0, 0, 0, 0) := ftq_ok (by decide +kernel)
theorem d104_155 : ft 104 155 = some (.getfield 107, 3, 158, 7, 6, 0, 629) := ftq_ok (by decide +kernel)
theorem d104_158 : ft 104 158 = some (.ireturn, 1, 159, 0, 0, 0, 0) := ftq_ok (by decide +kernel)
-- 105: Mo_change
theorem d105_0 : ft 105 0 = some (.aload_n 0, 1, 1, 0, 0, 0, 0) := ftq_ok (by decide +kernel)
theorem d105_1 : ft 105 1 = some (.getfield 113, 3, 4, 7, 11, 0, 634) := ftq_ok (by decide +kernel)
theorem d105_4 : ft 105 4 = some (.ifCond .ne 6, 3, 7, 10, 0, 0, 0) := ftq_ok (by decide +kernel)
theorem d105_7 : ft 105 7 = some (.bipush (-103), 2, 9, 0, 0, 0, 0) := ftq_ok (by decide +kernel)
theorem d105_9 : ft 105 9 = some (.ireturn, 1, 10, 0, 0, 0, 0) := ftq_ok (by decide +kernel)
theorem d105_10 : ft 105 10 = some (.aload_n 0, 1, 11, 0, 0, 0, 0) := ftq_ok (by decide +kernel)
theorem d105_11 : ft 105 11 = some (.invokevirtual 148, 3, 14, 98, 0, 0, 827) := ftq_ok (by decide +kernel)
theorem d105_14 : ft 105 14 = some (.aload_n 0, 1, 15, 0, 0, 0, 0) := ftq_ok (by decide +kernel)
theorem d105_15 : ft 105 15 = some (.invokevirtual 161, 3, 18, 100, 0, 0, 847) := ftq_ok (by decide +kernel)
theorem d105_18 : ft 105 18 = some (.aload_n 0, 1, 19, 0, 0, 0, 0) := ftq_ok (by decide +kernel)
theorem d105_19 : ft 105 19 = some (.invokevirtual 158, 3, 22, 99, 0, 0, 839) := ftq_ok (by decide +kernel)
theorem d105_22 : ft 105 22 = some (.aload_n 0, 1, 23, 0, 0, 0, 0) := ftq_ok (by decide +kernel)
theorem d105_23 : ft 105 23 = some (.dup, 1, 24, 0, 0, 0, 0) := ftq_ok (by decide +kernel)
theorem d105_24 : ft 105 24 = some (.getfield 110, 3, 27, 7, 7, 0, 630) := ftq_ok (by decide +kernel)
theorem d105_27 : ft 105 27 = some (.iconst 1, 1, 28, 0, 0, 0, 0) := ftq_ok (by decide +kernel)
theorem d105_28 : ft 105 28 = some (.iadd, 1, 29, 0, 0, 0, 0) := ftq_ok (by decide +kernel)
theorem d105_29 : ft 105 29 = some (.putfield 110, 3, 32, 7, 7, 0, 630) := ftq_ok (by decide +kernel)
theorem d105_32 : ft 105 32 = some (.aload_n 0, 1, 33, 0, 0, 0, 0) := ftq_ok (by decide +kernel)
theorem d105_33 : ft 105 33 = some (.getfield 25, 3, 36, 7, 14, 3, 637) := ftq_ok (by decide +kernel)
theorem d105_36 : ft 105 36 = some (.iconst 0, 1, 37, 0, 0, 0, 0) := ftq_ok (by decide +kernel)
theorem d105_37 : ft 105 37 = some (.iaload, 1, 38, 0, 0, 0, 0) := ftq_ok (by decide +kernel)
theorem d105_38 : ft 105 38 = some (.ireturn, 1, 39, 0, 0, 0, 0) := ftq_ok (by decide +kernel)
-- 106: Mo_restsNow
theorem d106_0 : ft 106 0 = some (.iconst 0, 1, 1, 0, 0, 0, 0) := ftq_ok (by decide +kernel)
theorem d106_1 : ft 106 1 = some (.istore_n 1, 1, 2, 0, 0, 0, 0) := ftq_ok (by decide +kernel)
theorem d106_2 : ft 106 2 = some (.iconst 0, 1, 3, 0, 0, 0, 0) := ftq_ok (by decide +kernel)
theorem d106_3 : ft 106 3 = some (.istore_n 2, 1, 4, 0, 0, 0, 0) := ftq_ok (by decide +kernel)
theorem d106_4 : ft 106 4 = some (.iload_n 2, 1, 5, 0, 0, 0, 0) := ftq_ok (by decide +kernel)
theorem d106_5 : ft 106 5 = some (.aload_n 0, 1, 6, 0, 0, 0, 0) := ftq_ok (by decide +kernel)
theorem d106_6 : ft 106 6 = some (.getfield 113, 3, 9, 7, 11, 0, 634) := ftq_ok (by decide +kernel)
theorem d106_9 : ft 106 9 = some (.if_icmp .ge 64, 3, 12, 73, 0, 0, 0) := ftq_ok (by decide +kernel)
theorem d106_12 : ft 106 12 = some (.aload_n 0, 1, 13, 0, 0, 0, 0) := ftq_ok (by decide +kernel)
theorem d106_13 : ft 106 13 = some (.getfield 31, 3, 16, 7, 16, 3, 639) := ftq_ok (by decide +kernel)
theorem d106_16 : ft 106 16 = some (.iload_n 2, 1, 17, 0, 0, 0, 0) := ftq_ok (by decide +kernel)
theorem d106_17 : ft 106 17 = some (.iaload, 1, 18, 0, 0, 0, 0) := ftq_ok (by decide +kernel)
theorem d106_18 : ft 106 18 = some (.aload_n 0, 1, 19, 0, 0, 0, 0) := ftq_ok (by decide +kernel)
theorem d106_19 : ft 106 19 = some (.getfield 19, 3, 22, 7, 12, 3, 635) := ftq_ok (by decide +kernel)
theorem d106_22 : ft 106 22 = some (.iconst 3, 1, 23, 0, 0, 0, 0) := ftq_ok (by decide +kernel)
theorem d106_23 : ft 106 23 = some (.iload_n 2, 1, 24, 0, 0, 0, 0) := ftq_ok (by decide +kernel)
theorem d106_24 : ft 106 24 = some (.imul, 1, 25, 0, 0, 0, 0) := ftq_ok (by decide +kernel)
theorem d106_25 : ft 106 25 = some (.iconst 1, 1, 26, 0, 0, 0, 0) := ftq_ok (by decide +kernel)
theorem d106_26 : ft 106 26 = some (.iadd, 1, 27, 0, 0, 0, 0) := ftq_ok (by decide +kernel)
theorem d106_27 : ft 106 27 = some (.iaload, 1, 28, 0, 0, 0, 0) := ftq_ok (by decide +kernel)
theorem d106_28 : ft 106 28 = some (.if_icmp .ge 7, 3, 31, 35, 0, 0, 0) := ftq_ok (by decide +kernel)
theorem d106_31 : ft 106 31 = some (.iconst 1, 1, 32, 0, 0, 0, 0) := ftq_ok (by decide +kernel)
theorem d106_32 : ft 106 32 = some (.goto 4, 3, 35, 36, 0, 0, 0) := ftq_ok (by decide +kernel)
theorem d106_35 : ft 106 35 = some (.iconst 0, 1, 36, 0, 0, 0, 0) := ftq_ok (by decide +kernel)
theorem d106_36 : ft 106 36 = some (.istore_n 3, 1, 37, 0, 0, 0, 0) := ftq_ok (by decide +kernel)
theorem d106_37 : ft 106 37 = some (.aload_n 0, 1, 38, 0, 0, 0, 0) := ftq_ok (by decide +kernel)
theorem d106_38 : ft 106 38 = some (.getfield 31, 3, 41, 7, 16, 3, 639) := ftq_ok (by decide +kernel)
theorem d106_41 : ft 106 41 = some (.iload_n 2, 1, 42, 0, 0, 0, 0) := ftq_ok (by decide +kernel)
theorem d106_42 : ft 106 42 = some (.dup2, 1, 43, 0, 0, 0, 0) := ftq_ok (by decide +kernel)
theorem d106_43 : ft 106 43 = some (.iaload, 1, 44, 0, 0, 0, 0) := ftq_ok (by decide +kernel)
theorem d106_44 : ft 106 44 = some (.iload_n 3, 1, 45, 0, 0, 0, 0) := ftq_ok (by decide +kernel)
theorem d106_45 : ft 106 45 = some (.ifCond .eq 7, 3, 48, 52, 0, 0, 0) := ftq_ok (by decide +kernel)
theorem d106_48 : ft 106 48 = some (.iconst 1, 1, 49, 0, 0, 0, 0) := ftq_ok (by decide +kernel)
theorem d106_49 : ft 106 49 = some (.goto 4, 3, 52, 53, 0, 0, 0) := ftq_ok (by decide +kernel)
theorem d106_52 : ft 106 52 = some (.iconst 0, 1, 53, 0, 0, 0, 0) := ftq_ok (by decide +kernel)
theorem d106_53 : ft 106 53 = some (.iadd, 1, 54, 0, 0, 0, 0) := ftq_ok (by decide +kernel)
theorem d106_54 : ft 106 54 = some (.iastore, 1, 55, 0, 0, 0, 0) := ftq_ok (by decide +kernel)
theorem d106_55 : ft 106 55 = some (.iload_n 1, 1, 56, 0, 0, 0, 0) := ftq_ok (by decide +kernel)
theorem d106_56 : ft 106 56 = some (.iload_n 3, 1, 57, 0, 0, 0, 0) := ftq_ok (by decide +kernel)
theorem d106_57 : ft 106 57 = some (.ifCond .eq 7, 3, 60, 64, 0, 0, 0) := ftq_ok (by decide +kernel)
theorem d106_60 : ft 106 60 = some (.iconst 1, 1, 61, 0, 0, 0, 0) := ftq_ok (by decide +kernel)
theorem d106_61 : ft 106 61 = some (.goto 4, 3, 64, 65, 0, 0, 0) := ftq_ok (by decide +kernel)
theorem d106_64 : ft 106 64 = some (.iconst 0, 1, 65, 0, 0, 0, 0) := ftq_ok (by decide +kernel)
theorem d106_65 : ft 106 65 = some (.iadd, 1, 66, 0, 0, 0, 0) := ftq_ok (by decide +kernel)
theorem d106_66 : ft 106 66 = some (.istore_n 1, 1, 67, 0, 0, 0, 0) := ftq_ok (by decide +kernel)
theorem d106_67 : ft 106 67 = some (.iinc 2 1, 3, 70, 0, 0, 0, 0) := ftq_ok (by decide +kernel)
theorem d106_70 : ft 106 70 = some (.goto (-66), 3, 73, 4, 0, 0, 0) := ftq_ok (by decide +kernel)
theorem d106_73 : ft 106 73 = some (.iload_n 1, 1, 74, 0, 0, 0, 0) := ftq_ok (by decide +kernel)
theorem d106_74 : ft 106 74 = some (.ireturn, 1, 75, 0, 0, 0, 0) := ftq_ok (by decide +kernel)
-- 107: Mo_rest
theorem d107_0 : ft 107 0 = some (.aload_n 0, 1, 1, 0, 0, 0, 0) := ftq_ok (by decide +kernel)
theorem d107_1 : ft 107 1 = some (.getfield 113, 3, 4, 7, 11, 0, 634) := ftq_ok (by decide +kernel)
theorem d107_4 : ft 107 4 = some (.ifCond .ne 6, 3, 7, 10, 0, 0, 0) := ftq_ok (by decide +kernel)
theorem d107_7 : ft 107 7 = some (.bipush (-103), 2, 9, 0, 0, 0, 0) := ftq_ok (by decide +kernel)
theorem d107_9 : ft 107 9 = some (.ireturn, 1, 10, 0, 0, 0, 0) := ftq_ok (by decide +kernel)
theorem d107_10 : ft 107 10 = some (.aload_n 0, 1, 11, 0, 0, 0, 0) := ftq_ok (by decide +kernel)
theorem d107_11 : ft 107 11 = some (.invokevirtual 148, 3, 14, 98, 0, 0, 827) := ftq_ok (by decide +kernel)
theorem d107_14 : ft 107 14 = some (.aload_n 0, 1, 15, 0, 0, 0, 0) := ftq_ok (by decide +kernel)
theorem d107_15 : ft 107 15 = some (.invokevirtual 164, 3, 18, 106, 0, 0, 855) := ftq_ok (by decide +kernel)
theorem d107_18 : ft 107 18 = some (.istore_n 1, 1, 19, 0, 0, 0, 0) := ftq_ok (by decide +kernel)
theorem d107_19 : ft 107 19 = some (.aload_n 0, 1, 20, 0, 0, 0, 0) := ftq_ok (by decide +kernel)
theorem d107_20 : ft 107 20 = some (.invokevirtual 158, 3, 23, 99, 0, 0, 839) := ftq_ok (by decide +kernel)
theorem d107_23 : ft 107 23 = some (.aload_n 0, 1, 24, 0, 0, 0, 0) := ftq_ok (by decide +kernel)
theorem d107_24 : ft 107 24 = some (.dup, 1, 25, 0, 0, 0, 0) := ftq_ok (by decide +kernel)
theorem d107_25 : ft 107 25 = some (.getfield 110, 3, 28, 7, 7, 0, 630) := ftq_ok (by decide +kernel)
theorem d107_28 : ft 107 28 = some (.iconst 5, 1, 29, 0, 0, 0, 0) := ftq_ok (by decide +kernel)
theorem d107_29 : ft 107 29 = some (.iadd, 1, 30, 0, 0, 0, 0) := ftq_ok (by decide +kernel)
theorem d107_30 : ft 107 30 = some (.putfield 110, 3, 33, 7, 7, 0, 630) := ftq_ok (by decide +kernel)
theorem d107_33 : ft 107 33 = some (.iload_n 1, 1, 34, 0, 0, 0, 0) := ftq_ok (by decide +kernel)
theorem d107_34 : ft 107 34 = some (.ireturn, 1, 35, 0, 0, 0, 0) := ftq_ok (by decide +kernel)
-- 108: Mo_depthsLeft
theorem d108_0 : ft 108 0 = some (.iconst 0, 1, 1, 0, 0, 0, 0) := ftq_ok (by decide +kernel)
theorem d108_1 : ft 108 1 = some (.istore_n 1, 1, 2, 0, 0, 0, 0) := ftq_ok (by decide +kernel)
theorem d108_2 : ft 108 2 = some (.aload_n 0, 1, 3, 0, 0, 0, 0) := ftq_ok (by decide +kernel)
theorem d108_3 : ft 108 3 = some (.getfield 107, 3, 6, 7, 6, 0, 629) := ftq_ok (by decide +kernel)
theorem d108_6 : ft 108 6 = some (.istore_n 2, 1, 7, 0, 0, 0, 0) := ftq_ok (by decide +kernel)
theorem d108_7 : ft 108 7 = some (.iload_n 2, 1, 8, 0, 0, 0, 0) := ftq_ok (by decide +kernel)
theorem d108_8 : ft 108 8 = some (.aload_n 0, 1, 9, 0, 0, 0, 0) := ftq_ok (by decide +kernel)
theorem d108_9 : ft 108 9 = some (.getfield 101, 3, 12, 7, 4, 0, 627) := ftq_ok (by decide +kernel)
theorem d108_12 : ft 108 12 = some (.if_icmp .ge 18, 3, 15, 30, 0, 0, 0) := ftq_ok (by decide +kernel)
theorem d108_15 : ft 108 15 = some (.iload_n 1, 1, 16, 0, 0, 0, 0) := ftq_ok (by decide +kernel)
theorem d108_16 : ft 108 16 = some (.aload_n 0, 1, 17, 0, 0, 0, 0) := ftq_ok (by decide +kernel)
theorem d108_17 : ft 108 17 = some (.getfield 13, 3, 20, 7, 9, 3, 632) := ftq_ok (by decide +kernel)
theorem d108_20 : ft 108 20 = some (.iload_n 2, 1, 21, 0, 0, 0, 0) := ftq_ok (by decide +kernel)
theorem d108_21 : ft 108 21 = some (.iaload, 1, 22, 0, 0, 0, 0) := ftq_ok (by decide +kernel)
theorem d108_22 : ft 108 22 = some (.iadd, 1, 23, 0, 0, 0, 0) := ftq_ok (by decide +kernel)
theorem d108_23 : ft 108 23 = some (.istore_n 1, 1, 24, 0, 0, 0, 0) := ftq_ok (by decide +kernel)
theorem d108_24 : ft 108 24 = some (.iinc 2 1, 3, 27, 0, 0, 0, 0) := ftq_ok (by decide +kernel)
theorem d108_27 : ft 108 27 = some (.goto (-20), 3, 30, 7, 0, 0, 0) := ftq_ok (by decide +kernel)
theorem d108_30 : ft 108 30 = some (.iload_n 1, 1, 31, 0, 0, 0, 0) := ftq_ok (by decide +kernel)
theorem d108_31 : ft 108 31 = some (.ireturn, 1, 32, 0, 0, 0, 0) := ftq_ok (by decide +kernel)
-- 109: Mo_snow
theorem d109_0 : ft 109 0 = some (.iload_n 1, 1, 1, 0, 0, 0, 0) := ftq_ok (by decide +kernel)
theorem d109_1 : ft 109 1 = some (.i2l, 1, 2, 0, 0, 0, 0) := ftq_ok (by decide +kernel)
theorem d109_2 : ft 109 2 = some (.lconst 0, 1, 3, 0, 0, 0, 0) := ftq_ok (by decide +kernel)
theorem d109_3 : ft 109 3 = some (.ldc2_w 167, 3, 6, 1, 863, 0, 9) := ftq_ok (by decide +kernel)
theorem d109_6 : ft 109 6 = some (.invokestatic 73, 3, 9, 79, 3, 1, 749) := ftq_ok (by decide +kernel)
theorem d109_9 : ft 109 9 = some (.ifCond .ne 6, 3, 12, 15, 0, 0, 0) := ftq_ok (by decide +kernel)
theorem d109_12 : ft 109 12 = some (.bipush (-102), 2, 14, 0, 0, 0, 0) := ftq_ok (by decide +kernel)
theorem d109_14 : ft 109 14 = some (.ireturn, 1, 15, 0, 0, 0, 0) := ftq_ok (by decide +kernel)
theorem d109_15 : ft 109 15 = some (.aload_n 0, 1, 16, 0, 0, 0, 0) := ftq_ok (by decide +kernel)
theorem d109_16 : ft 109 16 = some (.invokevirtual 126, 3, 19, 87, 0, 0, 791) := ftq_ok (by decide +kernel)
theorem d109_19 : ft 109 19 = some (.ifCond .eq 6, 3, 22, 25, 0, 0, 0) := ftq_ok (by decide +kernel)
theorem d109_22 : ft 109 22 = some (.bipush (-103), 2, 24, 0, 0, 0, 0) := ftq_ok (by decide +kernel)
theorem d109_24 : ft 109 24 = some (.ireturn, 1, 25, 0, 0, 0, 0) := ftq_ok (by decide +kernel)
theorem d109_25 : ft 109 25 = some (.aload_n 0, 1, 26, 0, 0, 0, 0) := ftq_ok (by decide +kernel)
theorem d109_26 : ft 109 26 = some (.getfield 107, 3, 29, 7, 6, 0, 629) := ftq_ok (by decide +kernel)
theorem d109_29 : ft 109 29 = some (.istore_n 2, 1, 30, 0, 0, 0, 0) := ftq_ok (by decide +kernel)
theorem d109_30 : ft 109 30 = some (.iload_n 2, 1, 31, 0, 0, 0, 0) := ftq_ok (by decide +kernel)
theorem d109_31 : ft 109 31 = some (.aload_n 0, 1, 32, 0, 0, 0, 0) := ftq_ok (by decide +kernel)
theorem d109_32 : ft 109 32 = some (.getfield 101, 3, 35, 7, 4, 0, 627) := ftq_ok (by decide +kernel)
theorem d109_35 : ft 109 35 = some (.if_icmp .ge 41, 3, 38, 76, 0, 0, 0) := ftq_ok (by decide +kernel)
theorem d109_38 : ft 109 38 = some (.aload_n 0, 1, 39, 0, 0, 0, 0) := ftq_ok (by decide +kernel)
theorem d109_39 : ft 109 39 = some (.getfield 13, 3, 42, 7, 9, 3, 632) := ftq_ok (by decide +kernel)
theorem d109_42 : ft 109 42 = some (.iload_n 2, 1, 43, 0, 0, 0, 0) := ftq_ok (by decide +kernel)
theorem d109_43 : ft 109 43 = some (.aload_n 0, 1, 44, 0, 0, 0, 0) := ftq_ok (by decide +kernel)
theorem d109_44 : ft 109 44 = some (.getfield 13, 3, 47, 7, 9, 3, 632) := ftq_ok (by decide +kernel)
theorem d109_47 : ft 109 47 = some (.iload_n 2, 1, 48, 0, 0, 0, 0) := ftq_ok (by decide +kernel)
theorem d109_48 : ft 109 48 = some (.iaload, 1, 49, 0, 0, 0, 0) := ftq_ok (by decide +kernel)
theorem d109_49 : ft 109 49 = some (.iload_n 1, 1, 50, 0, 0, 0, 0) := ftq_ok (by decide +kernel)
theorem d109_50 : ft 109 50 = some (.iadd, 1, 51, 0, 0, 0, 0) := ftq_ok (by decide +kernel)
theorem d109_51 : ft 109 51 = some (.bipush 9, 2, 53, 0, 0, 0, 0) := ftq_ok (by decide +kernel)
theorem d109_53 : ft 109 53 = some (.if_icmp .le 8, 3, 56, 61, 0, 0, 0) := ftq_ok (by decide +kernel)
theorem d109_56 : ft 109 56 = some (.bipush 9, 2, 58, 0, 0, 0, 0) := ftq_ok (by decide +kernel)
theorem d109_58 : ft 109 58 = some (.goto 11, 3, 61, 69, 0, 0, 0) := ftq_ok (by decide +kernel)
theorem d109_61 : ft 109 61 = some (.aload_n 0, 1, 62, 0, 0, 0, 0) := ftq_ok (by decide +kernel)
theorem d109_62 : ft 109 62 = some (.getfield 13, 3, 65, 7, 9, 3, 632) := ftq_ok (by decide +kernel)
theorem d109_65 : ft 109 65 = some (.iload_n 2, 1, 66, 0, 0, 0, 0) := ftq_ok (by decide +kernel)
theorem d109_66 : ft 109 66 = some (.iaload, 1, 67, 0, 0, 0, 0) := ftq_ok (by decide +kernel)
theorem d109_67 : ft 109 67 = some (.iload_n 1, 1, 68, 0, 0, 0, 0) := ftq_ok (by decide +kernel)
theorem d109_68 : ft 109 68 = some (.iadd, 1, 69, 0, 0, 0, 0) := ftq_ok (by decide +kernel)
theorem d109_69 : ft 109 69 = some (.iastore, 1, 70, 0, 0, 0, 0) := ftq_ok (by decide +kernel)
theorem d109_70 : ft 109 70 = some (.iinc 2 1, 3, 73, 0, 0, 0, 0) := ftq_ok (by decide +kernel)
theorem d109_73 : ft 109 73 = some (.goto (-43), 3, 76, 30, 0, 0, 0) := ftq_ok (by decide +kernel)
theorem d109_76 : ft 109 76 = some (.aload_n 0, 1, 77, 0, 0, 0, 0) := ftq_ok (by decide +kernel)
theorem d109_77 : ft 109 77 = some (.invokevirtual 169, 3, 80, 108, 0, 0, 864) := ftq_ok (by decide +kernel)
theorem d109_80 : ft 109 80 = some (.ireturn, 1, 81, 0, 0, 0, 0) := ftq_ok (by decide +kernel)
-- 110: Mo_sun
theorem d110_0 : ft 110 0 = some (.aload_n 0, 1, 1, 0, 0, 0, 0) := ftq_ok (by decide +kernel)
theorem d110_1 : ft 110 1 = some (.invokevirtual 126, 3, 4, 87, 0, 0, 791) := ftq_ok (by decide +kernel)
theorem d110_4 : ft 110 4 = some (.ifCond .eq 6, 3, 7, 10, 0, 0, 0) := ftq_ok (by decide +kernel)
theorem d110_7 : ft 110 7 = some (.bipush (-103), 2, 9, 0, 0, 0, 0) := ftq_ok (by decide +kernel)
theorem d110_9 : ft 110 9 = some (.ireturn, 1, 10, 0, 0, 0, 0) := ftq_ok (by decide +kernel)
theorem d110_10 : ft 110 10 = some (.aload_n 0, 1, 11, 0, 0, 0, 0) := ftq_ok (by decide +kernel)
theorem d110_11 : ft 110 11 = some (.getfield 107, 3, 14, 7, 6, 0, 629) := ftq_ok (by decide +kernel)
theorem d110_14 : ft 110 14 = some (.istore_n 1, 1, 15, 0, 0, 0, 0) := ftq_ok (by decide +kernel)
theorem d110_15 : ft 110 15 = some (.iload_n 1, 1, 16, 0, 0, 0, 0) := ftq_ok (by decide +kernel)
theorem d110_16 : ft 110 16 = some (.aload_n 0, 1, 17, 0, 0, 0, 0) := ftq_ok (by decide +kernel)
theorem d110_17 : ft 110 17 = some (.getfield 101, 3, 20, 7, 4, 0, 627) := ftq_ok (by decide +kernel)
theorem d110_20 : ft 110 20 = some (.if_icmp .ge 43, 3, 23, 63, 0, 0, 0) := ftq_ok (by decide +kernel)
theorem d110_23 : ft 110 23 = some (.aload_n 0, 1, 24, 0, 0, 0, 0) := ftq_ok (by decide +kernel)
theorem d110_24 : ft 110 24 = some (.getfield 13, 3, 27, 7, 9, 3, 632) := ftq_ok (by decide +kernel)
theorem d110_27 : ft 110 27 = some (.iload_n 1, 1, 28, 0, 0, 0, 0) := ftq_ok (by decide +kernel)
theorem d110_28 : ft 110 28 = some (.aload_n 0, 1, 29, 0, 0, 0, 0) := ftq_ok (by decide +kernel)
theorem d110_29 : ft 110 29 = some (.getfield 13, 3, 32, 7, 9, 3, 632) := ftq_ok (by decide +kernel)
theorem d110_32 : ft 110 32 = some (.iload_n 1, 1, 33, 0, 0, 0, 0) := ftq_ok (by decide +kernel)
theorem d110_33 : ft 110 33 = some (.iaload, 1, 34, 0, 0, 0, 0) := ftq_ok (by decide +kernel)
theorem d110_34 : ft 110 34 = some (.aload_n 0, 1, 35, 0, 0, 0, 0) := ftq_ok (by decide +kernel)
theorem d110_35 : ft 110 35 = some (.getfield 104, 3, 38, 7, 5, 0, 628) := ftq_ok (by decide +kernel)
theorem d110_38 : ft 110 38 = some (.if_icmp .ge 7, 3, 41, 45, 0, 0, 0) := ftq_ok (by decide +kernel)
theorem d110_41 : ft 110 41 = some (.iconst 0, 1, 42, 0, 0, 0, 0) := ftq_ok (by decide +kernel)
theorem d110_42 : ft 110 42 = some (.goto 14, 3, 45, 56, 0, 0, 0) := ftq_ok (by decide +kernel)
theorem d110_45 : ft 110 45 = some (.aload_n 0, 1, 46, 0, 0, 0, 0) := ftq_ok (by decide +kernel)
theorem d110_46 : ft 110 46 = some (.getfield 13, 3, 49, 7, 9, 3, 632) := ftq_ok (by decide +kernel)
theorem d110_49 : ft 110 49 = some (.iload_n 1, 1, 50, 0, 0, 0, 0) := ftq_ok (by decide +kernel)
theorem d110_50 : ft 110 50 = some (.iaload, 1, 51, 0, 0, 0, 0) := ftq_ok (by decide +kernel)
theorem d110_51 : ft 110 51 = some (.aload_n 0, 1, 52, 0, 0, 0, 0) := ftq_ok (by decide +kernel)
theorem d110_52 : ft 110 52 = some (.getfield 104, 3, 55, 7, 5, 0, 628) := ftq_ok (by decide +kernel)
theorem d110_55 : ft 110 55 = some (.isub, 1, 56, 0, 0, 0, 0) := ftq_ok (by decide +kernel)
theorem d110_56 : ft 110 56 = some (.iastore, 1, 57, 0, 0, 0, 0) := ftq_ok (by decide +kernel)
theorem d110_57 : ft 110 57 = some (.iinc 1 1, 3, 60, 0, 0, 0, 0) := ftq_ok (by decide +kernel)
theorem d110_60 : ft 110 60 = some (.goto (-45), 3, 63, 15, 0, 0, 0) := ftq_ok (by decide +kernel)
theorem d110_63 : ft 110 63 = some (.aload_n 0, 1, 64, 0, 0, 0, 0) := ftq_ok (by decide +kernel)
theorem d110_64 : ft 110 64 = some (.invokevirtual 169, 3, 67, 108, 0, 0, 864) := ftq_ok (by decide +kernel)
theorem d110_67 : ft 110 67 = some (.ireturn, 1, 68, 0, 0, 0, 0) := ftq_ok (by decide +kernel)
-- 111: Mo_ways
theorem d111_0 : ft 111 0 = some (.iconst 1, 1, 1, 0, 0, 0, 0) := ftq_ok (by decide +kernel)
theorem d111_1 : ft 111 1 = some (.istore_n 1, 1, 2, 0, 0, 0, 0) := ftq_ok (by decide +kernel)
theorem d111_2 : ft 111 2 = some (.aload_n 0, 1, 3, 0, 0, 0, 0) := ftq_ok (by decide +kernel)
theorem d111_3 : ft 111 3 = some (.getfield 107, 3, 6, 7, 6, 0, 629) := ftq_ok (by decide +kernel)
theorem d111_6 : ft 111 6 = some (.istore_n 2, 1, 7, 0, 0, 0, 0) := ftq_ok (by decide +kernel)
theorem d111_7 : ft 111 7 = some (.iload_n 2, 1, 8, 0, 0, 0, 0) := ftq_ok (by decide +kernel)
theorem d111_8 : ft 111 8 = some (.aload_n 0, 1, 9, 0, 0, 0, 0) := ftq_ok (by decide +kernel)
theorem d111_9 : ft 111 9 = some (.getfield 101, 3, 12, 7, 4, 0, 627) := ftq_ok (by decide +kernel)
theorem d111_12 : ft 111 12 = some (.if_icmp .ge 16, 3, 15, 28, 0, 0, 0) := ftq_ok (by decide +kernel)
theorem d111_15 : ft 111 15 = some (.iload_n 1, 1, 16, 0, 0, 0, 0) := ftq_ok (by decide +kernel)
theorem d111_16 : ft 111 16 = some (.aload_n 0, 1, 17, 0, 0, 0, 0) := ftq_ok (by decide +kernel)
theorem d111_17 : ft 111 17 = some (.getfield 113, 3, 20, 7, 11, 0, 634) := ftq_ok (by decide +kernel)
theorem d111_20 : ft 111 20 = some (.imul, 1, 21, 0, 0, 0, 0) := ftq_ok (by decide +kernel)
theorem d111_21 : ft 111 21 = some (.istore_n 1, 1, 22, 0, 0, 0, 0) := ftq_ok (by decide +kernel)
theorem d111_22 : ft 111 22 = some (.iinc 2 1, 3, 25, 0, 0, 0, 0) := ftq_ok (by decide +kernel)
theorem d111_25 : ft 111 25 = some (.goto (-18), 3, 28, 7, 0, 0, 0) := ftq_ok (by decide +kernel)
theorem d111_28 : ft 111 28 = some (.iload_n 1, 1, 29, 0, 0, 0, 0) := ftq_ok (by decide +kernel)
theorem d111_29 : ft 111 29 = some (.ireturn, 1, 30, 0, 0, 0, 0) := ftq_ok (by decide +kernel)
-- 112: Mo_layWho
theorem d112_0 : ft 112 0 = some (.iload_n 1, 1, 1, 0, 0, 0, 0) := ftq_ok (by decide +kernel)
theorem d112_1 : ft 112 1 = some (.istore_n 2, 1, 2, 0, 0, 0, 0) := ftq_ok (by decide +kernel)
theorem d112_2 : ft 112 2 = some (.aload_n 0, 1, 3, 0, 0, 0, 0) := ftq_ok (by decide +kernel)
theorem d112_3 : ft 112 3 = some (.getfield 101, 3, 6, 7, 4, 0, 627) := ftq_ok (by decide +kernel)
theorem d112_6 : ft 112 6 = some (.iconst 1, 1, 7, 0, 0, 0, 0) := ftq_ok (by decide +kernel)
theorem d112_7 : ft 112 7 = some (.isub, 1, 8, 0, 0, 0, 0) := ftq_ok (by decide +kernel)
theorem d112_8 : ft 112 8 = some (.istore_n 3, 1, 9, 0, 0, 0, 0) := ftq_ok (by decide +kernel)
theorem d112_9 : ft 112 9 = some (.iload_n 3, 1, 10, 0, 0, 0, 0) := ftq_ok (by decide +kernel)
theorem d112_10 : ft 112 10 = some (.aload_n 0, 1, 11, 0, 0, 0, 0) := ftq_ok (by decide +kernel)
theorem d112_11 : ft 112 11 = some (.getfield 107, 3, 14, 7, 6, 0, 629) := ftq_ok (by decide +kernel)
theorem d112_14 : ft 112 14 = some (.if_icmp .lt 28, 3, 17, 42, 0, 0, 0) := ftq_ok (by decide +kernel)
theorem d112_17 : ft 112 17 = some (.aload_n 0, 1, 18, 0, 0, 0, 0) := ftq_ok (by decide +kernel)
theorem d112_18 : ft 112 18 = some (.getfield 34, 3, 21, 7, 17, 3, 640) := ftq_ok (by decide +kernel)
theorem d112_21 : ft 112 21 = some (.iload_n 3, 1, 22, 0, 0, 0, 0) := ftq_ok (by decide +kernel)
theorem d112_22 : ft 112 22 = some (.iload_n 2, 1, 23, 0, 0, 0, 0) := ftq_ok (by decide +kernel)
theorem d112_23 : ft 112 23 = some (.aload_n 0, 1, 24, 0, 0, 0, 0) := ftq_ok (by decide +kernel)
theorem d112_24 : ft 112 24 = some (.getfield 113, 3, 27, 7, 11, 0, 634) := ftq_ok (by decide +kernel)
theorem d112_27 : ft 112 27 = some (.irem, 1, 28, 0, 0, 0, 0) := ftq_ok (by decide +kernel)
theorem d112_28 : ft 112 28 = some (.iastore, 1, 29, 0, 0, 0, 0) := ftq_ok (by decide +kernel)
theorem d112_29 : ft 112 29 = some (.iload_n 2, 1, 30, 0, 0, 0, 0) := ftq_ok (by decide +kernel)
theorem d112_30 : ft 112 30 = some (.aload_n 0, 1, 31, 0, 0, 0, 0) := ftq_ok (by decide +kernel)
theorem d112_31 : ft 112 31 = some (.getfield 113, 3, 34, 7, 11, 0, 634) := ftq_ok (by decide +kernel)
theorem d112_34 : ft 112 34 = some (.idiv, 1, 35, 0, 0, 0, 0) := ftq_ok (by decide +kernel)
theorem d112_35 : ft 112 35 = some (.istore_n 2, 1, 36, 0, 0, 0, 0) := ftq_ok (by decide +kernel)
theorem d112_36 : ft 112 36 = some (.iinc 3 (-1), 3, 39, 0, 0, 0, 0) := ftq_ok (by decide +kernel)
theorem d112_39 : ft 112 39 = some (.goto (-30), 3, 42, 9, 0, 0, 0) := ftq_ok (by decide +kernel)
theorem d112_42 : ft 112 42 = some (.return_, 1, 43, 0, 0, 0, 0) := ftq_ok (by decide +kernel)
-- 113: Mo_goesBy
theorem d113_0 : ft 113 0 = some (.aload_n 0, 1, 1, 0, 0, 0, 0) := ftq_ok (by decide +kernel)
theorem d113_1 : ft 113 1 = some (.invokevirtual 148, 3, 4, 98, 0, 0, 827) := ftq_ok (by decide +kernel)
theorem d113_4 : ft 113 4 = some (.aload_n 0, 1, 5, 0, 0, 0, 0) := ftq_ok (by decide +kernel)
theorem d113_5 : ft 113 5 = some (.iconst 0, 1, 6, 0, 0, 0, 0) := ftq_ok (by decide +kernel)
theorem d113_6 : ft 113 6 = some (.putfield 172, 3, 9, 7, 18, 0, 641) := ftq_ok (by decide +kernel)
theorem d113_9 : ft 113 9 = some (.iconst 1, 1, 10, 0, 0, 0, 0) := ftq_ok (by decide +kernel)
theorem d113_10 : ft 113 10 = some (.istore_n 1, 1, 11, 0, 0, 0, 0) := ftq_ok (by decide +kernel)
theorem d113_11 : ft 113 11 = some (.aload_n 0, 1, 12, 0, 0, 0, 0) := ftq_ok (by decide +kernel)
theorem d113_12 : ft 113 12 = some (.getfield 107, 3, 15, 7, 6, 0, 629) := ftq_ok (by decide +kernel)
theorem d113_15 : ft 113 15 = some (.istore_n 2, 1, 16, 0, 0, 0, 0) := ftq_ok (by decide +kernel)
theorem d113_16 : ft 113 16 = some (.iload_n 2, 1, 17, 0, 0, 0, 0) := ftq_ok (by decide +kernel)
theorem d113_17 : ft 113 17 = some (.aload_n 0, 1, 18, 0, 0, 0, 0) := ftq_ok (by decide +kernel)
theorem d113_18 : ft 113 18 = some (.getfield 101, 3, 21, 7, 4, 0, 627) := ftq_ok (by decide +kernel)
theorem d113_21 : ft 113 21 = some (.if_icmp .ge 70, 3, 24, 91, 0, 0, 0) := ftq_ok (by decide +kernel)
theorem d113_24 : ft 113 24 = some (.iload_n 1, 1, 25, 0, 0, 0, 0) := ftq_ok (by decide +kernel)
theorem d113_25 : ft 113 25 = some (.ifCond .eq 66, 3, 28, 91, 0, 0, 0) := ftq_ok (by decide +kernel)
theorem d113_28 : ft 113 28 = some (.aload_n 0, 1, 29, 0, 0, 0, 0) := ftq_ok (by decide +kernel)
theorem d113_29 : ft 113 29 = some (.getfield 28, 3, 32, 7, 15, 3, 638) := ftq_ok (by decide +kernel)
theorem d113_32 : ft 113 32 = some (.iconst 0, 1, 33, 0, 0, 0, 0) := ftq_ok (by decide +kernel)
theorem d113_33 : ft 113 33 = some (.iaload, 1, 34, 0, 0, 0, 0) := ftq_ok (by decide +kernel)
theorem d113_34 : ft 113 34 = some (.aload_n 0, 1, 35, 0, 0, 0, 0) := ftq_ok (by decide +kernel)
theorem d113_35 : ft 113 35 = some (.getfield 34, 3, 38, 7, 17, 3, 640) := ftq_ok (by decide +kernel)
theorem d113_38 : ft 113 38 = some (.iload_n 2, 1, 39, 0, 0, 0, 0) := ftq_ok (by decide +kernel)
theorem d113_39 : ft 113 39 = some (.iaload, 1, 40, 0, 0, 0, 0) := ftq_ok (by decide +kernel)
theorem d113_40 : ft 113 40 = some (.if_icmp .eq 20, 3, 43, 60, 0, 0, 0) := ftq_ok (by decide +kernel)
theorem d113_43 : ft 113 43 = some (.aload_n 0, 1, 44, 0, 0, 0, 0) := ftq_ok (by decide +kernel)
theorem d113_44 : ft 113 44 = some (.invokevirtual 161, 3, 47, 100, 0, 0, 847) := ftq_ok (by decide +kernel)
theorem d113_47 : ft 113 47 = some (.aload_n 0, 1, 48, 0, 0, 0, 0) := ftq_ok (by decide +kernel)
theorem d113_48 : ft 113 48 = some (.dup, 1, 49, 0, 0, 0, 0) := ftq_ok (by decide +kernel)
theorem d113_49 : ft 113 49 = some (.getfield 172, 3, 52, 7, 18, 0, 641) := ftq_ok (by decide +kernel)
theorem d113_52 : ft 113 52 = some (.iconst 1, 1, 53, 0, 0, 0, 0) := ftq_ok (by decide +kernel)
theorem d113_53 : ft 113 53 = some (.iadd, 1, 54, 0, 0, 0, 0) := ftq_ok (by decide +kernel)
theorem d113_54 : ft 113 54 = some (.putfield 172, 3, 57, 7, 18, 0, 641) := ftq_ok (by decide +kernel)
theorem d113_57 : ft 113 57 = some (.goto (-29), 3, 60, 28, 0, 0, 0) := ftq_ok (by decide +kernel)
theorem d113_60 : ft 113 60 = some (.aload_n 0, 1, 61, 0, 0, 0, 0) := ftq_ok (by decide +kernel)
theorem d113_61 : ft 113 61 = some (.aload_n 0, 1, 62, 0, 0, 0, 0) := ftq_ok (by decide +kernel)
theorem d113_62 : ft 113 62 = some (.getfield 13, 3, 65, 7, 9, 3, 632) := ftq_ok (by decide +kernel)
theorem d113_65 : ft 113 65 = some (.iload_n 2, 1, 66, 0, 0, 0, 0) := ftq_ok (by decide +kernel)
theorem d113_66 : ft 113 66 = some (.iaload, 1, 67, 0, 0, 0, 0) := ftq_ok (by decide +kernel)
theorem d113_67 : ft 113 67 = some (.invokevirtual 151, 3, 70, 101, 1, 0, 831) := ftq_ok (by decide +kernel)
theorem d113_70 : ft 113 70 = some (.istore_n 1, 1, 71, 0, 0, 0, 0) := ftq_ok (by decide +kernel)
theorem d113_71 : ft 113 71 = some (.iload_n 1, 1, 72, 0, 0, 0, 0) := ftq_ok (by decide +kernel)
theorem d113_72 : ft 113 72 = some (.ifCond .eq 13, 3, 75, 85, 0, 0, 0) := ftq_ok (by decide +kernel)
theorem d113_75 : ft 113 75 = some (.aload_n 0, 1, 76, 0, 0, 0, 0) := ftq_ok (by decide +kernel)
theorem d113_76 : ft 113 76 = some (.aload_n 0, 1, 77, 0, 0, 0, 0) := ftq_ok (by decide +kernel)
theorem d113_77 : ft 113 77 = some (.getfield 13, 3, 80, 7, 9, 3, 632) := ftq_ok (by decide +kernel)
theorem d113_80 : ft 113 80 = some (.iload_n 2, 1, 81, 0, 0, 0, 0) := ftq_ok (by decide +kernel)
theorem d113_81 : ft 113 81 = some (.iaload, 1, 82, 0, 0, 0, 0) := ftq_ok (by decide +kernel)
theorem d113_82 : ft 113 82 = some (.invokevirtual 154, 3, 85, 102, 1, 0, 835) := ftq_ok (by decide +kernel)
theorem d113_85 : ft 113 85 = some (.iinc 2 1, 3, 88, 0, 0, 0, 0) := ftq_ok (by decide +kernel)
theorem d113_88 : ft 113 88 = some (.goto (-72), 3, 91, 16, 0, 0, 0) := ftq_ok (by decide +kernel)
theorem d113_91 : ft 113 91 = some (.iload_n 1, 1, 92, 0, 0, 0, 0) := ftq_ok (by decide +kernel)
theorem d113_92 : ft 113 92 = some (.ireturn, 1, 93, 0, 0, 0, 0) := ftq_ok (by decide +kernel)
-- 114: Mo_layBest
theorem d114_0 : ft 114 0 = some (.aload_n 0, 1, 1, 0, 0, 0, 0) := ftq_ok (by decide +kernel)
theorem d114_1 : ft 114 1 = some (.iconst (-1), 1, 2, 0, 0, 0, 0) := ftq_ok (by decide +kernel)
theorem d114_2 : ft 114 2 = some (.putfield 175, 3, 5, 7, 20, 0, 643) := ftq_ok (by decide +kernel)
theorem d114_5 : ft 114 5 = some (.aload_n 0, 1, 6, 0, 0, 0, 0) := ftq_ok (by decide +kernel)
theorem d114_6 : ft 114 6 = some (.iconst (-1), 1, 7, 0, 0, 0, 0) := ftq_ok (by decide +kernel)
theorem d114_7 : ft 114 7 = some (.putfield 178, 3, 10, 7, 21, 0, 644) := ftq_ok (by decide +kernel)
theorem d114_10 : ft 114 10 = some (.aload_n 0, 1, 11, 0, 0, 0, 0) := ftq_ok (by decide +kernel)
theorem d114_11 : ft 114 11 = some (.iconst (-1), 1, 12, 0, 0, 0, 0) := ftq_ok (by decide +kernel)
theorem d114_12 : ft 114 12 = some (.putfield 181, 3, 15, 7, 22, 0, 645) := ftq_ok (by decide +kernel)
theorem d114_15 : ft 114 15 = some (.iconst 0, 1, 16, 0, 0, 0, 0) := ftq_ok (by decide +kernel)
theorem d114_16 : ft 114 16 = some (.istore_n 1, 1, 17, 0, 0, 0, 0) := ftq_ok (by decide +kernel)
theorem d114_17 : ft 114 17 = some (.iload_n 1, 1, 18, 0, 0, 0, 0) := ftq_ok (by decide +kernel)
theorem d114_18 : ft 114 18 = some (.aload_n 0, 1, 19, 0, 0, 0, 0) := ftq_ok (by decide +kernel)
theorem d114_19 : ft 114 19 = some (.invokevirtual 184, 3, 22, 111, 0, 0, 886) := ftq_ok (by decide +kernel)
theorem d114_22 : ft 114 22 = some (.if_icmp .ge 118, 3, 25, 140, 0, 0, 0) := ftq_ok (by decide +kernel)
theorem d114_25 : ft 114 25 = some (.aload_n 0, 1, 26, 0, 0, 0, 0) := ftq_ok (by decide +kernel)
theorem d114_26 : ft 114 26 = some (.iload_n 1, 1, 27, 0, 0, 0, 0) := ftq_ok (by decide +kernel)
theorem d114_27 : ft 114 27 = some (.invokevirtual 187, 3, 30, 112, 1, 0, 890) := ftq_ok (by decide +kernel)
theorem d114_30 : ft 114 30 = some (.aload_n 0, 1, 31, 0, 0, 0, 0) := ftq_ok (by decide +kernel)
theorem d114_31 : ft 114 31 = some (.invokevirtual 190, 3, 34, 113, 0, 0, 894) := ftq_ok (by decide +kernel)
theorem d114_34 : ft 114 34 = some (.ifCond .eq 100, 3, 37, 134, 0, 0, 0) := ftq_ok (by decide +kernel)
theorem d114_37 : ft 114 37 = some (.aload_n 0, 1, 38, 0, 0, 0, 0) := ftq_ok (by decide +kernel)
theorem d114_38 : ft 114 38 = some (.invokevirtual 193, 3, 41, 103, 0, 0, 898) := ftq_ok (by decide +kernel)
theorem d114_41 : ft 114 41 = some (.istore_n 2, 1, 42, 0, 0, 0, 0) := ftq_ok (by decide +kernel)
theorem d114_42 : ft 114 42 = some (.aload_n 0, 1, 43, 0, 0, 0, 0) := ftq_ok (by decide +kernel)
theorem d114_43 : ft 114 43 = some (.getfield 175, 3, 46, 7, 20, 0, 643) := ftq_ok (by decide +kernel)
theorem d114_46 : ft 114 46 = some (.iconst (-1), 1, 47, 0, 0, 0, 0) := ftq_ok (by decide +kernel)
theorem d114_47 : ft 114 47 = some (.if_icmp .eq 30, 3, 50, 77, 0, 0, 0) := ftq_ok (by decide +kernel)
theorem d114_50 : ft 114 50 = some (.iload_n 2, 1, 51, 0, 0, 0, 0) := ftq_ok (by decide +kernel)
theorem d114_51 : ft 114 51 = some (.aload_n 0, 1, 52, 0, 0, 0, 0) := ftq_ok (by decide +kernel)
theorem d114_52 : ft 114 52 = some (.getfield 178, 3, 55, 7, 21, 0, 644) := ftq_ok (by decide +kernel)
theorem d114_55 : ft 114 55 = some (.if_icmp .gt 22, 3, 58, 77, 0, 0, 0) := ftq_ok (by decide +kernel)
theorem d114_58 : ft 114 58 = some (.iload_n 2, 1, 59, 0, 0, 0, 0) := ftq_ok (by decide +kernel)
theorem d114_59 : ft 114 59 = some (.aload_n 0, 1, 60, 0, 0, 0, 0) := ftq_ok (by decide +kernel)
theorem d114_60 : ft 114 60 = some (.getfield 178, 3, 63, 7, 21, 0, 644) := ftq_ok (by decide +kernel)
theorem d114_63 : ft 114 63 = some (.if_icmp .ne 18, 3, 66, 81, 0, 0, 0) := ftq_ok (by decide +kernel)
theorem d114_66 : ft 114 66 = some (.aload_n 0, 1, 67, 0, 0, 0, 0) := ftq_ok (by decide +kernel)
theorem d114_67 : ft 114 67 = some (.getfield 172, 3, 70, 7, 18, 0, 641) := ftq_ok (by decide +kernel)
theorem d114_70 : ft 114 70 = some (.aload_n 0, 1, 71, 0, 0, 0, 0) := ftq_ok (by decide +kernel)
theorem d114_71 : ft 114 71 = some (.getfield 181, 3, 74, 7, 22, 0, 645) := ftq_ok (by decide +kernel)
theorem d114_74 : ft 114 74 = some (.if_icmp .ge 7, 3, 77, 81, 0, 0, 0) := ftq_ok (by decide +kernel)
theorem d114_77 : ft 114 77 = some (.iconst 1, 1, 78, 0, 0, 0, 0) := ftq_ok (by decide +kernel)
theorem d114_78 : ft 114 78 = some (.goto 4, 3, 81, 82, 0, 0, 0) := ftq_ok (by decide +kernel)
theorem d114_81 : ft 114 81 = some (.iconst 0, 1, 82, 0, 0, 0, 0) := ftq_ok (by decide +kernel)
theorem d114_82 : ft 114 82 = some (.istore_n 3, 1, 83, 0, 0, 0, 0) := ftq_ok (by decide +kernel)
theorem d114_83 : ft 114 83 = some (.aload_n 0, 1, 84, 0, 0, 0, 0) := ftq_ok (by decide +kernel)
theorem d114_84 : ft 114 84 = some (.iload_n 3, 1, 85, 0, 0, 0, 0) := ftq_ok (by decide +kernel)
theorem d114_85 : ft 114 85 = some (.ifCond .eq 10, 3, 88, 95, 0, 0, 0) := ftq_ok (by decide +kernel)
theorem d114_88 : ft 114 88 = some (.aload_n 0, 1, 89, 0, 0, 0, 0) := ftq_ok (by decide +kernel)
theorem d114_89 : ft 114 89 = some (.getfield 172, 3, 92, 7, 18, 0, 641) := ftq_ok (by decide +kernel)
theorem d114_92 : ft 114 92 = some (.goto 7, 3, 95, 99, 0, 0, 0) := ftq_ok (by decide +kernel)
theorem d114_95 : ft 114 95 = some (.aload_n 0, 1, 96, 0, 0, 0, 0) := ftq_ok (by decide +kernel)
theorem d114_96 : ft 114 96 = some (.getfield 181, 3, 99, 7, 22, 0, 645) := ftq_ok (by decide +kernel)
theorem d114_99 : ft 114 99 = some (.putfield 181, 3, 102, 7, 22, 0, 645) := ftq_ok (by decide +kernel)
theorem d114_102 : ft 114 102 = some (.aload_n 0, 1, 103, 0, 0, 0, 0) := ftq_ok (by decide +kernel)
theorem d114_103 : ft 114 103 = some (.iload_n 3, 1, 104, 0, 0, 0, 0) := ftq_ok (by decide +kernel)
theorem d114_104 : ft 114 104 = some (.ifCond .eq 7, 3, 107, 111, 0, 0, 0) := ftq_ok (by decide +kernel)
theorem d114_107 : ft 114 107 = some (.iload_n 2, 1, 108, 0, 0, 0, 0) := ftq_ok (by decide +kernel)
theorem d114_108 : ft 114 108 = some (.goto 7, 3, 111, 115, 0, 0, 0) := ftq_ok (by decide +kernel)
theorem d114_111 : ft 114 111 = some (.aload_n 0, 1, 112, 0, 0, 0, 0) := ftq_ok (by decide +kernel)
theorem d114_112 : ft 114 112 = some (.getfield 178, 3, 115, 7, 21, 0, 644) := ftq_ok (by decide +kernel)
theorem d114_115 : ft 114 115 = some (.putfield 178, 3, 118, 7, 21, 0, 644) := ftq_ok (by decide +kernel)
theorem d114_118 : ft 114 118 = some (.aload_n 0, 1, 119, 0, 0, 0, 0) := ftq_ok (by decide +kernel)
theorem d114_119 : ft 114 119 = some (.iload_n 3, 1, 120, 0, 0, 0, 0) := ftq_ok (by decide +kernel)
theorem d114_120 : ft 114 120 = some (.ifCond .eq 7, 3, 123, 127, 0, 0, 0) := ftq_ok (by decide +kernel)
theorem d114_123 : ft 114 123 = some (.iload_n 1, 1, 124, 0, 0, 0, 0) := ftq_ok (by decide +kernel)
theorem d114_124 : ft 114 124 = some (.goto 7, 3, 127, 131, 0, 0, 0) := ftq_ok (by decide +kernel)
theorem d114_127 : ft 114 127 = some (.aload_n 0, 1, 128, 0, 0, 0, 0) := ftq_ok (by decide +kernel)
theorem d114_128 : ft 114 128 = some (.getfield 175, 3, 131, 7, 20, 0, 643) := ftq_ok (by decide +kernel)
theorem d114_131 : ft 114 131 = some (.putfield 175, 3, 134, 7, 20, 0, 643) := ftq_ok (by decide +kernel)
theorem d114_134 : ft 114 134 = some (.iinc 1 1, 3, 137, 0, 0, 0, 0) := ftq_ok (by decide +kernel)
theorem d114_137 : ft 114 137 = some (.goto (-120), 3, 140, 17, 0, 0, 0) := ftq_ok (by decide +kernel)
theorem d114_140 : ft 114 140 = some (.return_, 1, 141, 0, 0, 0, 0) := ftq_ok (by decide +kernel)
-- 115: Mo_tellBest
theorem d115_0 : ft 115 0 = some (.aload_n 0, 1, 1, 0, 0, 0, 0) := ftq_ok (by decide +kernel)
theorem d115_1 : ft 115 1 = some (.invokevirtual 196, 3, 4, 114, 0, 0, 882) := ftq_ok (by decide +kernel)
theorem d115_4 : ft 115 4 = some (.aload_n 0, 1, 5, 0, 0, 0, 0) := ftq_ok (by decide +kernel)
theorem d115_5 : ft 115 5 = some (.getfield 175, 3, 8, 7, 20, 0, 643) := ftq_ok (by decide +kernel)
theorem d115_8 : ft 115 8 = some (.iconst (-1), 1, 9, 0, 0, 0, 0) := ftq_ok (by decide +kernel)
theorem d115_9 : ft 115 9 = some (.if_icmp .eq 9, 3, 12, 18, 0, 0, 0) := ftq_ok (by decide +kernel)
theorem d115_12 : ft 115 12 = some (.iload_n 1, 1, 13, 0, 0, 0, 0) := ftq_ok (by decide +kernel)
theorem d115_13 : ft 115 13 = some (.bipush 10, 2, 15, 0, 0, 0, 0) := ftq_ok (by decide +kernel)
theorem d115_15 : ft 115 15 = some (.if_icmp .ge 28, 3, 18, 43, 0, 0, 0) := ftq_ok (by decide +kernel)
theorem d115_18 : ft 115 18 = some (.iload_n 1, 1, 19, 0, 0, 0, 0) := ftq_ok (by decide +kernel)
theorem d115_19 : ft 115 19 = some (.ifCond .ne 10, 3, 22, 29, 0, 0, 0) := ftq_ok (by decide +kernel)
theorem d115_22 : ft 115 22 = some (.aload_n 0, 1, 23, 0, 0, 0, 0) := ftq_ok (by decide +kernel)
theorem d115_23 : ft 115 23 = some (.getfield 178, 3, 26, 7, 21, 0, 644) := ftq_ok (by decide +kernel)
theorem d115_26 : ft 115 26 = some (.goto 16, 3, 29, 42, 0, 0, 0) := ftq_ok (by decide +kernel)
theorem d115_29 : ft 115 29 = some (.iload_n 1, 1, 30, 0, 0, 0, 0) := ftq_ok (by decide +kernel)
theorem d115_30 : ft 115 30 = some (.iconst 1, 1, 31, 0, 0, 0, 0) := ftq_ok (by decide +kernel)
theorem d115_31 : ft 115 31 = some (.if_icmp .ne 10, 3, 34, 41, 0, 0, 0) := ftq_ok (by decide +kernel)
theorem d115_34 : ft 115 34 = some (.aload_n 0, 1, 35, 0, 0, 0, 0) := ftq_ok (by decide +kernel)
theorem d115_35 : ft 115 35 = some (.getfield 181, 3, 38, 7, 22, 0, 645) := ftq_ok (by decide +kernel)
theorem d115_38 : ft 115 38 = some (.goto 4, 3, 41, 42, 0, 0, 0) := ftq_ok (by decide +kernel)
theorem d115_41 : ft 115 41 = some (.iconst (-1), 1, 42, 0, 0, 0, 0) := ftq_ok (by decide +kernel)
theorem d115_42 : ft 115 42 = some (.ireturn, 1, 43, 0, 0, 0, 0) := ftq_ok (by decide +kernel)
theorem d115_43 : ft 115 43 = some (.aload_n 0, 1, 44, 0, 0, 0, 0) := ftq_ok (by decide +kernel)
theorem d115_44 : ft 115 44 = some (.aload_n 0, 1, 45, 0, 0, 0, 0) := ftq_ok (by decide +kernel)
theorem d115_45 : ft 115 45 = some (.getfield 175, 3, 48, 7, 20, 0, 643) := ftq_ok (by decide +kernel)
theorem d115_48 : ft 115 48 = some (.invokevirtual 187, 3, 51, 112, 1, 0, 890) := ftq_ok (by decide +kernel)
theorem d115_51 : ft 115 51 = some (.iload_n 1, 1, 52, 0, 0, 0, 0) := ftq_ok (by decide +kernel)
theorem d115_52 : ft 115 52 = some (.bipush 10, 2, 54, 0, 0, 0, 0) := ftq_ok (by decide +kernel)
theorem d115_54 : ft 115 54 = some (.isub, 1, 55, 0, 0, 0, 0) := ftq_ok (by decide +kernel)
theorem d115_55 : ft 115 55 = some (.i2l, 1, 56, 0, 0, 0, 0) := ftq_ok (by decide +kernel)
theorem d115_56 : ft 115 56 = some (.aload_n 0, 1, 57, 0, 0, 0, 0) := ftq_ok (by decide +kernel)
theorem d115_57 : ft 115 57 = some (.getfield 107, 3, 60, 7, 6, 0, 629) := ftq_ok (by decide +kernel)
theorem d115_60 : ft 115 60 = some (.i2l, 1, 61, 0, 0, 0, 0) := ftq_ok (by decide +kernel)
theorem d115_61 : ft 115 61 = some (.aload_n 0, 1, 62, 0, 0, 0, 0) := ftq_ok (by decide +kernel)
theorem d115_62 : ft 115 62 = some (.getfield 101, 3, 65, 7, 4, 0, 627) := ftq_ok (by decide +kernel)
theorem d115_65 : ft 115 65 = some (.iconst 1, 1, 66, 0, 0, 0, 0) := ftq_ok (by decide +kernel)
theorem d115_66 : ft 115 66 = some (.isub, 1, 67, 0, 0, 0, 0) := ftq_ok (by decide +kernel)
theorem d115_67 : ft 115 67 = some (.i2l, 1, 68, 0, 0, 0, 0) := ftq_ok (by decide +kernel)
theorem d115_68 : ft 115 68 = some (.invokestatic 73, 3, 71, 79, 3, 1, 749) := ftq_ok (by decide +kernel)
theorem d115_71 : ft 115 71 = some (.ifCond .eq 15, 3, 74, 86, 0, 0, 0) := ftq_ok (by decide +kernel)
theorem d115_74 : ft 115 74 = some (.aload_n 0, 1, 75, 0, 0, 0, 0) := ftq_ok (by decide +kernel)
theorem d115_75 : ft 115 75 = some (.getfield 34, 3, 78, 7, 17, 3, 640) := ftq_ok (by decide +kernel)
theorem d115_78 : ft 115 78 = some (.iload_n 1, 1, 79, 0, 0, 0, 0) := ftq_ok (by decide +kernel)
theorem d115_79 : ft 115 79 = some (.bipush 10, 2, 81, 0, 0, 0, 0) := ftq_ok (by decide +kernel)
theorem d115_81 : ft 115 81 = some (.isub, 1, 82, 0, 0, 0, 0) := ftq_ok (by decide +kernel)
theorem d115_82 : ft 115 82 = some (.iaload, 1, 83, 0, 0, 0, 0) := ftq_ok (by decide +kernel)
theorem d115_83 : ft 115 83 = some (.goto 4, 3, 86, 87, 0, 0, 0) := ftq_ok (by decide +kernel)
theorem d115_86 : ft 115 86 = some (.iconst (-1), 1, 87, 0, 0, 0, 0) := ftq_ok (by decide +kernel)
theorem d115_87 : ft 115 87 = some (.ireturn, 1, 88, 0, 0, 0, 0) := ftq_ok (by decide +kernel)
-- 116: Mo_best
theorem d116_0 : ft 116 0 = some (.iload_n 1, 1, 1, 0, 0, 0, 0) := ftq_ok (by decide +kernel)
theorem d116_1 : ft 116 1 = some (.i2l, 1, 2, 0, 0, 0, 0) := ftq_ok (by decide +kernel)
theorem d116_2 : ft 116 2 = some (.lconst 0, 1, 3, 0, 0, 0, 0) := ftq_ok (by decide +kernel)
theorem d116_3 : ft 116 3 = some (.lconst 1, 1, 4, 0, 0, 0, 0) := ftq_ok (by decide +kernel)
theorem d116_4 : ft 116 4 = some (.invokestatic 73, 3, 7, 79, 3, 1, 749) := ftq_ok (by decide +kernel)
theorem d116_7 : ft 116 7 = some (.ifCond .ne 20, 3, 10, 27, 0, 0, 0) := ftq_ok (by decide +kernel)
theorem d116_10 : ft 116 10 = some (.iload_n 1, 1, 11, 0, 0, 0, 0) := ftq_ok (by decide +kernel)
theorem d116_11 : ft 116 11 = some (.i2l, 1, 12, 0, 0, 0, 0) := ftq_ok (by decide +kernel)
theorem d116_12 : ft 116 12 = some (.ldc2_w 199, 3, 15, 1, 876, 0, 10) := ftq_ok (by decide +kernel)
theorem d116_15 : ft 116 15 = some (.ldc2_w 201, 3, 18, 1, 877, 0, 15) := ftq_ok (by decide +kernel)
theorem d116_18 : ft 116 18 = some (.invokestatic 73, 3, 21, 79, 3, 1, 749) := ftq_ok (by decide +kernel)
theorem d116_21 : ft 116 21 = some (.ifCond .ne 6, 3, 24, 27, 0, 0, 0) := ftq_ok (by decide +kernel)
theorem d116_24 : ft 116 24 = some (.bipush (-102), 2, 26, 0, 0, 0, 0) := ftq_ok (by decide +kernel)
theorem d116_26 : ft 116 26 = some (.ireturn, 1, 27, 0, 0, 0, 0) := ftq_ok (by decide +kernel)
theorem d116_27 : ft 116 27 = some (.aload_n 0, 1, 28, 0, 0, 0, 0) := ftq_ok (by decide +kernel)
theorem d116_28 : ft 116 28 = some (.getfield 113, 3, 31, 7, 11, 0, 634) := ftq_ok (by decide +kernel)
theorem d116_31 : ft 116 31 = some (.ifCond .eq 12, 3, 34, 43, 0, 0, 0) := ftq_ok (by decide +kernel)
theorem d116_34 : ft 116 34 = some (.aload_n 0, 1, 35, 0, 0, 0, 0) := ftq_ok (by decide +kernel)
theorem d116_35 : ft 116 35 = some (.getfield 203, 3, 38, 7, 19, 0, 642) := ftq_ok (by decide +kernel)
theorem d116_38 : ft 116 38 = some (.bipush 20, 2, 40, 0, 0, 0, 0) := ftq_ok (by decide +kernel)
theorem d116_40 : ft 116 40 = some (.if_icmp .ne 6, 3, 43, 46, 0, 0, 0) := ftq_ok (by decide +kernel)
theorem d116_43 : ft 116 43 = some (.bipush (-103), 2, 45, 0, 0, 0, 0) := ftq_ok (by decide +kernel)
theorem d116_45 : ft 116 45 = some (.ireturn, 1, 46, 0, 0, 0, 0) := ftq_ok (by decide +kernel)
theorem d116_46 : ft 116 46 = some (.aload_n 0, 1, 47, 0, 0, 0, 0) := ftq_ok (by decide +kernel)
theorem d116_47 : ft 116 47 = some (.dup, 1, 48, 0, 0, 0, 0) := ftq_ok (by decide +kernel)
theorem d116_48 : ft 116 48 = some (.getfield 203, 3, 51, 7, 19, 0, 642) := ftq_ok (by decide +kernel)
theorem d116_51 : ft 116 51 = some (.iconst 1, 1, 52, 0, 0, 0, 0) := ftq_ok (by decide +kernel)
theorem d116_52 : ft 116 52 = some (.iadd, 1, 53, 0, 0, 0, 0) := ftq_ok (by decide +kernel)
theorem d116_53 : ft 116 53 = some (.putfield 203, 3, 56, 7, 19, 0, 642) := ftq_ok (by decide +kernel)
theorem d116_56 : ft 116 56 = some (.aload_n 0, 1, 57, 0, 0, 0, 0) := ftq_ok (by decide +kernel)
theorem d116_57 : ft 116 57 = some (.iload_n 1, 1, 58, 0, 0, 0, 0) := ftq_ok (by decide +kernel)
theorem d116_58 : ft 116 58 = some (.invokevirtual 206, 3, 61, 115, 1, 0, 878) := ftq_ok (by decide +kernel)
theorem d116_61 : ft 116 61 = some (.ireturn, 1, 62, 0, 0, 0, 0) := ftq_ok (by decide +kernel)
-- 117: Mo_farOf
theorem d117_0 : ft 117 0 = some (.aload_n 0, 1, 1, 0, 0, 0, 0) := ftq_ok (by decide +kernel)
theorem d117_1 : ft 117 1 = some (.invokevirtual 148, 3, 4, 98, 0, 0, 827) := ftq_ok (by decide +kernel)
theorem d117_4 : ft 117 4 = some (.iconst 0, 1, 5, 0, 0, 0, 0) := ftq_ok (by decide +kernel)
theorem d117_5 : ft 117 5 = some (.istore_n 2, 1, 6, 0, 0, 0, 0) := ftq_ok (by decide +kernel)
theorem d117_6 : ft 117 6 = some (.aload_n 0, 1, 7, 0, 0, 0, 0) := ftq_ok (by decide +kernel)
theorem d117_7 : ft 117 7 = some (.getfield 107, 3, 10, 7, 6, 0, 629) := ftq_ok (by decide +kernel)
theorem d117_10 : ft 117 10 = some (.iload_n 2, 1, 11, 0, 0, 0, 0) := ftq_ok (by decide +kernel)
theorem d117_11 : ft 117 11 = some (.iadd, 1, 12, 0, 0, 0, 0) := ftq_ok (by decide +kernel)
theorem d117_12 : ft 117 12 = some (.aload_n 0, 1, 13, 0, 0, 0, 0) := ftq_ok (by decide +kernel)
theorem d117_13 : ft 117 13 = some (.getfield 101, 3, 16, 7, 4, 0, 627) := ftq_ok (by decide +kernel)
theorem d117_16 : ft 117 16 = some (.if_icmp .ge 52, 3, 19, 68, 0, 0, 0) := ftq_ok (by decide +kernel)
theorem d117_19 : ft 117 19 = some (.aload_n 0, 1, 20, 0, 0, 0, 0) := ftq_ok (by decide +kernel)
theorem d117_20 : ft 117 20 = some (.aload_n 0, 1, 21, 0, 0, 0, 0) := ftq_ok (by decide +kernel)
theorem d117_21 : ft 117 21 = some (.getfield 13, 3, 24, 7, 9, 3, 632) := ftq_ok (by decide +kernel)
theorem d117_24 : ft 117 24 = some (.aload_n 0, 1, 25, 0, 0, 0, 0) := ftq_ok (by decide +kernel)
theorem d117_25 : ft 117 25 = some (.getfield 107, 3, 28, 7, 6, 0, 629) := ftq_ok (by decide +kernel)
theorem d117_28 : ft 117 28 = some (.iload_n 2, 1, 29, 0, 0, 0, 0) := ftq_ok (by decide +kernel)
theorem d117_29 : ft 117 29 = some (.iadd, 1, 30, 0, 0, 0, 0) := ftq_ok (by decide +kernel)
theorem d117_30 : ft 117 30 = some (.iaload, 1, 31, 0, 0, 0, 0) := ftq_ok (by decide +kernel)
theorem d117_31 : ft 117 31 = some (.invokevirtual 151, 3, 34, 101, 1, 0, 831) := ftq_ok (by decide +kernel)
theorem d117_34 : ft 117 34 = some (.ifCond .eq 34, 3, 37, 68, 0, 0, 0) := ftq_ok (by decide +kernel)
theorem d117_37 : ft 117 37 = some (.aload_n 0, 1, 38, 0, 0, 0, 0) := ftq_ok (by decide +kernel)
theorem d117_38 : ft 117 38 = some (.aload_n 0, 1, 39, 0, 0, 0, 0) := ftq_ok (by decide +kernel)
theorem d117_39 : ft 117 39 = some (.getfield 13, 3, 42, 7, 9, 3, 632) := ftq_ok (by decide +kernel)
theorem d117_42 : ft 117 42 = some (.aload_n 0, 1, 43, 0, 0, 0, 0) := ftq_ok (by decide +kernel)
theorem d117_43 : ft 117 43 = some (.getfield 107, 3, 46, 7, 6, 0, 629) := ftq_ok (by decide +kernel)
theorem d117_46 : ft 117 46 = some (.iload_n 2, 1, 47, 0, 0, 0, 0) := ftq_ok (by decide +kernel)
theorem d117_47 : ft 117 47 = some (.iadd, 1, 48, 0, 0, 0, 0) := ftq_ok (by decide +kernel)
theorem d117_48 : ft 117 48 = some (.iaload, 1, 49, 0, 0, 0, 0) := ftq_ok (by decide +kernel)
theorem d117_49 : ft 117 49 = some (.invokevirtual 154, 3, 52, 102, 1, 0, 835) := ftq_ok (by decide +kernel)
theorem d117_52 : ft 117 52 = some (.iinc 2 1, 3, 55, 0, 0, 0, 0) := ftq_ok (by decide +kernel)
theorem d117_55 : ft 117 55 = some (.iload_n 2, 1, 56, 0, 0, 0, 0) := ftq_ok (by decide +kernel)
theorem d117_56 : ft 117 56 = some (.iload_n 1, 1, 57, 0, 0, 0, 0) := ftq_ok (by decide +kernel)
theorem d117_57 : ft 117 57 = some (.irem, 1, 58, 0, 0, 0, 0) := ftq_ok (by decide +kernel)
theorem d117_58 : ft 117 58 = some (.ifCond .ne (-52), 3, 61, 6, 0, 0, 0) := ftq_ok (by decide +kernel)
theorem d117_61 : ft 117 61 = some (.aload_n 0, 1, 62, 0, 0, 0, 0) := ftq_ok (by decide +kernel)
theorem d117_62 : ft 117 62 = some (.invokevirtual 161, 3, 65, 100, 0, 0, 847) := ftq_ok (by decide +kernel)
theorem d117_65 : ft 117 65 = some (.goto (-59), 3, 68, 6, 0, 0, 0) := ftq_ok (by decide +kernel)
theorem d117_68 : ft 117 68 = some (.iload_n 2, 1, 69, 0, 0, 0, 0) := ftq_ok (by decide +kernel)
theorem d117_69 : ft 117 69 = some (.ireturn, 1, 70, 0, 0, 0, 0) := ftq_ok (by decide +kernel)
-- 118: Mo_far
theorem d118_0 : ft 118 0 = some (.iload_n 1, 1, 1, 0, 0, 0, 0) := ftq_ok (by decide +kernel)
theorem d118_1 : ft 118 1 = some (.i2l, 1, 2, 0, 0, 0, 0) := ftq_ok (by decide +kernel)
theorem d118_2 : ft 118 2 = some (.lconst 1, 1, 3, 0, 0, 0, 0) := ftq_ok (by decide +kernel)
theorem d118_3 : ft 118 3 = some (.ldc2_w 209, 3, 6, 1, 906, 0, 6) := ftq_ok (by decide +kernel)
theorem d118_6 : ft 118 6 = some (.invokestatic 73, 3, 9, 79, 3, 1, 749) := ftq_ok (by decide +kernel)
theorem d118_9 : ft 118 9 = some (.ifCond .ne 6, 3, 12, 15, 0, 0, 0) := ftq_ok (by decide +kernel)
theorem d118_12 : ft 118 12 = some (.bipush (-102), 2, 14, 0, 0, 0, 0) := ftq_ok (by decide +kernel)
theorem d118_14 : ft 118 14 = some (.ireturn, 1, 15, 0, 0, 0, 0) := ftq_ok (by decide +kernel)
theorem d118_15 : ft 118 15 = some (.aload_n 0, 1, 16, 0, 0, 0, 0) := ftq_ok (by decide +kernel)
theorem d118_16 : ft 118 16 = some (.getfield 113, 3, 19, 7, 11, 0, 634) := ftq_ok (by decide +kernel)
theorem d118_19 : ft 118 19 = some (.ifCond .ne 8, 3, 22, 27, 0, 0, 0) := ftq_ok (by decide +kernel)
theorem d118_22 : ft 118 22 = some (.bipush (-103), 2, 24, 0, 0, 0, 0) := ftq_ok (by decide +kernel)
theorem d118_24 : ft 118 24 = some (.goto 8, 3, 27, 32, 0, 0, 0) := ftq_ok (by decide +kernel)
theorem d118_27 : ft 118 27 = some (.aload_n 0, 1, 28, 0, 0, 0, 0) := ftq_ok (by decide +kernel)
theorem d118_28 : ft 118 28 = some (.iload_n 1, 1, 29, 0, 0, 0, 0) := ftq_ok (by decide +kernel)
theorem d118_29 : ft 118 29 = some (.invokevirtual 211, 3, 32, 117, 1, 0, 907) := ftq_ok (by decide +kernel)
theorem d118_32 : ft 118 32 = some (.ireturn, 1, 33, 0, 0, 0, 0) := ftq_ok (by decide +kernel)
-- 119: Mo_isOrder
theorem d119_0 : ft 119 0 = some (.iload_n 1, 1, 1, 0, 0, 0, 0) := ftq_ok (by decide +kernel)
theorem d119_1 : ft 119 1 = some (.istore_n 2, 1, 2, 0, 0, 0, 0) := ftq_ok (by decide +kernel)
theorem d119_2 : ft 119 2 = some (.iconst 0, 1, 3, 0, 0, 0, 0) := ftq_ok (by decide +kernel)
theorem d119_3 : ft 119 3 = some (.istore_n 3, 1, 4, 0, 0, 0, 0) := ftq_ok (by decide +kernel)
theorem d119_4 : ft 119 4 = some (.aload_n 0, 1, 5, 0, 0, 0, 0) := ftq_ok (by decide +kernel)
theorem d119_5 : ft 119 5 = some (.getfield 113, 3, 8, 7, 11, 0, 634) := ftq_ok (by decide +kernel)
theorem d119_8 : ft 119 8 = some (.iconst 1, 1, 9, 0, 0, 0, 0) := ftq_ok (by decide +kernel)
theorem d119_9 : ft 119 9 = some (.isub, 1, 10, 0, 0, 0, 0) := ftq_ok (by decide +kernel)
theorem d119_10 : ft 119 10 = some (.istore 4, 2, 12, 0, 0, 0, 0) := ftq_ok (by decide +kernel)
theorem d119_12 : ft 119 12 = some (.iload 4, 2, 14, 0, 0, 0, 0) := ftq_ok (by decide +kernel)
theorem d119_14 : ft 119 14 = some (.ifCond .lt 41, 3, 17, 55, 0, 0, 0) := ftq_ok (by decide +kernel)
theorem d119_17 : ft 119 17 = some (.aload_n 0, 1, 18, 0, 0, 0, 0) := ftq_ok (by decide +kernel)
theorem d119_18 : ft 119 18 = some (.getfield 37, 3, 21, 7, 23, 3, 646) := ftq_ok (by decide +kernel)
theorem d119_21 : ft 119 21 = some (.iload 4, 2, 23, 0, 0, 0, 0) := ftq_ok (by decide +kernel)
theorem d119_23 : ft 119 23 = some (.iload_n 2, 1, 24, 0, 0, 0, 0) := ftq_ok (by decide +kernel)
theorem d119_24 : ft 119 24 = some (.aload_n 0, 1, 25, 0, 0, 0, 0) := ftq_ok (by decide +kernel)
theorem d119_25 : ft 119 25 = some (.getfield 113, 3, 28, 7, 11, 0, 634) := ftq_ok (by decide +kernel)
theorem d119_28 : ft 119 28 = some (.irem, 1, 29, 0, 0, 0, 0) := ftq_ok (by decide +kernel)
theorem d119_29 : ft 119 29 = some (.iastore, 1, 30, 0, 0, 0, 0) := ftq_ok (by decide +kernel)
theorem d119_30 : ft 119 30 = some (.iload_n 3, 1, 31, 0, 0, 0, 0) := ftq_ok (by decide +kernel)
theorem d119_31 : ft 119 31 = some (.iconst 1, 1, 32, 0, 0, 0, 0) := ftq_ok (by decide +kernel)
theorem d119_32 : ft 119 32 = some (.aload_n 0, 1, 33, 0, 0, 0, 0) := ftq_ok (by decide +kernel)
theorem d119_33 : ft 119 33 = some (.getfield 37, 3, 36, 7, 23, 3, 646) := ftq_ok (by decide +kernel)
theorem d119_36 : ft 119 36 = some (.iload 4, 2, 38, 0, 0, 0, 0) := ftq_ok (by decide +kernel)
theorem d119_38 : ft 119 38 = some (.iaload, 1, 39, 0, 0, 0, 0) := ftq_ok (by decide +kernel)
theorem d119_39 : ft 119 39 = some (.ishl, 1, 40, 0, 0, 0, 0) := ftq_ok (by decide +kernel)
theorem d119_40 : ft 119 40 = some (.ior, 1, 41, 0, 0, 0, 0) := ftq_ok (by decide +kernel)
theorem d119_41 : ft 119 41 = some (.istore_n 3, 1, 42, 0, 0, 0, 0) := ftq_ok (by decide +kernel)
theorem d119_42 : ft 119 42 = some (.iload_n 2, 1, 43, 0, 0, 0, 0) := ftq_ok (by decide +kernel)
theorem d119_43 : ft 119 43 = some (.aload_n 0, 1, 44, 0, 0, 0, 0) := ftq_ok (by decide +kernel)
theorem d119_44 : ft 119 44 = some (.getfield 113, 3, 47, 7, 11, 0, 634) := ftq_ok (by decide +kernel)
theorem d119_47 : ft 119 47 = some (.idiv, 1, 48, 0, 0, 0, 0) := ftq_ok (by decide +kernel)
theorem d119_48 : ft 119 48 = some (.istore_n 2, 1, 49, 0, 0, 0, 0) := ftq_ok (by decide +kernel)
theorem d119_49 : ft 119 49 = some (.iinc 4 (-1), 3, 52, 0, 0, 0, 0) := ftq_ok (by decide +kernel)
theorem d119_52 : ft 119 52 = some (.goto (-40), 3, 55, 12, 0, 0, 0) := ftq_ok (by decide +kernel)
theorem d119_55 : ft 119 55 = some (.iload_n 3, 1, 56, 0, 0, 0, 0) := ftq_ok (by decide +kernel)
theorem d119_56 : ft 119 56 = some (.iconst 1, 1, 57, 0, 0, 0, 0) := ftq_ok (by decide +kernel)
theorem d119_57 : ft 119 57 = some (.aload_n 0, 1, 58, 0, 0, 0, 0) := ftq_ok (by decide +kernel)
theorem d119_58 : ft 119 58 = some (.getfield 113, 3, 61, 7, 11, 0, 634) := ftq_ok (by decide +kernel)
theorem d119_61 : ft 119 61 = some (.ishl, 1, 62, 0, 0, 0, 0) := ftq_ok (by decide +kernel)
theorem d119_62 : ft 119 62 = some (.iconst 1, 1, 63, 0, 0, 0, 0) := ftq_ok (by decide +kernel)
theorem d119_63 : ft 119 63 = some (.isub, 1, 64, 0, 0, 0, 0) := ftq_ok (by decide +kernel)
theorem d119_64 : ft 119 64 = some (.if_icmp .ne 7, 3, 67, 71, 0, 0, 0) := ftq_ok (by decide +kernel)
theorem d119_67 : ft 119 67 = some (.iconst 1, 1, 68, 0, 0, 0, 0) := ftq_ok (by decide +kernel)
theorem d119_68 : ft 119 68 = some (.goto 4, 3, 71, 72, 0, 0, 0) := ftq_ok (by decide +kernel)
theorem d119_71 : ft 119 71 = some (.iconst 0, 1, 72, 0, 0, 0, 0) := ftq_ok (by decide +kernel)
theorem d119_72 : ft 119 72 = some (.ireturn, 1, 73, 0, 0, 0, 0) := ftq_ok (by decide +kernel)
-- 120: Mo_setsOut
theorem d120_0 : ft 120 0 = some (.iconst 0, 1, 1, 0, 0, 0, 0) := ftq_ok (by decide +kernel)
theorem d120_1 : ft 120 1 = some (.istore_n 1, 1, 2, 0, 0, 0, 0) := ftq_ok (by decide +kernel)
theorem d120_2 : ft 120 2 = some (.iload_n 1, 1, 3, 0, 0, 0, 0) := ftq_ok (by decide +kernel)
theorem d120_3 : ft 120 3 = some (.iconst 5, 1, 4, 0, 0, 0, 0) := ftq_ok (by decide +kernel)
theorem d120_4 : ft 120 4 = some (.if_icmp .ge 37, 3, 7, 41, 0, 0, 0) := ftq_ok (by decide +kernel)
theorem d120_7 : ft 120 7 = some (.aload_n 0, 1, 8, 0, 0, 0, 0) := ftq_ok (by decide +kernel)
theorem d120_8 : ft 120 8 = some (.getfield 28, 3, 11, 7, 15, 3, 638) := ftq_ok (by decide +kernel)
theorem d120_11 : ft 120 11 = some (.iload_n 1, 1, 12, 0, 0, 0, 0) := ftq_ok (by decide +kernel)
theorem d120_12 : ft 120 12 = some (.aload_n 0, 1, 13, 0, 0, 0, 0) := ftq_ok (by decide +kernel)
theorem d120_13 : ft 120 13 = some (.getfield 37, 3, 16, 7, 23, 3, 646) := ftq_ok (by decide +kernel)
theorem d120_16 : ft 120 16 = some (.iload_n 1, 1, 17, 0, 0, 0, 0) := ftq_ok (by decide +kernel)
theorem d120_17 : ft 120 17 = some (.iaload, 1, 18, 0, 0, 0, 0) := ftq_ok (by decide +kernel)
theorem d120_18 : ft 120 18 = some (.iastore, 1, 19, 0, 0, 0, 0) := ftq_ok (by decide +kernel)
theorem d120_19 : ft 120 19 = some (.aload_n 0, 1, 20, 0, 0, 0, 0) := ftq_ok (by decide +kernel)
theorem d120_20 : ft 120 20 = some (.getfield 31, 3, 23, 7, 16, 3, 639) := ftq_ok (by decide +kernel)
theorem d120_23 : ft 120 23 = some (.iload_n 1, 1, 24, 0, 0, 0, 0) := ftq_ok (by decide +kernel)
theorem d120_24 : ft 120 24 = some (.aload_n 0, 1, 25, 0, 0, 0, 0) := ftq_ok (by decide +kernel)
theorem d120_25 : ft 120 25 = some (.getfield 19, 3, 28, 7, 12, 3, 635) := ftq_ok (by decide +kernel)
theorem d120_28 : ft 120 28 = some (.iconst 3, 1, 29, 0, 0, 0, 0) := ftq_ok (by decide +kernel)
theorem d120_29 : ft 120 29 = some (.iload_n 1, 1, 30, 0, 0, 0, 0) := ftq_ok (by decide +kernel)
theorem d120_30 : ft 120 30 = some (.imul, 1, 31, 0, 0, 0, 0) := ftq_ok (by decide +kernel)
theorem d120_31 : ft 120 31 = some (.iconst 1, 1, 32, 0, 0, 0, 0) := ftq_ok (by decide +kernel)
theorem d120_32 : ft 120 32 = some (.iadd, 1, 33, 0, 0, 0, 0) := ftq_ok (by decide +kernel)
theorem d120_33 : ft 120 33 = some (.iaload, 1, 34, 0, 0, 0, 0) := ftq_ok (by decide +kernel)
theorem d120_34 : ft 120 34 = some (.iastore, 1, 35, 0, 0, 0, 0) := ftq_ok (by decide +kernel)
theorem d120_35 : ft 120 35 = some (.iinc 1 1, 3, 38, 0, 0, 0, 0) := ftq_ok (by decide +kernel)
theorem d120_38 : ft 120 38 = some (.goto (-36), 3, 41, 2, 0, 0, 0) := ftq_ok (by decide +kernel)
theorem d120_41 : ft 120 41 = some (.iconst 1, 1, 42, 0, 0, 0, 0) := ftq_ok (by decide +kernel)
theorem d120_42 : ft 120 42 = some (.istore_n 1, 1, 43, 0, 0, 0, 0) := ftq_ok (by decide +kernel)
theorem d120_43 : ft 120 43 = some (.iconst 0, 1, 44, 0, 0, 0, 0) := ftq_ok (by decide +kernel)
theorem d120_44 : ft 120 44 = some (.istore_n 2, 1, 45, 0, 0, 0, 0) := ftq_ok (by decide +kernel)
theorem d120_45 : ft 120 45 = some (.iload_n 2, 1, 46, 0, 0, 0, 0) := ftq_ok (by decide +kernel)
theorem d120_46 : ft 120 46 = some (.aload_n 0, 1, 47, 0, 0, 0, 0) := ftq_ok (by decide +kernel)
theorem d120_47 : ft 120 47 = some (.getfield 101, 3, 50, 7, 4, 0, 627) := ftq_ok (by decide +kernel)
theorem d120_50 : ft 120 50 = some (.if_icmp .ge 42, 3, 53, 92, 0, 0, 0) := ftq_ok (by decide +kernel)
theorem d120_53 : ft 120 53 = some (.iload_n 1, 1, 54, 0, 0, 0, 0) := ftq_ok (by decide +kernel)
theorem d120_54 : ft 120 54 = some (.ifCond .eq 38, 3, 57, 92, 0, 0, 0) := ftq_ok (by decide +kernel)
theorem d120_57 : ft 120 57 = some (.aload_n 0, 1, 58, 0, 0, 0, 0) := ftq_ok (by decide +kernel)
theorem d120_58 : ft 120 58 = some (.aload_n 0, 1, 59, 0, 0, 0, 0) := ftq_ok (by decide +kernel)
theorem d120_59 : ft 120 59 = some (.getfield 13, 3, 62, 7, 9, 3, 632) := ftq_ok (by decide +kernel)
theorem d120_62 : ft 120 62 = some (.iload_n 2, 1, 63, 0, 0, 0, 0) := ftq_ok (by decide +kernel)
theorem d120_63 : ft 120 63 = some (.iaload, 1, 64, 0, 0, 0, 0) := ftq_ok (by decide +kernel)
theorem d120_64 : ft 120 64 = some (.invokevirtual 151, 3, 67, 101, 1, 0, 831) := ftq_ok (by decide +kernel)
theorem d120_67 : ft 120 67 = some (.istore_n 1, 1, 68, 0, 0, 0, 0) := ftq_ok (by decide +kernel)
theorem d120_68 : ft 120 68 = some (.iload_n 1, 1, 69, 0, 0, 0, 0) := ftq_ok (by decide +kernel)
theorem d120_69 : ft 120 69 = some (.ifCond .eq 17, 3, 72, 86, 0, 0, 0) := ftq_ok (by decide +kernel)
theorem d120_72 : ft 120 72 = some (.aload_n 0, 1, 73, 0, 0, 0, 0) := ftq_ok (by decide +kernel)
theorem d120_73 : ft 120 73 = some (.aload_n 0, 1, 74, 0, 0, 0, 0) := ftq_ok (by decide +kernel)
theorem d120_74 : ft 120 74 = some (.getfield 13, 3, 77, 7, 9, 3, 632) := ftq_ok (by decide +kernel)
theorem d120_77 : ft 120 77 = some (.iload_n 2, 1, 78, 0, 0, 0, 0) := ftq_ok (by decide +kernel)
theorem d120_78 : ft 120 78 = some (.iaload, 1, 79, 0, 0, 0, 0) := ftq_ok (by decide +kernel)
theorem d120_79 : ft 120 79 = some (.invokevirtual 154, 3, 82, 102, 1, 0, 835) := ftq_ok (by decide +kernel)
theorem d120_82 : ft 120 82 = some (.aload_n 0, 1, 83, 0, 0, 0, 0) := ftq_ok (by decide +kernel)
theorem d120_83 : ft 120 83 = some (.invokevirtual 161, 3, 86, 100, 0, 0, 847) := ftq_ok (by decide +kernel)
theorem d120_86 : ft 120 86 = some (.iinc 2 1, 3, 89, 0, 0, 0, 0) := ftq_ok (by decide +kernel)
theorem d120_89 : ft 120 89 = some (.goto (-44), 3, 92, 45, 0, 0, 0) := ftq_ok (by decide +kernel)
theorem d120_92 : ft 120 92 = some (.iload_n 1, 1, 93, 0, 0, 0, 0) := ftq_ok (by decide +kernel)
theorem d120_93 : ft 120 93 = some (.ireturn, 1, 94, 0, 0, 0, 0) := ftq_ok (by decide +kernel)
-- 121: Mo_setOutLeft
theorem d121_0 : ft 121 0 = some (.iconst 1, 1, 1, 0, 0, 0, 0) := ftq_ok (by decide +kernel)
theorem d121_1 : ft 121 1 = some (.istore_n 1, 1, 2, 0, 0, 0, 0) := ftq_ok (by decide +kernel)
theorem d121_2 : ft 121 2 = some (.iconst 0, 1, 3, 0, 0, 0, 0) := ftq_ok (by decide +kernel)
theorem d121_3 : ft 121 3 = some (.istore_n 2, 1, 4, 0, 0, 0, 0) := ftq_ok (by decide +kernel)
theorem d121_4 : ft 121 4 = some (.iload_n 2, 1, 5, 0, 0, 0, 0) := ftq_ok (by decide +kernel)
theorem d121_5 : ft 121 5 = some (.aload_n 0, 1, 6, 0, 0, 0, 0) := ftq_ok (by decide +kernel)
theorem d121_6 : ft 121 6 = some (.getfield 113, 3, 9, 7, 11, 0, 634) := ftq_ok (by decide +kernel)
theorem d121_9 : ft 121 9 = some (.if_icmp .ge 16, 3, 12, 25, 0, 0, 0) := ftq_ok (by decide +kernel)
theorem d121_12 : ft 121 12 = some (.iload_n 1, 1, 13, 0, 0, 0, 0) := ftq_ok (by decide +kernel)
theorem d121_13 : ft 121 13 = some (.aload_n 0, 1, 14, 0, 0, 0, 0) := ftq_ok (by decide +kernel)
theorem d121_14 : ft 121 14 = some (.getfield 113, 3, 17, 7, 11, 0, 634) := ftq_ok (by decide +kernel)
theorem d121_17 : ft 121 17 = some (.imul, 1, 18, 0, 0, 0, 0) := ftq_ok (by decide +kernel)
theorem d121_18 : ft 121 18 = some (.istore_n 1, 1, 19, 0, 0, 0, 0) := ftq_ok (by decide +kernel)
theorem d121_19 : ft 121 19 = some (.iinc 2 1, 3, 22, 0, 0, 0, 0) := ftq_ok (by decide +kernel)
theorem d121_22 : ft 121 22 = some (.goto (-18), 3, 25, 4, 0, 0, 0) := ftq_ok (by decide +kernel)
theorem d121_25 : ft 121 25 = some (.iconst (-1), 1, 26, 0, 0, 0, 0) := ftq_ok (by decide +kernel)
theorem d121_26 : ft 121 26 = some (.istore_n 2, 1, 27, 0, 0, 0, 0) := ftq_ok (by decide +kernel)
theorem d121_27 : ft 121 27 = some (.iconst 0, 1, 28, 0, 0, 0, 0) := ftq_ok (by decide +kernel)
theorem d121_28 : ft 121 28 = some (.istore_n 3, 1, 29, 0, 0, 0, 0) := ftq_ok (by decide +kernel)
theorem d121_29 : ft 121 29 = some (.iload_n 3, 1, 30, 0, 0, 0, 0) := ftq_ok (by decide +kernel)
theorem d121_30 : ft 121 30 = some (.iload_n 1, 1, 31, 0, 0, 0, 0) := ftq_ok (by decide +kernel)
theorem d121_31 : ft 121 31 = some (.if_icmp .ge 48, 3, 34, 79, 0, 0, 0) := ftq_ok (by decide +kernel)
theorem d121_34 : ft 121 34 = some (.aload_n 0, 1, 35, 0, 0, 0, 0) := ftq_ok (by decide +kernel)
theorem d121_35 : ft 121 35 = some (.iload_n 3, 1, 36, 0, 0, 0, 0) := ftq_ok (by decide +kernel)
theorem d121_36 : ft 121 36 = some (.invokevirtual 214, 3, 39, 119, 1, 0, 920) := ftq_ok (by decide +kernel)
theorem d121_39 : ft 121 39 = some (.ifCond .eq 34, 3, 42, 73, 0, 0, 0) := ftq_ok (by decide +kernel)
theorem d121_42 : ft 121 42 = some (.aload_n 0, 1, 43, 0, 0, 0, 0) := ftq_ok (by decide +kernel)
theorem d121_43 : ft 121 43 = some (.invokevirtual 217, 3, 46, 120, 0, 0, 924) := ftq_ok (by decide +kernel)
theorem d121_46 : ft 121 46 = some (.ifCond .eq 27, 3, 49, 73, 0, 0, 0) := ftq_ok (by decide +kernel)
theorem d121_49 : ft 121 49 = some (.aload_n 0, 1, 50, 0, 0, 0, 0) := ftq_ok (by decide +kernel)
theorem d121_50 : ft 121 50 = some (.invokevirtual 193, 3, 53, 103, 0, 0, 898) := ftq_ok (by decide +kernel)
theorem d121_53 : ft 121 53 = some (.iload_n 2, 1, 54, 0, 0, 0, 0) := ftq_ok (by decide +kernel)
theorem d121_54 : ft 121 54 = some (.if_icmp .le 19, 3, 57, 73, 0, 0, 0) := ftq_ok (by decide +kernel)
theorem d121_57 : ft 121 57 = some (.aload_n 0, 1, 58, 0, 0, 0, 0) := ftq_ok (by decide +kernel)
theorem d121_58 : ft 121 58 = some (.invokevirtual 193, 3, 61, 103, 0, 0, 898) := ftq_ok (by decide +kernel)
theorem d121_61 : ft 121 61 = some (.istore_n 2, 1, 62, 0, 0, 0, 0) := ftq_ok (by decide +kernel)
theorem d121_62 : ft 121 62 = some (.aload_n 0, 1, 63, 0, 0, 0, 0) := ftq_ok (by decide +kernel)
theorem d121_63 : ft 121 63 = some (.getfield 37, 3, 66, 7, 23, 3, 646) := ftq_ok (by decide +kernel)
theorem d121_66 : ft 121 66 = some (.aload_n 0, 1, 67, 0, 0, 0, 0) := ftq_ok (by decide +kernel)
theorem d121_67 : ft 121 67 = some (.getfield 40, 3, 70, 7, 24, 3, 647) := ftq_ok (by decide +kernel)
theorem d121_70 : ft 121 70 = some (.invokestatic 220, 3, 73, 129, 2, 1, 928) := ftq_ok (by decide +kernel)
theorem d121_73 : ft 121 73 = some (.iinc 3 1, 3, 76, 0, 0, 0, 0) := ftq_ok (by decide +kernel)
theorem d121_76 : ft 121 76 = some (.goto (-47), 3, 79, 29, 0, 0, 0) := ftq_ok (by decide +kernel)
theorem d121_79 : ft 121 79 = some (.iload_n 2, 1, 80, 0, 0, 0, 0) := ftq_ok (by decide +kernel)
theorem d121_80 : ft 121 80 = some (.ireturn, 1, 81, 0, 0, 0, 0) := ftq_ok (by decide +kernel)
-- 122: Mo_setOut
theorem d122_0 : ft 122 0 = some (.iload_n 1, 1, 1, 0, 0, 0, 0) := ftq_ok (by decide +kernel)
theorem d122_1 : ft 122 1 = some (.ifCond .eq 20, 3, 4, 21, 0, 0, 0) := ftq_ok (by decide +kernel)
theorem d122_4 : ft 122 4 = some (.iload_n 1, 1, 5, 0, 0, 0, 0) := ftq_ok (by decide +kernel)
theorem d122_5 : ft 122 5 = some (.i2l, 1, 6, 0, 0, 0, 0) := ftq_ok (by decide +kernel)
theorem d122_6 : ft 122 6 = some (.ldc2_w 199, 3, 9, 1, 876, 0, 10) := ftq_ok (by decide +kernel)
theorem d122_9 : ft 122 9 = some (.ldc2_w 224, 3, 12, 1, 915, 0, 14) := ftq_ok (by decide +kernel)
theorem d122_12 : ft 122 12 = some (.invokestatic 73, 3, 15, 79, 3, 1, 749) := ftq_ok (by decide +kernel)
theorem d122_15 : ft 122 15 = some (.ifCond .ne 6, 3, 18, 21, 0, 0, 0) := ftq_ok (by decide +kernel)
theorem d122_18 : ft 122 18 = some (.bipush (-102), 2, 20, 0, 0, 0, 0) := ftq_ok (by decide +kernel)
theorem d122_20 : ft 122 20 = some (.ireturn, 1, 21, 0, 0, 0, 0) := ftq_ok (by decide +kernel)
theorem d122_21 : ft 122 21 = some (.aload_n 0, 1, 22, 0, 0, 0, 0) := ftq_ok (by decide +kernel)
theorem d122_22 : ft 122 22 = some (.getfield 113, 3, 25, 7, 11, 0, 634) := ftq_ok (by decide +kernel)
theorem d122_25 : ft 122 25 = some (.ifCond .ne 6, 3, 28, 31, 0, 0, 0) := ftq_ok (by decide +kernel)
theorem d122_28 : ft 122 28 = some (.bipush (-103), 2, 30, 0, 0, 0, 0) := ftq_ok (by decide +kernel)
theorem d122_30 : ft 122 30 = some (.ireturn, 1, 31, 0, 0, 0, 0) := ftq_ok (by decide +kernel)
theorem d122_31 : ft 122 31 = some (.aload_n 0, 1, 32, 0, 0, 0, 0) := ftq_ok (by decide +kernel)
theorem d122_32 : ft 122 32 = some (.invokevirtual 226, 3, 35, 121, 0, 0, 916) := ftq_ok (by decide +kernel)
theorem d122_35 : ft 122 35 = some (.istore_n 2, 1, 36, 0, 0, 0, 0) := ftq_ok (by decide +kernel)
theorem d122_36 : ft 122 36 = some (.iload_n 1, 1, 37, 0, 0, 0, 0) := ftq_ok (by decide +kernel)
theorem d122_37 : ft 122 37 = some (.ifCond .ne 7, 3, 40, 44, 0, 0, 0) := ftq_ok (by decide +kernel)
theorem d122_40 : ft 122 40 = some (.iload_n 2, 1, 41, 0, 0, 0, 0) := ftq_ok (by decide +kernel)
theorem d122_41 : ft 122 41 = some (.goto 32, 3, 44, 73, 0, 0, 0) := ftq_ok (by decide +kernel)
theorem d122_44 : ft 122 44 = some (.iload_n 2, 1, 45, 0, 0, 0, 0) := ftq_ok (by decide +kernel)
theorem d122_45 : ft 122 45 = some (.iconst (-1), 1, 46, 0, 0, 0, 0) := ftq_ok (by decide +kernel)
theorem d122_46 : ft 122 46 = some (.if_icmp .eq 14, 3, 49, 60, 0, 0, 0) := ftq_ok (by decide +kernel)
theorem d122_49 : ft 122 49 = some (.iload_n 1, 1, 50, 0, 0, 0, 0) := ftq_ok (by decide +kernel)
theorem d122_50 : ft 122 50 = some (.bipush 10, 2, 52, 0, 0, 0, 0) := ftq_ok (by decide +kernel)
theorem d122_52 : ft 122 52 = some (.isub, 1, 53, 0, 0, 0, 0) := ftq_ok (by decide +kernel)
theorem d122_53 : ft 122 53 = some (.aload_n 0, 1, 54, 0, 0, 0, 0) := ftq_ok (by decide +kernel)
theorem d122_54 : ft 122 54 = some (.getfield 113, 3, 57, 7, 11, 0, 634) := ftq_ok (by decide +kernel)
theorem d122_57 : ft 122 57 = some (.if_icmp .lt 7, 3, 60, 64, 0, 0, 0) := ftq_ok (by decide +kernel)
theorem d122_60 : ft 122 60 = some (.iconst (-1), 1, 61, 0, 0, 0, 0) := ftq_ok (by decide +kernel)
theorem d122_61 : ft 122 61 = some (.goto 12, 3, 64, 73, 0, 0, 0) := ftq_ok (by decide +kernel)
theorem d122_64 : ft 122 64 = some (.aload_n 0, 1, 65, 0, 0, 0, 0) := ftq_ok (by decide +kernel)
theorem d122_65 : ft 122 65 = some (.getfield 40, 3, 68, 7, 24, 3, 647) := ftq_ok (by decide +kernel)
theorem d122_68 : ft 122 68 = some (.iload_n 1, 1, 69, 0, 0, 0, 0) := ftq_ok (by decide +kernel)
theorem d122_69 : ft 122 69 = some (.bipush 10, 2, 71, 0, 0, 0, 0) := ftq_ok (by decide +kernel)
theorem d122_71 : ft 122 71 = some (.isub, 1, 72, 0, 0, 0, 0) := ftq_ok (by decide +kernel)
theorem d122_72 : ft 122 72 = some (.iaload, 1, 73, 0, 0, 0, 0) := ftq_ok (by decide +kernel)
theorem d122_73 : ft 122 73 = some (.ireturn, 1, 74, 0, 0, 0, 0) := ftq_ok (by decide +kernel)
-- 123: Mo_tell
theorem d123_0 : ft 123 0 = some (.aload_n 0, 1, 1, 0, 0, 0, 0) := ftq_ok (by decide +kernel)
theorem d123_1 : ft 123 1 = some (.iload_n 1, 1, 2, 0, 0, 0, 0) := ftq_ok (by decide +kernel)
theorem d123_2 : ft 123 2 = some (.invokevirtual 141, 3, 5, 90, 1, 0, 799) := ftq_ok (by decide +kernel)
theorem d123_5 : ft 123 5 = some (.ifCond .ne 6, 3, 8, 11, 0, 0, 0) := ftq_ok (by decide +kernel)
theorem d123_8 : ft 123 8 = some (.bipush (-101), 2, 10, 0, 0, 0, 0) := ftq_ok (by decide +kernel)
theorem d123_10 : ft 123 10 = some (.ireturn, 1, 11, 0, 0, 0, 0) := ftq_ok (by decide +kernel)
theorem d123_11 : ft 123 11 = some (.iload_n 2, 1, 12, 0, 0, 0, 0) := ftq_ok (by decide +kernel)
theorem d123_12 : ft 123 12 = some (.i2l, 1, 13, 0, 0, 0, 0) := ftq_ok (by decide +kernel)
theorem d123_13 : ft 123 13 = some (.ldc2_w 229, 3, 16, 1, 935, 0, (-1)) := ftq_ok (by decide +kernel)
theorem d123_16 : ft 123 16 = some (.ldc2_w 209, 3, 19, 1, 906, 0, 6) := ftq_ok (by decide +kernel)
theorem d123_19 : ft 123 19 = some (.invokestatic 73, 3, 22, 79, 3, 1, 749) := ftq_ok (by decide +kernel)
theorem d123_22 : ft 123 22 = some (.ifCond .ne 6, 3, 25, 28, 0, 0, 0) := ftq_ok (by decide +kernel)
theorem d123_25 : ft 123 25 = some (.bipush (-102), 2, 27, 0, 0, 0, 0) := ftq_ok (by decide +kernel)
theorem d123_27 : ft 123 27 = some (.ireturn, 1, 28, 0, 0, 0, 0) := ftq_ok (by decide +kernel)
theorem d123_28 : ft 123 28 = some (.aload_n 0, 1, 29, 0, 0, 0, 0) := ftq_ok (by decide +kernel)
theorem d123_29 : ft 123 29 = some (.getfield 19, 3, 32, 7, 12, 3, 635) := ftq_ok (by decide +kernel)
theorem d123_32 : ft 123 32 = some (.iconst 3, 1, 33, 0, 0, 0, 0) := ftq_ok (by decide +kernel)
theorem d123_33 : ft 123 33 = some (.iload_n 1, 1, 34, 0, 0, 0, 0) := ftq_ok (by decide +kernel)
theorem d123_34 : ft 123 34 = some (.imul, 1, 35, 0, 0, 0, 0) := ftq_ok (by decide +kernel)
theorem d123_35 : ft 123 35 = some (.iconst 2, 1, 36, 0, 0, 0, 0) := ftq_ok (by decide +kernel)
theorem d123_36 : ft 123 36 = some (.iadd, 1, 37, 0, 0, 0, 0) := ftq_ok (by decide +kernel)
theorem d123_37 : ft 123 37 = some (.iaload, 1, 38, 0, 0, 0, 0) := ftq_ok (by decide +kernel)
theorem d123_38 : ft 123 38 = some (.istore_n 3, 1, 39, 0, 0, 0, 0) := ftq_ok (by decide +kernel)
theorem d123_39 : ft 123 39 = some (.aload_n 0, 1, 40, 0, 0, 0, 0) := ftq_ok (by decide +kernel)
theorem d123_40 : ft 123 40 = some (.getfield 19, 3, 43, 7, 12, 3, 635) := ftq_ok (by decide +kernel)
theorem d123_43 : ft 123 43 = some (.iconst 3, 1, 44, 0, 0, 0, 0) := ftq_ok (by decide +kernel)
theorem d123_44 : ft 123 44 = some (.iload_n 1, 1, 45, 0, 0, 0, 0) := ftq_ok (by decide +kernel)
theorem d123_45 : ft 123 45 = some (.imul, 1, 46, 0, 0, 0, 0) := ftq_ok (by decide +kernel)
theorem d123_46 : ft 123 46 = some (.iconst 2, 1, 47, 0, 0, 0, 0) := ftq_ok (by decide +kernel)
theorem d123_47 : ft 123 47 = some (.iadd, 1, 48, 0, 0, 0, 0) := ftq_ok (by decide +kernel)
theorem d123_48 : ft 123 48 = some (.iload_n 2, 1, 49, 0, 0, 0, 0) := ftq_ok (by decide +kernel)
theorem d123_49 : ft 123 49 = some (.iastore, 1, 50, 0, 0, 0, 0) := ftq_ok (by decide +kernel)
theorem d123_50 : ft 123 50 = some (.iload_n 3, 1, 51, 0, 0, 0, 0) := ftq_ok (by decide +kernel)
theorem d123_51 : ft 123 51 = some (.ireturn, 1, 52, 0, 0, 0, 0) := ftq_ok (by decide +kernel)
-- 124: Mo_isBooked
theorem d124_0 : ft 124 0 = some (.iconst 0, 1, 1, 0, 0, 0, 0) := ftq_ok (by decide +kernel)
theorem d124_1 : ft 124 1 = some (.istore_n 1, 1, 2, 0, 0, 0, 0) := ftq_ok (by decide +kernel)
theorem d124_2 : ft 124 2 = some (.iload_n 1, 1, 3, 0, 0, 0, 0) := ftq_ok (by decide +kernel)
theorem d124_3 : ft 124 3 = some (.iconst 5, 1, 4, 0, 0, 0, 0) := ftq_ok (by decide +kernel)
theorem d124_4 : ft 124 4 = some (.if_icmp .ge 16, 3, 7, 20, 0, 0, 0) := ftq_ok (by decide +kernel)
theorem d124_7 : ft 124 7 = some (.aload_n 0, 1, 8, 0, 0, 0, 0) := ftq_ok (by decide +kernel)
theorem d124_8 : ft 124 8 = some (.getfield 43, 3, 11, 7, 26, 3, 649) := ftq_ok (by decide +kernel)
theorem d124_11 : ft 124 11 = some (.iload_n 1, 1, 12, 0, 0, 0, 0) := ftq_ok (by decide +kernel)
theorem d124_12 : ft 124 12 = some (.iconst 0, 1, 13, 0, 0, 0, 0) := ftq_ok (by decide +kernel)
theorem d124_13 : ft 124 13 = some (.iastore, 1, 14, 0, 0, 0, 0) := ftq_ok (by decide +kernel)
theorem d124_14 : ft 124 14 = some (.iinc 1 1, 3, 17, 0, 0, 0, 0) := ftq_ok (by decide +kernel)
theorem d124_17 : ft 124 17 = some (.goto (-15), 3, 20, 2, 0, 0, 0) := ftq_ok (by decide +kernel)
theorem d124_20 : ft 124 20 = some (.aload_n 0, 1, 21, 0, 0, 0, 0) := ftq_ok (by decide +kernel)
theorem d124_21 : ft 124 21 = some (.getfield 107, 3, 24, 7, 6, 0, 629) := ftq_ok (by decide +kernel)
theorem d124_24 : ft 124 24 = some (.istore_n 1, 1, 25, 0, 0, 0, 0) := ftq_ok (by decide +kernel)
theorem d124_25 : ft 124 25 = some (.iload_n 1, 1, 26, 0, 0, 0, 0) := ftq_ok (by decide +kernel)
theorem d124_26 : ft 124 26 = some (.aload_n 0, 1, 27, 0, 0, 0, 0) := ftq_ok (by decide +kernel)
theorem d124_27 : ft 124 27 = some (.getfield 101, 3, 30, 7, 4, 0, 627) := ftq_ok (by decide +kernel)
theorem d124_30 : ft 124 30 = some (.if_icmp .ge 24, 3, 33, 54, 0, 0, 0) := ftq_ok (by decide +kernel)
theorem d124_33 : ft 124 33 = some (.aload_n 0, 1, 34, 0, 0, 0, 0) := ftq_ok (by decide +kernel)
theorem d124_34 : ft 124 34 = some (.getfield 43, 3, 37, 7, 26, 3, 649) := ftq_ok (by decide +kernel)
theorem d124_37 : ft 124 37 = some (.aload_n 0, 1, 38, 0, 0, 0, 0) := ftq_ok (by decide +kernel)
theorem d124_38 : ft 124 38 = some (.getfield 34, 3, 41, 7, 17, 3, 640) := ftq_ok (by decide +kernel)
theorem d124_41 : ft 124 41 = some (.iload_n 1, 1, 42, 0, 0, 0, 0) := ftq_ok (by decide +kernel)
theorem d124_42 : ft 124 42 = some (.iaload, 1, 43, 0, 0, 0, 0) := ftq_ok (by decide +kernel)
theorem d124_43 : ft 124 43 = some (.dup2, 1, 44, 0, 0, 0, 0) := ftq_ok (by decide +kernel)
theorem d124_44 : ft 124 44 = some (.iaload, 1, 45, 0, 0, 0, 0) := ftq_ok (by decide +kernel)
theorem d124_45 : ft 124 45 = some (.iconst 1, 1, 46, 0, 0, 0, 0) := ftq_ok (by decide +kernel)
theorem d124_46 : ft 124 46 = some (.iadd, 1, 47, 0, 0, 0, 0) := ftq_ok (by decide +kernel)
theorem d124_47 : ft 124 47 = some (.iastore, 1, 48, 0, 0, 0, 0) := ftq_ok (by decide +kernel)
theorem d124_48 : ft 124 48 = some (.iinc 1 1, 3, 51, 0, 0, 0, 0) := ftq_ok (by decide +kernel)
theorem d124_51 : ft 124 51 = some (.goto (-26), 3, 54, 25, 0, 0, 0) := ftq_ok (by decide +kernel)
theorem d124_54 : ft 124 54 = some (.iconst 1, 1, 55, 0, 0, 0, 0) := ftq_ok (by decide +kernel)
theorem d124_55 : ft 124 55 = some (.istore_n 1, 1, 56, 0, 0, 0, 0) := ftq_ok (by decide +kernel)
theorem d124_56 : ft 124 56 = some (.iconst 0, 1, 57, 0, 0, 0, 0) := ftq_ok (by decide +kernel)
theorem d124_57 : ft 124 57 = some (.istore_n 2, 1, 58, 0, 0, 0, 0) := ftq_ok (by decide +kernel)
theorem d124_58 : ft 124 58 = some (.iload_n 2, 1, 59, 0, 0, 0, 0) := ftq_ok (by decide +kernel)
theorem d124_59 : ft 124 59 = some (.aload_n 0, 1, 60, 0, 0, 0, 0) := ftq_ok (by decide +kernel)
theorem d124_60 : ft 124 60 = some (.getfield 113, 3, 63, 7, 11, 0, 634) := ftq_ok (by decide +kernel)
theorem d124_63 : ft 124 63 = some (.if_icmp .ge 52, 3, 66, 115, 0, 0, 0) := ftq_ok (by decide +kernel)
theorem d124_66 : ft 124 66 = some (.iload_n 1, 1, 67, 0, 0, 0, 0) := ftq_ok (by decide +kernel)
theorem d124_67 : ft 124 67 = some (.ifCond .eq 40, 3, 70, 107, 0, 0, 0) := ftq_ok (by decide +kernel)
theorem d124_70 : ft 124 70 = some (.aload_n 0, 1, 71, 0, 0, 0, 0) := ftq_ok (by decide +kernel)
theorem d124_71 : ft 124 71 = some (.getfield 19, 3, 74, 7, 12, 3, 635) := ftq_ok (by decide +kernel)
theorem d124_74 : ft 124 74 = some (.iconst 3, 1, 75, 0, 0, 0, 0) := ftq_ok (by decide +kernel)
theorem d124_75 : ft 124 75 = some (.iload_n 2, 1, 76, 0, 0, 0, 0) := ftq_ok (by decide +kernel)
theorem d124_76 : ft 124 76 = some (.imul, 1, 77, 0, 0, 0, 0) := ftq_ok (by decide +kernel)
theorem d124_77 : ft 124 77 = some (.iconst 2, 1, 78, 0, 0, 0, 0) := ftq_ok (by decide +kernel)
theorem d124_78 : ft 124 78 = some (.iadd, 1, 79, 0, 0, 0, 0) := ftq_ok (by decide +kernel)
theorem d124_79 : ft 124 79 = some (.iaload, 1, 80, 0, 0, 0, 0) := ftq_ok (by decide +kernel)
theorem d124_80 : ft 124 80 = some (.iconst (-1), 1, 81, 0, 0, 0, 0) := ftq_ok (by decide +kernel)
theorem d124_81 : ft 124 81 = some (.if_icmp .eq 22, 3, 84, 103, 0, 0, 0) := ftq_ok (by decide +kernel)
theorem d124_84 : ft 124 84 = some (.aload_n 0, 1, 85, 0, 0, 0, 0) := ftq_ok (by decide +kernel)
theorem d124_85 : ft 124 85 = some (.getfield 19, 3, 88, 7, 12, 3, 635) := ftq_ok (by decide +kernel)
theorem d124_88 : ft 124 88 = some (.iconst 3, 1, 89, 0, 0, 0, 0) := ftq_ok (by decide +kernel)
theorem d124_89 : ft 124 89 = some (.iload_n 2, 1, 90, 0, 0, 0, 0) := ftq_ok (by decide +kernel)
theorem d124_90 : ft 124 90 = some (.imul, 1, 91, 0, 0, 0, 0) := ftq_ok (by decide +kernel)
theorem d124_91 : ft 124 91 = some (.iconst 2, 1, 92, 0, 0, 0, 0) := ftq_ok (by decide +kernel)
theorem d124_92 : ft 124 92 = some (.iadd, 1, 93, 0, 0, 0, 0) := ftq_ok (by decide +kernel)
theorem d124_93 : ft 124 93 = some (.iaload, 1, 94, 0, 0, 0, 0) := ftq_ok (by decide +kernel)
theorem d124_94 : ft 124 94 = some (.aload_n 0, 1, 95, 0, 0, 0, 0) := ftq_ok (by decide +kernel)
theorem d124_95 : ft 124 95 = some (.getfield 43, 3, 98, 7, 26, 3, 649) := ftq_ok (by decide +kernel)
theorem d124_98 : ft 124 98 = some (.iload_n 2, 1, 99, 0, 0, 0, 0) := ftq_ok (by decide +kernel)
theorem d124_99 : ft 124 99 = some (.iaload, 1, 100, 0, 0, 0, 0) := ftq_ok (by decide +kernel)
theorem d124_100 : ft 124 100 = some (.if_icmp .ne 7, 3, 103, 107, 0, 0, 0) := ftq_ok (by decide +kernel)
theorem d124_103 : ft 124 103 = some (.iconst 1, 1, 104, 0, 0, 0, 0) := ftq_ok (by decide +kernel)
theorem d124_104 : ft 124 104 = some (.goto 4, 3, 107, 108, 0, 0, 0) := ftq_ok (by decide +kernel)
theorem d124_107 : ft 124 107 = some (.iconst 0, 1, 108, 0, 0, 0, 0) := ftq_ok (by decide +kernel)
theorem d124_108 : ft 124 108 = some (.istore_n 1, 1, 109, 0, 0, 0, 0) := ftq_ok (by decide +kernel)
theorem d124_109 : ft 124 109 = some (.iinc 2 1, 3, 112, 0, 0, 0, 0) := ftq_ok (by decide +kernel)
theorem d124_112 : ft 124 112 = some (.goto (-54), 3, 115, 58, 0, 0, 0) := ftq_ok (by decide +kernel)
theorem d124_115 : ft 124 115 = some (.iload_n 1, 1, 116, 0, 0, 0, 0) := ftq_ok (by decide +kernel)
theorem d124_116 : ft 124 116 = some (.ireturn, 1, 117, 0, 0, 0, 0) := ftq_ok (by decide +kernel)
-- 125: Mo_layFits
theorem d125_0 : ft 125 0 = some (.iconst 0, 1, 1, 0, 0, 0, 0) := ftq_ok (by decide +kernel)
theorem d125_1 : ft 125 1 = some (.istore_n 1, 1, 2, 0, 0, 0, 0) := ftq_ok (by decide +kernel)
theorem d125_2 : ft 125 2 = some (.iload_n 1, 1, 3, 0, 0, 0, 0) := ftq_ok (by decide +kernel)
theorem d125_3 : ft 125 3 = some (.bipush 6, 2, 5, 0, 0, 0, 0) := ftq_ok (by decide +kernel)
theorem d125_5 : ft 125 5 = some (.if_icmp .ge 16, 3, 8, 21, 0, 0, 0) := ftq_ok (by decide +kernel)
theorem d125_8 : ft 125 8 = some (.aload_n 0, 1, 9, 0, 0, 0, 0) := ftq_ok (by decide +kernel)
theorem d125_9 : ft 125 9 = some (.getfield 46, 3, 12, 7, 27, 3, 650) := ftq_ok (by decide +kernel)
theorem d125_12 : ft 125 12 = some (.iload_n 1, 1, 13, 0, 0, 0, 0) := ftq_ok (by decide +kernel)
theorem d125_13 : ft 125 13 = some (.iconst 0, 1, 14, 0, 0, 0, 0) := ftq_ok (by decide +kernel)
theorem d125_14 : ft 125 14 = some (.iastore, 1, 15, 0, 0, 0, 0) := ftq_ok (by decide +kernel)
theorem d125_15 : ft 125 15 = some (.iinc 1 1, 3, 18, 0, 0, 0, 0) := ftq_ok (by decide +kernel)
theorem d125_18 : ft 125 18 = some (.goto (-16), 3, 21, 2, 0, 0, 0) := ftq_ok (by decide +kernel)
theorem d125_21 : ft 125 21 = some (.iconst 0, 1, 22, 0, 0, 0, 0) := ftq_ok (by decide +kernel)
theorem d125_22 : ft 125 22 = some (.istore_n 1, 1, 23, 0, 0, 0, 0) := ftq_ok (by decide +kernel)
theorem d125_23 : ft 125 23 = some (.iconst 0, 1, 24, 0, 0, 0, 0) := ftq_ok (by decide +kernel)
theorem d125_24 : ft 125 24 = some (.istore_n 2, 1, 25, 0, 0, 0, 0) := ftq_ok (by decide +kernel)
theorem d125_25 : ft 125 25 = some (.iload_n 2, 1, 26, 0, 0, 0, 0) := ftq_ok (by decide +kernel)
theorem d125_26 : ft 125 26 = some (.aload_n 0, 1, 27, 0, 0, 0, 0) := ftq_ok (by decide +kernel)
theorem d125_27 : ft 125 27 = some (.invokevirtual 184, 3, 30, 111, 0, 0, 886) := ftq_ok (by decide +kernel)
theorem d125_30 : ft 125 30 = some (.if_icmp .ge 67, 3, 33, 97, 0, 0, 0) := ftq_ok (by decide +kernel)
theorem d125_33 : ft 125 33 = some (.aload_n 0, 1, 34, 0, 0, 0, 0) := ftq_ok (by decide +kernel)
theorem d125_34 : ft 125 34 = some (.iload_n 2, 1, 35, 0, 0, 0, 0) := ftq_ok (by decide +kernel)
theorem d125_35 : ft 125 35 = some (.invokevirtual 187, 3, 38, 112, 1, 0, 890) := ftq_ok (by decide +kernel)
theorem d125_38 : ft 125 38 = some (.aload_n 0, 1, 39, 0, 0, 0, 0) := ftq_ok (by decide +kernel)
theorem d125_39 : ft 125 39 = some (.invokevirtual 231, 3, 42, 124, 0, 0, 944) := ftq_ok (by decide +kernel)
theorem d125_42 : ft 125 42 = some (.ifCond .eq 49, 3, 45, 91, 0, 0, 0) := ftq_ok (by decide +kernel)
theorem d125_45 : ft 125 45 = some (.aload_n 0, 1, 46, 0, 0, 0, 0) := ftq_ok (by decide +kernel)
theorem d125_46 : ft 125 46 = some (.invokevirtual 190, 3, 49, 113, 0, 0, 894) := ftq_ok (by decide +kernel)
theorem d125_49 : ft 125 49 = some (.ifCond .eq 42, 3, 52, 91, 0, 0, 0) := ftq_ok (by decide +kernel)
theorem d125_52 : ft 125 52 = some (.iinc 1 1, 3, 55, 0, 0, 0, 0) := ftq_ok (by decide +kernel)
theorem d125_55 : ft 125 55 = some (.aload_n 0, 1, 56, 0, 0, 0, 0) := ftq_ok (by decide +kernel)
theorem d125_56 : ft 125 56 = some (.getfield 107, 3, 59, 7, 6, 0, 629) := ftq_ok (by decide +kernel)
theorem d125_59 : ft 125 59 = some (.istore_n 3, 1, 60, 0, 0, 0, 0) := ftq_ok (by decide +kernel)
theorem d125_60 : ft 125 60 = some (.iload_n 3, 1, 61, 0, 0, 0, 0) := ftq_ok (by decide +kernel)
theorem d125_61 : ft 125 61 = some (.aload_n 0, 1, 62, 0, 0, 0, 0) := ftq_ok (by decide +kernel)
theorem d125_62 : ft 125 62 = some (.getfield 101, 3, 65, 7, 4, 0, 627) := ftq_ok (by decide +kernel)
theorem d125_65 : ft 125 65 = some (.if_icmp .ge 26, 3, 68, 91, 0, 0, 0) := ftq_ok (by decide +kernel)
theorem d125_68 : ft 125 68 = some (.aload_n 0, 1, 69, 0, 0, 0, 0) := ftq_ok (by decide +kernel)
theorem d125_69 : ft 125 69 = some (.getfield 46, 3, 72, 7, 27, 3, 650) := ftq_ok (by decide +kernel)
theorem d125_72 : ft 125 72 = some (.iload_n 3, 1, 73, 0, 0, 0, 0) := ftq_ok (by decide +kernel)
theorem d125_73 : ft 125 73 = some (.dup2, 1, 74, 0, 0, 0, 0) := ftq_ok (by decide +kernel)
theorem d125_74 : ft 125 74 = some (.iaload, 1, 75, 0, 0, 0, 0) := ftq_ok (by decide +kernel)
theorem d125_75 : ft 125 75 = some (.iconst 1, 1, 76, 0, 0, 0, 0) := ftq_ok (by decide +kernel)
theorem d125_76 : ft 125 76 = some (.aload_n 0, 1, 77, 0, 0, 0, 0) := ftq_ok (by decide +kernel)
theorem d125_77 : ft 125 77 = some (.getfield 34, 3, 80, 7, 17, 3, 640) := ftq_ok (by decide +kernel)
theorem d125_80 : ft 125 80 = some (.iload_n 3, 1, 81, 0, 0, 0, 0) := ftq_ok (by decide +kernel)
theorem d125_81 : ft 125 81 = some (.iaload, 1, 82, 0, 0, 0, 0) := ftq_ok (by decide +kernel)
theorem d125_82 : ft 125 82 = some (.ishl, 1, 83, 0, 0, 0, 0) := ftq_ok (by decide +kernel)
theorem d125_83 : ft 125 83 = some (.ior, 1, 84, 0, 0, 0, 0) := ftq_ok (by decide +kernel)
theorem d125_84 : ft 125 84 = some (.iastore, 1, 85, 0, 0, 0, 0) := ftq_ok (by decide +kernel)
theorem d125_85 : ft 125 85 = some (.iinc 3 1, 3, 88, 0, 0, 0, 0) := ftq_ok (by decide +kernel)
theorem d125_88 : ft 125 88 = some (.goto (-28), 3, 91, 60, 0, 0, 0) := ftq_ok (by decide +kernel)
theorem d125_91 : ft 125 91 = some (.iinc 2 1, 3, 94, 0, 0, 0, 0) := ftq_ok (by decide +kernel)
theorem d125_94 : ft 125 94 = some (.goto (-69), 3, 97, 25, 0, 0, 0) := ftq_ok (by decide +kernel)
theorem d125_97 : ft 125 97 = some (.iload_n 1, 1, 98, 0, 0, 0, 0) := ftq_ok (by decide +kernel)
theorem d125_98 : ft 125 98 = some (.ireturn, 1, 99, 0, 0, 0, 0) := ftq_ok (by decide +kernel)
-- 126: Mo_fits
theorem d126_0 : ft 126 0 = some (.aload_n 0, 1, 1, 0, 0, 0, 0) := ftq_ok (by decide +kernel)
theorem d126_1 : ft 126 1 = some (.getfield 113, 3, 4, 7, 11, 0, 634) := ftq_ok (by decide +kernel)
theorem d126_4 : ft 126 4 = some (.ifCond .eq 12, 3, 7, 16, 0, 0, 0) := ftq_ok (by decide +kernel)
theorem d126_7 : ft 126 7 = some (.aload_n 0, 1, 8, 0, 0, 0, 0) := ftq_ok (by decide +kernel)
theorem d126_8 : ft 126 8 = some (.getfield 234, 3, 11, 7, 25, 0, 648) := ftq_ok (by decide +kernel)
theorem d126_11 : ft 126 11 = some (.bipush 40, 2, 13, 0, 0, 0, 0) := ftq_ok (by decide +kernel)
theorem d126_13 : ft 126 13 = some (.if_icmp .ne 6, 3, 16, 19, 0, 0, 0) := ftq_ok (by decide +kernel)
theorem d126_16 : ft 126 16 = some (.bipush (-103), 2, 18, 0, 0, 0, 0) := ftq_ok (by decide +kernel)
theorem d126_18 : ft 126 18 = some (.ireturn, 1, 19, 0, 0, 0, 0) := ftq_ok (by decide +kernel)
theorem d126_19 : ft 126 19 = some (.aload_n 0, 1, 20, 0, 0, 0, 0) := ftq_ok (by decide +kernel)
theorem d126_20 : ft 126 20 = some (.dup, 1, 21, 0, 0, 0, 0) := ftq_ok (by decide +kernel)
theorem d126_21 : ft 126 21 = some (.getfield 234, 3, 24, 7, 25, 0, 648) := ftq_ok (by decide +kernel)
theorem d126_24 : ft 126 24 = some (.iconst 1, 1, 25, 0, 0, 0, 0) := ftq_ok (by decide +kernel)
theorem d126_25 : ft 126 25 = some (.iadd, 1, 26, 0, 0, 0, 0) := ftq_ok (by decide +kernel)
theorem d126_26 : ft 126 26 = some (.putfield 234, 3, 29, 7, 25, 0, 648) := ftq_ok (by decide +kernel)
theorem d126_29 : ft 126 29 = some (.aload_n 0, 1, 30, 0, 0, 0, 0) := ftq_ok (by decide +kernel)
theorem d126_30 : ft 126 30 = some (.invokevirtual 237, 3, 33, 125, 0, 0, 940) := ftq_ok (by decide +kernel)
theorem d126_33 : ft 126 33 = some (.ireturn, 1, 34, 0, 0, 0, 0) := ftq_ok (by decide +kernel)
-- 127: Mo_sure
theorem d127_0 : ft 127 0 = some (.iload_n 1, 1, 1, 0, 0, 0, 0) := ftq_ok (by decide +kernel)
theorem d127_1 : ft 127 1 = some (.i2l, 1, 2, 0, 0, 0, 0) := ftq_ok (by decide +kernel)
theorem d127_2 : ft 127 2 = some (.aload_n 0, 1, 3, 0, 0, 0, 0) := ftq_ok (by decide +kernel)
theorem d127_3 : ft 127 3 = some (.getfield 107, 3, 6, 7, 6, 0, 629) := ftq_ok (by decide +kernel)
theorem d127_6 : ft 127 6 = some (.i2l, 1, 7, 0, 0, 0, 0) := ftq_ok (by decide +kernel)
theorem d127_7 : ft 127 7 = some (.aload_n 0, 1, 8, 0, 0, 0, 0) := ftq_ok (by decide +kernel)
theorem d127_8 : ft 127 8 = some (.getfield 101, 3, 11, 7, 4, 0, 627) := ftq_ok (by decide +kernel)
theorem d127_11 : ft 127 11 = some (.iconst 1, 1, 12, 0, 0, 0, 0) := ftq_ok (by decide +kernel)
theorem d127_12 : ft 127 12 = some (.isub, 1, 13, 0, 0, 0, 0) := ftq_ok (by decide +kernel)
theorem d127_13 : ft 127 13 = some (.i2l, 1, 14, 0, 0, 0, 0) := ftq_ok (by decide +kernel)
theorem d127_14 : ft 127 14 = some (.invokestatic 73, 3, 17, 79, 3, 1, 749) := ftq_ok (by decide +kernel)
theorem d127_17 : ft 127 17 = some (.ifCond .ne 6, 3, 20, 23, 0, 0, 0) := ftq_ok (by decide +kernel)
theorem d127_20 : ft 127 20 = some (.bipush (-101), 2, 22, 0, 0, 0, 0) := ftq_ok (by decide +kernel)
theorem d127_22 : ft 127 22 = some (.ireturn, 1, 23, 0, 0, 0, 0) := ftq_ok (by decide +kernel)
theorem d127_23 : ft 127 23 = some (.aload_n 0, 1, 24, 0, 0, 0, 0) := ftq_ok (by decide +kernel)
theorem d127_24 : ft 127 24 = some (.getfield 113, 3, 27, 7, 11, 0, 634) := ftq_ok (by decide +kernel)
theorem d127_27 : ft 127 27 = some (.ifCond .eq 12, 3, 30, 39, 0, 0, 0) := ftq_ok (by decide +kernel)
theorem d127_30 : ft 127 30 = some (.aload_n 0, 1, 31, 0, 0, 0, 0) := ftq_ok (by decide +kernel)
theorem d127_31 : ft 127 31 = some (.getfield 234, 3, 34, 7, 25, 0, 648) := ftq_ok (by decide +kernel)
theorem d127_34 : ft 127 34 = some (.bipush 40, 2, 36, 0, 0, 0, 0) := ftq_ok (by decide +kernel)
theorem d127_36 : ft 127 36 = some (.if_icmp .ne 6, 3, 39, 42, 0, 0, 0) := ftq_ok (by decide +kernel)
theorem d127_39 : ft 127 39 = some (.bipush (-103), 2, 41, 0, 0, 0, 0) := ftq_ok (by decide +kernel)
theorem d127_41 : ft 127 41 = some (.ireturn, 1, 42, 0, 0, 0, 0) := ftq_ok (by decide +kernel)
theorem d127_42 : ft 127 42 = some (.aload_n 0, 1, 43, 0, 0, 0, 0) := ftq_ok (by decide +kernel)
theorem d127_43 : ft 127 43 = some (.dup, 1, 44, 0, 0, 0, 0) := ftq_ok (by decide +kernel)
theorem d127_44 : ft 127 44 = some (.getfield 234, 3, 47, 7, 25, 0, 648) := ftq_ok (by decide +kernel)
theorem d127_47 : ft 127 47 = some (.iconst 1, 1, 48, 0, 0, 0, 0) := ftq_ok (by decide +kernel)
theorem d127_48 : ft 127 48 = some (.iadd, 1, 49, 0, 0, 0, 0) := ftq_ok (by decide +kernel)
theorem d127_49 : ft 127 49 = some (.putfield 234, 3, 52, 7, 25, 0, 648) := ftq_ok (by decide +kernel)
theorem d127_52 : ft 127 52 = some (.aload_n 0, 1, 53, 0, 0, 0, 0) := ftq_ok (by decide +kernel)
theorem d127_53 : ft 127 53 = some (.invokevirtual 237, 3, 56, 125, 0, 0, 940) := ftq_ok (by decide +kernel)
theorem d127_56 : ft 127 56 = some (.istore_n 2, 1, 57, 0, 0, 0, 0) := ftq_ok (by decide +kernel)
theorem d127_57 : ft 127 57 = some (.iconst 0, 1, 58, 0, 0, 0, 0) := ftq_ok (by decide +kernel)
theorem d127_58 : ft 127 58 = some (.istore_n 3, 1, 59, 0, 0, 0, 0) := ftq_ok (by decide +kernel)
theorem d127_59 : ft 127 59 = some (.iload_n 3, 1, 60, 0, 0, 0, 0) := ftq_ok (by decide +kernel)
theorem d127_60 : ft 127 60 = some (.aload_n 0, 1, 61, 0, 0, 0, 0) := ftq_ok (by decide +kernel)
theorem d127_61 : ft 127 61 = some (.getfield 113, 3, 64, 7, 11, 0, 634) := ftq_ok (by decide +kernel)
theorem d127_64 : ft 127 64 = some (.if_icmp .ge 23, 3, 67, 87, 0, 0, 0) := ftq_ok (by decide +kernel)
theorem d127_67 : ft 127 67 = some (.aload_n 0, 1, 68, 0, 0, 0, 0) := ftq_ok (by decide +kernel)
theorem d127_68 : ft 127 68 = some (.getfield 46, 3, 71, 7, 27, 3, 650) := ftq_ok (by decide +kernel)
theorem d127_71 : ft 127 71 = some (.iload_n 1, 1, 72, 0, 0, 0, 0) := ftq_ok (by decide +kernel)
theorem d127_72 : ft 127 72 = some (.iaload, 1, 73, 0, 0, 0, 0) := ftq_ok (by decide +kernel)
theorem d127_73 : ft 127 73 = some (.iconst 1, 1, 74, 0, 0, 0, 0) := ftq_ok (by decide +kernel)
theorem d127_74 : ft 127 74 = some (.iload_n 3, 1, 75, 0, 0, 0, 0) := ftq_ok (by decide +kernel)
theorem d127_75 : ft 127 75 = some (.ishl, 1, 76, 0, 0, 0, 0) := ftq_ok (by decide +kernel)
theorem d127_76 : ft 127 76 = some (.if_icmp .ne 5, 3, 79, 81, 0, 0, 0) := ftq_ok (by decide +kernel)
theorem d127_79 : ft 127 79 = some (.iload_n 3, 1, 80, 0, 0, 0, 0) := ftq_ok (by decide +kernel)
theorem d127_80 : ft 127 80 = some (.ireturn, 1, 81, 0, 0, 0, 0) := ftq_ok (by decide +kernel)
theorem d127_81 : ft 127 81 = some (.iinc 3 1, 3, 84, 0, 0, 0, 0) := ftq_ok (by decide +kernel)
theorem d127_84 : ft 127 84 = some (.goto (-25), 3, 87, 59, 0, 0, 0) := ftq_ok (by decide +kernel)
theorem d127_87 : ft 127 87 = some (.iconst (-1), 1, 88, 0, 0, 0, 0) := ftq_ok (by decide +kernel)
theorem d127_88 : ft 127 88 = some (.ireturn, 1, 89, 0, 0, 0, 0) := ftq_ok (by decide +kernel)
-- 128: Mo_draw
theorem d128_0 : ft 128 0 = some (.aload_n 0, 1, 1, 0, 0, 0, 0) := ftq_ok (by decide +kernel)
theorem d128_1 : ft 128 1 = some (.ldc2_w 240, 3, 4, 1, 962, 0, 1103515245) := ftq_ok (by decide +kernel)
theorem d128_4 : ft 128 4 = some (.aload_n 0, 1, 5, 0, 0, 0, 0) := ftq_ok (by decide +kernel)
theorem d128_5 : ft 128 5 = some (.getfield 242, 3, 8, 7, 28, 0, 651) := ftq_ok (by decide +kernel)
theorem d128_8 : ft 128 8 = some (.i2l, 1, 9, 0, 0, 0, 0) := ftq_ok (by decide +kernel)
theorem d128_9 : ft 128 9 = some (.lmul, 1, 10, 0, 0, 0, 0) := ftq_ok (by decide +kernel)
theorem d128_10 : ft 128 10 = some (.ldc2_w 245, 3, 13, 1, 963, 0, 12345) := ftq_ok (by decide +kernel)
theorem d128_13 : ft 128 13 = some (.ladd, 1, 14, 0, 0, 0, 0) := ftq_ok (by decide +kernel)
theorem d128_14 : ft 128 14 = some (.ldc2_w 247, 3, 17, 1, 964, 0, 2147483647) := ftq_ok (by decide +kernel)
theorem d128_17 : ft 128 17 = some (.land, 1, 18, 0, 0, 0, 0) := ftq_ok (by decide +kernel)
theorem d128_18 : ft 128 18 = some (.l2i, 1, 19, 0, 0, 0, 0) := ftq_ok (by decide +kernel)
theorem d128_19 : ft 128 19 = some (.putfield 242, 3, 22, 7, 28, 0, 651) := ftq_ok (by decide +kernel)
theorem d128_22 : ft 128 22 = some (.aload_n 0, 1, 23, 0, 0, 0, 0) := ftq_ok (by decide +kernel)
theorem d128_23 : ft 128 23 = some (.getfield 242, 3, 26, 7, 28, 0, 651) := ftq_ok (by decide +kernel)
theorem d128_26 : ft 128 26 = some (.ldc 249, 2, 28, 0, 965, 0, 65536) := ftq_ok (by decide +kernel)
theorem d128_28 : ft 128 28 = some (.idiv, 1, 29, 0, 0, 0, 0) := ftq_ok (by decide +kernel)
theorem d128_29 : ft 128 29 = some (.iload_n 1, 1, 30, 0, 0, 0, 0) := ftq_ok (by decide +kernel)
theorem d128_30 : ft 128 30 = some (.irem, 1, 31, 0, 0, 0, 0) := ftq_ok (by decide +kernel)
theorem d128_31 : ft 128 31 = some (.ireturn, 1, 32, 0, 0, 0, 0) := ftq_ok (by decide +kernel)
-- 129: Mo_copy
theorem d129_0 : ft 129 0 = some (.iconst 0, 1, 1, 0, 0, 0, 0) := ftq_ok (by decide +kernel)
theorem d129_1 : ft 129 1 = some (.istore_n 2, 1, 2, 0, 0, 0, 0) := ftq_ok (by decide +kernel)
theorem d129_2 : ft 129 2 = some (.iload_n 2, 1, 3, 0, 0, 0, 0) := ftq_ok (by decide +kernel)
theorem d129_3 : ft 129 3 = some (.aload_n 0, 1, 4, 0, 0, 0, 0) := ftq_ok (by decide +kernel)
theorem d129_4 : ft 129 4 = some (.arraylength, 1, 5, 0, 0, 0, 0) := ftq_ok (by decide +kernel)
theorem d129_5 : ft 129 5 = some (.if_icmp .ge 15, 3, 8, 20, 0, 0, 0) := ftq_ok (by decide +kernel)
theorem d129_8 : ft 129 8 = some (.aload_n 1, 1, 9, 0, 0, 0, 0) := ftq_ok (by decide +kernel)
theorem d129_9 : ft 129 9 = some (.iload_n 2, 1, 10, 0, 0, 0, 0) := ftq_ok (by decide +kernel)
theorem d129_10 : ft 129 10 = some (.aload_n 0, 1, 11, 0, 0, 0, 0) := ftq_ok (by decide +kernel)
theorem d129_11 : ft 129 11 = some (.iload_n 2, 1, 12, 0, 0, 0, 0) := ftq_ok (by decide +kernel)
theorem d129_12 : ft 129 12 = some (.iaload, 1, 13, 0, 0, 0, 0) := ftq_ok (by decide +kernel)
theorem d129_13 : ft 129 13 = some (.iastore, 1, 14, 0, 0, 0, 0) := ftq_ok (by decide +kernel)
theorem d129_14 : ft 129 14 = some (.iinc 2 1, 3, 17, 0, 0, 0, 0) := ftq_ok (by decide +kernel)
theorem d129_17 : ft 129 17 = some (.goto (-15), 3, 20, 2, 0, 0, 0) := ftq_ok (by decide +kernel)
theorem d129_20 : ft 129 20 = some (.return_, 1, 21, 0, 0, 0, 0) := ftq_ok (by decide +kernel)
-- 130: Mo_days
theorem d130_0 : ft 130 0 = some (.iload_n 1, 1, 1, 0, 0, 0, 0) := ftq_ok (by decide +kernel)
theorem d130_1 : ft 130 1 = some (.i2l, 1, 2, 0, 0, 0, 0) := ftq_ok (by decide +kernel)
theorem d130_2 : ft 130 2 = some (.lconst 1, 1, 3, 0, 0, 0, 0) := ftq_ok (by decide +kernel)
theorem d130_3 : ft 130 3 = some (.ldc2_w 250, 3, 6, 1, 956, 0, 60) := ftq_ok (by decide +kernel)
theorem d130_6 : ft 130 6 = some (.invokestatic 73, 3, 9, 79, 3, 1, 749) := ftq_ok (by decide +kernel)
theorem d130_9 : ft 130 9 = some (.ifCond .eq 19, 3, 12, 28, 0, 0, 0) := ftq_ok (by decide +kernel)
theorem d130_12 : ft 130 12 = some (.iload_n 2, 1, 13, 0, 0, 0, 0) := ftq_ok (by decide +kernel)
theorem d130_13 : ft 130 13 = some (.ifCond .lt 15, 3, 16, 28, 0, 0, 0) := ftq_ok (by decide +kernel)
theorem d130_16 : ft 130 16 = some (.iload_n 3, 1, 17, 0, 0, 0, 0) := ftq_ok (by decide +kernel)
theorem d130_17 : ft 130 17 = some (.i2l, 1, 18, 0, 0, 0, 0) := ftq_ok (by decide +kernel)
theorem d130_18 : ft 130 18 = some (.lconst 0, 1, 19, 0, 0, 0, 0) := ftq_ok (by decide +kernel)
theorem d130_19 : ft 130 19 = some (.ldc2_w 252, 3, 22, 1, 957, 0, 2) := ftq_ok (by decide +kernel)
theorem d130_22 : ft 130 22 = some (.invokestatic 73, 3, 25, 79, 3, 1, 749) := ftq_ok (by decide +kernel)
theorem d130_25 : ft 130 25 = some (.ifCond .ne 6, 3, 28, 31, 0, 0, 0) := ftq_ok (by decide +kernel)
theorem d130_28 : ft 130 28 = some (.bipush (-102), 2, 30, 0, 0, 0, 0) := ftq_ok (by decide +kernel)
theorem d130_30 : ft 130 30 = some (.ireturn, 1, 31, 0, 0, 0, 0) := ftq_ok (by decide +kernel)
theorem d130_31 : ft 130 31 = some (.aload_n 0, 1, 32, 0, 0, 0, 0) := ftq_ok (by decide +kernel)
theorem d130_32 : ft 130 32 = some (.getfield 113, 3, 35, 7, 11, 0, 634) := ftq_ok (by decide +kernel)
theorem d130_35 : ft 130 35 = some (.ifCond .ne 6, 3, 38, 41, 0, 0, 0) := ftq_ok (by decide +kernel)
theorem d130_38 : ft 130 38 = some (.bipush (-103), 2, 40, 0, 0, 0, 0) := ftq_ok (by decide +kernel)
theorem d130_40 : ft 130 40 = some (.ireturn, 1, 41, 0, 0, 0, 0) := ftq_ok (by decide +kernel)
theorem d130_41 : ft 130 41 = some (.aload_n 0, 1, 42, 0, 0, 0, 0) := ftq_ok (by decide +kernel)
theorem d130_42 : ft 130 42 = some (.getfield 13, 3, 45, 7, 9, 3, 632) := ftq_ok (by decide +kernel)
theorem d130_45 : ft 130 45 = some (.aload_n 0, 1, 46, 0, 0, 0, 0) := ftq_ok (by decide +kernel)
theorem d130_46 : ft 130 46 = some (.getfield 49, 3, 49, 7, 29, 3, 652) := ftq_ok (by decide +kernel)
theorem d130_49 : ft 130 49 = some (.invokestatic 220, 3, 52, 129, 2, 1, 928) := ftq_ok (by decide +kernel)
theorem d130_52 : ft 130 52 = some (.aload_n 0, 1, 53, 0, 0, 0, 0) := ftq_ok (by decide +kernel)
theorem d130_53 : ft 130 53 = some (.invokevirtual 148, 3, 56, 98, 0, 0, 827) := ftq_ok (by decide +kernel)
theorem d130_56 : ft 130 56 = some (.aload_n 0, 1, 57, 0, 0, 0, 0) := ftq_ok (by decide +kernel)
theorem d130_57 : ft 130 57 = some (.iload_n 2, 1, 58, 0, 0, 0, 0) := ftq_ok (by decide +kernel)
theorem d130_58 : ft 130 58 = some (.putfield 242, 3, 61, 7, 28, 0, 651) := ftq_ok (by decide +kernel)
theorem d130_61 : ft 130 61 = some (.aload_n 0, 1, 62, 0, 0, 0, 0) := ftq_ok (by decide +kernel)
theorem d130_62 : ft 130 62 = some (.getfield 107, 3, 65, 7, 6, 0, 629) := ftq_ok (by decide +kernel)
theorem d130_65 : ft 130 65 = some (.istore 4, 2, 67, 0, 0, 0, 0) := ftq_ok (by decide +kernel)
theorem d130_67 : ft 130 67 = some (.iconst 0, 1, 68, 0, 0, 0, 0) := ftq_ok (by decide +kernel)
theorem d130_68 : ft 130 68 = some (.istore 5, 2, 70, 0, 0, 0, 0) := ftq_ok (by decide +kernel)
theorem d130_70 : ft 130 70 = some (.iload 5, 2, 72, 0, 0, 0, 0) := ftq_ok (by decide +kernel)
theorem d130_72 : ft 130 72 = some (.iload_n 1, 1, 73, 0, 0, 0, 0) := ftq_ok (by decide +kernel)
theorem d130_73 : ft 130 73 = some (.if_icmp .ge 159, 3, 76, 232, 0, 0, 0) := ftq_ok (by decide +kernel)
theorem d130_76 : ft 130 76 = some (.aload_n 0, 1, 77, 0, 0, 0, 0) := ftq_ok (by decide +kernel)
theorem d130_77 : ft 130 77 = some (.iconst 5, 1, 78, 0, 0, 0, 0) := ftq_ok (by decide +kernel)
theorem d130_78 : ft 130 78 = some (.invokevirtual 254, 3, 81, 128, 1, 0, 958) := ftq_ok (by decide +kernel)
theorem d130_81 : ft 130 81 = some (.istore 6, 2, 83, 0, 0, 0, 0) := ftq_ok (by decide +kernel)
theorem d130_83 : ft 130 83 = some (.iload 6, 2, 85, 0, 0, 0, 0) := ftq_ok (by decide +kernel)
theorem d130_85 : ft 130 85 = some (.iconst 2, 1, 86, 0, 0, 0, 0) := ftq_ok (by decide +kernel)
theorem d130_86 : ft 130 86 = some (.if_icmp .ge 43, 3, 89, 129, 0, 0, 0) := ftq_ok (by decide +kernel)
theorem d130_89 : ft 130 89 = some (.iload 4, 2, 91, 0, 0, 0, 0) := ftq_ok (by decide +kernel)
theorem d130_91 : ft 130 91 = some (.aload_n 0, 1, 92, 0, 0, 0, 0) := ftq_ok (by decide +kernel)
theorem d130_92 : ft 130 92 = some (.getfield 101, 3, 95, 7, 4, 0, 627) := ftq_ok (by decide +kernel)
theorem d130_95 : ft 130 95 = some (.if_icmp .ge 34, 3, 98, 129, 0, 0, 0) := ftq_ok (by decide +kernel)
theorem d130_98 : ft 130 98 = some (.aload_n 0, 1, 99, 0, 0, 0, 0) := ftq_ok (by decide +kernel)
theorem d130_99 : ft 130 99 = some (.aload_n 0, 1, 100, 0, 0, 0, 0) := ftq_ok (by decide +kernel)
theorem d130_100 : ft 130 100 = some (.getfield 13, 3, 103, 7, 9, 3, 632) := ftq_ok (by decide +kernel)
theorem d130_103 : ft 130 103 = some (.iload 4, 2, 105, 0, 0, 0, 0) := ftq_ok (by decide +kernel)
theorem d130_105 : ft 130 105 = some (.iaload, 1, 106, 0, 0, 0, 0) := ftq_ok (by decide +kernel)
theorem d130_106 : ft 130 106 = some (.invokevirtual 151, 3, 109, 101, 1, 0, 831) := ftq_ok (by decide +kernel)
theorem d130_109 : ft 130 109 = some (.ifCond .eq 20, 3, 112, 129, 0, 0, 0) := ftq_ok (by decide +kernel)
theorem d130_112 : ft 130 112 = some (.aload_n 0, 1, 113, 0, 0, 0, 0) := ftq_ok (by decide +kernel)
theorem d130_113 : ft 130 113 = some (.aload_n 0, 1, 114, 0, 0, 0, 0) := ftq_ok (by decide +kernel)
theorem d130_114 : ft 130 114 = some (.getfield 13, 3, 117, 7, 9, 3, 632) := ftq_ok (by decide +kernel)
theorem d130_117 : ft 130 117 = some (.iload 4, 2, 119, 0, 0, 0, 0) := ftq_ok (by decide +kernel)
theorem d130_119 : ft 130 119 = some (.iaload, 1, 120, 0, 0, 0, 0) := ftq_ok (by decide +kernel)
theorem d130_120 : ft 130 120 = some (.invokevirtual 154, 3, 123, 102, 1, 0, 835) := ftq_ok (by decide +kernel)
theorem d130_123 : ft 130 123 = some (.iinc 4 1, 3, 126, 0, 0, 0, 0) := ftq_ok (by decide +kernel)
theorem d130_126 : ft 130 126 = some (.goto 100, 3, 129, 226, 0, 0, 0) := ftq_ok (by decide +kernel)
theorem d130_129 : ft 130 129 = some (.iload 6, 2, 131, 0, 0, 0, 0) := ftq_ok (by decide +kernel)
theorem d130_131 : ft 130 131 = some (.iconst 2, 1, 132, 0, 0, 0, 0) := ftq_ok (by decide +kernel)
theorem d130_132 : ft 130 132 = some (.if_icmp .ne 10, 3, 135, 142, 0, 0, 0) := ftq_ok (by decide +kernel)
theorem d130_135 : ft 130 135 = some (.aload_n 0, 1, 136, 0, 0, 0, 0) := ftq_ok (by decide +kernel)
theorem d130_136 : ft 130 136 = some (.invokevirtual 161, 3, 139, 100, 0, 0, 847) := ftq_ok (by decide +kernel)
theorem d130_139 : ft 130 139 = some (.goto 87, 3, 142, 226, 0, 0, 0) := ftq_ok (by decide +kernel)
theorem d130_142 : ft 130 142 = some (.iload 6, 2, 144, 0, 0, 0, 0) := ftq_ok (by decide +kernel)
theorem d130_144 : ft 130 144 = some (.iconst 3, 1, 145, 0, 0, 0, 0) := ftq_ok (by decide +kernel)
theorem d130_145 : ft 130 145 = some (.if_icmp .ne 12, 3, 148, 157, 0, 0, 0) := ftq_ok (by decide +kernel)
theorem d130_148 : ft 130 148 = some (.aload_n 0, 1, 149, 0, 0, 0, 0) := ftq_ok (by decide +kernel)
theorem d130_149 : ft 130 149 = some (.invokevirtual 164, 3, 152, 106, 0, 0, 855) := ftq_ok (by decide +kernel)
theorem d130_152 : ft 130 152 = some (.istore 7, 2, 154, 0, 0, 0, 0) := ftq_ok (by decide +kernel)
theorem d130_154 : ft 130 154 = some (.goto 72, 3, 157, 226, 0, 0, 0) := ftq_ok (by decide +kernel)
theorem d130_157 : ft 130 157 = some (.iload 6, 2, 159, 0, 0, 0, 0) := ftq_ok (by decide +kernel)
theorem d130_159 : ft 130 159 = some (.iconst 4, 1, 160, 0, 0, 0, 0) := ftq_ok (by decide +kernel)
theorem d130_160 : ft 130 160 = some (.if_icmp .ne 66, 3, 163, 226, 0, 0, 0) := ftq_ok (by decide +kernel)
theorem d130_163 : ft 130 163 = some (.aload_n 0, 1, 164, 0, 0, 0, 0) := ftq_ok (by decide +kernel)
theorem d130_164 : ft 130 164 = some (.iconst 3, 1, 165, 0, 0, 0, 0) := ftq_ok (by decide +kernel)
theorem d130_165 : ft 130 165 = some (.invokevirtual 254, 3, 168, 128, 1, 0, 958) := ftq_ok (by decide +kernel)
theorem d130_168 : ft 130 168 = some (.istore 7, 2, 170, 0, 0, 0, 0) := ftq_ok (by decide +kernel)
theorem d130_170 : ft 130 170 = some (.iload 4, 2, 172, 0, 0, 0, 0) := ftq_ok (by decide +kernel)
theorem d130_172 : ft 130 172 = some (.istore 8, 2, 174, 0, 0, 0, 0) := ftq_ok (by decide +kernel)
theorem d130_174 : ft 130 174 = some (.iload 8, 2, 176, 0, 0, 0, 0) := ftq_ok (by decide +kernel)
theorem d130_176 : ft 130 176 = some (.aload_n 0, 1, 177, 0, 0, 0, 0) := ftq_ok (by decide +kernel)
theorem d130_177 : ft 130 177 = some (.getfield 101, 3, 180, 7, 4, 0, 627) := ftq_ok (by decide +kernel)
theorem d130_180 : ft 130 180 = some (.if_icmp .ge 46, 3, 183, 226, 0, 0, 0) := ftq_ok (by decide +kernel)
theorem d130_183 : ft 130 183 = some (.aload_n 0, 1, 184, 0, 0, 0, 0) := ftq_ok (by decide +kernel)
theorem d130_184 : ft 130 184 = some (.getfield 13, 3, 187, 7, 9, 3, 632) := ftq_ok (by decide +kernel)
theorem d130_187 : ft 130 187 = some (.iload 8, 2, 189, 0, 0, 0, 0) := ftq_ok (by decide +kernel)
theorem d130_189 : ft 130 189 = some (.aload_n 0, 1, 190, 0, 0, 0, 0) := ftq_ok (by decide +kernel)
theorem d130_190 : ft 130 190 = some (.getfield 13, 3, 193, 7, 9, 3, 632) := ftq_ok (by decide +kernel)
theorem d130_193 : ft 130 193 = some (.iload 8, 2, 195, 0, 0, 0, 0) := ftq_ok (by decide +kernel)
theorem d130_195 : ft 130 195 = some (.iaload, 1, 196, 0, 0, 0, 0) := ftq_ok (by decide +kernel)
theorem d130_196 : ft 130 196 = some (.iload 7, 2, 198, 0, 0, 0, 0) := ftq_ok (by decide +kernel)
theorem d130_198 : ft 130 198 = some (.iadd, 1, 199, 0, 0, 0, 0) := ftq_ok (by decide +kernel)
theorem d130_199 : ft 130 199 = some (.bipush 9, 2, 201, 0, 0, 0, 0) := ftq_ok (by decide +kernel)
theorem d130_201 : ft 130 201 = some (.if_icmp .le 8, 3, 204, 209, 0, 0, 0) := ftq_ok (by decide +kernel)
theorem d130_204 : ft 130 204 = some (.bipush 9, 2, 206, 0, 0, 0, 0) := ftq_ok (by decide +kernel)
theorem d130_206 : ft 130 206 = some (.goto 13, 3, 209, 219, 0, 0, 0) := ftq_ok (by decide +kernel)
theorem d130_209 : ft 130 209 = some (.aload_n 0, 1, 210, 0, 0, 0, 0) := ftq_ok (by decide +kernel)
theorem d130_210 : ft 130 210 = some (.getfield 13, 3, 213, 7, 9, 3, 632) := ftq_ok (by decide +kernel)
theorem d130_213 : ft 130 213 = some (.iload 8, 2, 215, 0, 0, 0, 0) := ftq_ok (by decide +kernel)
theorem d130_215 : ft 130 215 = some (.iaload, 1, 216, 0, 0, 0, 0) := ftq_ok (by decide +kernel)
theorem d130_216 : ft 130 216 = some (.iload 7, 2, 218, 0, 0, 0, 0) := ftq_ok (by decide +kernel)
theorem d130_218 : ft 130 218 = some (.iadd, 1, 219, 0, 0, 0, 0) := ftq_ok (by decide +kernel)
theorem d130_219 : ft 130 219 = some (.iastore, 1, 220, 0, 0, 0, 0) := ftq_ok (by decide +kernel)
theorem d130_220 : ft 130 220 = some (.iinc 8 1, 3, 223, 0, 0, 0, 0) := ftq_ok (by decide +kernel)
theorem d130_223 : ft 130 223 = some (.goto (-49), 3, 226, 174, 0, 0, 0) := ftq_ok (by decide +kernel)
theorem d130_226 : ft 130 226 = some (.iinc 5 1, 3, 229, 0, 0, 0, 0) := ftq_ok (by decide +kernel)
theorem d130_229 : ft 130 229 = some (.goto (-159), 3, 232, 70, 0, 0, 0) := ftq_ok (by decide +kernel)
theorem d130_232 : ft 130 232 = some (.iconst 0, 1, 233, 0, 0, 0, 0) := ftq_ok (by decide +kernel)
theorem d130_233 : ft 130 233 = some (.istore 5, 2, 235, 0, 0, 0, 0) := ftq_ok (by decide +kernel)
theorem d130_235 : ft 130 235 = some (.iconst 0, 1, 236, 0, 0, 0, 0) := ftq_ok (by decide +kernel)
theorem d130_236 : ft 130 236 = some (.istore 6, 2, 238, 0, 0, 0, 0) := ftq_ok (by decide +kernel)
theorem d130_238 : ft 130 238 = some (.iload 6, 2, 240, 0, 0, 0, 0) := ftq_ok (by decide +kernel)
theorem d130_240 : ft 130 240 = some (.aload_n 0, 1, 241, 0, 0, 0, 0) := ftq_ok (by decide +kernel)
theorem d130_241 : ft 130 241 = some (.getfield 113, 3, 244, 7, 11, 0, 634) := ftq_ok (by decide +kernel)
theorem d130_244 : ft 130 244 = some (.if_icmp .ge 21, 3, 247, 265, 0, 0, 0) := ftq_ok (by decide +kernel)
theorem d130_247 : ft 130 247 = some (.iload 5, 2, 249, 0, 0, 0, 0) := ftq_ok (by decide +kernel)
theorem d130_249 : ft 130 249 = some (.aload_n 0, 1, 250, 0, 0, 0, 0) := ftq_ok (by decide +kernel)
theorem d130_250 : ft 130 250 = some (.getfield 31, 3, 253, 7, 16, 3, 639) := ftq_ok (by decide +kernel)
theorem d130_253 : ft 130 253 = some (.iload 6, 2, 255, 0, 0, 0, 0) := ftq_ok (by decide +kernel)
theorem d130_255 : ft 130 255 = some (.iaload, 1, 256, 0, 0, 0, 0) := ftq_ok (by decide +kernel)
theorem d130_256 : ft 130 256 = some (.iadd, 1, 257, 0, 0, 0, 0) := ftq_ok (by decide +kernel)
theorem d130_257 : ft 130 257 = some (.istore 5, 2, 259, 0, 0, 0, 0) := ftq_ok (by decide +kernel)
theorem d130_259 : ft 130 259 = some (.iinc 6 1, 3, 262, 0, 0, 0, 0) := ftq_ok (by decide +kernel)
theorem d130_262 : ft 130 262 = some (.goto (-24), 3, 265, 238, 0, 0, 0) := ftq_ok (by decide +kernel)
theorem d130_265 : ft 130 265 = some (.aload_n 0, 1, 266, 0, 0, 0, 0) := ftq_ok (by decide +kernel)
theorem d130_266 : ft 130 266 = some (.getfield 49, 3, 269, 7, 29, 3, 652) := ftq_ok (by decide +kernel)
theorem d130_269 : ft 130 269 = some (.aload_n 0, 1, 270, 0, 0, 0, 0) := ftq_ok (by decide +kernel)
theorem d130_270 : ft 130 270 = some (.getfield 13, 3, 273, 7, 9, 3, 632) := ftq_ok (by decide +kernel)
theorem d130_273 : ft 130 273 = some (.invokestatic 220, 3, 276, 129, 2, 1, 928) := ftq_ok (by decide +kernel)
theorem d130_276 : ft 130 276 = some (.iload_n 3, 1, 277, 0, 0, 0, 0) := ftq_ok (by decide +kernel)
theorem d130_277 : ft 130 277 = some (.ifCond .ne 8, 3, 280, 285, 0, 0, 0) := ftq_ok (by decide +kernel)
theorem d130_280 : ft 130 280 = some (.iload 4, 2, 282, 0, 0, 0, 0) := ftq_ok (by decide +kernel)
theorem d130_282 : ft 130 282 = some (.goto 17, 3, 285, 299, 0, 0, 0) := ftq_ok (by decide +kernel)
theorem d130_285 : ft 130 285 = some (.iload_n 3, 1, 286, 0, 0, 0, 0) := ftq_ok (by decide +kernel)
theorem d130_286 : ft 130 286 = some (.iconst 1, 1, 287, 0, 0, 0, 0) := ftq_ok (by decide +kernel)
theorem d130_287 : ft 130 287 = some (.if_icmp .ne 8, 3, 290, 295, 0, 0, 0) := ftq_ok (by decide +kernel)
theorem d130_290 : ft 130 290 = some (.iload 5, 2, 292, 0, 0, 0, 0) := ftq_ok (by decide +kernel)
theorem d130_292 : ft 130 292 = some (.goto 7, 3, 295, 299, 0, 0, 0) := ftq_ok (by decide +kernel)
theorem d130_295 : ft 130 295 = some (.aload_n 0, 1, 296, 0, 0, 0, 0) := ftq_ok (by decide +kernel)
theorem d130_296 : ft 130 296 = some (.getfield 242, 3, 299, 7, 28, 0, 651) := ftq_ok (by decide +kernel)
theorem d130_299 : ft 130 299 = some (.ireturn, 1, 300, 0, 0, 0, 0) := ftq_ok (by decide +kernel)
-- 131: Mo_image
theorem d131_0 : ft 131 0 = some (.aload_n 0, 1, 1, 0, 0, 0, 0) := ftq_ok (by decide +kernel)
theorem d131_1 : ft 131 1 = some (.invokevirtual 126, 3, 4, 87, 0, 0, 791) := ftq_ok (by decide +kernel)
theorem d131_4 : ft 131 4 = some (.ifCond .eq 6, 3, 7, 10, 0, 0, 0) := ftq_ok (by decide +kernel)
theorem d131_7 : ft 131 7 = some (.bipush (-103), 2, 9, 0, 0, 0, 0) := ftq_ok (by decide +kernel)
theorem d131_9 : ft 131 9 = some (.ireturn, 1, 10, 0, 0, 0, 0) := ftq_ok (by decide +kernel)
theorem d131_10 : ft 131 10 = some (.aload_n 0, 1, 11, 0, 0, 0, 0) := ftq_ok (by decide +kernel)
theorem d131_11 : ft 131 11 = some (.getfield 19, 3, 14, 7, 12, 3, 635) := ftq_ok (by decide +kernel)
theorem d131_14 : ft 131 14 = some (.aload_n 0, 1, 15, 0, 0, 0, 0) := ftq_ok (by decide +kernel)
theorem d131_15 : ft 131 15 = some (.getfield 52, 3, 18, 7, 34, 3, 657) := ftq_ok (by decide +kernel)
theorem d131_18 : ft 131 18 = some (.invokestatic 220, 3, 21, 129, 2, 1, 928) := ftq_ok (by decide +kernel)
theorem d131_21 : ft 131 21 = some (.aload_n 0, 1, 22, 0, 0, 0, 0) := ftq_ok (by decide +kernel)
theorem d131_22 : ft 131 22 = some (.getfield 22, 3, 25, 7, 13, 3, 636) := ftq_ok (by decide +kernel)
theorem d131_25 : ft 131 25 = some (.aload_n 0, 1, 26, 0, 0, 0, 0) := ftq_ok (by decide +kernel)
theorem d131_26 : ft 131 26 = some (.getfield 55, 3, 29, 7, 35, 3, 658) := ftq_ok (by decide +kernel)
theorem d131_29 : ft 131 29 = some (.invokestatic 220, 3, 32, 129, 2, 1, 928) := ftq_ok (by decide +kernel)
theorem d131_32 : ft 131 32 = some (.aload_n 0, 1, 33, 0, 0, 0, 0) := ftq_ok (by decide +kernel)
theorem d131_33 : ft 131 33 = some (.getfield 25, 3, 36, 7, 14, 3, 637) := ftq_ok (by decide +kernel)
theorem d131_36 : ft 131 36 = some (.aload_n 0, 1, 37, 0, 0, 0, 0) := ftq_ok (by decide +kernel)
theorem d131_37 : ft 131 37 = some (.getfield 58, 3, 40, 7, 36, 3, 659) := ftq_ok (by decide +kernel)
theorem d131_40 : ft 131 40 = some (.invokestatic 220, 3, 43, 129, 2, 1, 928) := ftq_ok (by decide +kernel)
theorem d131_43 : ft 131 43 = some (.aload_n 0, 1, 44, 0, 0, 0, 0) := ftq_ok (by decide +kernel)
theorem d131_44 : ft 131 44 = some (.getfield 13, 3, 47, 7, 9, 3, 632) := ftq_ok (by decide +kernel)
theorem d131_47 : ft 131 47 = some (.aload_n 0, 1, 48, 0, 0, 0, 0) := ftq_ok (by decide +kernel)
theorem d131_48 : ft 131 48 = some (.getfield 61, 3, 51, 7, 37, 3, 660) := ftq_ok (by decide +kernel)
theorem d131_51 : ft 131 51 = some (.invokestatic 220, 3, 54, 129, 2, 1, 928) := ftq_ok (by decide +kernel)
theorem d131_54 : ft 131 54 = some (.aload_n 0, 1, 55, 0, 0, 0, 0) := ftq_ok (by decide +kernel)
theorem d131_55 : ft 131 55 = some (.getfield 16, 3, 58, 7, 10, 3, 633) := ftq_ok (by decide +kernel)
theorem d131_58 : ft 131 58 = some (.aload_n 0, 1, 59, 0, 0, 0, 0) := ftq_ok (by decide +kernel)
theorem d131_59 : ft 131 59 = some (.getfield 64, 3, 62, 7, 38, 3, 661) := ftq_ok (by decide +kernel)
theorem d131_62 : ft 131 62 = some (.invokestatic 220, 3, 65, 129, 2, 1, 928) := ftq_ok (by decide +kernel)
theorem d131_65 : ft 131 65 = some (.aload_n 0, 1, 66, 0, 0, 0, 0) := ftq_ok (by decide +kernel)
theorem d131_66 : ft 131 66 = some (.aload_n 0, 1, 67, 0, 0, 0, 0) := ftq_ok (by decide +kernel)
theorem d131_67 : ft 131 67 = some (.getfield 113, 3, 70, 7, 11, 0, 634) := ftq_ok (by decide +kernel)
theorem d131_70 : ft 131 70 = some (.putfield 257, 3, 73, 7, 31, 0, 654) := ftq_ok (by decide +kernel)
theorem d131_73 : ft 131 73 = some (.aload_n 0, 1, 74, 0, 0, 0, 0) := ftq_ok (by decide +kernel)
theorem d131_74 : ft 131 74 = some (.aload_n 0, 1, 75, 0, 0, 0, 0) := ftq_ok (by decide +kernel)
theorem d131_75 : ft 131 75 = some (.getfield 107, 3, 78, 7, 6, 0, 629) := ftq_ok (by decide +kernel)
theorem d131_78 : ft 131 78 = some (.putfield 260, 3, 81, 7, 32, 0, 655) := ftq_ok (by decide +kernel)
theorem d131_81 : ft 131 81 = some (.aload_n 0, 1, 82, 0, 0, 0, 0) := ftq_ok (by decide +kernel)
theorem d131_82 : ft 131 82 = some (.aload_n 0, 1, 83, 0, 0, 0, 0) := ftq_ok (by decide +kernel)
theorem d131_83 : ft 131 83 = some (.getfield 110, 3, 86, 7, 7, 0, 630) := ftq_ok (by decide +kernel)
theorem d131_86 : ft 131 86 = some (.putfield 263, 3, 89, 7, 33, 0, 656) := ftq_ok (by decide +kernel)
theorem d131_89 : ft 131 89 = some (.aload_n 0, 1, 90, 0, 0, 0, 0) := ftq_ok (by decide +kernel)
theorem d131_90 : ft 131 90 = some (.aload_n 0, 1, 91, 0, 0, 0, 0) := ftq_ok (by decide +kernel)
theorem d131_91 : ft 131 91 = some (.getfield 116, 3, 94, 7, 8, 0, 631) := ftq_ok (by decide +kernel)
theorem d131_94 : ft 131 94 = some (.putfield 67, 3, 97, 7, 30, 0, 653) := ftq_ok (by decide +kernel)
theorem d131_97 : ft 131 97 = some (.aload_n 0, 1, 98, 0, 0, 0, 0) := ftq_ok (by decide +kernel)
theorem d131_98 : ft 131 98 = some (.getfield 107, 3, 101, 7, 6, 0, 629) := ftq_ok (by decide +kernel)
theorem d131_101 : ft 131 101 = some (.ireturn, 1, 102, 0, 0, 0, 0) := ftq_ok (by decide +kernel)
-- 132: Mo_restore
theorem d132_0 : ft 132 0 = some (.aload_n 0, 1, 1, 0, 0, 0, 0) := ftq_ok (by decide +kernel)
theorem d132_1 : ft 132 1 = some (.getfield 67, 3, 4, 7, 30, 0, 653) := ftq_ok (by decide +kernel)
theorem d132_4 : ft 132 4 = some (.aload_n 0, 1, 5, 0, 0, 0, 0) := ftq_ok (by decide +kernel)
theorem d132_5 : ft 132 5 = some (.getfield 116, 3, 8, 7, 8, 0, 631) := ftq_ok (by decide +kernel)
theorem d132_8 : ft 132 8 = some (.if_icmp .eq 6, 3, 11, 14, 0, 0, 0) := ftq_ok (by decide +kernel)
theorem d132_11 : ft 132 11 = some (.bipush (-103), 2, 13, 0, 0, 0, 0) := ftq_ok (by decide +kernel)
theorem d132_13 : ft 132 13 = some (.ireturn, 1, 14, 0, 0, 0, 0) := ftq_ok (by decide +kernel)
theorem d132_14 : ft 132 14 = some (.aload_n 0, 1, 15, 0, 0, 0, 0) := ftq_ok (by decide +kernel)
theorem d132_15 : ft 132 15 = some (.getfield 52, 3, 18, 7, 34, 3, 657) := ftq_ok (by decide +kernel)
theorem d132_18 : ft 132 18 = some (.aload_n 0, 1, 19, 0, 0, 0, 0) := ftq_ok (by decide +kernel)
theorem d132_19 : ft 132 19 = some (.getfield 19, 3, 22, 7, 12, 3, 635) := ftq_ok (by decide +kernel)
theorem d132_22 : ft 132 22 = some (.invokestatic 220, 3, 25, 129, 2, 1, 928) := ftq_ok (by decide +kernel)
theorem d132_25 : ft 132 25 = some (.aload_n 0, 1, 26, 0, 0, 0, 0) := ftq_ok (by decide +kernel)
theorem d132_26 : ft 132 26 = some (.getfield 55, 3, 29, 7, 35, 3, 658) := ftq_ok (by decide +kernel)
theorem d132_29 : ft 132 29 = some (.aload_n 0, 1, 30, 0, 0, 0, 0) := ftq_ok (by decide +kernel)
theorem d132_30 : ft 132 30 = some (.getfield 22, 3, 33, 7, 13, 3, 636) := ftq_ok (by decide +kernel)
theorem d132_33 : ft 132 33 = some (.invokestatic 220, 3, 36, 129, 2, 1, 928) := ftq_ok (by decide +kernel)
theorem d132_36 : ft 132 36 = some (.aload_n 0, 1, 37, 0, 0, 0, 0) := ftq_ok (by decide +kernel)
theorem d132_37 : ft 132 37 = some (.getfield 58, 3, 40, 7, 36, 3, 659) := ftq_ok (by decide +kernel)
theorem d132_40 : ft 132 40 = some (.aload_n 0, 1, 41, 0, 0, 0, 0) := ftq_ok (by decide +kernel)
theorem d132_41 : ft 132 41 = some (.getfield 25, 3, 44, 7, 14, 3, 637) := ftq_ok (by decide +kernel)
theorem d132_44 : ft 132 44 = some (.invokestatic 220, 3, 47, 129, 2, 1, 928) := ftq_ok (by decide +kernel)
theorem d132_47 : ft 132 47 = some (.aload_n 0, 1, 48, 0, 0, 0, 0) := ftq_ok (by decide +kernel)
theorem d132_48 : ft 132 48 = some (.getfield 61, 3, 51, 7, 37, 3, 660) := ftq_ok (by decide +kernel)
theorem d132_51 : ft 132 51 = some (.aload_n 0, 1, 52, 0, 0, 0, 0) := ftq_ok (by decide +kernel)
theorem d132_52 : ft 132 52 = some (.getfield 13, 3, 55, 7, 9, 3, 632) := ftq_ok (by decide +kernel)
theorem d132_55 : ft 132 55 = some (.invokestatic 220, 3, 58, 129, 2, 1, 928) := ftq_ok (by decide +kernel)
theorem d132_58 : ft 132 58 = some (.aload_n 0, 1, 59, 0, 0, 0, 0) := ftq_ok (by decide +kernel)
theorem d132_59 : ft 132 59 = some (.getfield 64, 3, 62, 7, 38, 3, 661) := ftq_ok (by decide +kernel)
theorem d132_62 : ft 132 62 = some (.aload_n 0, 1, 63, 0, 0, 0, 0) := ftq_ok (by decide +kernel)
theorem d132_63 : ft 132 63 = some (.getfield 16, 3, 66, 7, 10, 3, 633) := ftq_ok (by decide +kernel)
theorem d132_66 : ft 132 66 = some (.invokestatic 220, 3, 69, 129, 2, 1, 928) := ftq_ok (by decide +kernel)
theorem d132_69 : ft 132 69 = some (.aload_n 0, 1, 70, 0, 0, 0, 0) := ftq_ok (by decide +kernel)
theorem d132_70 : ft 132 70 = some (.aload_n 0, 1, 71, 0, 0, 0, 0) := ftq_ok (by decide +kernel)
theorem d132_71 : ft 132 71 = some (.getfield 257, 3, 74, 7, 31, 0, 654) := ftq_ok (by decide +kernel)
theorem d132_74 : ft 132 74 = some (.putfield 113, 3, 77, 7, 11, 0, 634) := ftq_ok (by decide +kernel)
theorem d132_77 : ft 132 77 = some (.aload_n 0, 1, 78, 0, 0, 0, 0) := ftq_ok (by decide +kernel)
theorem d132_78 : ft 132 78 = some (.aload_n 0, 1, 79, 0, 0, 0, 0) := ftq_ok (by decide +kernel)
theorem d132_79 : ft 132 79 = some (.getfield 260, 3, 82, 7, 32, 0, 655) := ftq_ok (by decide +kernel)
theorem d132_82 : ft 132 82 = some (.putfield 107, 3, 85, 7, 6, 0, 629) := ftq_ok (by decide +kernel)
theorem d132_85 : ft 132 85 = some (.aload_n 0, 1, 86, 0, 0, 0, 0) := ftq_ok (by decide +kernel)
theorem d132_86 : ft 132 86 = some (.aload_n 0, 1, 87, 0, 0, 0, 0) := ftq_ok (by decide +kernel)
theorem d132_87 : ft 132 87 = some (.getfield 263, 3, 90, 7, 33, 0, 656) := ftq_ok (by decide +kernel)
theorem d132_90 : ft 132 90 = some (.putfield 110, 3, 93, 7, 7, 0, 630) := ftq_ok (by decide +kernel)
theorem d132_93 : ft 132 93 = some (.aload_n 0, 1, 94, 0, 0, 0, 0) := ftq_ok (by decide +kernel)
theorem d132_94 : ft 132 94 = some (.getfield 107, 3, 97, 7, 6, 0, 629) := ftq_ok (by decide +kernel)
theorem d132_97 : ft 132 97 = some (.ireturn, 1, 98, 0, 0, 0, 0) := ftq_ok (by decide +kernel)
-- 133: Mo_countOf
theorem d133_0 : ft 133 0 = some (.iconst 0, 1, 1, 0, 0, 0, 0) := ftq_ok (by decide +kernel)
theorem d133_1 : ft 133 1 = some (.istore_n 2, 1, 2, 0, 0, 0, 0) := ftq_ok (by decide +kernel)
theorem d133_2 : ft 133 2 = some (.iconst 0, 1, 3, 0, 0, 0, 0) := ftq_ok (by decide +kernel)
theorem d133_3 : ft 133 3 = some (.istore_n 3, 1, 4, 0, 0, 0, 0) := ftq_ok (by decide +kernel)
theorem d133_4 : ft 133 4 = some (.iconst 0, 1, 5, 0, 0, 0, 0) := ftq_ok (by decide +kernel)
theorem d133_5 : ft 133 5 = some (.istore 4, 2, 7, 0, 0, 0, 0) := ftq_ok (by decide +kernel)
theorem d133_7 : ft 133 7 = some (.iload 4, 2, 9, 0, 0, 0, 0) := ftq_ok (by decide +kernel)
theorem d133_9 : ft 133 9 = some (.aload_n 0, 1, 10, 0, 0, 0, 0) := ftq_ok (by decide +kernel)
theorem d133_10 : ft 133 10 = some (.getfield 113, 3, 13, 7, 11, 0, 634) := ftq_ok (by decide +kernel)
theorem d133_13 : ft 133 13 = some (.if_icmp .ge 42, 3, 16, 55, 0, 0, 0) := ftq_ok (by decide +kernel)
theorem d133_16 : ft 133 16 = some (.iload_n 2, 1, 17, 0, 0, 0, 0) := ftq_ok (by decide +kernel)
theorem d133_17 : ft 133 17 = some (.aload_n 0, 1, 18, 0, 0, 0, 0) := ftq_ok (by decide +kernel)
theorem d133_18 : ft 133 18 = some (.getfield 22, 3, 21, 7, 13, 3, 636) := ftq_ok (by decide +kernel)
theorem d133_21 : ft 133 21 = some (.iload 4, 2, 23, 0, 0, 0, 0) := ftq_ok (by decide +kernel)
theorem d133_23 : ft 133 23 = some (.iaload, 1, 24, 0, 0, 0, 0) := ftq_ok (by decide +kernel)
theorem d133_24 : ft 133 24 = some (.iadd, 1, 25, 0, 0, 0, 0) := ftq_ok (by decide +kernel)
theorem d133_25 : ft 133 25 = some (.istore_n 2, 1, 26, 0, 0, 0, 0) := ftq_ok (by decide +kernel)
theorem d133_26 : ft 133 26 = some (.iload_n 3, 1, 27, 0, 0, 0, 0) := ftq_ok (by decide +kernel)
theorem d133_27 : ft 133 27 = some (.aload_n 0, 1, 28, 0, 0, 0, 0) := ftq_ok (by decide +kernel)
theorem d133_28 : ft 133 28 = some (.getfield 19, 3, 31, 7, 12, 3, 635) := ftq_ok (by decide +kernel)
theorem d133_31 : ft 133 31 = some (.iconst 3, 1, 32, 0, 0, 0, 0) := ftq_ok (by decide +kernel)
theorem d133_32 : ft 133 32 = some (.iload 4, 2, 34, 0, 0, 0, 0) := ftq_ok (by decide +kernel)
theorem d133_34 : ft 133 34 = some (.imul, 1, 35, 0, 0, 0, 0) := ftq_ok (by decide +kernel)
theorem d133_35 : ft 133 35 = some (.iconst 2, 1, 36, 0, 0, 0, 0) := ftq_ok (by decide +kernel)
theorem d133_36 : ft 133 36 = some (.iadd, 1, 37, 0, 0, 0, 0) := ftq_ok (by decide +kernel)
theorem d133_37 : ft 133 37 = some (.iaload, 1, 38, 0, 0, 0, 0) := ftq_ok (by decide +kernel)
theorem d133_38 : ft 133 38 = some (.iconst (-1), 1, 39, 0, 0, 0, 0) := ftq_ok (by decide +kernel)
theorem d133_39 : ft 133 39 = some (.if_icmp .ne 7, 3, 42, 46, 0, 0, 0) := ftq_ok (by decide +kernel)
theorem d133_42 : ft 133 42 = some (.iconst 0, 1, 43, 0, 0, 0, 0) := ftq_ok (by decide +kernel)
theorem d133_43 : ft 133 43 = some (.goto 4, 3, 46, 47, 0, 0, 0) := ftq_ok (by decide +kernel)
theorem d133_46 : ft 133 46 = some (.iconst 1, 1, 47, 0, 0, 0, 0) := ftq_ok (by decide +kernel)
theorem d133_47 : ft 133 47 = some (.iadd, 1, 48, 0, 0, 0, 0) := ftq_ok (by decide +kernel)
theorem d133_48 : ft 133 48 = some (.istore_n 3, 1, 49, 0, 0, 0, 0) := ftq_ok (by decide +kernel)
theorem d133_49 : ft 133 49 = some (.iinc 4 1, 3, 52, 0, 0, 0, 0) := ftq_ok (by decide +kernel)
theorem d133_52 : ft 133 52 = some (.goto (-45), 3, 55, 7, 0, 0, 0) := ftq_ok (by decide +kernel)
theorem d133_55 : ft 133 55 = some (.iload_n 1, 1, 56, 0, 0, 0, 0) := ftq_ok (by decide +kernel)
theorem d133_56 : ft 133 56 = some (.tableswitch 109 0 10 #[60, 65, 70, 75, 80, 85, 87, 89, 94, 99, 104], 60, 116, 0, 0, 0, 0) := ftq_ok (by decide +kernel)
theorem d133_116 : ft 133 116 = some (.aload_n 0, 1, 117, 0, 0, 0, 0) := ftq_ok (by decide +kernel)
theorem d133_117 : ft 133 117 = some (.getfield 101, 3, 120, 7, 4, 0, 627) := ftq_ok (by decide +kernel)
theorem d133_120 : ft 133 120 = some (.ireturn, 1, 121, 0, 0, 0, 0) := ftq_ok (by decide +kernel)
theorem d133_121 : ft 133 121 = some (.aload_n 0, 1, 122, 0, 0, 0, 0) := ftq_ok (by decide +kernel)
theorem d133_122 : ft 133 122 = some (.getfield 104, 3, 125, 7, 5, 0, 628) := ftq_ok (by decide +kernel)
theorem d133_125 : ft 133 125 = some (.ireturn, 1, 126, 0, 0, 0, 0) := ftq_ok (by decide +kernel)
theorem d133_126 : ft 133 126 = some (.aload_n 0, 1, 127, 0, 0, 0, 0) := ftq_ok (by decide +kernel)
theorem d133_127 : ft 133 127 = some (.getfield 113, 3, 130, 7, 11, 0, 634) := ftq_ok (by decide +kernel)
theorem d133_130 : ft 133 130 = some (.ireturn, 1, 131, 0, 0, 0, 0) := ftq_ok (by decide +kernel)
theorem d133_131 : ft 133 131 = some (.aload_n 0, 1, 132, 0, 0, 0, 0) := ftq_ok (by decide +kernel)
theorem d133_132 : ft 133 132 = some (.getfield 107, 3, 135, 7, 6, 0, 629) := ftq_ok (by decide +kernel)
theorem d133_135 : ft 133 135 = some (.ireturn, 1, 136, 0, 0, 0, 0) := ftq_ok (by decide +kernel)
theorem d133_136 : ft 133 136 = some (.aload_n 0, 1, 137, 0, 0, 0, 0) := ftq_ok (by decide +kernel)
theorem d133_137 : ft 133 137 = some (.getfield 110, 3, 140, 7, 7, 0, 630) := ftq_ok (by decide +kernel)
theorem d133_140 : ft 133 140 = some (.ireturn, 1, 141, 0, 0, 0, 0) := ftq_ok (by decide +kernel)
theorem d133_141 : ft 133 141 = some (.iload_n 2, 1, 142, 0, 0, 0, 0) := ftq_ok (by decide +kernel)
theorem d133_142 : ft 133 142 = some (.ireturn, 1, 143, 0, 0, 0, 0) := ftq_ok (by decide +kernel)
theorem d133_143 : ft 133 143 = some (.iload_n 3, 1, 144, 0, 0, 0, 0) := ftq_ok (by decide +kernel)
theorem d133_144 : ft 133 144 = some (.ireturn, 1, 145, 0, 0, 0, 0) := ftq_ok (by decide +kernel)
theorem d133_145 : ft 133 145 = some (.aload_n 0, 1, 146, 0, 0, 0, 0) := ftq_ok (by decide +kernel)
theorem d133_146 : ft 133 146 = some (.getfield 77, 3, 149, 7, 1, 0, 624) := ftq_ok (by decide +kernel)
theorem d133_149 : ft 133 149 = some (.ireturn, 1, 150, 0, 0, 0, 0) := ftq_ok (by decide +kernel)
theorem d133_150 : ft 133 150 = some (.aload_n 0, 1, 151, 0, 0, 0, 0) := ftq_ok (by decide +kernel)
theorem d133_151 : ft 133 151 = some (.getfield 116, 3, 154, 7, 8, 0, 631) := ftq_ok (by decide +kernel)
theorem d133_154 : ft 133 154 = some (.ireturn, 1, 155, 0, 0, 0, 0) := ftq_ok (by decide +kernel)
theorem d133_155 : ft 133 155 = some (.aload_n 0, 1, 156, 0, 0, 0, 0) := ftq_ok (by decide +kernel)
theorem d133_156 : ft 133 156 = some (.getfield 203, 3, 159, 7, 19, 0, 642) := ftq_ok (by decide +kernel)
theorem d133_159 : ft 133 159 = some (.ireturn, 1, 160, 0, 0, 0, 0) := ftq_ok (by decide +kernel)
theorem d133_160 : ft 133 160 = some (.aload_n 0, 1, 161, 0, 0, 0, 0) := ftq_ok (by decide +kernel)
theorem d133_161 : ft 133 161 = some (.getfield 234, 3, 164, 7, 25, 0, 648) := ftq_ok (by decide +kernel)
theorem d133_164 : ft 133 164 = some (.ireturn, 1, 165, 0, 0, 0, 0) := ftq_ok (by decide +kernel)
theorem d133_165 : ft 133 165 = some (.bipush (-102), 2, 167, 0, 0, 0, 0) := ftq_ok (by decide +kernel)
theorem d133_167 : ft 133 167 = some (.ireturn, 1, 168, 0, 0, 0, 0) := ftq_ok (by decide +kernel)
-- 134: Mo_count
theorem d134_0 : ft 134 0 = some (.aload_n 0, 1, 1, 0, 0, 0, 0) := ftq_ok (by decide +kernel)
theorem d134_1 : ft 134 1 = some (.iload_n 1, 1, 2, 0, 0, 0, 0) := ftq_ok (by decide +kernel)
theorem d134_2 : ft 134 2 = some (.invokevirtual 266, 3, 5, 133, 1, 0, 978) := ftq_ok (by decide +kernel)
theorem d134_5 : ft 134 5 = some (.ireturn, 1, 6, 0, 0, 0, 0) := ftq_ok (by decide +kernel)
-- 135: Mo_say
theorem d135_0 : ft 135 0 = some (.aload_n 0, 1, 1, 0, 0, 0, 0) := ftq_ok (by decide +kernel)
theorem d135_1 : ft 135 1 = some (.ldc2_w 269, 3, 4, 1, 991, 0, 31) := ftq_ok (by decide +kernel)
theorem d135_4 : ft 135 4 = some (.aload_n 0, 1, 5, 0, 0, 0, 0) := ftq_ok (by decide +kernel)
theorem d135_5 : ft 135 5 = some (.getfield 271, 3, 8, 7, 39, 2, 662) := ftq_ok (by decide +kernel)
theorem d135_8 : ft 135 8 = some (.lmul, 1, 9, 0, 0, 0, 0) := ftq_ok (by decide +kernel)
theorem d135_9 : ft 135 9 = some (.lload_n 1, 1, 10, 0, 0, 0, 0) := ftq_ok (by decide +kernel)
theorem d135_10 : ft 135 10 = some (.ladd, 1, 11, 0, 0, 0, 0) := ftq_ok (by decide +kernel)
theorem d135_11 : ft 135 11 = some (.putfield 271, 3, 14, 7, 39, 2, 662) := ftq_ok (by decide +kernel)
theorem d135_14 : ft 135 14 = some (.return_, 1, 15, 0, 0, 0, 0) := ftq_ok (by decide +kernel)
-- 136: Mo_digest
theorem d136_0 : ft 136 0 = some (.aload_n 0, 1, 1, 0, 0, 0, 0) := ftq_ok (by decide +kernel)
theorem d136_1 : ft 136 1 = some (.ldc2_w 275, 3, 4, 1, 986, 0, 787) := ftq_ok (by decide +kernel)
theorem d136_4 : ft 136 4 = some (.putfield 271, 3, 7, 7, 39, 2, 662) := ftq_ok (by decide +kernel)
theorem d136_7 : ft 136 7 = some (.iconst 0, 1, 8, 0, 0, 0, 0) := ftq_ok (by decide +kernel)
theorem d136_8 : ft 136 8 = some (.istore_n 1, 1, 9, 0, 0, 0, 0) := ftq_ok (by decide +kernel)
theorem d136_9 : ft 136 9 = some (.iload_n 1, 1, 10, 0, 0, 0, 0) := ftq_ok (by decide +kernel)
theorem d136_10 : ft 136 10 = some (.aload_n 0, 1, 11, 0, 0, 0, 0) := ftq_ok (by decide +kernel)
theorem d136_11 : ft 136 11 = some (.getfield 101, 3, 14, 7, 4, 0, 627) := ftq_ok (by decide +kernel)
theorem d136_14 : ft 136 14 = some (.if_icmp .ge 31, 3, 17, 45, 0, 0, 0) := ftq_ok (by decide +kernel)
theorem d136_17 : ft 136 17 = some (.aload_n 0, 1, 18, 0, 0, 0, 0) := ftq_ok (by decide +kernel)
theorem d136_18 : ft 136 18 = some (.aload_n 0, 1, 19, 0, 0, 0, 0) := ftq_ok (by decide +kernel)
theorem d136_19 : ft 136 19 = some (.getfield 13, 3, 22, 7, 9, 3, 632) := ftq_ok (by decide +kernel)
theorem d136_22 : ft 136 22 = some (.iload_n 1, 1, 23, 0, 0, 0, 0) := ftq_ok (by decide +kernel)
theorem d136_23 : ft 136 23 = some (.iaload, 1, 24, 0, 0, 0, 0) := ftq_ok (by decide +kernel)
theorem d136_24 : ft 136 24 = some (.i2l, 1, 25, 0, 0, 0, 0) := ftq_ok (by decide +kernel)
theorem d136_25 : ft 136 25 = some (.invokevirtual 277, 3, 28, 135, 1, 0, 987) := ftq_ok (by decide +kernel)
theorem d136_28 : ft 136 28 = some (.aload_n 0, 1, 29, 0, 0, 0, 0) := ftq_ok (by decide +kernel)
theorem d136_29 : ft 136 29 = some (.aload_n 0, 1, 30, 0, 0, 0, 0) := ftq_ok (by decide +kernel)
theorem d136_30 : ft 136 30 = some (.getfield 16, 3, 33, 7, 10, 3, 633) := ftq_ok (by decide +kernel)
theorem d136_33 : ft 136 33 = some (.iload_n 1, 1, 34, 0, 0, 0, 0) := ftq_ok (by decide +kernel)
theorem d136_34 : ft 136 34 = some (.iaload, 1, 35, 0, 0, 0, 0) := ftq_ok (by decide +kernel)
theorem d136_35 : ft 136 35 = some (.i2l, 1, 36, 0, 0, 0, 0) := ftq_ok (by decide +kernel)
theorem d136_36 : ft 136 36 = some (.invokevirtual 277, 3, 39, 135, 1, 0, 987) := ftq_ok (by decide +kernel)
theorem d136_39 : ft 136 39 = some (.iinc 1 1, 3, 42, 0, 0, 0, 0) := ftq_ok (by decide +kernel)
theorem d136_42 : ft 136 42 = some (.goto (-33), 3, 45, 9, 0, 0, 0) := ftq_ok (by decide +kernel)
theorem d136_45 : ft 136 45 = some (.iconst 0, 1, 46, 0, 0, 0, 0) := ftq_ok (by decide +kernel)
theorem d136_46 : ft 136 46 = some (.istore_n 1, 1, 47, 0, 0, 0, 0) := ftq_ok (by decide +kernel)
theorem d136_47 : ft 136 47 = some (.iload_n 1, 1, 48, 0, 0, 0, 0) := ftq_ok (by decide +kernel)
theorem d136_48 : ft 136 48 = some (.aload_n 0, 1, 49, 0, 0, 0, 0) := ftq_ok (by decide +kernel)
theorem d136_49 : ft 136 49 = some (.getfield 113, 3, 52, 7, 11, 0, 634) := ftq_ok (by decide +kernel)
theorem d136_52 : ft 136 52 = some (.if_icmp .ge 34, 3, 55, 86, 0, 0, 0) := ftq_ok (by decide +kernel)
theorem d136_55 : ft 136 55 = some (.iconst 0, 1, 56, 0, 0, 0, 0) := ftq_ok (by decide +kernel)
theorem d136_56 : ft 136 56 = some (.istore_n 2, 1, 57, 0, 0, 0, 0) := ftq_ok (by decide +kernel)
theorem d136_57 : ft 136 57 = some (.iload_n 2, 1, 58, 0, 0, 0, 0) := ftq_ok (by decide +kernel)
theorem d136_58 : ft 136 58 = some (.bipush 7, 2, 60, 0, 0, 0, 0) := ftq_ok (by decide +kernel)
theorem d136_60 : ft 136 60 = some (.if_icmp .ge 20, 3, 63, 80, 0, 0, 0) := ftq_ok (by decide +kernel)
theorem d136_63 : ft 136 63 = some (.aload_n 0, 1, 64, 0, 0, 0, 0) := ftq_ok (by decide +kernel)
theorem d136_64 : ft 136 64 = some (.aload_n 0, 1, 65, 0, 0, 0, 0) := ftq_ok (by decide +kernel)
theorem d136_65 : ft 136 65 = some (.iload_n 1, 1, 66, 0, 0, 0, 0) := ftq_ok (by decide +kernel)
theorem d136_66 : ft 136 66 = some (.iload_n 2, 1, 67, 0, 0, 0, 0) := ftq_ok (by decide +kernel)
theorem d136_67 : ft 136 67 = some (.invokevirtual 144, 3, 70, 95, 2, 0, 803) := ftq_ok (by decide +kernel)
theorem d136_70 : ft 136 70 = some (.i2l, 1, 71, 0, 0, 0, 0) := ftq_ok (by decide +kernel)
theorem d136_71 : ft 136 71 = some (.invokevirtual 277, 3, 74, 135, 1, 0, 987) := ftq_ok (by decide +kernel)
theorem d136_74 : ft 136 74 = some (.iinc 2 1, 3, 77, 0, 0, 0, 0) := ftq_ok (by decide +kernel)
theorem d136_77 : ft 136 77 = some (.goto (-20), 3, 80, 57, 0, 0, 0) := ftq_ok (by decide +kernel)
theorem d136_80 : ft 136 80 = some (.iinc 1 1, 3, 83, 0, 0, 0, 0) := ftq_ok (by decide +kernel)
theorem d136_83 : ft 136 83 = some (.goto (-36), 3, 86, 47, 0, 0, 0) := ftq_ok (by decide +kernel)
theorem d136_86 : ft 136 86 = some (.aload_n 0, 1, 87, 0, 0, 0, 0) := ftq_ok (by decide +kernel)
theorem d136_87 : ft 136 87 = some (.getfield 113, 3, 90, 7, 11, 0, 634) := ftq_ok (by decide +kernel)
theorem d136_90 : ft 136 90 = some (.ifCond .le 42, 3, 93, 132, 0, 0, 0) := ftq_ok (by decide +kernel)
theorem d136_93 : ft 136 93 = some (.aload_n 0, 1, 94, 0, 0, 0, 0) := ftq_ok (by decide +kernel)
theorem d136_94 : ft 136 94 = some (.aload_n 0, 1, 95, 0, 0, 0, 0) := ftq_ok (by decide +kernel)
theorem d136_95 : ft 136 95 = some (.iconst 1, 1, 96, 0, 0, 0, 0) := ftq_ok (by decide +kernel)
theorem d136_96 : ft 136 96 = some (.invokevirtual 211, 3, 99, 117, 1, 0, 907) := ftq_ok (by decide +kernel)
theorem d136_99 : ft 136 99 = some (.i2l, 1, 100, 0, 0, 0, 0) := ftq_ok (by decide +kernel)
theorem d136_100 : ft 136 100 = some (.invokevirtual 277, 3, 103, 135, 1, 0, 987) := ftq_ok (by decide +kernel)
theorem d136_103 : ft 136 103 = some (.aload_n 0, 1, 104, 0, 0, 0, 0) := ftq_ok (by decide +kernel)
theorem d136_104 : ft 136 104 = some (.aload_n 0, 1, 105, 0, 0, 0, 0) := ftq_ok (by decide +kernel)
theorem d136_105 : ft 136 105 = some (.iconst 2, 1, 106, 0, 0, 0, 0) := ftq_ok (by decide +kernel)
theorem d136_106 : ft 136 106 = some (.invokevirtual 211, 3, 109, 117, 1, 0, 907) := ftq_ok (by decide +kernel)
theorem d136_109 : ft 136 109 = some (.i2l, 1, 110, 0, 0, 0, 0) := ftq_ok (by decide +kernel)
theorem d136_110 : ft 136 110 = some (.invokevirtual 277, 3, 113, 135, 1, 0, 987) := ftq_ok (by decide +kernel)
theorem d136_113 : ft 136 113 = some (.aload_n 0, 1, 114, 0, 0, 0, 0) := ftq_ok (by decide +kernel)
theorem d136_114 : ft 136 114 = some (.aload_n 0, 1, 115, 0, 0, 0, 0) := ftq_ok (by decide +kernel)
theorem d136_115 : ft 136 115 = some (.iconst 3, 1, 116, 0, 0, 0, 0) := ftq_ok (by decide +kernel)
theorem d136_116 : ft 136 116 = some (.invokevirtual 211, 3, 119, 117, 1, 0, 907) := ftq_ok (by decide +kernel)
theorem d136_119 : ft 136 119 = some (.i2l, 1, 120, 0, 0, 0, 0) := ftq_ok (by decide +kernel)
theorem d136_120 : ft 136 120 = some (.invokevirtual 277, 3, 123, 135, 1, 0, 987) := ftq_ok (by decide +kernel)
theorem d136_123 : ft 136 123 = some (.aload_n 0, 1, 124, 0, 0, 0, 0) := ftq_ok (by decide +kernel)
theorem d136_124 : ft 136 124 = some (.aload_n 0, 1, 125, 0, 0, 0, 0) := ftq_ok (by decide +kernel)
theorem d136_125 : ft 136 125 = some (.invokevirtual 226, 3, 128, 121, 0, 0, 916) := ftq_ok (by decide +kernel)
theorem d136_128 : ft 136 128 = some (.i2l, 1, 129, 0, 0, 0, 0) := ftq_ok (by decide +kernel)
theorem d136_129 : ft 136 129 = some (.invokevirtual 277, 3, 132, 135, 1, 0, 987) := ftq_ok (by decide +kernel)
theorem d136_132 : ft 136 132 = some (.iconst 0, 1, 133, 0, 0, 0, 0) := ftq_ok (by decide +kernel)
theorem d136_133 : ft 136 133 = some (.istore_n 1, 1, 134, 0, 0, 0, 0) := ftq_ok (by decide +kernel)
theorem d136_134 : ft 136 134 = some (.iload_n 1, 1, 135, 0, 0, 0, 0) := ftq_ok (by decide +kernel)
theorem d136_135 : ft 136 135 = some (.aload_n 0, 1, 136, 0, 0, 0, 0) := ftq_ok (by decide +kernel)
theorem d136_136 : ft 136 136 = some (.getfield 77, 3, 139, 7, 1, 0, 624) := ftq_ok (by decide +kernel)
theorem d136_139 : ft 136 139 = some (.if_icmp .ge 20, 3, 142, 159, 0, 0, 0) := ftq_ok (by decide +kernel)
theorem d136_142 : ft 136 142 = some (.aload_n 0, 1, 143, 0, 0, 0, 0) := ftq_ok (by decide +kernel)
theorem d136_143 : ft 136 143 = some (.aload_n 0, 1, 144, 0, 0, 0, 0) := ftq_ok (by decide +kernel)
theorem d136_144 : ft 136 144 = some (.getfield 7, 3, 147, 7, 0, 3, 623) := ftq_ok (by decide +kernel)
theorem d136_147 : ft 136 147 = some (.iload_n 1, 1, 148, 0, 0, 0, 0) := ftq_ok (by decide +kernel)
theorem d136_148 : ft 136 148 = some (.iaload, 1, 149, 0, 0, 0, 0) := ftq_ok (by decide +kernel)
theorem d136_149 : ft 136 149 = some (.i2l, 1, 150, 0, 0, 0, 0) := ftq_ok (by decide +kernel)
theorem d136_150 : ft 136 150 = some (.invokevirtual 277, 3, 153, 135, 1, 0, 987) := ftq_ok (by decide +kernel)
theorem d136_153 : ft 136 153 = some (.iinc 1 1, 3, 156, 0, 0, 0, 0) := ftq_ok (by decide +kernel)
theorem d136_156 : ft 136 156 = some (.goto (-22), 3, 159, 134, 0, 0, 0) := ftq_ok (by decide +kernel)
theorem d136_159 : ft 136 159 = some (.iconst 0, 1, 160, 0, 0, 0, 0) := ftq_ok (by decide +kernel)
theorem d136_160 : ft 136 160 = some (.istore_n 1, 1, 161, 0, 0, 0, 0) := ftq_ok (by decide +kernel)
theorem d136_161 : ft 136 161 = some (.iload_n 1, 1, 162, 0, 0, 0, 0) := ftq_ok (by decide +kernel)
theorem d136_162 : ft 136 162 = some (.bipush 11, 2, 164, 0, 0, 0, 0) := ftq_ok (by decide +kernel)
theorem d136_164 : ft 136 164 = some (.if_icmp .ge 19, 3, 167, 183, 0, 0, 0) := ftq_ok (by decide +kernel)
theorem d136_167 : ft 136 167 = some (.aload_n 0, 1, 168, 0, 0, 0, 0) := ftq_ok (by decide +kernel)
theorem d136_168 : ft 136 168 = some (.aload_n 0, 1, 169, 0, 0, 0, 0) := ftq_ok (by decide +kernel)
theorem d136_169 : ft 136 169 = some (.iload_n 1, 1, 170, 0, 0, 0, 0) := ftq_ok (by decide +kernel)
theorem d136_170 : ft 136 170 = some (.invokevirtual 266, 3, 173, 133, 1, 0, 978) := ftq_ok (by decide +kernel)
theorem d136_173 : ft 136 173 = some (.i2l, 1, 174, 0, 0, 0, 0) := ftq_ok (by decide +kernel)
theorem d136_174 : ft 136 174 = some (.invokevirtual 277, 3, 177, 135, 1, 0, 987) := ftq_ok (by decide +kernel)
theorem d136_177 : ft 136 177 = some (.iinc 1 1, 3, 180, 0, 0, 0, 0) := ftq_ok (by decide +kernel)
theorem d136_180 : ft 136 180 = some (.goto (-19), 3, 183, 161, 0, 0, 0) := ftq_ok (by decide +kernel)
theorem d136_183 : ft 136 183 = some (.aload_n 0, 1, 184, 0, 0, 0, 0) := ftq_ok (by decide +kernel)
theorem d136_184 : ft 136 184 = some (.getfield 271, 3, 187, 7, 39, 2, 662) := ftq_ok (by decide +kernel)
theorem d136_187 : ft 136 187 = some (.lreturn, 1, 188, 0, 0, 0, 0) := ftq_ok (by decide +kernel)
end
section
-- 0: Best_init
theorem d0_0 : ft 0 0 = some (.aload_n 0, 1, 1, 0, 0, 0, 0) := ftq_ok (by decide +kernel)
theorem d0_1 : ft 0 1 = some (.invokespecial 3, 3, 4, 0, 0, 4, 161) := ftq_ok (by decide +kernel)
theorem d0_4 : ft 0 4 = some (.aload_n 0, 1, 5, 0, 0, 0, 0) := ftq_ok (by decide +kernel)
theorem d0_5 : ft 0 5 = some (.new 9, 3, 8, 5, 7, 0, 162) := ftq_ok (by decide +kernel)
theorem d0_8 : ft 0 8 = some (.dup, 1, 9, 0, 0, 0, 0) := ftq_ok (by decide +kernel)
theorem d0_9 : ft 0 9 = some (.invokespecial 11, 3, 12, 43, 0, 3, 164) := ftq_ok (by decide +kernel)
theorem d0_12 : ft 0 12 = some (.putfield 12, 3, 15, 0, 0, 3, 196) := ftq_ok (by decide +kernel)
theorem d0_15 : ft 0 15 = some (.aload_n 0, 1, 16, 0, 0, 0, 0) := ftq_ok (by decide +kernel)
theorem d0_16 : ft 0 16 = some (.bipush 6, 2, 18, 0, 0, 0, 0) := ftq_ok (by decide +kernel)
theorem d0_18 : ft 0 18 = some (.newarray .int, 2, 20, 0, 0, 0, 0) := ftq_ok (by decide +kernel)
theorem d0_20 : ft 0 20 = some (.putfield 18, 3, 23, 0, 1, 3, 197) := ftq_ok (by decide +kernel)
theorem d0_23 : ft 0 23 = some (.aload_n 0, 1, 24, 0, 0, 0, 0) := ftq_ok (by decide +kernel)
theorem d0_24 : ft 0 24 = some (.bipush 6, 2, 26, 0, 0, 0, 0) := ftq_ok (by decide +kernel)
theorem d0_26 : ft 0 26 = some (.newarray .int, 2, 28, 0, 0, 0, 0) := ftq_ok (by decide +kernel)
theorem d0_28 : ft 0 28 = some (.putfield 22, 3, 31, 0, 2, 3, 198) := ftq_ok (by decide +kernel)
theorem d0_31 : ft 0 31 = some (.aload_n 0, 1, 32, 0, 0, 0, 0) := ftq_ok (by decide +kernel)
theorem d0_32 : ft 0 32 = some (.iconst (-1), 1, 33, 0, 0, 0, 0) := ftq_ok (by decide +kernel)
theorem d0_33 : ft 0 33 = some (.putfield 25, 3, 36, 0, 3, 0, 200) := ftq_ok (by decide +kernel)
theorem d0_36 : ft 0 36 = some (.aload_n 0, 1, 37, 0, 0, 0, 0) := ftq_ok (by decide +kernel)
theorem d0_37 : ft 0 37 = some (.iconst (-1), 1, 38, 0, 0, 0, 0) := ftq_ok (by decide +kernel)
theorem d0_38 : ft 0 38 = some (.putfield 29, 3, 41, 0, 4, 0, 202) := ftq_ok (by decide +kernel)
theorem d0_41 : ft 0 41 = some (.return_, 1, 42, 0, 0, 0, 0) := ftq_ok (by decide +kernel)
-- 1: Best_search
theorem d1_0 : ft 1 0 = some (.aload_n 0, 1, 1, 0, 0, 0, 0) := ftq_ok (by decide +kernel)
theorem d1_1 : ft 1 1 = some (.getfield 12, 3, 4, 0, 0, 3, 196) := ftq_ok (by decide +kernel)
theorem d1_4 : ft 1 4 = some (.aload_n 1, 1, 5, 0, 0, 0, 0) := ftq_ok (by decide +kernel)
theorem d1_5 : ft 1 5 = some (.invokevirtual 32, 3, 8, 44, 1, 0, 458) := ftq_ok (by decide +kernel)
theorem d1_8 : ft 1 8 = some (.aload_n 0, 1, 9, 0, 0, 0, 0) := ftq_ok (by decide +kernel)
theorem d1_9 : ft 1 9 = some (.iconst (-1), 1, 10, 0, 0, 0, 0) := ftq_ok (by decide +kernel)
theorem d1_10 : ft 1 10 = some (.putfield 25, 3, 13, 0, 3, 0, 200) := ftq_ok (by decide +kernel)
theorem d1_13 : ft 1 13 = some (.aload_n 0, 1, 14, 0, 0, 0, 0) := ftq_ok (by decide +kernel)
theorem d1_14 : ft 1 14 = some (.iconst (-1), 1, 15, 0, 0, 0, 0) := ftq_ok (by decide +kernel)
theorem d1_15 : ft 1 15 = some (.putfield 29, 3, 18, 0, 4, 0, 202) := ftq_ok (by decide +kernel)
theorem d1_18 : ft 1 18 = some (.iconst 0, 1, 19, 0, 0, 0, 0) := ftq_ok (by decide +kernel)
theorem d1_19 : ft 1 19 = some (.istore_n 2, 1, 20, 0, 0, 0, 0) := ftq_ok (by decide +kernel)
theorem d1_20 : ft 1 20 = some (.iload_n 2, 1, 21, 0, 0, 0, 0) := ftq_ok (by decide +kernel)
theorem d1_21 : ft 1 21 = some (.bipush 6, 2, 23, 0, 0, 0, 0) := ftq_ok (by decide +kernel)
theorem d1_23 : ft 1 23 = some (.if_icmp .ge 23, 3, 26, 46, 0, 0, 0) := ftq_ok (by decide +kernel)
theorem d1_26 : ft 1 26 = some (.aload_n 0, 1, 27, 0, 0, 0, 0) := ftq_ok (by decide +kernel)
theorem d1_27 : ft 1 27 = some (.getfield 18, 3, 30, 0, 1, 3, 197) := ftq_ok (by decide +kernel)
theorem d1_30 : ft 1 30 = some (.iload_n 2, 1, 31, 0, 0, 0, 0) := ftq_ok (by decide +kernel)
theorem d1_31 : ft 1 31 = some (.iconst (-1), 1, 32, 0, 0, 0, 0) := ftq_ok (by decide +kernel)
theorem d1_32 : ft 1 32 = some (.iastore, 1, 33, 0, 0, 0, 0) := ftq_ok (by decide +kernel)
theorem d1_33 : ft 1 33 = some (.aload_n 0, 1, 34, 0, 0, 0, 0) := ftq_ok (by decide +kernel)
theorem d1_34 : ft 1 34 = some (.getfield 22, 3, 37, 0, 2, 3, 198) := ftq_ok (by decide +kernel)
theorem d1_37 : ft 1 37 = some (.iload_n 2, 1, 38, 0, 0, 0, 0) := ftq_ok (by decide +kernel)
theorem d1_38 : ft 1 38 = some (.iconst (-1), 1, 39, 0, 0, 0, 0) := ftq_ok (by decide +kernel)
theorem d1_39 : ft 1 39 = some (.iastore, 1, 40, 0, 0, 0, 0) := ftq_ok (by decide +kernel)
theorem d1_40 : ft 1 40 = some (.iinc 2 1, 3, 43, 0, 0, 0, 0) := ftq_ok (by decide +kernel)
theorem d1_43 : ft 1 43 = some (.goto (-23), 3, 46, 20, 0, 0, 0) := ftq_ok (by decide +kernel)
theorem d1_46 : ft 1 46 = some (.aload_n 0, 1, 47, 0, 0, 0, 0) := ftq_ok (by decide +kernel)
theorem d1_47 : ft 1 47 = some (.aload_n 1, 1, 48, 0, 0, 0, 0) := ftq_ok (by decide +kernel)
theorem d1_48 : ft 1 48 = some (.getfield 36, 3, 51, 4, 2, 0, 95) := ftq_ok (by decide +kernel)
theorem d1_51 : ft 1 51 = some (.aload_n 1, 1, 52, 0, 0, 0, 0) := ftq_ok (by decide +kernel)
theorem d1_52 : ft 1 52 = some (.getfield 41, 3, 55, 4, 11, 3, 124) := ftq_ok (by decide +kernel)
theorem d1_55 : ft 1 55 = some (.iconst 0, 1, 56, 0, 0, 0, 0) := ftq_ok (by decide +kernel)
theorem d1_56 : ft 1 56 = some (.iaload, 1, 57, 0, 0, 0, 0) := ftq_ok (by decide +kernel)
theorem d1_57 : ft 1 57 = some (.aload_n 1, 1, 58, 0, 0, 0, 0) := ftq_ok (by decide +kernel)
theorem d1_58 : ft 1 58 = some (.invokevirtual 44, 3, 61, 41, 0, 0, 475) := ftq_ok (by decide +kernel)
theorem d1_61 : ft 1 61 = some (.iconst 0, 1, 62, 0, 0, 0, 0) := ftq_ok (by decide +kernel)
theorem d1_62 : ft 1 62 = some (.invokevirtual 48, 3, 65, 2, 4, 0, 479) := ftq_ok (by decide +kernel)
theorem d1_65 : ft 1 65 = some (.return_, 1, 66, 0, 0, 0, 0) := ftq_ok (by decide +kernel)
-- 2: Best_goOn
theorem d2_0 : ft 2 0 = some (.aload_n 0, 1, 1, 0, 0, 0, 0) := ftq_ok (by decide +kernel)
theorem d2_1 : ft 2 1 = some (.iload_n 3, 1, 2, 0, 0, 0, 0) := ftq_ok (by decide +kernel)
theorem d2_2 : ft 2 2 = some (.iload 4, 2, 4, 0, 0, 0, 0) := ftq_ok (by decide +kernel)
theorem d2_4 : ft 2 4 = some (.invokevirtual 52, 3, 7, 4, 2, 0, 483) := ftq_ok (by decide +kernel)
theorem d2_7 : ft 2 7 = some (.ifCond .eq 4, 3, 10, 11, 0, 0, 0) := ftq_ok (by decide +kernel)
theorem d2_10 : ft 2 10 = some (.return_, 1, 11, 0, 0, 0, 0) := ftq_ok (by decide +kernel)
theorem d2_11 : ft 2 11 = some (.iload_n 1, 1, 12, 0, 0, 0, 0) := ftq_ok (by decide +kernel)
theorem d2_12 : ft 2 12 = some (.aload_n 0, 1, 13, 0, 0, 0, 0) := ftq_ok (by decide +kernel)
theorem d2_13 : ft 2 13 = some (.getfield 12, 3, 16, 0, 0, 3, 196) := ftq_ok (by decide +kernel)
theorem d2_16 : ft 2 16 = some (.getfield 56, 3, 19, 5, 6, 0, 180) := ftq_ok (by decide +kernel)
theorem d2_19 : ft 2 19 = some (.if_icmp .lt 11, 3, 22, 30, 0, 0, 0) := ftq_ok (by decide +kernel)
theorem d2_22 : ft 2 22 = some (.aload_n 0, 1, 23, 0, 0, 0, 0) := ftq_ok (by decide +kernel)
theorem d2_23 : ft 2 23 = some (.iload_n 3, 1, 24, 0, 0, 0, 0) := ftq_ok (by decide +kernel)
theorem d2_24 : ft 2 24 = some (.iload 4, 2, 26, 0, 0, 0, 0) := ftq_ok (by decide +kernel)
theorem d2_26 : ft 2 26 = some (.invokevirtual 59, 3, 29, 5, 2, 0, 487) := ftq_ok (by decide +kernel)
theorem d2_29 : ft 2 29 = some (.return_, 1, 30, 0, 0, 0, 0) := ftq_ok (by decide +kernel)
theorem d2_30 : ft 2 30 = some (.iconst 0, 1, 31, 0, 0, 0, 0) := ftq_ok (by decide +kernel)
theorem d2_31 : ft 2 31 = some (.istore 5, 2, 33, 0, 0, 0, 0) := ftq_ok (by decide +kernel)
theorem d2_33 : ft 2 33 = some (.iload 5, 2, 35, 0, 0, 0, 0) := ftq_ok (by decide +kernel)
theorem d2_35 : ft 2 35 = some (.aload_n 0, 1, 36, 0, 0, 0, 0) := ftq_ok (by decide +kernel)
theorem d2_36 : ft 2 36 = some (.getfield 12, 3, 39, 0, 0, 3, 196) := ftq_ok (by decide +kernel)
theorem d2_39 : ft 2 39 = some (.getfield 63, 3, 42, 5, 4, 0, 175) := ftq_ok (by decide +kernel)
theorem d2_42 : ft 2 42 = some (.if_icmp .ge 29, 3, 45, 71, 0, 0, 0) := ftq_ok (by decide +kernel)
theorem d2_45 : ft 2 45 = some (.aload_n 0, 1, 46, 0, 0, 0, 0) := ftq_ok (by decide +kernel)
theorem d2_46 : ft 2 46 = some (.iload_n 1, 1, 47, 0, 0, 0, 0) := ftq_ok (by decide +kernel)
theorem d2_47 : ft 2 47 = some (.iload 5, 2, 49, 0, 0, 0, 0) := ftq_ok (by decide +kernel)
theorem d2_49 : ft 2 49 = some (.iload 4, 2, 51, 0, 0, 0, 0) := ftq_ok (by decide +kernel)
theorem d2_51 : ft 2 51 = some (.aload_n 0, 1, 52, 0, 0, 0, 0) := ftq_ok (by decide +kernel)
theorem d2_52 : ft 2 52 = some (.getfield 12, 3, 55, 0, 0, 3, 196) := ftq_ok (by decide +kernel)
theorem d2_55 : ft 2 55 = some (.iload_n 2, 1, 56, 0, 0, 0, 0) := ftq_ok (by decide +kernel)
theorem d2_56 : ft 2 56 = some (.iload 5, 2, 58, 0, 0, 0, 0) := ftq_ok (by decide +kernel)
theorem d2_58 : ft 2 58 = some (.invokevirtual 66, 3, 61, 48, 2, 0, 491) := ftq_ok (by decide +kernel)
theorem d2_61 : ft 2 61 = some (.iadd, 1, 62, 0, 0, 0, 0) := ftq_ok (by decide +kernel)
theorem d2_62 : ft 2 62 = some (.invokevirtual 70, 3, 65, 3, 3, 0, 495) := ftq_ok (by decide +kernel)
theorem d2_65 : ft 2 65 = some (.iinc 5 1, 3, 68, 0, 0, 0, 0) := ftq_ok (by decide +kernel)
theorem d2_68 : ft 2 68 = some (.goto (-35), 3, 71, 33, 0, 0, 0) := ftq_ok (by decide +kernel)
theorem d2_71 : ft 2 71 = some (.return_, 1, 72, 0, 0, 0, 0) := ftq_ok (by decide +kernel)
-- 3: Best_step
theorem d3_0 : ft 3 0 = some (.aload_n 0, 1, 1, 0, 0, 0, 0) := ftq_ok (by decide +kernel)
theorem d3_1 : ft 3 1 = some (.getfield 12, 3, 4, 0, 0, 3, 196) := ftq_ok (by decide +kernel)
theorem d3_4 : ft 3 4 = some (.iload_n 1, 1, 5, 0, 0, 0, 0) := ftq_ok (by decide +kernel)
theorem d3_5 : ft 3 5 = some (.iload_n 2, 1, 6, 0, 0, 0, 0) := ftq_ok (by decide +kernel)
theorem d3_6 : ft 3 6 = some (.invokevirtual 74, 3, 9, 47, 2, 0, 499) := ftq_ok (by decide +kernel)
theorem d3_9 : ft 3 9 = some (.istore 4, 2, 11, 0, 0, 0, 0) := ftq_ok (by decide +kernel)
theorem d3_11 : ft 3 11 = some (.iload 4, 2, 13, 0, 0, 0, 0) := ftq_ok (by decide +kernel)
theorem d3_13 : ft 3 13 = some (.iconst (-1), 1, 14, 0, 0, 0, 0) := ftq_ok (by decide +kernel)
theorem d3_14 : ft 3 14 = some (.if_icmp .ne 4, 3, 17, 18, 0, 0, 0) := ftq_ok (by decide +kernel)
theorem d3_17 : ft 3 17 = some (.return_, 1, 18, 0, 0, 0, 0) := ftq_ok (by decide +kernel)
theorem d3_18 : ft 3 18 = some (.aload_n 0, 1, 19, 0, 0, 0, 0) := ftq_ok (by decide +kernel)
theorem d3_19 : ft 3 19 = some (.getfield 18, 3, 22, 0, 1, 3, 197) := ftq_ok (by decide +kernel)
theorem d3_22 : ft 3 22 = some (.iload_n 1, 1, 23, 0, 0, 0, 0) := ftq_ok (by decide +kernel)
theorem d3_23 : ft 3 23 = some (.iload_n 2, 1, 24, 0, 0, 0, 0) := ftq_ok (by decide +kernel)
theorem d3_24 : ft 3 24 = some (.iastore, 1, 25, 0, 0, 0, 0) := ftq_ok (by decide +kernel)
theorem d3_25 : ft 3 25 = some (.aload_n 0, 1, 26, 0, 0, 0, 0) := ftq_ok (by decide +kernel)
theorem d3_26 : ft 3 26 = some (.iload_n 1, 1, 27, 0, 0, 0, 0) := ftq_ok (by decide +kernel)
theorem d3_27 : ft 3 27 = some (.iconst 1, 1, 28, 0, 0, 0, 0) := ftq_ok (by decide +kernel)
theorem d3_28 : ft 3 28 = some (.iadd, 1, 29, 0, 0, 0, 0) := ftq_ok (by decide +kernel)
theorem d3_29 : ft 3 29 = some (.iload_n 2, 1, 30, 0, 0, 0, 0) := ftq_ok (by decide +kernel)
theorem d3_30 : ft 3 30 = some (.iload 4, 2, 32, 0, 0, 0, 0) := ftq_ok (by decide +kernel)
theorem d3_32 : ft 3 32 = some (.iload_n 3, 1, 33, 0, 0, 0, 0) := ftq_ok (by decide +kernel)
theorem d3_33 : ft 3 33 = some (.invokevirtual 48, 3, 36, 2, 4, 0, 479) := ftq_ok (by decide +kernel)
theorem d3_36 : ft 3 36 = some (.return_, 1, 37, 0, 0, 0, 0) := ftq_ok (by decide +kernel)
-- 4: Best_isBeaten
theorem d4_0 : ft 4 0 = some (.iload_n 1, 1, 1, 0, 0, 0, 0) := ftq_ok (by decide +kernel)
theorem d4_1 : ft 4 1 = some (.aload_n 0, 1, 2, 0, 0, 0, 0) := ftq_ok (by decide +kernel)
theorem d4_2 : ft 4 2 = some (.getfield 25, 3, 5, 0, 3, 0, 200) := ftq_ok (by decide +kernel)
theorem d4_5 : ft 4 5 = some (.if_icmp .lt 19, 3, 8, 24, 0, 0, 0) := ftq_ok (by decide +kernel)
theorem d4_8 : ft 4 8 = some (.iload_n 1, 1, 9, 0, 0, 0, 0) := ftq_ok (by decide +kernel)
theorem d4_9 : ft 4 9 = some (.aload_n 0, 1, 10, 0, 0, 0, 0) := ftq_ok (by decide +kernel)
theorem d4_10 : ft 4 10 = some (.getfield 25, 3, 13, 0, 3, 0, 200) := ftq_ok (by decide +kernel)
theorem d4_13 : ft 4 13 = some (.if_icmp .ne 15, 3, 16, 28, 0, 0, 0) := ftq_ok (by decide +kernel)
theorem d4_16 : ft 4 16 = some (.iload_n 2, 1, 17, 0, 0, 0, 0) := ftq_ok (by decide +kernel)
theorem d4_17 : ft 4 17 = some (.aload_n 0, 1, 18, 0, 0, 0, 0) := ftq_ok (by decide +kernel)
theorem d4_18 : ft 4 18 = some (.getfield 29, 3, 21, 0, 4, 0, 202) := ftq_ok (by decide +kernel)
theorem d4_21 : ft 4 21 = some (.if_icmp .lt 7, 3, 24, 28, 0, 0, 0) := ftq_ok (by decide +kernel)
theorem d4_24 : ft 4 24 = some (.iconst 1, 1, 25, 0, 0, 0, 0) := ftq_ok (by decide +kernel)
theorem d4_25 : ft 4 25 = some (.goto 4, 3, 28, 29, 0, 0, 0) := ftq_ok (by decide +kernel)
theorem d4_28 : ft 4 28 = some (.iconst 0, 1, 29, 0, 0, 0, 0) := ftq_ok (by decide +kernel)
theorem d4_29 : ft 4 29 = some (.ireturn, 1, 30, 0, 0, 0, 0) := ftq_ok (by decide +kernel)
-- 5: Best_keep
theorem d5_0 : ft 5 0 = some (.aload_n 0, 1, 1, 0, 0, 0, 0) := ftq_ok (by decide +kernel)
theorem d5_1 : ft 5 1 = some (.iload_n 1, 1, 2, 0, 0, 0, 0) := ftq_ok (by decide +kernel)
theorem d5_2 : ft 5 2 = some (.putfield 25, 3, 5, 0, 3, 0, 200) := ftq_ok (by decide +kernel)
theorem d5_5 : ft 5 5 = some (.aload_n 0, 1, 6, 0, 0, 0, 0) := ftq_ok (by decide +kernel)
theorem d5_6 : ft 5 6 = some (.iload_n 2, 1, 7, 0, 0, 0, 0) := ftq_ok (by decide +kernel)
theorem d5_7 : ft 5 7 = some (.putfield 29, 3, 10, 0, 4, 0, 202) := ftq_ok (by decide +kernel)
theorem d5_10 : ft 5 10 = some (.iconst 0, 1, 11, 0, 0, 0, 0) := ftq_ok (by decide +kernel)
theorem d5_11 : ft 5 11 = some (.istore_n 3, 1, 12, 0, 0, 0, 0) := ftq_ok (by decide +kernel)
theorem d5_12 : ft 5 12 = some (.iload_n 3, 1, 13, 0, 0, 0, 0) := ftq_ok (by decide +kernel)
theorem d5_13 : ft 5 13 = some (.bipush 6, 2, 15, 0, 0, 0, 0) := ftq_ok (by decide +kernel)
theorem d5_15 : ft 5 15 = some (.if_icmp .ge 21, 3, 18, 36, 0, 0, 0) := ftq_ok (by decide +kernel)
theorem d5_18 : ft 5 18 = some (.aload_n 0, 1, 19, 0, 0, 0, 0) := ftq_ok (by decide +kernel)
theorem d5_19 : ft 5 19 = some (.getfield 22, 3, 22, 0, 2, 3, 198) := ftq_ok (by decide +kernel)
theorem d5_22 : ft 5 22 = some (.iload_n 3, 1, 23, 0, 0, 0, 0) := ftq_ok (by decide +kernel)
theorem d5_23 : ft 5 23 = some (.aload_n 0, 1, 24, 0, 0, 0, 0) := ftq_ok (by decide +kernel)
theorem d5_24 : ft 5 24 = some (.getfield 18, 3, 27, 0, 1, 3, 197) := ftq_ok (by decide +kernel)
theorem d5_27 : ft 5 27 = some (.iload_n 3, 1, 28, 0, 0, 0, 0) := ftq_ok (by decide +kernel)
theorem d5_28 : ft 5 28 = some (.iaload, 1, 29, 0, 0, 0, 0) := ftq_ok (by decide +kernel)
theorem d5_29 : ft 5 29 = some (.iastore, 1, 30, 0, 0, 0, 0) := ftq_ok (by decide +kernel)
theorem d5_30 : ft 5 30 = some (.iinc 3 1, 3, 33, 0, 0, 0, 0) := ftq_ok (by decide +kernel)
theorem d5_33 : ft 5 33 = some (.goto (-21), 3, 36, 12, 0, 0, 0) := ftq_ok (by decide +kernel)
theorem d5_36 : ft 5 36 = some (.return_, 1, 37, 0, 0, 0, 0) := ftq_ok (by decide +kernel)
-- 6: Book_init
theorem d6_0 : ft 6 0 = some (.aload_n 0, 1, 1, 0, 0, 0, 0) := ftq_ok (by decide +kernel)
theorem d6_1 : ft 6 1 = some (.invokespecial 3, 3, 4, 0, 0, 4, 220) := ftq_ok (by decide +kernel)
theorem d6_4 : ft 6 4 = some (.aload_n 0, 1, 5, 0, 0, 0, 0) := ftq_ok (by decide +kernel)
theorem d6_5 : ft 6 5 = some (.new 9, 3, 8, 5, 7, 0, 221) := ftq_ok (by decide +kernel)
theorem d6_8 : ft 6 8 = some (.dup, 1, 9, 0, 0, 0, 0) := ftq_ok (by decide +kernel)
theorem d6_9 : ft 6 9 = some (.invokespecial 11, 3, 12, 43, 0, 3, 222) := ftq_ok (by decide +kernel)
theorem d6_12 : ft 6 12 = some (.putfield 12, 3, 15, 1, 0, 3, 223) := ftq_ok (by decide +kernel)
theorem d6_15 : ft 6 15 = some (.aload_n 0, 1, 16, 0, 0, 0, 0) := ftq_ok (by decide +kernel)
theorem d6_16 : ft 6 16 = some (.iconst 5, 1, 17, 0, 0, 0, 0) := ftq_ok (by decide +kernel)
theorem d6_17 : ft 6 17 = some (.newarray .int, 2, 19, 0, 0, 0, 0) := ftq_ok (by decide +kernel)
theorem d6_19 : ft 6 19 = some (.putfield 18, 3, 22, 1, 1, 3, 224) := ftq_ok (by decide +kernel)
theorem d6_22 : ft 6 22 = some (.aload_n 0, 1, 23, 0, 0, 0, 0) := ftq_ok (by decide +kernel)
theorem d6_23 : ft 6 23 = some (.iconst 5, 1, 24, 0, 0, 0, 0) := ftq_ok (by decide +kernel)
theorem d6_24 : ft 6 24 = some (.newarray .int, 2, 26, 0, 0, 0, 0) := ftq_ok (by decide +kernel)
theorem d6_26 : ft 6 26 = some (.putfield 22, 3, 29, 1, 2, 3, 225) := ftq_ok (by decide +kernel)
theorem d6_29 : ft 6 29 = some (.aload_n 0, 1, 30, 0, 0, 0, 0) := ftq_ok (by decide +kernel)
theorem d6_30 : ft 6 30 = some (.bipush 6, 2, 32, 0, 0, 0, 0) := ftq_ok (by decide +kernel)
theorem d6_32 : ft 6 32 = some (.newarray .int, 2, 34, 0, 0, 0, 0) := ftq_ok (by decide +kernel)
theorem d6_34 : ft 6 34 = some (.putfield 25, 3, 37, 1, 3, 3, 226) := ftq_ok (by decide +kernel)
theorem d6_37 : ft 6 37 = some (.aload_n 0, 1, 38, 0, 0, 0, 0) := ftq_ok (by decide +kernel)
theorem d6_38 : ft 6 38 = some (.iconst 0, 1, 39, 0, 0, 0, 0) := ftq_ok (by decide +kernel)
theorem d6_39 : ft 6 39 = some (.putfield 28, 3, 42, 1, 4, 0, 227) := ftq_ok (by decide +kernel)
theorem d6_42 : ft 6 42 = some (.aload_n 0, 1, 43, 0, 0, 0, 0) := ftq_ok (by decide +kernel)
theorem d6_43 : ft 6 43 = some (.iconst 0, 1, 44, 0, 0, 0, 0) := ftq_ok (by decide +kernel)
theorem d6_44 : ft 6 44 = some (.putfield 32, 3, 47, 1, 5, 0, 228) := ftq_ok (by decide +kernel)
theorem d6_47 : ft 6 47 = some (.aload_n 0, 1, 48, 0, 0, 0, 0) := ftq_ok (by decide +kernel)
theorem d6_48 : ft 6 48 = some (.iconst (-1), 1, 49, 0, 0, 0, 0) := ftq_ok (by decide +kernel)
theorem d6_49 : ft 6 49 = some (.putfield 35, 3, 52, 1, 6, 0, 230) := ftq_ok (by decide +kernel)
theorem d6_52 : ft 6 52 = some (.return_, 1, 53, 0, 0, 0, 0) := ftq_ok (by decide +kernel)
-- 7: Book_search
theorem d7_0 : ft 7 0 = some (.aload_n 0, 1, 1, 0, 0, 0, 0) := ftq_ok (by decide +kernel)
theorem d7_1 : ft 7 1 = some (.getfield 12, 3, 4, 1, 0, 3, 223) := ftq_ok (by decide +kernel)
theorem d7_4 : ft 7 4 = some (.aload_n 1, 1, 5, 0, 0, 0, 0) := ftq_ok (by decide +kernel)
theorem d7_5 : ft 7 5 = some (.invokevirtual 38, 3, 8, 44, 1, 0, 553) := ftq_ok (by decide +kernel)
theorem d7_8 : ft 7 8 = some (.aload_n 0, 1, 9, 0, 0, 0, 0) := ftq_ok (by decide +kernel)
theorem d7_9 : ft 7 9 = some (.iconst 0, 1, 10, 0, 0, 0, 0) := ftq_ok (by decide +kernel)
theorem d7_10 : ft 7 10 = some (.putfield 28, 3, 13, 1, 4, 0, 227) := ftq_ok (by decide +kernel)
theorem d7_13 : ft 7 13 = some (.aload_n 0, 1, 14, 0, 0, 0, 0) := ftq_ok (by decide +kernel)
theorem d7_14 : ft 7 14 = some (.iconst 0, 1, 15, 0, 0, 0, 0) := ftq_ok (by decide +kernel)
theorem d7_15 : ft 7 15 = some (.putfield 32, 3, 18, 1, 5, 0, 228) := ftq_ok (by decide +kernel)
theorem d7_18 : ft 7 18 = some (.aload_n 0, 1, 19, 0, 0, 0, 0) := ftq_ok (by decide +kernel)
theorem d7_19 : ft 7 19 = some (.iconst (-1), 1, 20, 0, 0, 0, 0) := ftq_ok (by decide +kernel)
theorem d7_20 : ft 7 20 = some (.putfield 35, 3, 23, 1, 6, 0, 230) := ftq_ok (by decide +kernel)
theorem d7_23 : ft 7 23 = some (.iconst 0, 1, 24, 0, 0, 0, 0) := ftq_ok (by decide +kernel)
theorem d7_24 : ft 7 24 = some (.istore_n 3, 1, 25, 0, 0, 0, 0) := ftq_ok (by decide +kernel)
theorem d7_25 : ft 7 25 = some (.iload_n 3, 1, 26, 0, 0, 0, 0) := ftq_ok (by decide +kernel)
theorem d7_26 : ft 7 26 = some (.aload_n 1, 1, 27, 0, 0, 0, 0) := ftq_ok (by decide +kernel)
theorem d7_27 : ft 7 27 = some (.getfield 42, 3, 30, 4, 3, 0, 101) := ftq_ok (by decide +kernel)
theorem d7_30 : ft 7 30 = some (.if_icmp .ge 53, 3, 33, 83, 0, 0, 0) := ftq_ok (by decide +kernel)
theorem d7_33 : ft 7 33 = some (.aload_n 0, 1, 34, 0, 0, 0, 0) := ftq_ok (by decide +kernel)
theorem d7_34 : ft 7 34 = some (.getfield 18, 3, 37, 1, 1, 3, 224) := ftq_ok (by decide +kernel)
theorem d7_37 : ft 7 37 = some (.iload_n 3, 1, 38, 0, 0, 0, 0) := ftq_ok (by decide +kernel)
theorem d7_38 : ft 7 38 = some (.aload_n 1, 1, 39, 0, 0, 0, 0) := ftq_ok (by decide +kernel)
theorem d7_39 : ft 7 39 = some (.getfield 47, 3, 42, 4, 10, 3, 121) := ftq_ok (by decide +kernel)
theorem d7_42 : ft 7 42 = some (.iload_n 3, 1, 43, 0, 0, 0, 0) := ftq_ok (by decide +kernel)
theorem d7_43 : ft 7 43 = some (.iaload, 1, 44, 0, 0, 0, 0) := ftq_ok (by decide +kernel)
theorem d7_44 : ft 7 44 = some (.iastore, 1, 45, 0, 0, 0, 0) := ftq_ok (by decide +kernel)
theorem d7_45 : ft 7 45 = some (.aload_n 0, 1, 46, 0, 0, 0, 0) := ftq_ok (by decide +kernel)
theorem d7_46 : ft 7 46 = some (.getfield 22, 3, 49, 1, 2, 3, 225) := ftq_ok (by decide +kernel)
theorem d7_49 : ft 7 49 = some (.iload_n 3, 1, 50, 0, 0, 0, 0) := ftq_ok (by decide +kernel)
theorem d7_50 : ft 7 50 = some (.iconst 0, 1, 51, 0, 0, 0, 0) := ftq_ok (by decide +kernel)
theorem d7_51 : ft 7 51 = some (.iastore, 1, 52, 0, 0, 0, 0) := ftq_ok (by decide +kernel)
theorem d7_52 : ft 7 52 = some (.aload_n 0, 1, 53, 0, 0, 0, 0) := ftq_ok (by decide +kernel)
theorem d7_53 : ft 7 53 = some (.getfield 18, 3, 56, 1, 1, 3, 224) := ftq_ok (by decide +kernel)
theorem d7_56 : ft 7 56 = some (.iload_n 3, 1, 57, 0, 0, 0, 0) := ftq_ok (by decide +kernel)
theorem d7_57 : ft 7 57 = some (.iaload, 1, 58, 0, 0, 0, 0) := ftq_ok (by decide +kernel)
theorem d7_58 : ft 7 58 = some (.iconst (-1), 1, 59, 0, 0, 0, 0) := ftq_ok (by decide +kernel)
theorem d7_59 : ft 7 59 = some (.if_icmp .eq 18, 3, 62, 77, 0, 0, 0) := ftq_ok (by decide +kernel)
theorem d7_62 : ft 7 62 = some (.aload_n 0, 1, 63, 0, 0, 0, 0) := ftq_ok (by decide +kernel)
theorem d7_63 : ft 7 63 = some (.dup, 1, 64, 0, 0, 0, 0) := ftq_ok (by decide +kernel)
theorem d7_64 : ft 7 64 = some (.getfield 28, 3, 67, 1, 4, 0, 227) := ftq_ok (by decide +kernel)
theorem d7_67 : ft 7 67 = some (.aload_n 0, 1, 68, 0, 0, 0, 0) := ftq_ok (by decide +kernel)
theorem d7_68 : ft 7 68 = some (.getfield 18, 3, 71, 1, 1, 3, 224) := ftq_ok (by decide +kernel)
theorem d7_71 : ft 7 71 = some (.iload_n 3, 1, 72, 0, 0, 0, 0) := ftq_ok (by decide +kernel)
theorem d7_72 : ft 7 72 = some (.iaload, 1, 73, 0, 0, 0, 0) := ftq_ok (by decide +kernel)
theorem d7_73 : ft 7 73 = some (.iadd, 1, 74, 0, 0, 0, 0) := ftq_ok (by decide +kernel)
theorem d7_74 : ft 7 74 = some (.putfield 28, 3, 77, 1, 4, 0, 227) := ftq_ok (by decide +kernel)
theorem d7_77 : ft 7 77 = some (.iinc 3 1, 3, 80, 0, 0, 0, 0) := ftq_ok (by decide +kernel)
theorem d7_80 : ft 7 80 = some (.goto (-55), 3, 83, 25, 0, 0, 0) := ftq_ok (by decide +kernel)
theorem d7_83 : ft 7 83 = some (.aload_n 0, 1, 84, 0, 0, 0, 0) := ftq_ok (by decide +kernel)
theorem d7_84 : ft 7 84 = some (.aload_n 1, 1, 85, 0, 0, 0, 0) := ftq_ok (by decide +kernel)
theorem d7_85 : ft 7 85 = some (.getfield 48, 3, 88, 4, 2, 0, 96) := ftq_ok (by decide +kernel)
theorem d7_88 : ft 7 88 = some (.iload_n 2, 1, 89, 0, 0, 0, 0) := ftq_ok (by decide +kernel)
theorem d7_89 : ft 7 89 = some (.invokevirtual 51, 3, 92, 8, 2, 0, 554) := ftq_ok (by decide +kernel)
theorem d7_92 : ft 7 92 = some (.return_, 1, 93, 0, 0, 0, 0) := ftq_ok (by decide +kernel)
-- 8: Book_goOn
theorem d8_0 : ft 8 0 = some (.aload_n 0, 1, 1, 0, 0, 0, 0) := ftq_ok (by decide +kernel)
theorem d8_1 : ft 8 1 = some (.getfield 28, 3, 4, 1, 4, 0, 227) := ftq_ok (by decide +kernel)
theorem d8_4 : ft 8 4 = some (.aload_n 0, 1, 5, 0, 0, 0, 0) := ftq_ok (by decide +kernel)
theorem d8_5 : ft 8 5 = some (.getfield 12, 3, 8, 1, 0, 3, 223) := ftq_ok (by decide +kernel)
theorem d8_8 : ft 8 8 = some (.getfield 55, 3, 11, 5, 6, 0, 179) := ftq_ok (by decide +kernel)
theorem d8_11 : ft 8 11 = some (.iload_n 1, 1, 12, 0, 0, 0, 0) := ftq_ok (by decide +kernel)
theorem d8_12 : ft 8 12 = some (.isub, 1, 13, 0, 0, 0, 0) := ftq_ok (by decide +kernel)
theorem d8_13 : ft 8 13 = some (.if_icmp .le 4, 3, 16, 17, 0, 0, 0) := ftq_ok (by decide +kernel)
theorem d8_16 : ft 8 16 = some (.return_, 1, 17, 0, 0, 0, 0) := ftq_ok (by decide +kernel)
theorem d8_17 : ft 8 17 = some (.iload_n 1, 1, 18, 0, 0, 0, 0) := ftq_ok (by decide +kernel)
theorem d8_18 : ft 8 18 = some (.aload_n 0, 1, 19, 0, 0, 0, 0) := ftq_ok (by decide +kernel)
theorem d8_19 : ft 8 19 = some (.getfield 12, 3, 22, 1, 0, 3, 223) := ftq_ok (by decide +kernel)
theorem d8_22 : ft 8 22 = some (.getfield 55, 3, 25, 5, 6, 0, 179) := ftq_ok (by decide +kernel)
theorem d8_25 : ft 8 25 = some (.if_icmp .lt 33, 3, 28, 58, 0, 0, 0) := ftq_ok (by decide +kernel)
theorem d8_28 : ft 8 28 = some (.iload_n 2, 1, 29, 0, 0, 0, 0) := ftq_ok (by decide +kernel)
theorem d8_29 : ft 8 29 = some (.ifCond .lt 18, 3, 32, 47, 0, 0, 0) := ftq_ok (by decide +kernel)
theorem d8_32 : ft 8 32 = some (.iload_n 2, 1, 33, 0, 0, 0, 0) := ftq_ok (by decide +kernel)
theorem d8_33 : ft 8 33 = some (.iload_n 1, 1, 34, 0, 0, 0, 0) := ftq_ok (by decide +kernel)
theorem d8_34 : ft 8 34 = some (.if_icmp .ge 13, 3, 37, 47, 0, 0, 0) := ftq_ok (by decide +kernel)
theorem d8_37 : ft 8 37 = some (.aload_n 0, 1, 38, 0, 0, 0, 0) := ftq_ok (by decide +kernel)
theorem d8_38 : ft 8 38 = some (.aload_n 0, 1, 39, 0, 0, 0, 0) := ftq_ok (by decide +kernel)
theorem d8_39 : ft 8 39 = some (.getfield 25, 3, 42, 1, 3, 3, 226) := ftq_ok (by decide +kernel)
theorem d8_42 : ft 8 42 = some (.iload_n 2, 1, 43, 0, 0, 0, 0) := ftq_ok (by decide +kernel)
theorem d8_43 : ft 8 43 = some (.iaload, 1, 44, 0, 0, 0, 0) := ftq_ok (by decide +kernel)
theorem d8_44 : ft 8 44 = some (.invokevirtual 58, 3, 47, 10, 1, 0, 558) := ftq_ok (by decide +kernel)
theorem d8_47 : ft 8 47 = some (.aload_n 0, 1, 48, 0, 0, 0, 0) := ftq_ok (by decide +kernel)
theorem d8_48 : ft 8 48 = some (.dup, 1, 49, 0, 0, 0, 0) := ftq_ok (by decide +kernel)
theorem d8_49 : ft 8 49 = some (.getfield 32, 3, 52, 1, 5, 0, 228) := ftq_ok (by decide +kernel)
theorem d8_52 : ft 8 52 = some (.iconst 1, 1, 53, 0, 0, 0, 0) := ftq_ok (by decide +kernel)
theorem d8_53 : ft 8 53 = some (.iadd, 1, 54, 0, 0, 0, 0) := ftq_ok (by decide +kernel)
theorem d8_54 : ft 8 54 = some (.putfield 32, 3, 57, 1, 5, 0, 228) := ftq_ok (by decide +kernel)
theorem d8_57 : ft 8 57 = some (.return_, 1, 58, 0, 0, 0, 0) := ftq_ok (by decide +kernel)
theorem d8_58 : ft 8 58 = some (.iconst 0, 1, 59, 0, 0, 0, 0) := ftq_ok (by decide +kernel)
theorem d8_59 : ft 8 59 = some (.istore_n 3, 1, 60, 0, 0, 0, 0) := ftq_ok (by decide +kernel)
theorem d8_60 : ft 8 60 = some (.iload_n 3, 1, 61, 0, 0, 0, 0) := ftq_ok (by decide +kernel)
theorem d8_61 : ft 8 61 = some (.aload_n 0, 1, 62, 0, 0, 0, 0) := ftq_ok (by decide +kernel)
theorem d8_62 : ft 8 62 = some (.getfield 12, 3, 65, 1, 0, 3, 223) := ftq_ok (by decide +kernel)
theorem d8_65 : ft 8 65 = some (.getfield 62, 3, 68, 5, 4, 0, 176) := ftq_ok (by decide +kernel)
theorem d8_68 : ft 8 68 = some (.if_icmp .ge 16, 3, 71, 84, 0, 0, 0) := ftq_ok (by decide +kernel)
theorem d8_71 : ft 8 71 = some (.aload_n 0, 1, 72, 0, 0, 0, 0) := ftq_ok (by decide +kernel)
theorem d8_72 : ft 8 72 = some (.iload_n 1, 1, 73, 0, 0, 0, 0) := ftq_ok (by decide +kernel)
theorem d8_73 : ft 8 73 = some (.iload_n 3, 1, 74, 0, 0, 0, 0) := ftq_ok (by decide +kernel)
theorem d8_74 : ft 8 74 = some (.iload_n 2, 1, 75, 0, 0, 0, 0) := ftq_ok (by decide +kernel)
theorem d8_75 : ft 8 75 = some (.invokevirtual 63, 3, 78, 9, 3, 0, 562) := ftq_ok (by decide +kernel)
theorem d8_78 : ft 8 78 = some (.iinc 3 1, 3, 81, 0, 0, 0, 0) := ftq_ok (by decide +kernel)
theorem d8_81 : ft 8 81 = some (.goto (-21), 3, 84, 60, 0, 0, 0) := ftq_ok (by decide +kernel)
theorem d8_84 : ft 8 84 = some (.return_, 1, 85, 0, 0, 0, 0) := ftq_ok (by decide +kernel)
-- 9: Book_step
theorem d9_0 : ft 9 0 = some (.aload_n 0, 1, 1, 0, 0, 0, 0) := ftq_ok (by decide +kernel)
theorem d9_1 : ft 9 1 = some (.getfield 22, 3, 4, 1, 2, 3, 225) := ftq_ok (by decide +kernel)
theorem d9_4 : ft 9 4 = some (.iload_n 2, 1, 5, 0, 0, 0, 0) := ftq_ok (by decide +kernel)
theorem d9_5 : ft 9 5 = some (.iaload, 1, 6, 0, 0, 0, 0) := ftq_ok (by decide +kernel)
theorem d9_6 : ft 9 6 = some (.aload_n 0, 1, 7, 0, 0, 0, 0) := ftq_ok (by decide +kernel)
theorem d9_7 : ft 9 7 = some (.getfield 18, 3, 10, 1, 1, 3, 224) := ftq_ok (by decide +kernel)
theorem d9_10 : ft 9 10 = some (.iload_n 2, 1, 11, 0, 0, 0, 0) := ftq_ok (by decide +kernel)
theorem d9_11 : ft 9 11 = some (.iaload, 1, 12, 0, 0, 0, 0) := ftq_ok (by decide +kernel)
theorem d9_12 : ft 9 12 = some (.if_icmp .eq 16, 3, 15, 28, 0, 0, 0) := ftq_ok (by decide +kernel)
theorem d9_15 : ft 9 15 = some (.aload_n 0, 1, 16, 0, 0, 0, 0) := ftq_ok (by decide +kernel)
theorem d9_16 : ft 9 16 = some (.getfield 12, 3, 19, 1, 0, 3, 223) := ftq_ok (by decide +kernel)
theorem d9_19 : ft 9 19 = some (.iload_n 1, 1, 20, 0, 0, 0, 0) := ftq_ok (by decide +kernel)
theorem d9_20 : ft 9 20 = some (.iload_n 2, 1, 21, 0, 0, 0, 0) := ftq_ok (by decide +kernel)
theorem d9_21 : ft 9 21 = some (.invokevirtual 67, 3, 24, 47, 2, 0, 566) := ftq_ok (by decide +kernel)
theorem d9_24 : ft 9 24 = some (.iconst (-1), 1, 25, 0, 0, 0, 0) := ftq_ok (by decide +kernel)
theorem d9_25 : ft 9 25 = some (.if_icmp .ne 4, 3, 28, 29, 0, 0, 0) := ftq_ok (by decide +kernel)
theorem d9_28 : ft 9 28 = some (.return_, 1, 29, 0, 0, 0, 0) := ftq_ok (by decide +kernel)
theorem d9_29 : ft 9 29 = some (.aload_n 0, 1, 30, 0, 0, 0, 0) := ftq_ok (by decide +kernel)
theorem d9_30 : ft 9 30 = some (.getfield 18, 3, 33, 1, 1, 3, 224) := ftq_ok (by decide +kernel)
theorem d9_33 : ft 9 33 = some (.iload_n 2, 1, 34, 0, 0, 0, 0) := ftq_ok (by decide +kernel)
theorem d9_34 : ft 9 34 = some (.iaload, 1, 35, 0, 0, 0, 0) := ftq_ok (by decide +kernel)
theorem d9_35 : ft 9 35 = some (.iconst (-1), 1, 36, 0, 0, 0, 0) := ftq_ok (by decide +kernel)
theorem d9_36 : ft 9 36 = some (.if_icmp .ne 7, 3, 39, 43, 0, 0, 0) := ftq_ok (by decide +kernel)
theorem d9_39 : ft 9 39 = some (.iconst 0, 1, 40, 0, 0, 0, 0) := ftq_ok (by decide +kernel)
theorem d9_40 : ft 9 40 = some (.goto 4, 3, 43, 44, 0, 0, 0) := ftq_ok (by decide +kernel)
theorem d9_43 : ft 9 43 = some (.iconst 1, 1, 44, 0, 0, 0, 0) := ftq_ok (by decide +kernel)
theorem d9_44 : ft 9 44 = some (.istore 4, 2, 46, 0, 0, 0, 0) := ftq_ok (by decide +kernel)
theorem d9_46 : ft 9 46 = some (.aload_n 0, 1, 47, 0, 0, 0, 0) := ftq_ok (by decide +kernel)
theorem d9_47 : ft 9 47 = some (.getfield 25, 3, 50, 1, 3, 3, 226) := ftq_ok (by decide +kernel)
theorem d9_50 : ft 9 50 = some (.iload_n 1, 1, 51, 0, 0, 0, 0) := ftq_ok (by decide +kernel)
theorem d9_51 : ft 9 51 = some (.iload_n 2, 1, 52, 0, 0, 0, 0) := ftq_ok (by decide +kernel)
theorem d9_52 : ft 9 52 = some (.iastore, 1, 53, 0, 0, 0, 0) := ftq_ok (by decide +kernel)
theorem d9_53 : ft 9 53 = some (.aload_n 0, 1, 54, 0, 0, 0, 0) := ftq_ok (by decide +kernel)
theorem d9_54 : ft 9 54 = some (.getfield 22, 3, 57, 1, 2, 3, 225) := ftq_ok (by decide +kernel)
theorem d9_57 : ft 9 57 = some (.iload_n 2, 1, 58, 0, 0, 0, 0) := ftq_ok (by decide +kernel)
theorem d9_58 : ft 9 58 = some (.dup2, 1, 59, 0, 0, 0, 0) := ftq_ok (by decide +kernel)
theorem d9_59 : ft 9 59 = some (.iaload, 1, 60, 0, 0, 0, 0) := ftq_ok (by decide +kernel)
theorem d9_60 : ft 9 60 = some (.iconst 1, 1, 61, 0, 0, 0, 0) := ftq_ok (by decide +kernel)
theorem d9_61 : ft 9 61 = some (.iadd, 1, 62, 0, 0, 0, 0) := ftq_ok (by decide +kernel)
theorem d9_62 : ft 9 62 = some (.iastore, 1, 63, 0, 0, 0, 0) := ftq_ok (by decide +kernel)
theorem d9_63 : ft 9 63 = some (.aload_n 0, 1, 64, 0, 0, 0, 0) := ftq_ok (by decide +kernel)
theorem d9_64 : ft 9 64 = some (.dup, 1, 65, 0, 0, 0, 0) := ftq_ok (by decide +kernel)
theorem d9_65 : ft 9 65 = some (.getfield 28, 3, 68, 1, 4, 0, 227) := ftq_ok (by decide +kernel)
theorem d9_68 : ft 9 68 = some (.iload 4, 2, 70, 0, 0, 0, 0) := ftq_ok (by decide +kernel)
theorem d9_70 : ft 9 70 = some (.isub, 1, 71, 0, 0, 0, 0) := ftq_ok (by decide +kernel)
theorem d9_71 : ft 9 71 = some (.putfield 28, 3, 74, 1, 4, 0, 227) := ftq_ok (by decide +kernel)
theorem d9_74 : ft 9 74 = some (.aload_n 0, 1, 75, 0, 0, 0, 0) := ftq_ok (by decide +kernel)
theorem d9_75 : ft 9 75 = some (.iload_n 1, 1, 76, 0, 0, 0, 0) := ftq_ok (by decide +kernel)
theorem d9_76 : ft 9 76 = some (.iconst 1, 1, 77, 0, 0, 0, 0) := ftq_ok (by decide +kernel)
theorem d9_77 : ft 9 77 = some (.iadd, 1, 78, 0, 0, 0, 0) := ftq_ok (by decide +kernel)
theorem d9_78 : ft 9 78 = some (.iload_n 3, 1, 79, 0, 0, 0, 0) := ftq_ok (by decide +kernel)
theorem d9_79 : ft 9 79 = some (.invokevirtual 51, 3, 82, 8, 2, 0, 554) := ftq_ok (by decide +kernel)
theorem d9_82 : ft 9 82 = some (.aload_n 0, 1, 83, 0, 0, 0, 0) := ftq_ok (by decide +kernel)
theorem d9_83 : ft 9 83 = some (.dup, 1, 84, 0, 0, 0, 0) := ftq_ok (by decide +kernel)
theorem d9_84 : ft 9 84 = some (.getfield 28, 3, 87, 1, 4, 0, 227) := ftq_ok (by decide +kernel)
theorem d9_87 : ft 9 87 = some (.iload 4, 2, 89, 0, 0, 0, 0) := ftq_ok (by decide +kernel)
theorem d9_89 : ft 9 89 = some (.iadd, 1, 90, 0, 0, 0, 0) := ftq_ok (by decide +kernel)
theorem d9_90 : ft 9 90 = some (.putfield 28, 3, 93, 1, 4, 0, 227) := ftq_ok (by decide +kernel)
theorem d9_93 : ft 9 93 = some (.aload_n 0, 1, 94, 0, 0, 0, 0) := ftq_ok (by decide +kernel)
theorem d9_94 : ft 9 94 = some (.getfield 22, 3, 97, 1, 2, 3, 225) := ftq_ok (by decide +kernel)
theorem d9_97 : ft 9 97 = some (.iload_n 2, 1, 98, 0, 0, 0, 0) := ftq_ok (by decide +kernel)
theorem d9_98 : ft 9 98 = some (.dup2, 1, 99, 0, 0, 0, 0) := ftq_ok (by decide +kernel)
theorem d9_99 : ft 9 99 = some (.iaload, 1, 100, 0, 0, 0, 0) := ftq_ok (by decide +kernel)
theorem d9_100 : ft 9 100 = some (.iconst 1, 1, 101, 0, 0, 0, 0) := ftq_ok (by decide +kernel)
theorem d9_101 : ft 9 101 = some (.isub, 1, 102, 0, 0, 0, 0) := ftq_ok (by decide +kernel)
theorem d9_102 : ft 9 102 = some (.iastore, 1, 103, 0, 0, 0, 0) := ftq_ok (by decide +kernel)
theorem d9_103 : ft 9 103 = some (.return_, 1, 104, 0, 0, 0, 0) := ftq_ok (by decide +kernel)
-- 10: Book_note
theorem d10_0 : ft 10 0 = some (.aload_n 0, 1, 1, 0, 0, 0, 0) := ftq_ok (by decide +kernel)
theorem d10_1 : ft 10 1 = some (.getfield 32, 3, 4, 1, 5, 0, 228) := ftq_ok (by decide +kernel)
theorem d10_4 : ft 10 4 = some (.ifCond .ne 11, 3, 7, 15, 0, 0, 0) := ftq_ok (by decide +kernel)
theorem d10_7 : ft 10 7 = some (.aload_n 0, 1, 8, 0, 0, 0, 0) := ftq_ok (by decide +kernel)
theorem d10_8 : ft 10 8 = some (.iload_n 1, 1, 9, 0, 0, 0, 0) := ftq_ok (by decide +kernel)
theorem d10_9 : ft 10 9 = some (.putfield 35, 3, 12, 1, 6, 0, 230) := ftq_ok (by decide +kernel)
theorem d10_12 : ft 10 12 = some (.goto 16, 3, 15, 28, 0, 0, 0) := ftq_ok (by decide +kernel)
theorem d10_15 : ft 10 15 = some (.aload_n 0, 1, 16, 0, 0, 0, 0) := ftq_ok (by decide +kernel)
theorem d10_16 : ft 10 16 = some (.getfield 35, 3, 19, 1, 6, 0, 230) := ftq_ok (by decide +kernel)
theorem d10_19 : ft 10 19 = some (.iload_n 1, 1, 20, 0, 0, 0, 0) := ftq_ok (by decide +kernel)
theorem d10_20 : ft 10 20 = some (.if_icmp .eq 8, 3, 23, 28, 0, 0, 0) := ftq_ok (by decide +kernel)
theorem d10_23 : ft 10 23 = some (.aload_n 0, 1, 24, 0, 0, 0, 0) := ftq_ok (by decide +kernel)
theorem d10_24 : ft 10 24 = some (.iconst (-1), 1, 25, 0, 0, 0, 0) := ftq_ok (by decide +kernel)
theorem d10_25 : ft 10 25 = some (.putfield 35, 3, 28, 1, 6, 0, 230) := ftq_ok (by decide +kernel)
theorem d10_28 : ft 10 28 = some (.return_, 1, 29, 0, 0, 0, 0) := ftq_ok (by decide +kernel)
-- 11: Page_init
theorem d11_0 : ft 11 0 = some (.aload_n 0, 1, 1, 0, 0, 0, 0) := ftq_ok (by decide +kernel)
theorem d11_1 : ft 11 1 = some (.invokespecial 3, 3, 4, 0, 0, 4, 69) := ftq_ok (by decide +kernel)
theorem d11_4 : ft 11 4 = some (.aload_n 0, 1, 5, 0, 0, 0, 0) := ftq_ok (by decide +kernel)
theorem d11_5 : ft 11 5 = some (.bipush 10, 2, 7, 0, 0, 0, 0) := ftq_ok (by decide +kernel)
theorem d11_7 : ft 11 7 = some (.newarray .int, 2, 9, 0, 0, 0, 0) := ftq_ok (by decide +kernel)
theorem d11_9 : ft 11 9 = some (.putfield 9, 3, 12, 2, 0, 3, 70) := ftq_ok (by decide +kernel)
theorem d11_12 : ft 11 12 = some (.aload_n 0, 1, 13, 0, 0, 0, 0) := ftq_ok (by decide +kernel)
theorem d11_13 : ft 11 13 = some (.iconst 0, 1, 14, 0, 0, 0, 0) := ftq_ok (by decide +kernel)
theorem d11_14 : ft 11 14 = some (.putfield 15, 3, 17, 2, 1, 0, 72) := ftq_ok (by decide +kernel)
theorem d11_17 : ft 11 17 = some (.return_, 1, 18, 0, 0, 0, 0) := ftq_ok (by decide +kernel)
-- 12: Page_append
theorem d12_0 : ft 12 0 = some (.aload_n 0, 1, 1, 0, 0, 0, 0) := ftq_ok (by decide +kernel)
theorem d12_1 : ft 12 1 = some (.getfield 15, 3, 4, 2, 1, 0, 72) := ftq_ok (by decide +kernel)
theorem d12_4 : ft 12 4 = some (.bipush 10, 2, 6, 0, 0, 0, 0) := ftq_ok (by decide +kernel)
theorem d12_6 : ft 12 6 = some (.if_icmp .lt 4, 3, 9, 10, 0, 0, 0) := ftq_ok (by decide +kernel)
theorem d12_9 : ft 12 9 = some (.return_, 1, 10, 0, 0, 0, 0) := ftq_ok (by decide +kernel)
theorem d12_10 : ft 12 10 = some (.aload_n 0, 1, 11, 0, 0, 0, 0) := ftq_ok (by decide +kernel)
theorem d12_11 : ft 12 11 = some (.getfield 9, 3, 14, 2, 0, 3, 70) := ftq_ok (by decide +kernel)
theorem d12_14 : ft 12 14 = some (.aload_n 0, 1, 15, 0, 0, 0, 0) := ftq_ok (by decide +kernel)
theorem d12_15 : ft 12 15 = some (.getfield 15, 3, 18, 2, 1, 0, 72) := ftq_ok (by decide +kernel)
theorem d12_18 : ft 12 18 = some (.iload_n 1, 1, 19, 0, 0, 0, 0) := ftq_ok (by decide +kernel)
theorem d12_19 : ft 12 19 = some (.iastore, 1, 20, 0, 0, 0, 0) := ftq_ok (by decide +kernel)
theorem d12_20 : ft 12 20 = some (.aload_n 0, 1, 21, 0, 0, 0, 0) := ftq_ok (by decide +kernel)
theorem d12_21 : ft 12 21 = some (.dup, 1, 22, 0, 0, 0, 0) := ftq_ok (by decide +kernel)
theorem d12_22 : ft 12 22 = some (.getfield 15, 3, 25, 2, 1, 0, 72) := ftq_ok (by decide +kernel)
theorem d12_25 : ft 12 25 = some (.iconst 1, 1, 26, 0, 0, 0, 0) := ftq_ok (by decide +kernel)
theorem d12_26 : ft 12 26 = some (.iadd, 1, 27, 0, 0, 0, 0) := ftq_ok (by decide +kernel)
theorem d12_27 : ft 12 27 = some (.putfield 15, 3, 30, 2, 1, 0, 72) := ftq_ok (by decide +kernel)
theorem d12_30 : ft 12 30 = some (.return_, 1, 31, 0, 0, 0, 0) := ftq_ok (by decide +kernel)
-- 13: Page_firstWrongPlace
theorem d13_0 : ft 13 0 = some (.iconst (-1), 1, 1, 0, 0, 0, 0) := ftq_ok (by decide +kernel)
theorem d13_1 : ft 13 1 = some (.istore_n 1, 1, 2, 0, 0, 0, 0) := ftq_ok (by decide +kernel)
theorem d13_2 : ft 13 2 = some (.iconst 0, 1, 3, 0, 0, 0, 0) := ftq_ok (by decide +kernel)
theorem d13_3 : ft 13 3 = some (.istore_n 2, 1, 4, 0, 0, 0, 0) := ftq_ok (by decide +kernel)
theorem d13_4 : ft 13 4 = some (.iload_n 2, 1, 5, 0, 0, 0, 0) := ftq_ok (by decide +kernel)
theorem d13_5 : ft 13 5 = some (.aload_n 0, 1, 6, 0, 0, 0, 0) := ftq_ok (by decide +kernel)
theorem d13_6 : ft 13 6 = some (.getfield 15, 3, 9, 2, 1, 0, 72) := ftq_ok (by decide +kernel)
theorem d13_9 : ft 13 9 = some (.if_icmp .ge 76, 3, 12, 85, 0, 0, 0) := ftq_ok (by decide +kernel)
theorem d13_12 : ft 13 12 = some (.aload_n 0, 1, 13, 0, 0, 0, 0) := ftq_ok (by decide +kernel)
theorem d13_13 : ft 13 13 = some (.getfield 9, 3, 16, 2, 0, 3, 70) := ftq_ok (by decide +kernel)
theorem d13_16 : ft 13 16 = some (.iload_n 2, 1, 17, 0, 0, 0, 0) := ftq_ok (by decide +kernel)
theorem d13_17 : ft 13 17 = some (.iaload, 1, 18, 0, 0, 0, 0) := ftq_ok (by decide +kernel)
theorem d13_18 : ft 13 18 = some (.bipush 48, 2, 20, 0, 0, 0, 0) := ftq_ok (by decide +kernel)
theorem d13_20 : ft 13 20 = some (.if_icmp .lt 18, 3, 23, 38, 0, 0, 0) := ftq_ok (by decide +kernel)
theorem d13_23 : ft 13 23 = some (.aload_n 0, 1, 24, 0, 0, 0, 0) := ftq_ok (by decide +kernel)
theorem d13_24 : ft 13 24 = some (.getfield 9, 3, 27, 2, 0, 3, 70) := ftq_ok (by decide +kernel)
theorem d13_27 : ft 13 27 = some (.iload_n 2, 1, 28, 0, 0, 0, 0) := ftq_ok (by decide +kernel)
theorem d13_28 : ft 13 28 = some (.iaload, 1, 29, 0, 0, 0, 0) := ftq_ok (by decide +kernel)
theorem d13_29 : ft 13 29 = some (.bipush 57, 2, 31, 0, 0, 0, 0) := ftq_ok (by decide +kernel)
theorem d13_31 : ft 13 31 = some (.if_icmp .gt 7, 3, 34, 38, 0, 0, 0) := ftq_ok (by decide +kernel)
theorem d13_34 : ft 13 34 = some (.iconst 1, 1, 35, 0, 0, 0, 0) := ftq_ok (by decide +kernel)
theorem d13_35 : ft 13 35 = some (.goto 4, 3, 38, 39, 0, 0, 0) := ftq_ok (by decide +kernel)
theorem d13_38 : ft 13 38 = some (.iconst 0, 1, 39, 0, 0, 0, 0) := ftq_ok (by decide +kernel)
theorem d13_39 : ft 13 39 = some (.istore_n 3, 1, 40, 0, 0, 0, 0) := ftq_ok (by decide +kernel)
theorem d13_40 : ft 13 40 = some (.iload_n 1, 1, 41, 0, 0, 0, 0) := ftq_ok (by decide +kernel)
theorem d13_41 : ft 13 41 = some (.iconst (-1), 1, 42, 0, 0, 0, 0) := ftq_ok (by decide +kernel)
theorem d13_42 : ft 13 42 = some (.if_icmp .ne 23, 3, 45, 65, 0, 0, 0) := ftq_ok (by decide +kernel)
theorem d13_45 : ft 13 45 = some (.aload_n 0, 1, 46, 0, 0, 0, 0) := ftq_ok (by decide +kernel)
theorem d13_46 : ft 13 46 = some (.getfield 9, 3, 49, 2, 0, 3, 70) := ftq_ok (by decide +kernel)
theorem d13_49 : ft 13 49 = some (.iload_n 2, 1, 50, 0, 0, 0, 0) := ftq_ok (by decide +kernel)
theorem d13_50 : ft 13 50 = some (.iaload, 1, 51, 0, 0, 0, 0) := ftq_ok (by decide +kernel)
theorem d13_51 : ft 13 51 = some (.bipush 59, 2, 53, 0, 0, 0, 0) := ftq_ok (by decide +kernel)
theorem d13_53 : ft 13 53 = some (.if_icmp .ne 12, 3, 56, 65, 0, 0, 0) := ftq_ok (by decide +kernel)
theorem d13_56 : ft 13 56 = some (.iload_n 2, 1, 57, 0, 0, 0, 0) := ftq_ok (by decide +kernel)
theorem d13_57 : ft 13 57 = some (.ifCond .le 8, 3, 60, 65, 0, 0, 0) := ftq_ok (by decide +kernel)
theorem d13_60 : ft 13 60 = some (.iload_n 2, 1, 61, 0, 0, 0, 0) := ftq_ok (by decide +kernel)
theorem d13_61 : ft 13 61 = some (.istore_n 1, 1, 62, 0, 0, 0, 0) := ftq_ok (by decide +kernel)
theorem d13_62 : ft 13 62 = some (.goto 17, 3, 65, 79, 0, 0, 0) := ftq_ok (by decide +kernel)
theorem d13_65 : ft 13 65 = some (.iload_n 3, 1, 66, 0, 0, 0, 0) := ftq_ok (by decide +kernel)
theorem d13_66 : ft 13 66 = some (.ifCond .eq 11, 3, 69, 77, 0, 0, 0) := ftq_ok (by decide +kernel)
theorem d13_69 : ft 13 69 = some (.iload_n 2, 1, 70, 0, 0, 0, 0) := ftq_ok (by decide +kernel)
theorem d13_70 : ft 13 70 = some (.iload_n 1, 1, 71, 0, 0, 0, 0) := ftq_ok (by decide +kernel)
theorem d13_71 : ft 13 71 = some (.invokestatic 19, 3, 74, 14, 1, 1, 328) := ftq_ok (by decide +kernel)
theorem d13_74 : ft 13 74 = some (.if_icmp .lt 5, 3, 77, 79, 0, 0, 0) := ftq_ok (by decide +kernel)
theorem d13_77 : ft 13 77 = some (.iload_n 2, 1, 78, 0, 0, 0, 0) := ftq_ok (by decide +kernel)
theorem d13_78 : ft 13 78 = some (.ireturn, 1, 79, 0, 0, 0, 0) := ftq_ok (by decide +kernel)
theorem d13_79 : ft 13 79 = some (.iinc 2 1, 3, 82, 0, 0, 0, 0) := ftq_ok (by decide +kernel)
theorem d13_82 : ft 13 82 = some (.goto (-78), 3, 85, 4, 0, 0, 0) := ftq_ok (by decide +kernel)
theorem d13_85 : ft 13 85 = some (.aload_n 0, 1, 86, 0, 0, 0, 0) := ftq_ok (by decide +kernel)
theorem d13_86 : ft 13 86 = some (.getfield 15, 3, 89, 2, 1, 0, 72) := ftq_ok (by decide +kernel)
theorem d13_89 : ft 13 89 = some (.ireturn, 1, 90, 0, 0, 0, 0) := ftq_ok (by decide +kernel)
-- 14: Page_placesForDigits
theorem d14_0 : ft 14 0 = some (.iload_n 0, 1, 1, 0, 0, 0, 0) := ftq_ok (by decide +kernel)
theorem d14_1 : ft 14 1 = some (.iconst (-1), 1, 2, 0, 0, 0, 0) := ftq_ok (by decide +kernel)
theorem d14_2 : ft 14 2 = some (.if_icmp .ne 8, 3, 5, 10, 0, 0, 0) := ftq_ok (by decide +kernel)
theorem d14_5 : ft 14 5 = some (.bipush 6, 2, 7, 0, 0, 0, 0) := ftq_ok (by decide +kernel)
theorem d14_7 : ft 14 7 = some (.goto 6, 3, 10, 13, 0, 0, 0) := ftq_ok (by decide +kernel)
theorem d14_10 : ft 14 10 = some (.iload_n 0, 1, 11, 0, 0, 0, 0) := ftq_ok (by decide +kernel)
theorem d14_11 : ft 14 11 = some (.iconst 2, 1, 12, 0, 0, 0, 0) := ftq_ok (by decide +kernel)
theorem d14_12 : ft 14 12 = some (.iadd, 1, 13, 0, 0, 0, 0) := ftq_ok (by decide +kernel)
theorem d14_13 : ft 14 13 = some (.ireturn, 1, 14, 0, 0, 0, 0) := ftq_ok (by decide +kernel)
-- 15: Page_isSlope
theorem d15_0 : ft 15 0 = some (.aload_n 0, 1, 1, 0, 0, 0, 0) := ftq_ok (by decide +kernel)
theorem d15_1 : ft 15 1 = some (.getfield 15, 3, 4, 2, 1, 0, 72) := ftq_ok (by decide +kernel)
theorem d15_4 : ft 15 4 = some (.iconst 3, 1, 5, 0, 0, 0, 0) := ftq_ok (by decide +kernel)
theorem d15_5 : ft 15 5 = some (.if_icmp .lt 34, 3, 8, 39, 0, 0, 0) := ftq_ok (by decide +kernel)
theorem d15_8 : ft 15 8 = some (.aload_n 0, 1, 9, 0, 0, 0, 0) := ftq_ok (by decide +kernel)
theorem d15_9 : ft 15 9 = some (.getfield 9, 3, 12, 2, 0, 3, 70) := ftq_ok (by decide +kernel)
theorem d15_12 : ft 15 12 = some (.aload_n 0, 1, 13, 0, 0, 0, 0) := ftq_ok (by decide +kernel)
theorem d15_13 : ft 15 13 = some (.getfield 15, 3, 16, 2, 1, 0, 72) := ftq_ok (by decide +kernel)
theorem d15_16 : ft 15 16 = some (.iconst 2, 1, 17, 0, 0, 0, 0) := ftq_ok (by decide +kernel)
theorem d15_17 : ft 15 17 = some (.isub, 1, 18, 0, 0, 0, 0) := ftq_ok (by decide +kernel)
theorem d15_18 : ft 15 18 = some (.iaload, 1, 19, 0, 0, 0, 0) := ftq_ok (by decide +kernel)
theorem d15_19 : ft 15 19 = some (.bipush 59, 2, 21, 0, 0, 0, 0) := ftq_ok (by decide +kernel)
theorem d15_21 : ft 15 21 = some (.if_icmp .ne 18, 3, 24, 39, 0, 0, 0) := ftq_ok (by decide +kernel)
theorem d15_24 : ft 15 24 = some (.aload_n 0, 1, 25, 0, 0, 0, 0) := ftq_ok (by decide +kernel)
theorem d15_25 : ft 15 25 = some (.invokevirtual 23, 3, 28, 13, 0, 0, 339) := ftq_ok (by decide +kernel)
theorem d15_28 : ft 15 28 = some (.aload_n 0, 1, 29, 0, 0, 0, 0) := ftq_ok (by decide +kernel)
theorem d15_29 : ft 15 29 = some (.getfield 15, 3, 32, 2, 1, 0, 72) := ftq_ok (by decide +kernel)
theorem d15_32 : ft 15 32 = some (.if_icmp .ne 7, 3, 35, 39, 0, 0, 0) := ftq_ok (by decide +kernel)
theorem d15_35 : ft 15 35 = some (.iconst 1, 1, 36, 0, 0, 0, 0) := ftq_ok (by decide +kernel)
theorem d15_36 : ft 15 36 = some (.goto 4, 3, 39, 40, 0, 0, 0) := ftq_ok (by decide +kernel)
theorem d15_39 : ft 15 39 = some (.iconst 0, 1, 40, 0, 0, 0, 0) := ftq_ok (by decide +kernel)
theorem d15_40 : ft 15 40 = some (.ireturn, 1, 41, 0, 0, 0, 0) := ftq_ok (by decide +kernel)
-- 16: Page_digitAt
theorem d16_0 : ft 16 0 = some (.iload_n 1, 1, 1, 0, 0, 0, 0) := ftq_ok (by decide +kernel)
theorem d16_1 : ft 16 1 = some (.ifCond .lt 23, 3, 4, 24, 0, 0, 0) := ftq_ok (by decide +kernel)
theorem d16_4 : ft 16 4 = some (.iload_n 1, 1, 5, 0, 0, 0, 0) := ftq_ok (by decide +kernel)
theorem d16_5 : ft 16 5 = some (.aload_n 0, 1, 6, 0, 0, 0, 0) := ftq_ok (by decide +kernel)
theorem d16_6 : ft 16 6 = some (.getfield 15, 3, 9, 2, 1, 0, 72) := ftq_ok (by decide +kernel)
theorem d16_9 : ft 16 9 = some (.if_icmp .ge 15, 3, 12, 24, 0, 0, 0) := ftq_ok (by decide +kernel)
theorem d16_12 : ft 16 12 = some (.aload_n 0, 1, 13, 0, 0, 0, 0) := ftq_ok (by decide +kernel)
theorem d16_13 : ft 16 13 = some (.getfield 9, 3, 16, 2, 0, 3, 70) := ftq_ok (by decide +kernel)
theorem d16_16 : ft 16 16 = some (.iload_n 1, 1, 17, 0, 0, 0, 0) := ftq_ok (by decide +kernel)
theorem d16_17 : ft 16 17 = some (.iaload, 1, 18, 0, 0, 0, 0) := ftq_ok (by decide +kernel)
theorem d16_18 : ft 16 18 = some (.bipush 48, 2, 20, 0, 0, 0, 0) := ftq_ok (by decide +kernel)
theorem d16_20 : ft 16 20 = some (.isub, 1, 21, 0, 0, 0, 0) := ftq_ok (by decide +kernel)
theorem d16_21 : ft 16 21 = some (.goto 4, 3, 24, 25, 0, 0, 0) := ftq_ok (by decide +kernel)
theorem d16_24 : ft 16 24 = some (.iconst 0, 1, 25, 0, 0, 0, 0) := ftq_ok (by decide +kernel)
theorem d16_25 : ft 16 25 = some (.ireturn, 1, 26, 0, 0, 0, 0) := ftq_ok (by decide +kernel)
-- 17: Set_init
theorem d17_0 : ft 17 0 = some (.aload_n 0, 1, 1, 0, 0, 0, 0) := ftq_ok (by decide +kernel)
theorem d17_1 : ft 17 1 = some (.invokespecial 3, 3, 4, 0, 0, 4, 252) := ftq_ok (by decide +kernel)
theorem d17_4 : ft 17 4 = some (.aload_n 0, 1, 5, 0, 0, 0, 0) := ftq_ok (by decide +kernel)
theorem d17_5 : ft 17 5 = some (.new 9, 3, 8, 4, 13, 0, 253) := ftq_ok (by decide +kernel)
theorem d17_8 : ft 17 8 = some (.dup, 1, 9, 0, 0, 0, 0) := ftq_ok (by decide +kernel)
theorem d17_9 : ft 17 9 = some (.invokespecial 11, 3, 12, 23, 0, 3, 254) := ftq_ok (by decide +kernel)
theorem d17_12 : ft 17 12 = some (.putfield 12, 3, 15, 3, 0, 3, 255) := ftq_ok (by decide +kernel)
theorem d17_15 : ft 17 15 = some (.aload_n 0, 1, 16, 0, 0, 0, 0) := ftq_ok (by decide +kernel)
theorem d17_16 : ft 17 16 = some (.iconst 5, 1, 17, 0, 0, 0, 0) := ftq_ok (by decide +kernel)
theorem d17_17 : ft 17 17 = some (.newarray .boolean, 2, 19, 0, 0, 0, 0) := ftq_ok (by decide +kernel)
theorem d17_19 : ft 17 19 = some (.putfield 18, 3, 22, 3, 1, 3, 256) := ftq_ok (by decide +kernel)
theorem d17_22 : ft 17 22 = some (.aload_n 0, 1, 23, 0, 0, 0, 0) := ftq_ok (by decide +kernel)
theorem d17_23 : ft 17 23 = some (.iconst 5, 1, 24, 0, 0, 0, 0) := ftq_ok (by decide +kernel)
theorem d17_24 : ft 17 24 = some (.newarray .int, 2, 26, 0, 0, 0, 0) := ftq_ok (by decide +kernel)
theorem d17_26 : ft 17 26 = some (.putfield 22, 3, 29, 3, 2, 3, 257) := ftq_ok (by decide +kernel)
theorem d17_29 : ft 17 29 = some (.aload_n 0, 1, 30, 0, 0, 0, 0) := ftq_ok (by decide +kernel)
theorem d17_30 : ft 17 30 = some (.iconst 5, 1, 31, 0, 0, 0, 0) := ftq_ok (by decide +kernel)
theorem d17_31 : ft 17 31 = some (.newarray .int, 2, 33, 0, 0, 0, 0) := ftq_ok (by decide +kernel)
theorem d17_33 : ft 17 33 = some (.putfield 26, 3, 36, 3, 3, 3, 258) := ftq_ok (by decide +kernel)
theorem d17_36 : ft 17 36 = some (.aload_n 0, 1, 37, 0, 0, 0, 0) := ftq_ok (by decide +kernel)
theorem d17_37 : ft 17 37 = some (.iconst (-1), 1, 38, 0, 0, 0, 0) := ftq_ok (by decide +kernel)
theorem d17_38 : ft 17 38 = some (.putfield 29, 3, 41, 3, 4, 0, 260) := ftq_ok (by decide +kernel)
theorem d17_41 : ft 17 41 = some (.return_, 1, 42, 0, 0, 0, 0) := ftq_ok (by decide +kernel)
-- 18: Set_search
theorem d18_0 : ft 18 0 = some (.aload_n 0, 1, 1, 0, 0, 0, 0) := ftq_ok (by decide +kernel)
theorem d18_1 : ft 18 1 = some (.getfield 12, 3, 4, 3, 0, 3, 255) := ftq_ok (by decide +kernel)
theorem d18_4 : ft 18 4 = some (.aload_n 1, 1, 5, 0, 0, 0, 0) := ftq_ok (by decide +kernel)
theorem d18_5 : ft 18 5 = some (.invokevirtual 33, 3, 8, 25, 1, 0, 517) := ftq_ok (by decide +kernel)
theorem d18_8 : ft 18 8 = some (.aload_n 0, 1, 9, 0, 0, 0, 0) := ftq_ok (by decide +kernel)
theorem d18_9 : ft 18 9 = some (.iconst (-1), 1, 10, 0, 0, 0, 0) := ftq_ok (by decide +kernel)
theorem d18_10 : ft 18 10 = some (.putfield 29, 3, 13, 3, 4, 0, 260) := ftq_ok (by decide +kernel)
theorem d18_13 : ft 18 13 = some (.iconst 0, 1, 14, 0, 0, 0, 0) := ftq_ok (by decide +kernel)
theorem d18_14 : ft 18 14 = some (.istore_n 2, 1, 15, 0, 0, 0, 0) := ftq_ok (by decide +kernel)
theorem d18_15 : ft 18 15 = some (.iload_n 2, 1, 16, 0, 0, 0, 0) := ftq_ok (by decide +kernel)
theorem d18_16 : ft 18 16 = some (.iconst 5, 1, 17, 0, 0, 0, 0) := ftq_ok (by decide +kernel)
theorem d18_17 : ft 18 17 = some (.if_icmp .ge 23, 3, 20, 40, 0, 0, 0) := ftq_ok (by decide +kernel)
theorem d18_20 : ft 18 20 = some (.aload_n 0, 1, 21, 0, 0, 0, 0) := ftq_ok (by decide +kernel)
theorem d18_21 : ft 18 21 = some (.getfield 18, 3, 24, 3, 1, 3, 256) := ftq_ok (by decide +kernel)
theorem d18_24 : ft 18 24 = some (.iload_n 2, 1, 25, 0, 0, 0, 0) := ftq_ok (by decide +kernel)
theorem d18_25 : ft 18 25 = some (.iconst 0, 1, 26, 0, 0, 0, 0) := ftq_ok (by decide +kernel)
theorem d18_26 : ft 18 26 = some (.bastore, 1, 27, 0, 0, 0, 0) := ftq_ok (by decide +kernel)
theorem d18_27 : ft 18 27 = some (.aload_n 0, 1, 28, 0, 0, 0, 0) := ftq_ok (by decide +kernel)
theorem d18_28 : ft 18 28 = some (.getfield 26, 3, 31, 3, 3, 3, 258) := ftq_ok (by decide +kernel)
theorem d18_31 : ft 18 31 = some (.iload_n 2, 1, 32, 0, 0, 0, 0) := ftq_ok (by decide +kernel)
theorem d18_32 : ft 18 32 = some (.iconst (-1), 1, 33, 0, 0, 0, 0) := ftq_ok (by decide +kernel)
theorem d18_33 : ft 18 33 = some (.iastore, 1, 34, 0, 0, 0, 0) := ftq_ok (by decide +kernel)
theorem d18_34 : ft 18 34 = some (.iinc 2 1, 3, 37, 0, 0, 0, 0) := ftq_ok (by decide +kernel)
theorem d18_37 : ft 18 37 = some (.goto (-22), 3, 40, 15, 0, 0, 0) := ftq_ok (by decide +kernel)
theorem d18_40 : ft 18 40 = some (.aload_n 0, 1, 41, 0, 0, 0, 0) := ftq_ok (by decide +kernel)
theorem d18_41 : ft 18 41 = some (.iconst 0, 1, 42, 0, 0, 0, 0) := ftq_ok (by decide +kernel)
theorem d18_42 : ft 18 42 = some (.invokevirtual 37, 3, 45, 19, 1, 0, 518) := ftq_ok (by decide +kernel)
theorem d18_45 : ft 18 45 = some (.return_, 1, 46, 0, 0, 0, 0) := ftq_ok (by decide +kernel)
-- 19: Set_fillFrom
theorem d19_0 : ft 19 0 = some (.iload_n 1, 1, 1, 0, 0, 0, 0) := ftq_ok (by decide +kernel)
theorem d19_1 : ft 19 1 = some (.aload_n 0, 1, 2, 0, 0, 0, 0) := ftq_ok (by decide +kernel)
theorem d19_2 : ft 19 2 = some (.getfield 12, 3, 5, 3, 0, 3, 255) := ftq_ok (by decide +kernel)
theorem d19_5 : ft 19 5 = some (.getfield 41, 3, 8, 4, 3, 0, 102) := ftq_ok (by decide +kernel)
theorem d19_8 : ft 19 8 = some (.if_icmp .lt 8, 3, 11, 16, 0, 0, 0) := ftq_ok (by decide +kernel)
theorem d19_11 : ft 19 11 = some (.aload_n 0, 1, 12, 0, 0, 0, 0) := ftq_ok (by decide +kernel)
theorem d19_12 : ft 19 12 = some (.invokevirtual 44, 3, 15, 21, 0, 0, 522) := ftq_ok (by decide +kernel)
theorem d19_15 : ft 19 15 = some (.return_, 1, 16, 0, 0, 0, 0) := ftq_ok (by decide +kernel)
theorem d19_16 : ft 19 16 = some (.iconst 0, 1, 17, 0, 0, 0, 0) := ftq_ok (by decide +kernel)
theorem d19_17 : ft 19 17 = some (.istore_n 2, 1, 18, 0, 0, 0, 0) := ftq_ok (by decide +kernel)
theorem d19_18 : ft 19 18 = some (.iload_n 2, 1, 19, 0, 0, 0, 0) := ftq_ok (by decide +kernel)
theorem d19_19 : ft 19 19 = some (.aload_n 0, 1, 20, 0, 0, 0, 0) := ftq_ok (by decide +kernel)
theorem d19_20 : ft 19 20 = some (.getfield 12, 3, 23, 3, 0, 3, 255) := ftq_ok (by decide +kernel)
theorem d19_23 : ft 19 23 = some (.getfield 41, 3, 26, 4, 3, 0, 102) := ftq_ok (by decide +kernel)
theorem d19_26 : ft 19 26 = some (.if_icmp .ge 15, 3, 29, 41, 0, 0, 0) := ftq_ok (by decide +kernel)
theorem d19_29 : ft 19 29 = some (.aload_n 0, 1, 30, 0, 0, 0, 0) := ftq_ok (by decide +kernel)
theorem d19_30 : ft 19 30 = some (.iload_n 1, 1, 31, 0, 0, 0, 0) := ftq_ok (by decide +kernel)
theorem d19_31 : ft 19 31 = some (.iload_n 2, 1, 32, 0, 0, 0, 0) := ftq_ok (by decide +kernel)
theorem d19_32 : ft 19 32 = some (.invokevirtual 47, 3, 35, 20, 2, 0, 533) := ftq_ok (by decide +kernel)
theorem d19_35 : ft 19 35 = some (.iinc 2 1, 3, 38, 0, 0, 0, 0) := ftq_ok (by decide +kernel)
theorem d19_38 : ft 19 38 = some (.goto (-20), 3, 41, 18, 0, 0, 0) := ftq_ok (by decide +kernel)
theorem d19_41 : ft 19 41 = some (.return_, 1, 42, 0, 0, 0, 0) := ftq_ok (by decide +kernel)
-- 20: Set_step
theorem d20_0 : ft 20 0 = some (.aload_n 0, 1, 1, 0, 0, 0, 0) := ftq_ok (by decide +kernel)
theorem d20_1 : ft 20 1 = some (.getfield 18, 3, 4, 3, 1, 3, 256) := ftq_ok (by decide +kernel)
theorem d20_4 : ft 20 4 = some (.iload_n 2, 1, 5, 0, 0, 0, 0) := ftq_ok (by decide +kernel)
theorem d20_5 : ft 20 5 = some (.baload, 1, 6, 0, 0, 0, 0) := ftq_ok (by decide +kernel)
theorem d20_6 : ft 20 6 = some (.ifCond .eq 4, 3, 9, 10, 0, 0, 0) := ftq_ok (by decide +kernel)
theorem d20_9 : ft 20 9 = some (.return_, 1, 10, 0, 0, 0, 0) := ftq_ok (by decide +kernel)
theorem d20_10 : ft 20 10 = some (.aload_n 0, 1, 11, 0, 0, 0, 0) := ftq_ok (by decide +kernel)
theorem d20_11 : ft 20 11 = some (.getfield 18, 3, 14, 3, 1, 3, 256) := ftq_ok (by decide +kernel)
theorem d20_14 : ft 20 14 = some (.iload_n 2, 1, 15, 0, 0, 0, 0) := ftq_ok (by decide +kernel)
theorem d20_15 : ft 20 15 = some (.iconst 1, 1, 16, 0, 0, 0, 0) := ftq_ok (by decide +kernel)
theorem d20_16 : ft 20 16 = some (.bastore, 1, 17, 0, 0, 0, 0) := ftq_ok (by decide +kernel)
theorem d20_17 : ft 20 17 = some (.aload_n 0, 1, 18, 0, 0, 0, 0) := ftq_ok (by decide +kernel)
theorem d20_18 : ft 20 18 = some (.getfield 22, 3, 21, 3, 2, 3, 257) := ftq_ok (by decide +kernel)
theorem d20_21 : ft 20 21 = some (.iload_n 1, 1, 22, 0, 0, 0, 0) := ftq_ok (by decide +kernel)
theorem d20_22 : ft 20 22 = some (.iload_n 2, 1, 23, 0, 0, 0, 0) := ftq_ok (by decide +kernel)
theorem d20_23 : ft 20 23 = some (.iastore, 1, 24, 0, 0, 0, 0) := ftq_ok (by decide +kernel)
theorem d20_24 : ft 20 24 = some (.aload_n 0, 1, 25, 0, 0, 0, 0) := ftq_ok (by decide +kernel)
theorem d20_25 : ft 20 25 = some (.iload_n 1, 1, 26, 0, 0, 0, 0) := ftq_ok (by decide +kernel)
theorem d20_26 : ft 20 26 = some (.iconst 1, 1, 27, 0, 0, 0, 0) := ftq_ok (by decide +kernel)
theorem d20_27 : ft 20 27 = some (.iadd, 1, 28, 0, 0, 0, 0) := ftq_ok (by decide +kernel)
theorem d20_28 : ft 20 28 = some (.invokevirtual 37, 3, 31, 19, 1, 0, 518) := ftq_ok (by decide +kernel)
theorem d20_31 : ft 20 31 = some (.aload_n 0, 1, 32, 0, 0, 0, 0) := ftq_ok (by decide +kernel)
theorem d20_32 : ft 20 32 = some (.getfield 18, 3, 35, 3, 1, 3, 256) := ftq_ok (by decide +kernel)
theorem d20_35 : ft 20 35 = some (.iload_n 2, 1, 36, 0, 0, 0, 0) := ftq_ok (by decide +kernel)
theorem d20_36 : ft 20 36 = some (.iconst 0, 1, 37, 0, 0, 0, 0) := ftq_ok (by decide +kernel)
theorem d20_37 : ft 20 37 = some (.bastore, 1, 38, 0, 0, 0, 0) := ftq_ok (by decide +kernel)
theorem d20_38 : ft 20 38 = some (.return_, 1, 39, 0, 0, 0, 0) := ftq_ok (by decide +kernel)
-- 21: Set_tryFile
theorem d21_0 : ft 21 0 = some (.aload_n 0, 1, 1, 0, 0, 0, 0) := ftq_ok (by decide +kernel)
theorem d21_1 : ft 21 1 = some (.invokevirtual 51, 3, 4, 22, 0, 0, 526) := ftq_ok (by decide +kernel)
theorem d21_4 : ft 21 4 = some (.iconst 0, 1, 5, 0, 0, 0, 0) := ftq_ok (by decide +kernel)
theorem d21_5 : ft 21 5 = some (.istore_n 1, 1, 6, 0, 0, 0, 0) := ftq_ok (by decide +kernel)
theorem d21_6 : ft 21 6 = some (.iload_n 1, 1, 7, 0, 0, 0, 0) := ftq_ok (by decide +kernel)
theorem d21_7 : ft 21 7 = some (.aload_n 0, 1, 8, 0, 0, 0, 0) := ftq_ok (by decide +kernel)
theorem d21_8 : ft 21 8 = some (.getfield 12, 3, 11, 3, 0, 3, 255) := ftq_ok (by decide +kernel)
theorem d21_11 : ft 21 11 = some (.getfield 54, 3, 14, 4, 0, 0, 89) := ftq_ok (by decide +kernel)
theorem d21_14 : ft 21 14 = some (.if_icmp .ge 26, 3, 17, 40, 0, 0, 0) := ftq_ok (by decide +kernel)
theorem d21_17 : ft 21 17 = some (.aload_n 0, 1, 18, 0, 0, 0, 0) := ftq_ok (by decide +kernel)
theorem d21_18 : ft 21 18 = some (.getfield 12, 3, 21, 3, 0, 3, 255) := ftq_ok (by decide +kernel)
theorem d21_21 : ft 21 21 = some (.invokevirtual 57, 3, 24, 34, 0, 0, 530) := ftq_ok (by decide +kernel)
theorem d21_24 : ft 21 24 = some (.ifCond .eq 16, 3, 27, 40, 0, 0, 0) := ftq_ok (by decide +kernel)
theorem d21_27 : ft 21 27 = some (.aload_n 0, 1, 28, 0, 0, 0, 0) := ftq_ok (by decide +kernel)
theorem d21_28 : ft 21 28 = some (.getfield 12, 3, 31, 3, 0, 3, 255) := ftq_ok (by decide +kernel)
theorem d21_31 : ft 21 31 = some (.invokevirtual 61, 3, 34, 36, 0, 0, 531) := ftq_ok (by decide +kernel)
theorem d21_34 : ft 21 34 = some (.iinc 1 1, 3, 37, 0, 0, 0, 0) := ftq_ok (by decide +kernel)
theorem d21_37 : ft 21 37 = some (.goto (-31), 3, 40, 6, 0, 0, 0) := ftq_ok (by decide +kernel)
theorem d21_40 : ft 21 40 = some (.aload_n 0, 1, 41, 0, 0, 0, 0) := ftq_ok (by decide +kernel)
theorem d21_41 : ft 21 41 = some (.getfield 12, 3, 44, 3, 0, 3, 255) := ftq_ok (by decide +kernel)
theorem d21_44 : ft 21 44 = some (.getfield 64, 3, 47, 4, 2, 0, 97) := ftq_ok (by decide +kernel)
theorem d21_47 : ft 21 47 = some (.aload_n 0, 1, 48, 0, 0, 0, 0) := ftq_ok (by decide +kernel)
theorem d21_48 : ft 21 48 = some (.getfield 12, 3, 51, 3, 0, 3, 255) := ftq_ok (by decide +kernel)
theorem d21_51 : ft 21 51 = some (.getfield 54, 3, 54, 4, 0, 0, 89) := ftq_ok (by decide +kernel)
theorem d21_54 : ft 21 54 = some (.if_icmp .lt 17, 3, 57, 71, 0, 0, 0) := ftq_ok (by decide +kernel)
theorem d21_57 : ft 21 57 = some (.aload_n 0, 1, 58, 0, 0, 0, 0) := ftq_ok (by decide +kernel)
theorem d21_58 : ft 21 58 = some (.getfield 12, 3, 61, 3, 0, 3, 255) := ftq_ok (by decide +kernel)
theorem d21_61 : ft 21 61 = some (.invokevirtual 67, 3, 64, 41, 0, 0, 532) := ftq_ok (by decide +kernel)
theorem d21_64 : ft 21 64 = some (.aload_n 0, 1, 65, 0, 0, 0, 0) := ftq_ok (by decide +kernel)
theorem d21_65 : ft 21 65 = some (.getfield 29, 3, 68, 3, 4, 0, 260) := ftq_ok (by decide +kernel)
theorem d21_68 : ft 21 68 = some (.if_icmp .gt 4, 3, 71, 72, 0, 0, 0) := ftq_ok (by decide +kernel)
theorem d21_71 : ft 21 71 = some (.return_, 1, 72, 0, 0, 0, 0) := ftq_ok (by decide +kernel)
theorem d21_72 : ft 21 72 = some (.aload_n 0, 1, 73, 0, 0, 0, 0) := ftq_ok (by decide +kernel)
theorem d21_73 : ft 21 73 = some (.aload_n 0, 1, 74, 0, 0, 0, 0) := ftq_ok (by decide +kernel)
theorem d21_74 : ft 21 74 = some (.getfield 12, 3, 77, 3, 0, 3, 255) := ftq_ok (by decide +kernel)
theorem d21_77 : ft 21 77 = some (.invokevirtual 67, 3, 80, 41, 0, 0, 532) := ftq_ok (by decide +kernel)
theorem d21_80 : ft 21 80 = some (.putfield 29, 3, 83, 3, 4, 0, 260) := ftq_ok (by decide +kernel)
theorem d21_83 : ft 21 83 = some (.iconst 0, 1, 84, 0, 0, 0, 0) := ftq_ok (by decide +kernel)
theorem d21_84 : ft 21 84 = some (.istore_n 1, 1, 85, 0, 0, 0, 0) := ftq_ok (by decide +kernel)
theorem d21_85 : ft 21 85 = some (.iload_n 1, 1, 86, 0, 0, 0, 0) := ftq_ok (by decide +kernel)
theorem d21_86 : ft 21 86 = some (.aload_n 0, 1, 87, 0, 0, 0, 0) := ftq_ok (by decide +kernel)
theorem d21_87 : ft 21 87 = some (.getfield 12, 3, 90, 3, 0, 3, 255) := ftq_ok (by decide +kernel)
theorem d21_90 : ft 21 90 = some (.getfield 41, 3, 93, 4, 3, 0, 102) := ftq_ok (by decide +kernel)
theorem d21_93 : ft 21 93 = some (.if_icmp .ge 21, 3, 96, 114, 0, 0, 0) := ftq_ok (by decide +kernel)
theorem d21_96 : ft 21 96 = some (.aload_n 0, 1, 97, 0, 0, 0, 0) := ftq_ok (by decide +kernel)
theorem d21_97 : ft 21 97 = some (.getfield 26, 3, 100, 3, 3, 3, 258) := ftq_ok (by decide +kernel)
theorem d21_100 : ft 21 100 = some (.iload_n 1, 1, 101, 0, 0, 0, 0) := ftq_ok (by decide +kernel)
theorem d21_101 : ft 21 101 = some (.aload_n 0, 1, 102, 0, 0, 0, 0) := ftq_ok (by decide +kernel)
theorem d21_102 : ft 21 102 = some (.getfield 22, 3, 105, 3, 2, 3, 257) := ftq_ok (by decide +kernel)
theorem d21_105 : ft 21 105 = some (.iload_n 1, 1, 106, 0, 0, 0, 0) := ftq_ok (by decide +kernel)
theorem d21_106 : ft 21 106 = some (.iaload, 1, 107, 0, 0, 0, 0) := ftq_ok (by decide +kernel)
theorem d21_107 : ft 21 107 = some (.iastore, 1, 108, 0, 0, 0, 0) := ftq_ok (by decide +kernel)
theorem d21_108 : ft 21 108 = some (.iinc 1 1, 3, 111, 0, 0, 0, 0) := ftq_ok (by decide +kernel)
theorem d21_111 : ft 21 111 = some (.goto (-26), 3, 114, 85, 0, 0, 0) := ftq_ok (by decide +kernel)
theorem d21_114 : ft 21 114 = some (.return_, 1, 115, 0, 0, 0, 0) := ftq_ok (by decide +kernel)
-- 22: Set_startAnew
theorem d22_0 : ft 22 0 = some (.aload_n 0, 1, 1, 0, 0, 0, 0) := ftq_ok (by decide +kernel)
theorem d22_1 : ft 22 1 = some (.getfield 12, 3, 4, 3, 0, 3, 255) := ftq_ok (by decide +kernel)
theorem d22_4 : ft 22 4 = some (.iconst 0, 1, 5, 0, 0, 0, 0) := ftq_ok (by decide +kernel)
theorem d22_5 : ft 22 5 = some (.putfield 64, 3, 8, 4, 2, 0, 97) := ftq_ok (by decide +kernel)
theorem d22_8 : ft 22 8 = some (.iconst 0, 1, 9, 0, 0, 0, 0) := ftq_ok (by decide +kernel)
theorem d22_9 : ft 22 9 = some (.istore_n 1, 1, 10, 0, 0, 0, 0) := ftq_ok (by decide +kernel)
theorem d22_10 : ft 22 10 = some (.iload_n 1, 1, 11, 0, 0, 0, 0) := ftq_ok (by decide +kernel)
theorem d22_11 : ft 22 11 = some (.aload_n 0, 1, 12, 0, 0, 0, 0) := ftq_ok (by decide +kernel)
theorem d22_12 : ft 22 12 = some (.getfield 12, 3, 15, 3, 0, 3, 255) := ftq_ok (by decide +kernel)
theorem d22_15 : ft 22 15 = some (.getfield 41, 3, 18, 4, 3, 0, 102) := ftq_ok (by decide +kernel)
theorem d22_18 : ft 22 18 = some (.if_icmp .ge 42, 3, 21, 60, 0, 0, 0) := ftq_ok (by decide +kernel)
theorem d22_21 : ft 22 21 = some (.aload_n 0, 1, 22, 0, 0, 0, 0) := ftq_ok (by decide +kernel)
theorem d22_22 : ft 22 22 = some (.getfield 12, 3, 25, 3, 0, 3, 255) := ftq_ok (by decide +kernel)
theorem d22_25 : ft 22 25 = some (.getfield 71, 3, 28, 4, 9, 3, 118) := ftq_ok (by decide +kernel)
theorem d22_28 : ft 22 28 = some (.iload_n 1, 1, 29, 0, 0, 0, 0) := ftq_ok (by decide +kernel)
theorem d22_29 : ft 22 29 = some (.aload_n 0, 1, 30, 0, 0, 0, 0) := ftq_ok (by decide +kernel)
theorem d22_30 : ft 22 30 = some (.getfield 12, 3, 33, 3, 0, 3, 255) := ftq_ok (by decide +kernel)
theorem d22_33 : ft 22 33 = some (.getfield 74, 3, 36, 4, 8, 3, 114) := ftq_ok (by decide +kernel)
theorem d22_36 : ft 22 36 = some (.iload_n 1, 1, 37, 0, 0, 0, 0) := ftq_ok (by decide +kernel)
theorem d22_37 : ft 22 37 = some (.iaload, 1, 38, 0, 0, 0, 0) := ftq_ok (by decide +kernel)
theorem d22_38 : ft 22 38 = some (.iastore, 1, 39, 0, 0, 0, 0) := ftq_ok (by decide +kernel)
theorem d22_39 : ft 22 39 = some (.aload_n 0, 1, 40, 0, 0, 0, 0) := ftq_ok (by decide +kernel)
theorem d22_40 : ft 22 40 = some (.getfield 12, 3, 43, 3, 0, 3, 255) := ftq_ok (by decide +kernel)
theorem d22_43 : ft 22 43 = some (.getfield 77, 3, 46, 4, 11, 3, 126) := ftq_ok (by decide +kernel)
theorem d22_46 : ft 22 46 = some (.iload_n 1, 1, 47, 0, 0, 0, 0) := ftq_ok (by decide +kernel)
theorem d22_47 : ft 22 47 = some (.aload_n 0, 1, 48, 0, 0, 0, 0) := ftq_ok (by decide +kernel)
theorem d22_48 : ft 22 48 = some (.getfield 22, 3, 51, 3, 2, 3, 257) := ftq_ok (by decide +kernel)
theorem d22_51 : ft 22 51 = some (.iload_n 1, 1, 52, 0, 0, 0, 0) := ftq_ok (by decide +kernel)
theorem d22_52 : ft 22 52 = some (.iaload, 1, 53, 0, 0, 0, 0) := ftq_ok (by decide +kernel)
theorem d22_53 : ft 22 53 = some (.iastore, 1, 54, 0, 0, 0, 0) := ftq_ok (by decide +kernel)
theorem d22_54 : ft 22 54 = some (.iinc 1 1, 3, 57, 0, 0, 0, 0) := ftq_ok (by decide +kernel)
theorem d22_57 : ft 22 57 = some (.goto (-47), 3, 60, 10, 0, 0, 0) := ftq_ok (by decide +kernel)
theorem d22_60 : ft 22 60 = some (.return_, 1, 61, 0, 0, 0, 0) := ftq_ok (by decide +kernel)
-- 23: Trail_init
theorem d23_0 : ft 23 0 = some (.aload_n 0, 1, 1, 0, 0, 0, 0) := ftq_ok (by decide +kernel)
theorem d23_1 : ft 23 1 = some (.invokespecial 3, 3, 4, 0, 0, 4, 86) := ftq_ok (by decide +kernel)
theorem d23_4 : ft 23 4 = some (.aload_n 0, 1, 5, 0, 0, 0, 0) := ftq_ok (by decide +kernel)
theorem d23_5 : ft 23 5 = some (.iconst 0, 1, 6, 0, 0, 0, 0) := ftq_ok (by decide +kernel)
theorem d23_6 : ft 23 6 = some (.putfield 9, 3, 9, 4, 0, 0, 87) := ftq_ok (by decide +kernel)
theorem d23_9 : ft 23 9 = some (.aload_n 0, 1, 10, 0, 0, 0, 0) := ftq_ok (by decide +kernel)
theorem d23_10 : ft 23 10 = some (.iconst 0, 1, 11, 0, 0, 0, 0) := ftq_ok (by decide +kernel)
theorem d23_11 : ft 23 11 = some (.putfield 15, 3, 14, 4, 1, 0, 91) := ftq_ok (by decide +kernel)
theorem d23_14 : ft 23 14 = some (.aload_n 0, 1, 15, 0, 0, 0, 0) := ftq_ok (by decide +kernel)
theorem d23_15 : ft 23 15 = some (.iconst 0, 1, 16, 0, 0, 0, 0) := ftq_ok (by decide +kernel)
theorem d23_16 : ft 23 16 = some (.putfield 18, 3, 19, 4, 2, 0, 93) := ftq_ok (by decide +kernel)
theorem d23_19 : ft 23 19 = some (.aload_n 0, 1, 20, 0, 0, 0, 0) := ftq_ok (by decide +kernel)
theorem d23_20 : ft 23 20 = some (.iconst 0, 1, 21, 0, 0, 0, 0) := ftq_ok (by decide +kernel)
theorem d23_21 : ft 23 21 = some (.putfield 21, 3, 24, 4, 3, 0, 99) := ftq_ok (by decide +kernel)
theorem d23_24 : ft 23 24 = some (.aload_n 0, 1, 25, 0, 0, 0, 0) := ftq_ok (by decide +kernel)
theorem d23_25 : ft 23 25 = some (.iconst 0, 1, 26, 0, 0, 0, 0) := ftq_ok (by decide +kernel)
theorem d23_26 : ft 23 26 = some (.putfield 24, 3, 29, 4, 4, 0, 104) := ftq_ok (by decide +kernel)
theorem d23_29 : ft 23 29 = some (.aload_n 0, 1, 30, 0, 0, 0, 0) := ftq_ok (by decide +kernel)
theorem d23_30 : ft 23 30 = some (.bipush 6, 2, 32, 0, 0, 0, 0) := ftq_ok (by decide +kernel)
theorem d23_32 : ft 23 32 = some (.newarray .int, 2, 34, 0, 0, 0, 0) := ftq_ok (by decide +kernel)
theorem d23_34 : ft 23 34 = some (.putfield 27, 3, 37, 4, 5, 3, 106) := ftq_ok (by decide +kernel)
theorem d23_37 : ft 23 37 = some (.aload_n 0, 1, 38, 0, 0, 0, 0) := ftq_ok (by decide +kernel)
theorem d23_38 : ft 23 38 = some (.bipush 6, 2, 40, 0, 0, 0, 0) := ftq_ok (by decide +kernel)
theorem d23_40 : ft 23 40 = some (.newarray .int, 2, 42, 0, 0, 0, 0) := ftq_ok (by decide +kernel)
theorem d23_42 : ft 23 42 = some (.putfield 31, 3, 45, 4, 6, 3, 109) := ftq_ok (by decide +kernel)
theorem d23_45 : ft 23 45 = some (.aload_n 0, 1, 46, 0, 0, 0, 0) := ftq_ok (by decide +kernel)
theorem d23_46 : ft 23 46 = some (.iconst 5, 1, 47, 0, 0, 0, 0) := ftq_ok (by decide +kernel)
theorem d23_47 : ft 23 47 = some (.newarray .int, 2, 49, 0, 0, 0, 0) := ftq_ok (by decide +kernel)
theorem d23_49 : ft 23 49 = some (.putfield 34, 3, 52, 4, 7, 3, 111) := ftq_ok (by decide +kernel)
theorem d23_52 : ft 23 52 = some (.aload_n 0, 1, 53, 0, 0, 0, 0) := ftq_ok (by decide +kernel)
theorem d23_53 : ft 23 53 = some (.iconst 5, 1, 54, 0, 0, 0, 0) := ftq_ok (by decide +kernel)
theorem d23_54 : ft 23 54 = some (.newarray .int, 2, 56, 0, 0, 0, 0) := ftq_ok (by decide +kernel)
theorem d23_56 : ft 23 56 = some (.putfield 37, 3, 59, 4, 8, 3, 113) := ftq_ok (by decide +kernel)
theorem d23_59 : ft 23 59 = some (.aload_n 0, 1, 60, 0, 0, 0, 0) := ftq_ok (by decide +kernel)
theorem d23_60 : ft 23 60 = some (.iconst 5, 1, 61, 0, 0, 0, 0) := ftq_ok (by decide +kernel)
theorem d23_61 : ft 23 61 = some (.newarray .int, 2, 63, 0, 0, 0, 0) := ftq_ok (by decide +kernel)
theorem d23_63 : ft 23 63 = some (.putfield 40, 3, 66, 4, 9, 3, 116) := ftq_ok (by decide +kernel)
theorem d23_66 : ft 23 66 = some (.aload_n 0, 1, 67, 0, 0, 0, 0) := ftq_ok (by decide +kernel)
theorem d23_67 : ft 23 67 = some (.iconst 5, 1, 68, 0, 0, 0, 0) := ftq_ok (by decide +kernel)
theorem d23_68 : ft 23 68 = some (.newarray .int, 2, 70, 0, 0, 0, 0) := ftq_ok (by decide +kernel)
theorem d23_70 : ft 23 70 = some (.putfield 43, 3, 73, 4, 10, 3, 120) := ftq_ok (by decide +kernel)
theorem d23_73 : ft 23 73 = some (.aload_n 0, 1, 74, 0, 0, 0, 0) := ftq_ok (by decide +kernel)
theorem d23_74 : ft 23 74 = some (.iconst 5, 1, 75, 0, 0, 0, 0) := ftq_ok (by decide +kernel)
theorem d23_75 : ft 23 75 = some (.newarray .int, 2, 77, 0, 0, 0, 0) := ftq_ok (by decide +kernel)
theorem d23_77 : ft 23 77 = some (.putfield 46, 3, 80, 4, 11, 3, 123) := ftq_ok (by decide +kernel)
theorem d23_80 : ft 23 80 = some (.aload_n 0, 1, 81, 0, 0, 0, 0) := ftq_ok (by decide +kernel)
theorem d23_81 : ft 23 81 = some (.iconst 5, 1, 82, 0, 0, 0, 0) := ftq_ok (by decide +kernel)
theorem d23_82 : ft 23 82 = some (.newarray .int, 2, 84, 0, 0, 0, 0) := ftq_ok (by decide +kernel)
theorem d23_84 : ft 23 84 = some (.putfield 49, 3, 87, 4, 12, 3, 128) := ftq_ok (by decide +kernel)
theorem d23_87 : ft 23 87 = some (.return_, 1, 88, 0, 0, 0, 0) := ftq_ok (by decide +kernel)
-- 24: Trail_begin
theorem d24_0 : ft 24 0 = some (.aload_n 0, 1, 1, 0, 0, 0, 0) := ftq_ok (by decide +kernel)
theorem d24_1 : ft 24 1 = some (.aload_n 1, 1, 2, 0, 0, 0, 0) := ftq_ok (by decide +kernel)
theorem d24_2 : ft 24 2 = some (.getfield 52, 3, 5, 2, 1, 0, 73) := ftq_ok (by decide +kernel)
theorem d24_5 : ft 24 5 = some (.iconst 2, 1, 6, 0, 0, 0, 0) := ftq_ok (by decide +kernel)
theorem d24_6 : ft 24 6 = some (.isub, 1, 7, 0, 0, 0, 0) := ftq_ok (by decide +kernel)
theorem d24_7 : ft 24 7 = some (.bipush 6, 2, 9, 0, 0, 0, 0) := ftq_ok (by decide +kernel)
theorem d24_9 : ft 24 9 = some (.invokestatic 57, 3, 12, 0, 2, 5, 344) := ftq_ok (by decide +kernel)
theorem d24_12 : ft 24 12 = some (.putfield 9, 3, 15, 4, 0, 0, 87) := ftq_ok (by decide +kernel)
theorem d24_15 : ft 24 15 = some (.aload_n 0, 1, 16, 0, 0, 0, 0) := ftq_ok (by decide +kernel)
theorem d24_16 : ft 24 16 = some (.aload_n 1, 1, 17, 0, 0, 0, 0) := ftq_ok (by decide +kernel)
theorem d24_17 : ft 24 17 = some (.aload_n 1, 1, 18, 0, 0, 0, 0) := ftq_ok (by decide +kernel)
theorem d24_18 : ft 24 18 = some (.getfield 52, 3, 21, 2, 1, 0, 73) := ftq_ok (by decide +kernel)
theorem d24_21 : ft 24 21 = some (.iconst 1, 1, 22, 0, 0, 0, 0) := ftq_ok (by decide +kernel)
theorem d24_22 : ft 24 22 = some (.isub, 1, 23, 0, 0, 0, 0) := ftq_ok (by decide +kernel)
theorem d24_23 : ft 24 23 = some (.invokevirtual 63, 3, 26, 16, 1, 0, 347) := ftq_ok (by decide +kernel)
theorem d24_26 : ft 24 26 = some (.putfield 15, 3, 29, 4, 1, 0, 91) := ftq_ok (by decide +kernel)
theorem d24_29 : ft 24 29 = some (.aload_n 0, 1, 30, 0, 0, 0, 0) := ftq_ok (by decide +kernel)
theorem d24_30 : ft 24 30 = some (.iconst 0, 1, 31, 0, 0, 0, 0) := ftq_ok (by decide +kernel)
theorem d24_31 : ft 24 31 = some (.putfield 18, 3, 34, 4, 2, 0, 93) := ftq_ok (by decide +kernel)
theorem d24_34 : ft 24 34 = some (.aload_n 0, 1, 35, 0, 0, 0, 0) := ftq_ok (by decide +kernel)
theorem d24_35 : ft 24 35 = some (.iconst 0, 1, 36, 0, 0, 0, 0) := ftq_ok (by decide +kernel)
theorem d24_36 : ft 24 36 = some (.putfield 21, 3, 39, 4, 3, 0, 99) := ftq_ok (by decide +kernel)
theorem d24_39 : ft 24 39 = some (.aload_n 0, 1, 40, 0, 0, 0, 0) := ftq_ok (by decide +kernel)
theorem d24_40 : ft 24 40 = some (.iconst 0, 1, 41, 0, 0, 0, 0) := ftq_ok (by decide +kernel)
theorem d24_41 : ft 24 41 = some (.putfield 24, 3, 44, 4, 4, 0, 104) := ftq_ok (by decide +kernel)
theorem d24_44 : ft 24 44 = some (.iconst 0, 1, 45, 0, 0, 0, 0) := ftq_ok (by decide +kernel)
theorem d24_45 : ft 24 45 = some (.istore_n 2, 1, 46, 0, 0, 0, 0) := ftq_ok (by decide +kernel)
theorem d24_46 : ft 24 46 = some (.iload_n 2, 1, 47, 0, 0, 0, 0) := ftq_ok (by decide +kernel)
theorem d24_47 : ft 24 47 = some (.aload_n 0, 1, 48, 0, 0, 0, 0) := ftq_ok (by decide +kernel)
theorem d24_48 : ft 24 48 = some (.getfield 9, 3, 51, 4, 0, 0, 87) := ftq_ok (by decide +kernel)
theorem d24_51 : ft 24 51 = some (.if_icmp .ge 27, 3, 54, 78, 0, 0, 0) := ftq_ok (by decide +kernel)
theorem d24_54 : ft 24 54 = some (.aload_n 0, 1, 55, 0, 0, 0, 0) := ftq_ok (by decide +kernel)
theorem d24_55 : ft 24 55 = some (.getfield 27, 3, 58, 4, 5, 3, 106) := ftq_ok (by decide +kernel)
theorem d24_58 : ft 24 58 = some (.iload_n 2, 1, 59, 0, 0, 0, 0) := ftq_ok (by decide +kernel)
theorem d24_59 : ft 24 59 = some (.aload_n 1, 1, 60, 0, 0, 0, 0) := ftq_ok (by decide +kernel)
theorem d24_60 : ft 24 60 = some (.iload_n 2, 1, 61, 0, 0, 0, 0) := ftq_ok (by decide +kernel)
theorem d24_61 : ft 24 61 = some (.invokevirtual 63, 3, 64, 16, 1, 0, 347) := ftq_ok (by decide +kernel)
theorem d24_64 : ft 24 64 = some (.iastore, 1, 65, 0, 0, 0, 0) := ftq_ok (by decide +kernel)
theorem d24_65 : ft 24 65 = some (.aload_n 0, 1, 66, 0, 0, 0, 0) := ftq_ok (by decide +kernel)
theorem d24_66 : ft 24 66 = some (.getfield 31, 3, 69, 4, 6, 3, 109) := ftq_ok (by decide +kernel)
theorem d24_69 : ft 24 69 = some (.iload_n 2, 1, 70, 0, 0, 0, 0) := ftq_ok (by decide +kernel)
theorem d24_70 : ft 24 70 = some (.iconst (-1), 1, 71, 0, 0, 0, 0) := ftq_ok (by decide +kernel)
theorem d24_71 : ft 24 71 = some (.iastore, 1, 72, 0, 0, 0, 0) := ftq_ok (by decide +kernel)
theorem d24_72 : ft 24 72 = some (.iinc 2 1, 3, 75, 0, 0, 0, 0) := ftq_ok (by decide +kernel)
theorem d24_75 : ft 24 75 = some (.goto (-29), 3, 78, 46, 0, 0, 0) := ftq_ok (by decide +kernel)
theorem d24_78 : ft 24 78 = some (.return_, 1, 79, 0, 0, 0, 0) := ftq_ok (by decide +kernel)
-- 25: Trail_copyFrom
theorem d25_0 : ft 25 0 = some (.aload_n 0, 1, 1, 0, 0, 0, 0) := ftq_ok (by decide +kernel)
theorem d25_1 : ft 25 1 = some (.aload_n 1, 1, 2, 0, 0, 0, 0) := ftq_ok (by decide +kernel)
theorem d25_2 : ft 25 2 = some (.getfield 9, 3, 5, 4, 0, 0, 87) := ftq_ok (by decide +kernel)
theorem d25_5 : ft 25 5 = some (.putfield 9, 3, 8, 4, 0, 0, 87) := ftq_ok (by decide +kernel)
theorem d25_8 : ft 25 8 = some (.aload_n 0, 1, 9, 0, 0, 0, 0) := ftq_ok (by decide +kernel)
theorem d25_9 : ft 25 9 = some (.aload_n 1, 1, 10, 0, 0, 0, 0) := ftq_ok (by decide +kernel)
theorem d25_10 : ft 25 10 = some (.getfield 15, 3, 13, 4, 1, 0, 91) := ftq_ok (by decide +kernel)
theorem d25_13 : ft 25 13 = some (.putfield 15, 3, 16, 4, 1, 0, 91) := ftq_ok (by decide +kernel)
theorem d25_16 : ft 25 16 = some (.aload_n 0, 1, 17, 0, 0, 0, 0) := ftq_ok (by decide +kernel)
theorem d25_17 : ft 25 17 = some (.aload_n 1, 1, 18, 0, 0, 0, 0) := ftq_ok (by decide +kernel)
theorem d25_18 : ft 25 18 = some (.getfield 18, 3, 21, 4, 2, 0, 93) := ftq_ok (by decide +kernel)
theorem d25_21 : ft 25 21 = some (.putfield 18, 3, 24, 4, 2, 0, 93) := ftq_ok (by decide +kernel)
theorem d25_24 : ft 25 24 = some (.aload_n 0, 1, 25, 0, 0, 0, 0) := ftq_ok (by decide +kernel)
theorem d25_25 : ft 25 25 = some (.aload_n 1, 1, 26, 0, 0, 0, 0) := ftq_ok (by decide +kernel)
theorem d25_26 : ft 25 26 = some (.getfield 21, 3, 29, 4, 3, 0, 99) := ftq_ok (by decide +kernel)
theorem d25_29 : ft 25 29 = some (.putfield 21, 3, 32, 4, 3, 0, 99) := ftq_ok (by decide +kernel)
theorem d25_32 : ft 25 32 = some (.aload_n 0, 1, 33, 0, 0, 0, 0) := ftq_ok (by decide +kernel)
theorem d25_33 : ft 25 33 = some (.aload_n 1, 1, 34, 0, 0, 0, 0) := ftq_ok (by decide +kernel)
theorem d25_34 : ft 25 34 = some (.getfield 24, 3, 37, 4, 4, 0, 104) := ftq_ok (by decide +kernel)
theorem d25_37 : ft 25 37 = some (.putfield 24, 3, 40, 4, 4, 0, 104) := ftq_ok (by decide +kernel)
theorem d25_40 : ft 25 40 = some (.iconst 0, 1, 41, 0, 0, 0, 0) := ftq_ok (by decide +kernel)
theorem d25_41 : ft 25 41 = some (.istore_n 2, 1, 42, 0, 0, 0, 0) := ftq_ok (by decide +kernel)
theorem d25_42 : ft 25 42 = some (.iload_n 2, 1, 43, 0, 0, 0, 0) := ftq_ok (by decide +kernel)
theorem d25_43 : ft 25 43 = some (.bipush 6, 2, 45, 0, 0, 0, 0) := ftq_ok (by decide +kernel)
theorem d25_45 : ft 25 45 = some (.if_icmp .ge 33, 3, 48, 78, 0, 0, 0) := ftq_ok (by decide +kernel)
theorem d25_48 : ft 25 48 = some (.aload_n 0, 1, 49, 0, 0, 0, 0) := ftq_ok (by decide +kernel)
theorem d25_49 : ft 25 49 = some (.getfield 27, 3, 52, 4, 5, 3, 106) := ftq_ok (by decide +kernel)
theorem d25_52 : ft 25 52 = some (.iload_n 2, 1, 53, 0, 0, 0, 0) := ftq_ok (by decide +kernel)
theorem d25_53 : ft 25 53 = some (.aload_n 1, 1, 54, 0, 0, 0, 0) := ftq_ok (by decide +kernel)
theorem d25_54 : ft 25 54 = some (.getfield 27, 3, 57, 4, 5, 3, 106) := ftq_ok (by decide +kernel)
theorem d25_57 : ft 25 57 = some (.iload_n 2, 1, 58, 0, 0, 0, 0) := ftq_ok (by decide +kernel)
theorem d25_58 : ft 25 58 = some (.iaload, 1, 59, 0, 0, 0, 0) := ftq_ok (by decide +kernel)
theorem d25_59 : ft 25 59 = some (.iastore, 1, 60, 0, 0, 0, 0) := ftq_ok (by decide +kernel)
theorem d25_60 : ft 25 60 = some (.aload_n 0, 1, 61, 0, 0, 0, 0) := ftq_ok (by decide +kernel)
theorem d25_61 : ft 25 61 = some (.getfield 31, 3, 64, 4, 6, 3, 109) := ftq_ok (by decide +kernel)
theorem d25_64 : ft 25 64 = some (.iload_n 2, 1, 65, 0, 0, 0, 0) := ftq_ok (by decide +kernel)
theorem d25_65 : ft 25 65 = some (.aload_n 1, 1, 66, 0, 0, 0, 0) := ftq_ok (by decide +kernel)
theorem d25_66 : ft 25 66 = some (.getfield 31, 3, 69, 4, 6, 3, 109) := ftq_ok (by decide +kernel)
theorem d25_69 : ft 25 69 = some (.iload_n 2, 1, 70, 0, 0, 0, 0) := ftq_ok (by decide +kernel)
theorem d25_70 : ft 25 70 = some (.iaload, 1, 71, 0, 0, 0, 0) := ftq_ok (by decide +kernel)
theorem d25_71 : ft 25 71 = some (.iastore, 1, 72, 0, 0, 0, 0) := ftq_ok (by decide +kernel)
theorem d25_72 : ft 25 72 = some (.iinc 2 1, 3, 75, 0, 0, 0, 0) := ftq_ok (by decide +kernel)
theorem d25_75 : ft 25 75 = some (.goto (-33), 3, 78, 42, 0, 0, 0) := ftq_ok (by decide +kernel)
theorem d25_78 : ft 25 78 = some (.iconst 0, 1, 79, 0, 0, 0, 0) := ftq_ok (by decide +kernel)
theorem d25_79 : ft 25 79 = some (.istore_n 2, 1, 80, 0, 0, 0, 0) := ftq_ok (by decide +kernel)
theorem d25_80 : ft 25 80 = some (.iload_n 2, 1, 81, 0, 0, 0, 0) := ftq_ok (by decide +kernel)
theorem d25_81 : ft 25 81 = some (.iconst 5, 1, 82, 0, 0, 0, 0) := ftq_ok (by decide +kernel)
theorem d25_82 : ft 25 82 = some (.if_icmp .ge 69, 3, 85, 151, 0, 0, 0) := ftq_ok (by decide +kernel)
theorem d25_85 : ft 25 85 = some (.aload_n 0, 1, 86, 0, 0, 0, 0) := ftq_ok (by decide +kernel)
theorem d25_86 : ft 25 86 = some (.getfield 34, 3, 89, 4, 7, 3, 111) := ftq_ok (by decide +kernel)
theorem d25_89 : ft 25 89 = some (.iload_n 2, 1, 90, 0, 0, 0, 0) := ftq_ok (by decide +kernel)
theorem d25_90 : ft 25 90 = some (.aload_n 1, 1, 91, 0, 0, 0, 0) := ftq_ok (by decide +kernel)
theorem d25_91 : ft 25 91 = some (.getfield 34, 3, 94, 4, 7, 3, 111) := ftq_ok (by decide +kernel)
theorem d25_94 : ft 25 94 = some (.iload_n 2, 1, 95, 0, 0, 0, 0) := ftq_ok (by decide +kernel)
theorem d25_95 : ft 25 95 = some (.iaload, 1, 96, 0, 0, 0, 0) := ftq_ok (by decide +kernel)
theorem d25_96 : ft 25 96 = some (.iastore, 1, 97, 0, 0, 0, 0) := ftq_ok (by decide +kernel)
theorem d25_97 : ft 25 97 = some (.aload_n 0, 1, 98, 0, 0, 0, 0) := ftq_ok (by decide +kernel)
theorem d25_98 : ft 25 98 = some (.getfield 37, 3, 101, 4, 8, 3, 113) := ftq_ok (by decide +kernel)
theorem d25_101 : ft 25 101 = some (.iload_n 2, 1, 102, 0, 0, 0, 0) := ftq_ok (by decide +kernel)
theorem d25_102 : ft 25 102 = some (.aload_n 1, 1, 103, 0, 0, 0, 0) := ftq_ok (by decide +kernel)
theorem d25_103 : ft 25 103 = some (.getfield 37, 3, 106, 4, 8, 3, 113) := ftq_ok (by decide +kernel)
theorem d25_106 : ft 25 106 = some (.iload_n 2, 1, 107, 0, 0, 0, 0) := ftq_ok (by decide +kernel)
theorem d25_107 : ft 25 107 = some (.iaload, 1, 108, 0, 0, 0, 0) := ftq_ok (by decide +kernel)
theorem d25_108 : ft 25 108 = some (.iastore, 1, 109, 0, 0, 0, 0) := ftq_ok (by decide +kernel)
theorem d25_109 : ft 25 109 = some (.aload_n 0, 1, 110, 0, 0, 0, 0) := ftq_ok (by decide +kernel)
theorem d25_110 : ft 25 110 = some (.getfield 40, 3, 113, 4, 9, 3, 116) := ftq_ok (by decide +kernel)
theorem d25_113 : ft 25 113 = some (.iload_n 2, 1, 114, 0, 0, 0, 0) := ftq_ok (by decide +kernel)
theorem d25_114 : ft 25 114 = some (.aload_n 1, 1, 115, 0, 0, 0, 0) := ftq_ok (by decide +kernel)
theorem d25_115 : ft 25 115 = some (.getfield 40, 3, 118, 4, 9, 3, 116) := ftq_ok (by decide +kernel)
theorem d25_118 : ft 25 118 = some (.iload_n 2, 1, 119, 0, 0, 0, 0) := ftq_ok (by decide +kernel)
theorem d25_119 : ft 25 119 = some (.iaload, 1, 120, 0, 0, 0, 0) := ftq_ok (by decide +kernel)
theorem d25_120 : ft 25 120 = some (.iastore, 1, 121, 0, 0, 0, 0) := ftq_ok (by decide +kernel)
theorem d25_121 : ft 25 121 = some (.aload_n 0, 1, 122, 0, 0, 0, 0) := ftq_ok (by decide +kernel)
theorem d25_122 : ft 25 122 = some (.getfield 43, 3, 125, 4, 10, 3, 120) := ftq_ok (by decide +kernel)
theorem d25_125 : ft 25 125 = some (.iload_n 2, 1, 126, 0, 0, 0, 0) := ftq_ok (by decide +kernel)
theorem d25_126 : ft 25 126 = some (.aload_n 1, 1, 127, 0, 0, 0, 0) := ftq_ok (by decide +kernel)
theorem d25_127 : ft 25 127 = some (.getfield 43, 3, 130, 4, 10, 3, 120) := ftq_ok (by decide +kernel)
theorem d25_130 : ft 25 130 = some (.iload_n 2, 1, 131, 0, 0, 0, 0) := ftq_ok (by decide +kernel)
theorem d25_131 : ft 25 131 = some (.iaload, 1, 132, 0, 0, 0, 0) := ftq_ok (by decide +kernel)
theorem d25_132 : ft 25 132 = some (.iastore, 1, 133, 0, 0, 0, 0) := ftq_ok (by decide +kernel)
theorem d25_133 : ft 25 133 = some (.aload_n 0, 1, 134, 0, 0, 0, 0) := ftq_ok (by decide +kernel)
theorem d25_134 : ft 25 134 = some (.getfield 46, 3, 137, 4, 11, 3, 123) := ftq_ok (by decide +kernel)
theorem d25_137 : ft 25 137 = some (.iload_n 2, 1, 138, 0, 0, 0, 0) := ftq_ok (by decide +kernel)
theorem d25_138 : ft 25 138 = some (.aload_n 1, 1, 139, 0, 0, 0, 0) := ftq_ok (by decide +kernel)
theorem d25_139 : ft 25 139 = some (.getfield 46, 3, 142, 4, 11, 3, 123) := ftq_ok (by decide +kernel)
theorem d25_142 : ft 25 142 = some (.iload_n 2, 1, 143, 0, 0, 0, 0) := ftq_ok (by decide +kernel)
theorem d25_143 : ft 25 143 = some (.iaload, 1, 144, 0, 0, 0, 0) := ftq_ok (by decide +kernel)
theorem d25_144 : ft 25 144 = some (.iastore, 1, 145, 0, 0, 0, 0) := ftq_ok (by decide +kernel)
theorem d25_145 : ft 25 145 = some (.iinc 2 1, 3, 148, 0, 0, 0, 0) := ftq_ok (by decide +kernel)
theorem d25_148 : ft 25 148 = some (.goto (-68), 3, 151, 80, 0, 0, 0) := ftq_ok (by decide +kernel)
theorem d25_151 : ft 25 151 = some (.return_, 1, 152, 0, 0, 0, 0) := ftq_ok (by decide +kernel)
-- 26: Trail_hasStretch
theorem d26_0 : ft 26 0 = some (.iload_n 1, 1, 1, 0, 0, 0, 0) := ftq_ok (by decide +kernel)
theorem d26_1 : ft 26 1 = some (.ifCond .lt 15, 3, 4, 16, 0, 0, 0) := ftq_ok (by decide +kernel)
theorem d26_4 : ft 26 4 = some (.iload_n 1, 1, 5, 0, 0, 0, 0) := ftq_ok (by decide +kernel)
theorem d26_5 : ft 26 5 = some (.aload_n 0, 1, 6, 0, 0, 0, 0) := ftq_ok (by decide +kernel)
theorem d26_6 : ft 26 6 = some (.getfield 9, 3, 9, 4, 0, 0, 87) := ftq_ok (by decide +kernel)
theorem d26_9 : ft 26 9 = some (.if_icmp .ge 7, 3, 12, 16, 0, 0, 0) := ftq_ok (by decide +kernel)
theorem d26_12 : ft 26 12 = some (.iconst 1, 1, 13, 0, 0, 0, 0) := ftq_ok (by decide +kernel)
theorem d26_13 : ft 26 13 = some (.goto 4, 3, 16, 17, 0, 0, 0) := ftq_ok (by decide +kernel)
theorem d26_16 : ft 26 16 = some (.iconst 0, 1, 17, 0, 0, 0, 0) := ftq_ok (by decide +kernel)
theorem d26_17 : ft 26 17 = some (.ireturn, 1, 18, 0, 0, 0, 0) := ftq_ok (by decide +kernel)
-- 27: Trail_hasWalker
theorem d27_0 : ft 27 0 = some (.iload_n 1, 1, 1, 0, 0, 0, 0) := ftq_ok (by decide +kernel)
theorem d27_1 : ft 27 1 = some (.ifCond .lt 15, 3, 4, 16, 0, 0, 0) := ftq_ok (by decide +kernel)
theorem d27_4 : ft 27 4 = some (.iload_n 1, 1, 5, 0, 0, 0, 0) := ftq_ok (by decide +kernel)
theorem d27_5 : ft 27 5 = some (.aload_n 0, 1, 6, 0, 0, 0, 0) := ftq_ok (by decide +kernel)
theorem d27_6 : ft 27 6 = some (.getfield 21, 3, 9, 4, 3, 0, 99) := ftq_ok (by decide +kernel)
theorem d27_9 : ft 27 9 = some (.if_icmp .ge 7, 3, 12, 16, 0, 0, 0) := ftq_ok (by decide +kernel)
theorem d27_12 : ft 27 12 = some (.iconst 1, 1, 13, 0, 0, 0, 0) := ftq_ok (by decide +kernel)
theorem d27_13 : ft 27 13 = some (.goto 4, 3, 16, 17, 0, 0, 0) := ftq_ok (by decide +kernel)
theorem d27_16 : ft 27 16 = some (.iconst 0, 1, 17, 0, 0, 0, 0) := ftq_ok (by decide +kernel)
theorem d27_17 : ft 27 17 = some (.ireturn, 1, 18, 0, 0, 0, 0) := ftq_ok (by decide +kernel)
-- 28: Trail_join
theorem d28_0 : ft 28 0 = some (.aload_n 0, 1, 1, 0, 0, 0, 0) := ftq_ok (by decide +kernel)
theorem d28_1 : ft 28 1 = some (.getfield 21, 3, 4, 4, 3, 0, 99) := ftq_ok (by decide +kernel)
theorem d28_4 : ft 28 4 = some (.iconst 5, 1, 5, 0, 0, 0, 0) := ftq_ok (by decide +kernel)
theorem d28_5 : ft 28 5 = some (.if_icmp .lt 6, 3, 8, 11, 0, 0, 0) := ftq_ok (by decide +kernel)
theorem d28_8 : ft 28 8 = some (.bipush (-104), 2, 10, 0, 0, 0, 0) := ftq_ok (by decide +kernel)
theorem d28_10 : ft 28 10 = some (.ireturn, 1, 11, 0, 0, 0, 0) := ftq_ok (by decide +kernel)
theorem d28_11 : ft 28 11 = some (.aload_n 0, 1, 12, 0, 0, 0, 0) := ftq_ok (by decide +kernel)
theorem d28_12 : ft 28 12 = some (.getfield 21, 3, 15, 4, 3, 0, 99) := ftq_ok (by decide +kernel)
theorem d28_15 : ft 28 15 = some (.istore_n 3, 1, 16, 0, 0, 0, 0) := ftq_ok (by decide +kernel)
theorem d28_16 : ft 28 16 = some (.aload_n 0, 1, 17, 0, 0, 0, 0) := ftq_ok (by decide +kernel)
theorem d28_17 : ft 28 17 = some (.getfield 34, 3, 20, 4, 7, 3, 111) := ftq_ok (by decide +kernel)
theorem d28_20 : ft 28 20 = some (.iload_n 3, 1, 21, 0, 0, 0, 0) := ftq_ok (by decide +kernel)
theorem d28_21 : ft 28 21 = some (.iload_n 1, 1, 22, 0, 0, 0, 0) := ftq_ok (by decide +kernel)
theorem d28_22 : ft 28 22 = some (.iastore, 1, 23, 0, 0, 0, 0) := ftq_ok (by decide +kernel)
theorem d28_23 : ft 28 23 = some (.aload_n 0, 1, 24, 0, 0, 0, 0) := ftq_ok (by decide +kernel)
theorem d28_24 : ft 28 24 = some (.getfield 37, 3, 27, 4, 8, 3, 113) := ftq_ok (by decide +kernel)
theorem d28_27 : ft 28 27 = some (.iload_n 3, 1, 28, 0, 0, 0, 0) := ftq_ok (by decide +kernel)
theorem d28_28 : ft 28 28 = some (.iload_n 2, 1, 29, 0, 0, 0, 0) := ftq_ok (by decide +kernel)
theorem d28_29 : ft 28 29 = some (.iastore, 1, 30, 0, 0, 0, 0) := ftq_ok (by decide +kernel)
theorem d28_30 : ft 28 30 = some (.aload_n 0, 1, 31, 0, 0, 0, 0) := ftq_ok (by decide +kernel)
theorem d28_31 : ft 28 31 = some (.getfield 40, 3, 34, 4, 9, 3, 116) := ftq_ok (by decide +kernel)
theorem d28_34 : ft 28 34 = some (.iload_n 3, 1, 35, 0, 0, 0, 0) := ftq_ok (by decide +kernel)
theorem d28_35 : ft 28 35 = some (.iload_n 2, 1, 36, 0, 0, 0, 0) := ftq_ok (by decide +kernel)
theorem d28_36 : ft 28 36 = some (.iastore, 1, 37, 0, 0, 0, 0) := ftq_ok (by decide +kernel)
theorem d28_37 : ft 28 37 = some (.aload_n 0, 1, 38, 0, 0, 0, 0) := ftq_ok (by decide +kernel)
theorem d28_38 : ft 28 38 = some (.getfield 43, 3, 41, 4, 10, 3, 120) := ftq_ok (by decide +kernel)
theorem d28_41 : ft 28 41 = some (.iload_n 3, 1, 42, 0, 0, 0, 0) := ftq_ok (by decide +kernel)
theorem d28_42 : ft 28 42 = some (.iconst (-1), 1, 43, 0, 0, 0, 0) := ftq_ok (by decide +kernel)
theorem d28_43 : ft 28 43 = some (.iastore, 1, 44, 0, 0, 0, 0) := ftq_ok (by decide +kernel)
theorem d28_44 : ft 28 44 = some (.aload_n 0, 1, 45, 0, 0, 0, 0) := ftq_ok (by decide +kernel)
theorem d28_45 : ft 28 45 = some (.getfield 46, 3, 48, 4, 11, 3, 123) := ftq_ok (by decide +kernel)
theorem d28_48 : ft 28 48 = some (.iload_n 3, 1, 49, 0, 0, 0, 0) := ftq_ok (by decide +kernel)
theorem d28_49 : ft 28 49 = some (.iload_n 3, 1, 50, 0, 0, 0, 0) := ftq_ok (by decide +kernel)
theorem d28_50 : ft 28 50 = some (.iastore, 1, 51, 0, 0, 0, 0) := ftq_ok (by decide +kernel)
theorem d28_51 : ft 28 51 = some (.aload_n 0, 1, 52, 0, 0, 0, 0) := ftq_ok (by decide +kernel)
theorem d28_52 : ft 28 52 = some (.dup, 1, 53, 0, 0, 0, 0) := ftq_ok (by decide +kernel)
theorem d28_53 : ft 28 53 = some (.getfield 21, 3, 56, 4, 3, 0, 99) := ftq_ok (by decide +kernel)
theorem d28_56 : ft 28 56 = some (.iconst 1, 1, 57, 0, 0, 0, 0) := ftq_ok (by decide +kernel)
theorem d28_57 : ft 28 57 = some (.iadd, 1, 58, 0, 0, 0, 0) := ftq_ok (by decide +kernel)
theorem d28_58 : ft 28 58 = some (.putfield 21, 3, 61, 4, 3, 0, 99) := ftq_ok (by decide +kernel)
theorem d28_61 : ft 28 61 = some (.iload_n 3, 1, 62, 0, 0, 0, 0) := ftq_ok (by decide +kernel)
theorem d28_62 : ft 28 62 = some (.ireturn, 1, 63, 0, 0, 0, 0) := ftq_ok (by decide +kernel)
-- 29: Trail_isOfKind
theorem d29_0 : ft 29 0 = some (.iload_n 2, 1, 1, 0, 0, 0, 0) := ftq_ok (by decide +kernel)
theorem d29_1 : ft 29 1 = some (.ifCond .eq 28, 3, 4, 29, 0, 0, 0) := ftq_ok (by decide +kernel)
theorem d29_4 : ft 29 4 = some (.aload_n 0, 1, 5, 0, 0, 0, 0) := ftq_ok (by decide +kernel)
theorem d29_5 : ft 29 5 = some (.getfield 34, 3, 8, 4, 7, 3, 111) := ftq_ok (by decide +kernel)
theorem d29_8 : ft 29 8 = some (.iload_n 1, 1, 9, 0, 0, 0, 0) := ftq_ok (by decide +kernel)
theorem d29_9 : ft 29 9 = some (.iaload, 1, 10, 0, 0, 0, 0) := ftq_ok (by decide +kernel)
theorem d29_10 : ft 29 10 = some (.iload_n 2, 1, 11, 0, 0, 0, 0) := ftq_ok (by decide +kernel)
theorem d29_11 : ft 29 11 = some (.if_icmp .eq 18, 3, 14, 29, 0, 0, 0) := ftq_ok (by decide +kernel)
theorem d29_14 : ft 29 14 = some (.iload_n 2, 1, 15, 0, 0, 0, 0) := ftq_ok (by decide +kernel)
theorem d29_15 : ft 29 15 = some (.iconst 3, 1, 16, 0, 0, 0, 0) := ftq_ok (by decide +kernel)
theorem d29_16 : ft 29 16 = some (.if_icmp .ne 17, 3, 19, 33, 0, 0, 0) := ftq_ok (by decide +kernel)
theorem d29_19 : ft 29 19 = some (.aload_n 0, 1, 20, 0, 0, 0, 0) := ftq_ok (by decide +kernel)
theorem d29_20 : ft 29 20 = some (.getfield 34, 3, 23, 4, 7, 3, 111) := ftq_ok (by decide +kernel)
theorem d29_23 : ft 29 23 = some (.iload_n 1, 1, 24, 0, 0, 0, 0) := ftq_ok (by decide +kernel)
theorem d29_24 : ft 29 24 = some (.iaload, 1, 25, 0, 0, 0, 0) := ftq_ok (by decide +kernel)
theorem d29_25 : ft 29 25 = some (.iconst 4, 1, 26, 0, 0, 0, 0) := ftq_ok (by decide +kernel)
theorem d29_26 : ft 29 26 = some (.if_icmp .ne 7, 3, 29, 33, 0, 0, 0) := ftq_ok (by decide +kernel)
theorem d29_29 : ft 29 29 = some (.iconst 1, 1, 30, 0, 0, 0, 0) := ftq_ok (by decide +kernel)
theorem d29_30 : ft 29 30 = some (.goto 4, 3, 33, 34, 0, 0, 0) := ftq_ok (by decide +kernel)
theorem d29_33 : ft 29 33 = some (.iconst 0, 1, 34, 0, 0, 0, 0) := ftq_ok (by decide +kernel)
theorem d29_34 : ft 29 34 = some (.ireturn, 1, 35, 0, 0, 0, 0) := ftq_ok (by decide +kernel)
-- 30: Trail_placeOf
theorem d30_0 : ft 30 0 = some (.iconst 0, 1, 1, 0, 0, 0, 0) := ftq_ok (by decide +kernel)
theorem d30_1 : ft 30 1 = some (.istore_n 2, 1, 2, 0, 0, 0, 0) := ftq_ok (by decide +kernel)
theorem d30_2 : ft 30 2 = some (.iload_n 2, 1, 3, 0, 0, 0, 0) := ftq_ok (by decide +kernel)
theorem d30_3 : ft 30 3 = some (.aload_n 0, 1, 4, 0, 0, 0, 0) := ftq_ok (by decide +kernel)
theorem d30_4 : ft 30 4 = some (.getfield 21, 3, 7, 4, 3, 0, 99) := ftq_ok (by decide +kernel)
theorem d30_7 : ft 30 7 = some (.if_icmp .ge 21, 3, 10, 28, 0, 0, 0) := ftq_ok (by decide +kernel)
theorem d30_10 : ft 30 10 = some (.aload_n 0, 1, 11, 0, 0, 0, 0) := ftq_ok (by decide +kernel)
theorem d30_11 : ft 30 11 = some (.getfield 46, 3, 14, 4, 11, 3, 123) := ftq_ok (by decide +kernel)
theorem d30_14 : ft 30 14 = some (.iload_n 2, 1, 15, 0, 0, 0, 0) := ftq_ok (by decide +kernel)
theorem d30_15 : ft 30 15 = some (.iaload, 1, 16, 0, 0, 0, 0) := ftq_ok (by decide +kernel)
theorem d30_16 : ft 30 16 = some (.iload_n 1, 1, 17, 0, 0, 0, 0) := ftq_ok (by decide +kernel)
theorem d30_17 : ft 30 17 = some (.if_icmp .ne 5, 3, 20, 22, 0, 0, 0) := ftq_ok (by decide +kernel)
theorem d30_20 : ft 30 20 = some (.iload_n 2, 1, 21, 0, 0, 0, 0) := ftq_ok (by decide +kernel)
theorem d30_21 : ft 30 21 = some (.ireturn, 1, 22, 0, 0, 0, 0) := ftq_ok (by decide +kernel)
theorem d30_22 : ft 30 22 = some (.iinc 2 1, 3, 25, 0, 0, 0, 0) := ftq_ok (by decide +kernel)
theorem d30_25 : ft 30 25 = some (.goto (-23), 3, 28, 2, 0, 0, 0) := ftq_ok (by decide +kernel)
theorem d30_28 : ft 30 28 = some (.iconst (-1), 1, 29, 0, 0, 0, 0) := ftq_ok (by decide +kernel)
theorem d30_29 : ft 30 29 = some (.ireturn, 1, 30, 0, 0, 0, 0) := ftq_ok (by decide +kernel)
-- 31: Trail_timesFirst
theorem d31_0 : ft 31 0 = some (.iconst 0, 1, 1, 0, 0, 0, 0) := ftq_ok (by decide +kernel)
theorem d31_1 : ft 31 1 = some (.istore_n 2, 1, 2, 0, 0, 0, 0) := ftq_ok (by decide +kernel)
theorem d31_2 : ft 31 2 = some (.iconst 0, 1, 3, 0, 0, 0, 0) := ftq_ok (by decide +kernel)
theorem d31_3 : ft 31 3 = some (.istore_n 3, 1, 4, 0, 0, 0, 0) := ftq_ok (by decide +kernel)
theorem d31_4 : ft 31 4 = some (.iload_n 3, 1, 5, 0, 0, 0, 0) := ftq_ok (by decide +kernel)
theorem d31_5 : ft 31 5 = some (.aload_n 0, 1, 6, 0, 0, 0, 0) := ftq_ok (by decide +kernel)
theorem d31_6 : ft 31 6 = some (.getfield 18, 3, 9, 4, 2, 0, 93) := ftq_ok (by decide +kernel)
theorem d31_9 : ft 31 9 = some (.if_icmp .ge 22, 3, 12, 31, 0, 0, 0) := ftq_ok (by decide +kernel)
theorem d31_12 : ft 31 12 = some (.aload_n 0, 1, 13, 0, 0, 0, 0) := ftq_ok (by decide +kernel)
theorem d31_13 : ft 31 13 = some (.getfield 31, 3, 16, 4, 6, 3, 109) := ftq_ok (by decide +kernel)
theorem d31_16 : ft 31 16 = some (.iload_n 3, 1, 17, 0, 0, 0, 0) := ftq_ok (by decide +kernel)
theorem d31_17 : ft 31 17 = some (.iaload, 1, 18, 0, 0, 0, 0) := ftq_ok (by decide +kernel)
theorem d31_18 : ft 31 18 = some (.iload_n 1, 1, 19, 0, 0, 0, 0) := ftq_ok (by decide +kernel)
theorem d31_19 : ft 31 19 = some (.if_icmp .ne 6, 3, 22, 25, 0, 0, 0) := ftq_ok (by decide +kernel)
theorem d31_22 : ft 31 22 = some (.iinc 2 1, 3, 25, 0, 0, 0, 0) := ftq_ok (by decide +kernel)
theorem d31_25 : ft 31 25 = some (.iinc 3 1, 3, 28, 0, 0, 0, 0) := ftq_ok (by decide +kernel)
theorem d31_28 : ft 31 28 = some (.goto (-24), 3, 31, 4, 0, 0, 0) := ftq_ok (by decide +kernel)
theorem d31_31 : ft 31 31 = some (.iload_n 2, 1, 32, 0, 0, 0, 0) := ftq_ok (by decide +kernel)
theorem d31_32 : ft 31 32 = some (.ireturn, 1, 33, 0, 0, 0, 0) := ftq_ok (by decide +kernel)
-- 32: Trail_nextPay
theorem d32_0 : ft 32 0 = some (.aload_n 0, 1, 1, 0, 0, 0, 0) := ftq_ok (by decide +kernel)
theorem d32_1 : ft 32 1 = some (.iload_n 1, 1, 2, 0, 0, 0, 0) := ftq_ok (by decide +kernel)
theorem d32_2 : ft 32 2 = some (.invokevirtual 67, 3, 5, 30, 1, 0, 390) := ftq_ok (by decide +kernel)
theorem d32_5 : ft 32 5 = some (.istore_n 2, 1, 6, 0, 0, 0, 0) := ftq_ok (by decide +kernel)
theorem d32_6 : ft 32 6 = some (.aload_n 0, 1, 7, 0, 0, 0, 0) := ftq_ok (by decide +kernel)
theorem d32_7 : ft 32 7 = some (.getfield 18, 3, 10, 4, 2, 0, 93) := ftq_ok (by decide +kernel)
theorem d32_10 : ft 32 10 = some (.aload_n 0, 1, 11, 0, 0, 0, 0) := ftq_ok (by decide +kernel)
theorem d32_11 : ft 32 11 = some (.getfield 9, 3, 14, 4, 0, 0, 87) := ftq_ok (by decide +kernel)
theorem d32_14 : ft 32 14 = some (.if_icmp .ge 25, 3, 17, 39, 0, 0, 0) := ftq_ok (by decide +kernel)
theorem d32_17 : ft 32 17 = some (.iload_n 2, 1, 18, 0, 0, 0, 0) := ftq_ok (by decide +kernel)
theorem d32_18 : ft 32 18 = some (.iconst (-1), 1, 19, 0, 0, 0, 0) := ftq_ok (by decide +kernel)
theorem d32_19 : ft 32 19 = some (.if_icmp .eq 20, 3, 22, 39, 0, 0, 0) := ftq_ok (by decide +kernel)
theorem d32_22 : ft 32 22 = some (.aload_n 0, 1, 23, 0, 0, 0, 0) := ftq_ok (by decide +kernel)
theorem d32_23 : ft 32 23 = some (.iload_n 2, 1, 24, 0, 0, 0, 0) := ftq_ok (by decide +kernel)
theorem d32_24 : ft 32 24 = some (.aload_n 0, 1, 25, 0, 0, 0, 0) := ftq_ok (by decide +kernel)
theorem d32_25 : ft 32 25 = some (.getfield 27, 3, 28, 4, 5, 3, 106) := ftq_ok (by decide +kernel)
theorem d32_28 : ft 32 28 = some (.aload_n 0, 1, 29, 0, 0, 0, 0) := ftq_ok (by decide +kernel)
theorem d32_29 : ft 32 29 = some (.getfield 18, 3, 32, 4, 2, 0, 93) := ftq_ok (by decide +kernel)
theorem d32_32 : ft 32 32 = some (.iaload, 1, 33, 0, 0, 0, 0) := ftq_ok (by decide +kernel)
theorem d32_33 : ft 32 33 = some (.invokevirtual 70, 3, 36, 33, 2, 0, 391) := ftq_ok (by decide +kernel)
theorem d32_36 : ft 32 36 = some (.goto 4, 3, 39, 40, 0, 0, 0) := ftq_ok (by decide +kernel)
theorem d32_39 : ft 32 39 = some (.iconst (-1), 1, 40, 0, 0, 0, 0) := ftq_ok (by decide +kernel)
theorem d32_40 : ft 32 40 = some (.ireturn, 1, 41, 0, 0, 0, 0) := ftq_ok (by decide +kernel)
-- 33: Trail_payAt
theorem d33_0 : ft 33 0 = some (.aload_n 0, 1, 1, 0, 0, 0, 0) := ftq_ok (by decide +kernel)
theorem d33_1 : ft 33 1 = some (.getfield 34, 3, 4, 4, 7, 3, 111) := ftq_ok (by decide +kernel)
theorem d33_4 : ft 33 4 = some (.aload_n 0, 1, 5, 0, 0, 0, 0) := ftq_ok (by decide +kernel)
theorem d33_5 : ft 33 5 = some (.getfield 46, 3, 8, 4, 11, 3, 123) := ftq_ok (by decide +kernel)
theorem d33_8 : ft 33 8 = some (.iload_n 1, 1, 9, 0, 0, 0, 0) := ftq_ok (by decide +kernel)
theorem d33_9 : ft 33 9 = some (.iaload, 1, 10, 0, 0, 0, 0) := ftq_ok (by decide +kernel)
theorem d33_10 : ft 33 10 = some (.iaload, 1, 11, 0, 0, 0, 0) := ftq_ok (by decide +kernel)
theorem d33_11 : ft 33 11 = some (.istore_n 3, 1, 12, 0, 0, 0, 0) := ftq_ok (by decide +kernel)
theorem d33_12 : ft 33 12 = some (.iload_n 1, 1, 13, 0, 0, 0, 0) := ftq_ok (by decide +kernel)
theorem d33_13 : ft 33 13 = some (.istore 4, 2, 15, 0, 0, 0, 0) := ftq_ok (by decide +kernel)
theorem d33_15 : ft 33 15 = some (.iload_n 1, 1, 16, 0, 0, 0, 0) := ftq_ok (by decide +kernel)
theorem d33_16 : ft 33 16 = some (.ifCond .ne 19, 3, 19, 35, 0, 0, 0) := ftq_ok (by decide +kernel)
theorem d33_19 : ft 33 19 = some (.iload_n 3, 1, 20, 0, 0, 0, 0) := ftq_ok (by decide +kernel)
theorem d33_20 : ft 33 20 = some (.iconst 3, 1, 21, 0, 0, 0, 0) := ftq_ok (by decide +kernel)
theorem d33_21 : ft 33 21 = some (.if_icmp .eq 8, 3, 24, 29, 0, 0, 0) := ftq_ok (by decide +kernel)
theorem d33_24 : ft 33 24 = some (.iload_n 3, 1, 25, 0, 0, 0, 0) := ftq_ok (by decide +kernel)
theorem d33_25 : ft 33 25 = some (.iconst 4, 1, 26, 0, 0, 0, 0) := ftq_ok (by decide +kernel)
theorem d33_26 : ft 33 26 = some (.if_icmp .ne 36, 3, 29, 62, 0, 0, 0) := ftq_ok (by decide +kernel)
theorem d33_29 : ft 33 29 = some (.iconst 1, 1, 30, 0, 0, 0, 0) := ftq_ok (by decide +kernel)
theorem d33_30 : ft 33 30 = some (.istore 4, 2, 32, 0, 0, 0, 0) := ftq_ok (by decide +kernel)
theorem d33_32 : ft 33 32 = some (.goto 30, 3, 35, 62, 0, 0, 0) := ftq_ok (by decide +kernel)
theorem d33_35 : ft 33 35 = some (.iload_n 3, 1, 36, 0, 0, 0, 0) := ftq_ok (by decide +kernel)
theorem d33_36 : ft 33 36 = some (.iconst 1, 1, 37, 0, 0, 0, 0) := ftq_ok (by decide +kernel)
theorem d33_37 : ft 33 37 = some (.if_icmp .ne 25, 3, 40, 62, 0, 0, 0) := ftq_ok (by decide +kernel)
theorem d33_40 : ft 33 40 = some (.aload_n 0, 1, 41, 0, 0, 0, 0) := ftq_ok (by decide +kernel)
theorem d33_41 : ft 33 41 = some (.getfield 34, 3, 44, 4, 7, 3, 111) := ftq_ok (by decide +kernel)
theorem d33_44 : ft 33 44 = some (.aload_n 0, 1, 45, 0, 0, 0, 0) := ftq_ok (by decide +kernel)
theorem d33_45 : ft 33 45 = some (.getfield 46, 3, 48, 4, 11, 3, 123) := ftq_ok (by decide +kernel)
theorem d33_48 : ft 33 48 = some (.iload_n 1, 1, 49, 0, 0, 0, 0) := ftq_ok (by decide +kernel)
theorem d33_49 : ft 33 49 = some (.iconst 1, 1, 50, 0, 0, 0, 0) := ftq_ok (by decide +kernel)
theorem d33_50 : ft 33 50 = some (.isub, 1, 51, 0, 0, 0, 0) := ftq_ok (by decide +kernel)
theorem d33_51 : ft 33 51 = some (.iaload, 1, 52, 0, 0, 0, 0) := ftq_ok (by decide +kernel)
theorem d33_52 : ft 33 52 = some (.iaload, 1, 53, 0, 0, 0, 0) := ftq_ok (by decide +kernel)
theorem d33_53 : ft 33 53 = some (.iconst 4, 1, 54, 0, 0, 0, 0) := ftq_ok (by decide +kernel)
theorem d33_54 : ft 33 54 = some (.if_icmp .ne 8, 3, 57, 62, 0, 0, 0) := ftq_ok (by decide +kernel)
theorem d33_57 : ft 33 57 = some (.iload_n 1, 1, 58, 0, 0, 0, 0) := ftq_ok (by decide +kernel)
theorem d33_58 : ft 33 58 = some (.iconst 1, 1, 59, 0, 0, 0, 0) := ftq_ok (by decide +kernel)
theorem d33_59 : ft 33 59 = some (.isub, 1, 60, 0, 0, 0, 0) := ftq_ok (by decide +kernel)
theorem d33_60 : ft 33 60 = some (.istore 4, 2, 62, 0, 0, 0, 0) := ftq_ok (by decide +kernel)
theorem d33_62 : ft 33 62 = some (.iload_n 2, 1, 63, 0, 0, 0, 0) := ftq_ok (by decide +kernel)
theorem d33_63 : ft 33 63 = some (.iconst 1, 1, 64, 0, 0, 0, 0) := ftq_ok (by decide +kernel)
theorem d33_64 : ft 33 64 = some (.iload 4, 2, 66, 0, 0, 0, 0) := ftq_ok (by decide +kernel)
theorem d33_66 : ft 33 66 = some (.ishl, 1, 67, 0, 0, 0, 0) := ftq_ok (by decide +kernel)
theorem d33_67 : ft 33 67 = some (.iadd, 1, 68, 0, 0, 0, 0) := ftq_ok (by decide +kernel)
theorem d33_68 : ft 33 68 = some (.iconst 1, 1, 69, 0, 0, 0, 0) := ftq_ok (by decide +kernel)
theorem d33_69 : ft 33 69 = some (.isub, 1, 70, 0, 0, 0, 0) := ftq_ok (by decide +kernel)
theorem d33_70 : ft 33 70 = some (.iload 4, 2, 72, 0, 0, 0, 0) := ftq_ok (by decide +kernel)
theorem d33_72 : ft 33 72 = some (.ishr, 1, 73, 0, 0, 0, 0) := ftq_ok (by decide +kernel)
theorem d33_73 : ft 33 73 = some (.ireturn, 1, 74, 0, 0, 0, 0) := ftq_ok (by decide +kernel)
-- 34: Trail_treadNext
theorem d34_0 : ft 34 0 = some (.aload_n 0, 1, 1, 0, 0, 0, 0) := ftq_ok (by decide +kernel)
theorem d34_1 : ft 34 1 = some (.getfield 21, 3, 4, 4, 3, 0, 99) := ftq_ok (by decide +kernel)
theorem d34_4 : ft 34 4 = some (.ifCond .eq 21, 3, 7, 25, 0, 0, 0) := ftq_ok (by decide +kernel)
theorem d34_7 : ft 34 7 = some (.aload_n 0, 1, 8, 0, 0, 0, 0) := ftq_ok (by decide +kernel)
theorem d34_8 : ft 34 8 = some (.getfield 18, 3, 11, 4, 2, 0, 93) := ftq_ok (by decide +kernel)
theorem d34_11 : ft 34 11 = some (.aload_n 0, 1, 12, 0, 0, 0, 0) := ftq_ok (by decide +kernel)
theorem d34_12 : ft 34 12 = some (.getfield 9, 3, 15, 4, 0, 0, 87) := ftq_ok (by decide +kernel)
theorem d34_15 : ft 34 15 = some (.if_icmp .ge 10, 3, 18, 25, 0, 0, 0) := ftq_ok (by decide +kernel)
theorem d34_18 : ft 34 18 = some (.aload_n 0, 1, 19, 0, 0, 0, 0) := ftq_ok (by decide +kernel)
theorem d34_19 : ft 34 19 = some (.invokevirtual 73, 3, 22, 35, 0, 0, 411) := ftq_ok (by decide +kernel)
theorem d34_22 : ft 34 22 = some (.ifCond .ne 5, 3, 25, 27, 0, 0, 0) := ftq_ok (by decide +kernel)
theorem d34_25 : ft 34 25 = some (.iconst 0, 1, 26, 0, 0, 0, 0) := ftq_ok (by decide +kernel)
theorem d34_26 : ft 34 26 = some (.ireturn, 1, 27, 0, 0, 0, 0) := ftq_ok (by decide +kernel)
theorem d34_27 : ft 34 27 = some (.aload_n 0, 1, 28, 0, 0, 0, 0) := ftq_ok (by decide +kernel)
theorem d34_28 : ft 34 28 = some (.getfield 46, 3, 31, 4, 11, 3, 123) := ftq_ok (by decide +kernel)
theorem d34_31 : ft 34 31 = some (.iconst 0, 1, 32, 0, 0, 0, 0) := ftq_ok (by decide +kernel)
theorem d34_32 : ft 34 32 = some (.iaload, 1, 33, 0, 0, 0, 0) := ftq_ok (by decide +kernel)
theorem d34_33 : ft 34 33 = some (.istore_n 1, 1, 34, 0, 0, 0, 0) := ftq_ok (by decide +kernel)
theorem d34_34 : ft 34 34 = some (.aload_n 0, 1, 35, 0, 0, 0, 0) := ftq_ok (by decide +kernel)
theorem d34_35 : ft 34 35 = some (.getfield 18, 3, 38, 4, 2, 0, 93) := ftq_ok (by decide +kernel)
theorem d34_38 : ft 34 38 = some (.ifCond .le 22, 3, 41, 60, 0, 0, 0) := ftq_ok (by decide +kernel)
theorem d34_41 : ft 34 41 = some (.aload_n 0, 1, 42, 0, 0, 0, 0) := ftq_ok (by decide +kernel)
theorem d34_42 : ft 34 42 = some (.getfield 31, 3, 45, 4, 6, 3, 109) := ftq_ok (by decide +kernel)
theorem d34_45 : ft 34 45 = some (.aload_n 0, 1, 46, 0, 0, 0, 0) := ftq_ok (by decide +kernel)
theorem d34_46 : ft 34 46 = some (.getfield 18, 3, 49, 4, 2, 0, 93) := ftq_ok (by decide +kernel)
theorem d34_49 : ft 34 49 = some (.iconst 1, 1, 50, 0, 0, 0, 0) := ftq_ok (by decide +kernel)
theorem d34_50 : ft 34 50 = some (.isub, 1, 51, 0, 0, 0, 0) := ftq_ok (by decide +kernel)
theorem d34_51 : ft 34 51 = some (.iaload, 1, 52, 0, 0, 0, 0) := ftq_ok (by decide +kernel)
theorem d34_52 : ft 34 52 = some (.iload_n 1, 1, 53, 0, 0, 0, 0) := ftq_ok (by decide +kernel)
theorem d34_53 : ft 34 53 = some (.if_icmp .ne 7, 3, 56, 60, 0, 0, 0) := ftq_ok (by decide +kernel)
theorem d34_56 : ft 34 56 = some (.iconst 1, 1, 57, 0, 0, 0, 0) := ftq_ok (by decide +kernel)
theorem d34_57 : ft 34 57 = some (.goto 4, 3, 60, 61, 0, 0, 0) := ftq_ok (by decide +kernel)
theorem d34_60 : ft 34 60 = some (.iconst 0, 1, 61, 0, 0, 0, 0) := ftq_ok (by decide +kernel)
theorem d34_61 : ft 34 61 = some (.istore_n 2, 1, 62, 0, 0, 0, 0) := ftq_ok (by decide +kernel)
theorem d34_62 : ft 34 62 = some (.iconst 0, 1, 63, 0, 0, 0, 0) := ftq_ok (by decide +kernel)
theorem d34_63 : ft 34 63 = some (.istore_n 3, 1, 64, 0, 0, 0, 0) := ftq_ok (by decide +kernel)
theorem d34_64 : ft 34 64 = some (.iload_n 3, 1, 65, 0, 0, 0, 0) := ftq_ok (by decide +kernel)
theorem d34_65 : ft 34 65 = some (.aload_n 0, 1, 66, 0, 0, 0, 0) := ftq_ok (by decide +kernel)
theorem d34_66 : ft 34 66 = some (.getfield 21, 3, 69, 4, 3, 0, 99) := ftq_ok (by decide +kernel)
theorem d34_69 : ft 34 69 = some (.if_icmp .ge 24, 3, 72, 93, 0, 0, 0) := ftq_ok (by decide +kernel)
theorem d34_72 : ft 34 72 = some (.aload_n 0, 1, 73, 0, 0, 0, 0) := ftq_ok (by decide +kernel)
theorem d34_73 : ft 34 73 = some (.getfield 40, 3, 76, 4, 9, 3, 116) := ftq_ok (by decide +kernel)
theorem d34_76 : ft 34 76 = some (.iload_n 3, 1, 77, 0, 0, 0, 0) := ftq_ok (by decide +kernel)
theorem d34_77 : ft 34 77 = some (.dup2, 1, 78, 0, 0, 0, 0) := ftq_ok (by decide +kernel)
theorem d34_78 : ft 34 78 = some (.iaload, 1, 79, 0, 0, 0, 0) := ftq_ok (by decide +kernel)
theorem d34_79 : ft 34 79 = some (.aload_n 0, 1, 80, 0, 0, 0, 0) := ftq_ok (by decide +kernel)
theorem d34_80 : ft 34 80 = some (.getfield 49, 3, 83, 4, 12, 3, 128) := ftq_ok (by decide +kernel)
theorem d34_83 : ft 34 83 = some (.iload_n 3, 1, 84, 0, 0, 0, 0) := ftq_ok (by decide +kernel)
theorem d34_84 : ft 34 84 = some (.iaload, 1, 85, 0, 0, 0, 0) := ftq_ok (by decide +kernel)
theorem d34_85 : ft 34 85 = some (.isub, 1, 86, 0, 0, 0, 0) := ftq_ok (by decide +kernel)
theorem d34_86 : ft 34 86 = some (.iastore, 1, 87, 0, 0, 0, 0) := ftq_ok (by decide +kernel)
theorem d34_87 : ft 34 87 = some (.iinc 3 1, 3, 90, 0, 0, 0, 0) := ftq_ok (by decide +kernel)
theorem d34_90 : ft 34 90 = some (.goto (-26), 3, 93, 64, 0, 0, 0) := ftq_ok (by decide +kernel)
theorem d34_93 : ft 34 93 = some (.aload_n 0, 1, 94, 0, 0, 0, 0) := ftq_ok (by decide +kernel)
theorem d34_94 : ft 34 94 = some (.dup, 1, 95, 0, 0, 0, 0) := ftq_ok (by decide +kernel)
theorem d34_95 : ft 34 95 = some (.getfield 24, 3, 98, 4, 4, 0, 104) := ftq_ok (by decide +kernel)
theorem d34_98 : ft 34 98 = some (.iconst 2, 1, 99, 0, 0, 0, 0) := ftq_ok (by decide +kernel)
theorem d34_99 : ft 34 99 = some (.aload_n 0, 1, 100, 0, 0, 0, 0) := ftq_ok (by decide +kernel)
theorem d34_100 : ft 34 100 = some (.getfield 27, 3, 103, 4, 5, 3, 106) := ftq_ok (by decide +kernel)
theorem d34_103 : ft 34 103 = some (.aload_n 0, 1, 104, 0, 0, 0, 0) := ftq_ok (by decide +kernel)
theorem d34_104 : ft 34 104 = some (.getfield 18, 3, 107, 4, 2, 0, 93) := ftq_ok (by decide +kernel)
theorem d34_107 : ft 34 107 = some (.iaload, 1, 108, 0, 0, 0, 0) := ftq_ok (by decide +kernel)
theorem d34_108 : ft 34 108 = some (.iconst 3, 1, 109, 0, 0, 0, 0) := ftq_ok (by decide +kernel)
theorem d34_109 : ft 34 109 = some (.idiv, 1, 110, 0, 0, 0, 0) := ftq_ok (by decide +kernel)
theorem d34_110 : ft 34 110 = some (.iadd, 1, 111, 0, 0, 0, 0) := ftq_ok (by decide +kernel)
theorem d34_111 : ft 34 111 = some (.iadd, 1, 112, 0, 0, 0, 0) := ftq_ok (by decide +kernel)
theorem d34_112 : ft 34 112 = some (.putfield 24, 3, 115, 4, 4, 0, 104) := ftq_ok (by decide +kernel)
theorem d34_115 : ft 34 115 = some (.iload_n 2, 1, 116, 0, 0, 0, 0) := ftq_ok (by decide +kernel)
theorem d34_116 : ft 34 116 = some (.ifCond .eq 23, 3, 119, 139, 0, 0, 0) := ftq_ok (by decide +kernel)
theorem d34_119 : ft 34 119 = some (.aload_n 0, 1, 120, 0, 0, 0, 0) := ftq_ok (by decide +kernel)
theorem d34_120 : ft 34 120 = some (.getfield 34, 3, 123, 4, 7, 3, 111) := ftq_ok (by decide +kernel)
theorem d34_123 : ft 34 123 = some (.iload_n 1, 1, 124, 0, 0, 0, 0) := ftq_ok (by decide +kernel)
theorem d34_124 : ft 34 124 = some (.iaload, 1, 125, 0, 0, 0, 0) := ftq_ok (by decide +kernel)
theorem d34_125 : ft 34 125 = some (.iconst 2, 1, 126, 0, 0, 0, 0) := ftq_ok (by decide +kernel)
theorem d34_126 : ft 34 126 = some (.if_icmp .ne 13, 3, 129, 139, 0, 0, 0) := ftq_ok (by decide +kernel)
theorem d34_129 : ft 34 129 = some (.aload_n 0, 1, 130, 0, 0, 0, 0) := ftq_ok (by decide +kernel)
theorem d34_130 : ft 34 130 = some (.dup, 1, 131, 0, 0, 0, 0) := ftq_ok (by decide +kernel)
theorem d34_131 : ft 34 131 = some (.getfield 24, 3, 134, 4, 4, 0, 104) := ftq_ok (by decide +kernel)
theorem d34_134 : ft 34 134 = some (.iconst 2, 1, 135, 0, 0, 0, 0) := ftq_ok (by decide +kernel)
theorem d34_135 : ft 34 135 = some (.iadd, 1, 136, 0, 0, 0, 0) := ftq_ok (by decide +kernel)
theorem d34_136 : ft 34 136 = some (.putfield 24, 3, 139, 4, 4, 0, 104) := ftq_ok (by decide +kernel)
theorem d34_139 : ft 34 139 = some (.aload_n 0, 1, 140, 0, 0, 0, 0) := ftq_ok (by decide +kernel)
theorem d34_140 : ft 34 140 = some (.getfield 31, 3, 143, 4, 6, 3, 109) := ftq_ok (by decide +kernel)
theorem d34_143 : ft 34 143 = some (.aload_n 0, 1, 144, 0, 0, 0, 0) := ftq_ok (by decide +kernel)
theorem d34_144 : ft 34 144 = some (.getfield 18, 3, 147, 4, 2, 0, 93) := ftq_ok (by decide +kernel)
theorem d34_147 : ft 34 147 = some (.iload_n 1, 1, 148, 0, 0, 0, 0) := ftq_ok (by decide +kernel)
theorem d34_148 : ft 34 148 = some (.iastore, 1, 149, 0, 0, 0, 0) := ftq_ok (by decide +kernel)
theorem d34_149 : ft 34 149 = some (.aload_n 0, 1, 150, 0, 0, 0, 0) := ftq_ok (by decide +kernel)
theorem d34_150 : ft 34 150 = some (.dup, 1, 151, 0, 0, 0, 0) := ftq_ok (by decide +kernel)
theorem d34_151 : ft 34 151 = some (.getfield 18, 3, 154, 4, 2, 0, 93) := ftq_ok (by decide +kernel)
theorem d34_154 : ft 34 154 = some (.iconst 1, 1, 155, 0, 0, 0, 0) := ftq_ok (by decide +kernel)
theorem d34_155 : ft 34 155 = some (.iadd, 1, 156, 0, 0, 0, 0) := ftq_ok (by decide +kernel)
theorem d34_156 : ft 34 156 = some (.putfield 18, 3, 159, 4, 2, 0, 93) := ftq_ok (by decide +kernel)
theorem d34_159 : ft 34 159 = some (.iconst 1, 1, 160, 0, 0, 0, 0) := ftq_ok (by decide +kernel)
theorem d34_160 : ft 34 160 = some (.ireturn, 1, 161, 0, 0, 0, 0) := ftq_ok (by decide +kernel)
-- 35: Trail_reckonDues
theorem d35_0 : ft 35 0 = some (.iconst 0, 1, 1, 0, 0, 0, 0) := ftq_ok (by decide +kernel)
theorem d35_1 : ft 35 1 = some (.istore_n 1, 1, 2, 0, 0, 0, 0) := ftq_ok (by decide +kernel)
theorem d35_2 : ft 35 2 = some (.iload_n 1, 1, 3, 0, 0, 0, 0) := ftq_ok (by decide +kernel)
theorem d35_3 : ft 35 3 = some (.aload_n 0, 1, 4, 0, 0, 0, 0) := ftq_ok (by decide +kernel)
theorem d35_4 : ft 35 4 = some (.getfield 21, 3, 7, 4, 3, 0, 99) := ftq_ok (by decide +kernel)
theorem d35_7 : ft 35 7 = some (.if_icmp .ge 53, 3, 10, 60, 0, 0, 0) := ftq_ok (by decide +kernel)
theorem d35_10 : ft 35 10 = some (.aload_n 0, 1, 11, 0, 0, 0, 0) := ftq_ok (by decide +kernel)
theorem d35_11 : ft 35 11 = some (.getfield 46, 3, 14, 4, 11, 3, 123) := ftq_ok (by decide +kernel)
theorem d35_14 : ft 35 14 = some (.iload_n 1, 1, 15, 0, 0, 0, 0) := ftq_ok (by decide +kernel)
theorem d35_15 : ft 35 15 = some (.iaload, 1, 16, 0, 0, 0, 0) := ftq_ok (by decide +kernel)
theorem d35_16 : ft 35 16 = some (.istore_n 2, 1, 17, 0, 0, 0, 0) := ftq_ok (by decide +kernel)
theorem d35_17 : ft 35 17 = some (.aload_n 0, 1, 18, 0, 0, 0, 0) := ftq_ok (by decide +kernel)
theorem d35_18 : ft 35 18 = some (.getfield 49, 3, 21, 4, 12, 3, 128) := ftq_ok (by decide +kernel)
theorem d35_21 : ft 35 21 = some (.iload_n 2, 1, 22, 0, 0, 0, 0) := ftq_ok (by decide +kernel)
theorem d35_22 : ft 35 22 = some (.aload_n 0, 1, 23, 0, 0, 0, 0) := ftq_ok (by decide +kernel)
theorem d35_23 : ft 35 23 = some (.iload_n 1, 1, 24, 0, 0, 0, 0) := ftq_ok (by decide +kernel)
theorem d35_24 : ft 35 24 = some (.aload_n 0, 1, 25, 0, 0, 0, 0) := ftq_ok (by decide +kernel)
theorem d35_25 : ft 35 25 = some (.getfield 27, 3, 28, 4, 5, 3, 106) := ftq_ok (by decide +kernel)
theorem d35_28 : ft 35 28 = some (.aload_n 0, 1, 29, 0, 0, 0, 0) := ftq_ok (by decide +kernel)
theorem d35_29 : ft 35 29 = some (.getfield 18, 3, 32, 4, 2, 0, 93) := ftq_ok (by decide +kernel)
theorem d35_32 : ft 35 32 = some (.iaload, 1, 33, 0, 0, 0, 0) := ftq_ok (by decide +kernel)
theorem d35_33 : ft 35 33 = some (.invokevirtual 70, 3, 36, 33, 2, 0, 391) := ftq_ok (by decide +kernel)
theorem d35_36 : ft 35 36 = some (.iastore, 1, 37, 0, 0, 0, 0) := ftq_ok (by decide +kernel)
theorem d35_37 : ft 35 37 = some (.aload_n 0, 1, 38, 0, 0, 0, 0) := ftq_ok (by decide +kernel)
theorem d35_38 : ft 35 38 = some (.getfield 40, 3, 41, 4, 9, 3, 116) := ftq_ok (by decide +kernel)
theorem d35_41 : ft 35 41 = some (.iload_n 2, 1, 42, 0, 0, 0, 0) := ftq_ok (by decide +kernel)
theorem d35_42 : ft 35 42 = some (.iaload, 1, 43, 0, 0, 0, 0) := ftq_ok (by decide +kernel)
theorem d35_43 : ft 35 43 = some (.aload_n 0, 1, 44, 0, 0, 0, 0) := ftq_ok (by decide +kernel)
theorem d35_44 : ft 35 44 = some (.getfield 49, 3, 47, 4, 12, 3, 128) := ftq_ok (by decide +kernel)
theorem d35_47 : ft 35 47 = some (.iload_n 2, 1, 48, 0, 0, 0, 0) := ftq_ok (by decide +kernel)
theorem d35_48 : ft 35 48 = some (.iaload, 1, 49, 0, 0, 0, 0) := ftq_ok (by decide +kernel)
theorem d35_49 : ft 35 49 = some (.if_icmp .ge 5, 3, 52, 54, 0, 0, 0) := ftq_ok (by decide +kernel)
theorem d35_52 : ft 35 52 = some (.iconst 0, 1, 53, 0, 0, 0, 0) := ftq_ok (by decide +kernel)
theorem d35_53 : ft 35 53 = some (.ireturn, 1, 54, 0, 0, 0, 0) := ftq_ok (by decide +kernel)
theorem d35_54 : ft 35 54 = some (.iinc 1 1, 3, 57, 0, 0, 0, 0) := ftq_ok (by decide +kernel)
theorem d35_57 : ft 35 57 = some (.goto (-55), 3, 60, 2, 0, 0, 0) := ftq_ok (by decide +kernel)
theorem d35_60 : ft 35 60 = some (.iconst 1, 1, 61, 0, 0, 0, 0) := ftq_ok (by decide +kernel)
theorem d35_61 : ft 35 61 = some (.ireturn, 1, 62, 0, 0, 0, 0) := ftq_ok (by decide +kernel)
-- 36: Trail_changeFirst
theorem d36_0 : ft 36 0 = some (.aload_n 0, 1, 1, 0, 0, 0, 0) := ftq_ok (by decide +kernel)
theorem d36_1 : ft 36 1 = some (.getfield 21, 3, 4, 4, 3, 0, 99) := ftq_ok (by decide +kernel)
theorem d36_4 : ft 36 4 = some (.ifCond .ne 4, 3, 7, 8, 0, 0, 0) := ftq_ok (by decide +kernel)
theorem d36_7 : ft 36 7 = some (.return_, 1, 8, 0, 0, 0, 0) := ftq_ok (by decide +kernel)
theorem d36_8 : ft 36 8 = some (.aload_n 0, 1, 9, 0, 0, 0, 0) := ftq_ok (by decide +kernel)
theorem d36_9 : ft 36 9 = some (.getfield 46, 3, 12, 4, 11, 3, 123) := ftq_ok (by decide +kernel)
theorem d36_12 : ft 36 12 = some (.iconst 0, 1, 13, 0, 0, 0, 0) := ftq_ok (by decide +kernel)
theorem d36_13 : ft 36 13 = some (.iaload, 1, 14, 0, 0, 0, 0) := ftq_ok (by decide +kernel)
theorem d36_14 : ft 36 14 = some (.istore_n 1, 1, 15, 0, 0, 0, 0) := ftq_ok (by decide +kernel)
theorem d36_15 : ft 36 15 = some (.iconst 1, 1, 16, 0, 0, 0, 0) := ftq_ok (by decide +kernel)
theorem d36_16 : ft 36 16 = some (.istore_n 2, 1, 17, 0, 0, 0, 0) := ftq_ok (by decide +kernel)
theorem d36_17 : ft 36 17 = some (.iload_n 2, 1, 18, 0, 0, 0, 0) := ftq_ok (by decide +kernel)
theorem d36_18 : ft 36 18 = some (.aload_n 0, 1, 19, 0, 0, 0, 0) := ftq_ok (by decide +kernel)
theorem d36_19 : ft 36 19 = some (.getfield 21, 3, 22, 4, 3, 0, 99) := ftq_ok (by decide +kernel)
theorem d36_22 : ft 36 22 = some (.if_icmp .ge 23, 3, 25, 45, 0, 0, 0) := ftq_ok (by decide +kernel)
theorem d36_25 : ft 36 25 = some (.aload_n 0, 1, 26, 0, 0, 0, 0) := ftq_ok (by decide +kernel)
theorem d36_26 : ft 36 26 = some (.getfield 46, 3, 29, 4, 11, 3, 123) := ftq_ok (by decide +kernel)
theorem d36_29 : ft 36 29 = some (.iload_n 2, 1, 30, 0, 0, 0, 0) := ftq_ok (by decide +kernel)
theorem d36_30 : ft 36 30 = some (.iconst 1, 1, 31, 0, 0, 0, 0) := ftq_ok (by decide +kernel)
theorem d36_31 : ft 36 31 = some (.isub, 1, 32, 0, 0, 0, 0) := ftq_ok (by decide +kernel)
theorem d36_32 : ft 36 32 = some (.aload_n 0, 1, 33, 0, 0, 0, 0) := ftq_ok (by decide +kernel)
theorem d36_33 : ft 36 33 = some (.getfield 46, 3, 36, 4, 11, 3, 123) := ftq_ok (by decide +kernel)
theorem d36_36 : ft 36 36 = some (.iload_n 2, 1, 37, 0, 0, 0, 0) := ftq_ok (by decide +kernel)
theorem d36_37 : ft 36 37 = some (.iaload, 1, 38, 0, 0, 0, 0) := ftq_ok (by decide +kernel)
theorem d36_38 : ft 36 38 = some (.iastore, 1, 39, 0, 0, 0, 0) := ftq_ok (by decide +kernel)
theorem d36_39 : ft 36 39 = some (.iinc 2 1, 3, 42, 0, 0, 0, 0) := ftq_ok (by decide +kernel)
theorem d36_42 : ft 36 42 = some (.goto (-25), 3, 45, 17, 0, 0, 0) := ftq_ok (by decide +kernel)
theorem d36_45 : ft 36 45 = some (.aload_n 0, 1, 46, 0, 0, 0, 0) := ftq_ok (by decide +kernel)
theorem d36_46 : ft 36 46 = some (.getfield 46, 3, 49, 4, 11, 3, 123) := ftq_ok (by decide +kernel)
theorem d36_49 : ft 36 49 = some (.aload_n 0, 1, 50, 0, 0, 0, 0) := ftq_ok (by decide +kernel)
theorem d36_50 : ft 36 50 = some (.getfield 21, 3, 53, 4, 3, 0, 99) := ftq_ok (by decide +kernel)
theorem d36_53 : ft 36 53 = some (.iconst 1, 1, 54, 0, 0, 0, 0) := ftq_ok (by decide +kernel)
theorem d36_54 : ft 36 54 = some (.isub, 1, 55, 0, 0, 0, 0) := ftq_ok (by decide +kernel)
theorem d36_55 : ft 36 55 = some (.iload_n 1, 1, 56, 0, 0, 0, 0) := ftq_ok (by decide +kernel)
theorem d36_56 : ft 36 56 = some (.iastore, 1, 57, 0, 0, 0, 0) := ftq_ok (by decide +kernel)
theorem d36_57 : ft 36 57 = some (.aload_n 0, 1, 58, 0, 0, 0, 0) := ftq_ok (by decide +kernel)
theorem d36_58 : ft 36 58 = some (.dup, 1, 59, 0, 0, 0, 0) := ftq_ok (by decide +kernel)
theorem d36_59 : ft 36 59 = some (.getfield 24, 3, 62, 4, 4, 0, 104) := ftq_ok (by decide +kernel)
theorem d36_62 : ft 36 62 = some (.iconst 1, 1, 63, 0, 0, 0, 0) := ftq_ok (by decide +kernel)
theorem d36_63 : ft 36 63 = some (.iadd, 1, 64, 0, 0, 0, 0) := ftq_ok (by decide +kernel)
theorem d36_64 : ft 36 64 = some (.putfield 24, 3, 67, 4, 4, 0, 104) := ftq_ok (by decide +kernel)
theorem d36_67 : ft 36 67 = some (.return_, 1, 68, 0, 0, 0, 0) := ftq_ok (by decide +kernel)
-- 37: Trail_restAll
theorem d37_0 : ft 37 0 = some (.iconst 0, 1, 1, 0, 0, 0, 0) := ftq_ok (by decide +kernel)
theorem d37_1 : ft 37 1 = some (.istore_n 1, 1, 2, 0, 0, 0, 0) := ftq_ok (by decide +kernel)
theorem d37_2 : ft 37 2 = some (.iconst 0, 1, 3, 0, 0, 0, 0) := ftq_ok (by decide +kernel)
theorem d37_3 : ft 37 3 = some (.istore_n 2, 1, 4, 0, 0, 0, 0) := ftq_ok (by decide +kernel)
theorem d37_4 : ft 37 4 = some (.iload_n 2, 1, 5, 0, 0, 0, 0) := ftq_ok (by decide +kernel)
theorem d37_5 : ft 37 5 = some (.aload_n 0, 1, 6, 0, 0, 0, 0) := ftq_ok (by decide +kernel)
theorem d37_6 : ft 37 6 = some (.getfield 21, 3, 9, 4, 3, 0, 99) := ftq_ok (by decide +kernel)
theorem d37_9 : ft 37 9 = some (.if_icmp .ge 37, 3, 12, 46, 0, 0, 0) := ftq_ok (by decide +kernel)
theorem d37_12 : ft 37 12 = some (.aload_n 0, 1, 13, 0, 0, 0, 0) := ftq_ok (by decide +kernel)
theorem d37_13 : ft 37 13 = some (.getfield 40, 3, 16, 4, 9, 3, 116) := ftq_ok (by decide +kernel)
theorem d37_16 : ft 37 16 = some (.iload_n 2, 1, 17, 0, 0, 0, 0) := ftq_ok (by decide +kernel)
theorem d37_17 : ft 37 17 = some (.iaload, 1, 18, 0, 0, 0, 0) := ftq_ok (by decide +kernel)
theorem d37_18 : ft 37 18 = some (.aload_n 0, 1, 19, 0, 0, 0, 0) := ftq_ok (by decide +kernel)
theorem d37_19 : ft 37 19 = some (.getfield 37, 3, 22, 4, 8, 3, 113) := ftq_ok (by decide +kernel)
theorem d37_22 : ft 37 22 = some (.iload_n 2, 1, 23, 0, 0, 0, 0) := ftq_ok (by decide +kernel)
theorem d37_23 : ft 37 23 = some (.iaload, 1, 24, 0, 0, 0, 0) := ftq_ok (by decide +kernel)
theorem d37_24 : ft 37 24 = some (.if_icmp .ge 16, 3, 27, 40, 0, 0, 0) := ftq_ok (by decide +kernel)
theorem d37_27 : ft 37 27 = some (.aload_n 0, 1, 28, 0, 0, 0, 0) := ftq_ok (by decide +kernel)
theorem d37_28 : ft 37 28 = some (.getfield 40, 3, 31, 4, 9, 3, 116) := ftq_ok (by decide +kernel)
theorem d37_31 : ft 37 31 = some (.iload_n 2, 1, 32, 0, 0, 0, 0) := ftq_ok (by decide +kernel)
theorem d37_32 : ft 37 32 = some (.dup2, 1, 33, 0, 0, 0, 0) := ftq_ok (by decide +kernel)
theorem d37_33 : ft 37 33 = some (.iaload, 1, 34, 0, 0, 0, 0) := ftq_ok (by decide +kernel)
theorem d37_34 : ft 37 34 = some (.iconst 1, 1, 35, 0, 0, 0, 0) := ftq_ok (by decide +kernel)
theorem d37_35 : ft 37 35 = some (.iadd, 1, 36, 0, 0, 0, 0) := ftq_ok (by decide +kernel)
theorem d37_36 : ft 37 36 = some (.iastore, 1, 37, 0, 0, 0, 0) := ftq_ok (by decide +kernel)
theorem d37_37 : ft 37 37 = some (.iinc 1 1, 3, 40, 0, 0, 0, 0) := ftq_ok (by decide +kernel)
theorem d37_40 : ft 37 40 = some (.iinc 2 1, 3, 43, 0, 0, 0, 0) := ftq_ok (by decide +kernel)
theorem d37_43 : ft 37 43 = some (.goto (-39), 3, 46, 4, 0, 0, 0) := ftq_ok (by decide +kernel)
theorem d37_46 : ft 37 46 = some (.aload_n 0, 1, 47, 0, 0, 0, 0) := ftq_ok (by decide +kernel)
theorem d37_47 : ft 37 47 = some (.dup, 1, 48, 0, 0, 0, 0) := ftq_ok (by decide +kernel)
theorem d37_48 : ft 37 48 = some (.getfield 24, 3, 51, 4, 4, 0, 104) := ftq_ok (by decide +kernel)
theorem d37_51 : ft 37 51 = some (.iconst 5, 1, 52, 0, 0, 0, 0) := ftq_ok (by decide +kernel)
theorem d37_52 : ft 37 52 = some (.iadd, 1, 53, 0, 0, 0, 0) := ftq_ok (by decide +kernel)
theorem d37_53 : ft 37 53 = some (.putfield 24, 3, 56, 4, 4, 0, 104) := ftq_ok (by decide +kernel)
theorem d37_56 : ft 37 56 = some (.iload_n 1, 1, 57, 0, 0, 0, 0) := ftq_ok (by decide +kernel)
theorem d37_57 : ft 37 57 = some (.ireturn, 1, 58, 0, 0, 0, 0) := ftq_ok (by decide +kernel)
-- 38: Trail_deepenBy
theorem d38_0 : ft 38 0 = some (.aload_n 0, 1, 1, 0, 0, 0, 0) := ftq_ok (by decide +kernel)
theorem d38_1 : ft 38 1 = some (.getfield 18, 3, 4, 4, 2, 0, 93) := ftq_ok (by decide +kernel)
theorem d38_4 : ft 38 4 = some (.istore_n 2, 1, 5, 0, 0, 0, 0) := ftq_ok (by decide +kernel)
theorem d38_5 : ft 38 5 = some (.iload_n 2, 1, 6, 0, 0, 0, 0) := ftq_ok (by decide +kernel)
theorem d38_6 : ft 38 6 = some (.aload_n 0, 1, 7, 0, 0, 0, 0) := ftq_ok (by decide +kernel)
theorem d38_7 : ft 38 7 = some (.getfield 9, 3, 10, 4, 0, 0, 87) := ftq_ok (by decide +kernel)
theorem d38_10 : ft 38 10 = some (.if_icmp .ge 32, 3, 13, 42, 0, 0, 0) := ftq_ok (by decide +kernel)
theorem d38_13 : ft 38 13 = some (.aload_n 0, 1, 14, 0, 0, 0, 0) := ftq_ok (by decide +kernel)
theorem d38_14 : ft 38 14 = some (.getfield 27, 3, 17, 4, 5, 3, 106) := ftq_ok (by decide +kernel)
theorem d38_17 : ft 38 17 = some (.iload_n 2, 1, 18, 0, 0, 0, 0) := ftq_ok (by decide +kernel)
theorem d38_18 : ft 38 18 = some (.iconst 0, 1, 19, 0, 0, 0, 0) := ftq_ok (by decide +kernel)
theorem d38_19 : ft 38 19 = some (.bipush 9, 2, 21, 0, 0, 0, 0) := ftq_ok (by decide +kernel)
theorem d38_21 : ft 38 21 = some (.aload_n 0, 1, 22, 0, 0, 0, 0) := ftq_ok (by decide +kernel)
theorem d38_22 : ft 38 22 = some (.getfield 27, 3, 25, 4, 5, 3, 106) := ftq_ok (by decide +kernel)
theorem d38_25 : ft 38 25 = some (.iload_n 2, 1, 26, 0, 0, 0, 0) := ftq_ok (by decide +kernel)
theorem d38_26 : ft 38 26 = some (.iaload, 1, 27, 0, 0, 0, 0) := ftq_ok (by decide +kernel)
theorem d38_27 : ft 38 27 = some (.iload_n 1, 1, 28, 0, 0, 0, 0) := ftq_ok (by decide +kernel)
theorem d38_28 : ft 38 28 = some (.iadd, 1, 29, 0, 0, 0, 0) := ftq_ok (by decide +kernel)
theorem d38_29 : ft 38 29 = some (.invokestatic 57, 3, 32, 0, 2, 5, 344) := ftq_ok (by decide +kernel)
theorem d38_32 : ft 38 32 = some (.invokestatic 77, 3, 35, 0, 2, 6, 439) := ftq_ok (by decide +kernel)
theorem d38_35 : ft 38 35 = some (.iastore, 1, 36, 0, 0, 0, 0) := ftq_ok (by decide +kernel)
theorem d38_36 : ft 38 36 = some (.iinc 2 1, 3, 39, 0, 0, 0, 0) := ftq_ok (by decide +kernel)
theorem d38_39 : ft 38 39 = some (.goto (-34), 3, 42, 5, 0, 0, 0) := ftq_ok (by decide +kernel)
theorem d38_42 : ft 38 42 = some (.return_, 1, 43, 0, 0, 0, 0) := ftq_ok (by decide +kernel)
-- 39: Trail_depthAhead
theorem d39_0 : ft 39 0 = some (.iconst 0, 1, 1, 0, 0, 0, 0) := ftq_ok (by decide +kernel)
theorem d39_1 : ft 39 1 = some (.istore_n 1, 1, 2, 0, 0, 0, 0) := ftq_ok (by decide +kernel)
theorem d39_2 : ft 39 2 = some (.aload_n 0, 1, 3, 0, 0, 0, 0) := ftq_ok (by decide +kernel)
theorem d39_3 : ft 39 3 = some (.getfield 18, 3, 6, 4, 2, 0, 93) := ftq_ok (by decide +kernel)
theorem d39_6 : ft 39 6 = some (.istore_n 2, 1, 7, 0, 0, 0, 0) := ftq_ok (by decide +kernel)
theorem d39_7 : ft 39 7 = some (.iload_n 2, 1, 8, 0, 0, 0, 0) := ftq_ok (by decide +kernel)
theorem d39_8 : ft 39 8 = some (.aload_n 0, 1, 9, 0, 0, 0, 0) := ftq_ok (by decide +kernel)
theorem d39_9 : ft 39 9 = some (.getfield 9, 3, 12, 4, 0, 0, 87) := ftq_ok (by decide +kernel)
theorem d39_12 : ft 39 12 = some (.if_icmp .ge 18, 3, 15, 30, 0, 0, 0) := ftq_ok (by decide +kernel)
theorem d39_15 : ft 39 15 = some (.iload_n 1, 1, 16, 0, 0, 0, 0) := ftq_ok (by decide +kernel)
theorem d39_16 : ft 39 16 = some (.aload_n 0, 1, 17, 0, 0, 0, 0) := ftq_ok (by decide +kernel)
theorem d39_17 : ft 39 17 = some (.getfield 27, 3, 20, 4, 5, 3, 106) := ftq_ok (by decide +kernel)
theorem d39_20 : ft 39 20 = some (.iload_n 2, 1, 21, 0, 0, 0, 0) := ftq_ok (by decide +kernel)
theorem d39_21 : ft 39 21 = some (.iaload, 1, 22, 0, 0, 0, 0) := ftq_ok (by decide +kernel)
theorem d39_22 : ft 39 22 = some (.iadd, 1, 23, 0, 0, 0, 0) := ftq_ok (by decide +kernel)
theorem d39_23 : ft 39 23 = some (.istore_n 1, 1, 24, 0, 0, 0, 0) := ftq_ok (by decide +kernel)
theorem d39_24 : ft 39 24 = some (.iinc 2 1, 3, 27, 0, 0, 0, 0) := ftq_ok (by decide +kernel)
theorem d39_27 : ft 39 27 = some (.goto (-20), 3, 30, 7, 0, 0, 0) := ftq_ok (by decide +kernel)
theorem d39_30 : ft 39 30 = some (.iload_n 1, 1, 31, 0, 0, 0, 0) := ftq_ok (by decide +kernel)
theorem d39_31 : ft 39 31 = some (.ireturn, 1, 32, 0, 0, 0, 0) := ftq_ok (by decide +kernel)
-- 40: Trail_leftOfAll
theorem d40_0 : ft 40 0 = some (.iconst 0, 1, 1, 0, 0, 0, 0) := ftq_ok (by decide +kernel)
theorem d40_1 : ft 40 1 = some (.istore_n 1, 1, 2, 0, 0, 0, 0) := ftq_ok (by decide +kernel)
theorem d40_2 : ft 40 2 = some (.iconst 0, 1, 3, 0, 0, 0, 0) := ftq_ok (by decide +kernel)
theorem d40_3 : ft 40 3 = some (.istore_n 2, 1, 4, 0, 0, 0, 0) := ftq_ok (by decide +kernel)
theorem d40_4 : ft 40 4 = some (.iload_n 2, 1, 5, 0, 0, 0, 0) := ftq_ok (by decide +kernel)
theorem d40_5 : ft 40 5 = some (.aload_n 0, 1, 6, 0, 0, 0, 0) := ftq_ok (by decide +kernel)
theorem d40_6 : ft 40 6 = some (.getfield 21, 3, 9, 4, 3, 0, 99) := ftq_ok (by decide +kernel)
theorem d40_9 : ft 40 9 = some (.if_icmp .ge 18, 3, 12, 27, 0, 0, 0) := ftq_ok (by decide +kernel)
theorem d40_12 : ft 40 12 = some (.iload_n 1, 1, 13, 0, 0, 0, 0) := ftq_ok (by decide +kernel)
theorem d40_13 : ft 40 13 = some (.aload_n 0, 1, 14, 0, 0, 0, 0) := ftq_ok (by decide +kernel)
theorem d40_14 : ft 40 14 = some (.getfield 40, 3, 17, 4, 9, 3, 116) := ftq_ok (by decide +kernel)
theorem d40_17 : ft 40 17 = some (.iload_n 2, 1, 18, 0, 0, 0, 0) := ftq_ok (by decide +kernel)
theorem d40_18 : ft 40 18 = some (.iaload, 1, 19, 0, 0, 0, 0) := ftq_ok (by decide +kernel)
theorem d40_19 : ft 40 19 = some (.iadd, 1, 20, 0, 0, 0, 0) := ftq_ok (by decide +kernel)
theorem d40_20 : ft 40 20 = some (.istore_n 1, 1, 21, 0, 0, 0, 0) := ftq_ok (by decide +kernel)
theorem d40_21 : ft 40 21 = some (.iinc 2 1, 3, 24, 0, 0, 0, 0) := ftq_ok (by decide +kernel)
theorem d40_24 : ft 40 24 = some (.goto (-20), 3, 27, 4, 0, 0, 0) := ftq_ok (by decide +kernel)
theorem d40_27 : ft 40 27 = some (.iload_n 1, 1, 28, 0, 0, 0, 0) := ftq_ok (by decide +kernel)
theorem d40_28 : ft 40 28 = some (.ireturn, 1, 29, 0, 0, 0, 0) := ftq_ok (by decide +kernel)
-- 41: Trail_leastLeft
theorem d41_0 : ft 41 0 = some (.bipush 99, 2, 2, 0, 0, 0, 0) := ftq_ok (by decide +kernel)
theorem d41_2 : ft 41 2 = some (.istore_n 1, 1, 3, 0, 0, 0, 0) := ftq_ok (by decide +kernel)
theorem d41_3 : ft 41 3 = some (.iconst 0, 1, 4, 0, 0, 0, 0) := ftq_ok (by decide +kernel)
theorem d41_4 : ft 41 4 = some (.istore_n 2, 1, 5, 0, 0, 0, 0) := ftq_ok (by decide +kernel)
theorem d41_5 : ft 41 5 = some (.iload_n 2, 1, 6, 0, 0, 0, 0) := ftq_ok (by decide +kernel)
theorem d41_6 : ft 41 6 = some (.aload_n 0, 1, 7, 0, 0, 0, 0) := ftq_ok (by decide +kernel)
theorem d41_7 : ft 41 7 = some (.getfield 21, 3, 10, 4, 3, 0, 99) := ftq_ok (by decide +kernel)
theorem d41_10 : ft 41 10 = some (.if_icmp .ge 20, 3, 13, 30, 0, 0, 0) := ftq_ok (by decide +kernel)
theorem d41_13 : ft 41 13 = some (.iload_n 1, 1, 14, 0, 0, 0, 0) := ftq_ok (by decide +kernel)
theorem d41_14 : ft 41 14 = some (.aload_n 0, 1, 15, 0, 0, 0, 0) := ftq_ok (by decide +kernel)
theorem d41_15 : ft 41 15 = some (.getfield 40, 3, 18, 4, 9, 3, 116) := ftq_ok (by decide +kernel)
theorem d41_18 : ft 41 18 = some (.iload_n 2, 1, 19, 0, 0, 0, 0) := ftq_ok (by decide +kernel)
theorem d41_19 : ft 41 19 = some (.iaload, 1, 20, 0, 0, 0, 0) := ftq_ok (by decide +kernel)
theorem d41_20 : ft 41 20 = some (.invokestatic 57, 3, 23, 0, 2, 5, 344) := ftq_ok (by decide +kernel)
theorem d41_23 : ft 41 23 = some (.istore_n 1, 1, 24, 0, 0, 0, 0) := ftq_ok (by decide +kernel)
theorem d41_24 : ft 41 24 = some (.iinc 2 1, 3, 27, 0, 0, 0, 0) := ftq_ok (by decide +kernel)
theorem d41_27 : ft 41 27 = some (.goto (-22), 3, 30, 5, 0, 0, 0) := ftq_ok (by decide +kernel)
theorem d41_30 : ft 41 30 = some (.iload_n 1, 1, 31, 0, 0, 0, 0) := ftq_ok (by decide +kernel)
theorem d41_31 : ft 41 31 = some (.ireturn, 1, 32, 0, 0, 0, 0) := ftq_ok (by decide +kernel)
-- 42: Trail_toldOf
theorem d42_0 : ft 42 0 = some (.iconst 0, 1, 1, 0, 0, 0, 0) := ftq_ok (by decide +kernel)
theorem d42_1 : ft 42 1 = some (.istore_n 1, 1, 2, 0, 0, 0, 0) := ftq_ok (by decide +kernel)
theorem d42_2 : ft 42 2 = some (.iconst 0, 1, 3, 0, 0, 0, 0) := ftq_ok (by decide +kernel)
theorem d42_3 : ft 42 3 = some (.istore_n 2, 1, 4, 0, 0, 0, 0) := ftq_ok (by decide +kernel)
theorem d42_4 : ft 42 4 = some (.iload_n 2, 1, 5, 0, 0, 0, 0) := ftq_ok (by decide +kernel)
theorem d42_5 : ft 42 5 = some (.aload_n 0, 1, 6, 0, 0, 0, 0) := ftq_ok (by decide +kernel)
theorem d42_6 : ft 42 6 = some (.getfield 21, 3, 9, 4, 3, 0, 99) := ftq_ok (by decide +kernel)
theorem d42_9 : ft 42 9 = some (.if_icmp .ge 22, 3, 12, 31, 0, 0, 0) := ftq_ok (by decide +kernel)
theorem d42_12 : ft 42 12 = some (.aload_n 0, 1, 13, 0, 0, 0, 0) := ftq_ok (by decide +kernel)
theorem d42_13 : ft 42 13 = some (.getfield 43, 3, 16, 4, 10, 3, 120) := ftq_ok (by decide +kernel)
theorem d42_16 : ft 42 16 = some (.iload_n 2, 1, 17, 0, 0, 0, 0) := ftq_ok (by decide +kernel)
theorem d42_17 : ft 42 17 = some (.iaload, 1, 18, 0, 0, 0, 0) := ftq_ok (by decide +kernel)
theorem d42_18 : ft 42 18 = some (.iconst (-1), 1, 19, 0, 0, 0, 0) := ftq_ok (by decide +kernel)
theorem d42_19 : ft 42 19 = some (.if_icmp .eq 6, 3, 22, 25, 0, 0, 0) := ftq_ok (by decide +kernel)
theorem d42_22 : ft 42 22 = some (.iinc 1 1, 3, 25, 0, 0, 0, 0) := ftq_ok (by decide +kernel)
theorem d42_25 : ft 42 25 = some (.iinc 2 1, 3, 28, 0, 0, 0, 0) := ftq_ok (by decide +kernel)
theorem d42_28 : ft 42 28 = some (.goto (-24), 3, 31, 4, 0, 0, 0) := ftq_ok (by decide +kernel)
theorem d42_31 : ft 42 31 = some (.iload_n 1, 1, 32, 0, 0, 0, 0) := ftq_ok (by decide +kernel)
theorem d42_32 : ft 42 32 = some (.ireturn, 1, 33, 0, 0, 0, 0) := ftq_ok (by decide +kernel)
-- 43: Ways_init
theorem d43_0 : ft 43 0 = some (.aload_n 0, 1, 1, 0, 0, 0, 0) := ftq_ok (by decide +kernel)
theorem d43_1 : ft 43 1 = some (.invokespecial 3, 3, 4, 0, 0, 4, 167) := ftq_ok (by decide +kernel)
theorem d43_4 : ft 43 4 = some (.aload_n 0, 1, 5, 0, 0, 0, 0) := ftq_ok (by decide +kernel)
theorem d43_5 : ft 43 5 = some (.new 9, 3, 8, 4, 13, 0, 168) := ftq_ok (by decide +kernel)
theorem d43_8 : ft 43 8 = some (.dup, 1, 9, 0, 0, 0, 0) := ftq_ok (by decide +kernel)
theorem d43_9 : ft 43 9 = some (.invokespecial 11, 3, 12, 23, 0, 3, 169) := ftq_ok (by decide +kernel)
theorem d43_12 : ft 43 12 = some (.putfield 12, 3, 15, 5, 0, 3, 170) := ftq_ok (by decide +kernel)
theorem d43_15 : ft 43 15 = some (.aload_n 0, 1, 16, 0, 0, 0, 0) := ftq_ok (by decide +kernel)
theorem d43_16 : ft 43 16 = some (.sipush 150, 3, 19, 0, 0, 0, 0) := ftq_ok (by decide +kernel)
theorem d43_19 : ft 43 19 = some (.newarray .int, 2, 21, 0, 0, 0, 0) := ftq_ok (by decide +kernel)
theorem d43_21 : ft 43 21 = some (.putfield 18, 3, 24, 5, 1, 3, 171) := ftq_ok (by decide +kernel)
theorem d43_24 : ft 43 24 = some (.aload_n 0, 1, 25, 0, 0, 0, 0) := ftq_ok (by decide +kernel)
theorem d43_25 : ft 43 25 = some (.bipush 35, 2, 27, 0, 0, 0, 0) := ftq_ok (by decide +kernel)
theorem d43_27 : ft 43 27 = some (.newarray .int, 2, 29, 0, 0, 0, 0) := ftq_ok (by decide +kernel)
theorem d43_29 : ft 43 29 = some (.putfield 22, 3, 32, 5, 2, 3, 172) := ftq_ok (by decide +kernel)
theorem d43_32 : ft 43 32 = some (.aload_n 0, 1, 33, 0, 0, 0, 0) := ftq_ok (by decide +kernel)
theorem d43_33 : ft 43 33 = some (.iconst 5, 1, 34, 0, 0, 0, 0) := ftq_ok (by decide +kernel)
theorem d43_34 : ft 43 34 = some (.newarray .int, 2, 36, 0, 0, 0, 0) := ftq_ok (by decide +kernel)
theorem d43_36 : ft 43 36 = some (.putfield 25, 3, 39, 5, 3, 3, 173) := ftq_ok (by decide +kernel)
theorem d43_39 : ft 43 39 = some (.aload_n 0, 1, 40, 0, 0, 0, 0) := ftq_ok (by decide +kernel)
theorem d43_40 : ft 43 40 = some (.iconst 0, 1, 41, 0, 0, 0, 0) := ftq_ok (by decide +kernel)
theorem d43_41 : ft 43 41 = some (.putfield 28, 3, 44, 5, 4, 0, 174) := ftq_ok (by decide +kernel)
theorem d43_44 : ft 43 44 = some (.aload_n 0, 1, 45, 0, 0, 0, 0) := ftq_ok (by decide +kernel)
theorem d43_45 : ft 43 45 = some (.iconst 0, 1, 46, 0, 0, 0, 0) := ftq_ok (by decide +kernel)
theorem d43_46 : ft 43 46 = some (.putfield 32, 3, 49, 5, 5, 0, 177) := ftq_ok (by decide +kernel)
theorem d43_49 : ft 43 49 = some (.aload_n 0, 1, 50, 0, 0, 0, 0) := ftq_ok (by decide +kernel)
theorem d43_50 : ft 43 50 = some (.iconst 0, 1, 51, 0, 0, 0, 0) := ftq_ok (by decide +kernel)
theorem d43_51 : ft 43 51 = some (.putfield 35, 3, 54, 5, 6, 0, 178) := ftq_ok (by decide +kernel)
theorem d43_54 : ft 43 54 = some (.return_, 1, 55, 0, 0, 0, 0) := ftq_ok (by decide +kernel)
-- 44: Ways_layOut
theorem d44_0 : ft 44 0 = some (.aload_n 0, 1, 1, 0, 0, 0, 0) := ftq_ok (by decide +kernel)
theorem d44_1 : ft 44 1 = some (.getfield 12, 3, 4, 5, 0, 3, 170) := ftq_ok (by decide +kernel)
theorem d44_4 : ft 44 4 = some (.aload_n 1, 1, 5, 0, 0, 0, 0) := ftq_ok (by decide +kernel)
theorem d44_5 : ft 44 5 = some (.invokevirtual 38, 3, 8, 25, 1, 0, 462) := ftq_ok (by decide +kernel)
theorem d44_8 : ft 44 8 = some (.aload_n 0, 1, 9, 0, 0, 0, 0) := ftq_ok (by decide +kernel)
theorem d44_9 : ft 44 9 = some (.aload_n 1, 1, 10, 0, 0, 0, 0) := ftq_ok (by decide +kernel)
theorem d44_10 : ft 44 10 = some (.getfield 42, 3, 13, 4, 3, 0, 100) := ftq_ok (by decide +kernel)
theorem d44_13 : ft 44 13 = some (.putfield 28, 3, 16, 5, 4, 0, 174) := ftq_ok (by decide +kernel)
theorem d44_16 : ft 44 16 = some (.aload_n 0, 1, 17, 0, 0, 0, 0) := ftq_ok (by decide +kernel)
theorem d44_17 : ft 44 17 = some (.aload_n 1, 1, 18, 0, 0, 0, 0) := ftq_ok (by decide +kernel)
theorem d44_18 : ft 44 18 = some (.getfield 43, 3, 21, 4, 2, 0, 94) := ftq_ok (by decide +kernel)
theorem d44_21 : ft 44 21 = some (.putfield 32, 3, 24, 5, 5, 0, 177) := ftq_ok (by decide +kernel)
theorem d44_24 : ft 44 24 = some (.aload_n 0, 1, 25, 0, 0, 0, 0) := ftq_ok (by decide +kernel)
theorem d44_25 : ft 44 25 = some (.aload_n 1, 1, 26, 0, 0, 0, 0) := ftq_ok (by decide +kernel)
theorem d44_26 : ft 44 26 = some (.getfield 46, 3, 29, 4, 0, 0, 88) := ftq_ok (by decide +kernel)
theorem d44_29 : ft 44 29 = some (.putfield 35, 3, 32, 5, 6, 0, 178) := ftq_ok (by decide +kernel)
theorem d44_32 : ft 44 32 = some (.iconst 0, 1, 33, 0, 0, 0, 0) := ftq_ok (by decide +kernel)
theorem d44_33 : ft 44 33 = some (.istore_n 2, 1, 34, 0, 0, 0, 0) := ftq_ok (by decide +kernel)
theorem d44_34 : ft 44 34 = some (.iload_n 2, 1, 35, 0, 0, 0, 0) := ftq_ok (by decide +kernel)
theorem d44_35 : ft 44 35 = some (.aload_n 0, 1, 36, 0, 0, 0, 0) := ftq_ok (by decide +kernel)
theorem d44_36 : ft 44 36 = some (.getfield 28, 3, 39, 5, 4, 0, 174) := ftq_ok (by decide +kernel)
theorem d44_39 : ft 44 39 = some (.if_icmp .ge 28, 3, 42, 67, 0, 0, 0) := ftq_ok (by decide +kernel)
theorem d44_42 : ft 44 42 = some (.aload_n 0, 1, 43, 0, 0, 0, 0) := ftq_ok (by decide +kernel)
theorem d44_43 : ft 44 43 = some (.getfield 22, 3, 46, 5, 2, 3, 172) := ftq_ok (by decide +kernel)
theorem d44_46 : ft 44 46 = some (.aload_n 0, 1, 47, 0, 0, 0, 0) := ftq_ok (by decide +kernel)
theorem d44_47 : ft 44 47 = some (.getfield 32, 3, 50, 5, 5, 0, 177) := ftq_ok (by decide +kernel)
theorem d44_50 : ft 44 50 = some (.iconst 5, 1, 51, 0, 0, 0, 0) := ftq_ok (by decide +kernel)
theorem d44_51 : ft 44 51 = some (.imul, 1, 52, 0, 0, 0, 0) := ftq_ok (by decide +kernel)
theorem d44_52 : ft 44 52 = some (.iload_n 2, 1, 53, 0, 0, 0, 0) := ftq_ok (by decide +kernel)
theorem d44_53 : ft 44 53 = some (.iadd, 1, 54, 0, 0, 0, 0) := ftq_ok (by decide +kernel)
theorem d44_54 : ft 44 54 = some (.aload_n 1, 1, 55, 0, 0, 0, 0) := ftq_ok (by decide +kernel)
theorem d44_55 : ft 44 55 = some (.getfield 47, 3, 58, 4, 9, 3, 117) := ftq_ok (by decide +kernel)
theorem d44_58 : ft 44 58 = some (.iload_n 2, 1, 59, 0, 0, 0, 0) := ftq_ok (by decide +kernel)
theorem d44_59 : ft 44 59 = some (.iaload, 1, 60, 0, 0, 0, 0) := ftq_ok (by decide +kernel)
theorem d44_60 : ft 44 60 = some (.iastore, 1, 61, 0, 0, 0, 0) := ftq_ok (by decide +kernel)
theorem d44_61 : ft 44 61 = some (.iinc 2 1, 3, 64, 0, 0, 0, 0) := ftq_ok (by decide +kernel)
theorem d44_64 : ft 44 64 = some (.goto (-30), 3, 67, 34, 0, 0, 0) := ftq_ok (by decide +kernel)
theorem d44_67 : ft 44 67 = some (.iconst 0, 1, 68, 0, 0, 0, 0) := ftq_ok (by decide +kernel)
theorem d44_68 : ft 44 68 = some (.istore_n 2, 1, 69, 0, 0, 0, 0) := ftq_ok (by decide +kernel)
theorem d44_69 : ft 44 69 = some (.iload_n 2, 1, 70, 0, 0, 0, 0) := ftq_ok (by decide +kernel)
theorem d44_70 : ft 44 70 = some (.aload_n 0, 1, 71, 0, 0, 0, 0) := ftq_ok (by decide +kernel)
theorem d44_71 : ft 44 71 = some (.getfield 28, 3, 74, 5, 4, 0, 174) := ftq_ok (by decide +kernel)
theorem d44_74 : ft 44 74 = some (.if_icmp .ge 21, 3, 77, 95, 0, 0, 0) := ftq_ok (by decide +kernel)
theorem d44_77 : ft 44 77 = some (.aload_n 0, 1, 78, 0, 0, 0, 0) := ftq_ok (by decide +kernel)
theorem d44_78 : ft 44 78 = some (.getfield 25, 3, 81, 5, 3, 3, 173) := ftq_ok (by decide +kernel)
theorem d44_81 : ft 44 81 = some (.aload_n 1, 1, 82, 0, 0, 0, 0) := ftq_ok (by decide +kernel)
theorem d44_82 : ft 44 82 = some (.getfield 50, 3, 85, 4, 11, 3, 125) := ftq_ok (by decide +kernel)
theorem d44_85 : ft 44 85 = some (.iload_n 2, 1, 86, 0, 0, 0, 0) := ftq_ok (by decide +kernel)
theorem d44_86 : ft 44 86 = some (.iaload, 1, 87, 0, 0, 0, 0) := ftq_ok (by decide +kernel)
theorem d44_87 : ft 44 87 = some (.iload_n 2, 1, 88, 0, 0, 0, 0) := ftq_ok (by decide +kernel)
theorem d44_88 : ft 44 88 = some (.iastore, 1, 89, 0, 0, 0, 0) := ftq_ok (by decide +kernel)
theorem d44_89 : ft 44 89 = some (.iinc 2 1, 3, 92, 0, 0, 0, 0) := ftq_ok (by decide +kernel)
theorem d44_92 : ft 44 92 = some (.goto (-23), 3, 95, 69, 0, 0, 0) := ftq_ok (by decide +kernel)
theorem d44_95 : ft 44 95 = some (.iconst 0, 1, 96, 0, 0, 0, 0) := ftq_ok (by decide +kernel)
theorem d44_96 : ft 44 96 = some (.istore_n 2, 1, 97, 0, 0, 0, 0) := ftq_ok (by decide +kernel)
theorem d44_97 : ft 44 97 = some (.iload_n 2, 1, 98, 0, 0, 0, 0) := ftq_ok (by decide +kernel)
theorem d44_98 : ft 44 98 = some (.aload_n 0, 1, 99, 0, 0, 0, 0) := ftq_ok (by decide +kernel)
theorem d44_99 : ft 44 99 = some (.getfield 28, 3, 102, 5, 4, 0, 174) := ftq_ok (by decide +kernel)
theorem d44_102 : ft 44 102 = some (.if_icmp .ge 40, 3, 105, 142, 0, 0, 0) := ftq_ok (by decide +kernel)
theorem d44_105 : ft 44 105 = some (.aload_n 0, 1, 106, 0, 0, 0, 0) := ftq_ok (by decide +kernel)
theorem d44_106 : ft 44 106 = some (.getfield 32, 3, 109, 5, 5, 0, 177) := ftq_ok (by decide +kernel)
theorem d44_109 : ft 44 109 = some (.istore_n 3, 1, 110, 0, 0, 0, 0) := ftq_ok (by decide +kernel)
theorem d44_110 : ft 44 110 = some (.iload_n 3, 1, 111, 0, 0, 0, 0) := ftq_ok (by decide +kernel)
theorem d44_111 : ft 44 111 = some (.aload_n 0, 1, 112, 0, 0, 0, 0) := ftq_ok (by decide +kernel)
theorem d44_112 : ft 44 112 = some (.getfield 35, 3, 115, 5, 6, 0, 178) := ftq_ok (by decide +kernel)
theorem d44_115 : ft 44 115 = some (.if_icmp .ge 14, 3, 118, 129, 0, 0, 0) := ftq_ok (by decide +kernel)
theorem d44_118 : ft 44 118 = some (.aload_n 0, 1, 119, 0, 0, 0, 0) := ftq_ok (by decide +kernel)
theorem d44_119 : ft 44 119 = some (.iload_n 3, 1, 120, 0, 0, 0, 0) := ftq_ok (by decide +kernel)
theorem d44_120 : ft 44 120 = some (.invokevirtual 53, 3, 123, 45, 1, 0, 466) := ftq_ok (by decide +kernel)
theorem d44_123 : ft 44 123 = some (.iinc 3 1, 3, 126, 0, 0, 0, 0) := ftq_ok (by decide +kernel)
theorem d44_126 : ft 44 126 = some (.goto (-16), 3, 129, 110, 0, 0, 0) := ftq_ok (by decide +kernel)
theorem d44_129 : ft 44 129 = some (.aload_n 0, 1, 130, 0, 0, 0, 0) := ftq_ok (by decide +kernel)
theorem d44_130 : ft 44 130 = some (.getfield 12, 3, 133, 5, 0, 3, 170) := ftq_ok (by decide +kernel)
theorem d44_133 : ft 44 133 = some (.invokevirtual 57, 3, 136, 36, 0, 0, 474) := ftq_ok (by decide +kernel)
theorem d44_136 : ft 44 136 = some (.iinc 2 1, 3, 139, 0, 0, 0, 0) := ftq_ok (by decide +kernel)
theorem d44_139 : ft 44 139 = some (.goto (-42), 3, 142, 97, 0, 0, 0) := ftq_ok (by decide +kernel)
theorem d44_142 : ft 44 142 = some (.return_, 1, 143, 0, 0, 0, 0) := ftq_ok (by decide +kernel)
-- 45: Ways_layOutStretch
theorem d45_0 : ft 45 0 = some (.iload_n 1, 1, 1, 0, 0, 0, 0) := ftq_ok (by decide +kernel)
theorem d45_1 : ft 45 1 = some (.aload_n 0, 1, 2, 0, 0, 0, 0) := ftq_ok (by decide +kernel)
theorem d45_2 : ft 45 2 = some (.getfield 12, 3, 5, 5, 0, 3, 170) := ftq_ok (by decide +kernel)
theorem d45_5 : ft 45 5 = some (.getfield 50, 3, 8, 4, 11, 3, 125) := ftq_ok (by decide +kernel)
theorem d45_8 : ft 45 8 = some (.iconst 0, 1, 9, 0, 0, 0, 0) := ftq_ok (by decide +kernel)
theorem d45_9 : ft 45 9 = some (.iaload, 1, 10, 0, 0, 0, 0) := ftq_ok (by decide +kernel)
theorem d45_10 : ft 45 10 = some (.invokestatic 60, 3, 13, 46, 2, 1, 470) := ftq_ok (by decide +kernel)
theorem d45_13 : ft 45 13 = some (.istore_n 2, 1, 14, 0, 0, 0, 0) := ftq_ok (by decide +kernel)
theorem d45_14 : ft 45 14 = some (.iconst 0, 1, 15, 0, 0, 0, 0) := ftq_ok (by decide +kernel)
theorem d45_15 : ft 45 15 = some (.istore_n 3, 1, 16, 0, 0, 0, 0) := ftq_ok (by decide +kernel)
theorem d45_16 : ft 45 16 = some (.iload_n 3, 1, 17, 0, 0, 0, 0) := ftq_ok (by decide +kernel)
theorem d45_17 : ft 45 17 = some (.aload_n 0, 1, 18, 0, 0, 0, 0) := ftq_ok (by decide +kernel)
theorem d45_18 : ft 45 18 = some (.getfield 28, 3, 21, 5, 4, 0, 174) := ftq_ok (by decide +kernel)
theorem d45_21 : ft 45 21 = some (.if_icmp .ge 42, 3, 24, 63, 0, 0, 0) := ftq_ok (by decide +kernel)
theorem d45_24 : ft 45 24 = some (.aload_n 0, 1, 25, 0, 0, 0, 0) := ftq_ok (by decide +kernel)
theorem d45_25 : ft 45 25 = some (.getfield 18, 3, 28, 5, 1, 3, 171) := ftq_ok (by decide +kernel)
theorem d45_28 : ft 45 28 = some (.iload_n 2, 1, 29, 0, 0, 0, 0) := ftq_ok (by decide +kernel)
theorem d45_29 : ft 45 29 = some (.aload_n 0, 1, 30, 0, 0, 0, 0) := ftq_ok (by decide +kernel)
theorem d45_30 : ft 45 30 = some (.getfield 12, 3, 33, 5, 0, 3, 170) := ftq_ok (by decide +kernel)
theorem d45_33 : ft 45 33 = some (.getfield 50, 3, 36, 4, 11, 3, 125) := ftq_ok (by decide +kernel)
theorem d45_36 : ft 45 36 = some (.iload_n 3, 1, 37, 0, 0, 0, 0) := ftq_ok (by decide +kernel)
theorem d45_37 : ft 45 37 = some (.iaload, 1, 38, 0, 0, 0, 0) := ftq_ok (by decide +kernel)
theorem d45_38 : ft 45 38 = some (.iadd, 1, 39, 0, 0, 0, 0) := ftq_ok (by decide +kernel)
theorem d45_39 : ft 45 39 = some (.aload_n 0, 1, 40, 0, 0, 0, 0) := ftq_ok (by decide +kernel)
theorem d45_40 : ft 45 40 = some (.getfield 12, 3, 43, 5, 0, 3, 170) := ftq_ok (by decide +kernel)
theorem d45_43 : ft 45 43 = some (.iload_n 3, 1, 44, 0, 0, 0, 0) := ftq_ok (by decide +kernel)
theorem d45_44 : ft 45 44 = some (.aload_n 0, 1, 45, 0, 0, 0, 0) := ftq_ok (by decide +kernel)
theorem d45_45 : ft 45 45 = some (.getfield 12, 3, 48, 5, 0, 3, 170) := ftq_ok (by decide +kernel)
theorem d45_48 : ft 45 48 = some (.getfield 64, 3, 51, 4, 5, 3, 107) := ftq_ok (by decide +kernel)
theorem d45_51 : ft 45 51 = some (.iload_n 1, 1, 52, 0, 0, 0, 0) := ftq_ok (by decide +kernel)
theorem d45_52 : ft 45 52 = some (.iaload, 1, 53, 0, 0, 0, 0) := ftq_ok (by decide +kernel)
theorem d45_53 : ft 45 53 = some (.invokevirtual 67, 3, 56, 33, 2, 0, 473) := ftq_ok (by decide +kernel)
theorem d45_56 : ft 45 56 = some (.iastore, 1, 57, 0, 0, 0, 0) := ftq_ok (by decide +kernel)
theorem d45_57 : ft 45 57 = some (.iinc 3 1, 3, 60, 0, 0, 0, 0) := ftq_ok (by decide +kernel)
theorem d45_60 : ft 45 60 = some (.goto (-44), 3, 63, 16, 0, 0, 0) := ftq_ok (by decide +kernel)
theorem d45_63 : ft 45 63 = some (.return_, 1, 64, 0, 0, 0, 0) := ftq_ok (by decide +kernel)
-- 46: Ways_rowOfPays
theorem d46_0 : ft 46 0 = some (.iload_n 0, 1, 1, 0, 0, 0, 0) := ftq_ok (by decide +kernel)
theorem d46_1 : ft 46 1 = some (.iconst 5, 1, 2, 0, 0, 0, 0) := ftq_ok (by decide +kernel)
theorem d46_2 : ft 46 2 = some (.imul, 1, 3, 0, 0, 0, 0) := ftq_ok (by decide +kernel)
theorem d46_3 : ft 46 3 = some (.iload_n 1, 1, 4, 0, 0, 0, 0) := ftq_ok (by decide +kernel)
theorem d46_4 : ft 46 4 = some (.iadd, 1, 5, 0, 0, 0, 0) := ftq_ok (by decide +kernel)
theorem d46_5 : ft 46 5 = some (.iconst 5, 1, 6, 0, 0, 0, 0) := ftq_ok (by decide +kernel)
theorem d46_6 : ft 46 6 = some (.imul, 1, 7, 0, 0, 0, 0) := ftq_ok (by decide +kernel)
theorem d46_7 : ft 46 7 = some (.ireturn, 1, 8, 0, 0, 0, 0) := ftq_ok (by decide +kernel)
-- 47: Ways_leastBehind
theorem d47_0 : ft 47 0 = some (.iload_n 1, 1, 1, 0, 0, 0, 0) := ftq_ok (by decide +kernel)
theorem d47_1 : ft 47 1 = some (.aload_n 0, 1, 2, 0, 0, 0, 0) := ftq_ok (by decide +kernel)
theorem d47_2 : ft 47 2 = some (.getfield 32, 3, 5, 5, 5, 0, 177) := ftq_ok (by decide +kernel)
theorem d47_5 : ft 47 5 = some (.if_icmp .lt 23, 3, 8, 28, 0, 0, 0) := ftq_ok (by decide +kernel)
theorem d47_8 : ft 47 8 = some (.iload_n 1, 1, 9, 0, 0, 0, 0) := ftq_ok (by decide +kernel)
theorem d47_9 : ft 47 9 = some (.aload_n 0, 1, 10, 0, 0, 0, 0) := ftq_ok (by decide +kernel)
theorem d47_10 : ft 47 10 = some (.getfield 35, 3, 13, 5, 6, 0, 178) := ftq_ok (by decide +kernel)
theorem d47_13 : ft 47 13 = some (.if_icmp .ge 15, 3, 16, 28, 0, 0, 0) := ftq_ok (by decide +kernel)
theorem d47_16 : ft 47 16 = some (.iload_n 2, 1, 17, 0, 0, 0, 0) := ftq_ok (by decide +kernel)
theorem d47_17 : ft 47 17 = some (.ifCond .lt 11, 3, 20, 28, 0, 0, 0) := ftq_ok (by decide +kernel)
theorem d47_20 : ft 47 20 = some (.iload_n 2, 1, 21, 0, 0, 0, 0) := ftq_ok (by decide +kernel)
theorem d47_21 : ft 47 21 = some (.aload_n 0, 1, 22, 0, 0, 0, 0) := ftq_ok (by decide +kernel)
theorem d47_22 : ft 47 22 = some (.getfield 28, 3, 25, 5, 4, 0, 174) := ftq_ok (by decide +kernel)
theorem d47_25 : ft 47 25 = some (.if_icmp .lt 5, 3, 28, 30, 0, 0, 0) := ftq_ok (by decide +kernel)
theorem d47_28 : ft 47 28 = some (.iconst (-1), 1, 29, 0, 0, 0, 0) := ftq_ok (by decide +kernel)
theorem d47_29 : ft 47 29 = some (.ireturn, 1, 30, 0, 0, 0, 0) := ftq_ok (by decide +kernel)
theorem d47_30 : ft 47 30 = some (.iload_n 1, 1, 31, 0, 0, 0, 0) := ftq_ok (by decide +kernel)
theorem d47_31 : ft 47 31 = some (.iload_n 2, 1, 32, 0, 0, 0, 0) := ftq_ok (by decide +kernel)
theorem d47_32 : ft 47 32 = some (.invokestatic 60, 3, 35, 46, 2, 1, 470) := ftq_ok (by decide +kernel)
theorem d47_35 : ft 47 35 = some (.istore_n 3, 1, 36, 0, 0, 0, 0) := ftq_ok (by decide +kernel)
theorem d47_36 : ft 47 36 = some (.iload_n 1, 1, 37, 0, 0, 0, 0) := ftq_ok (by decide +kernel)
theorem d47_37 : ft 47 37 = some (.iconst 5, 1, 38, 0, 0, 0, 0) := ftq_ok (by decide +kernel)
theorem d47_38 : ft 47 38 = some (.imul, 1, 39, 0, 0, 0, 0) := ftq_ok (by decide +kernel)
theorem d47_39 : ft 47 39 = some (.istore 4, 2, 41, 0, 0, 0, 0) := ftq_ok (by decide +kernel)
theorem d47_41 : ft 47 41 = some (.bipush 99, 2, 43, 0, 0, 0, 0) := ftq_ok (by decide +kernel)
theorem d47_43 : ft 47 43 = some (.istore 5, 2, 45, 0, 0, 0, 0) := ftq_ok (by decide +kernel)
theorem d47_45 : ft 47 45 = some (.iconst 0, 1, 46, 0, 0, 0, 0) := ftq_ok (by decide +kernel)
theorem d47_46 : ft 47 46 = some (.istore 6, 2, 48, 0, 0, 0, 0) := ftq_ok (by decide +kernel)
theorem d47_48 : ft 47 48 = some (.iload 6, 2, 50, 0, 0, 0, 0) := ftq_ok (by decide +kernel)
theorem d47_50 : ft 47 50 = some (.aload_n 0, 1, 51, 0, 0, 0, 0) := ftq_ok (by decide +kernel)
theorem d47_51 : ft 47 51 = some (.getfield 28, 3, 54, 5, 4, 0, 174) := ftq_ok (by decide +kernel)
theorem d47_54 : ft 47 54 = some (.if_icmp .ge 61, 3, 57, 115, 0, 0, 0) := ftq_ok (by decide +kernel)
theorem d47_57 : ft 47 57 = some (.aload_n 0, 1, 58, 0, 0, 0, 0) := ftq_ok (by decide +kernel)
theorem d47_58 : ft 47 58 = some (.getfield 22, 3, 61, 5, 2, 3, 172) := ftq_ok (by decide +kernel)
theorem d47_61 : ft 47 61 = some (.iload 4, 2, 63, 0, 0, 0, 0) := ftq_ok (by decide +kernel)
theorem d47_63 : ft 47 63 = some (.iload 6, 2, 65, 0, 0, 0, 0) := ftq_ok (by decide +kernel)
theorem d47_65 : ft 47 65 = some (.iadd, 1, 66, 0, 0, 0, 0) := ftq_ok (by decide +kernel)
theorem d47_66 : ft 47 66 = some (.iaload, 1, 67, 0, 0, 0, 0) := ftq_ok (by decide +kernel)
theorem d47_67 : ft 47 67 = some (.aload_n 0, 1, 68, 0, 0, 0, 0) := ftq_ok (by decide +kernel)
theorem d47_68 : ft 47 68 = some (.getfield 18, 3, 71, 5, 1, 3, 171) := ftq_ok (by decide +kernel)
theorem d47_71 : ft 47 71 = some (.iload_n 3, 1, 72, 0, 0, 0, 0) := ftq_ok (by decide +kernel)
theorem d47_72 : ft 47 72 = some (.iload 6, 2, 74, 0, 0, 0, 0) := ftq_ok (by decide +kernel)
theorem d47_74 : ft 47 74 = some (.iadd, 1, 75, 0, 0, 0, 0) := ftq_ok (by decide +kernel)
theorem d47_75 : ft 47 75 = some (.iaload, 1, 76, 0, 0, 0, 0) := ftq_ok (by decide +kernel)
theorem d47_76 : ft 47 76 = some (.isub, 1, 77, 0, 0, 0, 0) := ftq_ok (by decide +kernel)
theorem d47_77 : ft 47 77 = some (.istore 7, 2, 79, 0, 0, 0, 0) := ftq_ok (by decide +kernel)
theorem d47_79 : ft 47 79 = some (.iload 7, 2, 81, 0, 0, 0, 0) := ftq_ok (by decide +kernel)
theorem d47_81 : ft 47 81 = some (.ifCond .ge 5, 3, 84, 86, 0, 0, 0) := ftq_ok (by decide +kernel)
theorem d47_84 : ft 47 84 = some (.iconst (-1), 1, 85, 0, 0, 0, 0) := ftq_ok (by decide +kernel)
theorem d47_85 : ft 47 85 = some (.ireturn, 1, 86, 0, 0, 0, 0) := ftq_ok (by decide +kernel)
theorem d47_86 : ft 47 86 = some (.aload_n 0, 1, 87, 0, 0, 0, 0) := ftq_ok (by decide +kernel)
theorem d47_87 : ft 47 87 = some (.getfield 22, 3, 90, 5, 2, 3, 172) := ftq_ok (by decide +kernel)
theorem d47_90 : ft 47 90 = some (.iload 4, 2, 92, 0, 0, 0, 0) := ftq_ok (by decide +kernel)
theorem d47_92 : ft 47 92 = some (.iconst 5, 1, 93, 0, 0, 0, 0) := ftq_ok (by decide +kernel)
theorem d47_93 : ft 47 93 = some (.iadd, 1, 94, 0, 0, 0, 0) := ftq_ok (by decide +kernel)
theorem d47_94 : ft 47 94 = some (.iload 6, 2, 96, 0, 0, 0, 0) := ftq_ok (by decide +kernel)
theorem d47_96 : ft 47 96 = some (.iadd, 1, 97, 0, 0, 0, 0) := ftq_ok (by decide +kernel)
theorem d47_97 : ft 47 97 = some (.iload 7, 2, 99, 0, 0, 0, 0) := ftq_ok (by decide +kernel)
theorem d47_99 : ft 47 99 = some (.iastore, 1, 100, 0, 0, 0, 0) := ftq_ok (by decide +kernel)
theorem d47_100 : ft 47 100 = some (.iload 5, 2, 102, 0, 0, 0, 0) := ftq_ok (by decide +kernel)
theorem d47_102 : ft 47 102 = some (.iload 7, 2, 104, 0, 0, 0, 0) := ftq_ok (by decide +kernel)
theorem d47_104 : ft 47 104 = some (.invokestatic 70, 3, 107, 0, 2, 5, 503) := ftq_ok (by decide +kernel)
theorem d47_107 : ft 47 107 = some (.istore 5, 2, 109, 0, 0, 0, 0) := ftq_ok (by decide +kernel)
theorem d47_109 : ft 47 109 = some (.iinc 6 1, 3, 112, 0, 0, 0, 0) := ftq_ok (by decide +kernel)
theorem d47_112 : ft 47 112 = some (.goto (-64), 3, 115, 48, 0, 0, 0) := ftq_ok (by decide +kernel)
theorem d47_115 : ft 47 115 = some (.iload 5, 2, 117, 0, 0, 0, 0) := ftq_ok (by decide +kernel)
theorem d47_117 : ft 47 117 = some (.ireturn, 1, 118, 0, 0, 0, 0) := ftq_ok (by decide +kernel)
-- 48: Ways_changesFrom
theorem d48_0 : ft 48 0 = some (.aload_n 0, 1, 1, 0, 0, 0, 0) := ftq_ok (by decide +kernel)
theorem d48_1 : ft 48 1 = some (.getfield 25, 3, 4, 5, 3, 3, 173) := ftq_ok (by decide +kernel)
theorem d48_4 : ft 48 4 = some (.iload_n 2, 1, 5, 0, 0, 0, 0) := ftq_ok (by decide +kernel)
theorem d48_5 : ft 48 5 = some (.iaload, 1, 6, 0, 0, 0, 0) := ftq_ok (by decide +kernel)
theorem d48_6 : ft 48 6 = some (.aload_n 0, 1, 7, 0, 0, 0, 0) := ftq_ok (by decide +kernel)
theorem d48_7 : ft 48 7 = some (.getfield 25, 3, 10, 5, 3, 3, 173) := ftq_ok (by decide +kernel)
theorem d48_10 : ft 48 10 = some (.iload_n 1, 1, 11, 0, 0, 0, 0) := ftq_ok (by decide +kernel)
theorem d48_11 : ft 48 11 = some (.iaload, 1, 12, 0, 0, 0, 0) := ftq_ok (by decide +kernel)
theorem d48_12 : ft 48 12 = some (.isub, 1, 13, 0, 0, 0, 0) := ftq_ok (by decide +kernel)
theorem d48_13 : ft 48 13 = some (.istore_n 3, 1, 14, 0, 0, 0, 0) := ftq_ok (by decide +kernel)
theorem d48_14 : ft 48 14 = some (.iload_n 3, 1, 15, 0, 0, 0, 0) := ftq_ok (by decide +kernel)
theorem d48_15 : ft 48 15 = some (.ifCond .ge 12, 3, 18, 27, 0, 0, 0) := ftq_ok (by decide +kernel)
theorem d48_18 : ft 48 18 = some (.iload_n 3, 1, 19, 0, 0, 0, 0) := ftq_ok (by decide +kernel)
theorem d48_19 : ft 48 19 = some (.aload_n 0, 1, 20, 0, 0, 0, 0) := ftq_ok (by decide +kernel)
theorem d48_20 : ft 48 20 = some (.getfield 28, 3, 23, 5, 4, 0, 174) := ftq_ok (by decide +kernel)
theorem d48_23 : ft 48 23 = some (.iadd, 1, 24, 0, 0, 0, 0) := ftq_ok (by decide +kernel)
theorem d48_24 : ft 48 24 = some (.goto 4, 3, 27, 28, 0, 0, 0) := ftq_ok (by decide +kernel)
theorem d48_27 : ft 48 27 = some (.iload_n 3, 1, 28, 0, 0, 0, 0) := ftq_ok (by decide +kernel)
theorem d48_28 : ft 48 28 = some (.ireturn, 1, 29, 0, 0, 0, 0) := ftq_ok (by decide +kernel)
end
section
-- 49: Tb_init
theorem d49_0 : ft 49 0 = some (.aload_n 0, 1, 1, 0, 0, 0, 0) := ftq_ok (by decide +kernel)
theorem d49_1 : ft 49 1 = some (.invokespecial 1, 3, 4, 0, 0, 4, 61) := ftq_ok (by decide +kernel)
theorem d49_4 : ft 49 4 = some (.aload_n 0, 1, 5, 0, 0, 0, 0) := ftq_ok (by decide +kernel)
theorem d49_5 : ft 49 5 = some (.new 7, 3, 8, 2, 2, 0, 64) := ftq_ok (by decide +kernel)
theorem d49_8 : ft 49 8 = some (.dup, 1, 9, 0, 0, 0, 0) := ftq_ok (by decide +kernel)
theorem d49_9 : ft 49 9 = some (.invokespecial 9, 3, 12, 11, 0, 3, 66) := ftq_ok (by decide +kernel)
theorem d49_12 : ft 49 12 = some (.putfield 10, 3, 15, 6, 0, 3, 274) := ftq_ok (by decide +kernel)
theorem d49_15 : ft 49 15 = some (.aload_n 0, 1, 16, 0, 0, 0, 0) := ftq_ok (by decide +kernel)
theorem d49_16 : ft 49 16 = some (.new 16, 3, 19, 4, 13, 0, 81) := ftq_ok (by decide +kernel)
theorem d49_19 : ft 49 19 = some (.dup, 1, 20, 0, 0, 0, 0) := ftq_ok (by decide +kernel)
theorem d49_20 : ft 49 20 = some (.invokespecial 18, 3, 23, 23, 0, 3, 83) := ftq_ok (by decide +kernel)
theorem d49_23 : ft 49 23 = some (.putfield 19, 3, 26, 6, 1, 3, 275) := ftq_ok (by decide +kernel)
theorem d49_26 : ft 49 26 = some (.aload_n 0, 1, 27, 0, 0, 0, 0) := ftq_ok (by decide +kernel)
theorem d49_27 : ft 49 27 = some (.new 16, 3, 30, 4, 13, 0, 81) := ftq_ok (by decide +kernel)
theorem d49_30 : ft 49 30 = some (.dup, 1, 31, 0, 0, 0, 0) := ftq_ok (by decide +kernel)
theorem d49_31 : ft 49 31 = some (.invokespecial 18, 3, 34, 23, 0, 3, 83) := ftq_ok (by decide +kernel)
theorem d49_34 : ft 49 34 = some (.putfield 23, 3, 37, 6, 2, 3, 276) := ftq_ok (by decide +kernel)
theorem d49_37 : ft 49 37 = some (.aload_n 0, 1, 38, 0, 0, 0, 0) := ftq_ok (by decide +kernel)
theorem d49_38 : ft 49 38 = some (.new 16, 3, 41, 4, 13, 0, 81) := ftq_ok (by decide +kernel)
theorem d49_41 : ft 49 41 = some (.dup, 1, 42, 0, 0, 0, 0) := ftq_ok (by decide +kernel)
theorem d49_42 : ft 49 42 = some (.invokespecial 18, 3, 45, 23, 0, 3, 83) := ftq_ok (by decide +kernel)
theorem d49_45 : ft 49 45 = some (.putfield 26, 3, 48, 6, 3, 3, 277) := ftq_ok (by decide +kernel)
theorem d49_48 : ft 49 48 = some (.aload_n 0, 1, 49, 0, 0, 0, 0) := ftq_ok (by decide +kernel)
theorem d49_49 : ft 49 49 = some (.new 29, 3, 52, 0, 5, 0, 156) := ftq_ok (by decide +kernel)
theorem d49_52 : ft 49 52 = some (.dup, 1, 53, 0, 0, 0, 0) := ftq_ok (by decide +kernel)
theorem d49_53 : ft 49 53 = some (.invokespecial 31, 3, 56, 0, 0, 3, 158) := ftq_ok (by decide +kernel)
theorem d49_56 : ft 49 56 = some (.putfield 32, 3, 59, 6, 4, 3, 278) := ftq_ok (by decide +kernel)
theorem d49_59 : ft 49 59 = some (.aload_n 0, 1, 60, 0, 0, 0, 0) := ftq_ok (by decide +kernel)
theorem d49_60 : ft 49 60 = some (.new 36, 3, 63, 1, 7, 0, 215) := ftq_ok (by decide +kernel)
theorem d49_63 : ft 49 63 = some (.dup, 1, 64, 0, 0, 0, 0) := ftq_ok (by decide +kernel)
theorem d49_64 : ft 49 64 = some (.invokespecial 38, 3, 67, 6, 0, 3, 217) := ftq_ok (by decide +kernel)
theorem d49_67 : ft 49 67 = some (.putfield 39, 3, 70, 6, 5, 3, 279) := ftq_ok (by decide +kernel)
theorem d49_70 : ft 49 70 = some (.aload_n 0, 1, 71, 0, 0, 0, 0) := ftq_ok (by decide +kernel)
theorem d49_71 : ft 49 71 = some (.new 43, 3, 74, 3, 5, 0, 247) := ftq_ok (by decide +kernel)
theorem d49_74 : ft 49 74 = some (.dup, 1, 75, 0, 0, 0, 0) := ftq_ok (by decide +kernel)
theorem d49_75 : ft 49 75 = some (.invokespecial 45, 3, 78, 17, 0, 3, 249) := ftq_ok (by decide +kernel)
theorem d49_78 : ft 49 78 = some (.putfield 46, 3, 81, 6, 6, 3, 280) := ftq_ok (by decide +kernel)
theorem d49_81 : ft 49 81 = some (.aload_n 0, 1, 82, 0, 0, 0, 0) := ftq_ok (by decide +kernel)
theorem d49_82 : ft 49 82 = some (.iconst 0, 1, 83, 0, 0, 0, 0) := ftq_ok (by decide +kernel)
theorem d49_83 : ft 49 83 = some (.putfield 50, 3, 86, 6, 7, 1, 281) := ftq_ok (by decide +kernel)
theorem d49_86 : ft 49 86 = some (.aload_n 0, 1, 87, 0, 0, 0, 0) := ftq_ok (by decide +kernel)
theorem d49_87 : ft 49 87 = some (.iconst 0, 1, 88, 0, 0, 0, 0) := ftq_ok (by decide +kernel)
theorem d49_88 : ft 49 88 = some (.putfield 54, 3, 91, 6, 8, 0, 282) := ftq_ok (by decide +kernel)
theorem d49_91 : ft 49 91 = some (.aload_n 0, 1, 92, 0, 0, 0, 0) := ftq_ok (by decide +kernel)
theorem d49_92 : ft 49 92 = some (.iconst 0, 1, 93, 0, 0, 0, 0) := ftq_ok (by decide +kernel)
theorem d49_93 : ft 49 93 = some (.putfield 58, 3, 96, 6, 9, 0, 283) := ftq_ok (by decide +kernel)
theorem d49_96 : ft 49 96 = some (.aload_n 0, 1, 97, 0, 0, 0, 0) := ftq_ok (by decide +kernel)
theorem d49_97 : ft 49 97 = some (.iconst 0, 1, 98, 0, 0, 0, 0) := ftq_ok (by decide +kernel)
theorem d49_98 : ft 49 98 = some (.putfield 61, 3, 101, 6, 10, 0, 284) := ftq_ok (by decide +kernel)
theorem d49_101 : ft 49 101 = some (.return_, 1, 102, 0, 0, 0, 0) := ftq_ok (by decide +kernel)
-- 50: Tb_letter
theorem d50_0 : ft 50 0 = some (.iload_n 1, 1, 1, 0, 0, 0, 0) := ftq_ok (by decide +kernel)
theorem d50_1 : ft 50 1 = some (.iconst 1, 1, 2, 0, 0, 0, 0) := ftq_ok (by decide +kernel)
theorem d50_2 : ft 50 2 = some (.if_icmp .lt 9, 3, 5, 11, 0, 0, 0) := ftq_ok (by decide +kernel)
theorem d50_5 : ft 50 5 = some (.iload_n 1, 1, 6, 0, 0, 0, 0) := ftq_ok (by decide +kernel)
theorem d50_6 : ft 50 6 = some (.bipush 126, 2, 8, 0, 0, 0, 0) := ftq_ok (by decide +kernel)
theorem d50_8 : ft 50 8 = some (.if_icmp .le 6, 3, 11, 14, 0, 0, 0) := ftq_ok (by decide +kernel)
theorem d50_11 : ft 50 11 = some (.bipush (-102), 2, 13, 0, 0, 0, 0) := ftq_ok (by decide +kernel)
theorem d50_13 : ft 50 13 = some (.ireturn, 1, 14, 0, 0, 0, 0) := ftq_ok (by decide +kernel)
theorem d50_14 : ft 50 14 = some (.aload_n 0, 1, 15, 0, 0, 0, 0) := ftq_ok (by decide +kernel)
theorem d50_15 : ft 50 15 = some (.getfield 10, 3, 18, 6, 0, 3, 274) := ftq_ok (by decide +kernel)
theorem d50_18 : ft 50 18 = some (.getfield 64, 3, 21, 2, 1, 0, 74) := ftq_ok (by decide +kernel)
theorem d50_21 : ft 50 21 = some (.bipush 10, 2, 23, 0, 0, 0, 0) := ftq_ok (by decide +kernel)
theorem d50_23 : ft 50 23 = some (.if_icmp .lt 6, 3, 26, 29, 0, 0, 0) := ftq_ok (by decide +kernel)
theorem d50_26 : ft 50 26 = some (.bipush (-104), 2, 28, 0, 0, 0, 0) := ftq_ok (by decide +kernel)
theorem d50_28 : ft 50 28 = some (.ireturn, 1, 29, 0, 0, 0, 0) := ftq_ok (by decide +kernel)
theorem d50_29 : ft 50 29 = some (.aload_n 0, 1, 30, 0, 0, 0, 0) := ftq_ok (by decide +kernel)
theorem d50_30 : ft 50 30 = some (.getfield 10, 3, 33, 6, 0, 3, 274) := ftq_ok (by decide +kernel)
theorem d50_33 : ft 50 33 = some (.iload_n 1, 1, 34, 0, 0, 0, 0) := ftq_ok (by decide +kernel)
theorem d50_34 : ft 50 34 = some (.invokevirtual 67, 3, 37, 12, 1, 0, 312) := ftq_ok (by decide +kernel)
theorem d50_37 : ft 50 37 = some (.aload_n 0, 1, 38, 0, 0, 0, 0) := ftq_ok (by decide +kernel)
theorem d50_38 : ft 50 38 = some (.getfield 10, 3, 41, 6, 0, 3, 274) := ftq_ok (by decide +kernel)
theorem d50_41 : ft 50 41 = some (.getfield 64, 3, 44, 2, 1, 0, 74) := ftq_ok (by decide +kernel)
theorem d50_44 : ft 50 44 = some (.ireturn, 1, 45, 0, 0, 0, 0) := ftq_ok (by decide +kernel)
-- 51: Tb_blank
theorem d51_0 : ft 51 0 = some (.aload_n 0, 1, 1, 0, 0, 0, 0) := ftq_ok (by decide +kernel)
theorem d51_1 : ft 51 1 = some (.getfield 10, 3, 4, 6, 0, 3, 274) := ftq_ok (by decide +kernel)
theorem d51_4 : ft 51 4 = some (.getfield 64, 3, 7, 2, 1, 0, 74) := ftq_ok (by decide +kernel)
theorem d51_7 : ft 51 7 = some (.istore_n 1, 1, 8, 0, 0, 0, 0) := ftq_ok (by decide +kernel)
theorem d51_8 : ft 51 8 = some (.aload_n 0, 1, 9, 0, 0, 0, 0) := ftq_ok (by decide +kernel)
theorem d51_9 : ft 51 9 = some (.getfield 10, 3, 12, 6, 0, 3, 274) := ftq_ok (by decide +kernel)
theorem d51_12 : ft 51 12 = some (.iconst 0, 1, 13, 0, 0, 0, 0) := ftq_ok (by decide +kernel)
theorem d51_13 : ft 51 13 = some (.putfield 64, 3, 16, 2, 1, 0, 74) := ftq_ok (by decide +kernel)
theorem d51_16 : ft 51 16 = some (.iload_n 1, 1, 17, 0, 0, 0, 0) := ftq_ok (by decide +kernel)
theorem d51_17 : ft 51 17 = some (.ireturn, 1, 18, 0, 0, 0, 0) := ftq_ok (by decide +kernel)
-- 52: Tb_fault
theorem d52_0 : ft 52 0 = some (.aload_n 0, 1, 1, 0, 0, 0, 0) := ftq_ok (by decide +kernel)
theorem d52_1 : ft 52 1 = some (.getfield 10, 3, 4, 6, 0, 3, 274) := ftq_ok (by decide +kernel)
theorem d52_4 : ft 52 4 = some (.invokevirtual 71, 3, 7, 13, 0, 0, 324) := ftq_ok (by decide +kernel)
theorem d52_7 : ft 52 7 = some (.ireturn, 1, 8, 0, 0, 0, 0) := ftq_ok (by decide +kernel)
-- 53: Tb_slope
theorem d53_0 : ft 53 0 = some (.aload_n 0, 1, 1, 0, 0, 0, 0) := ftq_ok (by decide +kernel)
theorem d53_1 : ft 53 1 = some (.getfield 10, 3, 4, 6, 0, 3, 274) := ftq_ok (by decide +kernel)
theorem d53_4 : ft 53 4 = some (.invokevirtual 75, 3, 7, 15, 0, 0, 335) := ftq_ok (by decide +kernel)
theorem d53_7 : ft 53 7 = some (.ifCond .ne 6, 3, 10, 13, 0, 0, 0) := ftq_ok (by decide +kernel)
theorem d53_10 : ft 53 10 = some (.bipush (-103), 2, 12, 0, 0, 0, 0) := ftq_ok (by decide +kernel)
theorem d53_12 : ft 53 12 = some (.ireturn, 1, 13, 0, 0, 0, 0) := ftq_ok (by decide +kernel)
theorem d53_13 : ft 53 13 = some (.aload_n 0, 1, 14, 0, 0, 0, 0) := ftq_ok (by decide +kernel)
theorem d53_14 : ft 53 14 = some (.getfield 19, 3, 17, 6, 1, 3, 275) := ftq_ok (by decide +kernel)
theorem d53_17 : ft 53 17 = some (.aload_n 0, 1, 18, 0, 0, 0, 0) := ftq_ok (by decide +kernel)
theorem d53_18 : ft 53 18 = some (.getfield 10, 3, 21, 6, 0, 3, 274) := ftq_ok (by decide +kernel)
theorem d53_21 : ft 53 21 = some (.invokevirtual 79, 3, 24, 24, 1, 0, 340) := ftq_ok (by decide +kernel)
theorem d53_24 : ft 53 24 = some (.aload_n 0, 1, 25, 0, 0, 0, 0) := ftq_ok (by decide +kernel)
theorem d53_25 : ft 53 25 = some (.getfield 10, 3, 28, 6, 0, 3, 274) := ftq_ok (by decide +kernel)
theorem d53_28 : ft 53 28 = some (.iconst 0, 1, 29, 0, 0, 0, 0) := ftq_ok (by decide +kernel)
theorem d53_29 : ft 53 29 = some (.putfield 64, 3, 32, 2, 1, 0, 74) := ftq_ok (by decide +kernel)
theorem d53_32 : ft 53 32 = some (.aload_n 0, 1, 33, 0, 0, 0, 0) := ftq_ok (by decide +kernel)
theorem d53_33 : ft 53 33 = some (.iconst 0, 1, 34, 0, 0, 0, 0) := ftq_ok (by decide +kernel)
theorem d53_34 : ft 53 34 = some (.putfield 50, 3, 37, 6, 7, 1, 281) := ftq_ok (by decide +kernel)
theorem d53_37 : ft 53 37 = some (.aload_n 0, 1, 38, 0, 0, 0, 0) := ftq_ok (by decide +kernel)
theorem d53_38 : ft 53 38 = some (.dup, 1, 39, 0, 0, 0, 0) := ftq_ok (by decide +kernel)
theorem d53_39 : ft 53 39 = some (.getfield 54, 3, 42, 6, 8, 0, 282) := ftq_ok (by decide +kernel)
theorem d53_42 : ft 53 42 = some (.iconst 1, 1, 43, 0, 0, 0, 0) := ftq_ok (by decide +kernel)
theorem d53_43 : ft 53 43 = some (.iadd, 1, 44, 0, 0, 0, 0) := ftq_ok (by decide +kernel)
theorem d53_44 : ft 53 44 = some (.putfield 54, 3, 47, 6, 8, 0, 282) := ftq_ok (by decide +kernel)
theorem d53_47 : ft 53 47 = some (.aload_n 0, 1, 48, 0, 0, 0, 0) := ftq_ok (by decide +kernel)
theorem d53_48 : ft 53 48 = some (.getfield 19, 3, 51, 6, 1, 3, 275) := ftq_ok (by decide +kernel)
theorem d53_51 : ft 53 51 = some (.getfield 83, 3, 54, 4, 0, 0, 90) := ftq_ok (by decide +kernel)
theorem d53_54 : ft 53 54 = some (.ireturn, 1, 55, 0, 0, 0, 0) := ftq_ok (by decide +kernel)
-- 54: Tb_stretch
theorem d54_0 : ft 54 0 = some (.aload_n 0, 1, 1, 0, 0, 0, 0) := ftq_ok (by decide +kernel)
theorem d54_1 : ft 54 1 = some (.getfield 19, 3, 4, 6, 1, 3, 275) := ftq_ok (by decide +kernel)
theorem d54_4 : ft 54 4 = some (.iload_n 1, 1, 5, 0, 0, 0, 0) := ftq_ok (by decide +kernel)
theorem d54_5 : ft 54 5 = some (.invokevirtual 86, 3, 8, 26, 1, 0, 355) := ftq_ok (by decide +kernel)
theorem d54_8 : ft 54 8 = some (.ifCond .ne 6, 3, 11, 14, 0, 0, 0) := ftq_ok (by decide +kernel)
theorem d54_11 : ft 54 11 = some (.bipush (-101), 2, 13, 0, 0, 0, 0) := ftq_ok (by decide +kernel)
theorem d54_13 : ft 54 13 = some (.ireturn, 1, 14, 0, 0, 0, 0) := ftq_ok (by decide +kernel)
theorem d54_14 : ft 54 14 = some (.iload_n 2, 1, 15, 0, 0, 0, 0) := ftq_ok (by decide +kernel)
theorem d54_15 : ft 54 15 = some (.ifCond .ne 13, 3, 18, 28, 0, 0, 0) := ftq_ok (by decide +kernel)
theorem d54_18 : ft 54 18 = some (.aload_n 0, 1, 19, 0, 0, 0, 0) := ftq_ok (by decide +kernel)
theorem d54_19 : ft 54 19 = some (.getfield 19, 3, 22, 6, 1, 3, 275) := ftq_ok (by decide +kernel)
theorem d54_22 : ft 54 22 = some (.getfield 90, 3, 25, 4, 5, 3, 108) := ftq_ok (by decide +kernel)
theorem d54_25 : ft 54 25 = some (.iload_n 1, 1, 26, 0, 0, 0, 0) := ftq_ok (by decide +kernel)
theorem d54_26 : ft 54 26 = some (.iaload, 1, 27, 0, 0, 0, 0) := ftq_ok (by decide +kernel)
theorem d54_27 : ft 54 27 = some (.ireturn, 1, 28, 0, 0, 0, 0) := ftq_ok (by decide +kernel)
theorem d54_28 : ft 54 28 = some (.iload_n 2, 1, 29, 0, 0, 0, 0) := ftq_ok (by decide +kernel)
theorem d54_29 : ft 54 29 = some (.iconst 1, 1, 30, 0, 0, 0, 0) := ftq_ok (by decide +kernel)
theorem d54_30 : ft 54 30 = some (.if_icmp .ne 13, 3, 33, 43, 0, 0, 0) := ftq_ok (by decide +kernel)
theorem d54_33 : ft 54 33 = some (.aload_n 0, 1, 34, 0, 0, 0, 0) := ftq_ok (by decide +kernel)
theorem d54_34 : ft 54 34 = some (.getfield 19, 3, 37, 6, 1, 3, 275) := ftq_ok (by decide +kernel)
theorem d54_37 : ft 54 37 = some (.getfield 94, 3, 40, 4, 6, 3, 110) := ftq_ok (by decide +kernel)
theorem d54_40 : ft 54 40 = some (.iload_n 1, 1, 41, 0, 0, 0, 0) := ftq_ok (by decide +kernel)
theorem d54_41 : ft 54 41 = some (.iaload, 1, 42, 0, 0, 0, 0) := ftq_ok (by decide +kernel)
theorem d54_42 : ft 54 42 = some (.ireturn, 1, 43, 0, 0, 0, 0) := ftq_ok (by decide +kernel)
theorem d54_43 : ft 54 43 = some (.bipush (-102), 2, 45, 0, 0, 0, 0) := ftq_ok (by decide +kernel)
theorem d54_45 : ft 54 45 = some (.ireturn, 1, 46, 0, 0, 0, 0) := ftq_ok (by decide +kernel)
-- 55: Tb_walker
theorem d55_0 : ft 55 0 = some (.iload_n 1, 1, 1, 0, 0, 0, 0) := ftq_ok (by decide +kernel)
theorem d55_1 : ft 55 1 = some (.invokestatic 97, 3, 4, 74, 1, 1, 363) := ftq_ok (by decide +kernel)
theorem d55_4 : ft 55 4 = some (.ifCond .eq 14, 3, 7, 18, 0, 0, 0) := ftq_ok (by decide +kernel)
theorem d55_7 : ft 55 7 = some (.iload_n 2, 1, 8, 0, 0, 0, 0) := ftq_ok (by decide +kernel)
theorem d55_8 : ft 55 8 = some (.iconst 1, 1, 9, 0, 0, 0, 0) := ftq_ok (by decide +kernel)
theorem d55_9 : ft 55 9 = some (.if_icmp .lt 9, 3, 12, 18, 0, 0, 0) := ftq_ok (by decide +kernel)
theorem d55_12 : ft 55 12 = some (.iload_n 2, 1, 13, 0, 0, 0, 0) := ftq_ok (by decide +kernel)
theorem d55_13 : ft 55 13 = some (.bipush 99, 2, 15, 0, 0, 0, 0) := ftq_ok (by decide +kernel)
theorem d55_15 : ft 55 15 = some (.if_icmp .le 6, 3, 18, 21, 0, 0, 0) := ftq_ok (by decide +kernel)
theorem d55_18 : ft 55 18 = some (.bipush (-102), 2, 20, 0, 0, 0, 0) := ftq_ok (by decide +kernel)
theorem d55_20 : ft 55 20 = some (.ireturn, 1, 21, 0, 0, 0, 0) := ftq_ok (by decide +kernel)
theorem d55_21 : ft 55 21 = some (.aload_n 0, 1, 22, 0, 0, 0, 0) := ftq_ok (by decide +kernel)
theorem d55_22 : ft 55 22 = some (.getfield 19, 3, 25, 6, 1, 3, 275) := ftq_ok (by decide +kernel)
theorem d55_25 : ft 55 25 = some (.getfield 83, 3, 28, 4, 0, 0, 90) := ftq_ok (by decide +kernel)
theorem d55_28 : ft 55 28 = some (.ifCond .ne 6, 3, 31, 34, 0, 0, 0) := ftq_ok (by decide +kernel)
theorem d55_31 : ft 55 31 = some (.bipush (-103), 2, 33, 0, 0, 0, 0) := ftq_ok (by decide +kernel)
theorem d55_33 : ft 55 33 = some (.ireturn, 1, 34, 0, 0, 0, 0) := ftq_ok (by decide +kernel)
theorem d55_34 : ft 55 34 = some (.aload_n 0, 1, 35, 0, 0, 0, 0) := ftq_ok (by decide +kernel)
theorem d55_35 : ft 55 35 = some (.getfield 19, 3, 38, 6, 1, 3, 275) := ftq_ok (by decide +kernel)
theorem d55_38 : ft 55 38 = some (.getfield 100, 3, 41, 4, 3, 0, 103) := ftq_ok (by decide +kernel)
theorem d55_41 : ft 55 41 = some (.iconst 5, 1, 42, 0, 0, 0, 0) := ftq_ok (by decide +kernel)
theorem d55_42 : ft 55 42 = some (.if_icmp .lt 6, 3, 45, 48, 0, 0, 0) := ftq_ok (by decide +kernel)
theorem d55_45 : ft 55 45 = some (.bipush (-104), 2, 47, 0, 0, 0, 0) := ftq_ok (by decide +kernel)
theorem d55_47 : ft 55 47 = some (.ireturn, 1, 48, 0, 0, 0, 0) := ftq_ok (by decide +kernel)
theorem d55_48 : ft 55 48 = some (.aload_n 0, 1, 49, 0, 0, 0, 0) := ftq_ok (by decide +kernel)
theorem d55_49 : ft 55 49 = some (.getfield 19, 3, 52, 6, 1, 3, 275) := ftq_ok (by decide +kernel)
theorem d55_52 : ft 55 52 = some (.iload_n 1, 1, 53, 0, 0, 0, 0) := ftq_ok (by decide +kernel)
theorem d55_53 : ft 55 53 = some (.iload_n 2, 1, 54, 0, 0, 0, 0) := ftq_ok (by decide +kernel)
theorem d55_54 : ft 55 54 = some (.invokevirtual 103, 3, 57, 28, 2, 0, 366) := ftq_ok (by decide +kernel)
theorem d55_57 : ft 55 57 = some (.ireturn, 1, 58, 0, 0, 0, 0) := ftq_ok (by decide +kernel)
-- 56: Tb_about
theorem d56_0 : ft 56 0 = some (.aload_n 0, 1, 1, 0, 0, 0, 0) := ftq_ok (by decide +kernel)
theorem d56_1 : ft 56 1 = some (.getfield 19, 3, 4, 6, 1, 3, 275) := ftq_ok (by decide +kernel)
theorem d56_4 : ft 56 4 = some (.iload_n 1, 1, 5, 0, 0, 0, 0) := ftq_ok (by decide +kernel)
theorem d56_5 : ft 56 5 = some (.invokevirtual 107, 3, 8, 27, 1, 0, 374) := ftq_ok (by decide +kernel)
theorem d56_8 : ft 56 8 = some (.ifCond .ne 6, 3, 11, 14, 0, 0, 0) := ftq_ok (by decide +kernel)
theorem d56_11 : ft 56 11 = some (.bipush (-101), 2, 13, 0, 0, 0, 0) := ftq_ok (by decide +kernel)
theorem d56_13 : ft 56 13 = some (.ireturn, 1, 14, 0, 0, 0, 0) := ftq_ok (by decide +kernel)
theorem d56_14 : ft 56 14 = some (.iload_n 2, 1, 15, 0, 0, 0, 0) := ftq_ok (by decide +kernel)
theorem d56_15 : ft 56 15 = some (.tableswitch 108 0 6 #[41, 51, 61, 71, 80, 89, 98], 41, 56, 0, 0, 0, 0) := ftq_ok (by decide +kernel)
theorem d56_56 : ft 56 56 = some (.aload_n 0, 1, 57, 0, 0, 0, 0) := ftq_ok (by decide +kernel)
theorem d56_57 : ft 56 57 = some (.getfield 19, 3, 60, 6, 1, 3, 275) := ftq_ok (by decide +kernel)
theorem d56_60 : ft 56 60 = some (.getfield 110, 3, 63, 4, 7, 3, 112) := ftq_ok (by decide +kernel)
theorem d56_63 : ft 56 63 = some (.iload_n 1, 1, 64, 0, 0, 0, 0) := ftq_ok (by decide +kernel)
theorem d56_64 : ft 56 64 = some (.iaload, 1, 65, 0, 0, 0, 0) := ftq_ok (by decide +kernel)
theorem d56_65 : ft 56 65 = some (.ireturn, 1, 66, 0, 0, 0, 0) := ftq_ok (by decide +kernel)
theorem d56_66 : ft 56 66 = some (.aload_n 0, 1, 67, 0, 0, 0, 0) := ftq_ok (by decide +kernel)
theorem d56_67 : ft 56 67 = some (.getfield 19, 3, 70, 6, 1, 3, 275) := ftq_ok (by decide +kernel)
theorem d56_70 : ft 56 70 = some (.getfield 113, 3, 73, 4, 8, 3, 115) := ftq_ok (by decide +kernel)
theorem d56_73 : ft 56 73 = some (.iload_n 1, 1, 74, 0, 0, 0, 0) := ftq_ok (by decide +kernel)
theorem d56_74 : ft 56 74 = some (.iaload, 1, 75, 0, 0, 0, 0) := ftq_ok (by decide +kernel)
theorem d56_75 : ft 56 75 = some (.ireturn, 1, 76, 0, 0, 0, 0) := ftq_ok (by decide +kernel)
theorem d56_76 : ft 56 76 = some (.aload_n 0, 1, 77, 0, 0, 0, 0) := ftq_ok (by decide +kernel)
theorem d56_77 : ft 56 77 = some (.getfield 19, 3, 80, 6, 1, 3, 275) := ftq_ok (by decide +kernel)
theorem d56_80 : ft 56 80 = some (.getfield 116, 3, 83, 4, 9, 3, 119) := ftq_ok (by decide +kernel)
theorem d56_83 : ft 56 83 = some (.iload_n 1, 1, 84, 0, 0, 0, 0) := ftq_ok (by decide +kernel)
theorem d56_84 : ft 56 84 = some (.iaload, 1, 85, 0, 0, 0, 0) := ftq_ok (by decide +kernel)
theorem d56_85 : ft 56 85 = some (.ireturn, 1, 86, 0, 0, 0, 0) := ftq_ok (by decide +kernel)
theorem d56_86 : ft 56 86 = some (.aload_n 0, 1, 87, 0, 0, 0, 0) := ftq_ok (by decide +kernel)
theorem d56_87 : ft 56 87 = some (.getfield 19, 3, 90, 6, 1, 3, 275) := ftq_ok (by decide +kernel)
theorem d56_90 : ft 56 90 = some (.iload_n 1, 1, 91, 0, 0, 0, 0) := ftq_ok (by decide +kernel)
theorem d56_91 : ft 56 91 = some (.invokevirtual 119, 3, 94, 30, 1, 0, 378) := ftq_ok (by decide +kernel)
theorem d56_94 : ft 56 94 = some (.ireturn, 1, 95, 0, 0, 0, 0) := ftq_ok (by decide +kernel)
theorem d56_95 : ft 56 95 = some (.aload_n 0, 1, 96, 0, 0, 0, 0) := ftq_ok (by decide +kernel)
theorem d56_96 : ft 56 96 = some (.getfield 19, 3, 99, 6, 1, 3, 275) := ftq_ok (by decide +kernel)
theorem d56_99 : ft 56 99 = some (.iload_n 1, 1, 100, 0, 0, 0, 0) := ftq_ok (by decide +kernel)
theorem d56_100 : ft 56 100 = some (.invokevirtual 123, 3, 103, 31, 1, 0, 382) := ftq_ok (by decide +kernel)
theorem d56_103 : ft 56 103 = some (.ireturn, 1, 104, 0, 0, 0, 0) := ftq_ok (by decide +kernel)
theorem d56_104 : ft 56 104 = some (.aload_n 0, 1, 105, 0, 0, 0, 0) := ftq_ok (by decide +kernel)
theorem d56_105 : ft 56 105 = some (.getfield 19, 3, 108, 6, 1, 3, 275) := ftq_ok (by decide +kernel)
theorem d56_108 : ft 56 108 = some (.iload_n 1, 1, 109, 0, 0, 0, 0) := ftq_ok (by decide +kernel)
theorem d56_109 : ft 56 109 = some (.invokevirtual 126, 3, 112, 32, 1, 0, 386) := ftq_ok (by decide +kernel)
theorem d56_112 : ft 56 112 = some (.ireturn, 1, 113, 0, 0, 0, 0) := ftq_ok (by decide +kernel)
theorem d56_113 : ft 56 113 = some (.aload_n 0, 1, 114, 0, 0, 0, 0) := ftq_ok (by decide +kernel)
theorem d56_114 : ft 56 114 = some (.getfield 19, 3, 117, 6, 1, 3, 275) := ftq_ok (by decide +kernel)
theorem d56_117 : ft 56 117 = some (.getfield 129, 3, 120, 4, 10, 3, 122) := ftq_ok (by decide +kernel)
theorem d56_120 : ft 56 120 = some (.iload_n 1, 1, 121, 0, 0, 0, 0) := ftq_ok (by decide +kernel)
theorem d56_121 : ft 56 121 = some (.iaload, 1, 122, 0, 0, 0, 0) := ftq_ok (by decide +kernel)
theorem d56_122 : ft 56 122 = some (.ireturn, 1, 123, 0, 0, 0, 0) := ftq_ok (by decide +kernel)
theorem d56_123 : ft 56 123 = some (.bipush (-102), 2, 125, 0, 0, 0, 0) := ftq_ok (by decide +kernel)
theorem d56_125 : ft 56 125 = some (.ireturn, 1, 126, 0, 0, 0, 0) := ftq_ok (by decide +kernel)
-- 57: Tb_as
theorem d57_0 : ft 57 0 = some (.aload_n 0, 1, 1, 0, 0, 0, 0) := ftq_ok (by decide +kernel)
theorem d57_1 : ft 57 1 = some (.getfield 19, 3, 4, 6, 1, 3, 275) := ftq_ok (by decide +kernel)
theorem d57_4 : ft 57 4 = some (.iload_n 1, 1, 5, 0, 0, 0, 0) := ftq_ok (by decide +kernel)
theorem d57_5 : ft 57 5 = some (.invokevirtual 107, 3, 8, 27, 1, 0, 374) := ftq_ok (by decide +kernel)
theorem d57_8 : ft 57 8 = some (.ifCond .ne 6, 3, 11, 14, 0, 0, 0) := ftq_ok (by decide +kernel)
theorem d57_11 : ft 57 11 = some (.bipush (-101), 2, 13, 0, 0, 0, 0) := ftq_ok (by decide +kernel)
theorem d57_13 : ft 57 13 = some (.ireturn, 1, 14, 0, 0, 0, 0) := ftq_ok (by decide +kernel)
theorem d57_14 : ft 57 14 = some (.iload_n 2, 1, 15, 0, 0, 0, 0) := ftq_ok (by decide +kernel)
theorem d57_15 : ft 57 15 = some (.invokestatic 97, 3, 18, 74, 1, 1, 363) := ftq_ok (by decide +kernel)
theorem d57_18 : ft 57 18 = some (.ifCond .ne 6, 3, 21, 24, 0, 0, 0) := ftq_ok (by decide +kernel)
theorem d57_21 : ft 57 21 = some (.bipush (-102), 2, 23, 0, 0, 0, 0) := ftq_ok (by decide +kernel)
theorem d57_23 : ft 57 23 = some (.ireturn, 1, 24, 0, 0, 0, 0) := ftq_ok (by decide +kernel)
theorem d57_24 : ft 57 24 = some (.aload_n 0, 1, 25, 0, 0, 0, 0) := ftq_ok (by decide +kernel)
theorem d57_25 : ft 57 25 = some (.getfield 19, 3, 28, 6, 1, 3, 275) := ftq_ok (by decide +kernel)
theorem d57_28 : ft 57 28 = some (.iload_n 1, 1, 29, 0, 0, 0, 0) := ftq_ok (by decide +kernel)
theorem d57_29 : ft 57 29 = some (.iload_n 2, 1, 30, 0, 0, 0, 0) := ftq_ok (by decide +kernel)
theorem d57_30 : ft 57 30 = some (.invokevirtual 132, 3, 33, 29, 2, 0, 399) := ftq_ok (by decide +kernel)
theorem d57_33 : ft 57 33 = some (.ifCond .eq 7, 3, 36, 40, 0, 0, 0) := ftq_ok (by decide +kernel)
theorem d57_36 : ft 57 36 = some (.iload_n 1, 1, 37, 0, 0, 0, 0) := ftq_ok (by decide +kernel)
theorem d57_37 : ft 57 37 = some (.goto 4, 3, 40, 41, 0, 0, 0) := ftq_ok (by decide +kernel)
theorem d57_40 : ft 57 40 = some (.iconst (-1), 1, 41, 0, 0, 0, 0) := ftq_ok (by decide +kernel)
theorem d57_41 : ft 57 41 = some (.ireturn, 1, 42, 0, 0, 0, 0) := ftq_ok (by decide +kernel)
-- 58: Tb_tread
theorem d58_0 : ft 58 0 = some (.aload_n 0, 1, 1, 0, 0, 0, 0) := ftq_ok (by decide +kernel)
theorem d58_1 : ft 58 1 = some (.getfield 19, 3, 4, 6, 1, 3, 275) := ftq_ok (by decide +kernel)
theorem d58_4 : ft 58 4 = some (.invokevirtual 136, 3, 7, 34, 0, 0, 407) := ftq_ok (by decide +kernel)
theorem d58_7 : ft 58 7 = some (.ifCond .eq 13, 3, 10, 20, 0, 0, 0) := ftq_ok (by decide +kernel)
theorem d58_10 : ft 58 10 = some (.aload_n 0, 1, 11, 0, 0, 0, 0) := ftq_ok (by decide +kernel)
theorem d58_11 : ft 58 11 = some (.getfield 19, 3, 14, 6, 1, 3, 275) := ftq_ok (by decide +kernel)
theorem d58_14 : ft 58 14 = some (.getfield 139, 3, 17, 4, 2, 0, 98) := ftq_ok (by decide +kernel)
theorem d58_17 : ft 58 17 = some (.goto 5, 3, 20, 22, 0, 0, 0) := ftq_ok (by decide +kernel)
theorem d58_20 : ft 58 20 = some (.bipush (-103), 2, 22, 0, 0, 0, 0) := ftq_ok (by decide +kernel)
theorem d58_22 : ft 58 22 = some (.ireturn, 1, 23, 0, 0, 0, 0) := ftq_ok (by decide +kernel)
-- 59: Tb_change
theorem d59_0 : ft 59 0 = some (.aload_n 0, 1, 1, 0, 0, 0, 0) := ftq_ok (by decide +kernel)
theorem d59_1 : ft 59 1 = some (.getfield 19, 3, 4, 6, 1, 3, 275) := ftq_ok (by decide +kernel)
theorem d59_4 : ft 59 4 = some (.getfield 100, 3, 7, 4, 3, 0, 103) := ftq_ok (by decide +kernel)
theorem d59_7 : ft 59 7 = some (.ifCond .ne 6, 3, 10, 13, 0, 0, 0) := ftq_ok (by decide +kernel)
theorem d59_10 : ft 59 10 = some (.bipush (-103), 2, 12, 0, 0, 0, 0) := ftq_ok (by decide +kernel)
theorem d59_12 : ft 59 12 = some (.ireturn, 1, 13, 0, 0, 0, 0) := ftq_ok (by decide +kernel)
theorem d59_13 : ft 59 13 = some (.aload_n 0, 1, 14, 0, 0, 0, 0) := ftq_ok (by decide +kernel)
theorem d59_14 : ft 59 14 = some (.getfield 19, 3, 17, 6, 1, 3, 275) := ftq_ok (by decide +kernel)
theorem d59_17 : ft 59 17 = some (.invokevirtual 142, 3, 20, 36, 0, 0, 419) := ftq_ok (by decide +kernel)
theorem d59_20 : ft 59 20 = some (.aload_n 0, 1, 21, 0, 0, 0, 0) := ftq_ok (by decide +kernel)
theorem d59_21 : ft 59 21 = some (.getfield 19, 3, 24, 6, 1, 3, 275) := ftq_ok (by decide +kernel)
theorem d59_24 : ft 59 24 = some (.getfield 145, 3, 27, 4, 11, 3, 127) := ftq_ok (by decide +kernel)
theorem d59_27 : ft 59 27 = some (.iconst 0, 1, 28, 0, 0, 0, 0) := ftq_ok (by decide +kernel)
theorem d59_28 : ft 59 28 = some (.iaload, 1, 29, 0, 0, 0, 0) := ftq_ok (by decide +kernel)
theorem d59_29 : ft 59 29 = some (.ireturn, 1, 30, 0, 0, 0, 0) := ftq_ok (by decide +kernel)
-- 60: Tb_rest
theorem d60_0 : ft 60 0 = some (.aload_n 0, 1, 1, 0, 0, 0, 0) := ftq_ok (by decide +kernel)
theorem d60_1 : ft 60 1 = some (.getfield 19, 3, 4, 6, 1, 3, 275) := ftq_ok (by decide +kernel)
theorem d60_4 : ft 60 4 = some (.getfield 100, 3, 7, 4, 3, 0, 103) := ftq_ok (by decide +kernel)
theorem d60_7 : ft 60 7 = some (.ifCond .ne 6, 3, 10, 13, 0, 0, 0) := ftq_ok (by decide +kernel)
theorem d60_10 : ft 60 10 = some (.bipush (-103), 2, 12, 0, 0, 0, 0) := ftq_ok (by decide +kernel)
theorem d60_12 : ft 60 12 = some (.ireturn, 1, 13, 0, 0, 0, 0) := ftq_ok (by decide +kernel)
theorem d60_13 : ft 60 13 = some (.aload_n 0, 1, 14, 0, 0, 0, 0) := ftq_ok (by decide +kernel)
theorem d60_14 : ft 60 14 = some (.getfield 19, 3, 17, 6, 1, 3, 275) := ftq_ok (by decide +kernel)
theorem d60_17 : ft 60 17 = some (.invokevirtual 148, 3, 20, 37, 0, 0, 427) := ftq_ok (by decide +kernel)
theorem d60_20 : ft 60 20 = some (.ireturn, 1, 21, 0, 0, 0, 0) := ftq_ok (by decide +kernel)
-- 61: Tb_snow
theorem d61_0 : ft 61 0 = some (.iload_n 1, 1, 1, 0, 0, 0, 0) := ftq_ok (by decide +kernel)
theorem d61_1 : ft 61 1 = some (.ifCond .lt 9, 3, 4, 10, 0, 0, 0) := ftq_ok (by decide +kernel)
theorem d61_4 : ft 61 4 = some (.iload_n 1, 1, 5, 0, 0, 0, 0) := ftq_ok (by decide +kernel)
theorem d61_5 : ft 61 5 = some (.bipush 9, 2, 7, 0, 0, 0, 0) := ftq_ok (by decide +kernel)
theorem d61_7 : ft 61 7 = some (.if_icmp .le 6, 3, 10, 13, 0, 0, 0) := ftq_ok (by decide +kernel)
theorem d61_10 : ft 61 10 = some (.bipush (-102), 2, 12, 0, 0, 0, 0) := ftq_ok (by decide +kernel)
theorem d61_12 : ft 61 12 = some (.ireturn, 1, 13, 0, 0, 0, 0) := ftq_ok (by decide +kernel)
theorem d61_13 : ft 61 13 = some (.aload_n 0, 1, 14, 0, 0, 0, 0) := ftq_ok (by decide +kernel)
theorem d61_14 : ft 61 14 = some (.getfield 19, 3, 17, 6, 1, 3, 275) := ftq_ok (by decide +kernel)
theorem d61_17 : ft 61 17 = some (.getfield 83, 3, 20, 4, 0, 0, 90) := ftq_ok (by decide +kernel)
theorem d61_20 : ft 61 20 = some (.ifCond .ne 6, 3, 23, 26, 0, 0, 0) := ftq_ok (by decide +kernel)
theorem d61_23 : ft 61 23 = some (.bipush (-103), 2, 25, 0, 0, 0, 0) := ftq_ok (by decide +kernel)
theorem d61_25 : ft 61 25 = some (.ireturn, 1, 26, 0, 0, 0, 0) := ftq_ok (by decide +kernel)
theorem d61_26 : ft 61 26 = some (.aload_n 0, 1, 27, 0, 0, 0, 0) := ftq_ok (by decide +kernel)
theorem d61_27 : ft 61 27 = some (.getfield 19, 3, 30, 6, 1, 3, 275) := ftq_ok (by decide +kernel)
theorem d61_30 : ft 61 30 = some (.iload_n 1, 1, 31, 0, 0, 0, 0) := ftq_ok (by decide +kernel)
theorem d61_31 : ft 61 31 = some (.invokevirtual 151, 3, 34, 38, 1, 0, 435) := ftq_ok (by decide +kernel)
theorem d61_34 : ft 61 34 = some (.aload_n 0, 1, 35, 0, 0, 0, 0) := ftq_ok (by decide +kernel)
theorem d61_35 : ft 61 35 = some (.getfield 19, 3, 38, 6, 1, 3, 275) := ftq_ok (by decide +kernel)
theorem d61_38 : ft 61 38 = some (.invokevirtual 154, 3, 41, 39, 0, 0, 442) := ftq_ok (by decide +kernel)
theorem d61_41 : ft 61 41 = some (.ireturn, 1, 42, 0, 0, 0, 0) := ftq_ok (by decide +kernel)
-- 62: Tb_sun
theorem d62_0 : ft 62 0 = some (.aload_n 0, 1, 1, 0, 0, 0, 0) := ftq_ok (by decide +kernel)
theorem d62_1 : ft 62 1 = some (.getfield 19, 3, 4, 6, 1, 3, 275) := ftq_ok (by decide +kernel)
theorem d62_4 : ft 62 4 = some (.getfield 83, 3, 7, 4, 0, 0, 90) := ftq_ok (by decide +kernel)
theorem d62_7 : ft 62 7 = some (.ifCond .ne 6, 3, 10, 13, 0, 0, 0) := ftq_ok (by decide +kernel)
theorem d62_10 : ft 62 10 = some (.bipush (-103), 2, 12, 0, 0, 0, 0) := ftq_ok (by decide +kernel)
theorem d62_12 : ft 62 12 = some (.ireturn, 1, 13, 0, 0, 0, 0) := ftq_ok (by decide +kernel)
theorem d62_13 : ft 62 13 = some (.aload_n 0, 1, 14, 0, 0, 0, 0) := ftq_ok (by decide +kernel)
theorem d62_14 : ft 62 14 = some (.getfield 19, 3, 17, 6, 1, 3, 275) := ftq_ok (by decide +kernel)
theorem d62_17 : ft 62 17 = some (.aload_n 0, 1, 18, 0, 0, 0, 0) := ftq_ok (by decide +kernel)
theorem d62_18 : ft 62 18 = some (.getfield 19, 3, 21, 6, 1, 3, 275) := ftq_ok (by decide +kernel)
theorem d62_21 : ft 62 21 = some (.getfield 157, 3, 24, 4, 1, 0, 92) := ftq_ok (by decide +kernel)
theorem d62_24 : ft 62 24 = some (.ineg, 1, 25, 0, 0, 0, 0) := ftq_ok (by decide +kernel)
theorem d62_25 : ft 62 25 = some (.invokevirtual 151, 3, 28, 38, 1, 0, 435) := ftq_ok (by decide +kernel)
theorem d62_28 : ft 62 28 = some (.aload_n 0, 1, 29, 0, 0, 0, 0) := ftq_ok (by decide +kernel)
theorem d62_29 : ft 62 29 = some (.getfield 19, 3, 32, 6, 1, 3, 275) := ftq_ok (by decide +kernel)
theorem d62_32 : ft 62 32 = some (.invokevirtual 154, 3, 35, 39, 0, 0, 442) := ftq_ok (by decide +kernel)
theorem d62_35 : ft 62 35 = some (.ireturn, 1, 36, 0, 0, 0, 0) := ftq_ok (by decide +kernel)
-- 63: Tb_best
theorem d63_0 : ft 63 0 = some (.iload_n 1, 1, 1, 0, 0, 0, 0) := ftq_ok (by decide +kernel)
theorem d63_1 : ft 63 1 = some (.bipush 10, 2, 3, 0, 0, 0, 0) := ftq_ok (by decide +kernel)
theorem d63_3 : ft 63 3 = some (.if_icmp .lt 13, 3, 6, 16, 0, 0, 0) := ftq_ok (by decide +kernel)
theorem d63_6 : ft 63 6 = some (.iload_n 1, 1, 7, 0, 0, 0, 0) := ftq_ok (by decide +kernel)
theorem d63_7 : ft 63 7 = some (.bipush 16, 2, 9, 0, 0, 0, 0) := ftq_ok (by decide +kernel)
theorem d63_9 : ft 63 9 = some (.if_icmp .ge 7, 3, 12, 16, 0, 0, 0) := ftq_ok (by decide +kernel)
theorem d63_12 : ft 63 12 = some (.iconst 1, 1, 13, 0, 0, 0, 0) := ftq_ok (by decide +kernel)
theorem d63_13 : ft 63 13 = some (.goto 4, 3, 16, 17, 0, 0, 0) := ftq_ok (by decide +kernel)
theorem d63_16 : ft 63 16 = some (.iconst 0, 1, 17, 0, 0, 0, 0) := ftq_ok (by decide +kernel)
theorem d63_17 : ft 63 17 = some (.istore_n 2, 1, 18, 0, 0, 0, 0) := ftq_ok (by decide +kernel)
theorem d63_18 : ft 63 18 = some (.iload_n 1, 1, 19, 0, 0, 0, 0) := ftq_ok (by decide +kernel)
theorem d63_19 : ft 63 19 = some (.ifCond .eq 15, 3, 22, 34, 0, 0, 0) := ftq_ok (by decide +kernel)
theorem d63_22 : ft 63 22 = some (.iload_n 1, 1, 23, 0, 0, 0, 0) := ftq_ok (by decide +kernel)
theorem d63_23 : ft 63 23 = some (.iconst 1, 1, 24, 0, 0, 0, 0) := ftq_ok (by decide +kernel)
theorem d63_24 : ft 63 24 = some (.if_icmp .eq 10, 3, 27, 34, 0, 0, 0) := ftq_ok (by decide +kernel)
theorem d63_27 : ft 63 27 = some (.iload_n 2, 1, 28, 0, 0, 0, 0) := ftq_ok (by decide +kernel)
theorem d63_28 : ft 63 28 = some (.ifCond .ne 6, 3, 31, 34, 0, 0, 0) := ftq_ok (by decide +kernel)
theorem d63_31 : ft 63 31 = some (.bipush (-102), 2, 33, 0, 0, 0, 0) := ftq_ok (by decide +kernel)
theorem d63_33 : ft 63 33 = some (.ireturn, 1, 34, 0, 0, 0, 0) := ftq_ok (by decide +kernel)
theorem d63_34 : ft 63 34 = some (.aload_n 0, 1, 35, 0, 0, 0, 0) := ftq_ok (by decide +kernel)
theorem d63_35 : ft 63 35 = some (.getfield 19, 3, 38, 6, 1, 3, 275) := ftq_ok (by decide +kernel)
theorem d63_38 : ft 63 38 = some (.getfield 100, 3, 41, 4, 3, 0, 103) := ftq_ok (by decide +kernel)
theorem d63_41 : ft 63 41 = some (.ifCond .eq 12, 3, 44, 53, 0, 0, 0) := ftq_ok (by decide +kernel)
theorem d63_44 : ft 63 44 = some (.aload_n 0, 1, 45, 0, 0, 0, 0) := ftq_ok (by decide +kernel)
theorem d63_45 : ft 63 45 = some (.getfield 58, 3, 48, 6, 9, 0, 283) := ftq_ok (by decide +kernel)
theorem d63_48 : ft 63 48 = some (.bipush 20, 2, 50, 0, 0, 0, 0) := ftq_ok (by decide +kernel)
theorem d63_50 : ft 63 50 = some (.if_icmp .lt 6, 3, 53, 56, 0, 0, 0) := ftq_ok (by decide +kernel)
theorem d63_53 : ft 63 53 = some (.bipush (-103), 2, 55, 0, 0, 0, 0) := ftq_ok (by decide +kernel)
theorem d63_55 : ft 63 55 = some (.ireturn, 1, 56, 0, 0, 0, 0) := ftq_ok (by decide +kernel)
theorem d63_56 : ft 63 56 = some (.aload_n 0, 1, 57, 0, 0, 0, 0) := ftq_ok (by decide +kernel)
theorem d63_57 : ft 63 57 = some (.dup, 1, 58, 0, 0, 0, 0) := ftq_ok (by decide +kernel)
theorem d63_58 : ft 63 58 = some (.getfield 58, 3, 61, 6, 9, 0, 283) := ftq_ok (by decide +kernel)
theorem d63_61 : ft 63 61 = some (.iconst 1, 1, 62, 0, 0, 0, 0) := ftq_ok (by decide +kernel)
theorem d63_62 : ft 63 62 = some (.iadd, 1, 63, 0, 0, 0, 0) := ftq_ok (by decide +kernel)
theorem d63_63 : ft 63 63 = some (.putfield 58, 3, 66, 6, 9, 0, 283) := ftq_ok (by decide +kernel)
theorem d63_66 : ft 63 66 = some (.aload_n 0, 1, 67, 0, 0, 0, 0) := ftq_ok (by decide +kernel)
theorem d63_67 : ft 63 67 = some (.getfield 32, 3, 70, 6, 4, 3, 278) := ftq_ok (by decide +kernel)
theorem d63_70 : ft 63 70 = some (.aload_n 0, 1, 71, 0, 0, 0, 0) := ftq_ok (by decide +kernel)
theorem d63_71 : ft 63 71 = some (.getfield 19, 3, 74, 6, 1, 3, 275) := ftq_ok (by decide +kernel)
theorem d63_74 : ft 63 74 = some (.invokevirtual 160, 3, 77, 1, 1, 0, 454) := ftq_ok (by decide +kernel)
theorem d63_77 : ft 63 77 = some (.iload_n 2, 1, 78, 0, 0, 0, 0) := ftq_ok (by decide +kernel)
theorem d63_78 : ft 63 78 = some (.ifCond .eq 16, 3, 81, 94, 0, 0, 0) := ftq_ok (by decide +kernel)
theorem d63_81 : ft 63 81 = some (.aload_n 0, 1, 82, 0, 0, 0, 0) := ftq_ok (by decide +kernel)
theorem d63_82 : ft 63 82 = some (.getfield 32, 3, 85, 6, 4, 3, 278) := ftq_ok (by decide +kernel)
theorem d63_85 : ft 63 85 = some (.getfield 164, 3, 88, 0, 2, 3, 199) := ftq_ok (by decide +kernel)
theorem d63_88 : ft 63 88 = some (.iload_n 1, 1, 89, 0, 0, 0, 0) := ftq_ok (by decide +kernel)
theorem d63_89 : ft 63 89 = some (.bipush 10, 2, 91, 0, 0, 0, 0) := ftq_ok (by decide +kernel)
theorem d63_91 : ft 63 91 = some (.isub, 1, 92, 0, 0, 0, 0) := ftq_ok (by decide +kernel)
theorem d63_92 : ft 63 92 = some (.iaload, 1, 93, 0, 0, 0, 0) := ftq_ok (by decide +kernel)
theorem d63_93 : ft 63 93 = some (.ireturn, 1, 94, 0, 0, 0, 0) := ftq_ok (by decide +kernel)
theorem d63_94 : ft 63 94 = some (.iload_n 1, 1, 95, 0, 0, 0, 0) := ftq_ok (by decide +kernel)
theorem d63_95 : ft 63 95 = some (.ifCond .ne 13, 3, 98, 108, 0, 0, 0) := ftq_ok (by decide +kernel)
theorem d63_98 : ft 63 98 = some (.aload_n 0, 1, 99, 0, 0, 0, 0) := ftq_ok (by decide +kernel)
theorem d63_99 : ft 63 99 = some (.getfield 32, 3, 102, 6, 4, 3, 278) := ftq_ok (by decide +kernel)
theorem d63_102 : ft 63 102 = some (.getfield 167, 3, 105, 0, 3, 0, 201) := ftq_ok (by decide +kernel)
theorem d63_105 : ft 63 105 = some (.goto 10, 3, 108, 115, 0, 0, 0) := ftq_ok (by decide +kernel)
theorem d63_108 : ft 63 108 = some (.aload_n 0, 1, 109, 0, 0, 0, 0) := ftq_ok (by decide +kernel)
theorem d63_109 : ft 63 109 = some (.getfield 32, 3, 112, 6, 4, 3, 278) := ftq_ok (by decide +kernel)
theorem d63_112 : ft 63 112 = some (.getfield 170, 3, 115, 0, 4, 0, 203) := ftq_ok (by decide +kernel)
theorem d63_115 : ft 63 115 = some (.ireturn, 1, 116, 0, 0, 0, 0) := ftq_ok (by decide +kernel)
-- 64: Tb_far
theorem d64_0 : ft 64 0 = some (.iload_n 1, 1, 1, 0, 0, 0, 0) := ftq_ok (by decide +kernel)
theorem d64_1 : ft 64 1 = some (.iconst 1, 1, 2, 0, 0, 0, 0) := ftq_ok (by decide +kernel)
theorem d64_2 : ft 64 2 = some (.if_icmp .lt 9, 3, 5, 11, 0, 0, 0) := ftq_ok (by decide +kernel)
theorem d64_5 : ft 64 5 = some (.iload_n 1, 1, 6, 0, 0, 0, 0) := ftq_ok (by decide +kernel)
theorem d64_6 : ft 64 6 = some (.bipush 6, 2, 8, 0, 0, 0, 0) := ftq_ok (by decide +kernel)
theorem d64_8 : ft 64 8 = some (.if_icmp .le 6, 3, 11, 14, 0, 0, 0) := ftq_ok (by decide +kernel)
theorem d64_11 : ft 64 11 = some (.bipush (-102), 2, 13, 0, 0, 0, 0) := ftq_ok (by decide +kernel)
theorem d64_13 : ft 64 13 = some (.ireturn, 1, 14, 0, 0, 0, 0) := ftq_ok (by decide +kernel)
theorem d64_14 : ft 64 14 = some (.aload_n 0, 1, 15, 0, 0, 0, 0) := ftq_ok (by decide +kernel)
theorem d64_15 : ft 64 15 = some (.getfield 19, 3, 18, 6, 1, 3, 275) := ftq_ok (by decide +kernel)
theorem d64_18 : ft 64 18 = some (.getfield 100, 3, 21, 4, 3, 0, 103) := ftq_ok (by decide +kernel)
theorem d64_21 : ft 64 21 = some (.ifCond .ne 6, 3, 24, 27, 0, 0, 0) := ftq_ok (by decide +kernel)
theorem d64_24 : ft 64 24 = some (.bipush (-103), 2, 26, 0, 0, 0, 0) := ftq_ok (by decide +kernel)
theorem d64_26 : ft 64 26 = some (.ireturn, 1, 27, 0, 0, 0, 0) := ftq_ok (by decide +kernel)
theorem d64_27 : ft 64 27 = some (.aload_n 0, 1, 28, 0, 0, 0, 0) := ftq_ok (by decide +kernel)
theorem d64_28 : ft 64 28 = some (.getfield 26, 3, 31, 6, 3, 3, 277) := ftq_ok (by decide +kernel)
theorem d64_31 : ft 64 31 = some (.aload_n 0, 1, 32, 0, 0, 0, 0) := ftq_ok (by decide +kernel)
theorem d64_32 : ft 64 32 = some (.getfield 19, 3, 35, 6, 1, 3, 275) := ftq_ok (by decide +kernel)
theorem d64_35 : ft 64 35 = some (.invokevirtual 173, 3, 38, 25, 1, 0, 508) := ftq_ok (by decide +kernel)
theorem d64_38 : ft 64 38 = some (.iconst 1, 1, 39, 0, 0, 0, 0) := ftq_ok (by decide +kernel)
theorem d64_39 : ft 64 39 = some (.istore_n 2, 1, 40, 0, 0, 0, 0) := ftq_ok (by decide +kernel)
theorem d64_40 : ft 64 40 = some (.iload_n 2, 1, 41, 0, 0, 0, 0) := ftq_ok (by decide +kernel)
theorem d64_41 : ft 64 41 = some (.bipush 6, 2, 43, 0, 0, 0, 0) := ftq_ok (by decide +kernel)
theorem d64_43 : ft 64 43 = some (.if_icmp .gt 32, 3, 46, 75, 0, 0, 0) := ftq_ok (by decide +kernel)
theorem d64_46 : ft 64 46 = some (.aload_n 0, 1, 47, 0, 0, 0, 0) := ftq_ok (by decide +kernel)
theorem d64_47 : ft 64 47 = some (.getfield 26, 3, 50, 6, 3, 3, 277) := ftq_ok (by decide +kernel)
theorem d64_50 : ft 64 50 = some (.invokevirtual 136, 3, 53, 34, 0, 0, 407) := ftq_ok (by decide +kernel)
theorem d64_53 : ft 64 53 = some (.ifCond .eq 22, 3, 56, 75, 0, 0, 0) := ftq_ok (by decide +kernel)
theorem d64_56 : ft 64 56 = some (.iload_n 2, 1, 57, 0, 0, 0, 0) := ftq_ok (by decide +kernel)
theorem d64_57 : ft 64 57 = some (.iload_n 1, 1, 58, 0, 0, 0, 0) := ftq_ok (by decide +kernel)
theorem d64_58 : ft 64 58 = some (.irem, 1, 59, 0, 0, 0, 0) := ftq_ok (by decide +kernel)
theorem d64_59 : ft 64 59 = some (.ifCond .ne 10, 3, 62, 69, 0, 0, 0) := ftq_ok (by decide +kernel)
theorem d64_62 : ft 64 62 = some (.aload_n 0, 1, 63, 0, 0, 0, 0) := ftq_ok (by decide +kernel)
theorem d64_63 : ft 64 63 = some (.getfield 26, 3, 66, 6, 3, 3, 277) := ftq_ok (by decide +kernel)
theorem d64_66 : ft 64 66 = some (.invokevirtual 142, 3, 69, 36, 0, 0, 419) := ftq_ok (by decide +kernel)
theorem d64_69 : ft 64 69 = some (.iinc 2 1, 3, 72, 0, 0, 0, 0) := ftq_ok (by decide +kernel)
theorem d64_72 : ft 64 72 = some (.goto (-32), 3, 75, 40, 0, 0, 0) := ftq_ok (by decide +kernel)
theorem d64_75 : ft 64 75 = some (.aload_n 0, 1, 76, 0, 0, 0, 0) := ftq_ok (by decide +kernel)
theorem d64_76 : ft 64 76 = some (.getfield 26, 3, 79, 6, 3, 3, 277) := ftq_ok (by decide +kernel)
theorem d64_79 : ft 64 79 = some (.getfield 139, 3, 82, 4, 2, 0, 98) := ftq_ok (by decide +kernel)
theorem d64_82 : ft 64 82 = some (.aload_n 0, 1, 83, 0, 0, 0, 0) := ftq_ok (by decide +kernel)
theorem d64_83 : ft 64 83 = some (.getfield 19, 3, 86, 6, 1, 3, 275) := ftq_ok (by decide +kernel)
theorem d64_86 : ft 64 86 = some (.getfield 139, 3, 89, 4, 2, 0, 98) := ftq_ok (by decide +kernel)
theorem d64_89 : ft 64 89 = some (.isub, 1, 90, 0, 0, 0, 0) := ftq_ok (by decide +kernel)
theorem d64_90 : ft 64 90 = some (.ireturn, 1, 91, 0, 0, 0, 0) := ftq_ok (by decide +kernel)
-- 65: Tb_setOut
theorem d65_0 : ft 65 0 = some (.iload_n 1, 1, 1, 0, 0, 0, 0) := ftq_ok (by decide +kernel)
theorem d65_1 : ft 65 1 = some (.bipush 10, 2, 3, 0, 0, 0, 0) := ftq_ok (by decide +kernel)
theorem d65_3 : ft 65 3 = some (.if_icmp .lt 13, 3, 6, 16, 0, 0, 0) := ftq_ok (by decide +kernel)
theorem d65_6 : ft 65 6 = some (.iload_n 1, 1, 7, 0, 0, 0, 0) := ftq_ok (by decide +kernel)
theorem d65_7 : ft 65 7 = some (.bipush 15, 2, 9, 0, 0, 0, 0) := ftq_ok (by decide +kernel)
theorem d65_9 : ft 65 9 = some (.if_icmp .ge 7, 3, 12, 16, 0, 0, 0) := ftq_ok (by decide +kernel)
theorem d65_12 : ft 65 12 = some (.iconst 1, 1, 13, 0, 0, 0, 0) := ftq_ok (by decide +kernel)
theorem d65_13 : ft 65 13 = some (.goto 4, 3, 16, 17, 0, 0, 0) := ftq_ok (by decide +kernel)
theorem d65_16 : ft 65 16 = some (.iconst 0, 1, 17, 0, 0, 0, 0) := ftq_ok (by decide +kernel)
theorem d65_17 : ft 65 17 = some (.istore_n 2, 1, 18, 0, 0, 0, 0) := ftq_ok (by decide +kernel)
theorem d65_18 : ft 65 18 = some (.iload_n 1, 1, 19, 0, 0, 0, 0) := ftq_ok (by decide +kernel)
theorem d65_19 : ft 65 19 = some (.ifCond .eq 10, 3, 22, 29, 0, 0, 0) := ftq_ok (by decide +kernel)
theorem d65_22 : ft 65 22 = some (.iload_n 2, 1, 23, 0, 0, 0, 0) := ftq_ok (by decide +kernel)
theorem d65_23 : ft 65 23 = some (.ifCond .ne 6, 3, 26, 29, 0, 0, 0) := ftq_ok (by decide +kernel)
theorem d65_26 : ft 65 26 = some (.bipush (-102), 2, 28, 0, 0, 0, 0) := ftq_ok (by decide +kernel)
theorem d65_28 : ft 65 28 = some (.ireturn, 1, 29, 0, 0, 0, 0) := ftq_ok (by decide +kernel)
theorem d65_29 : ft 65 29 = some (.aload_n 0, 1, 30, 0, 0, 0, 0) := ftq_ok (by decide +kernel)
theorem d65_30 : ft 65 30 = some (.getfield 19, 3, 33, 6, 1, 3, 275) := ftq_ok (by decide +kernel)
theorem d65_33 : ft 65 33 = some (.getfield 100, 3, 36, 4, 3, 0, 103) := ftq_ok (by decide +kernel)
theorem d65_36 : ft 65 36 = some (.ifCond .ne 6, 3, 39, 42, 0, 0, 0) := ftq_ok (by decide +kernel)
theorem d65_39 : ft 65 39 = some (.bipush (-103), 2, 41, 0, 0, 0, 0) := ftq_ok (by decide +kernel)
theorem d65_41 : ft 65 41 = some (.ireturn, 1, 42, 0, 0, 0, 0) := ftq_ok (by decide +kernel)
theorem d65_42 : ft 65 42 = some (.aload_n 0, 1, 43, 0, 0, 0, 0) := ftq_ok (by decide +kernel)
theorem d65_43 : ft 65 43 = some (.getfield 46, 3, 46, 6, 6, 3, 280) := ftq_ok (by decide +kernel)
theorem d65_46 : ft 65 46 = some (.aload_n 0, 1, 47, 0, 0, 0, 0) := ftq_ok (by decide +kernel)
theorem d65_47 : ft 65 47 = some (.getfield 19, 3, 50, 6, 1, 3, 275) := ftq_ok (by decide +kernel)
theorem d65_50 : ft 65 50 = some (.invokevirtual 176, 3, 53, 18, 1, 0, 513) := ftq_ok (by decide +kernel)
theorem d65_53 : ft 65 53 = some (.iload_n 2, 1, 54, 0, 0, 0, 0) := ftq_ok (by decide +kernel)
theorem d65_54 : ft 65 54 = some (.ifCond .eq 18, 3, 57, 72, 0, 0, 0) := ftq_ok (by decide +kernel)
theorem d65_57 : ft 65 57 = some (.aload_n 0, 1, 58, 0, 0, 0, 0) := ftq_ok (by decide +kernel)
theorem d65_58 : ft 65 58 = some (.getfield 46, 3, 61, 6, 6, 3, 280) := ftq_ok (by decide +kernel)
theorem d65_61 : ft 65 61 = some (.getfield 177, 3, 64, 3, 3, 3, 259) := ftq_ok (by decide +kernel)
theorem d65_64 : ft 65 64 = some (.iload_n 1, 1, 65, 0, 0, 0, 0) := ftq_ok (by decide +kernel)
theorem d65_65 : ft 65 65 = some (.bipush 10, 2, 67, 0, 0, 0, 0) := ftq_ok (by decide +kernel)
theorem d65_67 : ft 65 67 = some (.isub, 1, 68, 0, 0, 0, 0) := ftq_ok (by decide +kernel)
theorem d65_68 : ft 65 68 = some (.iaload, 1, 69, 0, 0, 0, 0) := ftq_ok (by decide +kernel)
theorem d65_69 : ft 65 69 = some (.goto 10, 3, 72, 79, 0, 0, 0) := ftq_ok (by decide +kernel)
theorem d65_72 : ft 65 72 = some (.aload_n 0, 1, 73, 0, 0, 0, 0) := ftq_ok (by decide +kernel)
theorem d65_73 : ft 65 73 = some (.getfield 46, 3, 76, 6, 6, 3, 280) := ftq_ok (by decide +kernel)
theorem d65_76 : ft 65 76 = some (.getfield 178, 3, 79, 3, 4, 0, 261) := ftq_ok (by decide +kernel)
theorem d65_79 : ft 65 79 = some (.ireturn, 1, 80, 0, 0, 0, 0) := ftq_ok (by decide +kernel)
-- 66: Tb_tell
theorem d66_0 : ft 66 0 = some (.aload_n 0, 1, 1, 0, 0, 0, 0) := ftq_ok (by decide +kernel)
theorem d66_1 : ft 66 1 = some (.getfield 19, 3, 4, 6, 1, 3, 275) := ftq_ok (by decide +kernel)
theorem d66_4 : ft 66 4 = some (.iload_n 1, 1, 5, 0, 0, 0, 0) := ftq_ok (by decide +kernel)
theorem d66_5 : ft 66 5 = some (.invokevirtual 107, 3, 8, 27, 1, 0, 374) := ftq_ok (by decide +kernel)
theorem d66_8 : ft 66 8 = some (.ifCond .ne 6, 3, 11, 14, 0, 0, 0) := ftq_ok (by decide +kernel)
theorem d66_11 : ft 66 11 = some (.bipush (-101), 2, 13, 0, 0, 0, 0) := ftq_ok (by decide +kernel)
theorem d66_13 : ft 66 13 = some (.ireturn, 1, 14, 0, 0, 0, 0) := ftq_ok (by decide +kernel)
theorem d66_14 : ft 66 14 = some (.iload_n 2, 1, 15, 0, 0, 0, 0) := ftq_ok (by decide +kernel)
theorem d66_15 : ft 66 15 = some (.iconst (-1), 1, 16, 0, 0, 0, 0) := ftq_ok (by decide +kernel)
theorem d66_16 : ft 66 16 = some (.if_icmp .eq 16, 3, 19, 32, 0, 0, 0) := ftq_ok (by decide +kernel)
theorem d66_19 : ft 66 19 = some (.iload_n 2, 1, 20, 0, 0, 0, 0) := ftq_ok (by decide +kernel)
theorem d66_20 : ft 66 20 = some (.ifCond .lt 9, 3, 23, 29, 0, 0, 0) := ftq_ok (by decide +kernel)
theorem d66_23 : ft 66 23 = some (.iload_n 2, 1, 24, 0, 0, 0, 0) := ftq_ok (by decide +kernel)
theorem d66_24 : ft 66 24 = some (.bipush 6, 2, 26, 0, 0, 0, 0) := ftq_ok (by decide +kernel)
theorem d66_26 : ft 66 26 = some (.if_icmp .le 6, 3, 29, 32, 0, 0, 0) := ftq_ok (by decide +kernel)
theorem d66_29 : ft 66 29 = some (.bipush (-102), 2, 31, 0, 0, 0, 0) := ftq_ok (by decide +kernel)
theorem d66_31 : ft 66 31 = some (.ireturn, 1, 32, 0, 0, 0, 0) := ftq_ok (by decide +kernel)
theorem d66_32 : ft 66 32 = some (.aload_n 0, 1, 33, 0, 0, 0, 0) := ftq_ok (by decide +kernel)
theorem d66_33 : ft 66 33 = some (.getfield 19, 3, 36, 6, 1, 3, 275) := ftq_ok (by decide +kernel)
theorem d66_36 : ft 66 36 = some (.getfield 129, 3, 39, 4, 10, 3, 122) := ftq_ok (by decide +kernel)
theorem d66_39 : ft 66 39 = some (.iload_n 1, 1, 40, 0, 0, 0, 0) := ftq_ok (by decide +kernel)
theorem d66_40 : ft 66 40 = some (.iaload, 1, 41, 0, 0, 0, 0) := ftq_ok (by decide +kernel)
theorem d66_41 : ft 66 41 = some (.istore_n 3, 1, 42, 0, 0, 0, 0) := ftq_ok (by decide +kernel)
theorem d66_42 : ft 66 42 = some (.aload_n 0, 1, 43, 0, 0, 0, 0) := ftq_ok (by decide +kernel)
theorem d66_43 : ft 66 43 = some (.getfield 19, 3, 46, 6, 1, 3, 275) := ftq_ok (by decide +kernel)
theorem d66_46 : ft 66 46 = some (.getfield 129, 3, 49, 4, 10, 3, 122) := ftq_ok (by decide +kernel)
theorem d66_49 : ft 66 49 = some (.iload_n 1, 1, 50, 0, 0, 0, 0) := ftq_ok (by decide +kernel)
theorem d66_50 : ft 66 50 = some (.iload_n 2, 1, 51, 0, 0, 0, 0) := ftq_ok (by decide +kernel)
theorem d66_51 : ft 66 51 = some (.iastore, 1, 52, 0, 0, 0, 0) := ftq_ok (by decide +kernel)
theorem d66_52 : ft 66 52 = some (.iload_n 3, 1, 53, 0, 0, 0, 0) := ftq_ok (by decide +kernel)
theorem d66_53 : ft 66 53 = some (.ireturn, 1, 54, 0, 0, 0, 0) := ftq_ok (by decide +kernel)
-- 67: Tb_fits
theorem d67_0 : ft 67 0 = some (.aload_n 0, 1, 1, 0, 0, 0, 0) := ftq_ok (by decide +kernel)
theorem d67_1 : ft 67 1 = some (.invokevirtual 179, 3, 4, 75, 0, 0, 545) := ftq_ok (by decide +kernel)
theorem d67_4 : ft 67 4 = some (.ifCond .ne 6, 3, 7, 10, 0, 0, 0) := ftq_ok (by decide +kernel)
theorem d67_7 : ft 67 7 = some (.bipush (-103), 2, 9, 0, 0, 0, 0) := ftq_ok (by decide +kernel)
theorem d67_9 : ft 67 9 = some (.ireturn, 1, 10, 0, 0, 0, 0) := ftq_ok (by decide +kernel)
theorem d67_10 : ft 67 10 = some (.aload_n 0, 1, 11, 0, 0, 0, 0) := ftq_ok (by decide +kernel)
theorem d67_11 : ft 67 11 = some (.dup, 1, 12, 0, 0, 0, 0) := ftq_ok (by decide +kernel)
theorem d67_12 : ft 67 12 = some (.getfield 61, 3, 15, 6, 10, 0, 284) := ftq_ok (by decide +kernel)
theorem d67_15 : ft 67 15 = some (.iconst 1, 1, 16, 0, 0, 0, 0) := ftq_ok (by decide +kernel)
theorem d67_16 : ft 67 16 = some (.iadd, 1, 17, 0, 0, 0, 0) := ftq_ok (by decide +kernel)
theorem d67_17 : ft 67 17 = some (.putfield 61, 3, 20, 6, 10, 0, 284) := ftq_ok (by decide +kernel)
theorem d67_20 : ft 67 20 = some (.aload_n 0, 1, 21, 0, 0, 0, 0) := ftq_ok (by decide +kernel)
theorem d67_21 : ft 67 21 = some (.getfield 39, 3, 24, 6, 5, 3, 279) := ftq_ok (by decide +kernel)
theorem d67_24 : ft 67 24 = some (.aload_n 0, 1, 25, 0, 0, 0, 0) := ftq_ok (by decide +kernel)
theorem d67_25 : ft 67 25 = some (.getfield 19, 3, 28, 6, 1, 3, 275) := ftq_ok (by decide +kernel)
theorem d67_28 : ft 67 28 = some (.iconst (-1), 1, 29, 0, 0, 0, 0) := ftq_ok (by decide +kernel)
theorem d67_29 : ft 67 29 = some (.invokevirtual 182, 3, 32, 7, 2, 0, 549) := ftq_ok (by decide +kernel)
theorem d67_32 : ft 67 32 = some (.aload_n 0, 1, 33, 0, 0, 0, 0) := ftq_ok (by decide +kernel)
theorem d67_33 : ft 67 33 = some (.getfield 39, 3, 36, 6, 5, 3, 279) := ftq_ok (by decide +kernel)
theorem d67_36 : ft 67 36 = some (.getfield 185, 3, 39, 1, 5, 0, 229) := ftq_ok (by decide +kernel)
theorem d67_39 : ft 67 39 = some (.ireturn, 1, 40, 0, 0, 0, 0) := ftq_ok (by decide +kernel)
-- 68: Tb_sure
theorem d68_0 : ft 68 0 = some (.aload_n 0, 1, 1, 0, 0, 0, 0) := ftq_ok (by decide +kernel)
theorem d68_1 : ft 68 1 = some (.getfield 19, 3, 4, 6, 1, 3, 275) := ftq_ok (by decide +kernel)
theorem d68_4 : ft 68 4 = some (.iload_n 1, 1, 5, 0, 0, 0, 0) := ftq_ok (by decide +kernel)
theorem d68_5 : ft 68 5 = some (.invokevirtual 86, 3, 8, 26, 1, 0, 355) := ftq_ok (by decide +kernel)
theorem d68_8 : ft 68 8 = some (.ifCond .eq 14, 3, 11, 22, 0, 0, 0) := ftq_ok (by decide +kernel)
theorem d68_11 : ft 68 11 = some (.iload_n 1, 1, 12, 0, 0, 0, 0) := ftq_ok (by decide +kernel)
theorem d68_12 : ft 68 12 = some (.aload_n 0, 1, 13, 0, 0, 0, 0) := ftq_ok (by decide +kernel)
theorem d68_13 : ft 68 13 = some (.getfield 19, 3, 16, 6, 1, 3, 275) := ftq_ok (by decide +kernel)
theorem d68_16 : ft 68 16 = some (.getfield 139, 3, 19, 4, 2, 0, 98) := ftq_ok (by decide +kernel)
theorem d68_19 : ft 68 19 = some (.if_icmp .ge 6, 3, 22, 25, 0, 0, 0) := ftq_ok (by decide +kernel)
theorem d68_22 : ft 68 22 = some (.bipush (-101), 2, 24, 0, 0, 0, 0) := ftq_ok (by decide +kernel)
theorem d68_24 : ft 68 24 = some (.ireturn, 1, 25, 0, 0, 0, 0) := ftq_ok (by decide +kernel)
theorem d68_25 : ft 68 25 = some (.aload_n 0, 1, 26, 0, 0, 0, 0) := ftq_ok (by decide +kernel)
theorem d68_26 : ft 68 26 = some (.invokevirtual 179, 3, 29, 75, 0, 0, 545) := ftq_ok (by decide +kernel)
theorem d68_29 : ft 68 29 = some (.ifCond .ne 6, 3, 32, 35, 0, 0, 0) := ftq_ok (by decide +kernel)
theorem d68_32 : ft 68 32 = some (.bipush (-103), 2, 34, 0, 0, 0, 0) := ftq_ok (by decide +kernel)
theorem d68_34 : ft 68 34 = some (.ireturn, 1, 35, 0, 0, 0, 0) := ftq_ok (by decide +kernel)
theorem d68_35 : ft 68 35 = some (.aload_n 0, 1, 36, 0, 0, 0, 0) := ftq_ok (by decide +kernel)
theorem d68_36 : ft 68 36 = some (.dup, 1, 37, 0, 0, 0, 0) := ftq_ok (by decide +kernel)
theorem d68_37 : ft 68 37 = some (.getfield 61, 3, 40, 6, 10, 0, 284) := ftq_ok (by decide +kernel)
theorem d68_40 : ft 68 40 = some (.iconst 1, 1, 41, 0, 0, 0, 0) := ftq_ok (by decide +kernel)
theorem d68_41 : ft 68 41 = some (.iadd, 1, 42, 0, 0, 0, 0) := ftq_ok (by decide +kernel)
theorem d68_42 : ft 68 42 = some (.putfield 61, 3, 45, 6, 10, 0, 284) := ftq_ok (by decide +kernel)
theorem d68_45 : ft 68 45 = some (.aload_n 0, 1, 46, 0, 0, 0, 0) := ftq_ok (by decide +kernel)
theorem d68_46 : ft 68 46 = some (.getfield 39, 3, 49, 6, 5, 3, 279) := ftq_ok (by decide +kernel)
theorem d68_49 : ft 68 49 = some (.aload_n 0, 1, 50, 0, 0, 0, 0) := ftq_ok (by decide +kernel)
theorem d68_50 : ft 68 50 = some (.getfield 19, 3, 53, 6, 1, 3, 275) := ftq_ok (by decide +kernel)
theorem d68_53 : ft 68 53 = some (.iload_n 1, 1, 54, 0, 0, 0, 0) := ftq_ok (by decide +kernel)
theorem d68_54 : ft 68 54 = some (.invokevirtual 182, 3, 57, 7, 2, 0, 549) := ftq_ok (by decide +kernel)
theorem d68_57 : ft 68 57 = some (.aload_n 0, 1, 58, 0, 0, 0, 0) := ftq_ok (by decide +kernel)
theorem d68_58 : ft 68 58 = some (.getfield 39, 3, 61, 6, 5, 3, 279) := ftq_ok (by decide +kernel)
theorem d68_61 : ft 68 61 = some (.getfield 188, 3, 64, 1, 6, 0, 231) := ftq_ok (by decide +kernel)
theorem d68_64 : ft 68 64 = some (.ireturn, 1, 65, 0, 0, 0, 0) := ftq_ok (by decide +kernel)
-- 69: Tb_days
theorem d69_0 : ft 69 0 = some (.iload_n 1, 1, 1, 0, 0, 0, 0) := ftq_ok (by decide +kernel)
theorem d69_1 : ft 69 1 = some (.iconst 1, 1, 2, 0, 0, 0, 0) := ftq_ok (by decide +kernel)
theorem d69_2 : ft 69 2 = some (.if_icmp .lt 22, 3, 5, 24, 0, 0, 0) := ftq_ok (by decide +kernel)
theorem d69_5 : ft 69 5 = some (.iload_n 1, 1, 6, 0, 0, 0, 0) := ftq_ok (by decide +kernel)
theorem d69_6 : ft 69 6 = some (.bipush 60, 2, 8, 0, 0, 0, 0) := ftq_ok (by decide +kernel)
theorem d69_8 : ft 69 8 = some (.if_icmp .gt 16, 3, 11, 24, 0, 0, 0) := ftq_ok (by decide +kernel)
theorem d69_11 : ft 69 11 = some (.iload_n 2, 1, 12, 0, 0, 0, 0) := ftq_ok (by decide +kernel)
theorem d69_12 : ft 69 12 = some (.ifCond .lt 12, 3, 15, 24, 0, 0, 0) := ftq_ok (by decide +kernel)
theorem d69_15 : ft 69 15 = some (.iload_n 3, 1, 16, 0, 0, 0, 0) := ftq_ok (by decide +kernel)
theorem d69_16 : ft 69 16 = some (.ifCond .lt 8, 3, 19, 24, 0, 0, 0) := ftq_ok (by decide +kernel)
theorem d69_19 : ft 69 19 = some (.iload_n 3, 1, 20, 0, 0, 0, 0) := ftq_ok (by decide +kernel)
theorem d69_20 : ft 69 20 = some (.iconst 2, 1, 21, 0, 0, 0, 0) := ftq_ok (by decide +kernel)
theorem d69_21 : ft 69 21 = some (.if_icmp .le 6, 3, 24, 27, 0, 0, 0) := ftq_ok (by decide +kernel)
theorem d69_24 : ft 69 24 = some (.bipush (-102), 2, 26, 0, 0, 0, 0) := ftq_ok (by decide +kernel)
theorem d69_26 : ft 69 26 = some (.ireturn, 1, 27, 0, 0, 0, 0) := ftq_ok (by decide +kernel)
theorem d69_27 : ft 69 27 = some (.aload_n 0, 1, 28, 0, 0, 0, 0) := ftq_ok (by decide +kernel)
theorem d69_28 : ft 69 28 = some (.getfield 19, 3, 31, 6, 1, 3, 275) := ftq_ok (by decide +kernel)
theorem d69_31 : ft 69 31 = some (.getfield 100, 3, 34, 4, 3, 0, 103) := ftq_ok (by decide +kernel)
theorem d69_34 : ft 69 34 = some (.ifCond .ne 6, 3, 37, 40, 0, 0, 0) := ftq_ok (by decide +kernel)
theorem d69_37 : ft 69 37 = some (.bipush (-103), 2, 39, 0, 0, 0, 0) := ftq_ok (by decide +kernel)
theorem d69_39 : ft 69 39 = some (.ireturn, 1, 40, 0, 0, 0, 0) := ftq_ok (by decide +kernel)
theorem d69_40 : ft 69 40 = some (.aload_n 0, 1, 41, 0, 0, 0, 0) := ftq_ok (by decide +kernel)
theorem d69_41 : ft 69 41 = some (.getfield 26, 3, 44, 6, 3, 3, 277) := ftq_ok (by decide +kernel)
theorem d69_44 : ft 69 44 = some (.aload_n 0, 1, 45, 0, 0, 0, 0) := ftq_ok (by decide +kernel)
theorem d69_45 : ft 69 45 = some (.getfield 19, 3, 48, 6, 1, 3, 275) := ftq_ok (by decide +kernel)
theorem d69_48 : ft 69 48 = some (.invokevirtual 173, 3, 51, 25, 1, 0, 508) := ftq_ok (by decide +kernel)
theorem d69_51 : ft 69 51 = some (.aload_n 0, 1, 52, 0, 0, 0, 0) := ftq_ok (by decide +kernel)
theorem d69_52 : ft 69 52 = some (.iload_n 1, 1, 53, 0, 0, 0, 0) := ftq_ok (by decide +kernel)
theorem d69_53 : ft 69 53 = some (.iload_n 2, 1, 54, 0, 0, 0, 0) := ftq_ok (by decide +kernel)
theorem d69_54 : ft 69 54 = some (.invokevirtual 191, 3, 57, 76, 2, 0, 575) := ftq_ok (by decide +kernel)
theorem d69_57 : ft 69 57 = some (.istore 4, 2, 59, 0, 0, 0, 0) := ftq_ok (by decide +kernel)
theorem d69_59 : ft 69 59 = some (.iload_n 3, 1, 60, 0, 0, 0, 0) := ftq_ok (by decide +kernel)
theorem d69_60 : ft 69 60 = some (.ifCond .ne 11, 3, 63, 71, 0, 0, 0) := ftq_ok (by decide +kernel)
theorem d69_63 : ft 69 63 = some (.aload_n 0, 1, 64, 0, 0, 0, 0) := ftq_ok (by decide +kernel)
theorem d69_64 : ft 69 64 = some (.getfield 26, 3, 67, 6, 3, 3, 277) := ftq_ok (by decide +kernel)
theorem d69_67 : ft 69 67 = some (.getfield 139, 3, 70, 4, 2, 0, 98) := ftq_ok (by decide +kernel)
theorem d69_70 : ft 69 70 = some (.ireturn, 1, 71, 0, 0, 0, 0) := ftq_ok (by decide +kernel)
theorem d69_71 : ft 69 71 = some (.iload_n 3, 1, 72, 0, 0, 0, 0) := ftq_ok (by decide +kernel)
theorem d69_72 : ft 69 72 = some (.iconst 1, 1, 73, 0, 0, 0, 0) := ftq_ok (by decide +kernel)
theorem d69_73 : ft 69 73 = some (.if_icmp .ne 13, 3, 76, 86, 0, 0, 0) := ftq_ok (by decide +kernel)
theorem d69_76 : ft 69 76 = some (.aload_n 0, 1, 77, 0, 0, 0, 0) := ftq_ok (by decide +kernel)
theorem d69_77 : ft 69 77 = some (.getfield 26, 3, 80, 6, 3, 3, 277) := ftq_ok (by decide +kernel)
theorem d69_80 : ft 69 80 = some (.invokevirtual 194, 3, 83, 40, 0, 0, 586) := ftq_ok (by decide +kernel)
theorem d69_83 : ft 69 83 = some (.goto 5, 3, 86, 88, 0, 0, 0) := ftq_ok (by decide +kernel)
theorem d69_86 : ft 69 86 = some (.iload 4, 2, 88, 0, 0, 0, 0) := ftq_ok (by decide +kernel)
theorem d69_88 : ft 69 88 = some (.ireturn, 1, 89, 0, 0, 0, 0) := ftq_ok (by decide +kernel)
-- 70: Tb_image
theorem d70_0 : ft 70 0 = some (.aload_n 0, 1, 1, 0, 0, 0, 0) := ftq_ok (by decide +kernel)
theorem d70_1 : ft 70 1 = some (.getfield 19, 3, 4, 6, 1, 3, 275) := ftq_ok (by decide +kernel)
theorem d70_4 : ft 70 4 = some (.getfield 83, 3, 7, 4, 0, 0, 90) := ftq_ok (by decide +kernel)
theorem d70_7 : ft 70 7 = some (.ifCond .ne 6, 3, 10, 13, 0, 0, 0) := ftq_ok (by decide +kernel)
theorem d70_10 : ft 70 10 = some (.bipush (-103), 2, 12, 0, 0, 0, 0) := ftq_ok (by decide +kernel)
theorem d70_12 : ft 70 12 = some (.ireturn, 1, 13, 0, 0, 0, 0) := ftq_ok (by decide +kernel)
theorem d70_13 : ft 70 13 = some (.aload_n 0, 1, 14, 0, 0, 0, 0) := ftq_ok (by decide +kernel)
theorem d70_14 : ft 70 14 = some (.getfield 23, 3, 17, 6, 2, 3, 276) := ftq_ok (by decide +kernel)
theorem d70_17 : ft 70 17 = some (.aload_n 0, 1, 18, 0, 0, 0, 0) := ftq_ok (by decide +kernel)
theorem d70_18 : ft 70 18 = some (.getfield 19, 3, 21, 6, 1, 3, 275) := ftq_ok (by decide +kernel)
theorem d70_21 : ft 70 21 = some (.invokevirtual 173, 3, 24, 25, 1, 0, 508) := ftq_ok (by decide +kernel)
theorem d70_24 : ft 70 24 = some (.aload_n 0, 1, 25, 0, 0, 0, 0) := ftq_ok (by decide +kernel)
theorem d70_25 : ft 70 25 = some (.iconst 1, 1, 26, 0, 0, 0, 0) := ftq_ok (by decide +kernel)
theorem d70_26 : ft 70 26 = some (.putfield 50, 3, 29, 6, 7, 1, 281) := ftq_ok (by decide +kernel)
theorem d70_29 : ft 70 29 = some (.aload_n 0, 1, 30, 0, 0, 0, 0) := ftq_ok (by decide +kernel)
theorem d70_30 : ft 70 30 = some (.getfield 19, 3, 33, 6, 1, 3, 275) := ftq_ok (by decide +kernel)
theorem d70_33 : ft 70 33 = some (.getfield 139, 3, 36, 4, 2, 0, 98) := ftq_ok (by decide +kernel)
theorem d70_36 : ft 70 36 = some (.ireturn, 1, 37, 0, 0, 0, 0) := ftq_ok (by decide +kernel)
-- 71: Tb_restore
theorem d71_0 : ft 71 0 = some (.aload_n 0, 1, 1, 0, 0, 0, 0) := ftq_ok (by decide +kernel)
theorem d71_1 : ft 71 1 = some (.getfield 50, 3, 4, 6, 7, 1, 281) := ftq_ok (by decide +kernel)
theorem d71_4 : ft 71 4 = some (.ifCond .ne 6, 3, 7, 10, 0, 0, 0) := ftq_ok (by decide +kernel)
theorem d71_7 : ft 71 7 = some (.bipush (-103), 2, 9, 0, 0, 0, 0) := ftq_ok (by decide +kernel)
theorem d71_9 : ft 71 9 = some (.ireturn, 1, 10, 0, 0, 0, 0) := ftq_ok (by decide +kernel)
theorem d71_10 : ft 71 10 = some (.aload_n 0, 1, 11, 0, 0, 0, 0) := ftq_ok (by decide +kernel)
theorem d71_11 : ft 71 11 = some (.getfield 19, 3, 14, 6, 1, 3, 275) := ftq_ok (by decide +kernel)
theorem d71_14 : ft 71 14 = some (.aload_n 0, 1, 15, 0, 0, 0, 0) := ftq_ok (by decide +kernel)
theorem d71_15 : ft 71 15 = some (.getfield 23, 3, 18, 6, 2, 3, 276) := ftq_ok (by decide +kernel)
theorem d71_18 : ft 71 18 = some (.invokevirtual 173, 3, 21, 25, 1, 0, 508) := ftq_ok (by decide +kernel)
theorem d71_21 : ft 71 21 = some (.aload_n 0, 1, 22, 0, 0, 0, 0) := ftq_ok (by decide +kernel)
theorem d71_22 : ft 71 22 = some (.getfield 19, 3, 25, 6, 1, 3, 275) := ftq_ok (by decide +kernel)
theorem d71_25 : ft 71 25 = some (.getfield 139, 3, 28, 4, 2, 0, 98) := ftq_ok (by decide +kernel)
theorem d71_28 : ft 71 28 = some (.ireturn, 1, 29, 0, 0, 0, 0) := ftq_ok (by decide +kernel)
-- 72: Tb_count
theorem d72_0 : ft 72 0 = some (.iload_n 1, 1, 1, 0, 0, 0, 0) := ftq_ok (by decide +kernel)
theorem d72_1 : ft 72 1 = some (.tableswitch 138 0 10 #[59, 67, 75, 83, 91, 99, 107, 115, 123, 128, 133], 59, 60, 0, 0, 0, 0) := ftq_ok (by decide +kernel)
theorem d72_60 : ft 72 60 = some (.aload_n 0, 1, 61, 0, 0, 0, 0) := ftq_ok (by decide +kernel)
theorem d72_61 : ft 72 61 = some (.getfield 19, 3, 64, 6, 1, 3, 275) := ftq_ok (by decide +kernel)
theorem d72_64 : ft 72 64 = some (.getfield 83, 3, 67, 4, 0, 0, 90) := ftq_ok (by decide +kernel)
theorem d72_67 : ft 72 67 = some (.ireturn, 1, 68, 0, 0, 0, 0) := ftq_ok (by decide +kernel)
theorem d72_68 : ft 72 68 = some (.aload_n 0, 1, 69, 0, 0, 0, 0) := ftq_ok (by decide +kernel)
theorem d72_69 : ft 72 69 = some (.getfield 19, 3, 72, 6, 1, 3, 275) := ftq_ok (by decide +kernel)
theorem d72_72 : ft 72 72 = some (.getfield 157, 3, 75, 4, 1, 0, 92) := ftq_ok (by decide +kernel)
theorem d72_75 : ft 72 75 = some (.ireturn, 1, 76, 0, 0, 0, 0) := ftq_ok (by decide +kernel)
theorem d72_76 : ft 72 76 = some (.aload_n 0, 1, 77, 0, 0, 0, 0) := ftq_ok (by decide +kernel)
theorem d72_77 : ft 72 77 = some (.getfield 19, 3, 80, 6, 1, 3, 275) := ftq_ok (by decide +kernel)
theorem d72_80 : ft 72 80 = some (.getfield 100, 3, 83, 4, 3, 0, 103) := ftq_ok (by decide +kernel)
theorem d72_83 : ft 72 83 = some (.ireturn, 1, 84, 0, 0, 0, 0) := ftq_ok (by decide +kernel)
theorem d72_84 : ft 72 84 = some (.aload_n 0, 1, 85, 0, 0, 0, 0) := ftq_ok (by decide +kernel)
theorem d72_85 : ft 72 85 = some (.getfield 19, 3, 88, 6, 1, 3, 275) := ftq_ok (by decide +kernel)
theorem d72_88 : ft 72 88 = some (.getfield 139, 3, 91, 4, 2, 0, 98) := ftq_ok (by decide +kernel)
theorem d72_91 : ft 72 91 = some (.ireturn, 1, 92, 0, 0, 0, 0) := ftq_ok (by decide +kernel)
theorem d72_92 : ft 72 92 = some (.aload_n 0, 1, 93, 0, 0, 0, 0) := ftq_ok (by decide +kernel)
theorem d72_93 : ft 72 93 = some (.getfield 19, 3, 96, 6, 1, 3, 275) := ftq_ok (by decide +kernel)
theorem d72_96 : ft 72 96 = some (.getfield 197, 3, 99, 4, 4, 0, 105) := ftq_ok (by decide +kernel)
theorem d72_99 : ft 72 99 = some (.ireturn, 1, 100, 0, 0, 0, 0) := ftq_ok (by decide +kernel)
theorem d72_100 : ft 72 100 = some (.aload_n 0, 1, 101, 0, 0, 0, 0) := ftq_ok (by decide +kernel)
theorem d72_101 : ft 72 101 = some (.getfield 19, 3, 104, 6, 1, 3, 275) := ftq_ok (by decide +kernel)
theorem d72_104 : ft 72 104 = some (.invokevirtual 194, 3, 107, 40, 0, 0, 586) := ftq_ok (by decide +kernel)
theorem d72_107 : ft 72 107 = some (.ireturn, 1, 108, 0, 0, 0, 0) := ftq_ok (by decide +kernel)
theorem d72_108 : ft 72 108 = some (.aload_n 0, 1, 109, 0, 0, 0, 0) := ftq_ok (by decide +kernel)
theorem d72_109 : ft 72 109 = some (.getfield 19, 3, 112, 6, 1, 3, 275) := ftq_ok (by decide +kernel)
theorem d72_112 : ft 72 112 = some (.invokevirtual 200, 3, 115, 42, 0, 0, 602) := ftq_ok (by decide +kernel)
theorem d72_115 : ft 72 115 = some (.ireturn, 1, 116, 0, 0, 0, 0) := ftq_ok (by decide +kernel)
theorem d72_116 : ft 72 116 = some (.aload_n 0, 1, 117, 0, 0, 0, 0) := ftq_ok (by decide +kernel)
theorem d72_117 : ft 72 117 = some (.getfield 10, 3, 120, 6, 0, 3, 274) := ftq_ok (by decide +kernel)
theorem d72_120 : ft 72 120 = some (.getfield 64, 3, 123, 2, 1, 0, 74) := ftq_ok (by decide +kernel)
theorem d72_123 : ft 72 123 = some (.ireturn, 1, 124, 0, 0, 0, 0) := ftq_ok (by decide +kernel)
theorem d72_124 : ft 72 124 = some (.aload_n 0, 1, 125, 0, 0, 0, 0) := ftq_ok (by decide +kernel)
theorem d72_125 : ft 72 125 = some (.getfield 54, 3, 128, 6, 8, 0, 282) := ftq_ok (by decide +kernel)
theorem d72_128 : ft 72 128 = some (.ireturn, 1, 129, 0, 0, 0, 0) := ftq_ok (by decide +kernel)
theorem d72_129 : ft 72 129 = some (.aload_n 0, 1, 130, 0, 0, 0, 0) := ftq_ok (by decide +kernel)
theorem d72_130 : ft 72 130 = some (.getfield 58, 3, 133, 6, 9, 0, 283) := ftq_ok (by decide +kernel)
theorem d72_133 : ft 72 133 = some (.ireturn, 1, 134, 0, 0, 0, 0) := ftq_ok (by decide +kernel)
theorem d72_134 : ft 72 134 = some (.aload_n 0, 1, 135, 0, 0, 0, 0) := ftq_ok (by decide +kernel)
theorem d72_135 : ft 72 135 = some (.getfield 61, 3, 138, 6, 10, 0, 284) := ftq_ok (by decide +kernel)
theorem d72_138 : ft 72 138 = some (.ireturn, 1, 139, 0, 0, 0, 0) := ftq_ok (by decide +kernel)
theorem d72_139 : ft 72 139 = some (.bipush (-102), 2, 141, 0, 0, 0, 0) := ftq_ok (by decide +kernel)
theorem d72_141 : ft 72 141 = some (.ireturn, 1, 142, 0, 0, 0, 0) := ftq_ok (by decide +kernel)
-- 73: Tb_digest
theorem d73_0 : ft 73 0 = some (.ldc2_w 203, 3, 3, 1, 610, 0, 787) := ftq_ok (by decide +kernel)
theorem d73_3 : ft 73 3 = some (.lstore_n 1, 1, 4, 0, 0, 0, 0) := ftq_ok (by decide +kernel)
theorem d73_4 : ft 73 4 = some (.iconst 0, 1, 5, 0, 0, 0, 0) := ftq_ok (by decide +kernel)
theorem d73_5 : ft 73 5 = some (.istore_n 3, 1, 6, 0, 0, 0, 0) := ftq_ok (by decide +kernel)
theorem d73_6 : ft 73 6 = some (.iload_n 3, 1, 7, 0, 0, 0, 0) := ftq_ok (by decide +kernel)
theorem d73_7 : ft 73 7 = some (.aload_n 0, 1, 8, 0, 0, 0, 0) := ftq_ok (by decide +kernel)
theorem d73_8 : ft 73 8 = some (.getfield 19, 3, 11, 6, 1, 3, 275) := ftq_ok (by decide +kernel)
theorem d73_11 : ft 73 11 = some (.getfield 83, 3, 14, 4, 0, 0, 90) := ftq_ok (by decide +kernel)
theorem d73_14 : ft 73 14 = some (.if_icmp .ge 39, 3, 17, 53, 0, 0, 0) := ftq_ok (by decide +kernel)
theorem d73_17 : ft 73 17 = some (.iconst 0, 1, 18, 0, 0, 0, 0) := ftq_ok (by decide +kernel)
theorem d73_18 : ft 73 18 = some (.istore 4, 2, 20, 0, 0, 0, 0) := ftq_ok (by decide +kernel)
theorem d73_20 : ft 73 20 = some (.iload 4, 2, 22, 0, 0, 0, 0) := ftq_ok (by decide +kernel)
theorem d73_22 : ft 73 22 = some (.iconst 1, 1, 23, 0, 0, 0, 0) := ftq_ok (by decide +kernel)
theorem d73_23 : ft 73 23 = some (.if_icmp .gt 24, 3, 26, 47, 0, 0, 0) := ftq_ok (by decide +kernel)
theorem d73_26 : ft 73 26 = some (.ldc2_w 205, 3, 29, 1, 611, 0, 31) := ftq_ok (by decide +kernel)
theorem d73_29 : ft 73 29 = some (.lload_n 1, 1, 30, 0, 0, 0, 0) := ftq_ok (by decide +kernel)
theorem d73_30 : ft 73 30 = some (.lmul, 1, 31, 0, 0, 0, 0) := ftq_ok (by decide +kernel)
theorem d73_31 : ft 73 31 = some (.aload_n 0, 1, 32, 0, 0, 0, 0) := ftq_ok (by decide +kernel)
theorem d73_32 : ft 73 32 = some (.iload_n 3, 1, 33, 0, 0, 0, 0) := ftq_ok (by decide +kernel)
theorem d73_33 : ft 73 33 = some (.iload 4, 2, 35, 0, 0, 0, 0) := ftq_ok (by decide +kernel)
theorem d73_35 : ft 73 35 = some (.invokevirtual 207, 3, 38, 54, 2, 0, 612) := ftq_ok (by decide +kernel)
theorem d73_38 : ft 73 38 = some (.i2l, 1, 39, 0, 0, 0, 0) := ftq_ok (by decide +kernel)
theorem d73_39 : ft 73 39 = some (.ladd, 1, 40, 0, 0, 0, 0) := ftq_ok (by decide +kernel)
theorem d73_40 : ft 73 40 = some (.lstore_n 1, 1, 41, 0, 0, 0, 0) := ftq_ok (by decide +kernel)
theorem d73_41 : ft 73 41 = some (.iinc 4 1, 3, 44, 0, 0, 0, 0) := ftq_ok (by decide +kernel)
theorem d73_44 : ft 73 44 = some (.goto (-24), 3, 47, 20, 0, 0, 0) := ftq_ok (by decide +kernel)
theorem d73_47 : ft 73 47 = some (.iinc 3 1, 3, 50, 0, 0, 0, 0) := ftq_ok (by decide +kernel)
theorem d73_50 : ft 73 50 = some (.goto (-44), 3, 53, 6, 0, 0, 0) := ftq_ok (by decide +kernel)
theorem d73_53 : ft 73 53 = some (.iconst 0, 1, 54, 0, 0, 0, 0) := ftq_ok (by decide +kernel)
theorem d73_54 : ft 73 54 = some (.istore_n 3, 1, 55, 0, 0, 0, 0) := ftq_ok (by decide +kernel)
theorem d73_55 : ft 73 55 = some (.iload_n 3, 1, 56, 0, 0, 0, 0) := ftq_ok (by decide +kernel)
theorem d73_56 : ft 73 56 = some (.aload_n 0, 1, 57, 0, 0, 0, 0) := ftq_ok (by decide +kernel)
theorem d73_57 : ft 73 57 = some (.getfield 19, 3, 60, 6, 1, 3, 275) := ftq_ok (by decide +kernel)
theorem d73_60 : ft 73 60 = some (.getfield 100, 3, 63, 4, 3, 0, 103) := ftq_ok (by decide +kernel)
theorem d73_63 : ft 73 63 = some (.if_icmp .ge 40, 3, 66, 103, 0, 0, 0) := ftq_ok (by decide +kernel)
theorem d73_66 : ft 73 66 = some (.iconst 0, 1, 67, 0, 0, 0, 0) := ftq_ok (by decide +kernel)
theorem d73_67 : ft 73 67 = some (.istore 4, 2, 69, 0, 0, 0, 0) := ftq_ok (by decide +kernel)
theorem d73_69 : ft 73 69 = some (.iload 4, 2, 71, 0, 0, 0, 0) := ftq_ok (by decide +kernel)
theorem d73_71 : ft 73 71 = some (.bipush 6, 2, 73, 0, 0, 0, 0) := ftq_ok (by decide +kernel)
theorem d73_73 : ft 73 73 = some (.if_icmp .gt 24, 3, 76, 97, 0, 0, 0) := ftq_ok (by decide +kernel)
theorem d73_76 : ft 73 76 = some (.ldc2_w 205, 3, 79, 1, 611, 0, 31) := ftq_ok (by decide +kernel)
theorem d73_79 : ft 73 79 = some (.lload_n 1, 1, 80, 0, 0, 0, 0) := ftq_ok (by decide +kernel)
theorem d73_80 : ft 73 80 = some (.lmul, 1, 81, 0, 0, 0, 0) := ftq_ok (by decide +kernel)
theorem d73_81 : ft 73 81 = some (.aload_n 0, 1, 82, 0, 0, 0, 0) := ftq_ok (by decide +kernel)
theorem d73_82 : ft 73 82 = some (.iload_n 3, 1, 83, 0, 0, 0, 0) := ftq_ok (by decide +kernel)
theorem d73_83 : ft 73 83 = some (.iload 4, 2, 85, 0, 0, 0, 0) := ftq_ok (by decide +kernel)
theorem d73_85 : ft 73 85 = some (.invokevirtual 210, 3, 88, 56, 2, 0, 613) := ftq_ok (by decide +kernel)
theorem d73_88 : ft 73 88 = some (.i2l, 1, 89, 0, 0, 0, 0) := ftq_ok (by decide +kernel)
theorem d73_89 : ft 73 89 = some (.ladd, 1, 90, 0, 0, 0, 0) := ftq_ok (by decide +kernel)
theorem d73_90 : ft 73 90 = some (.lstore_n 1, 1, 91, 0, 0, 0, 0) := ftq_ok (by decide +kernel)
theorem d73_91 : ft 73 91 = some (.iinc 4 1, 3, 94, 0, 0, 0, 0) := ftq_ok (by decide +kernel)
theorem d73_94 : ft 73 94 = some (.goto (-25), 3, 97, 69, 0, 0, 0) := ftq_ok (by decide +kernel)
theorem d73_97 : ft 73 97 = some (.iinc 3 1, 3, 100, 0, 0, 0, 0) := ftq_ok (by decide +kernel)
theorem d73_100 : ft 73 100 = some (.goto (-45), 3, 103, 55, 0, 0, 0) := ftq_ok (by decide +kernel)
theorem d73_103 : ft 73 103 = some (.aload_n 0, 1, 104, 0, 0, 0, 0) := ftq_ok (by decide +kernel)
theorem d73_104 : ft 73 104 = some (.getfield 19, 3, 107, 6, 1, 3, 275) := ftq_ok (by decide +kernel)
theorem d73_107 : ft 73 107 = some (.getfield 100, 3, 110, 4, 3, 0, 103) := ftq_ok (by decide +kernel)
theorem d73_110 : ft 73 110 = some (.ifCond .le 42, 3, 113, 152, 0, 0, 0) := ftq_ok (by decide +kernel)
theorem d73_113 : ft 73 113 = some (.iconst 1, 1, 114, 0, 0, 0, 0) := ftq_ok (by decide +kernel)
theorem d73_114 : ft 73 114 = some (.istore_n 3, 1, 115, 0, 0, 0, 0) := ftq_ok (by decide +kernel)
theorem d73_115 : ft 73 115 = some (.iload_n 3, 1, 116, 0, 0, 0, 0) := ftq_ok (by decide +kernel)
theorem d73_116 : ft 73 116 = some (.iconst 3, 1, 117, 0, 0, 0, 0) := ftq_ok (by decide +kernel)
theorem d73_117 : ft 73 117 = some (.if_icmp .gt 22, 3, 120, 139, 0, 0, 0) := ftq_ok (by decide +kernel)
theorem d73_120 : ft 73 120 = some (.ldc2_w 205, 3, 123, 1, 611, 0, 31) := ftq_ok (by decide +kernel)
theorem d73_123 : ft 73 123 = some (.lload_n 1, 1, 124, 0, 0, 0, 0) := ftq_ok (by decide +kernel)
theorem d73_124 : ft 73 124 = some (.lmul, 1, 125, 0, 0, 0, 0) := ftq_ok (by decide +kernel)
theorem d73_125 : ft 73 125 = some (.aload_n 0, 1, 126, 0, 0, 0, 0) := ftq_ok (by decide +kernel)
theorem d73_126 : ft 73 126 = some (.iload_n 3, 1, 127, 0, 0, 0, 0) := ftq_ok (by decide +kernel)
theorem d73_127 : ft 73 127 = some (.invokevirtual 213, 3, 130, 64, 1, 0, 614) := ftq_ok (by decide +kernel)
theorem d73_130 : ft 73 130 = some (.i2l, 1, 131, 0, 0, 0, 0) := ftq_ok (by decide +kernel)
theorem d73_131 : ft 73 131 = some (.ladd, 1, 132, 0, 0, 0, 0) := ftq_ok (by decide +kernel)
theorem d73_132 : ft 73 132 = some (.lstore_n 1, 1, 133, 0, 0, 0, 0) := ftq_ok (by decide +kernel)
theorem d73_133 : ft 73 133 = some (.iinc 3 1, 3, 136, 0, 0, 0, 0) := ftq_ok (by decide +kernel)
theorem d73_136 : ft 73 136 = some (.goto (-21), 3, 139, 115, 0, 0, 0) := ftq_ok (by decide +kernel)
theorem d73_139 : ft 73 139 = some (.ldc2_w 205, 3, 142, 1, 611, 0, 31) := ftq_ok (by decide +kernel)
theorem d73_142 : ft 73 142 = some (.lload_n 1, 1, 143, 0, 0, 0, 0) := ftq_ok (by decide +kernel)
theorem d73_143 : ft 73 143 = some (.lmul, 1, 144, 0, 0, 0, 0) := ftq_ok (by decide +kernel)
theorem d73_144 : ft 73 144 = some (.aload_n 0, 1, 145, 0, 0, 0, 0) := ftq_ok (by decide +kernel)
theorem d73_145 : ft 73 145 = some (.iconst 0, 1, 146, 0, 0, 0, 0) := ftq_ok (by decide +kernel)
theorem d73_146 : ft 73 146 = some (.invokevirtual 216, 3, 149, 65, 1, 0, 615) := ftq_ok (by decide +kernel)
theorem d73_149 : ft 73 149 = some (.i2l, 1, 150, 0, 0, 0, 0) := ftq_ok (by decide +kernel)
theorem d73_150 : ft 73 150 = some (.ladd, 1, 151, 0, 0, 0, 0) := ftq_ok (by decide +kernel)
theorem d73_151 : ft 73 151 = some (.lstore_n 1, 1, 152, 0, 0, 0, 0) := ftq_ok (by decide +kernel)
theorem d73_152 : ft 73 152 = some (.iconst 0, 1, 153, 0, 0, 0, 0) := ftq_ok (by decide +kernel)
theorem d73_153 : ft 73 153 = some (.istore_n 3, 1, 154, 0, 0, 0, 0) := ftq_ok (by decide +kernel)
theorem d73_154 : ft 73 154 = some (.iload_n 3, 1, 155, 0, 0, 0, 0) := ftq_ok (by decide +kernel)
theorem d73_155 : ft 73 155 = some (.aload_n 0, 1, 156, 0, 0, 0, 0) := ftq_ok (by decide +kernel)
theorem d73_156 : ft 73 156 = some (.getfield 10, 3, 159, 6, 0, 3, 274) := ftq_ok (by decide +kernel)
theorem d73_159 : ft 73 159 = some (.getfield 64, 3, 162, 2, 1, 0, 74) := ftq_ok (by decide +kernel)
theorem d73_162 : ft 73 162 = some (.if_icmp .ge 26, 3, 165, 188, 0, 0, 0) := ftq_ok (by decide +kernel)
theorem d73_165 : ft 73 165 = some (.ldc2_w 205, 3, 168, 1, 611, 0, 31) := ftq_ok (by decide +kernel)
theorem d73_168 : ft 73 168 = some (.lload_n 1, 1, 169, 0, 0, 0, 0) := ftq_ok (by decide +kernel)
theorem d73_169 : ft 73 169 = some (.lmul, 1, 170, 0, 0, 0, 0) := ftq_ok (by decide +kernel)
theorem d73_170 : ft 73 170 = some (.aload_n 0, 1, 171, 0, 0, 0, 0) := ftq_ok (by decide +kernel)
theorem d73_171 : ft 73 171 = some (.getfield 10, 3, 174, 6, 0, 3, 274) := ftq_ok (by decide +kernel)
theorem d73_174 : ft 73 174 = some (.getfield 219, 3, 177, 2, 0, 3, 71) := ftq_ok (by decide +kernel)
theorem d73_177 : ft 73 177 = some (.iload_n 3, 1, 178, 0, 0, 0, 0) := ftq_ok (by decide +kernel)
theorem d73_178 : ft 73 178 = some (.iaload, 1, 179, 0, 0, 0, 0) := ftq_ok (by decide +kernel)
theorem d73_179 : ft 73 179 = some (.i2l, 1, 180, 0, 0, 0, 0) := ftq_ok (by decide +kernel)
theorem d73_180 : ft 73 180 = some (.ladd, 1, 181, 0, 0, 0, 0) := ftq_ok (by decide +kernel)
theorem d73_181 : ft 73 181 = some (.lstore_n 1, 1, 182, 0, 0, 0, 0) := ftq_ok (by decide +kernel)
theorem d73_182 : ft 73 182 = some (.iinc 3 1, 3, 185, 0, 0, 0, 0) := ftq_ok (by decide +kernel)
theorem d73_185 : ft 73 185 = some (.goto (-31), 3, 188, 154, 0, 0, 0) := ftq_ok (by decide +kernel)
theorem d73_188 : ft 73 188 = some (.iconst 0, 1, 189, 0, 0, 0, 0) := ftq_ok (by decide +kernel)
theorem d73_189 : ft 73 189 = some (.istore_n 3, 1, 190, 0, 0, 0, 0) := ftq_ok (by decide +kernel)
theorem d73_190 : ft 73 190 = some (.iload_n 3, 1, 191, 0, 0, 0, 0) := ftq_ok (by decide +kernel)
theorem d73_191 : ft 73 191 = some (.bipush 10, 2, 193, 0, 0, 0, 0) := ftq_ok (by decide +kernel)
theorem d73_193 : ft 73 193 = some (.if_icmp .gt 22, 3, 196, 215, 0, 0, 0) := ftq_ok (by decide +kernel)
theorem d73_196 : ft 73 196 = some (.ldc2_w 205, 3, 199, 1, 611, 0, 31) := ftq_ok (by decide +kernel)
theorem d73_199 : ft 73 199 = some (.lload_n 1, 1, 200, 0, 0, 0, 0) := ftq_ok (by decide +kernel)
theorem d73_200 : ft 73 200 = some (.lmul, 1, 201, 0, 0, 0, 0) := ftq_ok (by decide +kernel)
theorem d73_201 : ft 73 201 = some (.aload_n 0, 1, 202, 0, 0, 0, 0) := ftq_ok (by decide +kernel)
theorem d73_202 : ft 73 202 = some (.iload_n 3, 1, 203, 0, 0, 0, 0) := ftq_ok (by decide +kernel)
theorem d73_203 : ft 73 203 = some (.invokevirtual 222, 3, 206, 72, 1, 0, 616) := ftq_ok (by decide +kernel)
theorem d73_206 : ft 73 206 = some (.i2l, 1, 207, 0, 0, 0, 0) := ftq_ok (by decide +kernel)
theorem d73_207 : ft 73 207 = some (.ladd, 1, 208, 0, 0, 0, 0) := ftq_ok (by decide +kernel)
theorem d73_208 : ft 73 208 = some (.lstore_n 1, 1, 209, 0, 0, 0, 0) := ftq_ok (by decide +kernel)
theorem d73_209 : ft 73 209 = some (.iinc 3 1, 3, 212, 0, 0, 0, 0) := ftq_ok (by decide +kernel)
theorem d73_212 : ft 73 212 = some (.goto (-22), 3, 215, 190, 0, 0, 0) := ftq_ok (by decide +kernel)
theorem d73_215 : ft 73 215 = some (.lload_n 1, 1, 216, 0, 0, 0, 0) := ftq_ok (by decide +kernel)
theorem d73_216 : ft 73 216 = some (.lreturn, 1, 217, 0, 0, 0, 0) := ftq_ok (by decide +kernel)
-- 74: Tb_isKind
theorem d74_0 : ft 74 0 = some (.iload_n 0, 1, 1, 0, 0, 0, 0) := ftq_ok (by decide +kernel)
theorem d74_1 : ft 74 1 = some (.ifCond .lt 12, 3, 4, 13, 0, 0, 0) := ftq_ok (by decide +kernel)
theorem d74_4 : ft 74 4 = some (.iload_n 0, 1, 5, 0, 0, 0, 0) := ftq_ok (by decide +kernel)
theorem d74_5 : ft 74 5 = some (.iconst 4, 1, 6, 0, 0, 0, 0) := ftq_ok (by decide +kernel)
theorem d74_6 : ft 74 6 = some (.if_icmp .gt 7, 3, 9, 13, 0, 0, 0) := ftq_ok (by decide +kernel)
theorem d74_9 : ft 74 9 = some (.iconst 1, 1, 10, 0, 0, 0, 0) := ftq_ok (by decide +kernel)
theorem d74_10 : ft 74 10 = some (.goto 4, 3, 13, 14, 0, 0, 0) := ftq_ok (by decide +kernel)
theorem d74_13 : ft 74 13 = some (.iconst 0, 1, 14, 0, 0, 0, 0) := ftq_ok (by decide +kernel)
theorem d74_14 : ft 74 14 = some (.ireturn, 1, 15, 0, 0, 0, 0) := ftq_ok (by decide +kernel)
-- 75: Tb_mayReadBook
theorem d75_0 : ft 75 0 = some (.aload_n 0, 1, 1, 0, 0, 0, 0) := ftq_ok (by decide +kernel)
theorem d75_1 : ft 75 1 = some (.getfield 19, 3, 4, 6, 1, 3, 275) := ftq_ok (by decide +kernel)
theorem d75_4 : ft 75 4 = some (.getfield 100, 3, 7, 4, 3, 0, 103) := ftq_ok (by decide +kernel)
theorem d75_7 : ft 75 7 = some (.ifCond .le 16, 3, 10, 23, 0, 0, 0) := ftq_ok (by decide +kernel)
theorem d75_10 : ft 75 10 = some (.aload_n 0, 1, 11, 0, 0, 0, 0) := ftq_ok (by decide +kernel)
theorem d75_11 : ft 75 11 = some (.getfield 61, 3, 14, 6, 10, 0, 284) := ftq_ok (by decide +kernel)
theorem d75_14 : ft 75 14 = some (.bipush 40, 2, 16, 0, 0, 0, 0) := ftq_ok (by decide +kernel)
theorem d75_16 : ft 75 16 = some (.if_icmp .ge 7, 3, 19, 23, 0, 0, 0) := ftq_ok (by decide +kernel)
theorem d75_19 : ft 75 19 = some (.iconst 1, 1, 20, 0, 0, 0, 0) := ftq_ok (by decide +kernel)
theorem d75_20 : ft 75 20 = some (.goto 4, 3, 23, 24, 0, 0, 0) := ftq_ok (by decide +kernel)
theorem d75_23 : ft 75 23 = some (.iconst 0, 1, 24, 0, 0, 0, 0) := ftq_ok (by decide +kernel)
theorem d75_24 : ft 75 24 = some (.ireturn, 1, 25, 0, 0, 0, 0) := ftq_ok (by decide +kernel)
-- 76: Tb_spendDays
theorem d76_0 : ft 76 0 = some (.iload_n 2, 1, 1, 0, 0, 0, 0) := ftq_ok (by decide +kernel)
theorem d76_1 : ft 76 1 = some (.istore_n 3, 1, 2, 0, 0, 0, 0) := ftq_ok (by decide +kernel)
theorem d76_2 : ft 76 2 = some (.iconst 0, 1, 3, 0, 0, 0, 0) := ftq_ok (by decide +kernel)
theorem d76_3 : ft 76 3 = some (.istore 4, 2, 5, 0, 0, 0, 0) := ftq_ok (by decide +kernel)
theorem d76_5 : ft 76 5 = some (.iload 4, 2, 7, 0, 0, 0, 0) := ftq_ok (by decide +kernel)
theorem d76_7 : ft 76 7 = some (.iload_n 1, 1, 8, 0, 0, 0, 0) := ftq_ok (by decide +kernel)
theorem d76_8 : ft 76 8 = some (.if_icmp .ge 90, 3, 11, 98, 0, 0, 0) := ftq_ok (by decide +kernel)
theorem d76_11 : ft 76 11 = some (.iload_n 3, 1, 12, 0, 0, 0, 0) := ftq_ok (by decide +kernel)
theorem d76_12 : ft 76 12 = some (.invokestatic 225, 3, 15, 77, 1, 1, 579) := ftq_ok (by decide +kernel)
theorem d76_15 : ft 76 15 = some (.istore_n 3, 1, 16, 0, 0, 0, 0) := ftq_ok (by decide +kernel)
theorem d76_16 : ft 76 16 = some (.iload_n 3, 1, 17, 0, 0, 0, 0) := ftq_ok (by decide +kernel)
theorem d76_17 : ft 76 17 = some (.ldc 228, 2, 19, 0, 585, 0, 65536) := ftq_ok (by decide +kernel)
theorem d76_19 : ft 76 19 = some (.idiv, 1, 20, 0, 0, 0, 0) := ftq_ok (by decide +kernel)
theorem d76_20 : ft 76 20 = some (.iconst 5, 1, 21, 0, 0, 0, 0) := ftq_ok (by decide +kernel)
theorem d76_21 : ft 76 21 = some (.irem, 1, 22, 0, 0, 0, 0) := ftq_ok (by decide +kernel)
theorem d76_22 : ft 76 22 = some (.istore 5, 2, 24, 0, 0, 0, 0) := ftq_ok (by decide +kernel)
theorem d76_24 : ft 76 24 = some (.iload 5, 2, 26, 0, 0, 0, 0) := ftq_ok (by decide +kernel)
theorem d76_26 : ft 76 26 = some (.iconst 1, 1, 27, 0, 0, 0, 0) := ftq_ok (by decide +kernel)
theorem d76_27 : ft 76 27 = some (.if_icmp .gt 14, 3, 30, 41, 0, 0, 0) := ftq_ok (by decide +kernel)
theorem d76_30 : ft 76 30 = some (.aload_n 0, 1, 31, 0, 0, 0, 0) := ftq_ok (by decide +kernel)
theorem d76_31 : ft 76 31 = some (.getfield 26, 3, 34, 6, 3, 3, 277) := ftq_ok (by decide +kernel)
theorem d76_34 : ft 76 34 = some (.invokevirtual 136, 3, 37, 34, 0, 0, 407) := ftq_ok (by decide +kernel)
theorem d76_37 : ft 76 37 = some (.pop, 1, 38, 0, 0, 0, 0) := ftq_ok (by decide +kernel)
theorem d76_38 : ft 76 38 = some (.goto 54, 3, 41, 92, 0, 0, 0) := ftq_ok (by decide +kernel)
theorem d76_41 : ft 76 41 = some (.iload 5, 2, 43, 0, 0, 0, 0) := ftq_ok (by decide +kernel)
theorem d76_43 : ft 76 43 = some (.iconst 2, 1, 44, 0, 0, 0, 0) := ftq_ok (by decide +kernel)
theorem d76_44 : ft 76 44 = some (.if_icmp .ne 13, 3, 47, 57, 0, 0, 0) := ftq_ok (by decide +kernel)
theorem d76_47 : ft 76 47 = some (.aload_n 0, 1, 48, 0, 0, 0, 0) := ftq_ok (by decide +kernel)
theorem d76_48 : ft 76 48 = some (.getfield 26, 3, 51, 6, 3, 3, 277) := ftq_ok (by decide +kernel)
theorem d76_51 : ft 76 51 = some (.invokevirtual 142, 3, 54, 36, 0, 0, 419) := ftq_ok (by decide +kernel)
theorem d76_54 : ft 76 54 = some (.goto 38, 3, 57, 92, 0, 0, 0) := ftq_ok (by decide +kernel)
theorem d76_57 : ft 76 57 = some (.iload 5, 2, 59, 0, 0, 0, 0) := ftq_ok (by decide +kernel)
theorem d76_59 : ft 76 59 = some (.iconst 3, 1, 60, 0, 0, 0, 0) := ftq_ok (by decide +kernel)
theorem d76_60 : ft 76 60 = some (.if_icmp .ne 14, 3, 63, 74, 0, 0, 0) := ftq_ok (by decide +kernel)
theorem d76_63 : ft 76 63 = some (.aload_n 0, 1, 64, 0, 0, 0, 0) := ftq_ok (by decide +kernel)
theorem d76_64 : ft 76 64 = some (.getfield 26, 3, 67, 6, 3, 3, 277) := ftq_ok (by decide +kernel)
theorem d76_67 : ft 76 67 = some (.invokevirtual 148, 3, 70, 37, 0, 0, 427) := ftq_ok (by decide +kernel)
theorem d76_70 : ft 76 70 = some (.pop, 1, 71, 0, 0, 0, 0) := ftq_ok (by decide +kernel)
theorem d76_71 : ft 76 71 = some (.goto 21, 3, 74, 92, 0, 0, 0) := ftq_ok (by decide +kernel)
theorem d76_74 : ft 76 74 = some (.iload_n 3, 1, 75, 0, 0, 0, 0) := ftq_ok (by decide +kernel)
theorem d76_75 : ft 76 75 = some (.invokestatic 225, 3, 78, 77, 1, 1, 579) := ftq_ok (by decide +kernel)
theorem d76_78 : ft 76 78 = some (.istore_n 3, 1, 79, 0, 0, 0, 0) := ftq_ok (by decide +kernel)
theorem d76_79 : ft 76 79 = some (.aload_n 0, 1, 80, 0, 0, 0, 0) := ftq_ok (by decide +kernel)
theorem d76_80 : ft 76 80 = some (.getfield 26, 3, 83, 6, 3, 3, 277) := ftq_ok (by decide +kernel)
theorem d76_83 : ft 76 83 = some (.iload_n 3, 1, 84, 0, 0, 0, 0) := ftq_ok (by decide +kernel)
theorem d76_84 : ft 76 84 = some (.ldc 228, 2, 86, 0, 585, 0, 65536) := ftq_ok (by decide +kernel)
theorem d76_86 : ft 76 86 = some (.idiv, 1, 87, 0, 0, 0, 0) := ftq_ok (by decide +kernel)
theorem d76_87 : ft 76 87 = some (.iconst 3, 1, 88, 0, 0, 0, 0) := ftq_ok (by decide +kernel)
theorem d76_88 : ft 76 88 = some (.irem, 1, 89, 0, 0, 0, 0) := ftq_ok (by decide +kernel)
theorem d76_89 : ft 76 89 = some (.invokevirtual 151, 3, 92, 38, 1, 0, 435) := ftq_ok (by decide +kernel)
theorem d76_92 : ft 76 92 = some (.iinc 4 1, 3, 95, 0, 0, 0, 0) := ftq_ok (by decide +kernel)
theorem d76_95 : ft 76 95 = some (.goto (-90), 3, 98, 5, 0, 0, 0) := ftq_ok (by decide +kernel)
theorem d76_98 : ft 76 98 = some (.iload_n 3, 1, 99, 0, 0, 0, 0) := ftq_ok (by decide +kernel)
theorem d76_99 : ft 76 99 = some (.ireturn, 1, 100, 0, 0, 0, 0) := ftq_ok (by decide +kernel)
-- 77: Tb_nextSeed
theorem d77_0 : ft 77 0 = some (.ldc2_w 229, 3, 3, 1, 582, 0, 1103515245) := ftq_ok (by decide +kernel)
theorem d77_3 : ft 77 3 = some (.iload_n 0, 1, 4, 0, 0, 0, 0) := ftq_ok (by decide +kernel)
theorem d77_4 : ft 77 4 = some (.i2l, 1, 5, 0, 0, 0, 0) := ftq_ok (by decide +kernel)
theorem d77_5 : ft 77 5 = some (.lmul, 1, 6, 0, 0, 0, 0) := ftq_ok (by decide +kernel)
theorem d77_6 : ft 77 6 = some (.ldc2_w 231, 3, 9, 1, 583, 0, 12345) := ftq_ok (by decide +kernel)
theorem d77_9 : ft 77 9 = some (.ladd, 1, 10, 0, 0, 0, 0) := ftq_ok (by decide +kernel)
theorem d77_10 : ft 77 10 = some (.ldc2_w 233, 3, 13, 1, 584, 0, 2147483648) := ftq_ok (by decide +kernel)
theorem d77_13 : ft 77 13 = some (.lrem, 1, 14, 0, 0, 0, 0) := ftq_ok (by decide +kernel)
theorem d77_14 : ft 77 14 = some (.l2i, 1, 15, 0, 0, 0, 0) := ftq_ok (by decide +kernel)
theorem d77_15 : ft 77 15 = some (.ireturn, 1, 16, 0, 0, 0, 0) := ftq_ok (by decide +kernel)
-- 137: Law_law
theorem d137_0 : ft 137 0 = some (.new 7, 3, 3, 6, 11, 0, 56) := ftq_ok (by decide +kernel)
theorem d137_3 : ft 137 3 = some (.dup, 1, 4, 0, 0, 0, 0) := ftq_ok (by decide +kernel)
theorem d137_4 : ft 137 4 = some (.invokespecial 9, 3, 7, 49, 0, 2, 58) := ftq_ok (by decide +kernel)
theorem d137_7 : ft 137 7 = some (.astore_n 1, 1, 8, 0, 0, 0, 0) := ftq_ok (by decide +kernel)
theorem d137_8 : ft 137 8 = some (.new 10, 3, 11, 7, 40, 0, 617) := ftq_ok (by decide +kernel)
theorem d137_11 : ft 137 11 = some (.dup, 1, 12, 0, 0, 0, 0) := ftq_ok (by decide +kernel)
theorem d137_12 : ft 137 12 = some (.invokespecial 12, 3, 15, 78, 0, 2, 619) := ftq_ok (by decide +kernel)
theorem d137_15 : ft 137 15 = some (.astore_n 2, 1, 16, 0, 0, 0, 0) := ftq_ok (by decide +kernel)
theorem d137_16 : ft 137 16 = some (.iconst 0, 1, 17, 0, 0, 0, 0) := ftq_ok (by decide +kernel)
theorem d137_17 : ft 137 17 = some (.istore_n 3, 1, 18, 0, 0, 0, 0) := ftq_ok (by decide +kernel)
theorem d137_18 : ft 137 18 = some (.iload_n 3, 1, 19, 0, 0, 0, 0) := ftq_ok (by decide +kernel)
theorem d137_19 : ft 137 19 = some (.aload_n 0, 1, 20, 0, 0, 0, 0) := ftq_ok (by decide +kernel)
theorem d137_20 : ft 137 20 = some (.arraylength, 1, 21, 0, 0, 0, 0) := ftq_ok (by decide +kernel)
theorem d137_21 : ft 137 21 = some (.iconst 4, 1, 22, 0, 0, 0, 0) := ftq_ok (by decide +kernel)
theorem d137_22 : ft 137 22 = some (.isub, 1, 23, 0, 0, 0, 0) := ftq_ok (by decide +kernel)
theorem d137_23 : ft 137 23 = some (.if_icmp .gt 640, 3, 26, 663, 0, 0, 0) := ftq_ok (by decide +kernel)
theorem d137_26 : ft 137 26 = some (.aload_n 0, 1, 27, 0, 0, 0, 0) := ftq_ok (by decide +kernel)
theorem d137_27 : ft 137 27 = some (.iload_n 3, 1, 28, 0, 0, 0, 0) := ftq_ok (by decide +kernel)
theorem d137_28 : ft 137 28 = some (.iaload, 1, 29, 0, 0, 0, 0) := ftq_ok (by decide +kernel)
theorem d137_29 : ft 137 29 = some (.bipush 31, 2, 31, 0, 0, 0, 0) := ftq_ok (by decide +kernel)
theorem d137_31 : ft 137 31 = some (.iand, 1, 32, 0, 0, 0, 0) := ftq_ok (by decide +kernel)
theorem d137_32 : ft 137 32 = some (.tableswitch 625 0 23 #[112, 135, 148, 161, 174, 207, 240, 273, 306, 319, 332, 345, 368, 381, 404, 427, 450, 483, 496, 519, 562, 575, 588, 611], 112, 144, 0, 0, 0, 0) := ftq_ok (by decide +kernel)
theorem d137_144 : ft 137 144 = some (.aload_n 1, 1, 145, 0, 0, 0, 0) := ftq_ok (by decide +kernel)
theorem d137_145 : ft 137 145 = some (.aload_n 0, 1, 146, 0, 0, 0, 0) := ftq_ok (by decide +kernel)
theorem d137_146 : ft 137 146 = some (.iload_n 3, 1, 147, 0, 0, 0, 0) := ftq_ok (by decide +kernel)
theorem d137_147 : ft 137 147 = some (.iconst 1, 1, 148, 0, 0, 0, 0) := ftq_ok (by decide +kernel)
theorem d137_148 : ft 137 148 = some (.iadd, 1, 149, 0, 0, 0, 0) := ftq_ok (by decide +kernel)
theorem d137_149 : ft 137 149 = some (.iaload, 1, 150, 0, 0, 0, 0) := ftq_ok (by decide +kernel)
theorem d137_150 : ft 137 150 = some (.invokevirtual 13, 3, 153, 50, 1, 0, 308) := ftq_ok (by decide +kernel)
theorem d137_153 : ft 137 153 = some (.aload_n 2, 1, 154, 0, 0, 0, 0) := ftq_ok (by decide +kernel)
theorem d137_154 : ft 137 154 = some (.aload_n 0, 1, 155, 0, 0, 0, 0) := ftq_ok (by decide +kernel)
theorem d137_155 : ft 137 155 = some (.iload_n 3, 1, 156, 0, 0, 0, 0) := ftq_ok (by decide +kernel)
theorem d137_156 : ft 137 156 = some (.iconst 1, 1, 157, 0, 0, 0, 0) := ftq_ok (by decide +kernel)
theorem d137_157 : ft 137 157 = some (.iadd, 1, 158, 0, 0, 0, 0) := ftq_ok (by decide +kernel)
theorem d137_158 : ft 137 158 = some (.iaload, 1, 159, 0, 0, 0, 0) := ftq_ok (by decide +kernel)
theorem d137_159 : ft 137 159 = some (.invokevirtual 17, 3, 162, 80, 1, 0, 744) := ftq_ok (by decide +kernel)
theorem d137_162 : ft 137 162 = some (.if_icmp .eq 495, 3, 165, 657, 0, 0, 0) := ftq_ok (by decide +kernel)
theorem d137_165 : ft 137 165 = some (.iconst 0, 1, 166, 0, 0, 0, 0) := ftq_ok (by decide +kernel)
theorem d137_166 : ft 137 166 = some (.ireturn, 1, 167, 0, 0, 0, 0) := ftq_ok (by decide +kernel)
theorem d137_167 : ft 137 167 = some (.aload_n 1, 1, 168, 0, 0, 0, 0) := ftq_ok (by decide +kernel)
theorem d137_168 : ft 137 168 = some (.invokevirtual 18, 3, 171, 51, 0, 0, 316) := ftq_ok (by decide +kernel)
theorem d137_171 : ft 137 171 = some (.aload_n 2, 1, 172, 0, 0, 0, 0) := ftq_ok (by decide +kernel)
theorem d137_172 : ft 137 172 = some (.invokevirtual 22, 3, 175, 81, 0, 0, 752) := ftq_ok (by decide +kernel)
theorem d137_175 : ft 137 175 = some (.if_icmp .eq 482, 3, 178, 657, 0, 0, 0) := ftq_ok (by decide +kernel)
theorem d137_178 : ft 137 178 = some (.iconst 0, 1, 179, 0, 0, 0, 0) := ftq_ok (by decide +kernel)
theorem d137_179 : ft 137 179 = some (.ireturn, 1, 180, 0, 0, 0, 0) := ftq_ok (by decide +kernel)
theorem d137_180 : ft 137 180 = some (.aload_n 1, 1, 181, 0, 0, 0, 0) := ftq_ok (by decide +kernel)
theorem d137_181 : ft 137 181 = some (.invokevirtual 23, 3, 184, 52, 0, 0, 320) := ftq_ok (by decide +kernel)
theorem d137_184 : ft 137 184 = some (.aload_n 2, 1, 185, 0, 0, 0, 0) := ftq_ok (by decide +kernel)
theorem d137_185 : ft 137 185 = some (.invokevirtual 26, 3, 188, 85, 0, 0, 756) := ftq_ok (by decide +kernel)
theorem d137_188 : ft 137 188 = some (.if_icmp .eq 469, 3, 191, 657, 0, 0, 0) := ftq_ok (by decide +kernel)
theorem d137_191 : ft 137 191 = some (.iconst 0, 1, 192, 0, 0, 0, 0) := ftq_ok (by decide +kernel)
theorem d137_192 : ft 137 192 = some (.ireturn, 1, 193, 0, 0, 0, 0) := ftq_ok (by decide +kernel)
theorem d137_193 : ft 137 193 = some (.aload_n 1, 1, 194, 0, 0, 0, 0) := ftq_ok (by decide +kernel)
theorem d137_194 : ft 137 194 = some (.invokevirtual 27, 3, 197, 53, 0, 0, 331) := ftq_ok (by decide +kernel)
theorem d137_197 : ft 137 197 = some (.aload_n 2, 1, 198, 0, 0, 0, 0) := ftq_ok (by decide +kernel)
theorem d137_198 : ft 137 198 = some (.invokevirtual 30, 3, 201, 86, 0, 0, 773) := ftq_ok (by decide +kernel)
theorem d137_201 : ft 137 201 = some (.if_icmp .eq 456, 3, 204, 657, 0, 0, 0) := ftq_ok (by decide +kernel)
theorem d137_204 : ft 137 204 = some (.iconst 0, 1, 205, 0, 0, 0, 0) := ftq_ok (by decide +kernel)
theorem d137_205 : ft 137 205 = some (.ireturn, 1, 206, 0, 0, 0, 0) := ftq_ok (by decide +kernel)
theorem d137_206 : ft 137 206 = some (.aload_n 1, 1, 207, 0, 0, 0, 0) := ftq_ok (by decide +kernel)
theorem d137_207 : ft 137 207 = some (.aload_n 0, 1, 208, 0, 0, 0, 0) := ftq_ok (by decide +kernel)
theorem d137_208 : ft 137 208 = some (.iload_n 3, 1, 209, 0, 0, 0, 0) := ftq_ok (by decide +kernel)
theorem d137_209 : ft 137 209 = some (.iconst 1, 1, 210, 0, 0, 0, 0) := ftq_ok (by decide +kernel)
theorem d137_210 : ft 137 210 = some (.iadd, 1, 211, 0, 0, 0, 0) := ftq_ok (by decide +kernel)
theorem d137_211 : ft 137 211 = some (.iaload, 1, 212, 0, 0, 0, 0) := ftq_ok (by decide +kernel)
theorem d137_212 : ft 137 212 = some (.aload_n 0, 1, 213, 0, 0, 0, 0) := ftq_ok (by decide +kernel)
theorem d137_213 : ft 137 213 = some (.iload_n 3, 1, 214, 0, 0, 0, 0) := ftq_ok (by decide +kernel)
theorem d137_214 : ft 137 214 = some (.iconst 2, 1, 215, 0, 0, 0, 0) := ftq_ok (by decide +kernel)
theorem d137_215 : ft 137 215 = some (.iadd, 1, 216, 0, 0, 0, 0) := ftq_ok (by decide +kernel)
theorem d137_216 : ft 137 216 = some (.iaload, 1, 217, 0, 0, 0, 0) := ftq_ok (by decide +kernel)
theorem d137_217 : ft 137 217 = some (.invokevirtual 31, 3, 220, 54, 2, 0, 351) := ftq_ok (by decide +kernel)
theorem d137_220 : ft 137 220 = some (.aload_n 2, 1, 221, 0, 0, 0, 0) := ftq_ok (by decide +kernel)
theorem d137_221 : ft 137 221 = some (.aload_n 0, 1, 222, 0, 0, 0, 0) := ftq_ok (by decide +kernel)
theorem d137_222 : ft 137 222 = some (.iload_n 3, 1, 223, 0, 0, 0, 0) := ftq_ok (by decide +kernel)
theorem d137_223 : ft 137 223 = some (.iconst 1, 1, 224, 0, 0, 0, 0) := ftq_ok (by decide +kernel)
theorem d137_224 : ft 137 224 = some (.iadd, 1, 225, 0, 0, 0, 0) := ftq_ok (by decide +kernel)
theorem d137_225 : ft 137 225 = some (.iaload, 1, 226, 0, 0, 0, 0) := ftq_ok (by decide +kernel)
theorem d137_226 : ft 137 226 = some (.aload_n 0, 1, 227, 0, 0, 0, 0) := ftq_ok (by decide +kernel)
theorem d137_227 : ft 137 227 = some (.iload_n 3, 1, 228, 0, 0, 0, 0) := ftq_ok (by decide +kernel)
theorem d137_228 : ft 137 228 = some (.iconst 2, 1, 229, 0, 0, 0, 0) := ftq_ok (by decide +kernel)
theorem d137_229 : ft 137 229 = some (.iadd, 1, 230, 0, 0, 0, 0) := ftq_ok (by decide +kernel)
theorem d137_230 : ft 137 230 = some (.iaload, 1, 231, 0, 0, 0, 0) := ftq_ok (by decide +kernel)
theorem d137_231 : ft 137 231 = some (.invokevirtual 35, 3, 234, 89, 2, 0, 777) := ftq_ok (by decide +kernel)
theorem d137_234 : ft 137 234 = some (.if_icmp .eq 423, 3, 237, 657, 0, 0, 0) := ftq_ok (by decide +kernel)
theorem d137_237 : ft 137 237 = some (.iconst 0, 1, 238, 0, 0, 0, 0) := ftq_ok (by decide +kernel)
theorem d137_238 : ft 137 238 = some (.ireturn, 1, 239, 0, 0, 0, 0) := ftq_ok (by decide +kernel)
theorem d137_239 : ft 137 239 = some (.aload_n 1, 1, 240, 0, 0, 0, 0) := ftq_ok (by decide +kernel)
theorem d137_240 : ft 137 240 = some (.aload_n 0, 1, 241, 0, 0, 0, 0) := ftq_ok (by decide +kernel)
theorem d137_241 : ft 137 241 = some (.iload_n 3, 1, 242, 0, 0, 0, 0) := ftq_ok (by decide +kernel)
theorem d137_242 : ft 137 242 = some (.iconst 1, 1, 243, 0, 0, 0, 0) := ftq_ok (by decide +kernel)
theorem d137_243 : ft 137 243 = some (.iadd, 1, 244, 0, 0, 0, 0) := ftq_ok (by decide +kernel)
theorem d137_244 : ft 137 244 = some (.iaload, 1, 245, 0, 0, 0, 0) := ftq_ok (by decide +kernel)
theorem d137_245 : ft 137 245 = some (.aload_n 0, 1, 246, 0, 0, 0, 0) := ftq_ok (by decide +kernel)
theorem d137_246 : ft 137 246 = some (.iload_n 3, 1, 247, 0, 0, 0, 0) := ftq_ok (by decide +kernel)
theorem d137_247 : ft 137 247 = some (.iconst 2, 1, 248, 0, 0, 0, 0) := ftq_ok (by decide +kernel)
theorem d137_248 : ft 137 248 = some (.iadd, 1, 249, 0, 0, 0, 0) := ftq_ok (by decide +kernel)
theorem d137_249 : ft 137 249 = some (.iaload, 1, 250, 0, 0, 0, 0) := ftq_ok (by decide +kernel)
theorem d137_250 : ft 137 250 = some (.invokevirtual 36, 3, 253, 55, 2, 0, 359) := ftq_ok (by decide +kernel)
theorem d137_253 : ft 137 253 = some (.aload_n 2, 1, 254, 0, 0, 0, 0) := ftq_ok (by decide +kernel)
theorem d137_254 : ft 137 254 = some (.aload_n 0, 1, 255, 0, 0, 0, 0) := ftq_ok (by decide +kernel)
theorem d137_255 : ft 137 255 = some (.iload_n 3, 1, 256, 0, 0, 0, 0) := ftq_ok (by decide +kernel)
theorem d137_256 : ft 137 256 = some (.iconst 1, 1, 257, 0, 0, 0, 0) := ftq_ok (by decide +kernel)
theorem d137_257 : ft 137 257 = some (.iadd, 1, 258, 0, 0, 0, 0) := ftq_ok (by decide +kernel)
theorem d137_258 : ft 137 258 = some (.iaload, 1, 259, 0, 0, 0, 0) := ftq_ok (by decide +kernel)
theorem d137_259 : ft 137 259 = some (.aload_n 0, 1, 260, 0, 0, 0, 0) := ftq_ok (by decide +kernel)
theorem d137_260 : ft 137 260 = some (.iload_n 3, 1, 261, 0, 0, 0, 0) := ftq_ok (by decide +kernel)
theorem d137_261 : ft 137 261 = some (.iconst 2, 1, 262, 0, 0, 0, 0) := ftq_ok (by decide +kernel)
theorem d137_262 : ft 137 262 = some (.iadd, 1, 263, 0, 0, 0, 0) := ftq_ok (by decide +kernel)
theorem d137_263 : ft 137 263 = some (.iaload, 1, 264, 0, 0, 0, 0) := ftq_ok (by decide +kernel)
theorem d137_264 : ft 137 264 = some (.invokevirtual 39, 3, 267, 91, 2, 0, 785) := ftq_ok (by decide +kernel)
theorem d137_267 : ft 137 267 = some (.if_icmp .eq 390, 3, 270, 657, 0, 0, 0) := ftq_ok (by decide +kernel)
theorem d137_270 : ft 137 270 = some (.iconst 0, 1, 271, 0, 0, 0, 0) := ftq_ok (by decide +kernel)
theorem d137_271 : ft 137 271 = some (.ireturn, 1, 272, 0, 0, 0, 0) := ftq_ok (by decide +kernel)
theorem d137_272 : ft 137 272 = some (.aload_n 1, 1, 273, 0, 0, 0, 0) := ftq_ok (by decide +kernel)
theorem d137_273 : ft 137 273 = some (.aload_n 0, 1, 274, 0, 0, 0, 0) := ftq_ok (by decide +kernel)
theorem d137_274 : ft 137 274 = some (.iload_n 3, 1, 275, 0, 0, 0, 0) := ftq_ok (by decide +kernel)
theorem d137_275 : ft 137 275 = some (.iconst 1, 1, 276, 0, 0, 0, 0) := ftq_ok (by decide +kernel)
theorem d137_276 : ft 137 276 = some (.iadd, 1, 277, 0, 0, 0, 0) := ftq_ok (by decide +kernel)
theorem d137_277 : ft 137 277 = some (.iaload, 1, 278, 0, 0, 0, 0) := ftq_ok (by decide +kernel)
theorem d137_278 : ft 137 278 = some (.aload_n 0, 1, 279, 0, 0, 0, 0) := ftq_ok (by decide +kernel)
theorem d137_279 : ft 137 279 = some (.iload_n 3, 1, 280, 0, 0, 0, 0) := ftq_ok (by decide +kernel)
theorem d137_280 : ft 137 280 = some (.iconst 2, 1, 281, 0, 0, 0, 0) := ftq_ok (by decide +kernel)
theorem d137_281 : ft 137 281 = some (.iadd, 1, 282, 0, 0, 0, 0) := ftq_ok (by decide +kernel)
theorem d137_282 : ft 137 282 = some (.iaload, 1, 283, 0, 0, 0, 0) := ftq_ok (by decide +kernel)
theorem d137_283 : ft 137 283 = some (.invokevirtual 40, 3, 286, 56, 2, 0, 370) := ftq_ok (by decide +kernel)
theorem d137_286 : ft 137 286 = some (.aload_n 2, 1, 287, 0, 0, 0, 0) := ftq_ok (by decide +kernel)
theorem d137_287 : ft 137 287 = some (.aload_n 0, 1, 288, 0, 0, 0, 0) := ftq_ok (by decide +kernel)
theorem d137_288 : ft 137 288 = some (.iload_n 3, 1, 289, 0, 0, 0, 0) := ftq_ok (by decide +kernel)
theorem d137_289 : ft 137 289 = some (.iconst 1, 1, 290, 0, 0, 0, 0) := ftq_ok (by decide +kernel)
theorem d137_290 : ft 137 290 = some (.iadd, 1, 291, 0, 0, 0, 0) := ftq_ok (by decide +kernel)
theorem d137_291 : ft 137 291 = some (.iaload, 1, 292, 0, 0, 0, 0) := ftq_ok (by decide +kernel)
theorem d137_292 : ft 137 292 = some (.aload_n 0, 1, 293, 0, 0, 0, 0) := ftq_ok (by decide +kernel)
theorem d137_293 : ft 137 293 = some (.iload_n 3, 1, 294, 0, 0, 0, 0) := ftq_ok (by decide +kernel)
theorem d137_294 : ft 137 294 = some (.iconst 2, 1, 295, 0, 0, 0, 0) := ftq_ok (by decide +kernel)
theorem d137_295 : ft 137 295 = some (.iadd, 1, 296, 0, 0, 0, 0) := ftq_ok (by decide +kernel)
theorem d137_296 : ft 137 296 = some (.iaload, 1, 297, 0, 0, 0, 0) := ftq_ok (by decide +kernel)
theorem d137_297 : ft 137 297 = some (.invokevirtual 43, 3, 300, 96, 2, 0, 795) := ftq_ok (by decide +kernel)
theorem d137_300 : ft 137 300 = some (.if_icmp .eq 357, 3, 303, 657, 0, 0, 0) := ftq_ok (by decide +kernel)
theorem d137_303 : ft 137 303 = some (.iconst 0, 1, 304, 0, 0, 0, 0) := ftq_ok (by decide +kernel)
theorem d137_304 : ft 137 304 = some (.ireturn, 1, 305, 0, 0, 0, 0) := ftq_ok (by decide +kernel)
theorem d137_305 : ft 137 305 = some (.aload_n 1, 1, 306, 0, 0, 0, 0) := ftq_ok (by decide +kernel)
theorem d137_306 : ft 137 306 = some (.aload_n 0, 1, 307, 0, 0, 0, 0) := ftq_ok (by decide +kernel)
theorem d137_307 : ft 137 307 = some (.iload_n 3, 1, 308, 0, 0, 0, 0) := ftq_ok (by decide +kernel)
theorem d137_308 : ft 137 308 = some (.iconst 1, 1, 309, 0, 0, 0, 0) := ftq_ok (by decide +kernel)
theorem d137_309 : ft 137 309 = some (.iadd, 1, 310, 0, 0, 0, 0) := ftq_ok (by decide +kernel)
theorem d137_310 : ft 137 310 = some (.iaload, 1, 311, 0, 0, 0, 0) := ftq_ok (by decide +kernel)
theorem d137_311 : ft 137 311 = some (.aload_n 0, 1, 312, 0, 0, 0, 0) := ftq_ok (by decide +kernel)
theorem d137_312 : ft 137 312 = some (.iload_n 3, 1, 313, 0, 0, 0, 0) := ftq_ok (by decide +kernel)
theorem d137_313 : ft 137 313 = some (.iconst 2, 1, 314, 0, 0, 0, 0) := ftq_ok (by decide +kernel)
theorem d137_314 : ft 137 314 = some (.iadd, 1, 315, 0, 0, 0, 0) := ftq_ok (by decide +kernel)
theorem d137_315 : ft 137 315 = some (.iaload, 1, 316, 0, 0, 0, 0) := ftq_ok (by decide +kernel)
theorem d137_316 : ft 137 316 = some (.invokevirtual 44, 3, 319, 57, 2, 0, 395) := ftq_ok (by decide +kernel)
theorem d137_319 : ft 137 319 = some (.aload_n 2, 1, 320, 0, 0, 0, 0) := ftq_ok (by decide +kernel)
theorem d137_320 : ft 137 320 = some (.aload_n 0, 1, 321, 0, 0, 0, 0) := ftq_ok (by decide +kernel)
theorem d137_321 : ft 137 321 = some (.iload_n 3, 1, 322, 0, 0, 0, 0) := ftq_ok (by decide +kernel)
theorem d137_322 : ft 137 322 = some (.iconst 1, 1, 323, 0, 0, 0, 0) := ftq_ok (by decide +kernel)
theorem d137_323 : ft 137 323 = some (.iadd, 1, 324, 0, 0, 0, 0) := ftq_ok (by decide +kernel)
theorem d137_324 : ft 137 324 = some (.iaload, 1, 325, 0, 0, 0, 0) := ftq_ok (by decide +kernel)
theorem d137_325 : ft 137 325 = some (.aload_n 0, 1, 326, 0, 0, 0, 0) := ftq_ok (by decide +kernel)
theorem d137_326 : ft 137 326 = some (.iload_n 3, 1, 327, 0, 0, 0, 0) := ftq_ok (by decide +kernel)
theorem d137_327 : ft 137 327 = some (.iconst 2, 1, 328, 0, 0, 0, 0) := ftq_ok (by decide +kernel)
theorem d137_328 : ft 137 328 = some (.iadd, 1, 329, 0, 0, 0, 0) := ftq_ok (by decide +kernel)
theorem d137_329 : ft 137 329 = some (.iaload, 1, 330, 0, 0, 0, 0) := ftq_ok (by decide +kernel)
theorem d137_330 : ft 137 330 = some (.invokevirtual 47, 3, 333, 97, 2, 0, 819) := ftq_ok (by decide +kernel)
theorem d137_333 : ft 137 333 = some (.if_icmp .eq 324, 3, 336, 657, 0, 0, 0) := ftq_ok (by decide +kernel)
theorem d137_336 : ft 137 336 = some (.iconst 0, 1, 337, 0, 0, 0, 0) := ftq_ok (by decide +kernel)
theorem d137_337 : ft 137 337 = some (.ireturn, 1, 338, 0, 0, 0, 0) := ftq_ok (by decide +kernel)
theorem d137_338 : ft 137 338 = some (.aload_n 1, 1, 339, 0, 0, 0, 0) := ftq_ok (by decide +kernel)
theorem d137_339 : ft 137 339 = some (.invokevirtual 48, 3, 342, 58, 0, 0, 403) := ftq_ok (by decide +kernel)
theorem d137_342 : ft 137 342 = some (.aload_n 2, 1, 343, 0, 0, 0, 0) := ftq_ok (by decide +kernel)
theorem d137_343 : ft 137 343 = some (.invokevirtual 51, 3, 346, 104, 0, 0, 823) := ftq_ok (by decide +kernel)
theorem d137_346 : ft 137 346 = some (.if_icmp .eq 311, 3, 349, 657, 0, 0, 0) := ftq_ok (by decide +kernel)
theorem d137_349 : ft 137 349 = some (.iconst 0, 1, 350, 0, 0, 0, 0) := ftq_ok (by decide +kernel)
theorem d137_350 : ft 137 350 = some (.ireturn, 1, 351, 0, 0, 0, 0) := ftq_ok (by decide +kernel)
theorem d137_351 : ft 137 351 = some (.aload_n 1, 1, 352, 0, 0, 0, 0) := ftq_ok (by decide +kernel)
theorem d137_352 : ft 137 352 = some (.invokevirtual 52, 3, 355, 59, 0, 0, 415) := ftq_ok (by decide +kernel)
theorem d137_355 : ft 137 355 = some (.aload_n 2, 1, 356, 0, 0, 0, 0) := ftq_ok (by decide +kernel)
theorem d137_356 : ft 137 356 = some (.invokevirtual 55, 3, 359, 105, 0, 0, 843) := ftq_ok (by decide +kernel)
theorem d137_359 : ft 137 359 = some (.if_icmp .eq 298, 3, 362, 657, 0, 0, 0) := ftq_ok (by decide +kernel)
theorem d137_362 : ft 137 362 = some (.iconst 0, 1, 363, 0, 0, 0, 0) := ftq_ok (by decide +kernel)
theorem d137_363 : ft 137 363 = some (.ireturn, 1, 364, 0, 0, 0, 0) := ftq_ok (by decide +kernel)
theorem d137_364 : ft 137 364 = some (.aload_n 1, 1, 365, 0, 0, 0, 0) := ftq_ok (by decide +kernel)
theorem d137_365 : ft 137 365 = some (.invokevirtual 56, 3, 368, 60, 0, 0, 423) := ftq_ok (by decide +kernel)
theorem d137_368 : ft 137 368 = some (.aload_n 2, 1, 369, 0, 0, 0, 0) := ftq_ok (by decide +kernel)
theorem d137_369 : ft 137 369 = some (.invokevirtual 59, 3, 372, 107, 0, 0, 851) := ftq_ok (by decide +kernel)
theorem d137_372 : ft 137 372 = some (.if_icmp .eq 285, 3, 375, 657, 0, 0, 0) := ftq_ok (by decide +kernel)
theorem d137_375 : ft 137 375 = some (.iconst 0, 1, 376, 0, 0, 0, 0) := ftq_ok (by decide +kernel)
theorem d137_376 : ft 137 376 = some (.ireturn, 1, 377, 0, 0, 0, 0) := ftq_ok (by decide +kernel)
theorem d137_377 : ft 137 377 = some (.aload_n 1, 1, 378, 0, 0, 0, 0) := ftq_ok (by decide +kernel)
theorem d137_378 : ft 137 378 = some (.aload_n 0, 1, 379, 0, 0, 0, 0) := ftq_ok (by decide +kernel)
theorem d137_379 : ft 137 379 = some (.iload_n 3, 1, 380, 0, 0, 0, 0) := ftq_ok (by decide +kernel)
theorem d137_380 : ft 137 380 = some (.iconst 1, 1, 381, 0, 0, 0, 0) := ftq_ok (by decide +kernel)
theorem d137_381 : ft 137 381 = some (.iadd, 1, 382, 0, 0, 0, 0) := ftq_ok (by decide +kernel)
theorem d137_382 : ft 137 382 = some (.iaload, 1, 383, 0, 0, 0, 0) := ftq_ok (by decide +kernel)
theorem d137_383 : ft 137 383 = some (.invokevirtual 60, 3, 386, 61, 1, 0, 431) := ftq_ok (by decide +kernel)
theorem d137_386 : ft 137 386 = some (.aload_n 2, 1, 387, 0, 0, 0, 0) := ftq_ok (by decide +kernel)
theorem d137_387 : ft 137 387 = some (.aload_n 0, 1, 388, 0, 0, 0, 0) := ftq_ok (by decide +kernel)
theorem d137_388 : ft 137 388 = some (.iload_n 3, 1, 389, 0, 0, 0, 0) := ftq_ok (by decide +kernel)
theorem d137_389 : ft 137 389 = some (.iconst 1, 1, 390, 0, 0, 0, 0) := ftq_ok (by decide +kernel)
theorem d137_390 : ft 137 390 = some (.iadd, 1, 391, 0, 0, 0, 0) := ftq_ok (by decide +kernel)
theorem d137_391 : ft 137 391 = some (.iaload, 1, 392, 0, 0, 0, 0) := ftq_ok (by decide +kernel)
theorem d137_392 : ft 137 392 = some (.invokevirtual 63, 3, 395, 109, 1, 0, 859) := ftq_ok (by decide +kernel)
theorem d137_395 : ft 137 395 = some (.if_icmp .eq 262, 3, 398, 657, 0, 0, 0) := ftq_ok (by decide +kernel)
theorem d137_398 : ft 137 398 = some (.iconst 0, 1, 399, 0, 0, 0, 0) := ftq_ok (by decide +kernel)
theorem d137_399 : ft 137 399 = some (.ireturn, 1, 400, 0, 0, 0, 0) := ftq_ok (by decide +kernel)
theorem d137_400 : ft 137 400 = some (.aload_n 1, 1, 401, 0, 0, 0, 0) := ftq_ok (by decide +kernel)
theorem d137_401 : ft 137 401 = some (.invokevirtual 64, 3, 404, 62, 0, 0, 446) := ftq_ok (by decide +kernel)
theorem d137_404 : ft 137 404 = some (.aload_n 2, 1, 405, 0, 0, 0, 0) := ftq_ok (by decide +kernel)
theorem d137_405 : ft 137 405 = some (.invokevirtual 67, 3, 408, 110, 0, 0, 868) := ftq_ok (by decide +kernel)
theorem d137_408 : ft 137 408 = some (.if_icmp .eq 249, 3, 411, 657, 0, 0, 0) := ftq_ok (by decide +kernel)
theorem d137_411 : ft 137 411 = some (.iconst 0, 1, 412, 0, 0, 0, 0) := ftq_ok (by decide +kernel)
theorem d137_412 : ft 137 412 = some (.ireturn, 1, 413, 0, 0, 0, 0) := ftq_ok (by decide +kernel)
theorem d137_413 : ft 137 413 = some (.aload_n 1, 1, 414, 0, 0, 0, 0) := ftq_ok (by decide +kernel)
theorem d137_414 : ft 137 414 = some (.aload_n 0, 1, 415, 0, 0, 0, 0) := ftq_ok (by decide +kernel)
theorem d137_415 : ft 137 415 = some (.iload_n 3, 1, 416, 0, 0, 0, 0) := ftq_ok (by decide +kernel)
theorem d137_416 : ft 137 416 = some (.iconst 1, 1, 417, 0, 0, 0, 0) := ftq_ok (by decide +kernel)
theorem d137_417 : ft 137 417 = some (.iadd, 1, 418, 0, 0, 0, 0) := ftq_ok (by decide +kernel)
theorem d137_418 : ft 137 418 = some (.iaload, 1, 419, 0, 0, 0, 0) := ftq_ok (by decide +kernel)
theorem d137_419 : ft 137 419 = some (.invokevirtual 68, 3, 422, 63, 1, 0, 450) := ftq_ok (by decide +kernel)
theorem d137_422 : ft 137 422 = some (.aload_n 2, 1, 423, 0, 0, 0, 0) := ftq_ok (by decide +kernel)
theorem d137_423 : ft 137 423 = some (.aload_n 0, 1, 424, 0, 0, 0, 0) := ftq_ok (by decide +kernel)
theorem d137_424 : ft 137 424 = some (.iload_n 3, 1, 425, 0, 0, 0, 0) := ftq_ok (by decide +kernel)
theorem d137_425 : ft 137 425 = some (.iconst 1, 1, 426, 0, 0, 0, 0) := ftq_ok (by decide +kernel)
theorem d137_426 : ft 137 426 = some (.iadd, 1, 427, 0, 0, 0, 0) := ftq_ok (by decide +kernel)
theorem d137_427 : ft 137 427 = some (.iaload, 1, 428, 0, 0, 0, 0) := ftq_ok (by decide +kernel)
theorem d137_428 : ft 137 428 = some (.invokevirtual 71, 3, 431, 116, 1, 0, 872) := ftq_ok (by decide +kernel)
theorem d137_431 : ft 137 431 = some (.if_icmp .eq 226, 3, 434, 657, 0, 0, 0) := ftq_ok (by decide +kernel)
theorem d137_434 : ft 137 434 = some (.iconst 0, 1, 435, 0, 0, 0, 0) := ftq_ok (by decide +kernel)
theorem d137_435 : ft 137 435 = some (.ireturn, 1, 436, 0, 0, 0, 0) := ftq_ok (by decide +kernel)
theorem d137_436 : ft 137 436 = some (.aload_n 1, 1, 437, 0, 0, 0, 0) := ftq_ok (by decide +kernel)
theorem d137_437 : ft 137 437 = some (.aload_n 0, 1, 438, 0, 0, 0, 0) := ftq_ok (by decide +kernel)
theorem d137_438 : ft 137 438 = some (.iload_n 3, 1, 439, 0, 0, 0, 0) := ftq_ok (by decide +kernel)
theorem d137_439 : ft 137 439 = some (.iconst 1, 1, 440, 0, 0, 0, 0) := ftq_ok (by decide +kernel)
theorem d137_440 : ft 137 440 = some (.iadd, 1, 441, 0, 0, 0, 0) := ftq_ok (by decide +kernel)
theorem d137_441 : ft 137 441 = some (.iaload, 1, 442, 0, 0, 0, 0) := ftq_ok (by decide +kernel)
theorem d137_442 : ft 137 442 = some (.invokevirtual 72, 3, 445, 64, 1, 0, 504) := ftq_ok (by decide +kernel)
theorem d137_445 : ft 137 445 = some (.aload_n 2, 1, 446, 0, 0, 0, 0) := ftq_ok (by decide +kernel)
theorem d137_446 : ft 137 446 = some (.aload_n 0, 1, 447, 0, 0, 0, 0) := ftq_ok (by decide +kernel)
theorem d137_447 : ft 137 447 = some (.iload_n 3, 1, 448, 0, 0, 0, 0) := ftq_ok (by decide +kernel)
theorem d137_448 : ft 137 448 = some (.iconst 1, 1, 449, 0, 0, 0, 0) := ftq_ok (by decide +kernel)
theorem d137_449 : ft 137 449 = some (.iadd, 1, 450, 0, 0, 0, 0) := ftq_ok (by decide +kernel)
theorem d137_450 : ft 137 450 = some (.iaload, 1, 451, 0, 0, 0, 0) := ftq_ok (by decide +kernel)
theorem d137_451 : ft 137 451 = some (.invokevirtual 75, 3, 454, 118, 1, 0, 902) := ftq_ok (by decide +kernel)
theorem d137_454 : ft 137 454 = some (.if_icmp .eq 203, 3, 457, 657, 0, 0, 0) := ftq_ok (by decide +kernel)
theorem d137_457 : ft 137 457 = some (.iconst 0, 1, 458, 0, 0, 0, 0) := ftq_ok (by decide +kernel)
theorem d137_458 : ft 137 458 = some (.ireturn, 1, 459, 0, 0, 0, 0) := ftq_ok (by decide +kernel)
theorem d137_459 : ft 137 459 = some (.aload_n 1, 1, 460, 0, 0, 0, 0) := ftq_ok (by decide +kernel)
theorem d137_460 : ft 137 460 = some (.aload_n 0, 1, 461, 0, 0, 0, 0) := ftq_ok (by decide +kernel)
theorem d137_461 : ft 137 461 = some (.iload_n 3, 1, 462, 0, 0, 0, 0) := ftq_ok (by decide +kernel)
theorem d137_462 : ft 137 462 = some (.iconst 1, 1, 463, 0, 0, 0, 0) := ftq_ok (by decide +kernel)
theorem d137_463 : ft 137 463 = some (.iadd, 1, 464, 0, 0, 0, 0) := ftq_ok (by decide +kernel)
theorem d137_464 : ft 137 464 = some (.iaload, 1, 465, 0, 0, 0, 0) := ftq_ok (by decide +kernel)
theorem d137_465 : ft 137 465 = some (.invokevirtual 76, 3, 468, 65, 1, 0, 509) := ftq_ok (by decide +kernel)
theorem d137_468 : ft 137 468 = some (.aload_n 2, 1, 469, 0, 0, 0, 0) := ftq_ok (by decide +kernel)
theorem d137_469 : ft 137 469 = some (.aload_n 0, 1, 470, 0, 0, 0, 0) := ftq_ok (by decide +kernel)
theorem d137_470 : ft 137 470 = some (.iload_n 3, 1, 471, 0, 0, 0, 0) := ftq_ok (by decide +kernel)
theorem d137_471 : ft 137 471 = some (.iconst 1, 1, 472, 0, 0, 0, 0) := ftq_ok (by decide +kernel)
theorem d137_472 : ft 137 472 = some (.iadd, 1, 473, 0, 0, 0, 0) := ftq_ok (by decide +kernel)
theorem d137_473 : ft 137 473 = some (.iaload, 1, 474, 0, 0, 0, 0) := ftq_ok (by decide +kernel)
theorem d137_474 : ft 137 474 = some (.invokevirtual 79, 3, 477, 122, 1, 0, 911) := ftq_ok (by decide +kernel)
theorem d137_477 : ft 137 477 = some (.if_icmp .eq 180, 3, 480, 657, 0, 0, 0) := ftq_ok (by decide +kernel)
theorem d137_480 : ft 137 480 = some (.iconst 0, 1, 481, 0, 0, 0, 0) := ftq_ok (by decide +kernel)
theorem d137_481 : ft 137 481 = some (.ireturn, 1, 482, 0, 0, 0, 0) := ftq_ok (by decide +kernel)
theorem d137_482 : ft 137 482 = some (.aload_n 1, 1, 483, 0, 0, 0, 0) := ftq_ok (by decide +kernel)
theorem d137_483 : ft 137 483 = some (.aload_n 0, 1, 484, 0, 0, 0, 0) := ftq_ok (by decide +kernel)
theorem d137_484 : ft 137 484 = some (.iload_n 3, 1, 485, 0, 0, 0, 0) := ftq_ok (by decide +kernel)
theorem d137_485 : ft 137 485 = some (.iconst 1, 1, 486, 0, 0, 0, 0) := ftq_ok (by decide +kernel)
theorem d137_486 : ft 137 486 = some (.iadd, 1, 487, 0, 0, 0, 0) := ftq_ok (by decide +kernel)
theorem d137_487 : ft 137 487 = some (.iaload, 1, 488, 0, 0, 0, 0) := ftq_ok (by decide +kernel)
theorem d137_488 : ft 137 488 = some (.aload_n 0, 1, 489, 0, 0, 0, 0) := ftq_ok (by decide +kernel)
theorem d137_489 : ft 137 489 = some (.iload_n 3, 1, 490, 0, 0, 0, 0) := ftq_ok (by decide +kernel)
theorem d137_490 : ft 137 490 = some (.iconst 2, 1, 491, 0, 0, 0, 0) := ftq_ok (by decide +kernel)
theorem d137_491 : ft 137 491 = some (.iadd, 1, 492, 0, 0, 0, 0) := ftq_ok (by decide +kernel)
theorem d137_492 : ft 137 492 = some (.iaload, 1, 493, 0, 0, 0, 0) := ftq_ok (by decide +kernel)
theorem d137_493 : ft 137 493 = some (.invokevirtual 80, 3, 496, 66, 2, 0, 537) := ftq_ok (by decide +kernel)
theorem d137_496 : ft 137 496 = some (.aload_n 2, 1, 497, 0, 0, 0, 0) := ftq_ok (by decide +kernel)
theorem d137_497 : ft 137 497 = some (.aload_n 0, 1, 498, 0, 0, 0, 0) := ftq_ok (by decide +kernel)
theorem d137_498 : ft 137 498 = some (.iload_n 3, 1, 499, 0, 0, 0, 0) := ftq_ok (by decide +kernel)
theorem d137_499 : ft 137 499 = some (.iconst 1, 1, 500, 0, 0, 0, 0) := ftq_ok (by decide +kernel)
theorem d137_500 : ft 137 500 = some (.iadd, 1, 501, 0, 0, 0, 0) := ftq_ok (by decide +kernel)
theorem d137_501 : ft 137 501 = some (.iaload, 1, 502, 0, 0, 0, 0) := ftq_ok (by decide +kernel)
theorem d137_502 : ft 137 502 = some (.aload_n 0, 1, 503, 0, 0, 0, 0) := ftq_ok (by decide +kernel)
theorem d137_503 : ft 137 503 = some (.iload_n 3, 1, 504, 0, 0, 0, 0) := ftq_ok (by decide +kernel)
theorem d137_504 : ft 137 504 = some (.iconst 2, 1, 505, 0, 0, 0, 0) := ftq_ok (by decide +kernel)
theorem d137_505 : ft 137 505 = some (.iadd, 1, 506, 0, 0, 0, 0) := ftq_ok (by decide +kernel)
theorem d137_506 : ft 137 506 = some (.iaload, 1, 507, 0, 0, 0, 0) := ftq_ok (by decide +kernel)
theorem d137_507 : ft 137 507 = some (.invokevirtual 83, 3, 510, 123, 2, 0, 931) := ftq_ok (by decide +kernel)
theorem d137_510 : ft 137 510 = some (.if_icmp .eq 147, 3, 513, 657, 0, 0, 0) := ftq_ok (by decide +kernel)
theorem d137_513 : ft 137 513 = some (.iconst 0, 1, 514, 0, 0, 0, 0) := ftq_ok (by decide +kernel)
theorem d137_514 : ft 137 514 = some (.ireturn, 1, 515, 0, 0, 0, 0) := ftq_ok (by decide +kernel)
theorem d137_515 : ft 137 515 = some (.aload_n 1, 1, 516, 0, 0, 0, 0) := ftq_ok (by decide +kernel)
theorem d137_516 : ft 137 516 = some (.invokevirtual 84, 3, 519, 67, 0, 0, 541) := ftq_ok (by decide +kernel)
theorem d137_519 : ft 137 519 = some (.aload_n 2, 1, 520, 0, 0, 0, 0) := ftq_ok (by decide +kernel)
theorem d137_520 : ft 137 520 = some (.invokevirtual 87, 3, 523, 126, 0, 0, 936) := ftq_ok (by decide +kernel)
theorem d137_523 : ft 137 523 = some (.if_icmp .eq 134, 3, 526, 657, 0, 0, 0) := ftq_ok (by decide +kernel)
theorem d137_526 : ft 137 526 = some (.iconst 0, 1, 527, 0, 0, 0, 0) := ftq_ok (by decide +kernel)
theorem d137_527 : ft 137 527 = some (.ireturn, 1, 528, 0, 0, 0, 0) := ftq_ok (by decide +kernel)
theorem d137_528 : ft 137 528 = some (.aload_n 1, 1, 529, 0, 0, 0, 0) := ftq_ok (by decide +kernel)
theorem d137_529 : ft 137 529 = some (.aload_n 0, 1, 530, 0, 0, 0, 0) := ftq_ok (by decide +kernel)
theorem d137_530 : ft 137 530 = some (.iload_n 3, 1, 531, 0, 0, 0, 0) := ftq_ok (by decide +kernel)
theorem d137_531 : ft 137 531 = some (.iconst 1, 1, 532, 0, 0, 0, 0) := ftq_ok (by decide +kernel)
theorem d137_532 : ft 137 532 = some (.iadd, 1, 533, 0, 0, 0, 0) := ftq_ok (by decide +kernel)
theorem d137_533 : ft 137 533 = some (.iaload, 1, 534, 0, 0, 0, 0) := ftq_ok (by decide +kernel)
theorem d137_534 : ft 137 534 = some (.invokevirtual 88, 3, 537, 68, 1, 0, 567) := ftq_ok (by decide +kernel)
theorem d137_537 : ft 137 537 = some (.aload_n 2, 1, 538, 0, 0, 0, 0) := ftq_ok (by decide +kernel)
theorem d137_538 : ft 137 538 = some (.aload_n 0, 1, 539, 0, 0, 0, 0) := ftq_ok (by decide +kernel)
theorem d137_539 : ft 137 539 = some (.iload_n 3, 1, 540, 0, 0, 0, 0) := ftq_ok (by decide +kernel)
theorem d137_540 : ft 137 540 = some (.iconst 1, 1, 541, 0, 0, 0, 0) := ftq_ok (by decide +kernel)
theorem d137_541 : ft 137 541 = some (.iadd, 1, 542, 0, 0, 0, 0) := ftq_ok (by decide +kernel)
theorem d137_542 : ft 137 542 = some (.iaload, 1, 543, 0, 0, 0, 0) := ftq_ok (by decide +kernel)
theorem d137_543 : ft 137 543 = some (.invokevirtual 91, 3, 546, 127, 1, 0, 948) := ftq_ok (by decide +kernel)
theorem d137_546 : ft 137 546 = some (.if_icmp .eq 111, 3, 549, 657, 0, 0, 0) := ftq_ok (by decide +kernel)
theorem d137_549 : ft 137 549 = some (.iconst 0, 1, 550, 0, 0, 0, 0) := ftq_ok (by decide +kernel)
theorem d137_550 : ft 137 550 = some (.ireturn, 1, 551, 0, 0, 0, 0) := ftq_ok (by decide +kernel)
theorem d137_551 : ft 137 551 = some (.aload_n 1, 1, 552, 0, 0, 0, 0) := ftq_ok (by decide +kernel)
theorem d137_552 : ft 137 552 = some (.aload_n 0, 1, 553, 0, 0, 0, 0) := ftq_ok (by decide +kernel)
theorem d137_553 : ft 137 553 = some (.iload_n 3, 1, 554, 0, 0, 0, 0) := ftq_ok (by decide +kernel)
theorem d137_554 : ft 137 554 = some (.iconst 1, 1, 555, 0, 0, 0, 0) := ftq_ok (by decide +kernel)
theorem d137_555 : ft 137 555 = some (.iadd, 1, 556, 0, 0, 0, 0) := ftq_ok (by decide +kernel)
theorem d137_556 : ft 137 556 = some (.iaload, 1, 557, 0, 0, 0, 0) := ftq_ok (by decide +kernel)
theorem d137_557 : ft 137 557 = some (.aload_n 0, 1, 558, 0, 0, 0, 0) := ftq_ok (by decide +kernel)
theorem d137_558 : ft 137 558 = some (.iload_n 3, 1, 559, 0, 0, 0, 0) := ftq_ok (by decide +kernel)
theorem d137_559 : ft 137 559 = some (.iconst 2, 1, 560, 0, 0, 0, 0) := ftq_ok (by decide +kernel)
theorem d137_560 : ft 137 560 = some (.iadd, 1, 561, 0, 0, 0, 0) := ftq_ok (by decide +kernel)
theorem d137_561 : ft 137 561 = some (.iaload, 1, 562, 0, 0, 0, 0) := ftq_ok (by decide +kernel)
theorem d137_562 : ft 137 562 = some (.aload_n 0, 1, 563, 0, 0, 0, 0) := ftq_ok (by decide +kernel)
theorem d137_563 : ft 137 563 = some (.iload_n 3, 1, 564, 0, 0, 0, 0) := ftq_ok (by decide +kernel)
theorem d137_564 : ft 137 564 = some (.iconst 3, 1, 565, 0, 0, 0, 0) := ftq_ok (by decide +kernel)
theorem d137_565 : ft 137 565 = some (.iadd, 1, 566, 0, 0, 0, 0) := ftq_ok (by decide +kernel)
theorem d137_566 : ft 137 566 = some (.iaload, 1, 567, 0, 0, 0, 0) := ftq_ok (by decide +kernel)
theorem d137_567 : ft 137 567 = some (.invokevirtual 92, 3, 570, 69, 3, 0, 571) := ftq_ok (by decide +kernel)
theorem d137_570 : ft 137 570 = some (.aload_n 2, 1, 571, 0, 0, 0, 0) := ftq_ok (by decide +kernel)
theorem d137_571 : ft 137 571 = some (.aload_n 0, 1, 572, 0, 0, 0, 0) := ftq_ok (by decide +kernel)
theorem d137_572 : ft 137 572 = some (.iload_n 3, 1, 573, 0, 0, 0, 0) := ftq_ok (by decide +kernel)
theorem d137_573 : ft 137 573 = some (.iconst 1, 1, 574, 0, 0, 0, 0) := ftq_ok (by decide +kernel)
theorem d137_574 : ft 137 574 = some (.iadd, 1, 575, 0, 0, 0, 0) := ftq_ok (by decide +kernel)
theorem d137_575 : ft 137 575 = some (.iaload, 1, 576, 0, 0, 0, 0) := ftq_ok (by decide +kernel)
theorem d137_576 : ft 137 576 = some (.aload_n 0, 1, 577, 0, 0, 0, 0) := ftq_ok (by decide +kernel)
theorem d137_577 : ft 137 577 = some (.iload_n 3, 1, 578, 0, 0, 0, 0) := ftq_ok (by decide +kernel)
theorem d137_578 : ft 137 578 = some (.iconst 2, 1, 579, 0, 0, 0, 0) := ftq_ok (by decide +kernel)
theorem d137_579 : ft 137 579 = some (.iadd, 1, 580, 0, 0, 0, 0) := ftq_ok (by decide +kernel)
theorem d137_580 : ft 137 580 = some (.iaload, 1, 581, 0, 0, 0, 0) := ftq_ok (by decide +kernel)
theorem d137_581 : ft 137 581 = some (.aload_n 0, 1, 582, 0, 0, 0, 0) := ftq_ok (by decide +kernel)
theorem d137_582 : ft 137 582 = some (.iload_n 3, 1, 583, 0, 0, 0, 0) := ftq_ok (by decide +kernel)
theorem d137_583 : ft 137 583 = some (.iconst 3, 1, 584, 0, 0, 0, 0) := ftq_ok (by decide +kernel)
theorem d137_584 : ft 137 584 = some (.iadd, 1, 585, 0, 0, 0, 0) := ftq_ok (by decide +kernel)
theorem d137_585 : ft 137 585 = some (.iaload, 1, 586, 0, 0, 0, 0) := ftq_ok (by decide +kernel)
theorem d137_586 : ft 137 586 = some (.invokevirtual 96, 3, 589, 130, 3, 0, 952) := ftq_ok (by decide +kernel)
theorem d137_589 : ft 137 589 = some (.if_icmp .eq 68, 3, 592, 657, 0, 0, 0) := ftq_ok (by decide +kernel)
theorem d137_592 : ft 137 592 = some (.iconst 0, 1, 593, 0, 0, 0, 0) := ftq_ok (by decide +kernel)
theorem d137_593 : ft 137 593 = some (.ireturn, 1, 594, 0, 0, 0, 0) := ftq_ok (by decide +kernel)
theorem d137_594 : ft 137 594 = some (.aload_n 1, 1, 595, 0, 0, 0, 0) := ftq_ok (by decide +kernel)
theorem d137_595 : ft 137 595 = some (.invokevirtual 97, 3, 598, 70, 0, 0, 590) := ftq_ok (by decide +kernel)
theorem d137_598 : ft 137 598 = some (.aload_n 2, 1, 599, 0, 0, 0, 0) := ftq_ok (by decide +kernel)
theorem d137_599 : ft 137 599 = some (.invokevirtual 100, 3, 602, 131, 0, 0, 966) := ftq_ok (by decide +kernel)
theorem d137_602 : ft 137 602 = some (.if_icmp .eq 55, 3, 605, 657, 0, 0, 0) := ftq_ok (by decide +kernel)
theorem d137_605 : ft 137 605 = some (.iconst 0, 1, 606, 0, 0, 0, 0) := ftq_ok (by decide +kernel)
theorem d137_606 : ft 137 606 = some (.ireturn, 1, 607, 0, 0, 0, 0) := ftq_ok (by decide +kernel)
theorem d137_607 : ft 137 607 = some (.aload_n 1, 1, 608, 0, 0, 0, 0) := ftq_ok (by decide +kernel)
theorem d137_608 : ft 137 608 = some (.invokevirtual 101, 3, 611, 71, 0, 0, 594) := ftq_ok (by decide +kernel)
theorem d137_611 : ft 137 611 = some (.aload_n 2, 1, 612, 0, 0, 0, 0) := ftq_ok (by decide +kernel)
theorem d137_612 : ft 137 612 = some (.invokevirtual 104, 3, 615, 132, 0, 0, 970) := ftq_ok (by decide +kernel)
theorem d137_615 : ft 137 615 = some (.if_icmp .eq 42, 3, 618, 657, 0, 0, 0) := ftq_ok (by decide +kernel)
theorem d137_618 : ft 137 618 = some (.iconst 0, 1, 619, 0, 0, 0, 0) := ftq_ok (by decide +kernel)
theorem d137_619 : ft 137 619 = some (.ireturn, 1, 620, 0, 0, 0, 0) := ftq_ok (by decide +kernel)
theorem d137_620 : ft 137 620 = some (.aload_n 1, 1, 621, 0, 0, 0, 0) := ftq_ok (by decide +kernel)
theorem d137_621 : ft 137 621 = some (.aload_n 0, 1, 622, 0, 0, 0, 0) := ftq_ok (by decide +kernel)
theorem d137_622 : ft 137 622 = some (.iload_n 3, 1, 623, 0, 0, 0, 0) := ftq_ok (by decide +kernel)
theorem d137_623 : ft 137 623 = some (.iconst 1, 1, 624, 0, 0, 0, 0) := ftq_ok (by decide +kernel)
theorem d137_624 : ft 137 624 = some (.iadd, 1, 625, 0, 0, 0, 0) := ftq_ok (by decide +kernel)
theorem d137_625 : ft 137 625 = some (.iaload, 1, 626, 0, 0, 0, 0) := ftq_ok (by decide +kernel)
theorem d137_626 : ft 137 626 = some (.invokevirtual 105, 3, 629, 72, 1, 0, 598) := ftq_ok (by decide +kernel)
theorem d137_629 : ft 137 629 = some (.aload_n 2, 1, 630, 0, 0, 0, 0) := ftq_ok (by decide +kernel)
theorem d137_630 : ft 137 630 = some (.aload_n 0, 1, 631, 0, 0, 0, 0) := ftq_ok (by decide +kernel)
theorem d137_631 : ft 137 631 = some (.iload_n 3, 1, 632, 0, 0, 0, 0) := ftq_ok (by decide +kernel)
theorem d137_632 : ft 137 632 = some (.iconst 1, 1, 633, 0, 0, 0, 0) := ftq_ok (by decide +kernel)
theorem d137_633 : ft 137 633 = some (.iadd, 1, 634, 0, 0, 0, 0) := ftq_ok (by decide +kernel)
theorem d137_634 : ft 137 634 = some (.iaload, 1, 635, 0, 0, 0, 0) := ftq_ok (by decide +kernel)
theorem d137_635 : ft 137 635 = some (.invokevirtual 108, 3, 638, 134, 1, 0, 974) := ftq_ok (by decide +kernel)
theorem d137_638 : ft 137 638 = some (.if_icmp .eq 19, 3, 641, 657, 0, 0, 0) := ftq_ok (by decide +kernel)
theorem d137_641 : ft 137 641 = some (.iconst 0, 1, 642, 0, 0, 0, 0) := ftq_ok (by decide +kernel)
theorem d137_642 : ft 137 642 = some (.ireturn, 1, 643, 0, 0, 0, 0) := ftq_ok (by decide +kernel)
theorem d137_643 : ft 137 643 = some (.aload_n 1, 1, 644, 0, 0, 0, 0) := ftq_ok (by decide +kernel)
theorem d137_644 : ft 137 644 = some (.invokevirtual 109, 3, 647, 73, 0, 0, 606) := ftq_ok (by decide +kernel)
theorem d137_647 : ft 137 647 = some (.aload_n 2, 1, 648, 0, 0, 0, 0) := ftq_ok (by decide +kernel)
theorem d137_648 : ft 137 648 = some (.invokevirtual 113, 3, 651, 136, 0, 0, 982) := ftq_ok (by decide +kernel)
theorem d137_651 : ft 137 651 = some (.lcmp, 1, 652, 0, 0, 0, 0) := ftq_ok (by decide +kernel)
theorem d137_652 : ft 137 652 = some (.ifCond .eq 5, 3, 655, 657, 0, 0, 0) := ftq_ok (by decide +kernel)
theorem d137_655 : ft 137 655 = some (.iconst 0, 1, 656, 0, 0, 0, 0) := ftq_ok (by decide +kernel)
theorem d137_656 : ft 137 656 = some (.ireturn, 1, 657, 0, 0, 0, 0) := ftq_ok (by decide +kernel)
theorem d137_657 : ft 137 657 = some (.iinc 3 4, 3, 660, 0, 0, 0, 0) := ftq_ok (by decide +kernel)
theorem d137_660 : ft 137 660 = some (.goto (-642), 3, 663, 18, 0, 0, 0) := ftq_ok (by decide +kernel)
theorem d137_663 : ft 137 663 = some (.iconst 1, 1, 664, 0, 0, 0, 0) := ftq_ok (by decide +kernel)
theorem d137_664 : ft 137 664 = some (.ireturn, 1, 665, 0, 0, 0, 0) := ftq_ok (by decide +kernel)
end
section

/-! a component of the store: the object at o holds fs, the arrays from q on hold as -/
def put (σ : Sto) (o q : Nat) (fs : List Value) (as : List (List Int32)) : Sto := (σ.1, fun i => if i = o then fs else σ.2.1 i, fun i => if q ≤ i ∧ i < q + as.length then as.getD (i - q) [] else σ.2.2 i)
theorem put_F {σ : Sto} {o q : Nat} {fs : List Value} {as : List (List Int32)} : (put σ o q fs as).2.1 o = fs := by simp [put]
theorem put_F_ne {σ : Sto} {o q i : Nat} {fs : List Value} {as : List (List Int32)} (h : i ≠ o) : (put σ o q fs as).2.1 i = σ.2.1 i := by simp [put, h]
theorem put_A {σ : Sto} {o q k : Nat} {fs : List Value} {as : List (List Int32)} {l : List Int32} (h : as[k]? = some l) : (put σ o q fs as).2.2 (q + k) = l := by
  have hk := (List.getElem?_eq_some_iff.mp h).1
  simp only [put]
  rw [if_pos ⟨by omega, by omega⟩, show q + k - q = k by omega, List.getD_eq_getElem?_getD, h]
  rfl
theorem put_A_ne {σ : Sto} {o q i : Nat} {fs : List Value} {as : List (List Int32)} (h : i < q ∨ q + as.length ≤ i) : (put σ o q fs as).2.2 i = σ.2.2 i := by
  simp only [put]
  rw [if_neg (by omega)]
theorem setF_put {σ : Sto} {o q k : Nat} {fs : List Value} {as : List (List Int32)} {v : Value} : setF (put σ o q fs as) o k v = put σ o q (fs.set k v) as := by
  unfold setF put
  refine congrArg (Prod.mk σ.1) (congrArg (fun z => Prod.mk z _) ?_)
  funext i
  by_cases h : i = o <;> simp [h]
theorem setA_put {σ : Sto} {o q k : Nat} {fs : List Value} {as : List (List Int32)} {l : List Int32} (hk : k < as.length) : setA (put σ o q fs as) (q + k) l = put σ o q fs (as.set k l) := by
  unfold setA put
  refine congrArg (Prod.mk σ.1) (congrArg (Prod.mk _) ?_)
  funext i
  by_cases h : i = q + k
  · subst h
    simp [hk]
  · simp only [h, if_false, List.length_set]
    by_cases h2 : q ≤ i ∧ i < q + as.length
    · rw [if_pos h2, if_pos h2, List.getD_eq_getElem?_getD, List.getD_eq_getElem?_getD, List.getElem?_set_ne (by omega)]
    · rw [if_neg h2, if_neg h2]
theorem put_put {σ : Sto} {o q : Nat} {fs fs' : List Value} {as as' : List (List Int32)} (h : as.length = as'.length) : put (put σ o q fs as) o q fs' as' = put σ o q fs' as' := by
  unfold put
  refine congrArg (Prod.mk σ.1) ?_
  refine Prod.ext ?_ ?_
  · funext i
    by_cases hi : i = o <;> simp [hi]
  · funext i
    by_cases hi : q ≤ i ∧ i < q + as.length
    · simp [hi, h ▸ hi]
    · simp [hi, h ▸ hi]
theorem put_self {σ : Sto} {o q : Nat} {fs : List Value} {as : List (List Int32)} (hF : σ.2.1 o = fs) (hA : ∀ k l, as[k]? = some l → σ.2.2 (q + k) = l) : put σ o q fs as = σ := by
  unfold put
  refine Prod.ext rfl (Prod.ext ?_ ?_)
  · funext i
    by_cases hi : i = o
    · subst hi; simp [hF]
    · simp [hi]
  · funext i
    by_cases hi : q ≤ i ∧ i < q + as.length
    · have h1 : i - q < as.length := by omega
      have := hA (i - q) (as[i - q]) (List.getElem?_eq_getElem h1)
      rw [show q + (i - q) = i by omega] at this
      simp only [hi, and_self, if_true, List.getD_eq_getElem?_getD, List.getElem?_eq_getElem h1]
      rw [this]
      rfl
    · simp only [hi, if_false]
def up {α : Type} (f : Nat → α) (k : Nat) (v : α) : Nat → α := fun j => if j = k then v else f j
theorem up_s {α : Type} (f : Nat → α) (k : Nat) (v : α) : up f k v k = v := by simp [up]
theorem up_n {α : Type} (f : Nat → α) {k j : Nat} (v : α) (h : j ≠ k) : up f k v j = f j := by simp [up, h]
/-- an array of n ints -/
def arrI (n : Nat) (f : Nat → Int32) : List Int32 := (List.range n).map f
abbrev arr (n : Nat) (g : Nat → Nat) : List Int32 := arrI n (fun j => nI (g j))
/-- NONE or a number -/
def eo (x : Option Nat) : Int32 := match x with
  | none => -1
  | some k => nI k
abbrev arO (n : Nat) (g : Nat → Option Nat) : List Int32 := arrI n (fun j => eo (g j))
theorem arrI_len (n : Nat) (f : Nat → Int32) : (arrI n f).length = n := by simp [arrI]
theorem arrI_get {n : Nat} {f : Nat → Int32} {j : Nat} (h : j < n) : (arrI n f).getD j 0 = f j := by simp [arrI, List.getD, h]
theorem arrI_ext {n : Nat} {f g : Nat → Int32} (h : ∀ j, j < n → f j = g j) : arrI n f = arrI n g := List.map_congr_left fun j hj => h j (List.mem_range.mp hj)
theorem arrI_set {n : Nat} {f : Nat → Int32} {j : Nat} {x : Int32} : (arrI n f).set j x = arrI n (up f j x) := by
  apply List.ext_getElem?
  intro i
  rw [List.getElem?_set]
  by_cases h : j = i
  · subst h
    by_cases hj : j < n
    · simp [arrI, hj, up]
    · simp [arrI, hj]
  · rw [if_neg h]
    by_cases hi : i < n
    · simp [arrI, hi, up, Ne.symm h]
    · simp [arrI, hi]
theorem up_nI (g : Nat → Nat) (j x : Nat) : up (fun i => nI (g i)) j (nI x) = fun i => nI (up g j x i) := by
  funext i
  by_cases h : i = j <;> simp [up, h]
theorem up_eo (g : Nat → Option Nat) (j : Nat) (x : Option Nat) : up (fun i => eo (g i)) j (eo x) = fun i => eo (up g j x i) := by
  funext i
  by_cases h : i = j <;> simp [up, h]
theorem arrN_set {n : Nat} {g : Nat → Nat} {j x : Nat} : (arr n g).set j (nI x) = arr n (up g j x) := by rw [arrI_set, up_nI]
theorem arO_set {n : Nat} {g : Nat → Option Nat} {j : Nat} {x : Option Nat} : (arO n g).set j (eo x) = arO n (up g j x) := by rw [arrI_set, up_eo]
theorem arr_ext {n : Nat} {f g : Nat → Nat} (h : ∀ j, j < n → f j = g j) : arr n f = arr n g := arrI_ext fun j hj => by rw [h j hj]
theorem arO_ext {n : Nat} {f g : Nat → Option Nat} (h : ∀ j, j < n → f j = g j) : arO n f = arO n g := arrI_ext fun j hj => by rw [h j hj]
/-! rules over a component -/

theorem wp_getP {d mc ms m pc nx idx cc k tg o q : Nat} {ps : Int} {L S fs : List Value} {as : List (List Int32)} {σ σ' : Sto} {r : Option Value} {v : Value} (hd : ft m pc = some (.getfield idx, 3, nx, cc, k, tg, ps)) (h9 : tg < 4) (hK : σ.1[o]? = some cc) (hv : fs[k]? = some v) (kk : WP d mc ms m nx L (v :: S) (put σ o q fs as) r σ') : WP d mc ms m pc L (.ref o :: S) (put σ o q fs as) r σ' := wp_get hd h9 hK put_F hv kk
theorem wp_putIP {d mc ms m pc nx idx cc k o q : Nat} {ps : Int} {L S fs : List Value} {as : List (List Int32)} {σ σ' : Sto} {r : Option Value} {x : Int32} (hd : ft m pc = some (.putfield idx, 3, nx, cc, k, 0, ps)) (hK : σ.1[o]? = some cc) (kk : WP d mc ms m nx L S (put σ o q (fs.set k (.int x)) as) r σ') : WP d mc ms m pc L (.int x :: .ref o :: S) (put σ o q fs as) r σ' := wp_putI hd hK (by rw [setF_put]; exact kk)
theorem wp_putZP {d mc ms m pc nx idx cc k o q : Nat} {ps : Int} {L S fs : List Value} {as : List (List Int32)} {σ σ' : Sto} {r : Option Value} {x : Int32} (hd : ft m pc = some (.putfield idx, 3, nx, cc, k, 1, ps)) (hK : σ.1[o]? = some cc) (h01 : x = 0 ∨ x = 1) (kk : WP d mc ms m nx L S (put σ o q (fs.set k (.int x)) as) r σ') : WP d mc ms m pc L (.int x :: .ref o :: S) (put σ o q fs as) r σ' := wp_putZ hd hK h01 (by rw [setF_put]; exact kk)
theorem wp_putLP {d mc ms m pc nx idx cc k o q : Nat} {ps : Int} {L S fs : List Value} {as : List (List Int32)} {σ σ' : Sto} {r : Option Value} {x : Int64} (hd : ft m pc = some (.putfield idx, 3, nx, cc, k, 2, ps)) (hK : σ.1[o]? = some cc) (kk : WP d mc ms m nx L S (put σ o q (fs.set k (.long x)) as) r σ') : WP d mc ms m pc L (.long x :: .ref o :: S) (put σ o q fs as) r σ' := wp_putL hd hK (by rw [setF_put]; exact kk)
theorem wp_aldP {d mc ms m pc nx : Nat} {L S : List Value} {σ σ' : Sto} {r : Option Value} {X : Nat × Nat × Nat × Int} {o q k n j : Nat} {fs : List Value} {as : List (List Int32)} {f : Nat → Int32} (hd : ft m pc = some (.iaload, 1, nx, X)) (hK : σ.1[q + k]? = some 100) (hA : as[k]? = some (arrI n f)) (hj : j < n) (hn : n < 1000) (kk : WP d mc ms m nx L (.int (f j) :: S) (put σ o q fs as) r σ') : WP d mc ms m pc L (.int (nI j) :: .ref (q + k) :: S) (put σ o q fs as) r σ' := by
  have e := put_A (σ := σ) (o := o) (q := q) (fs := fs) hA
  refine wp_iald hd hK (by rw [e, arrI_len]; exact hj) (by rw [e, arrI_len]; omega) ?_
  rw [e, arrI_get hj]
  exact kk
theorem wp_zaldP {d mc ms m pc nx : Nat} {L S : List Value} {σ σ' : Sto} {r : Option Value} {X : Nat × Nat × Nat × Int} {o q k n j : Nat} {fs : List Value} {as : List (List Int32)} {f : Nat → Int32} (hd : ft m pc = some (.baload, 1, nx, X)) (hK : σ.1[q + k]? = some 101) (hA : as[k]? = some (arrI n f)) (hj : j < n) (hn : n < 1000) (kk : WP d mc ms m nx L (.int (f j) :: S) (put σ o q fs as) r σ') : WP d mc ms m pc L (.int (nI j) :: .ref (q + k) :: S) (put σ o q fs as) r σ' := by
  have e := put_A (σ := σ) (o := o) (q := q) (fs := fs) hA
  refine wp_zald hd hK (by rw [e, arrI_len]; exact hj) (by rw [e, arrI_len]; omega) ?_
  rw [e, arrI_get hj]
  exact kk
theorem wp_alenP {d mc ms m pc nx : Nat} {L S : List Value} {σ σ' : Sto} {r : Option Value} {X : Nat × Nat × Nat × Int} {o q k n : Nat} {fs : List Value} {as : List (List Int32)} {f : Nat → Int32} (hd : ft m pc = some (.arraylength, 1, nx, X)) (hK : σ.1[q + k]? = some 100) (hA : as[k]? = some (arrI n f)) (kk : WP d mc ms m nx L (.int (nI n) :: S) (put σ o q fs as) r σ') : WP d mc ms m pc L (.ref (q + k) :: S) (put σ o q fs as) r σ' := by
  have e := put_A (σ := σ) (o := o) (q := q) (fs := fs) hA
  refine wp_alen hd hK ?_
  rw [e, arrI_len]
  exact kk
theorem wp_astP {d mc ms m pc nx : Nat} {L S : List Value} {σ σ' : Sto} {r : Option Value} {X : Nat × Nat × Nat × Int} {o q k n j : Nat} {x : Int32} {fs : List Value} {as : List (List Int32)} {f : Nat → Int32} (hd : ft m pc = some (.iastore, 1, nx, X)) (hK : σ.1[q + k]? = some 100) (hA : as[k]? = some (arrI n f)) (hj : j < n) (hn : n < 1000) (kk : WP d mc ms m nx L S (put σ o q fs (as.set k (arrI n (up f j x)))) r σ') : WP d mc ms m pc L (.int x :: .int (nI j) :: .ref (q + k) :: S) (put σ o q fs as) r σ' := by
  have e := put_A (σ := σ) (o := o) (q := q) (fs := fs) hA
  refine wp_iast hd hK (by rw [e, arrI_len]; exact hj) (by rw [e, arrI_len]; omega) ?_
  rw [e, arrI_set, setA_put (List.getElem?_eq_some_iff.mp hA).1]
  exact kk
theorem wp_astN {d mc ms m pc nx : Nat} {L S : List Value} {σ σ' : Sto} {r : Option Value} {X : Nat × Nat × Nat × Int} {o q k n j x : Nat} {fs : List Value} {as : List (List Int32)} {g : Nat → Nat} (hd : ft m pc = some (.iastore, 1, nx, X)) (hK : σ.1[q + k]? = some 100) (hA : as[k]? = some (arr n g)) (hj : j < n) (hn : n < 1000) (kk : WP d mc ms m nx L S (put σ o q fs (as.set k (arr n (up g j x)))) r σ') : WP d mc ms m pc L (.int (nI x) :: .int (nI j) :: .ref (q + k) :: S) (put σ o q fs as) r σ' := wp_astP hd hK hA hj hn (by rw [up_nI]; exact kk)
theorem wp_astO {d mc ms m pc nx : Nat} {L S : List Value} {σ σ' : Sto} {r : Option Value} {X : Nat × Nat × Nat × Int} {o q k n j : Nat} {x : Option Nat} {fs : List Value} {as : List (List Int32)} {g : Nat → Option Nat} (hd : ft m pc = some (.iastore, 1, nx, X)) (hK : σ.1[q + k]? = some 100) (hA : as[k]? = some (arO n g)) (hj : j < n) (hn : n < 1000) (kk : WP d mc ms m nx L S (put σ o q fs (as.set k (arO n (up g j x)))) r σ') : WP d mc ms m pc L (.int (eo x) :: .int (nI j) :: .ref (q + k) :: S) (put σ o q fs as) r σ' := wp_astP hd hK hA hj hn (by rw [up_eo]; exact kk)
theorem wp_zastP {d mc ms m pc nx : Nat} {L S : List Value} {σ σ' : Sto} {r : Option Value} {X : Nat × Nat × Nat × Int} {o q k n j : Nat} {x : Int32} {fs : List Value} {as : List (List Int32)} {f : Nat → Int32} (hd : ft m pc = some (.bastore, 1, nx, X)) (hK : σ.1[q + k]? = some 101) (h01 : x = 0 ∨ x = 1) (hA : as[k]? = some (arrI n f)) (hj : j < n) (hn : n < 1000) (kk : WP d mc ms m nx L S (put σ o q fs (as.set k (arrI n (up f j x)))) r σ') : WP d mc ms m pc L (.int x :: .int (nI j) :: .ref (q + k) :: S) (put σ o q fs as) r σ' := by
  have e := put_A (σ := σ) (o := o) (q := q) (fs := fs) hA
  refine wp_zast hd hK h01 (by rw [e, arrI_len]; exact hj) (by rw [e, arrI_len]; omega) ?_
  rw [e, arrI_set, setA_put (List.getElem?_eq_some_iff.mp hA).1]
  exact kk
/-! numbers -/
theorem wp_iaddN {d mc ms m pc nx : Nat} {L S : List Value} {σ σ' : Sto} {r : Option Value} {X : Nat × Nat × Nat × Int} {x y : Nat} (hd : ft m pc = some (.iadd, 1, nx, X)) (k : WP d mc ms m nx L (.int (nI (x + y)) :: S) σ r σ') : WP d mc ms m pc L (.int (nI y) :: .int (nI x) :: S) σ r σ' := wp_iadd hd (by rw [nI_add]; exact k)
theorem wp_isubN {d mc ms m pc nx : Nat} {L S : List Value} {σ σ' : Sto} {r : Option Value} {X : Nat × Nat × Nat × Int} {x y : Nat} (hd : ft m pc = some (.isub, 1, nx, X)) (h : y ≤ x) (k : WP d mc ms m nx L (.int (nI (x - y)) :: S) σ r σ') : WP d mc ms m pc L (.int (nI y) :: .int (nI x) :: S) σ r σ' := wp_isub hd (by rw [pk_sub h]; exact k)
theorem wp_imulN {d mc ms m pc nx : Nat} {L S : List Value} {σ σ' : Sto} {r : Option Value} {X : Nat × Nat × Nat × Int} {x y : Nat} (hd : ft m pc = some (.imul, 1, nx, X)) (k : WP d mc ms m nx L (.int (nI (x * y)) :: S) σ r σ') : WP d mc ms m pc L (.int (nI y) :: .int (nI x) :: S) σ r σ' := wp_imul hd (by rw [pk_mul]; exact k)
theorem wp_idivN {d mc ms m pc nx : Nat} {L S : List Value} {σ σ' : Sto} {r : Option Value} {X : Nat × Nat × Nat × Int} {x y : Nat} (hd : ft m pc = some (.idiv, 1, nx, X)) (hx : x < 2 ^ 31) (h0 : 0 < y) (hy : y < 2 ^ 31) (k : WP d mc ms m nx L (.int (nI (x / y)) :: S) σ r σ') : WP d mc ms m pc L (.int (nI y) :: .int (nI x) :: S) σ r σ' := wp_idiv hd (nI_ne0 h0 hy) (by rw [pk_div hx h0 hy]; exact k)
theorem wp_iremN {d mc ms m pc nx : Nat} {L S : List Value} {σ σ' : Sto} {r : Option Value} {X : Nat × Nat × Nat × Int} {x y : Nat} (hd : ft m pc = some (.irem, 1, nx, X)) (hx : x < 2 ^ 31) (h0 : 0 < y) (hy : y < 2 ^ 31) (k : WP d mc ms m nx L (.int (nI (x % y)) :: S) σ r σ') : WP d mc ms m pc L (.int (nI y) :: .int (nI x) :: S) σ r σ' := wp_irem hd (nI_ne0 h0 hy) (by rw [pk_rem hx h0 hy]; exact k)
theorem and31 : ∀ k, k < 32 → nI k &&& 31 = nI k := by decide
theorem smod32 : ∀ k, k < 32 → ((nI k).toBitVec.smod 32).toNat = k := by decide
theorem shl_N {x y : Nat} (hy : y < 31) (h : x * 2 ^ y < 2 ^ 32) : nI x <<< (nI y &&& 31) = nI (x * 2 ^ y) := by
  rw [and31 y (by omega)]
  exact pk_shlN _ y (smod32 y (by omega)) h
theorem shr_N {x y : Nat} (hy : y < 31) (h : x < 2 ^ 31) : nI x >>> (nI y &&& 31) = nI (x / 2 ^ y) := by
  rw [and31 y (by omega)]
  exact pk_shrN h _ y (smod32 y (by omega))
theorem wp_ishlN {d mc ms m pc nx : Nat} {L S : List Value} {σ σ' : Sto} {r : Option Value} {X : Nat × Nat × Nat × Int} {x y : Nat} (hd : ft m pc = some (.ishl, 1, nx, X)) (hy : y < 31) (h : x * 2 ^ y < 2 ^ 32) (k : WP d mc ms m nx L (.int (nI (x * 2 ^ y)) :: S) σ r σ') : WP d mc ms m pc L (.int (nI y) :: .int (nI x) :: S) σ r σ' := wp_ishl hd (by rw [shl_N hy h]; exact k)
theorem wp_ishrN {d mc ms m pc nx : Nat} {L S : List Value} {σ σ' : Sto} {r : Option Value} {X : Nat × Nat × Nat × Int} {x y : Nat} (hd : ft m pc = some (.ishr, 1, nx, X)) (hy : y < 31) (h : x < 2 ^ 31) (k : WP d mc ms m nx L (.int (nI (x / 2 ^ y)) :: S) σ r σ') : WP d mc ms m pc L (.int (nI y) :: .int (nI x) :: S) σ r σ' := wp_ishr hd (by rw [shr_N hy h]; exact k)
theorem inc1 (x : Nat) : nI x + Int32.ofInt 1 = nI (x + 1) := nI_1 x
theorem dec1 (x : Nat) : nI (x + 1) + Int32.ofInt (-1) = nI x := pk_m1 x
theorem eo_m1 : (-1 : Int32) = eo none := rfl
theorem nI_m1 {x : Nat} (h : x < 2 ^ 31) : ¬ nI x = -1 := by
  intro e
  have h1 := nI_toInt h
  rw [e] at h1
  have : ((-1 : Int32)).toInt = -1 := by decide
  omega
theorem eo_none {x : Option Nat} (h : ∀ k, x = some k → k < 2 ^ 31) : eo x = -1 ↔ x = none := by
  cases x with
  | none => exact ⟨fun _ => rfl, fun _ => rfl⟩
  | some k => exact ⟨fun e => absurd e (nI_m1 (h k rfl)), fun e => by cases e⟩
theorem eo_some {x : Option Nat} {j : Nat} (hj : j < 2 ^ 31) (h : ∀ k, x = some k → k < 2 ^ 31) : eo x = nI j ↔ x = some j := by
  cases x with
  | none => exact ⟨fun e => absurd e.symm (nI_m1 hj), fun e => by cases e⟩
  | some k =>
    constructor
    · intro e
      rw [(nI_eq (h k rfl) hj).mp e]
    · intro e
      cases e
      rfl
theorem wp_icmp_eqN {d mc ms m pc nx tg a2 a3 : Nat} {a4 : Int} {L S : List Value} {σ σ' : Sto} {r : Option Value} {x y : Nat} {off : Int} (hd : ft m pc = some (.if_icmp .eq off, 3, nx, tg, a2, a3, a4)) (h0 : 0 ≤ (pc : Int) + off) (hx : x < 2 ^ 31) (hy : y < 2 ^ 31) (kt : x = y → WP d mc ms m tg L S σ r σ') (kf : x ≠ y → WP d mc ms m nx L S σ r σ') : WP d mc ms m pc L (.int (nI y) :: .int (nI x) :: S) σ r σ' :=
  wp_icmp_eq hd h0 (fun h => kt ((nI_eq hx hy).mp h)) (fun h => kf (fun e => h ((nI_eq hx hy).mpr e)))
theorem wp_icmp_neN {d mc ms m pc nx tg a2 a3 : Nat} {a4 : Int} {L S : List Value} {σ σ' : Sto} {r : Option Value} {x y : Nat} {off : Int} (hd : ft m pc = some (.if_icmp .ne off, 3, nx, tg, a2, a3, a4)) (h0 : 0 ≤ (pc : Int) + off) (hx : x < 2 ^ 31) (hy : y < 2 ^ 31) (kt : x ≠ y → WP d mc ms m tg L S σ r σ') (kf : x = y → WP d mc ms m nx L S σ r σ') : WP d mc ms m pc L (.int (nI y) :: .int (nI x) :: S) σ r σ' :=
  wp_icmp_ne hd h0 (fun h => kt (fun e => h ((nI_eq hx hy).mpr e))) (fun h => kf ((nI_eq hx hy).mp h))
theorem wp_icmp_ltN {d mc ms m pc nx tg a2 a3 : Nat} {a4 : Int} {L S : List Value} {σ σ' : Sto} {r : Option Value} {x y : Nat} {off : Int} (hd : ft m pc = some (.if_icmp .lt off, 3, nx, tg, a2, a3, a4)) (h0 : 0 ≤ (pc : Int) + off) (hx : x < 2 ^ 31) (hy : y < 2 ^ 31) (kt : x < y → WP d mc ms m tg L S σ r σ') (kf : y ≤ x → WP d mc ms m nx L S σ r σ') : WP d mc ms m pc L (.int (nI y) :: .int (nI x) :: S) σ r σ' :=
  wp_icmp_lt hd h0 (fun h => kt ((nI_ltI hx hy).mp h)) (fun h => kf (by have := mt (nI_ltI hx hy).mpr h; omega))
theorem wp_icmp_geN {d mc ms m pc nx tg a2 a3 : Nat} {a4 : Int} {L S : List Value} {σ σ' : Sto} {r : Option Value} {x y : Nat} {off : Int} (hd : ft m pc = some (.if_icmp .ge off, 3, nx, tg, a2, a3, a4)) (h0 : 0 ≤ (pc : Int) + off) (hx : x < 2 ^ 31) (hy : y < 2 ^ 31) (kt : y ≤ x → WP d mc ms m tg L S σ r σ') (kf : x < y → WP d mc ms m nx L S σ r σ') : WP d mc ms m pc L (.int (nI y) :: .int (nI x) :: S) σ r σ' :=
  wp_icmp_ge hd h0 (fun h => kt ((nI_leI hy hx).mp h)) (fun h => kf (by have := mt (nI_leI hy hx).mpr h; omega))
theorem wp_icmp_gtN {d mc ms m pc nx tg a2 a3 : Nat} {a4 : Int} {L S : List Value} {σ σ' : Sto} {r : Option Value} {x y : Nat} {off : Int} (hd : ft m pc = some (.if_icmp .gt off, 3, nx, tg, a2, a3, a4)) (h0 : 0 ≤ (pc : Int) + off) (hx : x < 2 ^ 31) (hy : y < 2 ^ 31) (kt : y < x → WP d mc ms m tg L S σ r σ') (kf : x ≤ y → WP d mc ms m nx L S σ r σ') : WP d mc ms m pc L (.int (nI y) :: .int (nI x) :: S) σ r σ' :=
  wp_icmp_gt hd h0 (fun h => kt ((nI_ltI hy hx).mp h)) (fun h => kf (by have := mt (nI_ltI hy hx).mpr h; omega))
theorem wp_icmp_leN {d mc ms m pc nx tg a2 a3 : Nat} {a4 : Int} {L S : List Value} {σ σ' : Sto} {r : Option Value} {x y : Nat} {off : Int} (hd : ft m pc = some (.if_icmp .le off, 3, nx, tg, a2, a3, a4)) (h0 : 0 ≤ (pc : Int) + off) (hx : x < 2 ^ 31) (hy : y < 2 ^ 31) (kt : x ≤ y → WP d mc ms m tg L S σ r σ') (kf : y < x → WP d mc ms m nx L S σ r σ') : WP d mc ms m pc L (.int (nI y) :: .int (nI x) :: S) σ r σ' :=
  wp_icmp_le hd h0 (fun h => kt ((nI_leI hx hy).mp h)) (fun h => kf (by have := mt (nI_leI hx hy).mpr h; omega))
theorem wp_if_eqN {d mc ms m pc nx tg a2 a3 : Nat} {a4 : Int} {L S : List Value} {σ σ' : Sto} {r : Option Value} {x : Nat} {off : Int} (hd : ft m pc = some (.ifCond .eq off, 3, nx, tg, a2, a3, a4)) (h0 : 0 ≤ (pc : Int) + off) (hx : x < 2 ^ 31) (kt : x = 0 → WP d mc ms m tg L S σ r σ') (kf : x ≠ 0 → WP d mc ms m nx L S σ r σ') : WP d mc ms m pc L (.int (nI x) :: S) σ r σ' :=
  wp_if_eq hd h0 (fun h => kt (by rcases Nat.eq_zero_or_pos x with e | e; exact e; exact absurd h (nI_ne0 e hx))) (fun h => kf (fun e => h (by rw [e]; rfl)))
theorem wp_if_neN {d mc ms m pc nx tg a2 a3 : Nat} {a4 : Int} {L S : List Value} {σ σ' : Sto} {r : Option Value} {x : Nat} {off : Int} (hd : ft m pc = some (.ifCond .ne off, 3, nx, tg, a2, a3, a4)) (h0 : 0 ≤ (pc : Int) + off) (hx : x < 2 ^ 31) (kt : x ≠ 0 → WP d mc ms m tg L S σ r σ') (kf : x = 0 → WP d mc ms m nx L S σ r σ') : WP d mc ms m pc L (.int (nI x) :: S) σ r σ' :=
  wp_if_ne hd h0 (fun h => kt (fun e => h (by rw [e]; rfl))) (fun h => kf (by rcases Nat.eq_zero_or_pos x with e | e; exact e; exact absurd h (nI_ne0 e hx)))
theorem wp_if_leN {d mc ms m pc nx tg a2 a3 : Nat} {a4 : Int} {L S : List Value} {σ σ' : Sto} {r : Option Value} {x : Nat} {off : Int} (hd : ft m pc = some (.ifCond .le off, 3, nx, tg, a2, a3, a4)) (h0 : 0 ≤ (pc : Int) + off) (hx : x < 2 ^ 31) (kt : x = 0 → WP d mc ms m tg L S σ r σ') (kf : x ≠ 0 → WP d mc ms m nx L S σ r σ') : WP d mc ms m pc L (.int (nI x) :: S) σ r σ' :=
  wp_if_le hd h0 (fun h => kt (by rcases Nat.eq_zero_or_pos x with e | e; exact e; exact absurd h (nI_nle e hx))) (fun h => kf (fun e => h (by rw [e]; decide)))
theorem wp_if_gtN {d mc ms m pc nx tg a2 a3 : Nat} {a4 : Int} {L S : List Value} {σ σ' : Sto} {r : Option Value} {x : Nat} {off : Int} (hd : ft m pc = some (.ifCond .gt off, 3, nx, tg, a2, a3, a4)) (h0 : 0 ≤ (pc : Int) + off) (hx : x < 2 ^ 31) (kt : x ≠ 0 → WP d mc ms m tg L S σ r σ') (kf : x = 0 → WP d mc ms m nx L S σ r σ') : WP d mc ms m pc L (.int (nI x) :: S) σ r σ' :=
  wp_if_gt hd h0 (fun h => kt (fun e => by rw [e] at h; exact absurd h (by decide))) (fun h => kf (by rcases Nat.eq_zero_or_pos x with e | e; exact e; exact absurd (show (0 : Int32) < nI x from (nI_lt e hx)) h))
theorem wp_if_ltN {d mc ms m pc nx tg a2 a3 : Nat} {a4 : Int} {L S : List Value} {σ σ' : Sto} {r : Option Value} {x : Nat} {off : Int} (hd : ft m pc = some (.ifCond .lt off, 3, nx, tg, a2, a3, a4)) (h0 : 0 ≤ (pc : Int) + off) (hx : x < 2 ^ 31) (kf : WP d mc ms m nx L S σ r σ') : WP d mc ms m pc L (.int (nI x) :: S) σ r σ' :=
  wp_if_lt hd h0 (fun h => absurd h (nI_pos hx)) (fun _ => kf)
theorem wp_if_geN {d mc ms m pc nx tg a2 a3 : Nat} {a4 : Int} {L S : List Value} {σ σ' : Sto} {r : Option Value} {x : Nat} {off : Int} (hd : ft m pc = some (.ifCond .ge off, 3, nx, tg, a2, a3, a4)) (h0 : 0 ≤ (pc : Int) + off) (hx : x < 2 ^ 31) (kt : WP d mc ms m tg L S σ r σ') : WP d mc ms m pc L (.int (nI x) :: S) σ r σ' :=
  wp_if_ge hd h0 (fun _ => kt) (fun h => absurd (nI_pos' hx) h)
/-- a truth as an int -/
def bi (p : Bool) : Int32 := if p then 1 else 0
theorem bi_01 (p : Bool) : bi p = 0 ∨ bi p = 1 := by cases p <;> simp [bi]
theorem nI_01 : nI 0 = 0 ∨ nI 0 = 1 := Or.inl rfl
theorem nI_11 : nI 1 = 0 ∨ nI 1 = 1 := Or.inr rfl
theorem wp_if_eqB {d mc ms m pc nx tg a2 a3 : Nat} {a4 : Int} {L S : List Value} {σ σ' : Sto} {r : Option Value} {p : Bool} {off : Int} (hd : ft m pc = some (.ifCond .eq off, 3, nx, tg, a2, a3, a4)) (h0 : 0 ≤ (pc : Int) + off) (kt : p = false → WP d mc ms m tg L S σ r σ') (kf : p = true → WP d mc ms m nx L S σ r σ') : WP d mc ms m pc L (.int (bi p) :: S) σ r σ' :=
  wp_if_eq hd h0 (fun h => kt (by cases p; rfl; exact absurd h (by decide))) (fun h => kf (by cases p; exact absurd rfl h; rfl))
theorem wp_if_neB {d mc ms m pc nx tg a2 a3 : Nat} {a4 : Int} {L S : List Value} {σ σ' : Sto} {r : Option Value} {p : Bool} {off : Int} (hd : ft m pc = some (.ifCond .ne off, 3, nx, tg, a2, a3, a4)) (h0 : 0 ≤ (pc : Int) + off) (kt : p = true → WP d mc ms m tg L S σ r σ') (kf : p = false → WP d mc ms m nx L S σ r σ') : WP d mc ms m pc L (.int (bi p) :: S) σ r σ' :=
  wp_if_ne hd h0 (fun h => kt (by cases p; exact absurd rfl h; rfl)) (fun h => kf (by cases p; rfl; exact absurd h (by decide)))
theorem ic_0 : Int32.ofInt 0 = nI 0 := by decide
theorem ic_1 : Int32.ofInt 1 = nI 1 := by decide
theorem ic_2 : Int32.ofInt 2 = nI 2 := by decide
theorem ic_3 : Int32.ofInt 3 = nI 3 := by decide
theorem ic_4 : Int32.ofInt 4 = nI 4 := by decide
theorem ic_5 : Int32.ofInt 5 = nI 5 := by decide
theorem ic_m1 : Int32.ofInt (-1) = eo none := by decide
theorem bi_6 : (Int8.ofInt 6).toInt32 = nI 6 := by decide
theorem bi_7 : (Int8.ofInt 7).toInt32 = nI 7 := by decide
theorem bi_9 : (Int8.ofInt 9).toInt32 = nI 9 := by decide
theorem bi_10 : (Int8.ofInt 10).toInt32 = nI 10 := by decide
theorem bi_13 : (Int8.ofInt 13).toInt32 = nI 13 := by decide
theorem bi_14 : (Int8.ofInt 14).toInt32 = nI 14 := by decide
theorem bi_15 : (Int8.ofInt 15).toInt32 = nI 15 := by decide
theorem bi_16 : (Int8.ofInt 16).toInt32 = nI 16 := by decide
theorem bi_20 : (Int8.ofInt 20).toInt32 = nI 20 := by decide
theorem bi_31 : (Int8.ofInt 31).toInt32 = nI 31 := by decide
theorem bi_40 : (Int8.ofInt 40).toInt32 = nI 40 := by decide
theorem bi_48 : (Int8.ofInt 48).toInt32 = nI 48 := by decide
theorem bi_50 : (Int8.ofInt 50).toInt32 = nI 50 := by decide
theorem bi_57 : (Int8.ofInt 57).toInt32 = nI 57 := by decide
theorem bi_59 : (Int8.ofInt 59).toInt32 = nI 59 := by decide
theorem bi_60 : (Int8.ofInt 60).toInt32 = nI 60 := by decide
theorem bi_65 : (Int8.ofInt 65).toInt32 = nI 65 := by decide
theorem bi_75 : (Int8.ofInt 75).toInt32 = nI 75 := by decide
theorem bi_95 : (Int8.ofInt 95).toInt32 = nI 95 := by decide
theorem bi_99 : (Int8.ofInt 99).toInt32 = nI 99 := by decide
theorem bi_100 : (Int8.ofInt 100).toInt32 = nI 100 := by decide
theorem bi_126 : (Int8.ofInt 126).toInt32 = nI 126 := by decide
theorem bi_35 : (Int8.ofInt 35).toInt32 = nI 35 := by decide
theorem bi_30 : (Int8.ofInt 30).toInt32 = nI 30 := by decide
theorem bi_11 : (Int8.ofInt 11).toInt32 = nI 11 := by decide
theorem bi_12 : (Int8.ofInt 12).toInt32 = nI 12 := by decide
theorem bi_m101 : (Int8.ofInt (-101)).toInt32 = -101 := by decide
theorem bi_m102 : (Int8.ofInt (-102)).toInt32 = -102 := by decide
theorem bi_m103 : (Int8.ofInt (-103)).toInt32 = -103 := by decide
theorem bi_m104 : (Int8.ofInt (-104)).toInt32 = -104 := by decide
theorem si_150 : (Int16.ofInt 150).toInt32 = nI 150 := by decide
theorem wp_V0r {d d' m m' pc nx idx o : Nat} {ps : Int} {L S : List Value} {σ σ1 σ' : Sto} {r : Option Value} {w : Value} (hd : ft m pc = some (.invokevirtual idx, 3, nx, m', 0, 0, ps)) (hK : σ.1[o]? = some (ow m')) (hE : Ev d' 0 0 m' [.ref o] σ (some w) σ1) (hdd : d' + 1 ≤ d) (hcat : (S.map fun v => v.category).sum ≤ 8) (kk : WP d 0 0 m nx L (w :: S) σ1 r σ') : WP d 0 0 m pc L (.ref o :: S) σ r σ' := wp_callV (As := []) (mc' := 0) (ms' := 0) (mc := 0) (ms := 0) hd rfl hK hE hdd hcat kk
theorem wp_V0v {d d' m m' pc nx idx o : Nat} {ps : Int} {L S : List Value} {σ σ1 σ' : Sto} {r : Option Value} (hd : ft m pc = some (.invokevirtual idx, 3, nx, m', 0, 0, ps)) (hK : σ.1[o]? = some (ow m')) (hE : Ev d' 0 0 m' [.ref o] σ none σ1) (hdd : d' + 1 ≤ d) (hcat : (S.map fun v => v.category).sum ≤ 8) (kk : WP d 0 0 m nx L (S) σ1 r σ') : WP d 0 0 m pc L (.ref o :: S) σ r σ' := wp_callV (As := []) (mc' := 0) (ms' := 0) (mc := 0) (ms := 0) hd rfl hK hE hdd hcat kk
theorem wp_V1r {d d' m m' pc nx idx o : Nat} {ps : Int} {L S : List Value} {σ σ1 σ' : Sto} {r : Option Value} {v1 : Value} {w : Value} (hd : ft m pc = some (.invokevirtual idx, 3, nx, m', 1, 0, ps)) (hK : σ.1[o]? = some (ow m')) (hE : Ev d' 0 0 m' [.ref o, v1] σ (some w) σ1) (hdd : d' + 1 ≤ d) (hcat : (S.map fun v => v.category).sum ≤ 8) (kk : WP d 0 0 m nx L (w :: S) σ1 r σ') : WP d 0 0 m pc L (v1 :: .ref o :: S) σ r σ' := wp_callV (As := [v1]) (mc' := 0) (ms' := 0) (mc := 0) (ms := 0) hd rfl hK hE hdd hcat kk
theorem wp_V1v {d d' m m' pc nx idx o : Nat} {ps : Int} {L S : List Value} {σ σ1 σ' : Sto} {r : Option Value} {v1 : Value} (hd : ft m pc = some (.invokevirtual idx, 3, nx, m', 1, 0, ps)) (hK : σ.1[o]? = some (ow m')) (hE : Ev d' 0 0 m' [.ref o, v1] σ none σ1) (hdd : d' + 1 ≤ d) (hcat : (S.map fun v => v.category).sum ≤ 8) (kk : WP d 0 0 m nx L (S) σ1 r σ') : WP d 0 0 m pc L (v1 :: .ref o :: S) σ r σ' := wp_callV (As := [v1]) (mc' := 0) (ms' := 0) (mc := 0) (ms := 0) hd rfl hK hE hdd hcat kk
theorem wp_S1r {d d' m m' pc nx idx : Nat} {ps : Int} {L S : List Value} {σ σ1 σ' : Sto} {r : Option Value} {v1 : Value} {w : Value} (hd : ft m pc = some (.invokestatic idx, 3, nx, m', 1, 1, ps)) (ho : ow m = ow m') (hE : Ev d' 0 0 m' [v1] σ (some w) σ1) (hdd : d' + 1 ≤ d) (hcat : (S.map fun v => v.category).sum ≤ 8) (kk : WP d 0 0 m nx L (w :: S) σ1 r σ') : WP d 0 0 m pc L (v1 :: S) σ r σ' := wp_callS (As := [v1]) (mc' := 0) (ms' := 0) (mc := 0) (ms := 0) hd rfl ho hE hdd hcat kk
theorem wp_S1v {d d' m m' pc nx idx : Nat} {ps : Int} {L S : List Value} {σ σ1 σ' : Sto} {r : Option Value} {v1 : Value} (hd : ft m pc = some (.invokestatic idx, 3, nx, m', 1, 1, ps)) (ho : ow m = ow m') (hE : Ev d' 0 0 m' [v1] σ none σ1) (hdd : d' + 1 ≤ d) (hcat : (S.map fun v => v.category).sum ≤ 8) (kk : WP d 0 0 m nx L (S) σ1 r σ') : WP d 0 0 m pc L (v1 :: S) σ r σ' := wp_callS (As := [v1]) (mc' := 0) (ms' := 0) (mc := 0) (ms := 0) hd rfl ho hE hdd hcat kk
theorem wp_V2r {d d' m m' pc nx idx o : Nat} {ps : Int} {L S : List Value} {σ σ1 σ' : Sto} {r : Option Value} {v1 v2 : Value} {w : Value} (hd : ft m pc = some (.invokevirtual idx, 3, nx, m', 2, 0, ps)) (hK : σ.1[o]? = some (ow m')) (hE : Ev d' 0 0 m' [.ref o, v1, v2] σ (some w) σ1) (hdd : d' + 1 ≤ d) (hcat : (S.map fun v => v.category).sum ≤ 8) (kk : WP d 0 0 m nx L (w :: S) σ1 r σ') : WP d 0 0 m pc L (v2 :: v1 :: .ref o :: S) σ r σ' := wp_callV (As := [v1, v2]) (mc' := 0) (ms' := 0) (mc := 0) (ms := 0) hd rfl hK hE hdd hcat kk
theorem wp_V2v {d d' m m' pc nx idx o : Nat} {ps : Int} {L S : List Value} {σ σ1 σ' : Sto} {r : Option Value} {v1 v2 : Value} (hd : ft m pc = some (.invokevirtual idx, 3, nx, m', 2, 0, ps)) (hK : σ.1[o]? = some (ow m')) (hE : Ev d' 0 0 m' [.ref o, v1, v2] σ none σ1) (hdd : d' + 1 ≤ d) (hcat : (S.map fun v => v.category).sum ≤ 8) (kk : WP d 0 0 m nx L (S) σ1 r σ') : WP d 0 0 m pc L (v2 :: v1 :: .ref o :: S) σ r σ' := wp_callV (As := [v1, v2]) (mc' := 0) (ms' := 0) (mc := 0) (ms := 0) hd rfl hK hE hdd hcat kk
theorem wp_S2r {d d' m m' pc nx idx : Nat} {ps : Int} {L S : List Value} {σ σ1 σ' : Sto} {r : Option Value} {v1 v2 : Value} {w : Value} (hd : ft m pc = some (.invokestatic idx, 3, nx, m', 2, 1, ps)) (ho : ow m = ow m') (hE : Ev d' 0 0 m' [v1, v2] σ (some w) σ1) (hdd : d' + 1 ≤ d) (hcat : (S.map fun v => v.category).sum ≤ 8) (kk : WP d 0 0 m nx L (w :: S) σ1 r σ') : WP d 0 0 m pc L (v2 :: v1 :: S) σ r σ' := wp_callS (As := [v1, v2]) (mc' := 0) (ms' := 0) (mc := 0) (ms := 0) hd rfl ho hE hdd hcat kk
theorem wp_S2v {d d' m m' pc nx idx : Nat} {ps : Int} {L S : List Value} {σ σ1 σ' : Sto} {r : Option Value} {v1 v2 : Value} (hd : ft m pc = some (.invokestatic idx, 3, nx, m', 2, 1, ps)) (ho : ow m = ow m') (hE : Ev d' 0 0 m' [v1, v2] σ none σ1) (hdd : d' + 1 ≤ d) (hcat : (S.map fun v => v.category).sum ≤ 8) (kk : WP d 0 0 m nx L (S) σ1 r σ') : WP d 0 0 m pc L (v2 :: v1 :: S) σ r σ' := wp_callS (As := [v1, v2]) (mc' := 0) (ms' := 0) (mc := 0) (ms := 0) hd rfl ho hE hdd hcat kk
theorem wp_V3r {d d' m m' pc nx idx o : Nat} {ps : Int} {L S : List Value} {σ σ1 σ' : Sto} {r : Option Value} {v1 v2 v3 : Value} {w : Value} (hd : ft m pc = some (.invokevirtual idx, 3, nx, m', 3, 0, ps)) (hK : σ.1[o]? = some (ow m')) (hE : Ev d' 0 0 m' [.ref o, v1, v2, v3] σ (some w) σ1) (hdd : d' + 1 ≤ d) (hcat : (S.map fun v => v.category).sum ≤ 8) (kk : WP d 0 0 m nx L (w :: S) σ1 r σ') : WP d 0 0 m pc L (v3 :: v2 :: v1 :: .ref o :: S) σ r σ' := wp_callV (As := [v1, v2, v3]) (mc' := 0) (ms' := 0) (mc := 0) (ms := 0) hd rfl hK hE hdd hcat kk
theorem wp_V3v {d d' m m' pc nx idx o : Nat} {ps : Int} {L S : List Value} {σ σ1 σ' : Sto} {r : Option Value} {v1 v2 v3 : Value} (hd : ft m pc = some (.invokevirtual idx, 3, nx, m', 3, 0, ps)) (hK : σ.1[o]? = some (ow m')) (hE : Ev d' 0 0 m' [.ref o, v1, v2, v3] σ none σ1) (hdd : d' + 1 ≤ d) (hcat : (S.map fun v => v.category).sum ≤ 8) (kk : WP d 0 0 m nx L (S) σ1 r σ') : WP d 0 0 m pc L (v3 :: v2 :: v1 :: .ref o :: S) σ r σ' := wp_callV (As := [v1, v2, v3]) (mc' := 0) (ms' := 0) (mc := 0) (ms := 0) hd rfl hK hE hdd hcat kk
theorem wp_S3r {d d' m m' pc nx idx : Nat} {ps : Int} {L S : List Value} {σ σ1 σ' : Sto} {r : Option Value} {v1 v2 v3 : Value} {w : Value} (hd : ft m pc = some (.invokestatic idx, 3, nx, m', 3, 1, ps)) (ho : ow m = ow m') (hE : Ev d' 0 0 m' [v1, v2, v3] σ (some w) σ1) (hdd : d' + 1 ≤ d) (hcat : (S.map fun v => v.category).sum ≤ 8) (kk : WP d 0 0 m nx L (w :: S) σ1 r σ') : WP d 0 0 m pc L (v3 :: v2 :: v1 :: S) σ r σ' := wp_callS (As := [v1, v2, v3]) (mc' := 0) (ms' := 0) (mc := 0) (ms := 0) hd rfl ho hE hdd hcat kk
theorem wp_S3v {d d' m m' pc nx idx : Nat} {ps : Int} {L S : List Value} {σ σ1 σ' : Sto} {r : Option Value} {v1 v2 v3 : Value} (hd : ft m pc = some (.invokestatic idx, 3, nx, m', 3, 1, ps)) (ho : ow m = ow m') (hE : Ev d' 0 0 m' [v1, v2, v3] σ none σ1) (hdd : d' + 1 ≤ d) (hcat : (S.map fun v => v.category).sum ≤ 8) (kk : WP d 0 0 m nx L (S) σ1 r σ') : WP d 0 0 m pc L (v3 :: v2 :: v1 :: S) σ r σ' := wp_callS (As := [v1, v2, v3]) (mc' := 0) (ms' := 0) (mc := 0) (ms := 0) hd rfl ho hE hdd hcat kk
theorem wp_V4r {d d' m m' pc nx idx o : Nat} {ps : Int} {L S : List Value} {σ σ1 σ' : Sto} {r : Option Value} {v1 v2 v3 v4 : Value} {w : Value} (hd : ft m pc = some (.invokevirtual idx, 3, nx, m', 4, 0, ps)) (hK : σ.1[o]? = some (ow m')) (hE : Ev d' 0 0 m' [.ref o, v1, v2, v3, v4] σ (some w) σ1) (hdd : d' + 1 ≤ d) (hcat : (S.map fun v => v.category).sum ≤ 8) (kk : WP d 0 0 m nx L (w :: S) σ1 r σ') : WP d 0 0 m pc L (v4 :: v3 :: v2 :: v1 :: .ref o :: S) σ r σ' := wp_callV (As := [v1, v2, v3, v4]) (mc' := 0) (ms' := 0) (mc := 0) (ms := 0) hd rfl hK hE hdd hcat kk
theorem wp_V4v {d d' m m' pc nx idx o : Nat} {ps : Int} {L S : List Value} {σ σ1 σ' : Sto} {r : Option Value} {v1 v2 v3 v4 : Value} (hd : ft m pc = some (.invokevirtual idx, 3, nx, m', 4, 0, ps)) (hK : σ.1[o]? = some (ow m')) (hE : Ev d' 0 0 m' [.ref o, v1, v2, v3, v4] σ none σ1) (hdd : d' + 1 ≤ d) (hcat : (S.map fun v => v.category).sum ≤ 8) (kk : WP d 0 0 m nx L (S) σ1 r σ') : WP d 0 0 m pc L (v4 :: v3 :: v2 :: v1 :: .ref o :: S) σ r σ' := wp_callV (As := [v1, v2, v3, v4]) (mc' := 0) (ms' := 0) (mc := 0) (ms := 0) hd rfl hK hE hdd hcat kk
theorem WP.re {d m pc : Nat} {L L2 S S2 : List Value} {σ σ2 σ' : Sto} {r : Option Value} (hL : L = L2) (hS : S = S2) (hσ : σ = σ2) (k : WP d 0 0 m pc L2 S2 σ2 r σ') : WP d 0 0 m pc L S σ r σ' := by subst hL; subst hS; subst hσ; exact k
end
section
/-! the reference: its object at m, its arrays behind it -/
def mF (m : Nat) (pm sta rdm st me tr mi slr wa cha bm bc bl bch ask sn ks kw kt km : Int32) (hsh : Int64) : List Value := [.ref (m + 1 + 0), .int pm, .int sta, .int rdm, .int st, .int me, .int tr, .int mi, .int slr, .ref (m + 1 + 1), .ref (m + 1 + 2), .int wa, .ref (m + 1 + 3), .ref (m + 1 + 4), .ref (m + 1 + 5), .ref (m + 1 + 6), .ref (m + 1 + 7), .ref (m + 1 + 8), .int cha, .int bm, .int bc, .int bl, .int bch, .ref (m + 1 + 9), .ref (m + 1 + 10), .int ask, .ref (m + 1 + 11), .ref (m + 1 + 12), .int sn, .ref (m + 1 + 13), .int ks, .int kw, .int kt, .int km, .ref (m + 1 + 14), .ref (m + 1 + 15), .ref (m + 1 + 16), .ref (m + 1 + 17), .ref (m + 1 + 18), .long hsh]
def mA (apg ade afo aro ale afi anf anl awh aod abo aof ama asd akr akl akf akd ako : List Int32) : List (List Int32) := [apg, ade, afo, aro, ale, afi, anf, anl, awh, aod, abo, aof, ama, asd, akr, akl, akf, akd, ako]
def KM (σ : Sto) (m : Nat) : Prop := σ.1[m]? = some 7 ∧ ∀ j, j < 19 → σ.1[m + 1 + j]? = some 100
theorem WP.r {d m pc : Nat} {L S : List Value} {σ σ' : Sto} {r r2 : Option Value} (h : r = r2) (k : WP d 0 0 m pc L S σ r2 σ') : WP d 0 0 m pc L S σ r σ' := by subst h; exact k
theorem WP.s {d m pc : Nat} {L S : List Value} {σ σ' σ2 : Sto} {r : Option Value} (h : σ' = σ2) (k : WP d 0 0 m pc L S σ r σ2) : WP d 0 0 m pc L S σ r σ' := by subst h; exact k
theorem Ev.rs {d m : Nat} {As : List Value} {σ σ' σ2 : Sto} {r r2 : Option Value} (h : r = r2) (hsh : σ' = σ2) (k : Ev d 0 0 m As σ r2 σ2) : Ev d 0 0 m As σ r σ' := by subst h; subst hsh; exact k

/-! who pays what; a change -/
def hvN (ki fi : Nat → Nat) (p : Nat) : Nat := if p = 0 then (if 2 < ki (fi 0) then 1 else 0) else if ki (fi p) = 1 ∧ ki (fi (p - 1)) = 4 then p - 1 else p
def payN (ki fi : Nat → Nat) (p dp : Nat) : Nat := (dp + 2 ^ hvN ki fi p - 1) / 2 ^ hvN ki fi p
theorem hvN_le {ki fi : Nat → Nat} {p : Nat} (h : p ≤ 4) : hvN ki fi p ≤ 4 := by unfold hvN; split; split <;> omega; split <;> omega
theorem payN_le {ki fi : Nat → Nat} {p dp : Nat} : payN ki fi p dp ≤ dp := by
  unfold payN
  generalize hvN ki fi p = h
  have h1 : 1 ≤ 2 ^ h := Nat.one_le_two_pow
  rcases Nat.eq_zero_or_pos dp with e | e
  · subst e
    rw [Nat.div_eq_of_lt (by omega)]
    exact Nat.le_refl _
  · rw [Nat.div_le_iff_le_mul_add_pred h1]
    have : dp ≤ 2 ^ h * dp := Nat.le_mul_of_pos_left dp h1
    omega
def rot (w : Nat) (f : Nat → Nat) : Nat → Nat := fun j => if j + 1 < w then f (j + 1) else if j + 1 = w then f 0 else f j
/-- the reference's rows: kind, strength, what is told -/
def rw3 (ki sr : Nat → Nat) (to : Nat → Option Nat) : Nat → Int32 := fun j => if j % 3 = 0 then nI (ki (j / 3)) else if j % 3 = 1 then nI (sr (j / 3)) else eo (to (j / 3))
theorem rw_0 (ki sr : Nat → Nat) (to : Nat → Option Nat) (w : Nat) : rw3 ki sr to (3 * w) = nI (ki w) := by
  unfold rw3
  rw [if_pos (by omega), show 3 * w / 3 = w by omega]
theorem rw_1 (ki sr : Nat → Nat) (to : Nat → Option Nat) (w : Nat) : rw3 ki sr to (3 * w + 1) = nI (sr w) := by
  unfold rw3
  rw [if_neg (by omega), if_pos (by omega), show (3 * w + 1) / 3 = w by omega]
theorem rw_2 (ki sr : Nat → Nat) (to : Nat → Option Nat) (w : Nat) : rw3 ki sr to (3 * w + 2) = eo (to w) := by
  unfold rw3
  rw [if_neg (by omega), if_neg (by omega), show (3 * w + 2) / 3 = w by omega]
theorem rw_u0 (ki sr : Nat → Nat) (to : Nat → Option Nat) (w x : Nat) : up (rw3 ki sr to) (3 * w) (nI x) = rw3 (up ki w x) sr to := by
  funext j
  simp only [rw3, up]
  grind
theorem rw_u1 (ki sr : Nat → Nat) (to : Nat → Option Nat) (w x : Nat) : up (rw3 ki sr to) (3 * w + 1) (nI x) = rw3 ki (up sr w x) to := by
  funext j
  simp only [rw3, up]
  grind
theorem rw_u2 (ki sr : Nat → Nat) (to : Nat → Option Nat) (w : Nat) (x : Option Nat) : up (rw3 ki sr to) (3 * w + 2) (eo x) = rw3 ki sr (up to w x) := by
  funext j
  simp only [rw3, up]
  grind
end
section
section S05_mo1
variable {σ : Sto} {m : Nat} {pm sta rdm st me tr mi slr wa cha bm bc bl bch ask sn ks kw kt km : Int32} {hsh : Int64} {apg ade afo aro ale afi anf anl awh aod abo aof ama asd akr akl akf akd ako : List Int32}

theorem m_turns (kM : KM σ m) {w : Nat} {nf : Nat → Nat} (h1 : 1 ≤ w) (h5 : w ≤ 5) : Ev 0 0 0 100 [.ref m] (put σ m (m + 1) (mF m pm sta rdm st me tr mi slr (nI w) cha bm bc bl bch ask sn ks kw kt km hsh) (mA apg ade afo aro ale afi (arr 5 nf) anl awh aod abo aof ama asd akr akl akf akd ako)) none (put σ m (m + 1) (mF m pm sta rdm st me tr mi slr (nI w) cha bm bc bl bch ask sn ks kw kt km hsh) (mA apg ade afo aro ale afi (arr 5 (rot w nf)) anl awh aod abo aof ama asd akr akl akf akd ako)) := by
  have loop : ∀ (n k : Nat) (g : Nat → Nat), k + n = w → 1 ≤ k → (∀ j, g j = if j + 1 < k then nf (j + 1) else nf j) → WP 0 0 0 100 9 [.ref m, .int (nI (nf 0)), .int (nI k)] [] (put σ m (m + 1) (mF m pm sta rdm st me tr mi slr (nI w) cha bm bc bl bch ask sn ks kw kt km hsh) (mA apg ade afo aro ale afi (arr 5 g) anl awh aod abo aof ama asd akr akl akf akd ako)) none (put σ m (m + 1) (mF m pm sta rdm st me tr mi slr (nI w) cha bm bc bl bch ask sn ks kw kt km hsh) (mA apg ade afo aro ale afi (arr 5 (rot w nf)) anl awh aod abo aof ama asd akr akl akf akd ako)) := by
    intro n
    induction n with
    | zero =>
      intro k g hk hk1 hg
      refine wp_iload_2 d100_9 ?_
      refine wp_aload_0 d100_10 ?_
      refine wp_getP d100_11 (Nat.le_of_ble_eq_true rfl) kM.1 rfl ?_
      refine wp_icmp_geN d100_14 (by decide) (by omega) (by omega) (fun h14 => ?_) (fun hq => absurd hq (by omega))
      refine wp_aload_0 d100_37 ?_
      refine wp_getP d100_38 (Nat.le_of_ble_eq_true rfl) kM.1 rfl ?_
      refine wp_aload_0 d100_41 ?_
      refine wp_getP d100_42 (Nat.le_of_ble_eq_true rfl) kM.1 rfl ?_
      refine wp_iconst d100_45 ic_1 ?_
      refine wp_isubN d100_46 (by omega) ?_
      refine wp_iload_1 d100_47 ?_
      refine wp_astN d100_48 (kM.2 _ (Nat.le_of_ble_eq_true rfl)) rfl (by omega) (by decide) ?_
      refine WP.s ?_ (wp_vret d100_49 rfl rfl rfl)
      show (put σ m (m + 1) (mF m pm sta rdm st me tr mi slr (nI w) cha bm bc bl bch ask sn ks kw kt km hsh) (mA apg ade afo aro ale afi (arr 5 (rot w nf)) anl awh aod abo aof ama asd akr akl akf akd ako)) = (put σ m (m + 1) (mF m pm sta rdm st me tr mi slr (nI w) cha bm bc bl bch ask sn ks kw kt km hsh) (mA apg ade afo aro ale afi (arr 5 (up g (w - 1) (nf 0))) anl awh aod abo aof ama asd akr akl akf akd ako))
      rw [arr_ext (f := rot w nf) (g := up g (w - 1) (nf 0))]
      intro j hj
      unfold rot up
      grind
    | succ n ih =>
      intro k g hk hk1 hg
      refine wp_iload_2 d100_9 ?_
      refine wp_aload_0 d100_10 ?_
      refine wp_getP d100_11 (Nat.le_of_ble_eq_true rfl) kM.1 rfl ?_
      refine wp_icmp_geN d100_14 (by decide) (by omega) (by omega) (fun hq => absurd hq (by omega)) (fun h14 => ?_)
      refine wp_aload_0 d100_17 ?_
      refine wp_getP d100_18 (Nat.le_of_ble_eq_true rfl) kM.1 rfl ?_
      refine wp_iload_2 d100_21 ?_
      refine wp_iconst d100_22 ic_1 ?_
      refine wp_isubN d100_23 (by omega) ?_
      refine wp_aload_0 d100_24 ?_
      refine wp_getP d100_25 (Nat.le_of_ble_eq_true rfl) kM.1 rfl ?_
      refine wp_iload_2 d100_28 ?_
      refine wp_aldP d100_29 (kM.2 _ (Nat.le_of_ble_eq_true rfl)) rfl (by omega) (by decide) ?_
      refine wp_astN d100_30 (kM.2 _ (Nat.le_of_ble_eq_true rfl)) rfl (by omega) (by decide) ?_
      refine wp_iinc_2 d100_31 (Nat.le_of_ble_eq_true rfl) rfl (inc1 _) ?_
      refine wp_goto d100_34 (by decide) ?_
      exact ih (k + 1) _ (by omega) (by omega) (fun j => by unfold up; grind)
  refine ev_of (L := [(.ref m), .null, .null]) (by decide) rfl (Nat.le_of_ble_eq_true rfl) ?_
  refine wp_aload_0 d100_0 ?_
  refine wp_getP d100_1 (Nat.le_of_ble_eq_true rfl) kM.1 rfl ?_
  refine wp_iconst d100_4 ic_0 ?_
  refine wp_aldP d100_5 (kM.2 _ (Nat.le_of_ble_eq_true rfl)) rfl (by omega) (by decide) ?_
  refine wp_istore_1 d100_6 (Nat.le_of_ble_eq_true rfl) rfl ?_
  refine wp_iconst d100_7 ic_1 ?_
  refine wp_istore_2 d100_8 (Nat.le_of_ble_eq_true rfl) rfl ?_
  exact loop (w - 1) 1 nf (by omega) (by omega) (fun j => by grind)
theorem m_asItIs (kM : KM σ m) {fi le nf nl : Nat → Nat} : Ev 0 0 0 98 [.ref m] (put σ m (m + 1) (mF m pm sta rdm st me tr mi slr wa cha bm bc bl bch ask sn ks kw kt km hsh) (mA apg ade afo aro (arr 5 le) (arr 5 fi) (arr 5 nf) (arr 5 nl) awh aod abo aof ama asd akr akl akf akd ako)) none (put σ m (m + 1) (mF m pm sta rdm st me tr mi slr wa cha bm bc bl bch ask sn ks kw kt km hsh) (mA apg ade afo aro (arr 5 le) (arr 5 fi) (arr 5 fi) (arr 5 le) awh aod abo aof ama asd akr akl akf akd ako)) := by
  have loop : ∀ (n k : Nat) (f1 f2 : Nat → Nat), k + n = 5 → (∀ j, j < k → f1 j = fi j) → (∀ j, j < k → f2 j = le j) → WP 0 0 0 98 2 [.ref m, .int (nI k)] [] (put σ m (m + 1) (mF m pm sta rdm st me tr mi slr wa cha bm bc bl bch ask sn ks kw kt km hsh) (mA apg ade afo aro (arr 5 le) (arr 5 fi) (arr 5 f1) (arr 5 f2) awh aod abo aof ama asd akr akl akf akd ako)) none (put σ m (m + 1) (mF m pm sta rdm st me tr mi slr wa cha bm bc bl bch ask sn ks kw kt km hsh) (mA apg ade afo aro (arr 5 le) (arr 5 fi) (arr 5 fi) (arr 5 le) awh aod abo aof ama asd akr akl akf akd ako)) := by
    intro n
    induction n with
    | zero =>
      intro k f1 f2 hk h1 h2
      refine wp_iload_1 d98_2 ?_
      refine wp_iconst d98_3 ic_5 ?_
      refine wp_icmp_geN d98_4 (by decide) (by omega) (by omega) (fun h4 => ?_) (fun hq => absurd hq (by omega))
      refine WP.s ?_ (wp_vret d98_37 rfl rfl rfl)
      rw [arr_ext (f := f1) (g := fi) (fun j hj => h1 j (by omega)), arr_ext (f := f2) (g := le) (fun j hj => h2 j (by omega))]
    | succ n ih =>
      intro k f1 f2 hk h1 h2
      refine wp_iload_1 d98_2 ?_
      refine wp_iconst d98_3 ic_5 ?_
      refine wp_icmp_geN d98_4 (by decide) (by omega) (by omega) (fun hq => absurd hq (by omega)) (fun h4 => ?_)
      refine wp_aload_0 d98_7 ?_
      refine wp_getP d98_8 (Nat.le_of_ble_eq_true rfl) kM.1 rfl ?_
      refine wp_iload_1 d98_11 ?_
      refine wp_aload_0 d98_12 ?_
      refine wp_getP d98_13 (Nat.le_of_ble_eq_true rfl) kM.1 rfl ?_
      refine wp_iload_1 d98_16 ?_
      refine wp_aldP d98_17 (kM.2 _ (Nat.le_of_ble_eq_true rfl)) rfl (by omega) (by decide) ?_
      refine wp_astN d98_18 (kM.2 _ (Nat.le_of_ble_eq_true rfl)) rfl (by omega) (by decide) ?_
      refine wp_aload_0 d98_19 ?_
      refine wp_getP d98_20 (Nat.le_of_ble_eq_true rfl) kM.1 rfl ?_
      refine wp_iload_1 d98_23 ?_
      refine wp_aload_0 d98_24 ?_
      refine wp_getP d98_25 (Nat.le_of_ble_eq_true rfl) kM.1 rfl ?_
      refine wp_iload_1 d98_28 ?_
      refine wp_aldP d98_29 (kM.2 _ (Nat.le_of_ble_eq_true rfl)) rfl (by omega) (by decide) ?_
      refine wp_astN d98_30 (kM.2 _ (Nat.le_of_ble_eq_true rfl)) rfl (by omega) (by decide) ?_
      refine wp_iinc_1 d98_31 (Nat.le_of_ble_eq_true rfl) rfl (inc1 _) ?_
      refine wp_goto d98_34 (by decide) ?_
      exact ih (k + 1) _ _ (by omega) (fun j hj => by unfold up; grind) (fun j hj => by unfold up; grind)
  refine ev_of (L := [(.ref m), .null]) (by decide) rfl (Nat.le_of_ble_eq_true rfl) ?_
  refine wp_iconst d98_0 ic_0 ?_
  refine wp_istore_1 d98_1 (Nat.le_of_ble_eq_true rfl) rfl ?_
  exact loop 5 0 nf nl rfl (fun j hj => by omega) (fun j hj => by omega)
theorem m_layNow (kM : KM σ m) {fi le nf nl : Nat → Nat} : Ev 0 0 0 99 [.ref m] (put σ m (m + 1) (mF m pm sta rdm st me tr mi slr wa cha bm bc bl bch ask sn ks kw kt km hsh) (mA apg ade afo aro (arr 5 le) (arr 5 fi) (arr 5 nf) (arr 5 nl) awh aod abo aof ama asd akr akl akf akd ako)) none (put σ m (m + 1) (mF m pm sta rdm st me tr mi slr wa cha bm bc bl bch ask sn ks kw kt km hsh) (mA apg ade afo aro (arr 5 nl) (arr 5 nf) (arr 5 nf) (arr 5 nl) awh aod abo aof ama asd akr akl akf akd ako)) := by
  have loop : ∀ (n k : Nat) (f1 f2 : Nat → Nat), k + n = 5 → (∀ j, j < k → f1 j = nf j) → (∀ j, j < k → f2 j = nl j) → WP 0 0 0 99 2 [.ref m, .int (nI k)] [] (put σ m (m + 1) (mF m pm sta rdm st me tr mi slr wa cha bm bc bl bch ask sn ks kw kt km hsh) (mA apg ade afo aro (arr 5 f2) (arr 5 f1) (arr 5 nf) (arr 5 nl) awh aod abo aof ama asd akr akl akf akd ako)) none (put σ m (m + 1) (mF m pm sta rdm st me tr mi slr wa cha bm bc bl bch ask sn ks kw kt km hsh) (mA apg ade afo aro (arr 5 nl) (arr 5 nf) (arr 5 nf) (arr 5 nl) awh aod abo aof ama asd akr akl akf akd ako)) := by
    intro n
    induction n with
    | zero =>
      intro k f1 f2 hk h1 h2
      refine wp_iload_1 d99_2 ?_
      refine wp_iconst d99_3 ic_5 ?_
      refine wp_icmp_geN d99_4 (by decide) (by omega) (by omega) (fun h4 => ?_) (fun hq => absurd hq (by omega))
      refine WP.s ?_ (wp_vret d99_37 rfl rfl rfl)
      rw [arr_ext (f := f1) (g := nf) (fun j hj => h1 j (by omega)), arr_ext (f := f2) (g := nl) (fun j hj => h2 j (by omega))]
    | succ n ih =>
      intro k f1 f2 hk h1 h2
      refine wp_iload_1 d99_2 ?_
      refine wp_iconst d99_3 ic_5 ?_
      refine wp_icmp_geN d99_4 (by decide) (by omega) (by omega) (fun hq => absurd hq (by omega)) (fun h4 => ?_)
      refine wp_aload_0 d99_7 ?_
      refine wp_getP d99_8 (Nat.le_of_ble_eq_true rfl) kM.1 rfl ?_
      refine wp_iload_1 d99_11 ?_
      refine wp_aload_0 d99_12 ?_
      refine wp_getP d99_13 (Nat.le_of_ble_eq_true rfl) kM.1 rfl ?_
      refine wp_iload_1 d99_16 ?_
      refine wp_aldP d99_17 (kM.2 _ (Nat.le_of_ble_eq_true rfl)) rfl (by omega) (by decide) ?_
      refine wp_astN d99_18 (kM.2 _ (Nat.le_of_ble_eq_true rfl)) rfl (by omega) (by decide) ?_
      refine wp_aload_0 d99_19 ?_
      refine wp_getP d99_20 (Nat.le_of_ble_eq_true rfl) kM.1 rfl ?_
      refine wp_iload_1 d99_23 ?_
      refine wp_aload_0 d99_24 ?_
      refine wp_getP d99_25 (Nat.le_of_ble_eq_true rfl) kM.1 rfl ?_
      refine wp_iload_1 d99_28 ?_
      refine wp_aldP d99_29 (kM.2 _ (Nat.le_of_ble_eq_true rfl)) rfl (by omega) (by decide) ?_
      refine wp_astN d99_30 (kM.2 _ (Nat.le_of_ble_eq_true rfl)) rfl (by omega) (by decide) ?_
      refine wp_iinc_1 d99_31 (Nat.le_of_ble_eq_true rfl) rfl (inc1 _) ?_
      refine wp_goto d99_34 (by decide) ?_
      exact ih (k + 1) _ _ (by omega) (fun j hj => by unfold up; grind) (fun j hj => by unfold up; grind)
  refine ev_of (L := [(.ref m), .null]) (by decide) rfl (Nat.le_of_ble_eq_true rfl) ?_
  refine wp_iconst d99_0 ic_0 ?_
  refine wp_istore_1 d99_1 (Nat.le_of_ble_eq_true rfl) rfl ?_
  exact loop 5 0 fi le rfl (fun j hj => by omega) (fun j hj => by omega)

theorem m_paysAtF (kM : KM σ m) {ki sr fi : Nat → Nat} {to : Nat → Option Nat} {p dp : Nat} (hp : p < 5) (hf : fi p < 5) (hf1 : p ≠ 0 → fi (p - 1) < 5) (hk : ki (fi p) < 5) (hk1 : p ≠ 0 → ki (fi (p - 1)) < 5) (hdp : dp < 100) : Ev 0 0 0 92 [.ref m, .ref (m + 1 + 5), .int (nI p), .int (nI dp)] (put σ m (m + 1) (mF m pm sta rdm st me tr mi slr wa cha bm bc bl bch ask sn ks kw kt km hsh) (mA apg ade afo (arrI 15 (rw3 ki sr to)) ale (arr 5 fi) anf anl awh aod abo aof ama asd akr akl akf akd ako)) (some (.int (nI (payN ki fi p dp)))) (put σ m (m + 1) (mF m pm sta rdm st me tr mi slr wa cha bm bc bl bch ask sn ks kw kt km hsh) (mA apg ade afo (arrI 15 (rw3 ki sr to)) ale (arr 5 fi) anf anl awh aod abo aof ama asd akr akl akf akd ako)) := by
  have join : ∀ (h : Nat) (u6 u7 : Value), h ≤ 4 → WP 0 0 0 92 63 [.ref m, .ref (m + 1 + 5), .int (nI p), .int (nI dp), .int (nI (fi p)), .int (nI (ki (fi p))), u6, u7] [.int (nI h)] (put σ m (m + 1) (mF m pm sta rdm st me tr mi slr wa cha bm bc bl bch ask sn ks kw kt km hsh) (mA apg ade afo (arrI 15 (rw3 ki sr to)) ale (arr 5 fi) anf anl awh aod abo aof ama asd akr akl akf akd ako)) (some (.int (nI ((dp + 2 ^ h - 1) / 2 ^ h)))) (put σ m (m + 1) (mF m pm sta rdm st me tr mi slr wa cha bm bc bl bch ask sn ks kw kt km hsh) (mA apg ade afo (arrI 15 (rw3 ki sr to)) ale (arr 5 fi) anf anl awh aod abo aof ama asd akr akl akf akd ako)) := by
    intro h u6 u7 hh
    have b1 : 1 ≤ 2 ^ h := Nat.one_le_two_pow
    have b2 : 2 ^ h ≤ 2 ^ 4 := Nat.pow_le_pow_right (by decide) hh
    refine wp_istore_6 d92_63 (Nat.le_of_ble_eq_true rfl) rfl ?_
    refine wp_iconst d92_65 ic_1 ?_
    refine wp_iload_6 d92_66 ?_
    refine wp_ishlN d92_68 (by omega) (by omega) ?_
    refine wp_istore_7 d92_69 (Nat.le_of_ble_eq_true rfl) rfl ?_
    rw [Nat.one_mul]
    refine wp_iload_3 d92_71 ?_
    refine wp_iload_7 d92_72 ?_
    refine wp_iaddN d92_74 ?_
    refine wp_iconst d92_75 ic_1 ?_
    refine wp_isubN d92_76 (by omega) ?_
    refine wp_iload_7 d92_77 ?_
    refine wp_idivN d92_79 (by omega) (by omega) (by omega) ?_
    exact wp_iret d92_80 rfl rfl rfl
  refine ev_of (L := [(.ref m), (.ref (m + 1 + 5)), (.int (nI p)), (.int (nI dp)), .null, .null, .null, .null]) (by decide) rfl (Nat.le_of_ble_eq_true rfl) ?_
  refine wp_aload_1 d92_0 ?_
  refine wp_iload_2 d92_1 ?_
  refine wp_aldP d92_2 (kM.2 _ (Nat.le_of_ble_eq_true rfl)) rfl (by omega) (by decide) ?_
  refine wp_istore_4 d92_3 (Nat.le_of_ble_eq_true rfl) rfl ?_
  refine wp_aload_0 d92_5 ?_
  refine wp_getP d92_6 (Nat.le_of_ble_eq_true rfl) kM.1 rfl ?_
  refine wp_iconst d92_9 ic_3 ?_
  refine wp_iload_4 d92_10 ?_
  refine wp_imulN d92_12 ?_
  refine wp_aldP d92_13 (kM.2 _ (Nat.le_of_ble_eq_true rfl)) rfl (by omega) (by decide) ?_
  rw [rw_0]
  refine wp_istore_5 d92_14 (Nat.le_of_ble_eq_true rfl) rfl ?_
  refine wp_iload_2 d92_16 ?_
  refine wp_if_neN d92_17 (by decide) (by omega) (fun h17 => ?_) (fun h17 => ?_)
  · refine wp_iload_2 d92_30 ?_
    refine wp_if_leN d92_31 (by decide) (by omega) (fun h31 => ?_) (fun h31 => ?_)
    · exact absurd h31 h17
    · refine wp_iload_5 d92_34 ?_
      refine wp_iconst d92_36 ic_1 ?_
      have := hf1 h17
      refine wp_icmp_neN d92_37 (by decide) (by omega) (by omega) (fun h37 => ?_) (fun h37 => ?_)
      · refine wp_iload_2 d92_62 ?_
        refine WP.r ?_ (join p _ _ (by omega))
        simp [payN, hvN, h17, h37]
      · refine wp_aload_0 d92_40 ?_
        refine wp_getP d92_41 (Nat.le_of_ble_eq_true rfl) kM.1 rfl ?_
        refine wp_iconst d92_44 ic_3 ?_
        refine wp_aload_1 d92_45 ?_
        refine wp_iload_2 d92_46 ?_
        refine wp_iconst d92_47 ic_1 ?_
        refine wp_isubN d92_48 (by omega) ?_
        refine wp_aldP d92_49 (kM.2 _ (Nat.le_of_ble_eq_true rfl)) rfl (by omega) (by decide) ?_
        refine wp_imulN d92_50 ?_
        refine wp_aldP d92_51 (kM.2 _ (Nat.le_of_ble_eq_true rfl)) rfl (by omega) (by decide) ?_
        rw [rw_0]
        have := hk1 h17
        refine wp_iconst d92_52 ic_4 ?_
        refine wp_icmp_neN d92_53 (by decide) (by omega) (by omega) (fun h53 => ?_) (fun h53 => ?_)
        · refine wp_iload_2 d92_62 ?_
          refine WP.r ?_ (join p _ _ (by omega))
          simp [payN, hvN, h17, h37, h53]
        · refine wp_iload_2 d92_56 ?_
          refine wp_iconst d92_57 ic_1 ?_
          refine wp_isubN d92_58 (by omega) ?_
          refine wp_goto d92_59 (by decide) ?_
          refine WP.r ?_ (join (p - 1) _ _ (by omega))
          simp [payN, hvN, h17, h37, h53]
  · subst h17
    refine wp_iload_5 d92_20 ?_
    refine wp_iconst d92_22 ic_2 ?_
    refine wp_icmp_leN d92_23 (by decide) (by omega) (by omega) (fun h23 => ?_) (fun h23 => ?_)
    · refine wp_iload_2 d92_30 ?_
      refine wp_if_leN d92_31 (by decide) (by omega) (fun h31 => ?_) (fun h31 => ?_)
      · refine wp_iload_2 d92_62 ?_
        refine WP.r ?_ (join 0 _ _ (by omega))
        simp [payN, hvN, show ¬ 2 < ki (fi 0) by omega]
      · exact absurd rfl h31
    · refine wp_iconst d92_26 ic_1 ?_
      refine wp_goto d92_27 (by decide) ?_
      refine WP.r ?_ (join 1 _ _ (by omega))
      simp [payN, hvN, h23]

theorem m_paysAtN (kM : KM σ m) {ki sr fi : Nat → Nat} {to : Nat → Option Nat} {p dp : Nat} (hp : p < 5) (hf : fi p < 5) (hf1 : p ≠ 0 → fi (p - 1) < 5) (hk : ki (fi p) < 5) (hk1 : p ≠ 0 → ki (fi (p - 1)) < 5) (hdp : dp < 100) : Ev 0 0 0 92 [.ref m, .ref (m + 1 + 6), .int (nI p), .int (nI dp)] (put σ m (m + 1) (mF m pm sta rdm st me tr mi slr wa cha bm bc bl bch ask sn ks kw kt km hsh) (mA apg ade afo (arrI 15 (rw3 ki sr to)) ale afi (arr 5 fi) anl awh aod abo aof ama asd akr akl akf akd ako)) (some (.int (nI (payN ki fi p dp)))) (put σ m (m + 1) (mF m pm sta rdm st me tr mi slr wa cha bm bc bl bch ask sn ks kw kt km hsh) (mA apg ade afo (arrI 15 (rw3 ki sr to)) ale afi (arr 5 fi) anl awh aod abo aof ama asd akr akl akf akd ako)) := by
  have join : ∀ (h : Nat) (u6 u7 : Value), h ≤ 4 → WP 0 0 0 92 63 [.ref m, .ref (m + 1 + 6), .int (nI p), .int (nI dp), .int (nI (fi p)), .int (nI (ki (fi p))), u6, u7] [.int (nI h)] (put σ m (m + 1) (mF m pm sta rdm st me tr mi slr wa cha bm bc bl bch ask sn ks kw kt km hsh) (mA apg ade afo (arrI 15 (rw3 ki sr to)) ale afi (arr 5 fi) anl awh aod abo aof ama asd akr akl akf akd ako)) (some (.int (nI ((dp + 2 ^ h - 1) / 2 ^ h)))) (put σ m (m + 1) (mF m pm sta rdm st me tr mi slr wa cha bm bc bl bch ask sn ks kw kt km hsh) (mA apg ade afo (arrI 15 (rw3 ki sr to)) ale afi (arr 5 fi) anl awh aod abo aof ama asd akr akl akf akd ako)) := by
    intro h u6 u7 hh
    have b1 : 1 ≤ 2 ^ h := Nat.one_le_two_pow
    have b2 : 2 ^ h ≤ 2 ^ 4 := Nat.pow_le_pow_right (by decide) hh
    refine wp_istore_6 d92_63 (Nat.le_of_ble_eq_true rfl) rfl ?_
    refine wp_iconst d92_65 ic_1 ?_
    refine wp_iload_6 d92_66 ?_
    refine wp_ishlN d92_68 (by omega) (by omega) ?_
    refine wp_istore_7 d92_69 (Nat.le_of_ble_eq_true rfl) rfl ?_
    rw [Nat.one_mul]
    refine wp_iload_3 d92_71 ?_
    refine wp_iload_7 d92_72 ?_
    refine wp_iaddN d92_74 ?_
    refine wp_iconst d92_75 ic_1 ?_
    refine wp_isubN d92_76 (by omega) ?_
    refine wp_iload_7 d92_77 ?_
    refine wp_idivN d92_79 (by omega) (by omega) (by omega) ?_
    exact wp_iret d92_80 rfl rfl rfl
  refine ev_of (L := [(.ref m), (.ref (m + 1 + 6)), (.int (nI p)), (.int (nI dp)), .null, .null, .null, .null]) (by decide) rfl (Nat.le_of_ble_eq_true rfl) ?_
  refine wp_aload_1 d92_0 ?_
  refine wp_iload_2 d92_1 ?_
  refine wp_aldP d92_2 (kM.2 _ (Nat.le_of_ble_eq_true rfl)) rfl (by omega) (by decide) ?_
  refine wp_istore_4 d92_3 (Nat.le_of_ble_eq_true rfl) rfl ?_
  refine wp_aload_0 d92_5 ?_
  refine wp_getP d92_6 (Nat.le_of_ble_eq_true rfl) kM.1 rfl ?_
  refine wp_iconst d92_9 ic_3 ?_
  refine wp_iload_4 d92_10 ?_
  refine wp_imulN d92_12 ?_
  refine wp_aldP d92_13 (kM.2 _ (Nat.le_of_ble_eq_true rfl)) rfl (by omega) (by decide) ?_
  rw [rw_0]
  refine wp_istore_5 d92_14 (Nat.le_of_ble_eq_true rfl) rfl ?_
  refine wp_iload_2 d92_16 ?_
  refine wp_if_neN d92_17 (by decide) (by omega) (fun h17 => ?_) (fun h17 => ?_)
  · refine wp_iload_2 d92_30 ?_
    refine wp_if_leN d92_31 (by decide) (by omega) (fun h31 => ?_) (fun h31 => ?_)
    · exact absurd h31 h17
    · refine wp_iload_5 d92_34 ?_
      refine wp_iconst d92_36 ic_1 ?_
      have := hf1 h17
      refine wp_icmp_neN d92_37 (by decide) (by omega) (by omega) (fun h37 => ?_) (fun h37 => ?_)
      · refine wp_iload_2 d92_62 ?_
        refine WP.r ?_ (join p _ _ (by omega))
        simp [payN, hvN, h17, h37]
      · refine wp_aload_0 d92_40 ?_
        refine wp_getP d92_41 (Nat.le_of_ble_eq_true rfl) kM.1 rfl ?_
        refine wp_iconst d92_44 ic_3 ?_
        refine wp_aload_1 d92_45 ?_
        refine wp_iload_2 d92_46 ?_
        refine wp_iconst d92_47 ic_1 ?_
        refine wp_isubN d92_48 (by omega) ?_
        refine wp_aldP d92_49 (kM.2 _ (Nat.le_of_ble_eq_true rfl)) rfl (by omega) (by decide) ?_
        refine wp_imulN d92_50 ?_
        refine wp_aldP d92_51 (kM.2 _ (Nat.le_of_ble_eq_true rfl)) rfl (by omega) (by decide) ?_
        rw [rw_0]
        have := hk1 h17
        refine wp_iconst d92_52 ic_4 ?_
        refine wp_icmp_neN d92_53 (by decide) (by omega) (by omega) (fun h53 => ?_) (fun h53 => ?_)
        · refine wp_iload_2 d92_62 ?_
          refine WP.r ?_ (join p _ _ (by omega))
          simp [payN, hvN, h17, h37, h53]
        · refine wp_iload_2 d92_56 ?_
          refine wp_iconst d92_57 ic_1 ?_
          refine wp_isubN d92_58 (by omega) ?_
          refine wp_goto d92_59 (by decide) ?_
          refine WP.r ?_ (join (p - 1) _ _ (by omega))
          simp [payN, hvN, h17, h37, h53]
  · subst h17
    refine wp_iload_5 d92_20 ?_
    refine wp_iconst d92_22 ic_2 ?_
    refine wp_icmp_leN d92_23 (by decide) (by omega) (by omega) (fun h23 => ?_) (fun h23 => ?_)
    · refine wp_iload_2 d92_30 ?_
      refine wp_if_leN d92_31 (by decide) (by omega) (fun h31 => ?_) (fun h31 => ?_)
      · refine wp_iload_2 d92_62 ?_
        refine WP.r ?_ (join 0 _ _ (by omega))
        simp [payN, hvN, show ¬ 2 < ki (fi 0) by omega]
      · exact absurd rfl h31
    · refine wp_iconst d92_26 ic_1 ?_
      refine wp_goto d92_27 (by decide) ?_
      refine WP.r ?_ (join 1 _ _ (by omega))
      simp [payN, hvN, h23]


end S05_mo1
end
section

def inB (x : Int32) (a b : Int) : Bool := decide (a ≤ x.toInt ∧ x.toInt ≤ b)
theorem inB_t {x : Int32} {a b : Int} : inB x a b = true ↔ a ≤ x.toInt ∧ x.toInt ≤ b := by simp [inB]
theorem inB_f {x : Int32} {a b : Int} : inB x a b = false ↔ ¬ (a ≤ x.toInt ∧ x.toInt ≤ b) := by simp [inB]
theorem nI_to {x : Int32} (h : 0 ≤ x.toInt) : x = nI x.toInt.toNat := by
  have h0 : ¬ x < 0 := by
    rw [Int32.lt_iff_toInt_lt]
    have : (0 : Int32).toInt = 0 := rfl
    omega
  obtain ⟨j, hj, e⟩ := nI_of h0
  rw [e, nI_toInt hj]
  rfl
theorem lt_nI {x : Int32} {a : Nat} (ha : a < 2 ^ 31) : x < nI a ↔ x.toInt < a := by rw [Int32.lt_iff_toInt_lt, nI_toInt ha]
theorem gt_nI {x : Int32} {a : Nat} (ha : a < 2 ^ 31) : nI a < x ↔ (a : Int) < x.toInt := by rw [Int32.lt_iff_toInt_lt, nI_toInt ha]
theorem le_nI {x : Int32} {a : Nat} (ha : a < 2 ^ 31) : x ≤ nI a ↔ x.toInt ≤ a := by rw [Int32.le_iff_toInt_le, nI_toInt ha]
theorem ge_nI {x : Int32} {a : Nat} (ha : a < 2 ^ 31) : nI a ≤ x ↔ (a : Int) ≤ x.toInt := by rw [Int32.le_iff_toInt_le, nI_toInt ha]
theorem eq_nI {x : Int32} {a : Nat} (ha : a < 2 ^ 31) : x = nI a ↔ x.toInt = a := by
  constructor
  · intro e; rw [e, nI_toInt ha]
  · intro e
    rw [nI_to (x := x) (by omega), e]
    rfl
theorem lz_lt (x y : Int64) : lg_cmp x y < 0 ↔ x < y := by
  unfold lg_cmp
  rw [Int64.lt_iff_toInt_lt]
  by_cases h1 : y < x
  · have h1' := Int64.lt_iff_toInt_lt.mp h1
    simp only [h1, if_true]
    exact ⟨fun h => absurd h (by decide), fun h => by omega⟩
  · have h1' := mt Int64.lt_iff_toInt_lt.mpr h1
    by_cases h2 : x = y
    · subst h2
      simp only [h1, if_false, if_true]
      exact ⟨fun h => absurd h (by decide), fun h => by omega⟩
    · simp only [h1, h2, if_false]
      refine ⟨fun _ => ?_, fun _ => by decide⟩
      have : x.toInt ≠ y.toInt := fun e => h2 (Int64.toInt_inj.mp e)
      omega
theorem lz_gt (x y : Int64) : 0 < lg_cmp x y ↔ y < x := by
  unfold lg_cmp
  by_cases h1 : y < x
  · simp only [h1, if_true]
    exact ⟨fun _ => trivial, fun _ => by decide⟩
  · by_cases h2 : x = y
    · subst h2
      simp only [h1, if_false, if_true]
      exact ⟨fun h => absurd h (by decide), fun h => absurd h (by simp)⟩
    · simp only [h1, h2, if_false]
      exact ⟨fun h => absurd h (by decide), fun h => absurd h (by simp)⟩
theorem x64 (x : Int32) : x.toInt64.toInt = x.toInt := Int32.toInt_toInt64 x
theorem pred64 {a : Nat} (h : a < 2 ^ 30) : ((nI a - nI 1).toInt64).toInt = (a : Int) - 1 := by rw [x64, pk_sub_toInt h (by decide)]; rfl
theorem lk_787 : Int64.ofInt 787 = lN 787 := by decide
theorem lk_31 : Int64.ofInt 31 = lN 31 := by decide
theorem lk_126 : Int64.ofInt 126 = lN 126 := by decide
theorem lk_48 : Int64.ofInt 48 = lN 48 := by decide
theorem lk_57 : Int64.ofInt 57 = lN 57 := by decide
theorem lk_4 : Int64.ofInt 4 = lN 4 := by decide
theorem lk_99 : Int64.ofInt 99 = lN 99 := by decide
theorem lk_9 : Int64.ofInt 9 = lN 9 := by decide
theorem lk_10 : Int64.ofInt 10 = lN 10 := by decide
theorem lk_15 : Int64.ofInt 15 = lN 15 := by decide
theorem lk_6 : Int64.ofInt 6 = lN 6 := by decide
theorem lk_14 : Int64.ofInt 14 = lN 14 := by decide
theorem lk_m1 : Int64.ofInt (-1) = -1 := by decide
theorem lk_60 : Int64.ofInt 60 = lN 60 := by decide
theorem lk_2 : Int64.ofInt 2 = lN 2 := by decide
theorem lk_1103515245 : Int64.ofInt 1103515245 = lN 1103515245 := by decide
theorem lk_12345 : Int64.ofInt 12345 = lN 12345 := by decide
theorem lk_2147483647 : Int64.ofInt 2147483647 = lN 2147483647 := by decide
theorem lk_2147483648 : Int64.ofInt 2147483648 = lN 2147483648 := by decide
theorem ik_65536 : Int32.ofInt 65536 = nI 65536 := by decide
theorem bi_dec {x : Int32} {n : Nat} (h : x.toInt = n) (hn : n < 2 ^ 31) : x = nI n := (eq_nI hn).mpr h
/-! the page -/
def dgt (c : Nat) : Bool := decide (48 ≤ c ∧ c ≤ 57)
def goN (s r c : Nat) : Bool × Nat × Nat := if s = 0 ∨ (s = 1 ∧ c ≠ 59) then (dgt c && decide (r + 1 < 7), 1, r + 1) else (decide (s = 1) || (decide (s = 2) && dgt c), s + 1, r)
def flt (pg : Nat → Nat) : Nat → Nat → Nat → Nat → Nat × Nat × Nat
  | 0, k, s, r => (k, s, r)
  | n + 1, k, s, r => if (goN s r (pg k)).1 then flt pg n (k + 1) (goN s r (pg k)).2.1 (goN s r (pg k)).2.2 else (k, (goN s r (pg k)).2.1, (goN s r (pg k)).2.2)
def r_letter (pm : Nat) (x : Int32) : Int32 := if inB x 1 126 then (if pm = 10 then -104 else nI (pm + 1)) else -102
def n_letter (pm : Nat) (x : Int32) : Nat := if inB x 1 126 ∧ pm ≠ 10 then pm + 1 else pm
def p_letter (pm : Nat) (pg : Nat → Nat) (x : Int32) : Nat → Nat := if inB x 1 126 ∧ pm ≠ 10 then up pg pm x.toInt.toNat else pg
/-! walkers -/
def pl : Nat → (Nat → Nat) → Nat → Nat
  | 0, _, _ => 0
  | n + 1, fi, v => if fi n = v then n else pl n fi v
/-- the file is a file of w walkers -/
def PF (w : Nat) (fi : Nat → Nat) : Prop := (∀ p, p < w → fi p < w) ∧ (∀ p q, p < w → q < w → fi p = fi q → p = q) ∧ ∀ v, v < w → ∃ p, p < w ∧ fi p = v
theorem pl_eq {fi : Nat → Nat} : ∀ {w p : Nat}, (∀ p q, p < w → q < w → fi p = fi q → p = q) → p < w → pl w fi (fi p) = p
  | 0, p, _, h => by omega
  | n + 1, p, hi, h => by
    unfold pl
    by_cases e : fi n = fi p
    · rw [if_pos e]; exact hi n p (by omega) h e
    · rw [if_neg e]
      refine pl_eq (fun a b ha hb => hi a b (by omega) (by omega)) ?_
      have : p ≠ n := fun z => e (by rw [z])
      omega
theorem PF_pl {w v : Nat} {fi : Nat → Nat} (h : PF w fi) (hv : v < w) : pl w fi v < w ∧ fi (pl w fi v) = v := by
  obtain ⟨p, hp, rfl⟩ := h.2.2 v hv
  rw [pl_eq h.2.1 hp]
  exact ⟨hp, rfl⟩
/-- how often a walker was the first, of the first n stretches -/
def frN (fo : Nat → Option Nat) (v : Nat) : Nat → Nat
  | 0 => 0
  | n + 1 => frN fo v n + (if fo n = some v then 1 else 0)
theorem frN_le (fo : Nat → Option Nat) (v : Nat) : ∀ n, frN fo v n ≤ n
  | 0 => Nat.le_refl _
  | n + 1 => by have := frN_le fo v n; unfold frN; split <;> omega
/-- what about() tells -/
def r_tells (st tr : Nat) (ki sr le fi de : Nat → Nat) (to fo : Nat → Option Nat) (w v : Nat) (x : Int32) : Int32 := match x.toInt with
  | 0 => nI (ki v)
  | 1 => nI (sr v)
  | 2 => nI (le v)
  | 3 => nI (pl w fi v)
  | 4 => nI (frN fo v tr)
  | 5 => if tr = st then -1 else nI (payN ki fi (pl w fi v) (de tr))
  | 6 => eo (to v)
  | _ => -102
def r_as (ki : Nat → Nat) (v : Nat) (x : Int32) : Int32 := if inB x 0 4 then (if x.toInt = 0 ∨ x.toInt = ki v ∨ (x.toInt = 3 ∧ ki v = 4) then nI v else -1) else -102
def r_stretch (de : Nat → Nat) (fo : Nat → Option Nat) (k : Nat) (x : Int32) : Int32 := if x.toInt = 0 then nI (de k) else if x.toInt = 1 then eo (fo k) else -102
end
section
section S06_mo2b
variable {σ : Sto} {m : Nat} {pm sta rdm st me tr mi slr wa cha bm bc bl bch ask sn ks kw kt km : Int32} {hsh : Int64} {apg ade afo aro ale afi anf anl awh aod abo aof ama asd akr akl akf akd ako : List Int32}

theorem m_in (x : Int32) {lo hi : Int64} {a b : Int} (ha : lo.toInt = a) (hb : hi.toInt = b) {σ : Sto} : Ev 0 0 0 79 [.long x.toInt64, .long lo, .long hi] σ (some (.int (bi (inB x a b)))) σ := by
  subst ha; subst hb
  refine ev_of (L := [(.long x.toInt64), .null, (.long lo), .null, (.long hi), .null]) (by decide) rfl (Nat.le_of_ble_eq_true rfl) ?_
  refine wp_lload_0 d79_0 ?_
  refine wp_lload_2 d79_1 ?_
  refine wp_lcmp d79_2 ?_
  refine wp_if_lt d79_3 (by decide) (fun h3 => ?_) (fun h3 => ?_)
  · have h := Int64.lt_iff_toInt_lt.mp ((lz_lt _ _).mp h3)
    rw [x64] at h
    refine wp_iconst d79_17 ic_0 ?_
    refine WP.r ?_ (wp_zret d79_18 rfl nI_01 rfl rfl)
    rw [inB_f.mpr (by omega)]
    rfl
  · have h := mt (fun z => (lz_lt _ _).mpr (Int64.lt_iff_toInt_lt.mpr z)) h3
    rw [x64] at h
    refine wp_lload_0 d79_6 ?_
    refine wp_lload_4 d79_7 ?_
    refine wp_lcmp d79_9 ?_
    refine wp_if_gt d79_10 (by decide) (fun h10 => ?_) (fun h10 => ?_)
    · have h2 := Int64.lt_iff_toInt_lt.mp ((lz_gt _ _).mp h10)
      rw [x64] at h2
      refine wp_iconst d79_17 ic_0 ?_
      refine WP.r ?_ (wp_zret d79_18 rfl nI_01 rfl rfl)
      rw [inB_f.mpr (by omega)]
      rfl
    · have h2 := mt (fun z => (lz_gt _ _).mpr (Int64.lt_iff_toInt_lt.mpr z)) h10
      rw [x64] at h2
      refine wp_iconst d79_13 ic_1 ?_
      refine wp_goto d79_14 (by decide) ?_
      refine WP.r ?_ (wp_zret d79_18 rfl nI_11 rfl rfl)
      rw [inB_t.mpr (by omega)]
      rfl
theorem m_letter (kM : KM σ m) {pmN : Nat} {pg : Nat → Nat} (hpm : pmN ≤ 10) (x : Int32) : Ev 1 0 0 80 [.ref m, .int x] (put σ m (m + 1) (mF m (nI pmN) sta rdm st me tr mi slr wa cha bm bc bl bch ask sn ks kw kt km hsh) (mA (arr 10 pg) ade afo aro ale afi anf anl awh aod abo aof ama asd akr akl akf akd ako)) (some (.int (r_letter pmN x))) (put σ m (m + 1) (mF m (nI (n_letter pmN x)) sta rdm st me tr mi slr wa cha bm bc bl bch ask sn ks kw kt km hsh) (mA (arr 10 (p_letter pmN pg x)) ade afo aro ale afi anf anl awh aod abo aof ama asd akr akl akf akd ako)) := by
  refine ev_of (L := [(.ref m), (.int x)]) (by decide) rfl (Nat.le_of_ble_eq_true rfl) ?_
  refine wp_iload_1 d80_0 ?_
  refine wp_i2l d80_1 ?_
  refine wp_lconst d80_2 (v := lN 1) rfl ?_
  refine wp_ldc2 d80_3 (by decide) rfl lk_126 ?_
  refine wp_S3r d80_6 rfl ((m_in x (a := 1) (b := 126) (by decide) (by decide))) (Nat.le_of_ble_eq_true rfl) (Nat.le_of_ble_eq_true rfl) ?_
  refine wp_if_neB d80_9 (by decide) (fun h9 => ?_) (fun h9 => ?_)
  · rw [inB_t] at h9
    refine wp_aload_0 d80_15 ?_
    refine wp_getP d80_16 (Nat.le_of_ble_eq_true rfl) kM.1 rfl ?_
    refine wp_bipush d80_19 bi_10 ?_
    refine wp_icmp_neN d80_21 (by decide) (by omega) (by omega) (fun h21 => ?_) (fun h21 => ?_)
    · refine wp_aload_0 d80_27 ?_
      refine wp_getP d80_28 (Nat.le_of_ble_eq_true rfl) kM.1 rfl ?_
      refine wp_aload_0 d80_31 ?_
      refine wp_getP d80_32 (Nat.le_of_ble_eq_true rfl) kM.1 rfl ?_
      refine wp_iload_1 d80_35 ?_
      rw [nI_to (x := x) (by omega)]
      refine wp_astN d80_36 (kM.2 _ (Nat.le_of_ble_eq_true rfl)) rfl (by omega) (by decide) ?_
      refine wp_aload_0 d80_37 ?_
      refine wp_dup d80_38 rfl ?_
      refine wp_getP d80_39 (Nat.le_of_ble_eq_true rfl) kM.1 rfl ?_
      refine wp_iconst d80_42 ic_1 ?_
      refine wp_iaddN d80_43 ?_
      refine wp_putIP d80_44 kM.1 ?_
      refine wp_aload_0 d80_47 ?_
      refine wp_getP d80_48 (Nat.le_of_ble_eq_true rfl) kM.1 rfl ?_
      have e1 : n_letter pmN (nI x.toInt.toNat) = pmN + 1 := by rw [← nI_to (x := x) (by omega)]; simp [n_letter, inB_t, h9, h21]
      have e2 : p_letter pmN pg (nI x.toInt.toNat) = up pg pmN x.toInt.toNat := by rw [← nI_to (x := x) (by omega)]; simp [p_letter, inB_t, h9, h21]
      have e3 : r_letter pmN (nI x.toInt.toNat) = nI (pmN + 1) := by rw [← nI_to (x := x) (by omega)]; simp [r_letter, inB_t, h9, h21]
      rw [e1, e2, e3]
      exact wp_iret d80_51 rfl rfl rfl
    · refine wp_bipush d80_24 bi_m104 ?_
      subst h21
      rw [show n_letter 10 x = 10 by simp [n_letter], show p_letter 10 pg x = pg by simp [p_letter], show r_letter 10 x = -104 by simp [r_letter, inB_t, h9]]
      exact wp_iret d80_26 rfl rfl rfl
  · refine wp_bipush d80_12 bi_m102 ?_
    rw [show n_letter pmN x = pmN by simp [n_letter, h9], show p_letter pmN pg x = pg by simp [p_letter, h9], show r_letter pmN x = -102 by simp [r_letter, h9]]
    exact wp_iret d80_14 rfl rfl rfl
theorem m_blank (kM : KM σ m) : Ev 0 0 0 81 [.ref m] (put σ m (m + 1) (mF m pm sta rdm st me tr mi slr wa cha bm bc bl bch ask sn ks kw kt km hsh) (mA apg ade afo aro ale afi anf anl awh aod abo aof ama asd akr akl akf akd ako)) (some (.int pm)) (put σ m (m + 1) (mF m (nI 0) sta rdm st me tr mi slr wa cha bm bc bl bch ask sn ks kw kt km hsh) (mA apg ade afo aro ale afi anf anl awh aod abo aof ama asd akr akl akf akd ako)) := by
  refine ev_of (L := [(.ref m), .null]) (by decide) rfl (Nat.le_of_ble_eq_true rfl) ?_
  refine wp_aload_0 d81_0 ?_
  refine wp_getP d81_1 (Nat.le_of_ble_eq_true rfl) kM.1 rfl ?_
  refine wp_istore_1 d81_4 (Nat.le_of_ble_eq_true rfl) rfl ?_
  refine wp_aload_0 d81_5 ?_
  refine wp_iconst d81_6 ic_0 ?_
  refine wp_putIP d81_7 kM.1 ?_
  refine wp_iload_1 d81_10 ?_
  exact wp_iret d81_11 rfl rfl rfl
theorem m_isDigit {c : Nat} (hc : c < 1000) : Ev 1 0 0 82 [.int (nI c)] σ (some (.int (bi (dgt c)))) σ := by
  refine ev_of (L := [(.int (nI c))]) (by decide) rfl (Nat.le_of_ble_eq_true rfl) ?_
  refine wp_iload_0 d82_0 ?_
  refine wp_i2l d82_1 ?_
  refine wp_ldc2 d82_2 (by decide) rfl lk_48 ?_
  refine wp_ldc2 d82_5 (by decide) rfl lk_57 ?_
  refine wp_S3r d82_8 rfl ((m_in (nI c) (a := 48) (b := 57) (by decide) (by decide))) (Nat.le_of_ble_eq_true rfl) (Nat.le_of_ble_eq_true rfl) ?_
  refine WP.r ?_ (wp_zret d82_11 rfl (bi_01 _) rfl rfl)
  have : inB (nI c) 48 57 = dgt c := by
    unfold inB dgt
    rw [nI_toInt (by omega)]
    congr 1
    apply propext
    omega
  rw [this]
theorem m_go (kM : KM σ m) {s r c : Nat} (hs : s < 100) (hr : r < 100) (hc : c < 1000) : Ev 2 0 0 83 [.ref m, .int (nI c)] (put σ m (m + 1) (mF m pm (nI s) (nI r) st me tr mi slr wa cha bm bc bl bch ask sn ks kw kt km hsh) (mA apg ade afo aro ale afi anf anl awh aod abo aof ama asd akr akl akf akd ako)) (some (.int (bi (goN s r c).1))) (put σ m (m + 1) (mF m pm (nI (goN s r c).2.1) (nI (goN s r c).2.2) st me tr mi slr wa cha bm bc bl bch ask sn ks kw kt km hsh) (mA apg ade afo aro ale afi anf anl awh aod abo aof ama asd akr akl akf akd ako)) := by
  have A : (s = 0 ∨ (s = 1 ∧ c ≠ 59)) → WP 2 0 0 83 21 [.ref m, .int (nI c), .null] [] (put σ m (m + 1) (mF m pm (nI s) (nI r) st me tr mi slr wa cha bm bc bl bch ask sn ks kw kt km hsh) (mA apg ade afo aro ale afi anf anl awh aod abo aof ama asd akr akl akf akd ako)) (some (.int (bi (goN s r c).1))) (put σ m (m + 1) (mF m pm (nI (goN s r c).2.1) (nI (goN s r c).2.2) st me tr mi slr wa cha bm bc bl bch ask sn ks kw kt km hsh) (mA apg ade afo aro ale afi anf anl awh aod abo aof ama asd akr akl akf akd ako)) := by
    intro h
    have e : goN s r c = (dgt c && decide (r + 1 < 7), 1, r + 1) := by simp only [goN, h, if_true]
    rw [e]
    refine wp_aload_0 d83_21 ?_
    refine wp_iconst d83_22 ic_1 ?_
    refine wp_putIP d83_23 kM.1 ?_
    refine wp_aload_0 d83_26 ?_
    refine wp_dup d83_27 rfl ?_
    refine wp_getP d83_28 (Nat.le_of_ble_eq_true rfl) kM.1 rfl ?_
    refine wp_iconst d83_31 ic_1 ?_
    refine wp_iaddN d83_32 ?_
    refine wp_putIP d83_33 kM.1 ?_
    refine wp_iload_1 d83_36 ?_
    refine wp_S1r d83_37 rfl ((m_isDigit hc)) (Nat.le_of_ble_eq_true rfl) (Nat.le_of_ble_eq_true rfl) ?_
    refine wp_if_eqB d83_40 (by decide) (fun h40 => ?_) (fun h40 => ?_)
    · refine wp_iconst d83_56 ic_0 ?_
      exact wp_zret d83_57 rfl nI_01 (by simp [h40, bi]; rfl) rfl
    · refine wp_aload_0 d83_43 ?_
      refine wp_getP d83_44 (Nat.le_of_ble_eq_true rfl) kM.1 rfl ?_
      refine wp_bipush d83_47 bi_7 ?_
      refine wp_icmp_geN d83_49 (by decide) (by omega) (by omega) (fun h49 => ?_) (fun h49 => ?_)
      · refine wp_iconst d83_56 ic_0 ?_
        exact wp_zret d83_57 rfl nI_01 (by simp [show ¬ (r + 1 < 7) by omega, bi]; rfl) rfl
      · refine wp_iconst d83_52 ic_1 ?_
        refine wp_goto d83_53 (by decide) ?_
        exact wp_zret d83_57 rfl nI_11 (by simp [h40, h49, bi]; rfl) rfl
  have Bq : ∀ p : Bool, (decide (s = 1) || (decide (s = 2) && dgt c)) = p → ¬ (s = 0 ∨ (s = 1 ∧ c ≠ 59)) → WP 2 0 0 83 86 [.ref m, .int (nI c), .null] [.int (bi p)] (put σ m (m + 1) (mF m pm (nI s) (nI r) st me tr mi slr wa cha bm bc bl bch ask sn ks kw kt km hsh) (mA apg ade afo aro ale afi anf anl awh aod abo aof ama asd akr akl akf akd ako)) (some (.int (bi (goN s r c).1))) (put σ m (m + 1) (mF m pm (nI (goN s r c).2.1) (nI (goN s r c).2.2) st me tr mi slr wa cha bm bc bl bch ask sn ks kw kt km hsh) (mA apg ade afo aro ale afi anf anl awh aod abo aof ama asd akr akl akf akd ako)) := by
    intro p hp h
    have e : goN s r c = (p, s + 1, r) := by simp only [goN, h, if_false, hp]
    rw [e]
    refine wp_istore_2 d83_86 (Nat.le_of_ble_eq_true rfl) rfl ?_
    refine wp_aload_0 d83_87 ?_
    refine wp_dup d83_88 rfl ?_
    refine wp_getP d83_89 (Nat.le_of_ble_eq_true rfl) kM.1 rfl ?_
    refine wp_iconst d83_92 ic_1 ?_
    refine wp_iaddN d83_93 ?_
    refine wp_putIP d83_94 kM.1 ?_
    refine wp_iload_2 d83_97 ?_
    exact wp_zret d83_98 rfl (bi_01 _) rfl rfl
  have Bs : ¬ (s = 0 ∨ (s = 1 ∧ c ≠ 59)) → WP 2 0 0 83 58 [.ref m, .int (nI c), .null] [] (put σ m (m + 1) (mF m pm (nI s) (nI r) st me tr mi slr wa cha bm bc bl bch ask sn ks kw kt km hsh) (mA apg ade afo aro ale afi anf anl awh aod abo aof ama asd akr akl akf akd ako)) (some (.int (bi (goN s r c).1))) (put σ m (m + 1) (mF m pm (nI (goN s r c).2.1) (nI (goN s r c).2.2) st me tr mi slr wa cha bm bc bl bch ask sn ks kw kt km hsh) (mA apg ade afo aro ale afi anf anl awh aod abo aof ama asd akr akl akf akd ako)) := by
    intro h
    refine wp_aload_0 d83_58 ?_
    refine wp_getP d83_59 (Nat.le_of_ble_eq_true rfl) kM.1 rfl ?_
    refine wp_iconst d83_62 ic_1 ?_
    refine wp_icmp_eqN d83_63 (by decide) (by omega) (by omega) (fun h63 => ?_) (fun h63 => ?_)
    · refine wp_iconst d83_81 ic_1 ?_
      refine wp_goto d83_82 (by decide) ?_
      exact Bq true (by simp [h63]) h
    · refine wp_aload_0 d83_66 ?_
      refine wp_getP d83_67 (Nat.le_of_ble_eq_true rfl) kM.1 rfl ?_
      refine wp_iconst d83_70 ic_2 ?_
      refine wp_icmp_neN d83_71 (by decide) (by omega) (by omega) (fun h71 => ?_) (fun h71 => ?_)
      · refine wp_iconst d83_85 ic_0 ?_
        exact Bq false (by simp [h63, h71]) h
      · refine wp_iload_1 d83_74 ?_
        refine wp_S1r d83_75 rfl ((m_isDigit hc)) (Nat.le_of_ble_eq_true rfl) (Nat.le_of_ble_eq_true rfl) ?_
        refine wp_if_eqB d83_78 (by decide) (fun h78 => ?_) (fun h78 => ?_)
        · refine wp_iconst d83_85 ic_0 ?_
          exact Bq false (by simp [h63, h78]) h
        · refine wp_iconst d83_81 ic_1 ?_
          refine wp_goto d83_82 (by decide) ?_
          exact Bq true (by simp [h71, h78]) h
  refine ev_of (L := [(.ref m), (.int (nI c)), .null]) (by decide) rfl (Nat.le_of_ble_eq_true rfl) ?_
  refine wp_aload_0 d83_0 ?_
  refine wp_getP d83_1 (Nat.le_of_ble_eq_true rfl) kM.1 rfl ?_
  refine wp_if_eqN d83_4 (by decide) (by omega) (fun h4 => ?_) (fun h4 => ?_)
  · exact A (Or.inl h4)
  · refine wp_aload_0 d83_7 ?_
    refine wp_getP d83_8 (Nat.le_of_ble_eq_true rfl) kM.1 rfl ?_
    refine wp_iconst d83_11 ic_1 ?_
    refine wp_icmp_neN d83_12 (by decide) (by omega) (by omega) (fun h12 => ?_) (fun h12 => ?_)
    · exact Bs (by omega)
    · refine wp_iload_1 d83_15 ?_
      refine wp_bipush d83_16 bi_59 ?_
      refine wp_icmp_eqN d83_18 (by decide) (by omega) (by omega) (fun h18 => ?_) (fun h18 => ?_)
      · exact Bs (by omega)
      · exact A (Or.inr ⟨h12, h18⟩)
theorem goN_b {s r c : Nat} (hs : s ≤ 3) (h : (goN s r c).1 = true) : (goN s r c).2.1 ≤ 3 ∧ (goN s r c).2.2 ≤ r + 1 := by
  unfold goN at h ⊢
  split
  · exact ⟨by simp, by simp⟩
  · next h1 =>
    rw [if_neg h1] at h
    simp at h
    refine ⟨?_, by simp⟩
    simp
    omega
theorem m_faultOf (kM : KM σ m) {pmN : Nat} {pg : Nat → Nat} (hpm : pmN ≤ 10) (hpg : ∀ k, k < pmN → pg k < 1000) : Ev 3 0 0 84 [.ref m] (put σ m (m + 1) (mF m (nI pmN) sta rdm st me tr mi slr wa cha bm bc bl bch ask sn ks kw kt km hsh) (mA (arr 10 pg) ade afo aro ale afi anf anl awh aod abo aof ama asd akr akl akf akd ako)) (some (.int (nI (flt pg pmN 0 0 0).1))) (put σ m (m + 1) (mF m (nI pmN) (nI (flt pg pmN 0 0 0).2.1) (nI (flt pg pmN 0 0 0).2.2) st me tr mi slr wa cha bm bc bl bch ask sn ks kw kt km hsh) (mA (arr 10 pg) ade afo aro ale afi anf anl awh aod abo aof ama asd akr akl akf akd ako)) := by
  have loop : ∀ (n k s r : Nat), k + n = pmN → s ≤ 3 → r ≤ k → WP 3 0 0 84 12 [.ref m, .int (nI k)] [] (put σ m (m + 1) (mF m (nI pmN) (nI s) (nI r) st me tr mi slr wa cha bm bc bl bch ask sn ks kw kt km hsh) (mA (arr 10 pg) ade afo aro ale afi anf anl awh aod abo aof ama asd akr akl akf akd ako)) (some (.int (nI (flt pg n k s r).1))) (put σ m (m + 1) (mF m (nI pmN) (nI (flt pg n k s r).2.1) (nI (flt pg n k s r).2.2) st me tr mi slr wa cha bm bc bl bch ask sn ks kw kt km hsh) (mA (arr 10 pg) ade afo aro ale afi anf anl awh aod abo aof ama asd akr akl akf akd ako)) := by
    intro n
    induction n with
    | zero =>
      intro k s r hk hs hr
      refine wp_iload_1 d84_12 ?_
      refine wp_aload_0 d84_13 ?_
      refine wp_getP d84_14 (Nat.le_of_ble_eq_true rfl) kM.1 rfl ?_
      refine wp_icmp_geN d84_17 (by decide) (by omega) (by omega) (fun h17 => ?_) (fun hq => absurd hq (by omega))
      refine wp_iload_1 d84_39 ?_
      exact wp_iret d84_40 rfl rfl rfl
    | succ n ih =>
      intro k s r hk hs hr
      have := hpg k (by omega)
      refine wp_iload_1 d84_12 ?_
      refine wp_aload_0 d84_13 ?_
      refine wp_getP d84_14 (Nat.le_of_ble_eq_true rfl) kM.1 rfl ?_
      refine wp_icmp_geN d84_17 (by decide) (by omega) (by omega) (fun hq => absurd hq (by omega)) (fun h17 => ?_)
      refine wp_aload_0 d84_20 ?_
      refine wp_aload_0 d84_21 ?_
      refine wp_getP d84_22 (Nat.le_of_ble_eq_true rfl) kM.1 rfl ?_
      refine wp_iload_1 d84_25 ?_
      refine wp_aldP d84_26 (kM.2 _ (Nat.le_of_ble_eq_true rfl)) rfl (by omega) (by decide) ?_
      refine wp_V1r d84_27 kM.1 ((m_go kM (s := s) (r := r) (c := pg k) (by omega) (by omega) (by omega))) (Nat.le_of_ble_eq_true rfl) (Nat.le_of_ble_eq_true rfl) ?_
      refine wp_if_eqB d84_30 (by decide) (fun h30 => ?_) (fun h30 => ?_)
      · rw [show flt pg (n + 1) k s r = (k, (goN s r (pg k)).2.1, (goN s r (pg k)).2.2) by simp [flt, h30]]
        refine wp_iload_1 d84_39 ?_
        exact wp_iret d84_40 rfl rfl rfl
      · rw [show flt pg (n + 1) k s r = flt pg n (k + 1) (goN s r (pg k)).2.1 (goN s r (pg k)).2.2 by simp [flt, h30]]
        refine wp_iinc_1 d84_33 (Nat.le_of_ble_eq_true rfl) rfl (inc1 _) ?_
        refine wp_goto d84_36 (by decide) ?_
        have hb := goN_b hs h30
        exact ih (k + 1) _ _ (by omega) hb.1 (by omega)
  refine ev_of (L := [(.ref m), .null]) (by decide) rfl (Nat.le_of_ble_eq_true rfl) ?_
  refine wp_aload_0 d84_0 ?_
  refine wp_iconst d84_1 ic_0 ?_
  refine wp_putIP d84_2 kM.1 ?_
  refine wp_aload_0 d84_5 ?_
  refine wp_iconst d84_6 ic_0 ?_
  refine wp_putIP d84_7 kM.1 ?_
  refine wp_iconst d84_10 ic_0 ?_
  refine wp_istore_1 d84_11 (Nat.le_of_ble_eq_true rfl) rfl ?_
  exact loop pmN 0 0 0 (by omega) (by omega) (by omega)
theorem m_fault (kM : KM σ m) {pmN : Nat} {pg : Nat → Nat} (hpm : pmN ≤ 10) (hpg : ∀ k, k < pmN → pg k < 1000) : Ev 4 0 0 85 [.ref m] (put σ m (m + 1) (mF m (nI pmN) sta rdm st me tr mi slr wa cha bm bc bl bch ask sn ks kw kt km hsh) (mA (arr 10 pg) ade afo aro ale afi anf anl awh aod abo aof ama asd akr akl akf akd ako)) (some (.int (nI (flt pg pmN 0 0 0).1))) (put σ m (m + 1) (mF m (nI pmN) (nI (flt pg pmN 0 0 0).2.1) (nI (flt pg pmN 0 0 0).2.2) st me tr mi slr wa cha bm bc bl bch ask sn ks kw kt km hsh) (mA (arr 10 pg) ade afo aro ale afi anf anl awh aod abo aof ama asd akr akl akf akd ako)) := by
  refine ev_of (L := [(.ref m)]) (by decide) rfl (Nat.le_of_ble_eq_true rfl) ?_
  refine wp_aload_0 d85_0 ?_
  refine wp_V0r d85_1 kM.1 ((m_faultOf kM hpm hpg)) (Nat.le_of_ble_eq_true rfl) (Nat.le_of_ble_eq_true rfl) ?_
  exact wp_iret d85_4 rfl rfl rfl
theorem m_lacks (kM : KM σ m) {stN : Nat} (h : stN ≤ 6) : Ev 0 0 0 87 [.ref m] (put σ m (m + 1) (mF m pm sta rdm (nI stN) me tr mi slr wa cha bm bc bl bch ask sn ks kw kt km hsh) (mA apg ade afo aro ale afi anf anl awh aod abo aof ama asd akr akl akf akd ako)) (some (.int (bi (decide (stN = 0))))) (put σ m (m + 1) (mF m pm sta rdm (nI stN) me tr mi slr wa cha bm bc bl bch ask sn ks kw kt km hsh) (mA apg ade afo aro ale afi anf anl awh aod abo aof ama asd akr akl akf akd ako)) := by
  refine ev_of (L := [(.ref m)]) (by decide) rfl (Nat.le_of_ble_eq_true rfl) ?_
  refine wp_aload_0 d87_0 ?_
  refine wp_getP d87_1 (Nat.le_of_ble_eq_true rfl) kM.1 rfl ?_
  refine wp_if_neN d87_4 (by decide) (by omega) (fun h4 => ?_) (fun h4 => ?_)
  · refine wp_iconst d87_11 ic_0 ?_
    exact wp_zret d87_12 rfl nI_01 (by simp [h4, bi]; rfl) rfl
  · refine wp_iconst d87_7 ic_1 ?_
    refine wp_goto d87_8 (by decide) ?_
    exact wp_zret d87_12 rfl nI_11 (by simp [h4, bi]; rfl) rfl
theorem m_isStretch (kM : KM σ m) {stN : Nat} (h : stN ≤ 6) (x : Int32) : Ev 1 0 0 88 [.ref m, .int x] (put σ m (m + 1) (mF m pm sta rdm (nI stN) me tr mi slr wa cha bm bc bl bch ask sn ks kw kt km hsh) (mA apg ade afo aro ale afi anf anl awh aod abo aof ama asd akr akl akf akd ako)) (some (.int (bi (inB x 0 ((stN : Int) - 1))))) (put σ m (m + 1) (mF m pm sta rdm (nI stN) me tr mi slr wa cha bm bc bl bch ask sn ks kw kt km hsh) (mA apg ade afo aro ale afi anf anl awh aod abo aof ama asd akr akl akf akd ako)) := by
  refine ev_of (L := [(.ref m), (.int x)]) (by decide) rfl (Nat.le_of_ble_eq_true rfl) ?_
  refine wp_iload_1 d88_0 ?_
  refine wp_i2l d88_1 ?_
  refine wp_lconst d88_2 (v := lN 0) rfl ?_
  refine wp_aload_0 d88_3 ?_
  refine wp_getP d88_4 (Nat.le_of_ble_eq_true rfl) kM.1 rfl ?_
  refine wp_iconst d88_7 ic_1 ?_
  refine wp_isub d88_8 ?_
  refine wp_i2l d88_9 ?_
  refine wp_S3r d88_10 rfl ((m_in x (a := 0) (b := (stN : Int) - 1) (by decide) (pred64 (by omega)))) (Nat.le_of_ble_eq_true rfl) (Nat.le_of_ble_eq_true rfl) ?_
  exact wp_zret d88_13 rfl (by first | exact nI_01 | exact nI_11 | exact bi_01 _) rfl rfl
theorem m_isWalker (kM : KM σ m) {w : Nat} (h : w ≤ 5) (x : Int32) : Ev 1 0 0 90 [.ref m, .int x] (put σ m (m + 1) (mF m pm sta rdm st me tr mi slr (nI w) cha bm bc bl bch ask sn ks kw kt km hsh) (mA apg ade afo aro ale afi anf anl awh aod abo aof ama asd akr akl akf akd ako)) (some (.int (bi (inB x 0 ((w : Int) - 1))))) (put σ m (m + 1) (mF m pm sta rdm st me tr mi slr (nI w) cha bm bc bl bch ask sn ks kw kt km hsh) (mA apg ade afo aro ale afi anf anl awh aod abo aof ama asd akr akl akf akd ako)) := by
  refine ev_of (L := [(.ref m), (.int x)]) (by decide) rfl (Nat.le_of_ble_eq_true rfl) ?_
  refine wp_iload_1 d90_0 ?_
  refine wp_i2l d90_1 ?_
  refine wp_lconst d90_2 (v := lN 0) rfl ?_
  refine wp_aload_0 d90_3 ?_
  refine wp_getP d90_4 (Nat.le_of_ble_eq_true rfl) kM.1 rfl ?_
  refine wp_iconst d90_7 ic_1 ?_
  refine wp_isub d90_8 ?_
  refine wp_i2l d90_9 ?_
  refine wp_S3r d90_10 rfl ((m_in x (a := 0) (b := (w : Int) - 1) (by decide) (pred64 (by omega)))) (Nat.le_of_ble_eq_true rfl) (Nat.le_of_ble_eq_true rfl) ?_
  exact wp_zret d90_13 rfl (by first | exact nI_01 | exact nI_11 | exact bi_01 _) rfl rfl
theorem m_stretch (kM : KM σ m) {stN : Nat} {de : Nat → Nat} {fo : Nat → Option Nat} (h : stN ≤ 6) (x y : Int32) : Ev 2 0 0 89 [.ref m, .int x, .int y] (put σ m (m + 1) (mF m pm sta rdm (nI stN) me tr mi slr wa cha bm bc bl bch ask sn ks kw kt km hsh) (mA apg (arr 6 de) (arO 6 fo) aro ale afi anf anl awh aod abo aof ama asd akr akl akf akd ako)) (some (.int (if inB x 0 ((stN : Int) - 1) then r_stretch de fo x.toInt.toNat y else -101))) (put σ m (m + 1) (mF m pm sta rdm (nI stN) me tr mi slr wa cha bm bc bl bch ask sn ks kw kt km hsh) (mA apg (arr 6 de) (arO 6 fo) aro ale afi anf anl awh aod abo aof ama asd akr akl akf akd ako)) := by
  refine ev_of (L := [(.ref m), (.int x), (.int y)]) (by decide) rfl (Nat.le_of_ble_eq_true rfl) ?_
  refine wp_aload_0 d89_0 ?_
  refine wp_iload_1 d89_1 ?_
  refine wp_V1r d89_2 kM.1 ((m_isStretch kM h x)) (Nat.le_of_ble_eq_true rfl) (Nat.le_of_ble_eq_true rfl) ?_
  refine wp_if_neB d89_5 (by decide) (fun h5 => ?_) (fun h5 => ?_)
  · rw [h5, if_pos rfl]
    rw [inB_t] at h5
    obtain ⟨j, hj, rfl⟩ : ∃ j : Nat, j < stN ∧ x = nI j := ⟨x.toInt.toNat, by omega, nI_to h5.1⟩
    have ej : (nI j).toInt.toNat = j := by rw [nI_toInt (by omega)]; rfl
    rw [ej]
    unfold r_stretch
    refine wp_iload_2 d89_11 ?_
    refine wp_if_ne d89_12 (by decide) (fun h12 => ?_) (fun h12 => ?_)
    · have e0 : ¬ y.toInt = 0 := fun z => h12 ((eq_nI (a := 0) (by decide)).mpr z)
      rw [if_neg e0]
      refine wp_iload_2 d89_24 ?_
      refine wp_iconst d89_25 ic_1 ?_
      refine wp_icmp_ne d89_26 (by decide) (fun h26 => ?_) (fun h26 => ?_)
      · have e1 : ¬ y.toInt = 1 := fun z => h26 ((eq_nI (a := 1) (by decide)).mpr z)
        rw [if_neg e1]
        refine wp_bipush d89_38 bi_m102 ?_
        exact wp_iret d89_40 rfl rfl rfl
      · rw [if_pos (show y.toInt = 1 from (eq_nI (a := 1) (by decide)).mp h26)]
        refine wp_aload_0 d89_29 ?_
        refine wp_getP d89_30 (Nat.le_of_ble_eq_true rfl) kM.1 rfl ?_
        refine wp_iload_1 d89_33 ?_
        refine wp_aldP d89_34 (kM.2 _ (Nat.le_of_ble_eq_true rfl)) rfl (by omega) (by decide) ?_
        refine wp_goto d89_35 (by decide) ?_
        exact wp_iret d89_40 rfl rfl rfl
    · rw [if_pos (show y.toInt = 0 from (eq_nI (a := 0) (by decide)).mp h12)]
      refine wp_aload_0 d89_15 ?_
      refine wp_getP d89_16 (Nat.le_of_ble_eq_true rfl) kM.1 rfl ?_
      refine wp_iload_1 d89_19 ?_
      refine wp_aldP d89_20 (kM.2 _ (Nat.le_of_ble_eq_true rfl)) rfl (by omega) (by decide) ?_
      refine wp_goto d89_21 (by decide) ?_
      exact wp_iret d89_40 rfl rfl rfl
  · rw [h5, if_neg (by decide)]
    refine wp_bipush d89_8 bi_m101 ?_
    exact wp_iret d89_10 rfl rfl rfl
theorem m_placeOf (kM : KM σ m) {w v : Nat} {fi : Nat → Nat} (h5 : w ≤ 5) (hf : PF w fi) (hv : v < w) : Ev 0 0 0 93 [.ref m, .int (nI v)] (put σ m (m + 1) (mF m pm sta rdm st me tr mi slr wa cha bm bc bl bch ask sn ks kw kt km hsh) (mA apg ade afo aro ale (arr 5 fi) anf anl awh aod abo aof ama asd akr akl akf akd ako)) (some (.int (nI (pl w fi v)))) (put σ m (m + 1) (mF m pm sta rdm st me tr mi slr wa cha bm bc bl bch ask sn ks kw kt km hsh) (mA apg ade afo aro ale (arr 5 fi) anf anl awh aod abo aof ama asd akr akl akf akd ako)) := by
  have hp := PF_pl hf hv
  have loop : ∀ (n k : Nat), k + n = pl w fi v → WP 0 0 0 93 2 [.ref m, .int (nI v), .int (nI k)] [] (put σ m (m + 1) (mF m pm sta rdm st me tr mi slr wa cha bm bc bl bch ask sn ks kw kt km hsh) (mA apg ade afo aro ale (arr 5 fi) anf anl awh aod abo aof ama asd akr akl akf akd ako)) (some (.int (nI (pl w fi v)))) (put σ m (m + 1) (mF m pm sta rdm st me tr mi slr wa cha bm bc bl bch ask sn ks kw kt km hsh) (mA apg ade afo aro ale (arr 5 fi) anf anl awh aod abo aof ama asd akr akl akf akd ako)) := by
    intro n
    induction n with
    | zero =>
      intro k hk
      have e : k = pl w fi v := by omega
      have := hf.1 k (by omega)
      subst e
      refine wp_aload_0 d93_2 ?_
      refine wp_getP d93_3 (Nat.le_of_ble_eq_true rfl) kM.1 rfl ?_
      refine wp_iload_2 d93_6 ?_
      refine wp_aldP d93_7 (kM.2 _ (Nat.le_of_ble_eq_true rfl)) rfl (by omega) (by decide) ?_
      refine wp_iload_1 d93_8 ?_
      refine wp_icmp_eqN d93_9 (by decide) (by omega) (by omega) (fun h9 => ?_) (fun hq => absurd hq (fun hq => hq hp.2))
      refine wp_iload_2 d93_18 ?_
      exact wp_iret d93_19 rfl rfl rfl
    | succ n ih =>
      intro k hk
      have := hf.1 k (by omega)
      refine wp_aload_0 d93_2 ?_
      refine wp_getP d93_3 (Nat.le_of_ble_eq_true rfl) kM.1 rfl ?_
      refine wp_iload_2 d93_6 ?_
      refine wp_aldP d93_7 (kM.2 _ (Nat.le_of_ble_eq_true rfl)) rfl (by omega) (by decide) ?_
      refine wp_iload_1 d93_8 ?_
      refine wp_icmp_eqN d93_9 (by decide) (by omega) (by omega) (fun h9 => ?_) (fun h9 => ?_)
      · exfalso
        have := pl_eq hf.2.1 (show k < w by omega)
        rw [h9] at this
        omega
      · refine wp_iinc_2 d93_12 (Nat.le_of_ble_eq_true rfl) rfl (inc1 _) ?_
        refine wp_goto d93_15 (by decide) ?_
        exact ih (k + 1) (by omega)
  refine ev_of (L := [(.ref m), (.int (nI v)), .null]) (by decide) rfl (Nat.le_of_ble_eq_true rfl) ?_
  refine wp_iconst d93_0 ic_0 ?_
  refine wp_istore_2 d93_1 (Nat.le_of_ble_eq_true rfl) rfl ?_
  exact loop (pl w fi v) 0 (by omega)
theorem m_firstsOf (kM : KM σ m) {trN v : Nat} {fo : Nat → Option Nat} (h6 : trN ≤ 6) (hv : v < 5) (hfo : ∀ k, k < trN → ∀ j, fo k = some j → j < 2 ^ 31) : Ev 0 0 0 94 [.ref m, .int (nI v)] (put σ m (m + 1) (mF m pm sta rdm st me (nI trN) mi slr wa cha bm bc bl bch ask sn ks kw kt km hsh) (mA apg ade (arO 6 fo) aro ale afi anf anl awh aod abo aof ama asd akr akl akf akd ako)) (some (.int (nI (frN fo v trN)))) (put σ m (m + 1) (mF m pm sta rdm st me (nI trN) mi slr wa cha bm bc bl bch ask sn ks kw kt km hsh) (mA apg ade (arO 6 fo) aro ale afi anf anl awh aod abo aof ama asd akr akl akf akd ako)) := by
  have loop : ∀ (n k : Nat), k + n = trN → WP 0 0 0 94 4 [.ref m, .int (nI v), .int (nI (frN fo v k)), .int (nI k)] [] (put σ m (m + 1) (mF m pm sta rdm st me (nI trN) mi slr wa cha bm bc bl bch ask sn ks kw kt km hsh) (mA apg ade (arO 6 fo) aro ale afi anf anl awh aod abo aof ama asd akr akl akf akd ako)) (some (.int (nI (frN fo v trN)))) (put σ m (m + 1) (mF m pm sta rdm st me (nI trN) mi slr wa cha bm bc bl bch ask sn ks kw kt km hsh) (mA apg ade (arO 6 fo) aro ale afi anf anl awh aod abo aof ama asd akr akl akf akd ako)) := by
    intro n
    induction n with
    | zero =>
      intro k hk
      have e : k = trN := by omega
      subst e
      refine wp_iload_3 d94_4 ?_
      refine wp_aload_0 d94_5 ?_
      refine wp_getP d94_6 (Nat.le_of_ble_eq_true rfl) kM.1 rfl ?_
      refine wp_icmp_geN d94_9 (by decide) (by omega) (by omega) (fun h9 => ?_) (fun hq => absurd hq (by omega))
      refine wp_iload_2 d94_36 ?_
      exact wp_iret d94_37 rfl rfl rfl
    | succ n ih =>
      intro k hk
      have hb := hfo k (by omega)
      refine wp_iload_3 d94_4 ?_
      refine wp_aload_0 d94_5 ?_
      refine wp_getP d94_6 (Nat.le_of_ble_eq_true rfl) kM.1 rfl ?_
      refine wp_icmp_geN d94_9 (by decide) (by omega) (by omega) (fun hq => absurd hq (by omega)) (fun h9 => ?_)
      refine wp_iload_2 d94_12 ?_
      refine wp_aload_0 d94_13 ?_
      refine wp_getP d94_14 (Nat.le_of_ble_eq_true rfl) kM.1 rfl ?_
      refine wp_iload_3 d94_17 ?_
      refine wp_aldP d94_18 (kM.2 _ (Nat.le_of_ble_eq_true rfl)) rfl (by omega) (by decide) ?_
      refine wp_iload_1 d94_19 ?_
      refine wp_icmp_ne d94_20 (by decide) (fun h20 => ?_) (fun h20 => ?_)
      · have e : ¬ fo k = some v := fun z => h20 ((eo_some (by omega) hb).mpr z)
        refine wp_iconst d94_27 ic_0 ?_
        refine wp_iaddN d94_28 ?_
        refine wp_istore_2 d94_29 (Nat.le_of_ble_eq_true rfl) rfl ?_
        refine wp_iinc_3 d94_30 (Nat.le_of_ble_eq_true rfl) rfl (inc1 _) ?_
        refine wp_goto d94_33 (by decide) ?_
        rw [show frN fo v k + 0 = frN fo v (k + 1) by simp [frN, e]]
        exact ih (k + 1) (by omega)
      · have e : fo k = some v := (eo_some (by omega) hb).mp h20
        refine wp_iconst d94_23 ic_1 ?_
        refine wp_goto d94_24 (by decide) ?_
        refine wp_iaddN d94_28 ?_
        refine wp_istore_2 d94_29 (Nat.le_of_ble_eq_true rfl) rfl ?_
        refine wp_iinc_3 d94_30 (Nat.le_of_ble_eq_true rfl) rfl (inc1 _) ?_
        refine wp_goto d94_33 (by decide) ?_
        rw [show frN fo v k + 1 = frN fo v (k + 1) by simp [frN, e]]
        exact ih (k + 1) (by omega)
  refine ev_of (L := [(.ref m), (.int (nI v)), .null, .null]) (by decide) rfl (Nat.le_of_ble_eq_true rfl) ?_
  refine wp_iconst d94_0 ic_0 ?_
  refine wp_istore_2 d94_1 (Nat.le_of_ble_eq_true rfl) rfl ?_
  refine wp_iconst d94_2 ic_0 ?_
  refine wp_istore_3 d94_3 (Nat.le_of_ble_eq_true rfl) rfl ?_
  exact loop trN 0 (by omega)

end S06_mo2b
end
section

def canN (ki fi le : Nat → Nat) (dp : Nat) : Nat → Bool
  | 0 => true
  | n + 1 => canN ki fi le dp n && decide (payN ki fi n dp ≤ le (fi n))
def trS (ki fi : Nat → Nat) (dp : Nat) (le : Nat → Nat) : Nat → Nat → Nat
  | 0 => le
  | n + 1 => up (trS ki fi dp le n) (fi n) (trS ki fi dp le n (fi n) - payN ki fi n dp)
theorem canN_at {ki fi le : Nat → Nat} {dp : Nat} : ∀ {n p : Nat}, canN ki fi le dp n = true → p < n → payN ki fi p dp ≤ le (fi p)
  | 0, p, _, h => by omega
  | n + 1, p, hc, h => by
    simp only [canN, Bool.and_eq_true, decide_eq_true_eq] at hc
    by_cases e : p = n
    · subst e; exact hc.2
    · exact canN_at hc.1 (by omega)
theorem trS_out {ki fi le : Nat → Nat} {dp v : Nat} : ∀ {n : Nat}, (∀ p, p < n → fi p ≠ v) → trS ki fi dp le n v = le v
  | 0, _ => rfl
  | n + 1, h => by
    unfold trS
    rw [up_n _ _ (fun e => h n (by omega) e.symm)]
    exact trS_out (fun p hp => h p (by omega))
theorem trS_at {ki fi le : Nat → Nat} {dp : Nat} : ∀ {n p : Nat}, (∀ p q, p < n → q < n → fi p = fi q → p = q) → p < n → trS ki fi dp le n (fi p) = le (fi p) - payN ki fi p dp
  | 0, p, _, h => by omega
  | n + 1, p, hi, h => by
    unfold trS
    by_cases e : p = n
    · subst e
      rw [up_s, trS_out]
      intro q hq z
      have := hi q p (by omega) (by omega) z
      omega
    · rw [up_n _ _ (fun z => e (hi p n h (by omega) z))]
      exact trS_at (fun a b ha hb => hi a b (by omega) (by omega)) (by omega)
theorem trS_le {ki fi le : Nat → Nat} {dp v : Nat} : ∀ {n : Nat}, trS ki fi dp le n v ≤ le v
  | 0 => Nat.le_refl _
  | n + 1 => by
    unfold trS
    by_cases e : v = fi n
    · subst e
      rw [up_s]
      have := trS_le (ki := ki) (fi := fi) (le := le) (dp := dp) (v := fi n) (n := n)
      omega
    · rw [up_n _ _ e]
      exact trS_le
def mnN (le : Nat → Nat) (c : Nat) : Nat → Nat
  | 0 => c
  | n + 1 => if le n < mnN le c n then le n else mnN le c n
theorem mnN_le (le : Nat → Nat) (c : Nat) : ∀ n, mnN le c n ≤ c
  | 0 => Nat.le_refl _
  | n + 1 => by have := mnN_le le c n; unfold mnN; split <;> omega
def rcN (sr le : Nat → Nat) : Nat → Nat
  | 0 => 0
  | n + 1 => rcN sr le n + (if le n < sr n then 1 else 0)
def rsN (w : Nat) (sr le : Nat → Nat) : Nat → Nat := fun v => if v < w ∧ le v < sr v then le v + 1 else le v
theorem rcN_le (sr le : Nat → Nat) : ∀ n, rcN sr le n ≤ n
  | 0 => Nat.le_refl _
  | n + 1 => by have := rcN_le sr le n; unfold rcN; split <;> omega
def smN (de : Nat → Nat) (a : Nat) : Nat → Nat
  | 0 => 0
  | n + 1 => smN de a n + de (a + n)
def snN (tr st deep : Nat) (de : Nat → Nat) : Nat → Nat := fun k => if tr ≤ k ∧ k < st then (if 9 < de k + deep then 9 else de k + deep) else de k
def suN (tr st me : Nat) (de : Nat → Nat) : Nat → Nat := fun k => if tr ≤ k ∧ k < st then (if de k < me then 0 else de k - me) else de k
theorem dec2 (x : Nat) : nI x + Int32.ofInt (-1) = nI x - nI 1 := by
  rw [show Int32.ofInt (-1) = -(nI 1) by decide]
  exact (Int32.sub_eq_add_neg _ _).symm
/-- who would be the first, by the number of the way -/
def whN (w tr st code : Nat) (wh : Nat → Nat) : Nat → Nat := fun k => if tr ≤ k ∧ k < st then code / w ^ (st - 1 - k) % w else wh k
def rotk (w : Nat) (fi : Nat → Nat) (j : Nat) : Nat → Nat := fun p => if p < w then fi ((p + j) % w) else fi p
theorem rotk_0 {w : Nat} {fi : Nat → Nat} : rotk w fi 0 = fi := by
  funext p
  unfold rotk
  split
  · next h => rw [Nat.add_zero, Nat.mod_eq_of_lt h]
  · rfl
theorem rotk_mod {w j : Nat} {fi : Nat → Nat} (h : 0 < w) : rotk w fi j = rotk w fi (j % w) := by
  funext p
  unfold rotk
  split
  · rw [Nat.add_mod_mod]
  · rfl
theorem rot_rotk {w j : Nat} {fi : Nat → Nat} (h : 0 < w) : rot w (rotk w fi j) = rotk w fi (j + 1) := by
  funext p
  unfold rot rotk
  by_cases h1 : p + 1 < w
  · rw [if_pos h1, if_pos h1, if_pos (by omega), show p + 1 + j = p + (j + 1) by omega]
  · rw [if_neg h1]
    by_cases h2 : p + 1 = w
    · rw [if_pos h2, if_pos h, if_pos (by omega), show p + (j + 1) = j + w by omega, Nat.add_mod_right, Nat.zero_add]
    · rw [if_neg h2, if_neg (by omega), if_neg (by omega)]
theorem PF_rot {w : Nat} {fi : Nat → Nat} (h : PF w fi) : PF w (rot w fi) := by
  obtain ⟨h1, h2, h3⟩ := h
  refine ⟨fun p hp => ?_, fun p q hp hq e => ?_, fun v hv => ?_⟩
  · unfold rot
    by_cases a : p + 1 < w
    · rw [if_pos a]; exact h1 _ a
    · rw [if_neg a, if_pos (by omega)]; exact h1 _ (by omega)
  · unfold rot at e
    by_cases a : p + 1 < w <;> by_cases b : q + 1 < w
    · rw [if_pos a, if_pos b] at e
      have := h2 _ _ a b e
      omega
    · rw [if_pos a, if_neg b, if_pos (by omega)] at e
      have := h2 _ _ a (by omega) e
      omega
    · rw [if_neg a, if_pos (by omega), if_pos b] at e
      have := h2 _ _ (by omega) b e
      omega
    · omega
  · obtain ⟨p, hp, e⟩ := h3 v hv
    by_cases a : p = 0
    · refine ⟨w - 1, by omega, ?_⟩
      unfold rot
      rw [if_neg (by omega), if_pos (by omega), ← a]
      exact e
    · refine ⟨p - 1, by omega, ?_⟩
      unfold rot
      rw [if_pos (by omega), show p - 1 + 1 = p by omega]
      exact e
theorem PF_rotk {w : Nat} {fi : Nat → Nat} (h : PF w fi) : ∀ j, PF w (rotk w fi j)
  | 0 => by rw [rotk_0]; exact h
  | j + 1 => by
    by_cases hw : 0 < w
    · rw [← rot_rotk hw]
      exact PF_rot (PF_rotk h j)
    · exact ⟨fun p hp => by omega, fun p q hp => by omega, fun v hv => by omega⟩
def gb (w : Nat) (ki fi de wh : Nat → Nat) : Nat → Nat → Nat → (Nat → Nat) → Nat → Bool × Nat × (Nat → Nat) × Nat
  | 0, _, j, le, ch => (true, j, le, ch)
  | n + 1, k, j, le, ch => if canN ki (rotk w fi (pl w fi (wh k))) le (de k) w then gb w ki fi de wh n (k + 1) (pl w fi (wh k)) (trS ki (rotk w fi (pl w fi (wh k))) (de k) le w) (ch + (pl w fi (wh k) + w - j) % w) else (false, pl w fi (wh k), le, ch + (pl w fi (wh k) + w - j) % w)
def okT (w st tr : Nat) (ki fi le de : Nat → Nat) : Bool := decide (w ≠ 0) && decide (tr ≠ st) && canN ki fi le (de tr) w
def prd (ki fi : Nat → Nat) (tr : Nat) (fo : Nat → Option Nat) : Bool := decide (ki (fi 0) = 2) && decide (0 < tr) && decide (fo (tr - 1) = some (fi 0))
def miT (ki fi : Nat → Nat) (tr : Nat) (de : Nat → Nat) (fo : Nat → Option Nat) (mi : Int32) : Int32 := mi + nI (2 + de tr / 3 + (if prd ki fi tr fo then 2 else 0))
end
section
section S07_mo3b
variable {σ : Sto} {m : Nat} {pm sta rdm st me tr mi slr wa cha bm bc bl bch ask sn ks kw kt km : Int32} {hsh : Int64} {apg ade afo aro ale afi anf anl awh aod abo aof ama asd akr akl akf akd ako : List Int32}

theorem m_canTread (kM : KM σ m) {w dp : Nat} {ki sr nf nl : Nat → Nat} {to : Nat → Option Nat} (h5 : w ≤ 5) (hf : ∀ p, p < w → nf p < w) (hk : ∀ v, v < w → ki v < 5) (hl : ∀ v, v < w → nl v < 1000) (hdp : dp < 100) : Ev 1 0 0 101 [.ref m, .int (nI dp)] (put σ m (m + 1) (mF m pm sta rdm st me tr mi slr (nI w) cha bm bc bl bch ask sn ks kw kt km hsh) (mA apg ade afo (arrI 15 (rw3 ki sr to)) ale afi (arr 5 nf) (arr 5 nl) awh aod abo aof ama asd akr akl akf akd ako)) (some (.int (bi (canN ki nf nl dp w)))) (put σ m (m + 1) (mF m pm sta rdm st me tr mi slr (nI w) cha bm bc bl bch ask sn ks kw kt km hsh) (mA apg ade afo (arrI 15 (rw3 ki sr to)) ale afi (arr 5 nf) (arr 5 nl) awh aod abo aof ama asd akr akl akf akd ako)) := by
  have loop : ∀ (n k : Nat) (x : Int32), k + n = w → x = bi (canN ki nf nl dp k) → WP 1 0 0 101 4 [.ref m, .int (nI dp), .int x, .int (nI k)] [] (put σ m (m + 1) (mF m pm sta rdm st me tr mi slr (nI w) cha bm bc bl bch ask sn ks kw kt km hsh) (mA apg ade afo (arrI 15 (rw3 ki sr to)) ale afi (arr 5 nf) (arr 5 nl) awh aod abo aof ama asd akr akl akf akd ako)) (some (.int (bi (canN ki nf nl dp w)))) (put σ m (m + 1) (mF m pm sta rdm st me tr mi slr (nI w) cha bm bc bl bch ask sn ks kw kt km hsh) (mA apg ade afo (arrI 15 (rw3 ki sr to)) ale afi (arr 5 nf) (arr 5 nl) awh aod abo aof ama asd akr akl akf akd ako)) := by
    intro n
    induction n with
    | zero =>
      intro k x hk' hx
      have e : k = w := by omega
      subst e
      subst hx
      refine wp_iload_3 d101_4 ?_
      refine wp_aload_0 d101_5 ?_
      refine wp_getP d101_6 (Nat.le_of_ble_eq_true rfl) kM.1 rfl ?_
      refine wp_icmp_geN d101_9 (by decide) (by omega) (by omega) (fun h9 => ?_) (fun hq => absurd hq (by omega))
      refine wp_iload_2 d101_52 ?_
      exact wp_zret d101_53 rfl (by first | exact nI_01 | exact nI_11 | exact bi_01 _) rfl rfl
    | succ n ih =>
      intro k x hk' hx
      subst hx
      have b1 := hf k (by omega)
      have b2 := hk (nf k) (by omega)
      have b3 := hl (nf k) (by omega)
      have b4 : k ≠ 0 → nf (k - 1) < 5 := fun z => by have := hf (k - 1) (by omega); omega
      have b5 : k ≠ 0 → ki (nf (k - 1)) < 5 := fun z => hk _ (hf (k - 1) (by omega))
      have b6 := payN_le (ki := ki) (fi := nf) (p := k) (dp := dp)
      refine wp_iload_3 d101_4 ?_
      refine wp_aload_0 d101_5 ?_
      refine wp_getP d101_6 (Nat.le_of_ble_eq_true rfl) kM.1 rfl ?_
      refine wp_icmp_geN d101_9 (by decide) (by omega) (by omega) (fun hq => absurd hq (by omega)) (fun h9 => ?_)
      refine wp_iload_2 d101_12 ?_
      refine wp_if_eqB d101_13 (by decide) (fun h13 => ?_) (fun h13 => ?_)
      · refine wp_iconst d101_44 ic_0 ?_
        refine wp_istore_2 d101_45 (Nat.le_of_ble_eq_true rfl) rfl ?_
        refine wp_iinc_3 d101_46 (Nat.le_of_ble_eq_true rfl) rfl (inc1 _) ?_
        refine wp_goto d101_49 (by decide) ?_
        exact ih (k + 1) _ (by omega) (by simp [canN, h13]; rfl)
      · refine wp_aload_0 d101_16 ?_
        refine wp_getP d101_17 (Nat.le_of_ble_eq_true rfl) kM.1 rfl ?_
        refine wp_aload_0 d101_20 ?_
        refine wp_getP d101_21 (Nat.le_of_ble_eq_true rfl) kM.1 rfl ?_
        refine wp_iload_3 d101_24 ?_
        refine wp_aldP d101_25 (kM.2 _ (Nat.le_of_ble_eq_true rfl)) rfl (by omega) (by decide) ?_
        refine wp_aldP d101_26 (kM.2 _ (Nat.le_of_ble_eq_true rfl)) rfl (by omega) (by decide) ?_
        refine wp_aload_0 d101_27 ?_
        refine wp_aload_0 d101_28 ?_
        refine wp_getP d101_29 (Nat.le_of_ble_eq_true rfl) kM.1 rfl ?_
        refine wp_iload_3 d101_32 ?_
        refine wp_iload_1 d101_33 ?_
        refine wp_V3r d101_34 kM.1 ((m_paysAtN kM (by omega) (by omega) b4 b2 b5 hdp)) (Nat.le_of_ble_eq_true rfl) (Nat.le_of_ble_eq_true rfl) ?_
        refine wp_icmp_ltN d101_37 (by decide) (by omega) (by omega) (fun h37 => ?_) (fun h37 => ?_)
        · refine wp_iconst d101_44 ic_0 ?_
          refine wp_istore_2 d101_45 (Nat.le_of_ble_eq_true rfl) rfl ?_
          refine wp_iinc_3 d101_46 (Nat.le_of_ble_eq_true rfl) rfl (inc1 _) ?_
          refine wp_goto d101_49 (by decide) ?_
          exact ih (k + 1) _ (by omega) (by simp [canN, show ¬ payN ki nf k dp ≤ nl (nf k) by omega]; rfl)
        · refine wp_iconst d101_40 ic_1 ?_
          refine wp_goto d101_41 (by decide) ?_
          refine wp_istore_2 d101_45 (Nat.le_of_ble_eq_true rfl) rfl ?_
          refine wp_iinc_3 d101_46 (Nat.le_of_ble_eq_true rfl) rfl (inc1 _) ?_
          refine wp_goto d101_49 (by decide) ?_
          exact ih (k + 1) _ (by omega) (by simp [canN, h13, h37]; rfl)
  refine ev_of (L := [(.ref m), (.int (nI dp)), .null, .null]) (by decide) rfl (Nat.le_of_ble_eq_true rfl) ?_
  refine wp_iconst d101_0 ic_1 ?_
  refine wp_istore_2 d101_1 (Nat.le_of_ble_eq_true rfl) rfl ?_
  refine wp_iconst d101_2 ic_0 ?_
  refine wp_istore_3 d101_3 (Nat.le_of_ble_eq_true rfl) rfl ?_
  exact loop w 0 _ (by omega) rfl
theorem m_treads (kM : KM σ m) {w dp : Nat} {ki sr nf nl : Nat → Nat} {to : Nat → Option Nat} (h5 : w ≤ 5) (hf : PF w nf) (hk : ∀ v, v < w → ki v < 5) (hc : canN ki nf nl dp w = true) (hdp : dp < 100) : Ev 1 0 0 102 [.ref m, .int (nI dp)] (put σ m (m + 1) (mF m pm sta rdm st me tr mi slr (nI w) cha bm bc bl bch ask sn ks kw kt km hsh) (mA apg ade afo (arrI 15 (rw3 ki sr to)) ale afi (arr 5 nf) (arr 5 nl) awh aod abo aof ama asd akr akl akf akd ako)) none (put σ m (m + 1) (mF m pm sta rdm st me tr mi slr (nI w) cha bm bc bl bch ask sn ks kw kt km hsh) (mA apg ade afo (arrI 15 (rw3 ki sr to)) ale afi (arr 5 nf) (arr 5 (trS ki nf dp nl w)) awh aod abo aof ama asd akr akl akf akd ako)) := by
  have loop : ∀ (n k : Nat), k + n = w → WP 1 0 0 102 2 [.ref m, .int (nI dp), .int (nI k)] [] (put σ m (m + 1) (mF m pm sta rdm st me tr mi slr (nI w) cha bm bc bl bch ask sn ks kw kt km hsh) (mA apg ade afo (arrI 15 (rw3 ki sr to)) ale afi (arr 5 nf) (arr 5 (trS ki nf dp nl k)) awh aod abo aof ama asd akr akl akf akd ako)) none (put σ m (m + 1) (mF m pm sta rdm st me tr mi slr (nI w) cha bm bc bl bch ask sn ks kw kt km hsh) (mA apg ade afo (arrI 15 (rw3 ki sr to)) ale afi (arr 5 nf) (arr 5 (trS ki nf dp nl w)) awh aod abo aof ama asd akr akl akf akd ako)) := by
    intro n
    induction n with
    | zero =>
      intro k hk'
      have e : k = w := by omega
      subst e
      refine wp_iload_2 d102_2 ?_
      refine wp_aload_0 d102_3 ?_
      refine wp_getP d102_4 (Nat.le_of_ble_eq_true rfl) kM.1 rfl ?_
      refine wp_icmp_geN d102_7 (by decide) (by omega) (by omega) (fun h7 => ?_) (fun hq => absurd hq (by omega))
      exact wp_vret d102_40 rfl rfl rfl
    | succ n ih =>
      intro k hk'
      have b1 := hf.1 k (by omega)
      have b2 := hk (nf k) (by omega)
      have b4 : k ≠ 0 → nf (k - 1) < 5 := fun z => by have := hf.1 (k - 1) (by omega); omega
      have b5 : k ≠ 0 → ki (nf (k - 1)) < 5 := fun z => hk _ (hf.1 (k - 1) (by omega))
      have b6 := canN_at hc (show k < w by omega)
      have b7 : trS ki nf dp nl k (nf k) = nl (nf k) := trS_out (fun p hp z => by have := hf.2.1 p k (by omega) (by omega) z; omega)
      refine wp_iload_2 d102_2 ?_
      refine wp_aload_0 d102_3 ?_
      refine wp_getP d102_4 (Nat.le_of_ble_eq_true rfl) kM.1 rfl ?_
      refine wp_icmp_geN d102_7 (by decide) (by omega) (by omega) (fun hq => absurd hq (by omega)) (fun h7 => ?_)
      refine wp_aload_0 d102_10 ?_
      refine wp_getP d102_11 (Nat.le_of_ble_eq_true rfl) kM.1 rfl ?_
      refine wp_aload_0 d102_14 ?_
      refine wp_getP d102_15 (Nat.le_of_ble_eq_true rfl) kM.1 rfl ?_
      refine wp_iload_2 d102_18 ?_
      refine wp_aldP d102_19 (kM.2 _ (Nat.le_of_ble_eq_true rfl)) rfl (by omega) (by decide) ?_
      refine wp_dup2 d102_20 rfl rfl ?_
      refine wp_aldP d102_21 (kM.2 _ (Nat.le_of_ble_eq_true rfl)) rfl (by omega) (by decide) ?_
      refine wp_aload_0 d102_22 ?_
      refine wp_aload_0 d102_23 ?_
      refine wp_getP d102_24 (Nat.le_of_ble_eq_true rfl) kM.1 rfl ?_
      refine wp_iload_2 d102_27 ?_
      refine wp_iload_1 d102_28 ?_
      refine wp_V3r d102_29 kM.1 ((m_paysAtN kM (by omega) (by omega) b4 b2 b5 hdp)) (Nat.le_of_ble_eq_true rfl) (Nat.le_of_ble_eq_true rfl) ?_
      refine wp_isubN d102_32 (by omega) ?_
      refine wp_astN d102_33 (kM.2 _ (Nat.le_of_ble_eq_true rfl)) rfl (by omega) (by decide) ?_
      refine wp_iinc_2 d102_34 (Nat.le_of_ble_eq_true rfl) rfl (inc1 _) ?_
      refine wp_goto d102_37 (by decide) ?_
      exact ih (k + 1) (by omega)
  refine ev_of (L := [(.ref m), (.int (nI dp)), .null]) (by decide) rfl (Nat.le_of_ble_eq_true rfl) ?_
  refine wp_iconst d102_0 ic_0 ?_
  refine wp_istore_2 d102_1 (Nat.le_of_ble_eq_true rfl) rfl ?_
  exact loop w 0 (by omega)
theorem m_leastLeft (kM : KM σ m) {w : Nat} {nl : Nat → Nat} (h5 : w ≤ 5) (hl : ∀ v, v < w → nl v < 1000) : Ev 0 0 0 103 [.ref m] (put σ m (m + 1) (mF m pm sta rdm st me tr mi slr (nI w) cha bm bc bl bch ask sn ks kw kt km hsh) (mA apg ade afo aro ale afi anf (arr 5 nl) awh aod abo aof ama asd akr akl akf akd ako)) (some (.int (nI (mnN nl 100 w)))) (put σ m (m + 1) (mF m pm sta rdm st me tr mi slr (nI w) cha bm bc bl bch ask sn ks kw kt km hsh) (mA apg ade afo aro ale afi anf (arr 5 nl) awh aod abo aof ama asd akr akl akf akd ako)) := by
  have loop : ∀ (n k : Nat), k + n = w → WP 0 0 0 103 5 [.ref m, .int (nI (mnN nl 100 k)), .int (nI k)] [] (put σ m (m + 1) (mF m pm sta rdm st me tr mi slr (nI w) cha bm bc bl bch ask sn ks kw kt km hsh) (mA apg ade afo aro ale afi anf (arr 5 nl) awh aod abo aof ama asd akr akl akf akd ako)) (some (.int (nI (mnN nl 100 w)))) (put σ m (m + 1) (mF m pm sta rdm st me tr mi slr (nI w) cha bm bc bl bch ask sn ks kw kt km hsh) (mA apg ade afo aro ale afi anf (arr 5 nl) awh aod abo aof ama asd akr akl akf akd ako)) := by
    intro n
    induction n with
    | zero =>
      intro k hk'
      have e : k = w := by omega
      subst e
      refine wp_iload_2 d103_5 ?_
      refine wp_aload_0 d103_6 ?_
      refine wp_getP d103_7 (Nat.le_of_ble_eq_true rfl) kM.1 rfl ?_
      refine wp_icmp_geN d103_10 (by decide) (by omega) (by omega) (fun h10 => ?_) (fun hq => absurd hq (by omega))
      refine wp_iload_1 d103_40 ?_
      exact wp_iret d103_41 rfl rfl rfl
    | succ n ih =>
      intro k hk'
      have b1 := hl k (by omega)
      have b2 := mnN_le nl 100 k
      refine wp_iload_2 d103_5 ?_
      refine wp_aload_0 d103_6 ?_
      refine wp_getP d103_7 (Nat.le_of_ble_eq_true rfl) kM.1 rfl ?_
      refine wp_icmp_geN d103_10 (by decide) (by omega) (by omega) (fun hq => absurd hq (by omega)) (fun h10 => ?_)
      refine wp_aload_0 d103_13 ?_
      refine wp_getP d103_14 (Nat.le_of_ble_eq_true rfl) kM.1 rfl ?_
      refine wp_iload_2 d103_17 ?_
      refine wp_aldP d103_18 (kM.2 _ (Nat.le_of_ble_eq_true rfl)) rfl (by omega) (by decide) ?_
      refine wp_iload_1 d103_19 ?_
      refine wp_icmp_geN d103_20 (by decide) (by omega) (by omega) (fun h20 => ?_) (fun h20 => ?_)
      · refine wp_iload_1 d103_32 ?_
        refine wp_istore_1 d103_33 (Nat.le_of_ble_eq_true rfl) rfl ?_
        refine wp_iinc_2 d103_34 (Nat.le_of_ble_eq_true rfl) rfl (inc1 _) ?_
        refine wp_goto d103_37 (by decide) ?_
        have := ih (k + 1) (by omega)
        rw [show mnN nl 100 (k + 1) = mnN nl 100 k by simp [mnN]; omega] at this
        exact this
      · refine wp_aload_0 d103_23 ?_
        refine wp_getP d103_24 (Nat.le_of_ble_eq_true rfl) kM.1 rfl ?_
        refine wp_iload_2 d103_27 ?_
        refine wp_aldP d103_28 (kM.2 _ (Nat.le_of_ble_eq_true rfl)) rfl (by omega) (by decide) ?_
        refine wp_goto d103_29 (by decide) ?_
        refine wp_istore_1 d103_33 (Nat.le_of_ble_eq_true rfl) rfl ?_
        refine wp_iinc_2 d103_34 (Nat.le_of_ble_eq_true rfl) rfl (inc1 _) ?_
        refine wp_goto d103_37 (by decide) ?_
        have := ih (k + 1) (by omega)
        rw [show mnN nl 100 (k + 1) = nl k by simp [mnN]; omega] at this
        exact this
  refine ev_of (L := [(.ref m), .null, .null]) (by decide) rfl (Nat.le_of_ble_eq_true rfl) ?_
  refine wp_bipush d103_0 bi_100 ?_
  refine wp_istore_1 d103_2 (Nat.le_of_ble_eq_true rfl) rfl ?_
  refine wp_iconst d103_3 ic_0 ?_
  refine wp_istore_2 d103_4 (Nat.le_of_ble_eq_true rfl) rfl ?_
  exact loop w 0 (by omega)
theorem m_restsNow (kM : KM σ m) {w : Nat} {ki sr nl : Nat → Nat} {to : Nat → Option Nat} (h5 : w ≤ 5) (hl : ∀ v, v < w → nl v < 1000) (hs : ∀ v, v < w → sr v < 1000) : Ev 0 0 0 106 [.ref m] (put σ m (m + 1) (mF m pm sta rdm st me tr mi slr (nI w) cha bm bc bl bch ask sn ks kw kt km hsh) (mA apg ade afo (arrI 15 (rw3 ki sr to)) ale afi anf (arr 5 nl) awh aod abo aof ama asd akr akl akf akd ako)) (some (.int (nI (rcN sr nl w)))) (put σ m (m + 1) (mF m pm sta rdm st me tr mi slr (nI w) cha bm bc bl bch ask sn ks kw kt km hsh) (mA apg ade afo (arrI 15 (rw3 ki sr to)) ale afi anf (arr 5 (rsN w sr nl)) awh aod abo aof ama asd akr akl akf akd ako)) := by
  have loop : ∀ (n k : Nat) (f : Nat → Nat) (u : Value), k + n = w → (∀ v, f v = if v < k ∧ nl v < sr v then nl v + 1 else nl v) → WP 0 0 0 106 4 [.ref m, .int (nI (rcN sr nl k)), .int (nI k), u] [] (put σ m (m + 1) (mF m pm sta rdm st me tr mi slr (nI w) cha bm bc bl bch ask sn ks kw kt km hsh) (mA apg ade afo (arrI 15 (rw3 ki sr to)) ale afi anf (arr 5 f) awh aod abo aof ama asd akr akl akf akd ako)) (some (.int (nI (rcN sr nl w)))) (put σ m (m + 1) (mF m pm sta rdm st me tr mi slr (nI w) cha bm bc bl bch ask sn ks kw kt km hsh) (mA apg ade afo (arrI 15 (rw3 ki sr to)) ale afi anf (arr 5 (rsN w sr nl)) awh aod abo aof ama asd akr akl akf akd ako)) := by
    intro n
    induction n with
    | zero =>
      intro k f u hk' hf
      have e : k = w := by omega
      subst e
      rw [show rsN k sr nl = f by funext v; rw [hf]; rfl]
      refine wp_iload_2 d106_4 ?_
      refine wp_aload_0 d106_5 ?_
      refine wp_getP d106_6 (Nat.le_of_ble_eq_true rfl) kM.1 rfl ?_
      refine wp_icmp_geN d106_9 (by decide) (by omega) (by omega) (fun h9 => ?_) (fun hq => absurd hq (by omega))
      refine wp_iload_1 d106_73 ?_
      exact wp_iret d106_74 rfl rfl rfl
    | succ n ih =>
      intro k f u hk' hf
      have b1 := hl k (by omega)
      have b2 := hs k (by omega)
      have b3 : f k = nl k := by rw [hf]; simp
      have b4 := rcN_le sr nl k
      refine wp_iload_2 d106_4 ?_
      refine wp_aload_0 d106_5 ?_
      refine wp_getP d106_6 (Nat.le_of_ble_eq_true rfl) kM.1 rfl ?_
      refine wp_icmp_geN d106_9 (by decide) (by omega) (by omega) (fun hq => absurd hq (by omega)) (fun h9 => ?_)
      refine wp_aload_0 d106_12 ?_
      refine wp_getP d106_13 (Nat.le_of_ble_eq_true rfl) kM.1 rfl ?_
      refine wp_iload_2 d106_16 ?_
      refine wp_aldP d106_17 (kM.2 _ (Nat.le_of_ble_eq_true rfl)) rfl (by omega) (by decide) ?_
      refine wp_aload_0 d106_18 ?_
      refine wp_getP d106_19 (Nat.le_of_ble_eq_true rfl) kM.1 rfl ?_
      refine wp_iconst d106_22 ic_3 ?_
      refine wp_iload_2 d106_23 ?_
      refine wp_imulN d106_24 ?_
      refine wp_iconst d106_25 ic_1 ?_
      refine wp_iaddN d106_26 ?_
      refine wp_aldP d106_27 (kM.2 _ (Nat.le_of_ble_eq_true rfl)) rfl (by omega) (by decide) ?_
      rw [rw_1, b3]
      refine wp_icmp_geN d106_28 (by decide) (by omega) (by omega) (fun h28 => ?_) (fun h28 => ?_)
      · refine wp_iconst d106_35 ic_0 ?_
        refine wp_istore_3 d106_36 (Nat.le_of_ble_eq_true rfl) rfl ?_
        refine wp_aload_0 d106_37 ?_
        refine wp_getP d106_38 (Nat.le_of_ble_eq_true rfl) kM.1 rfl ?_
        refine wp_iload_2 d106_41 ?_
        refine wp_dup2 d106_42 rfl rfl ?_
        refine wp_aldP d106_43 (kM.2 _ (Nat.le_of_ble_eq_true rfl)) rfl (by omega) (by decide) ?_
        refine wp_iload_3 d106_44 ?_
        refine wp_if_eqN d106_45 (by decide) (by omega) (fun h45 => ?_) (fun hq => absurd hq (by omega))
        refine wp_iconst d106_52 ic_0 ?_
        refine wp_iaddN d106_53 ?_
        refine wp_astN d106_54 (kM.2 _ (Nat.le_of_ble_eq_true rfl)) rfl (by omega) (by decide) ?_
        refine wp_iload_1 d106_55 ?_
        refine wp_iload_3 d106_56 ?_
        refine wp_if_eqN d106_57 (by decide) (by omega) (fun h57 => ?_) (fun hq => absurd hq (by omega))
        refine wp_iconst d106_64 ic_0 ?_
        refine wp_iaddN d106_65 ?_
        refine wp_istore_1 d106_66 (Nat.le_of_ble_eq_true rfl) rfl ?_
        refine wp_iinc_2 d106_67 (Nat.le_of_ble_eq_true rfl) rfl (inc1 _) ?_
        refine wp_goto d106_70 (by decide) ?_
        rw [show rcN sr nl k + 0 = rcN sr nl (k + 1) by simp [rcN]; omega]
        refine ih (k + 1) _ _ (by omega) (fun v => ?_)
        unfold up
        rw [hf v, hf k]
        grind
      · refine wp_iconst d106_31 ic_1 ?_
        refine wp_goto d106_32 (by decide) ?_
        refine wp_istore_3 d106_36 (Nat.le_of_ble_eq_true rfl) rfl ?_
        refine wp_aload_0 d106_37 ?_
        refine wp_getP d106_38 (Nat.le_of_ble_eq_true rfl) kM.1 rfl ?_
        refine wp_iload_2 d106_41 ?_
        refine wp_dup2 d106_42 rfl rfl ?_
        refine wp_aldP d106_43 (kM.2 _ (Nat.le_of_ble_eq_true rfl)) rfl (by omega) (by decide) ?_
        refine wp_iload_3 d106_44 ?_
        refine wp_if_eqN d106_45 (by decide) (by omega) (fun hq => absurd hq (by omega)) (fun h45 => ?_)
        refine wp_iconst d106_48 ic_1 ?_
        refine wp_goto d106_49 (by decide) ?_
        refine wp_iaddN d106_53 ?_
        refine wp_astN d106_54 (kM.2 _ (Nat.le_of_ble_eq_true rfl)) rfl (by omega) (by decide) ?_
        refine wp_iload_1 d106_55 ?_
        refine wp_iload_3 d106_56 ?_
        refine wp_if_eqN d106_57 (by decide) (by omega) (fun hq => absurd hq (by omega)) (fun h57 => ?_)
        refine wp_iconst d106_60 ic_1 ?_
        refine wp_goto d106_61 (by decide) ?_
        refine wp_iaddN d106_65 ?_
        refine wp_istore_1 d106_66 (Nat.le_of_ble_eq_true rfl) rfl ?_
        refine wp_iinc_2 d106_67 (Nat.le_of_ble_eq_true rfl) rfl (inc1 _) ?_
        refine wp_goto d106_70 (by decide) ?_
        rw [show rcN sr nl k + 1 = rcN sr nl (k + 1) by simp [rcN]; omega]
        refine ih (k + 1) _ _ (by omega) (fun v => ?_)
        unfold up
        rw [hf v, hf k]
        grind
  refine ev_of (L := [(.ref m), .null, .null, .null]) (by decide) rfl (Nat.le_of_ble_eq_true rfl) ?_
  refine wp_iconst d106_0 ic_0 ?_
  refine wp_istore_1 d106_1 (Nat.le_of_ble_eq_true rfl) rfl ?_
  refine wp_iconst d106_2 ic_0 ?_
  refine wp_istore_2 d106_3 (Nat.le_of_ble_eq_true rfl) rfl ?_
  exact loop w 0 nl _ (by omega) (fun v => by simp)
theorem m_depthsLeft (kM : KM σ m) {trN stN : Nat} {de : Nat → Nat} (h1 : trN ≤ stN) (h6 : stN ≤ 6) : Ev 0 0 0 108 [.ref m] (put σ m (m + 1) (mF m pm sta rdm (nI stN) me (nI trN) mi slr wa cha bm bc bl bch ask sn ks kw kt km hsh) (mA apg (arr 6 de) afo aro ale afi anf anl awh aod abo aof ama asd akr akl akf akd ako)) (some (.int (nI (smN de trN (stN - trN))))) (put σ m (m + 1) (mF m pm sta rdm (nI stN) me (nI trN) mi slr wa cha bm bc bl bch ask sn ks kw kt km hsh) (mA apg (arr 6 de) afo aro ale afi anf anl awh aod abo aof ama asd akr akl akf akd ako)) := by
  have loop : ∀ (n k : Nat), trN + k + n = stN → WP 0 0 0 108 7 [.ref m, .int (nI (smN de trN k)), .int (nI (trN + k))] [] (put σ m (m + 1) (mF m pm sta rdm (nI stN) me (nI trN) mi slr wa cha bm bc bl bch ask sn ks kw kt km hsh) (mA apg (arr 6 de) afo aro ale afi anf anl awh aod abo aof ama asd akr akl akf akd ako)) (some (.int (nI (smN de trN (stN - trN))))) (put σ m (m + 1) (mF m pm sta rdm (nI stN) me (nI trN) mi slr wa cha bm bc bl bch ask sn ks kw kt km hsh) (mA apg (arr 6 de) afo aro ale afi anf anl awh aod abo aof ama asd akr akl akf akd ako)) := by
    intro n
    induction n with
    | zero =>
      intro k hk'
      have e : stN - trN = k := by omega
      rw [e]
      refine wp_iload_2 d108_7 ?_
      refine wp_aload_0 d108_8 ?_
      refine wp_getP d108_9 (Nat.le_of_ble_eq_true rfl) kM.1 rfl ?_
      refine wp_icmp_geN d108_12 (by decide) (by omega) (by omega) (fun h12 => ?_) (fun hq => absurd hq (by omega))
      refine wp_iload_1 d108_30 ?_
      exact wp_iret d108_31 rfl rfl rfl
    | succ n ih =>
      intro k hk'
      refine wp_iload_2 d108_7 ?_
      refine wp_aload_0 d108_8 ?_
      refine wp_getP d108_9 (Nat.le_of_ble_eq_true rfl) kM.1 rfl ?_
      refine wp_icmp_geN d108_12 (by decide) (by omega) (by omega) (fun hq => absurd hq (by omega)) (fun h12 => ?_)
      refine wp_iload_1 d108_15 ?_
      refine wp_aload_0 d108_16 ?_
      refine wp_getP d108_17 (Nat.le_of_ble_eq_true rfl) kM.1 rfl ?_
      refine wp_iload_2 d108_20 ?_
      refine wp_aldP d108_21 (kM.2 _ (Nat.le_of_ble_eq_true rfl)) rfl (by omega) (by decide) ?_
      refine wp_iaddN d108_22 ?_
      refine wp_istore_1 d108_23 (Nat.le_of_ble_eq_true rfl) rfl ?_
      refine wp_iinc_2 d108_24 (Nat.le_of_ble_eq_true rfl) rfl (inc1 _) ?_
      refine wp_goto d108_27 (by decide) ?_
      exact ih (k + 1) (by omega)
  refine ev_of (L := [(.ref m), .null, .null]) (by decide) rfl (Nat.le_of_ble_eq_true rfl) ?_
  refine wp_iconst d108_0 ic_0 ?_
  refine wp_istore_1 d108_1 (Nat.le_of_ble_eq_true rfl) rfl ?_
  refine wp_aload_0 d108_2 ?_
  refine wp_getP d108_3 (Nat.le_of_ble_eq_true rfl) kM.1 rfl ?_
  refine wp_istore_2 d108_6 (Nat.le_of_ble_eq_true rfl) rfl ?_
  exact loop (stN - trN) 0 (by omega)
theorem m_snow (kM : KM σ m) {trN stN : Nat} {de : Nat → Nat} (h1 : trN ≤ stN) (h6 : stN ≤ 6) (hd : ∀ k, k < stN → de k < 100) (x : Int32) : Ev 1 0 0 109 [.ref m, .int x] (put σ m (m + 1) (mF m pm sta rdm (nI stN) me (nI trN) mi slr wa cha bm bc bl bch ask sn ks kw kt km hsh) (mA apg (arr 6 de) afo aro ale afi anf anl awh aod abo aof ama asd akr akl akf akd ako)) (some (.int (if inB x 0 9 then (if stN = 0 then -103 else nI (smN (snN trN stN x.toInt.toNat de) trN (stN - trN))) else -102))) (put σ m (m + 1) (mF m pm sta rdm (nI stN) me (nI trN) mi slr wa cha bm bc bl bch ask sn ks kw kt km hsh) (mA apg (arr 6 (if inB x 0 9 then snN trN stN x.toInt.toNat de else de)) afo aro ale afi anf anl awh aod abo aof ama asd akr akl akf akd ako)) := by
  refine ev_of (L := [(.ref m), (.int x), .null]) (by decide) rfl (Nat.le_of_ble_eq_true rfl) ?_
  refine wp_iload_1 d109_0 ?_
  refine wp_i2l d109_1 ?_
  refine wp_lconst d109_2 (v := lN 0) rfl ?_
  refine wp_ldc2 d109_3 (by decide) rfl lk_9 ?_
  refine wp_S3r d109_6 rfl ((m_in x (a := 0) (b := 9) (by decide) (by decide))) (Nat.le_of_ble_eq_true rfl) (Nat.le_of_ble_eq_true rfl) ?_
  refine wp_if_neB d109_9 (by decide) (fun h9 => ?_) (fun h9 => ?_)
  · rw [h9, if_pos rfl, if_pos rfl]
    rw [inB_t] at h9
    obtain ⟨dp, hdp, rfl⟩ : ∃ j : Nat, j ≤ 9 ∧ x = nI j := ⟨x.toInt.toNat, by omega, nI_to h9.1⟩
    rw [show (nI dp).toInt.toNat = dp by rw [nI_toInt (by omega)]; rfl]
    refine wp_aload_0 d109_15 ?_
    refine wp_V0r d109_16 kM.1 ((m_lacks kM h6)) (Nat.le_of_ble_eq_true rfl) (Nat.le_of_ble_eq_true rfl) ?_
    refine wp_if_eqB d109_19 (by decide) (fun h19 => ?_) (fun h19 => ?_)
    · have h19 : ¬ stN = 0 := by simpa using h19
      rw [if_neg h19]
      have loop : ∀ (n k : Nat) (f : Nat → Nat), k + n = stN → trN ≤ k → (∀ j, f j = if trN ≤ j ∧ j < k then (if 9 < de j + dp then 9 else de j + dp) else de j) → WP 1 0 0 109 30 [.ref m, .int (nI dp), .int (nI k)] [] (put σ m (m + 1) (mF m pm sta rdm (nI stN) me (nI trN) mi slr wa cha bm bc bl bch ask sn ks kw kt km hsh) (mA apg (arr 6 f) afo aro ale afi anf anl awh aod abo aof ama asd akr akl akf akd ako)) (some (.int (nI (smN (snN trN stN dp de) trN (stN - trN))))) (put σ m (m + 1) (mF m pm sta rdm (nI stN) me (nI trN) mi slr wa cha bm bc bl bch ask sn ks kw kt km hsh) (mA apg (arr 6 (snN trN stN dp de)) afo aro ale afi anf anl awh aod abo aof ama asd akr akl akf akd ako)) := by
        intro n
        induction n with
        | zero =>
          intro k f hk' ht hf
          have e : k = stN := by omega
          subst e
          rw [show snN trN k dp de = f by funext j; rw [hf]; rfl]
          refine wp_iload_2 d109_30 ?_
          refine wp_aload_0 d109_31 ?_
          refine wp_getP d109_32 (Nat.le_of_ble_eq_true rfl) kM.1 rfl ?_
          refine wp_icmp_geN d109_35 (by decide) (by omega) (by omega) (fun h35 => ?_) (fun hq => absurd hq (by omega))
          refine wp_aload_0 d109_76 ?_
          refine wp_V0r d109_77 kM.1 ((m_depthsLeft kM (by omega) h6)) (Nat.le_of_ble_eq_true rfl) (Nat.le_of_ble_eq_true rfl) ?_
          exact wp_iret d109_80 rfl rfl rfl
        | succ n ih =>
          intro k f hk' ht hf
          have b1 := hd k (by omega)
          have b2 : f k = de k := by rw [hf]; simp
          refine wp_iload_2 d109_30 ?_
          refine wp_aload_0 d109_31 ?_
          refine wp_getP d109_32 (Nat.le_of_ble_eq_true rfl) kM.1 rfl ?_
          refine wp_icmp_geN d109_35 (by decide) (by omega) (by omega) (fun hq => absurd hq (by omega)) (fun h35 => ?_)
          refine wp_aload_0 d109_38 ?_
          refine wp_getP d109_39 (Nat.le_of_ble_eq_true rfl) kM.1 rfl ?_
          refine wp_iload_2 d109_42 ?_
          refine wp_aload_0 d109_43 ?_
          refine wp_getP d109_44 (Nat.le_of_ble_eq_true rfl) kM.1 rfl ?_
          refine wp_iload_2 d109_47 ?_
          refine wp_aldP d109_48 (kM.2 _ (Nat.le_of_ble_eq_true rfl)) rfl (by omega) (by decide) ?_
          rw [b2]
          refine wp_iload_1 d109_49 ?_
          refine wp_iaddN d109_50 ?_
          refine wp_bipush d109_51 bi_9 ?_
          refine wp_icmp_leN d109_53 (by decide) (by omega) (by omega) (fun h53 => ?_) (fun h53 => ?_)
          · refine wp_aload_0 d109_61 ?_
            refine wp_getP d109_62 (Nat.le_of_ble_eq_true rfl) kM.1 rfl ?_
            refine wp_iload_2 d109_65 ?_
            refine wp_aldP d109_66 (kM.2 _ (Nat.le_of_ble_eq_true rfl)) rfl (by omega) (by decide) ?_
            refine wp_iload_1 d109_67 ?_
            refine wp_iaddN d109_68 ?_
            refine wp_astN d109_69 (kM.2 _ (Nat.le_of_ble_eq_true rfl)) rfl (by omega) (by decide) ?_
            refine wp_iinc_2 d109_70 (Nat.le_of_ble_eq_true rfl) rfl (inc1 _) ?_
            refine wp_goto d109_73 (by decide) ?_
            refine ih (k + 1) _ (by omega) (by omega) (fun j => ?_)
            unfold up
            rw [hf j, b2]
            grind
          · refine wp_bipush d109_56 bi_9 ?_
            refine wp_goto d109_58 (by decide) ?_
            refine wp_astN d109_69 (kM.2 _ (Nat.le_of_ble_eq_true rfl)) rfl (by omega) (by decide) ?_
            refine wp_iinc_2 d109_70 (Nat.le_of_ble_eq_true rfl) rfl (inc1 _) ?_
            refine wp_goto d109_73 (by decide) ?_
            refine ih (k + 1) _ (by omega) (by omega) (fun j => ?_)
            unfold up
            rw [hf j]
            grind
      refine wp_aload_0 d109_25 ?_
      refine wp_getP d109_26 (Nat.le_of_ble_eq_true rfl) kM.1 rfl ?_
      refine wp_istore_2 d109_29 (Nat.le_of_ble_eq_true rfl) rfl ?_
      exact loop (stN - trN) trN de (by omega) (by omega) (fun j => by grind)
    · have h19 : stN = 0 := by simpa using h19
      rw [if_pos h19, show snN trN stN dp de = de by funext j; simp [snN]; omega]
      refine wp_bipush d109_22 bi_m103 ?_
      exact wp_iret d109_24 rfl rfl rfl
  · rw [h9, if_neg (by decide), if_neg (by decide)]
    refine wp_bipush d109_12 bi_m102 ?_
    exact wp_iret d109_14 rfl rfl rfl
theorem m_sun (kM : KM σ m) {trN stN meN : Nat} {de : Nat → Nat} (h1 : trN ≤ stN) (h6 : stN ≤ 6) (hd : ∀ k, k < stN → de k < 100) (hm : meN < 100) : Ev 1 0 0 110 [.ref m] (put σ m (m + 1) (mF m pm sta rdm (nI stN) (nI meN) (nI trN) mi slr wa cha bm bc bl bch ask sn ks kw kt km hsh) (mA apg (arr 6 de) afo aro ale afi anf anl awh aod abo aof ama asd akr akl akf akd ako)) (some (.int (if stN = 0 then -103 else nI (smN (suN trN stN meN de) trN (stN - trN))))) (put σ m (m + 1) (mF m pm sta rdm (nI stN) (nI meN) (nI trN) mi slr wa cha bm bc bl bch ask sn ks kw kt km hsh) (mA apg (arr 6 (suN trN stN meN de)) afo aro ale afi anf anl awh aod abo aof ama asd akr akl akf akd ako)) := by
  refine ev_of (L := [(.ref m), .null]) (by decide) rfl (Nat.le_of_ble_eq_true rfl) ?_
  refine wp_aload_0 d110_0 ?_
  refine wp_V0r d110_1 kM.1 ((m_lacks kM h6)) (Nat.le_of_ble_eq_true rfl) (Nat.le_of_ble_eq_true rfl) ?_
  refine wp_if_eqB d110_4 (by decide) (fun h4 => ?_) (fun h4 => ?_)
  · have h19 : ¬ stN = 0 := by simpa using h4
    rw [if_neg h19]
    have loop : ∀ (n k : Nat) (f : Nat → Nat), k + n = stN → trN ≤ k → (∀ j, f j = if trN ≤ j ∧ j < k then (if de j < meN then 0 else de j - meN) else de j) → WP 1 0 0 110 15 [.ref m, .int (nI k)] [] (put σ m (m + 1) (mF m pm sta rdm (nI stN) (nI meN) (nI trN) mi slr wa cha bm bc bl bch ask sn ks kw kt km hsh) (mA apg (arr 6 f) afo aro ale afi anf anl awh aod abo aof ama asd akr akl akf akd ako)) (some (.int (nI (smN (suN trN stN meN de) trN (stN - trN))))) (put σ m (m + 1) (mF m pm sta rdm (nI stN) (nI meN) (nI trN) mi slr wa cha bm bc bl bch ask sn ks kw kt km hsh) (mA apg (arr 6 (suN trN stN meN de)) afo aro ale afi anf anl awh aod abo aof ama asd akr akl akf akd ako)) := by
      intro n
      induction n with
      | zero =>
        intro k f hk' ht hf
        have e : k = stN := by omega
        subst e
        rw [show suN trN k meN de = f by funext j; rw [hf]; rfl]
        refine wp_iload_1 d110_15 ?_
        refine wp_aload_0 d110_16 ?_
        refine wp_getP d110_17 (Nat.le_of_ble_eq_true rfl) kM.1 rfl ?_
        refine wp_icmp_geN d110_20 (by decide) (by omega) (by omega) (fun h20 => ?_) (fun hq => absurd hq (by omega))
        refine wp_aload_0 d110_63 ?_
        refine wp_V0r d110_64 kM.1 ((m_depthsLeft kM (by omega) h6)) (Nat.le_of_ble_eq_true rfl) (Nat.le_of_ble_eq_true rfl) ?_
        exact wp_iret d110_67 rfl rfl rfl
      | succ n ih =>
        intro k f hk' ht hf
        have b1 := hd k (by omega)
        have b2 : f k = de k := by rw [hf]; simp
        refine wp_iload_1 d110_15 ?_
        refine wp_aload_0 d110_16 ?_
        refine wp_getP d110_17 (Nat.le_of_ble_eq_true rfl) kM.1 rfl ?_
        refine wp_icmp_geN d110_20 (by decide) (by omega) (by omega) (fun hq => absurd hq (by omega)) (fun h20 => ?_)
        refine wp_aload_0 d110_23 ?_
        refine wp_getP d110_24 (Nat.le_of_ble_eq_true rfl) kM.1 rfl ?_
        refine wp_iload_1 d110_27 ?_
        refine wp_aload_0 d110_28 ?_
        refine wp_getP d110_29 (Nat.le_of_ble_eq_true rfl) kM.1 rfl ?_
        refine wp_iload_1 d110_32 ?_
        refine wp_aldP d110_33 (kM.2 _ (Nat.le_of_ble_eq_true rfl)) rfl (by omega) (by decide) ?_
        rw [b2]
        refine wp_aload_0 d110_34 ?_
        refine wp_getP d110_35 (Nat.le_of_ble_eq_true rfl) kM.1 rfl ?_
        refine wp_icmp_geN d110_38 (by decide) (by omega) (by omega) (fun h38 => ?_) (fun h38 => ?_)
        · refine wp_aload_0 d110_45 ?_
          refine wp_getP d110_46 (Nat.le_of_ble_eq_true rfl) kM.1 rfl ?_
          refine wp_iload_1 d110_49 ?_
          refine wp_aldP d110_50 (kM.2 _ (Nat.le_of_ble_eq_true rfl)) rfl (by omega) (by decide) ?_
          rw [b2]
          refine wp_aload_0 d110_51 ?_
          refine wp_getP d110_52 (Nat.le_of_ble_eq_true rfl) kM.1 rfl ?_
          refine wp_isubN d110_55 (by omega) ?_
          refine wp_astN d110_56 (kM.2 _ (Nat.le_of_ble_eq_true rfl)) rfl (by omega) (by decide) ?_
          refine wp_iinc_1 d110_57 (Nat.le_of_ble_eq_true rfl) rfl (inc1 _) ?_
          refine wp_goto d110_60 (by decide) ?_
          refine ih (k + 1) _ (by omega) (by omega) (fun j => ?_)
          unfold up
          rw [hf j]
          grind
        · refine wp_iconst d110_41 ic_0 ?_
          refine wp_goto d110_42 (by decide) ?_
          refine wp_astN d110_56 (kM.2 _ (Nat.le_of_ble_eq_true rfl)) rfl (by omega) (by decide) ?_
          refine wp_iinc_1 d110_57 (Nat.le_of_ble_eq_true rfl) rfl (inc1 _) ?_
          refine wp_goto d110_60 (by decide) ?_
          refine ih (k + 1) _ (by omega) (by omega) (fun j => ?_)
          unfold up
          rw [hf j]
          grind
    refine wp_aload_0 d110_10 ?_
    refine wp_getP d110_11 (Nat.le_of_ble_eq_true rfl) kM.1 rfl ?_
    refine wp_istore_1 d110_14 (Nat.le_of_ble_eq_true rfl) rfl ?_
    exact loop (stN - trN) trN de (by omega) (by omega) (fun j => by grind)
  · have h19 : stN = 0 := by simpa using h4
    rw [if_pos h19, show suN trN stN meN de = de by funext j; simp [suN]; omega]
    refine wp_bipush d110_7 bi_m103 ?_
    exact wp_iret d110_9 rfl rfl rfl
theorem m_ways (kM : KM σ m) {trN stN w : Nat} (h1 : trN ≤ stN) (h6 : stN ≤ 6) : Ev 0 0 0 111 [.ref m] (put σ m (m + 1) (mF m pm sta rdm (nI stN) me (nI trN) mi slr (nI w) cha bm bc bl bch ask sn ks kw kt km hsh) (mA apg ade afo aro ale afi anf anl awh aod abo aof ama asd akr akl akf akd ako)) (some (.int (nI (w ^ (stN - trN))))) (put σ m (m + 1) (mF m pm sta rdm (nI stN) me (nI trN) mi slr (nI w) cha bm bc bl bch ask sn ks kw kt km hsh) (mA apg ade afo aro ale afi anf anl awh aod abo aof ama asd akr akl akf akd ako)) := by
  have loop : ∀ (n k : Nat), trN + k + n = stN → WP 0 0 0 111 7 [.ref m, .int (nI (w ^ k)), .int (nI (trN + k))] [] (put σ m (m + 1) (mF m pm sta rdm (nI stN) me (nI trN) mi slr (nI w) cha bm bc bl bch ask sn ks kw kt km hsh) (mA apg ade afo aro ale afi anf anl awh aod abo aof ama asd akr akl akf akd ako)) (some (.int (nI (w ^ (stN - trN))))) (put σ m (m + 1) (mF m pm sta rdm (nI stN) me (nI trN) mi slr (nI w) cha bm bc bl bch ask sn ks kw kt km hsh) (mA apg ade afo aro ale afi anf anl awh aod abo aof ama asd akr akl akf akd ako)) := by
    intro n
    induction n with
    | zero =>
      intro k hk'
      have e : stN - trN = k := by omega
      rw [e]
      refine wp_iload_2 d111_7 ?_
      refine wp_aload_0 d111_8 ?_
      refine wp_getP d111_9 (Nat.le_of_ble_eq_true rfl) kM.1 rfl ?_
      refine wp_icmp_geN d111_12 (by decide) (by omega) (by omega) (fun h12 => ?_) (fun hq => absurd hq (by omega))
      refine wp_iload_1 d111_28 ?_
      exact wp_iret d111_29 rfl rfl rfl
    | succ n ih =>
      intro k hk'
      refine wp_iload_2 d111_7 ?_
      refine wp_aload_0 d111_8 ?_
      refine wp_getP d111_9 (Nat.le_of_ble_eq_true rfl) kM.1 rfl ?_
      refine wp_icmp_geN d111_12 (by decide) (by omega) (by omega) (fun hq => absurd hq (by omega)) (fun h12 => ?_)
      refine wp_iload_1 d111_15 ?_
      refine wp_aload_0 d111_16 ?_
      refine wp_getP d111_17 (Nat.le_of_ble_eq_true rfl) kM.1 rfl ?_
      refine wp_imulN d111_20 ?_
      refine wp_istore_1 d111_21 (Nat.le_of_ble_eq_true rfl) rfl ?_
      refine wp_iinc_2 d111_22 (Nat.le_of_ble_eq_true rfl) rfl (inc1 _) ?_
      refine wp_goto d111_25 (by decide) ?_
      exact ih (k + 1) (by omega)
  refine ev_of (L := [(.ref m), .null, .null]) (by decide) rfl (Nat.le_of_ble_eq_true rfl) ?_
  refine wp_iconst d111_0 ic_1 ?_
  refine wp_istore_1 d111_1 (Nat.le_of_ble_eq_true rfl) rfl ?_
  refine wp_aload_0 d111_2 ?_
  refine wp_getP d111_3 (Nat.le_of_ble_eq_true rfl) kM.1 rfl ?_
  refine wp_istore_2 d111_6 (Nat.le_of_ble_eq_true rfl) rfl ?_
  exact loop (stN - trN) 0 (by omega)
theorem lt_pred {a b : Nat} (ha : a < 2 ^ 30) (hb : b < 2 ^ 30) : nI a - nI 1 < nI b ↔ (a : Int) - 1 < b := by
  rw [lt_nI (by omega), pk_sub_toInt ha (by decide)]
  rfl
theorem m_layWho (kM : KM σ m) {trN stN w code : Nat} {wh : Nat → Nat} (h1 : trN ≤ stN) (h6 : stN ≤ 6) (hw : 1 ≤ w) (hw5 : w ≤ 5) (hc : code < 2 ^ 31) : Ev 0 0 0 112 [.ref m, .int (nI code)] (put σ m (m + 1) (mF m pm sta rdm (nI stN) me (nI trN) mi slr (nI w) cha bm bc bl bch ask sn ks kw kt km hsh) (mA apg ade afo aro ale afi anf anl (arr 6 wh) aod abo aof ama asd akr akl akf akd ako)) none (put σ m (m + 1) (mF m pm sta rdm (nI stN) me (nI trN) mi slr (nI w) cha bm bc bl bch ask sn ks kw kt km hsh) (mA apg ade afo aro ale afi anf anl (arr 6 (whN w trN stN code wh)) aod abo aof ama asd akr akl akf akd ako)) := by
  have loop : ∀ (n c : Nat) (f : Nat → Nat), trN + n = c → c ≤ stN → (∀ j, f j = if c ≤ j ∧ j < stN then code / w ^ (stN - 1 - j) % w else wh j) → WP 0 0 0 112 9 [.ref m, .int (nI code), .int (nI (code / w ^ (stN - c))), .int (nI c - nI 1)] [] (put σ m (m + 1) (mF m pm sta rdm (nI stN) me (nI trN) mi slr (nI w) cha bm bc bl bch ask sn ks kw kt km hsh) (mA apg ade afo aro ale afi anf anl (arr 6 f) aod abo aof ama asd akr akl akf akd ako)) none (put σ m (m + 1) (mF m pm sta rdm (nI stN) me (nI trN) mi slr (nI w) cha bm bc bl bch ask sn ks kw kt km hsh) (mA apg ade afo aro ale afi anf anl (arr 6 (whN w trN stN code wh)) aod abo aof ama asd akr akl akf akd ako)) := by
    intro n
    induction n with
    | zero =>
      intro c f hk' hcs hf
      have e : trN = c := by omega
      subst e
      rw [show whN w trN stN code wh = f by funext j; rw [hf]; rfl]
      refine wp_iload_3 d112_9 ?_
      refine wp_aload_0 d112_10 ?_
      refine wp_getP d112_11 (Nat.le_of_ble_eq_true rfl) kM.1 rfl ?_
      refine wp_icmp_lt d112_14 (by decide) (fun h14 => ?_) (fun hq => absurd hq (fun hq => hq ((lt_pred (by omega) (by omega)).mpr (by omega))))
      exact wp_vret d112_42 rfl rfl rfl
    | succ n ih =>
      intro c f hk' hcs hf
      refine wp_iload_3 d112_9 ?_
      refine wp_aload_0 d112_10 ?_
      refine wp_getP d112_11 (Nat.le_of_ble_eq_true rfl) kM.1 rfl ?_
      refine wp_icmp_lt d112_14 (by decide) (fun hq => absurd ((lt_pred (by omega) (by omega)).mp hq) (by omega)) (fun h14 => ?_)
      obtain ⟨c', rfl⟩ : ∃ c', c = c' + 1 := ⟨c - 1, by omega⟩
      rw [pk_sub (show 1 ≤ c' + 1 by omega), Nat.add_sub_cancel]
      have hle : code / w ^ (stN - (c' + 1)) < 2 ^ 31 := Nat.lt_of_le_of_lt (Nat.div_le_self _ _) hc
      refine wp_aload_0 d112_17 ?_
      refine wp_getP d112_18 (Nat.le_of_ble_eq_true rfl) kM.1 rfl ?_
      refine wp_iload_3 d112_21 ?_
      refine wp_iload_2 d112_22 ?_
      refine wp_aload_0 d112_23 ?_
      refine wp_getP d112_24 (Nat.le_of_ble_eq_true rfl) kM.1 rfl ?_
      refine wp_iremN d112_27 (by omega) (by omega) (by omega) ?_
      refine wp_astN d112_28 (kM.2 _ (Nat.le_of_ble_eq_true rfl)) rfl (by omega) (by decide) ?_
      refine wp_iload_2 d112_29 ?_
      refine wp_aload_0 d112_30 ?_
      refine wp_getP d112_31 (Nat.le_of_ble_eq_true rfl) kM.1 rfl ?_
      refine wp_idivN d112_34 (by omega) (by omega) (by omega) ?_
      refine wp_istore_2 d112_35 (Nat.le_of_ble_eq_true rfl) rfl ?_
      refine wp_iinc_3 d112_36 (Nat.le_of_ble_eq_true rfl) rfl (dec2 _) ?_
      refine wp_goto d112_39 (by decide) ?_
      rw [Nat.div_div_eq_div_mul, ← Nat.pow_succ, show (stN - (c' + 1)).succ = stN - c' by omega]
      refine ih c' _ (by omega) (by omega) (fun j => ?_)
      unfold up
      rw [hf j]
      by_cases e : j = c'
      · subst e
        rw [if_pos rfl, if_pos (by omega), show stN - 1 - j = stN - (j + 1) by omega]
      · rw [if_neg e]
        by_cases e2 : c' + 1 ≤ j ∧ j < stN
        · rw [if_pos e2, if_pos (by omega)]
        · rw [if_neg e2, if_neg (by omega)]
  refine ev_of (L := [(.ref m), (.int (nI code)), .null, .null]) (by decide) rfl (Nat.le_of_ble_eq_true rfl) ?_
  refine wp_iload_1 d112_0 ?_
  refine wp_istore_2 d112_1 (Nat.le_of_ble_eq_true rfl) rfl ?_
  refine wp_aload_0 d112_2 ?_
  refine wp_getP d112_3 (Nat.le_of_ble_eq_true rfl) kM.1 rfl ?_
  refine wp_iconst d112_6 ic_1 ?_
  refine wp_isub d112_7 ?_
  refine wp_istore_3 d112_8 (Nat.le_of_ble_eq_true rfl) rfl ?_
  have := loop (stN - trN) stN wh (by omega) (by omega) (fun j => by rw [if_neg (by omega)])
  rw [Nat.sub_self, Nat.pow_zero, Nat.div_one] at this
  exact this
theorem m_goesBy (kM : KM σ m) {trN stN w : Nat} {ki sr fi le de wh nf nl : Nat → Nat} {to : Nat → Option Nat} (h1 : trN ≤ stN) (h6 : stN ≤ 6) (hw : 1 ≤ w) (hw5 : w ≤ 5) (hf : PF w fi) (hk : ∀ v, v < w → ki v < 5) (hl : ∀ v, v < w → le v < 1000) (hd : ∀ k, k < stN → de k < 100) (hwh : ∀ k, trN ≤ k → k < stN → wh k < w) : Ev 2 0 0 113 [.ref m] (put σ m (m + 1) (mF m pm sta rdm (nI stN) me (nI trN) mi slr (nI w) cha bm bc bl bch ask sn ks kw kt km hsh) (mA apg (arr 6 de) afo (arrI 15 (rw3 ki sr to)) (arr 5 le) (arr 5 fi) (arr 5 nf) (arr 5 nl) (arr 6 wh) aod abo aof ama asd akr akl akf akd ako)) (some (.int (bi (gb w ki fi de wh (stN - trN) trN 0 le 0).1))) (put σ m (m + 1) (mF m pm sta rdm (nI stN) me (nI trN) mi slr (nI w) (nI (gb w ki fi de wh (stN - trN) trN 0 le 0).2.2.2) bm bc bl bch ask sn ks kw kt km hsh) (mA apg (arr 6 de) afo (arrI 15 (rw3 ki sr to)) (arr 5 le) (arr 5 fi) (arr 5 (rotk w fi (gb w ki fi de wh (stN - trN) trN 0 le 0).2.1)) (arr 5 (gb w ki fi de wh (stN - trN) trN 0 le 0).2.2.1) (arr 6 wh) aod abo aof ama asd akr akl akf akd ako)) := by
  have inner : ∀ (k : Nat) (l2 : Nat → Nat) (r : Option Value) (σ' : Sto) (x : Int32), trN ≤ k → k < stN → ∀ (i j ch : Nat), i < w → (j + i) % w = pl w fi (wh k) → WP 2 0 0 113 60 [.ref m, .int x, .int (nI k)] [] (put σ m (m + 1) (mF m pm sta rdm (nI stN) me (nI trN) mi slr (nI w) (nI (ch + i)) bm bc bl bch ask sn ks kw kt km hsh) (mA apg (arr 6 de) afo (arrI 15 (rw3 ki sr to)) (arr 5 le) (arr 5 fi) (arr 5 (rotk w fi (pl w fi (wh k)))) (arr 5 l2) (arr 6 wh) aod abo aof ama asd akr akl akf akd ako)) r σ' → WP 2 0 0 113 28 [.ref m, .int x, .int (nI k)] [] (put σ m (m + 1) (mF m pm sta rdm (nI stN) me (nI trN) mi slr (nI w) (nI ch) bm bc bl bch ask sn ks kw kt km hsh) (mA apg (arr 6 de) afo (arrI 15 (rw3 ki sr to)) (arr 5 le) (arr 5 fi) (arr 5 (rotk w fi j)) (arr 5 l2) (arr 6 wh) aod abo aof ama asd akr akl akf akd ako)) r σ' := by
    intro k l2 r σ' x hk1 hk2 i
    have hv := hwh k hk1 hk2
    have hp := PF_pl hf hv
    induction i with
    | zero =>
      intro j ch hi he K
      have hj := PF_rotk hf j
      have b1 := hj.1 0 (by omega)
      have e0 : rotk w fi j 0 = wh k := by
        unfold rotk
        rw [if_pos (by omega), Nat.zero_add, show j % w = pl w fi (wh k) from he]
        exact hp.2
      refine wp_aload_0 d113_28 ?_
      refine wp_getP d113_29 (Nat.le_of_ble_eq_true rfl) kM.1 rfl ?_
      refine wp_iconst d113_32 ic_0 ?_
      refine wp_aldP d113_33 (kM.2 _ (Nat.le_of_ble_eq_true rfl)) rfl (by omega) (by decide) ?_
      refine wp_aload_0 d113_34 ?_
      refine wp_getP d113_35 (Nat.le_of_ble_eq_true rfl) kM.1 rfl ?_
      refine wp_iload_2 d113_38 ?_
      refine wp_aldP d113_39 (kM.2 _ (Nat.le_of_ble_eq_true rfl)) rfl (by omega) (by decide) ?_
      refine wp_icmp_eqN d113_40 (by decide) (by omega) (by omega) (fun h40 => ?_) (fun hq => absurd hq (fun hq => hq e0))
      rw [show rotk w fi (pl w fi (wh k)) = rotk w fi j by rw [← he]; exact (rotk_mod (by omega)).symm] at K
      exact K
    | succ i ih =>
      intro j ch hi he K
      have hj := PF_rotk hf j
      have b1 := hj.1 0 (by omega)
      have e0 : rotk w fi j 0 ≠ wh k := by
        intro z
        unfold rotk at z
        rw [if_pos (by omega), Nat.zero_add] at z
        have h2 := hf.2.1 (j % w) (pl w fi (wh k)) (Nat.mod_lt _ (by omega)) hp.1 (z.trans hp.2.symm)
        rw [← he] at h2
        rcases (by omega : w = 1 ∨ w = 2 ∨ w = 3 ∨ w = 4 ∨ w = 5) with rfl | rfl | rfl | rfl | rfl <;> omega
      refine wp_aload_0 d113_28 ?_
      refine wp_getP d113_29 (Nat.le_of_ble_eq_true rfl) kM.1 rfl ?_
      refine wp_iconst d113_32 ic_0 ?_
      refine wp_aldP d113_33 (kM.2 _ (Nat.le_of_ble_eq_true rfl)) rfl (by omega) (by decide) ?_
      refine wp_aload_0 d113_34 ?_
      refine wp_getP d113_35 (Nat.le_of_ble_eq_true rfl) kM.1 rfl ?_
      refine wp_iload_2 d113_38 ?_
      refine wp_aldP d113_39 (kM.2 _ (Nat.le_of_ble_eq_true rfl)) rfl (by omega) (by decide) ?_
      refine wp_icmp_eqN d113_40 (by decide) (by omega) (by omega) (fun hq => absurd hq (e0)) (fun h40 => ?_)
      refine wp_aload_0 d113_43 ?_
      refine wp_V0v d113_44 kM.1 ((m_turns kM (by omega) (by omega))) (Nat.le_of_ble_eq_true rfl) (Nat.le_of_ble_eq_true rfl) ?_
      refine wp_aload_0 d113_47 ?_
      refine wp_dup d113_48 rfl ?_
      refine wp_getP d113_49 (Nat.le_of_ble_eq_true rfl) kM.1 rfl ?_
      refine wp_iconst d113_52 ic_1 ?_
      refine wp_iaddN d113_53 ?_
      refine wp_putIP d113_54 kM.1 ?_
      refine wp_goto d113_57 (by decide) ?_
      rw [rot_rotk (by omega)]
      refine ih (j + 1) (ch + 1) (by omega) (by rw [show j + 1 + i = j + (i + 1) by omega]; exact he) ?_
      rw [show ch + 1 + i = ch + (i + 1) by omega]
      exact K
  have loop : ∀ (n k j ch : Nat) (l2 : Nat → Nat), k + n = stN → trN ≤ k → j < w → (∀ v, v < w → l2 v < 1000) → WP 2 0 0 113 16 [.ref m, .int (bi true), .int (nI k)] [] (put σ m (m + 1) (mF m pm sta rdm (nI stN) me (nI trN) mi slr (nI w) (nI ch) bm bc bl bch ask sn ks kw kt km hsh) (mA apg (arr 6 de) afo (arrI 15 (rw3 ki sr to)) (arr 5 le) (arr 5 fi) (arr 5 (rotk w fi j)) (arr 5 l2) (arr 6 wh) aod abo aof ama asd akr akl akf akd ako)) (some (.int (bi (gb w ki fi de wh n k j l2 ch).1))) (put σ m (m + 1) (mF m pm sta rdm (nI stN) me (nI trN) mi slr (nI w) (nI (gb w ki fi de wh n k j l2 ch).2.2.2) bm bc bl bch ask sn ks kw kt km hsh) (mA apg (arr 6 de) afo (arrI 15 (rw3 ki sr to)) (arr 5 le) (arr 5 fi) (arr 5 (rotk w fi (gb w ki fi de wh n k j l2 ch).2.1)) (arr 5 (gb w ki fi de wh n k j l2 ch).2.2.1) (arr 6 wh) aod abo aof ama asd akr akl akf akd ako)) := by
    intro n
    induction n with
    | zero =>
      intro k j ch l2 hk' ht hj hl2
      refine wp_iload_2 d113_16 ?_
      refine wp_aload_0 d113_17 ?_
      refine wp_getP d113_18 (Nat.le_of_ble_eq_true rfl) kM.1 rfl ?_
      refine wp_icmp_geN d113_21 (by decide) (by omega) (by omega) (fun h21 => ?_) (fun hq => absurd hq (by omega))
      refine wp_iload_1 d113_91 ?_
      exact wp_zret d113_92 rfl (by first | exact nI_01 | exact nI_11 | exact bi_01 _) rfl rfl
    | succ n ih =>
      intro k j ch l2 hk' ht hj hl2
      have hv := hwh k ht (by omega)
      have hp := PF_pl hf hv
      have hpf := PF_rotk hf (pl w fi (wh k))
      have hdk := hd k (by omega)
      refine wp_iload_2 d113_16 ?_
      refine wp_aload_0 d113_17 ?_
      refine wp_getP d113_18 (Nat.le_of_ble_eq_true rfl) kM.1 rfl ?_
      refine wp_icmp_geN d113_21 (by decide) (by omega) (by omega) (fun hq => absurd hq (by omega)) (fun h21 => ?_)
      refine wp_iload_1 d113_24 ?_
      refine wp_if_eqB d113_25 (by decide) (fun hq => absurd hq (by decide)) (fun h25 => ?_)
      refine inner k l2 _ _ _ ht (by omega) ((pl w fi (wh k) + w - j) % w) j ch (Nat.mod_lt _ (by omega)) ?_ ?_
      · rcases (by omega : w = 1 ∨ w = 2 ∨ w = 3 ∨ w = 4 ∨ w = 5) with rfl | rfl | rfl | rfl | rfl <;> omega
      · refine wp_aload_0 d113_60 ?_
        refine wp_aload_0 d113_61 ?_
        refine wp_getP d113_62 (Nat.le_of_ble_eq_true rfl) kM.1 rfl ?_
        refine wp_iload_2 d113_65 ?_
        refine wp_aldP d113_66 (kM.2 _ (Nat.le_of_ble_eq_true rfl)) rfl (by omega) (by decide) ?_
        refine wp_V1r d113_67 kM.1 ((m_canTread kM hw5 hpf.1 hk hl2 hdk)) (Nat.le_of_ble_eq_true rfl) (Nat.le_of_ble_eq_true rfl) ?_
        refine wp_istore_1 d113_70 (Nat.le_of_ble_eq_true rfl) rfl ?_
        refine wp_iload_1 d113_71 ?_
        refine wp_if_eqB d113_72 (by decide) (fun h72 => ?_) (fun h72 => ?_)
        · rw [show gb w ki fi de wh (n + 1) k j l2 ch = (false, pl w fi (wh k), l2, ch + (pl w fi (wh k) + w - j) % w) by simp [gb, h72], h72]
          refine wp_iinc_2 d113_85 (Nat.le_of_ble_eq_true rfl) rfl (inc1 _) ?_
          refine wp_goto d113_88 (by decide) ?_
          refine wp_iload_2 d113_16 ?_
          refine wp_aload_0 d113_17 ?_
          refine wp_getP d113_18 (Nat.le_of_ble_eq_true rfl) kM.1 rfl ?_
          refine wp_icmp_geN d113_21 (by decide) (by omega) (by omega) (fun h21 => ?_) (fun h21 => ?_)
          · refine wp_iload_1 d113_91 ?_
            exact wp_zret d113_92 rfl (by first | exact nI_01 | exact nI_11 | exact bi_01 _) rfl rfl
          · refine wp_iload_1 d113_24 ?_
            refine wp_if_eqB d113_25 (by decide) (fun h25 => ?_) (fun hq => absurd hq (by decide))
            refine wp_iload_1 d113_91 ?_
            exact wp_zret d113_92 rfl (by first | exact nI_01 | exact nI_11 | exact bi_01 _) rfl rfl
        · rw [show gb w ki fi de wh (n + 1) k j l2 ch = gb w ki fi de wh n (k + 1) (pl w fi (wh k)) (trS ki (rotk w fi (pl w fi (wh k))) (de k) l2 w) (ch + (pl w fi (wh k) + w - j) % w) by simp [gb, h72], h72]
          refine wp_aload_0 d113_75 ?_
          refine wp_aload_0 d113_76 ?_
          refine wp_getP d113_77 (Nat.le_of_ble_eq_true rfl) kM.1 rfl ?_
          refine wp_iload_2 d113_80 ?_
          refine wp_aldP d113_81 (kM.2 _ (Nat.le_of_ble_eq_true rfl)) rfl (by omega) (by decide) ?_
          refine wp_V1v d113_82 kM.1 ((m_treads kM hw5 hpf hk h72 hdk)) (Nat.le_of_ble_eq_true rfl) (Nat.le_of_ble_eq_true rfl) ?_
          refine wp_iinc_2 d113_85 (Nat.le_of_ble_eq_true rfl) rfl (inc1 _) ?_
          refine wp_goto d113_88 (by decide) ?_
          exact ih (k + 1) _ _ _ (by omega) (by omega) hp.1 (fun v hv => Nat.lt_of_le_of_lt trS_le (hl2 v hv))
  refine ev_of (L := [(.ref m), .null, .null]) (by decide) rfl (Nat.le_of_ble_eq_true rfl) ?_
  refine wp_aload_0 d113_0 ?_
  refine wp_V0v d113_1 kM.1 ((m_asItIs kM)) (Nat.le_of_ble_eq_true rfl) (Nat.le_of_ble_eq_true rfl) ?_
  refine wp_aload_0 d113_4 ?_
  refine wp_iconst d113_5 ic_0 ?_
  refine wp_putIP d113_6 kM.1 ?_
  refine wp_iconst d113_9 ic_1 ?_
  refine wp_istore_1 d113_10 (Nat.le_of_ble_eq_true rfl) rfl ?_
  refine wp_aload_0 d113_11 ?_
  refine wp_getP d113_12 (Nat.le_of_ble_eq_true rfl) kM.1 rfl ?_
  refine wp_istore_2 d113_15 (Nat.le_of_ble_eq_true rfl) rfl ?_
  have := loop (stN - trN) trN 0 0 le (by omega) (by omega) (by omega) hl
  rw [rotk_0] at this
  exact this

end S07_mo3b
end
section

def okW (st w : Nat) (x y : Int32) : Bool := inB x 0 4 && inB y 1 99 && decide (st ≠ 0) && decide (w < 5)
def r_walker (st w : Nat) (x y : Int32) : Int32 := if inB x 0 4 && inB y 1 99 then (if st = 0 then -103 else if w = 5 then -104 else nI w) else -102
def okS (pg : Nat → Nat) (pm : Nat) : Bool := decide ((flt pg pm 0 0 0).1 = pm) && decide ((flt pg pm 0 0 0).2.1 = 3)
end
section
section S08_mo4b
variable {σ : Sto} {m : Nat} {pm sta rdm st me tr mi slr wa cha bm bc bl bch ask sn ks kw kt km : Int32} {hsh : Int64} {apg ade afo aro ale afi anf anl awh aod abo aof ama asd akr akl akf akd ako : List Int32}

theorem m_tells (kM : KM σ m) {trN stN w v : Nat} {ki sr le fi de : Nat → Nat} {to fo : Nat → Option Nat} (h1 : trN ≤ stN) (h6 : stN ≤ 6) (h5 : w ≤ 5) (hf : PF w fi) (hv : v < w) (hk : ∀ v, v < w → ki v < 5) (hd : ∀ k, k < stN → de k < 100) (hfo : ∀ k, k < trN → ∀ j, fo k = some j → j < 2 ^ 31) (x : Int32) : Ev 1 0 0 95 [.ref m, .int (nI v), .int x] (put σ m (m + 1) (mF m pm sta rdm (nI stN) me (nI trN) mi slr (nI w) cha bm bc bl bch ask sn ks kw kt km hsh) (mA apg (arr 6 de) (arO 6 fo) (arrI 15 (rw3 ki sr to)) (arr 5 le) (arr 5 fi) anf anl awh aod abo aof ama asd akr akl akf akd ako)) (some (.int (r_tells stN trN ki sr le fi de to fo w v x))) (put σ m (m + 1) (mF m pm sta rdm (nI stN) me (nI trN) mi slr (nI w) cha bm bc bl bch ask sn ks kw kt km hsh) (mA apg (arr 6 de) (arO 6 fo) (arrI 15 (rw3 ki sr to)) (arr 5 le) (arr 5 fi) anf anl awh aod abo aof ama asd akr akl akf akd ako)) := by
  have hp := PF_pl hf hv
  refine ev_of (L := [(.ref m), (.int (nI v)), (.int x)]) (by decide) rfl (Nat.le_of_ble_eq_true rfl) ?_
  refine wp_iload_2 d95_0 ?_
  by_cases hx : 0 ≤ x.toInt ∧ x.toInt ≤ 6
  · obtain ⟨j, hj, rfl⟩ : ∃ j : Nat, j ≤ 6 ∧ x = nI j := ⟨x.toInt.toNat, by omega, nI_to hx.1⟩
    rcases (by omega : j = 0 ∨ j = 1 ∨ j = 2 ∨ j = 3 ∨ j = 4 ∨ j = 5 ∨ j = 6) with rfl | rfl | rfl | rfl | rfl | rfl | rfl
    · rw [show r_tells stN trN ki sr le fi de to fo w v (nI 0) = nI (ki v) from rfl]
      refine wp_swin (off := 43) (tgt := 44) d95_1 (by decide) (by decide) rfl (by decide) ?_
      refine wp_aload_0 d95_44 ?_
      refine wp_getP d95_45 (Nat.le_of_ble_eq_true rfl) kM.1 rfl ?_
      refine wp_iconst d95_48 ic_3 ?_
      refine wp_iload_1 d95_49 ?_
      refine wp_imulN d95_50 ?_
      refine wp_iload_2 d95_51 ?_
      refine wp_iaddN d95_52 ?_
      refine wp_aldP d95_53 (kM.2 _ (Nat.le_of_ble_eq_true rfl)) rfl (by omega) (by decide) ?_
      rw [show 3 * v + 0 = 3 * v from rfl, rw_0]
      exact wp_iret d95_54 rfl rfl rfl
    · rw [show r_tells stN trN ki sr le fi de to fo w v (nI 1) = nI (sr v) from rfl]
      refine wp_swin (off := 43) (tgt := 44) d95_1 (by decide) (by decide) rfl (by decide) ?_
      refine wp_aload_0 d95_44 ?_
      refine wp_getP d95_45 (Nat.le_of_ble_eq_true rfl) kM.1 rfl ?_
      refine wp_iconst d95_48 ic_3 ?_
      refine wp_iload_1 d95_49 ?_
      refine wp_imulN d95_50 ?_
      refine wp_iload_2 d95_51 ?_
      refine wp_iaddN d95_52 ?_
      refine wp_aldP d95_53 (kM.2 _ (Nat.le_of_ble_eq_true rfl)) rfl (by omega) (by decide) ?_
      rw [rw_1]
      exact wp_iret d95_54 rfl rfl rfl
    · rw [show r_tells stN trN ki sr le fi de to fo w v (nI 2) = nI (le v) from rfl]
      refine wp_swin (off := 54) (tgt := 55) d95_1 (by decide) (by decide) rfl (by decide) ?_
      refine wp_aload_0 d95_55 ?_
      refine wp_getP d95_56 (Nat.le_of_ble_eq_true rfl) kM.1 rfl ?_
      refine wp_iload_1 d95_59 ?_
      refine wp_aldP d95_60 (kM.2 _ (Nat.le_of_ble_eq_true rfl)) rfl (by omega) (by decide) ?_
      exact wp_iret d95_61 rfl rfl rfl
    · rw [show r_tells stN trN ki sr le fi de to fo w v (nI 3) = nI (pl w fi v) from rfl]
      refine wp_swin (off := 61) (tgt := 62) d95_1 (by decide) (by decide) rfl (by decide) ?_
      refine wp_aload_0 d95_62 ?_
      refine wp_iload_1 d95_63 ?_
      refine wp_V1r d95_64 kM.1 ((m_placeOf kM h5 hf hv)) (Nat.le_of_ble_eq_true rfl) (Nat.le_of_ble_eq_true rfl) ?_
      exact wp_iret d95_67 rfl rfl rfl
    · rw [show r_tells stN trN ki sr le fi de to fo w v (nI 4) = nI (frN fo v trN) from rfl]
      refine wp_swin (off := 67) (tgt := 68) d95_1 (by decide) (by decide) rfl (by decide) ?_
      refine wp_aload_0 d95_68 ?_
      refine wp_iload_1 d95_69 ?_
      refine wp_V1r d95_70 kM.1 ((m_firstsOf kM (by omega) (by omega) hfo)) (Nat.le_of_ble_eq_true rfl) (Nat.le_of_ble_eq_true rfl) ?_
      exact wp_iret d95_73 rfl rfl rfl
    · rw [show r_tells stN trN ki sr le fi de to fo w v (nI 5) = (if trN = stN then -1 else nI (payN ki fi (pl w fi v) (de trN))) from rfl]
      refine wp_swin (off := 73) (tgt := 74) d95_1 (by decide) (by decide) rfl (by decide) ?_
      refine wp_aload_0 d95_74 ?_
      refine wp_getP d95_75 (Nat.le_of_ble_eq_true rfl) kM.1 rfl ?_
      refine wp_aload_0 d95_78 ?_
      refine wp_getP d95_79 (Nat.le_of_ble_eq_true rfl) kM.1 rfl ?_
      refine wp_icmp_neN d95_82 (by decide) (by omega) (by omega) (fun h82 => ?_) (fun h82 => ?_)
      · rw [if_neg h82]
        have b1 := hd trN (by omega)
        have b2 := hf.1 (pl w fi v) hp.1
        refine wp_aload_0 d95_89 ?_
        refine wp_aload_0 d95_90 ?_
        refine wp_getP d95_91 (Nat.le_of_ble_eq_true rfl) kM.1 rfl ?_
        refine wp_aload_0 d95_94 ?_
        refine wp_iload_1 d95_95 ?_
        refine wp_V1r d95_96 kM.1 ((m_placeOf kM h5 hf hv)) (Nat.le_of_ble_eq_true rfl) (Nat.le_of_ble_eq_true rfl) ?_
        refine wp_aload_0 d95_99 ?_
        refine wp_getP d95_100 (Nat.le_of_ble_eq_true rfl) kM.1 rfl ?_
        refine wp_aload_0 d95_103 ?_
        refine wp_getP d95_104 (Nat.le_of_ble_eq_true rfl) kM.1 rfl ?_
        refine wp_aldP d95_107 (kM.2 _ (Nat.le_of_ble_eq_true rfl)) rfl (by omega) (by decide) ?_
        refine wp_V3r d95_108 kM.1 ((m_paysAtF kM (by omega) (by omega) (fun z => by have := hf.1 (pl w fi v - 1) (by omega); omega) (hk _ b2) (fun z => hk _ (hf.1 (pl w fi v - 1) (by omega))) b1)) (Nat.le_of_ble_eq_true rfl) (Nat.le_of_ble_eq_true rfl) ?_
        exact wp_iret d95_111 rfl rfl rfl
      · rw [if_pos h82]
        refine wp_iconst d95_85 ic_m1 ?_
        refine wp_goto d95_86 (by decide) ?_
        exact wp_iret d95_111 rfl rfl rfl
    · rw [show r_tells stN trN ki sr le fi de to fo w v (nI 6) = eo (to v) from rfl]
      refine wp_swin (off := 111) (tgt := 112) d95_1 (by decide) (by decide) rfl (by decide) ?_
      refine wp_aload_0 d95_112 ?_
      refine wp_getP d95_113 (Nat.le_of_ble_eq_true rfl) kM.1 rfl ?_
      refine wp_iconst d95_116 ic_3 ?_
      refine wp_iload_1 d95_117 ?_
      refine wp_imulN d95_118 ?_
      refine wp_iconst d95_119 ic_2 ?_
      refine wp_iaddN d95_120 ?_
      refine wp_aldP d95_121 (kM.2 _ (Nat.le_of_ble_eq_true rfl)) rfl (by omega) (by decide) ?_
      rw [rw_2]
      exact wp_iret d95_122 rfl rfl rfl
  · rw [show r_tells stN trN ki sr le fi de to fo w v x = -102 by unfold r_tells; split <;> first | omega | rfl]
    refine wp_swout (tgt := 123) d95_1 (by omega) (by decide) ?_
    refine wp_bipush d95_123 bi_m102 ?_
    exact wp_iret d95_125 rfl rfl rfl
theorem m_about (kM : KM σ m) {trN stN w : Nat} {ki sr le fi de : Nat → Nat} {to fo : Nat → Option Nat} (h1 : trN ≤ stN) (h6 : stN ≤ 6) (h5 : w ≤ 5) (hf : PF w fi) (hk : ∀ v, v < w → ki v < 5) (hd : ∀ k, k < stN → de k < 100) (hfo : ∀ k, k < trN → ∀ j, fo k = some j → j < 2 ^ 31) (x y : Int32) : Ev 2 0 0 96 [.ref m, .int x, .int y] (put σ m (m + 1) (mF m pm sta rdm (nI stN) me (nI trN) mi slr (nI w) cha bm bc bl bch ask sn ks kw kt km hsh) (mA apg (arr 6 de) (arO 6 fo) (arrI 15 (rw3 ki sr to)) (arr 5 le) (arr 5 fi) anf anl awh aod abo aof ama asd akr akl akf akd ako)) (some (.int (if inB x 0 ((w : Int) - 1) then r_tells stN trN ki sr le fi de to fo w x.toInt.toNat y else -101))) (put σ m (m + 1) (mF m pm sta rdm (nI stN) me (nI trN) mi slr (nI w) cha bm bc bl bch ask sn ks kw kt km hsh) (mA apg (arr 6 de) (arO 6 fo) (arrI 15 (rw3 ki sr to)) (arr 5 le) (arr 5 fi) anf anl awh aod abo aof ama asd akr akl akf akd ako)) := by
  refine ev_of (L := [(.ref m), (.int x), (.int y)]) (by decide) rfl (Nat.le_of_ble_eq_true rfl) ?_
  refine wp_aload_0 d96_0 ?_
  refine wp_iload_1 d96_1 ?_
  refine wp_V1r d96_2 kM.1 ((m_isWalker kM h5 x)) (Nat.le_of_ble_eq_true rfl) (Nat.le_of_ble_eq_true rfl) ?_
  refine wp_if_eqB d96_5 (by decide) (fun h5 => ?_) (fun h5 => ?_)
  · rw [h5, if_neg (by decide)]
    refine wp_bipush d96_17 bi_m101 ?_
    exact wp_iret d96_19 rfl rfl rfl
  · rw [h5, if_pos rfl]
    rw [inB_t] at h5
    obtain ⟨j, hj, rfl⟩ : ∃ j : Nat, j < w ∧ x = nI j := ⟨x.toInt.toNat, by omega, nI_to h5.1⟩
    rw [show (nI j).toInt.toNat = j by rw [nI_toInt (by omega)]; rfl]
    refine wp_aload_0 d96_8 ?_
    refine wp_iload_1 d96_9 ?_
    refine wp_iload_2 d96_10 ?_
    refine wp_V2r d96_11 kM.1 ((m_tells kM h1 h6 (by omega) hf hj hk hd hfo y)) (Nat.le_of_ble_eq_true rfl) (Nat.le_of_ble_eq_true rfl) ?_
    refine wp_goto d96_14 (by decide) ?_
    exact wp_iret d96_19 rfl rfl rfl
theorem m_as (kM : KM σ m) {w : Nat} {ki sr : Nat → Nat} {to : Nat → Option Nat} (h5 : w ≤ 5) (hk : ∀ v, v < w → ki v < 5) (x y : Int32) : Ev 2 0 0 97 [.ref m, .int x, .int y] (put σ m (m + 1) (mF m pm sta rdm st me tr mi slr (nI w) cha bm bc bl bch ask sn ks kw kt km hsh) (mA apg ade afo (arrI 15 (rw3 ki sr to)) ale afi anf anl awh aod abo aof ama asd akr akl akf akd ako)) (some (.int (if inB x 0 ((w : Int) - 1) then r_as ki x.toInt.toNat y else -101))) (put σ m (m + 1) (mF m pm sta rdm st me tr mi slr (nI w) cha bm bc bl bch ask sn ks kw kt km hsh) (mA apg ade afo (arrI 15 (rw3 ki sr to)) ale afi anf anl awh aod abo aof ama asd akr akl akf akd ako)) := by
  refine ev_of (L := [(.ref m), (.int x), (.int y), .null, .null]) (by decide) rfl (Nat.le_of_ble_eq_true rfl) ?_
  refine wp_aload_0 d97_0 ?_
  refine wp_iload_1 d97_1 ?_
  refine wp_V1r d97_2 kM.1 ((m_isWalker kM h5 x)) (Nat.le_of_ble_eq_true rfl) (Nat.le_of_ble_eq_true rfl) ?_
  refine wp_if_neB d97_5 (by decide) (fun h5 => ?_) (fun h5 => ?_)
  · rw [h5, if_pos rfl]
    rw [inB_t] at h5
    obtain ⟨v, hv, rfl⟩ : ∃ j : Nat, j < w ∧ x = nI j := ⟨x.toInt.toNat, by omega, nI_to h5.1⟩
    rw [show (nI v).toInt.toNat = v by rw [nI_toInt (by omega)]; rfl]
    unfold r_as
    refine wp_iload_2 d97_11 ?_
    refine wp_i2l d97_12 ?_
    refine wp_lconst d97_13 (v := lN 0) rfl ?_
    refine wp_ldc2 d97_14 (by decide) rfl lk_4 ?_
    refine wp_S3r d97_17 rfl ((m_in y (a := 0) (b := 4) (by decide) (by decide))) (Nat.le_of_ble_eq_true rfl) (Nat.le_of_ble_eq_true rfl) ?_
    refine wp_if_neB d97_20 (by decide) (fun h20 => ?_) (fun h20 => ?_)
    · rw [h20, if_pos rfl]
      rw [inB_t] at h20
      obtain ⟨j, hj, rfl⟩ : ∃ j : Nat, j ≤ 4 ∧ y = nI j := ⟨y.toInt.toNat, by omega, nI_to h20.1⟩
      rw [nI_toInt (by omega)]
      have b1 := hk v hv
      have yes : ∀ u3 u4 : Value, u3.category = 1 → ((j : Int) = 0 ∨ (j : Int) = ki v ∨ ((j : Int) = 3 ∧ ki v = 4)) → WP 2 0 0 97 54 [.ref m, .int (nI v), .int (nI j), u3, u4] [] (put σ m (m + 1) (mF m pm sta rdm st me tr mi slr (nI w) cha bm bc bl bch ask sn ks kw kt km hsh) (mA apg ade afo (arrI 15 (rw3 ki sr to)) ale afi anf anl awh aod abo aof ama asd akr akl akf akd ako)) (some (.int (if ((j : Int) = 0 ∨ (j : Int) = ki v ∨ ((j : Int) = 3 ∧ ki v = 4)) then nI v else -1))) (put σ m (m + 1) (mF m pm sta rdm st me tr mi slr (nI w) cha bm bc bl bch ask sn ks kw kt km hsh) (mA apg ade afo (arrI 15 (rw3 ki sr to)) ale afi anf anl awh aod abo aof ama asd akr akl akf akd ako)) := by
        intro u3 u4 hu h
        rw [if_pos h]
        refine wp_iconst d97_54 ic_1 ?_
        refine wp_goto d97_55 (by decide) ?_
        refine wp_istore_4 d97_59 (Nat.le_of_ble_eq_true rfl) hu ?_
        refine wp_iload_4 d97_61 ?_
        refine wp_if_eqN d97_63 (by decide) (by omega) (fun hq => absurd hq (by omega)) (fun h63 => ?_)
        refine wp_iload_1 d97_66 ?_
        refine wp_goto d97_67 (by decide) ?_
        exact wp_iret d97_71 rfl rfl rfl
      have no : ∀ u3 u4 : Value, u3.category = 1 → ¬ ((j : Int) = 0 ∨ (j : Int) = ki v ∨ ((j : Int) = 3 ∧ ki v = 4)) → WP 2 0 0 97 58 [.ref m, .int (nI v), .int (nI j), u3, u4] [] (put σ m (m + 1) (mF m pm sta rdm st me tr mi slr (nI w) cha bm bc bl bch ask sn ks kw kt km hsh) (mA apg ade afo (arrI 15 (rw3 ki sr to)) ale afi anf anl awh aod abo aof ama asd akr akl akf akd ako)) (some (.int (if ((j : Int) = 0 ∨ (j : Int) = ki v ∨ ((j : Int) = 3 ∧ ki v = 4)) then nI v else -1))) (put σ m (m + 1) (mF m pm sta rdm st me tr mi slr (nI w) cha bm bc bl bch ask sn ks kw kt km hsh) (mA apg ade afo (arrI 15 (rw3 ki sr to)) ale afi anf anl awh aod abo aof ama asd akr akl akf akd ako)) := by
        intro u3 u4 hu h
        rw [if_neg h]
        refine wp_iconst d97_58 ic_0 ?_
        refine wp_istore_4 d97_59 (Nat.le_of_ble_eq_true rfl) hu ?_
        refine wp_iload_4 d97_61 ?_
        refine wp_if_eqN d97_63 (by decide) (by omega) (fun h63 => ?_) (fun hq => absurd hq (by omega))
        refine wp_iconst d97_70 ic_m1 ?_
        exact wp_iret d97_71 rfl rfl rfl
      refine wp_aload_0 d97_26 ?_
      refine wp_getP d97_27 (Nat.le_of_ble_eq_true rfl) kM.1 rfl ?_
      refine wp_iconst d97_30 ic_3 ?_
      refine wp_iload_1 d97_31 ?_
      refine wp_imulN d97_32 ?_
      refine wp_aldP d97_33 (kM.2 _ (Nat.le_of_ble_eq_true rfl)) rfl (by omega) (by decide) ?_
      rw [rw_0]
      refine wp_istore_3 d97_34 (Nat.le_of_ble_eq_true rfl) rfl ?_
      refine wp_iload_2 d97_35 ?_
      refine wp_if_eqN d97_36 (by decide) (by omega) (fun h36 => ?_) (fun h36 => ?_)
      · exact yes _ _ rfl (by omega)
      · refine wp_iload_2 d97_39 ?_
        refine wp_iload_3 d97_40 ?_
        refine wp_icmp_eqN d97_41 (by decide) (by omega) (by omega) (fun h41 => ?_) (fun h41 => ?_)
        · exact yes _ _ rfl (by omega)
        · refine wp_iload_2 d97_44 ?_
          refine wp_iconst d97_45 ic_3 ?_
          refine wp_icmp_neN d97_46 (by decide) (by omega) (by omega) (fun h46 => ?_) (fun h46 => ?_)
          · exact no _ _ rfl (by omega)
          · refine wp_iload_3 d97_49 ?_
            refine wp_iconst d97_50 ic_4 ?_
            refine wp_icmp_neN d97_51 (by decide) (by omega) (by omega) (fun h51 => ?_) (fun h51 => ?_)
            · exact no _ _ rfl (by omega)
            · exact yes _ _ rfl (by omega)
    · rw [h20, if_neg (by decide)]
      refine wp_bipush d97_23 bi_m102 ?_
      exact wp_iret d97_25 rfl rfl rfl
  · rw [h5, if_neg (by decide)]
    refine wp_bipush d97_8 bi_m101 ?_
    exact wp_iret d97_10 rfl rfl rfl
theorem m_walker (kM : KM σ m) {stN w : Nat} {ki sr le fi : Nat → Nat} {to : Nat → Option Nat} (h6 : stN ≤ 6) (h5 : w ≤ 5) (x y : Int32) : Ev 2 0 0 91 [.ref m, .int x, .int y] (put σ m (m + 1) (mF m pm sta rdm (nI stN) me tr mi slr (nI w) cha bm bc bl bch ask sn ks kw kt km hsh) (mA apg ade afo (arrI 15 (rw3 ki sr to)) (arr 5 le) (arr 5 fi) anf anl awh aod abo aof ama asd akr akl akf akd ako)) (some (.int (r_walker stN w x y))) (put σ m (m + 1) (mF m pm sta rdm (nI stN) me tr mi slr (nI (if okW stN w x y then w + 1 else w)) cha bm bc bl bch ask sn ks kw kt km hsh) (mA apg ade afo (arrI 15 (rw3 (if okW stN w x y then up ki w x.toInt.toNat else ki) (if okW stN w x y then up sr w y.toInt.toNat else sr) (if okW stN w x y then up to w none else to))) (arr 5 (if okW stN w x y then up le w y.toInt.toNat else le)) (arr 5 (if okW stN w x y then up fi w w else fi)) anf anl awh aod abo aof ama asd akr akl akf akd ako)) := by
  refine ev_of (L := [(.ref m), (.int x), (.int y)]) (by decide) rfl (Nat.le_of_ble_eq_true rfl) ?_
  refine wp_iload_1 d91_0 ?_
  refine wp_i2l d91_1 ?_
  refine wp_lconst d91_2 (v := lN 0) rfl ?_
  refine wp_ldc2 d91_3 (by decide) rfl lk_4 ?_
  refine wp_S3r d91_6 rfl ((m_in x (a := 0) (b := 4) (by decide) (by decide))) (Nat.le_of_ble_eq_true rfl) (Nat.le_of_ble_eq_true rfl) ?_
  have out : inB x 0 4 = false ∨ inB y 1 99 = false → WP 2 0 0 91 24 [.ref m, .int x, .int y] [] (put σ m (m + 1) (mF m pm sta rdm (nI stN) me tr mi slr (nI w) cha bm bc bl bch ask sn ks kw kt km hsh) (mA apg ade afo (arrI 15 (rw3 ki sr to)) (arr 5 le) (arr 5 fi) anf anl awh aod abo aof ama asd akr akl akf akd ako)) (some (.int (r_walker stN w x y))) (put σ m (m + 1) (mF m pm sta rdm (nI stN) me tr mi slr (nI (if okW stN w x y then w + 1 else w)) cha bm bc bl bch ask sn ks kw kt km hsh) (mA apg ade afo (arrI 15 (rw3 (if okW stN w x y then up ki w x.toInt.toNat else ki) (if okW stN w x y then up sr w y.toInt.toNat else sr) (if okW stN w x y then up to w none else to))) (arr 5 (if okW stN w x y then up le w y.toInt.toNat else le)) (arr 5 (if okW stN w x y then up fi w w else fi)) anf anl awh aod abo aof ama asd akr akl akf akd ako)) := by
    intro h
    rw [show okW stN w x y = false by rcases h with h | h <;> simp [okW, h], show r_walker stN w x y = -102 by rcases h with h | h <;> simp [r_walker, h]]
    refine wp_bipush d91_24 bi_m102 ?_
    exact wp_iret d91_26 rfl rfl rfl
  refine wp_if_eqB d91_9 (by decide) (fun h9 => ?_) (fun h9 => ?_)
  · exact out (Or.inl h9)
  · refine wp_iload_2 d91_12 ?_
    refine wp_i2l d91_13 ?_
    refine wp_lconst d91_14 (v := lN 1) rfl ?_
    refine wp_ldc2 d91_15 (by decide) rfl lk_99 ?_
    refine wp_S3r d91_18 rfl ((m_in y (a := 1) (b := 99) (by decide) (by decide))) (Nat.le_of_ble_eq_true rfl) (Nat.le_of_ble_eq_true rfl) ?_
    refine wp_if_neB d91_21 (by decide) (fun h21 => ?_) (fun h21 => ?_)
    · have hx := inB_t.mp h9
      have hy := inB_t.mp h21
      refine wp_aload_0 d91_27 ?_
      refine wp_V0r d91_28 kM.1 ((m_lacks kM h6)) (Nat.le_of_ble_eq_true rfl) (Nat.le_of_ble_eq_true rfl) ?_
      refine wp_if_eqB d91_31 (by decide) (fun h31 => ?_) (fun h31 => ?_)
      · have h31 : ¬ stN = 0 := by simpa using h31
        refine wp_aload_0 d91_37 ?_
        refine wp_getP d91_38 (Nat.le_of_ble_eq_true rfl) kM.1 rfl ?_
        refine wp_iconst d91_41 ic_5 ?_
        refine wp_icmp_neN d91_42 (by decide) (by omega) (by omega) (fun h42 => ?_) (fun h42 => ?_)
        · rw [show okW stN w x y = true by simp [okW, h9, h21, h31]; omega, show r_walker stN w x y = nI w by simp [r_walker, h9, h21, h31, h42]]
          obtain ⟨a, ha, rfl⟩ : ∃ j : Nat, j ≤ 4 ∧ x = nI j := ⟨x.toInt.toNat, by omega, nI_to (by omega)⟩
          obtain ⟨b, hb, rfl⟩ : ∃ j : Nat, j ≤ 99 ∧ y = nI j := ⟨y.toInt.toNat, by omega, nI_to (by omega)⟩
          rw [show (nI a).toInt.toNat = a by rw [nI_toInt (by omega)]; rfl, show (nI b).toInt.toNat = b by rw [nI_toInt (by omega)]; rfl]
          refine wp_aload_0 d91_48 ?_
          refine wp_getP d91_49 (Nat.le_of_ble_eq_true rfl) kM.1 rfl ?_
          refine wp_iconst d91_52 ic_3 ?_
          refine wp_aload_0 d91_53 ?_
          refine wp_getP d91_54 (Nat.le_of_ble_eq_true rfl) kM.1 rfl ?_
          refine wp_imulN d91_57 ?_
          refine wp_iload_1 d91_58 ?_
          refine wp_astP d91_59 (kM.2 _ (Nat.le_of_ble_eq_true rfl)) rfl (by omega) (by decide) ?_
          rw [rw_u0]
          refine wp_aload_0 d91_60 ?_
          refine wp_getP d91_61 (Nat.le_of_ble_eq_true rfl) kM.1 rfl ?_
          refine wp_iconst d91_64 ic_3 ?_
          refine wp_aload_0 d91_65 ?_
          refine wp_getP d91_66 (Nat.le_of_ble_eq_true rfl) kM.1 rfl ?_
          refine wp_imulN d91_69 ?_
          refine wp_iconst d91_70 ic_1 ?_
          refine wp_iaddN d91_71 ?_
          refine wp_iload_2 d91_72 ?_
          refine wp_astP d91_73 (kM.2 _ (Nat.le_of_ble_eq_true rfl)) rfl (by omega) (by decide) ?_
          rw [rw_u1]
          refine wp_aload_0 d91_74 ?_
          refine wp_getP d91_75 (Nat.le_of_ble_eq_true rfl) kM.1 rfl ?_
          refine wp_iconst d91_78 ic_3 ?_
          refine wp_aload_0 d91_79 ?_
          refine wp_getP d91_80 (Nat.le_of_ble_eq_true rfl) kM.1 rfl ?_
          refine wp_imulN d91_83 ?_
          refine wp_iconst d91_84 ic_2 ?_
          refine wp_iaddN d91_85 ?_
          refine wp_iconst d91_86 ic_m1 ?_
          refine wp_astP d91_87 (kM.2 _ (Nat.le_of_ble_eq_true rfl)) rfl (by omega) (by decide) ?_
          rw [rw_u2]
          refine wp_aload_0 d91_88 ?_
          refine wp_getP d91_89 (Nat.le_of_ble_eq_true rfl) kM.1 rfl ?_
          refine wp_aload_0 d91_92 ?_
          refine wp_getP d91_93 (Nat.le_of_ble_eq_true rfl) kM.1 rfl ?_
          refine wp_iload_2 d91_96 ?_
          refine wp_astN d91_97 (kM.2 _ (Nat.le_of_ble_eq_true rfl)) rfl (by omega) (by decide) ?_
          refine wp_aload_0 d91_98 ?_
          refine wp_getP d91_99 (Nat.le_of_ble_eq_true rfl) kM.1 rfl ?_
          refine wp_aload_0 d91_102 ?_
          refine wp_getP d91_103 (Nat.le_of_ble_eq_true rfl) kM.1 rfl ?_
          refine wp_aload_0 d91_106 ?_
          refine wp_getP d91_107 (Nat.le_of_ble_eq_true rfl) kM.1 rfl ?_
          refine wp_astN d91_110 (kM.2 _ (Nat.le_of_ble_eq_true rfl)) rfl (by omega) (by decide) ?_
          refine wp_aload_0 d91_111 ?_
          refine wp_dup d91_112 rfl ?_
          refine wp_getP d91_113 (Nat.le_of_ble_eq_true rfl) kM.1 rfl ?_
          refine wp_iconst d91_116 ic_1 ?_
          refine wp_iaddN d91_117 ?_
          refine wp_putIP d91_118 kM.1 ?_
          refine wp_aload_0 d91_121 ?_
          refine wp_getP d91_122 (Nat.le_of_ble_eq_true rfl) kM.1 rfl ?_
          refine wp_iconst d91_125 ic_1 ?_
          refine wp_isubN d91_126 (by omega) ?_
          rw [Nat.add_sub_cancel]
          exact wp_iret d91_127 rfl rfl rfl
        · subst h42
          rw [show okW stN 5 x y = false by simp [okW], show r_walker stN 5 x y = -104 by simp [r_walker, h9, h21, h31]]
          refine wp_bipush d91_45 bi_m104 ?_
          exact wp_iret d91_47 rfl rfl rfl
      · have h31 : stN = 0 := by simpa using h31
        rw [show okW stN w x y = false by simp [okW, h31], show r_walker stN w x y = -103 by simp [r_walker, h9, h21, h31]]
        refine wp_bipush d91_34 bi_m103 ?_
        exact wp_iret d91_36 rfl rfl rfl
    · exact out (Or.inr h21)
theorem m_slope (kM : KM σ m) {pmN slN : Nat} {pg de : Nat → Nat} {fo : Nat → Option Nat} (hpm : pmN ≤ 10) (hpg : ∀ k, k < pmN → pg k < 1000) (h3 : (flt pg pmN 0 0 0).1 = pmN → (flt pg pmN 0 0 0).2.1 = 3 → (flt pg pmN 0 0 0).2.2 + 2 = pmN ∧ (flt pg pmN 0 0 0).2.2 ≤ 6 ∧ (∀ k, k < (flt pg pmN 0 0 0).2.2 → 48 ≤ pg k) ∧ 48 ≤ pg (pmN - 1)) (hb : (flt pg pmN 0 0 0).1 ≤ pmN ∧ (flt pg pmN 0 0 0).2.1 ≤ 100) : Ev 4 0 0 86 [.ref m] (put σ m (m + 1) (mF m (nI pmN) sta rdm st me tr mi (nI slN) wa cha bm bc bl bch ask sn ks kw kt km hsh) (mA (arr 10 pg) (arr 6 de) (arO 6 fo) aro ale afi anf anl awh aod abo aof ama asd akr akl akf akd ako)) (some (.int (if okS pg pmN then nI (pmN - 2) else -103))) (put σ m (m + 1) (mF m (nI (if okS pg pmN then 0 else pmN)) (nI (flt pg pmN 0 0 0).2.1) (nI (flt pg pmN 0 0 0).2.2) (if okS pg pmN then nI (pmN - 2) else st) (if okS pg pmN then nI (pg (pmN - 1) - 48) else me) (if okS pg pmN then nI 0 else tr) (if okS pg pmN then nI 0 else mi) (nI (if okS pg pmN then slN + 1 else slN)) (if okS pg pmN then nI 0 else wa) cha bm bc bl bch ask sn ks kw kt km hsh) (mA (arr 10 pg) (arr 6 (if okS pg pmN then (fun k => if k < pmN - 2 then pg k - 48 else 0) else de)) (arO 6 (if okS pg pmN then (fun _ => none) else fo)) aro ale afi anf anl awh aod abo aof ama asd akr akl akf akd ako)) := by
  have bad : okS pg pmN = false → ∀ u, WP 4 0 0 86 19 [.ref m, u] [] (put σ m (m + 1) (mF m (nI pmN) (nI (flt pg pmN 0 0 0).2.1) (nI (flt pg pmN 0 0 0).2.2) st me tr mi (nI slN) wa cha bm bc bl bch ask sn ks kw kt km hsh) (mA (arr 10 pg) (arr 6 de) (arO 6 fo) aro ale afi anf anl awh aod abo aof ama asd akr akl akf akd ako)) (some (.int (if okS pg pmN then nI (pmN - 2) else -103))) (put σ m (m + 1) (mF m (nI (if okS pg pmN then 0 else pmN)) (nI (flt pg pmN 0 0 0).2.1) (nI (flt pg pmN 0 0 0).2.2) (if okS pg pmN then nI (pmN - 2) else st) (if okS pg pmN then nI (pg (pmN - 1) - 48) else me) (if okS pg pmN then nI 0 else tr) (if okS pg pmN then nI 0 else mi) (nI (if okS pg pmN then slN + 1 else slN)) (if okS pg pmN then nI 0 else wa) cha bm bc bl bch ask sn ks kw kt km hsh) (mA (arr 10 pg) (arr 6 (if okS pg pmN then (fun k => if k < pmN - 2 then pg k - 48 else 0) else de)) (arO 6 (if okS pg pmN then (fun _ => none) else fo)) aro ale afi anf anl awh aod abo aof ama asd akr akl akf akd ako)) := by
    intro h u
    rw [h]
    refine wp_bipush d86_19 bi_m103 ?_
    exact wp_iret d86_21 rfl rfl rfl
  refine ev_of (L := [(.ref m), .null]) (by decide) rfl (Nat.le_of_ble_eq_true rfl) ?_
  refine wp_aload_0 d86_0 ?_
  refine wp_V0r d86_1 kM.1 ((m_faultOf kM hpm hpg)) (Nat.le_of_ble_eq_true rfl) (Nat.le_of_ble_eq_true rfl) ?_
  refine wp_aload_0 d86_4 ?_
  refine wp_getP d86_5 (Nat.le_of_ble_eq_true rfl) kM.1 rfl ?_
  refine wp_icmp_ltN d86_8 (by decide) (by omega) (by omega) (fun h8 => ?_) (fun h8 => ?_)
  · exact bad (by simp [okS]; omega) _
  · refine wp_aload_0 d86_11 ?_
    refine wp_getP d86_12 (Nat.le_of_ble_eq_true rfl) kM.1 rfl ?_
    refine wp_iconst d86_15 ic_3 ?_
    have e1 : (flt pg pmN 0 0 0).1 = pmN := by omega
    refine wp_icmp_eqN d86_16 (by decide) (by omega) (by omega) (fun h16 => ?_) (fun h16 => ?_)
    · have ok : okS pg pmN = true := by simp [okS, e1, h16]
      obtain ⟨f1, f2, f3, f4⟩ := h3 e1 h16
      rw [ok]
      simp only [if_true]
      have loop : ∀ (n k : Nat) (f1' : Nat → Nat) (f2' : Nat → Option Nat), k + n = 6 → (∀ j, j < k → f1' j = if j < pmN - 2 then pg j - 48 else 0) → (∀ j, j < k → f2' j = none) → WP 4 0 0 86 32 [.ref m, .int (nI k)] [] (put σ m (m + 1) (mF m (nI pmN) (nI (flt pg pmN 0 0 0).2.1) (nI (flt pg pmN 0 0 0).2.2) (nI (pmN - 2)) me tr mi (nI slN) wa cha bm bc bl bch ask sn ks kw kt km hsh) (mA (arr 10 pg) (arr 6 f1') (arO 6 f2') aro ale afi anf anl awh aod abo aof ama asd akr akl akf akd ako)) (some (.int (nI (pmN - 2)))) (put σ m (m + 1) (mF m (nI 0) (nI (flt pg pmN 0 0 0).2.1) (nI (flt pg pmN 0 0 0).2.2) (nI (pmN - 2)) (nI (pg (pmN - 1) - 48)) (nI 0) (nI 0) (nI (slN + 1)) (nI 0) cha bm bc bl bch ask sn ks kw kt km hsh) (mA (arr 10 pg) (arr 6 (fun k => if k < pmN - 2 then pg k - 48 else 0)) (arO 6 (fun _ => none)) aro ale afi anf anl awh aod abo aof ama asd akr akl akf akd ako)) := by
        intro n
        induction n with
        | zero =>
          intro k f1' f2' hk' g1 g2
          rw [arr_ext (f := f1') (g := fun k => if k < pmN - 2 then pg k - 48 else 0) (fun j hj => g1 j (by omega)), arO_ext (f := f2') (g := fun _ => none) (fun j hj => g2 j (by omega))]
          refine wp_iload_1 d86_32 ?_
          refine wp_bipush d86_33 bi_6 ?_
          refine wp_icmp_geN d86_35 (by decide) (by omega) (by omega) (fun h35 => ?_) (fun hq => absurd hq (by omega))
          refine wp_aload_0 d86_78 ?_
          refine wp_aload_0 d86_79 ?_
          refine wp_getP d86_80 (Nat.le_of_ble_eq_true rfl) kM.1 rfl ?_
          refine wp_aload_0 d86_83 ?_
          refine wp_getP d86_84 (Nat.le_of_ble_eq_true rfl) kM.1 rfl ?_
          refine wp_iconst d86_87 ic_1 ?_
          refine wp_isubN d86_88 (by omega) ?_
          refine wp_aldP d86_89 (kM.2 _ (Nat.le_of_ble_eq_true rfl)) rfl (by omega) (by decide) ?_
          refine wp_bipush d86_90 bi_48 ?_
          refine wp_isubN d86_92 (by omega) ?_
          refine wp_putIP d86_93 kM.1 ?_
          refine wp_aload_0 d86_96 ?_
          refine wp_iconst d86_97 ic_0 ?_
          refine wp_putIP d86_98 kM.1 ?_
          refine wp_aload_0 d86_101 ?_
          refine wp_iconst d86_102 ic_0 ?_
          refine wp_putIP d86_103 kM.1 ?_
          refine wp_aload_0 d86_106 ?_
          refine wp_iconst d86_107 ic_0 ?_
          refine wp_putIP d86_108 kM.1 ?_
          refine wp_aload_0 d86_111 ?_
          refine wp_dup d86_112 rfl ?_
          refine wp_getP d86_113 (Nat.le_of_ble_eq_true rfl) kM.1 rfl ?_
          refine wp_iconst d86_116 ic_1 ?_
          refine wp_iaddN d86_117 ?_
          refine wp_putIP d86_118 kM.1 ?_
          refine wp_aload_0 d86_121 ?_
          refine wp_iconst d86_122 ic_0 ?_
          refine wp_putIP d86_123 kM.1 ?_
          refine wp_aload_0 d86_126 ?_
          refine wp_getP d86_127 (Nat.le_of_ble_eq_true rfl) kM.1 rfl ?_
          exact wp_iret d86_130 rfl rfl rfl
        | succ n ih =>
          intro k f1' f2' hk' g1 g2
          refine wp_iload_1 d86_32 ?_
          refine wp_bipush d86_33 bi_6 ?_
          refine wp_icmp_geN d86_35 (by decide) (by omega) (by omega) (fun hq => absurd hq (by omega)) (fun h35 => ?_)
          refine wp_aload_0 d86_38 ?_
          refine wp_getP d86_39 (Nat.le_of_ble_eq_true rfl) kM.1 rfl ?_
          refine wp_iload_1 d86_42 ?_
          refine wp_iload_1 d86_43 ?_
          refine wp_aload_0 d86_44 ?_
          refine wp_getP d86_45 (Nat.le_of_ble_eq_true rfl) kM.1 rfl ?_
          refine wp_icmp_geN d86_48 (by decide) (by omega) (by omega) (fun h48 => ?_) (fun h48 => ?_)
          · refine wp_iconst d86_63 ic_0 ?_
            refine wp_astN d86_64 (kM.2 _ (Nat.le_of_ble_eq_true rfl)) rfl (by omega) (by decide) ?_
            refine wp_aload_0 d86_65 ?_
            refine wp_getP d86_66 (Nat.le_of_ble_eq_true rfl) kM.1 rfl ?_
            refine wp_iload_1 d86_69 ?_
            refine wp_iconst d86_70 ic_m1 ?_
            refine wp_astO d86_71 (kM.2 _ (Nat.le_of_ble_eq_true rfl)) rfl (by omega) (by decide) ?_
            refine wp_iinc_1 d86_72 (Nat.le_of_ble_eq_true rfl) rfl (inc1 _) ?_
            refine wp_goto d86_75 (by decide) ?_
            refine ih (k + 1) _ _ (by omega) (fun j hj => ?_) (fun j hj => ?_)
            · unfold up; grind
            · unfold up; grind
          · have := f3 k (by omega)
            refine wp_aload_0 d86_51 ?_
            refine wp_getP d86_52 (Nat.le_of_ble_eq_true rfl) kM.1 rfl ?_
            refine wp_iload_1 d86_55 ?_
            refine wp_aldP d86_56 (kM.2 _ (Nat.le_of_ble_eq_true rfl)) rfl (by omega) (by decide) ?_
            refine wp_bipush d86_57 bi_48 ?_
            refine wp_isubN d86_59 (by omega) ?_
            refine wp_goto d86_60 (by decide) ?_
            refine wp_astN d86_64 (kM.2 _ (Nat.le_of_ble_eq_true rfl)) rfl (by omega) (by decide) ?_
            refine wp_aload_0 d86_65 ?_
            refine wp_getP d86_66 (Nat.le_of_ble_eq_true rfl) kM.1 rfl ?_
            refine wp_iload_1 d86_69 ?_
            refine wp_iconst d86_70 ic_m1 ?_
            refine wp_astO d86_71 (kM.2 _ (Nat.le_of_ble_eq_true rfl)) rfl (by omega) (by decide) ?_
            refine wp_iinc_1 d86_72 (Nat.le_of_ble_eq_true rfl) rfl (inc1 _) ?_
            refine wp_goto d86_75 (by decide) ?_
            refine ih (k + 1) _ _ (by omega) (fun j hj => ?_) (fun j hj => ?_)
            · unfold up; grind
            · unfold up; grind
      refine wp_aload_0 d86_22 ?_
      refine wp_aload_0 d86_23 ?_
      refine wp_getP d86_24 (Nat.le_of_ble_eq_true rfl) kM.1 rfl ?_
      refine wp_putIP d86_27 kM.1 ?_
      refine wp_iconst d86_30 ic_0 ?_
      refine wp_istore_1 d86_31 (Nat.le_of_ble_eq_true rfl) rfl ?_
      have := loop 6 0 de fo rfl (fun j hj => by omega) (fun j hj => by omega)
      rw [show pmN - 2 = (flt pg pmN 0 0 0).2.2 by omega] at this ⊢
      exact this
    · exact bad (by simp [okS, h16]) _
theorem m_tread (kM : KM σ m) {trN stN w : Nat} {ki sr le fi de nf nl : Nat → Nat} {to fo : Nat → Option Nat} (h1 : trN ≤ stN) (h6 : stN ≤ 6) (h5 : w ≤ 5) (hf : PF w fi) (hk : ∀ v, v < w → ki v < 5) (hl : ∀ v, v < w → le v < 1000) (hd : ∀ k, k < stN → de k < 100) (hfo : ∀ k, k < trN → ∀ j, fo k = some j → j < 2 ^ 31) : ∃ nf' nl' : Nat → Nat, Ev 2 0 0 104 [.ref m] (put σ m (m + 1) (mF m pm sta rdm (nI stN) me (nI trN) mi slr (nI w) cha bm bc bl bch ask sn ks kw kt km hsh) (mA apg (arr 6 de) (arO 6 fo) (arrI 15 (rw3 ki sr to)) (arr 5 le) (arr 5 fi) (arr 5 nf) (arr 5 nl) awh aod abo aof ama asd akr akl akf akd ako)) (some (.int (if okT w stN trN ki fi le de then nI (trN + 1) else -103))) (put σ m (m + 1) (mF m pm sta rdm (nI stN) me (nI (if okT w stN trN ki fi le de then trN + 1 else trN)) (if okT w stN trN ki fi le de then miT ki fi trN de fo mi else mi) slr (nI w) cha bm bc bl bch ask sn ks kw kt km hsh) (mA apg (arr 6 de) (arO 6 (if okT w stN trN ki fi le de then up fo trN (some (fi 0)) else fo)) (arrI 15 (rw3 ki sr to)) (arr 5 (if okT w stN trN ki fi le de then trS ki fi (de trN) le w else le)) (arr 5 fi) (arr 5 nf') (arr 5 nl') awh aod abo aof ama asd akr akl akf akd ako)) := by
  by_cases hw0 : w = 0
  · refine ⟨nf, nl, ?_⟩
    rw [show okT w stN trN ki fi le de = false by simp [okT, hw0]]
    subst hw0
    refine ev_of (L := [(.ref m), .null, .null]) (by decide) rfl (Nat.le_of_ble_eq_true rfl) ?_
    refine wp_aload_0 d104_0 ?_
    refine wp_getP d104_1 (Nat.le_of_ble_eq_true rfl) kM.1 rfl ?_
    refine wp_if_eqN d104_4 (by decide) (by omega) (fun h4 => ?_) (fun hq => absurd hq (by omega))
    refine wp_bipush d104_18 bi_m103 ?_
    exact wp_iret d104_20 rfl rfl rfl
  by_cases hts : trN = stN
  · refine ⟨nf, nl, ?_⟩
    rw [show okT w stN trN ki fi le de = false by simp [okT, hts]]
    refine ev_of (L := [(.ref m), .null, .null]) (by decide) rfl (Nat.le_of_ble_eq_true rfl) ?_
    refine wp_aload_0 d104_0 ?_
    refine wp_getP d104_1 (Nat.le_of_ble_eq_true rfl) kM.1 rfl ?_
    refine wp_if_eqN d104_4 (by decide) (by omega) (fun hq => absurd hq (by omega)) (fun h4 => ?_)
    refine wp_aload_0 d104_7 ?_
    refine wp_getP d104_8 (Nat.le_of_ble_eq_true rfl) kM.1 rfl ?_
    refine wp_aload_0 d104_11 ?_
    refine wp_getP d104_12 (Nat.le_of_ble_eq_true rfl) kM.1 rfl ?_
    refine wp_icmp_neN d104_15 (by decide) (by omega) (by omega) (fun hq => absurd hq (by omega)) (fun h15 => ?_)
    refine wp_bipush d104_18 bi_m103 ?_
    exact wp_iret d104_20 rfl rfl rfl
  have hdt := hd trN (by omega)
  by_cases hc : canN ki fi le (de trN) w = true
  · refine ⟨fi, trS ki fi (de trN) le w, ?_⟩
    rw [show okT w stN trN ki fi le de = true by simp [okT, hw0, hts, hc]]
    simp only [if_true]
    have b0 := hf.1 0 (by omega)
    have b1 := hk (fi 0) b0
    have fin : ∀ (x : Int32) (p : Bool), x = bi p → p = prd ki fi trN fo → ∀ u, WP 2 0 0 104 104 [.ref m, .int (nI (de trN)), u] [.int x] (put σ m (m + 1) (mF m pm sta rdm (nI stN) me (nI trN) mi slr (nI w) cha bm bc bl bch ask sn ks kw kt km hsh) (mA apg (arr 6 de) (arO 6 fo) (arrI 15 (rw3 ki sr to)) (arr 5 (trS ki fi (de trN) le w)) (arr 5 fi) (arr 5 fi) (arr 5 (trS ki fi (de trN) le w)) awh aod abo aof ama asd akr akl akf akd ako)) (some (.int (nI (trN + 1)))) (put σ m (m + 1) (mF m pm sta rdm (nI stN) me (nI (trN + 1)) (miT ki fi trN de fo mi) slr (nI w) cha bm bc bl bch ask sn ks kw kt km hsh) (mA apg (arr 6 de) (arO 6 (up fo trN (some (fi 0)))) (arrI 15 (rw3 ki sr to)) (arr 5 (trS ki fi (de trN) le w)) (arr 5 fi) (arr 5 fi) (arr 5 (trS ki fi (de trN) le w)) awh aod abo aof ama asd akr akl akf akd ako)) := by
      intro x p hx hp u
      subst hx
      have tail : ∀ y : Nat, y = (if prd ki fi trN fo then 2 else 0) → WP 2 0 0 104 124 [.ref m, .int (nI (de trN)), .int (bi p)] [.int (nI y), .int (nI (2 + de trN / 3)), .int mi, .ref m] (put σ m (m + 1) (mF m pm sta rdm (nI stN) me (nI trN) mi slr (nI w) cha bm bc bl bch ask sn ks kw kt km hsh) (mA apg (arr 6 de) (arO 6 fo) (arrI 15 (rw3 ki sr to)) (arr 5 (trS ki fi (de trN) le w)) (arr 5 fi) (arr 5 fi) (arr 5 (trS ki fi (de trN) le w)) awh aod abo aof ama asd akr akl akf akd ako)) (some (.int (nI (trN + 1)))) (put σ m (m + 1) (mF m pm sta rdm (nI stN) me (nI (trN + 1)) (miT ki fi trN de fo mi) slr (nI w) cha bm bc bl bch ask sn ks kw kt km hsh) (mA apg (arr 6 de) (arO 6 (up fo trN (some (fi 0)))) (arrI 15 (rw3 ki sr to)) (arr 5 (trS ki fi (de trN) le w)) (arr 5 fi) (arr 5 fi) (arr 5 (trS ki fi (de trN) le w)) awh aod abo aof ama asd akr akl akf akd ako)) := by
        intro y hy
        unfold miT
        rw [← hy]
        refine wp_iaddN d104_124 ?_
        refine wp_iadd d104_125 ?_
        refine wp_putIP d104_126 kM.1 ?_
        refine wp_aload_0 d104_129 ?_
        refine wp_getP d104_130 (Nat.le_of_ble_eq_true rfl) kM.1 rfl ?_
        refine wp_aload_0 d104_133 ?_
        refine wp_getP d104_134 (Nat.le_of_ble_eq_true rfl) kM.1 rfl ?_
        refine wp_aload_0 d104_137 ?_
        refine wp_getP d104_138 (Nat.le_of_ble_eq_true rfl) kM.1 rfl ?_
        refine wp_iconst d104_141 ic_0 ?_
        refine wp_aldP d104_142 (kM.2 _ (Nat.le_of_ble_eq_true rfl)) rfl (by omega) (by decide) ?_
        refine wp_astO (x := some (fi 0)) d104_143 (kM.2 _ (Nat.le_of_ble_eq_true rfl)) rfl (by omega) (by decide) ?_
        refine wp_aload_0 d104_144 ?_
        refine wp_dup d104_145 rfl ?_
        refine wp_getP d104_146 (Nat.le_of_ble_eq_true rfl) kM.1 rfl ?_
        refine wp_iconst d104_149 ic_1 ?_
        refine wp_iaddN d104_150 ?_
        refine wp_putIP d104_151 kM.1 ?_
        refine wp_aload_0 d104_154 ?_
        refine wp_getP d104_155 (Nat.le_of_ble_eq_true rfl) kM.1 rfl ?_
        exact wp_iret d104_158 rfl rfl rfl
      refine wp_istore_2 d104_104 (Nat.le_of_ble_eq_true rfl) rfl ?_
      refine wp_aload_0 d104_105 ?_
      refine wp_dup d104_106 rfl ?_
      refine wp_getP d104_107 (Nat.le_of_ble_eq_true rfl) kM.1 rfl ?_
      refine wp_iconst d104_110 ic_2 ?_
      refine wp_iload_1 d104_111 ?_
      refine wp_iconst d104_112 ic_3 ?_
      refine wp_idivN d104_113 (by omega) (by omega) (by omega) ?_
      refine wp_iaddN d104_114 ?_
      refine wp_iload_2 d104_115 ?_
      refine wp_if_eqB d104_116 (by decide) (fun h116 => ?_) (fun h116 => ?_)
      · refine wp_iconst d104_123 ic_0 ?_
        exact tail 0 (by rw [← hp, h116]; rfl)
      · refine wp_iconst d104_119 ic_2 ?_
        refine wp_goto d104_120 (by decide) ?_
        exact tail 2 (by rw [← hp, h116]; rfl)
    refine ev_of (L := [(.ref m), .null, .null]) (by decide) rfl (Nat.le_of_ble_eq_true rfl) ?_
    refine wp_aload_0 d104_0 ?_
    refine wp_getP d104_1 (Nat.le_of_ble_eq_true rfl) kM.1 rfl ?_
    refine wp_if_eqN d104_4 (by decide) (by omega) (fun hq => absurd hq (by omega)) (fun h4 => ?_)
    refine wp_aload_0 d104_7 ?_
    refine wp_getP d104_8 (Nat.le_of_ble_eq_true rfl) kM.1 rfl ?_
    refine wp_aload_0 d104_11 ?_
    refine wp_getP d104_12 (Nat.le_of_ble_eq_true rfl) kM.1 rfl ?_
    refine wp_icmp_neN d104_15 (by decide) (by omega) (by omega) (fun h15 => ?_) (fun hq => absurd hq (by omega))
    refine wp_aload_0 d104_21 ?_
    refine wp_V0v d104_22 kM.1 ((m_asItIs kM)) (Nat.le_of_ble_eq_true rfl) (Nat.le_of_ble_eq_true rfl) ?_
    refine wp_aload_0 d104_25 ?_
    refine wp_getP d104_26 (Nat.le_of_ble_eq_true rfl) kM.1 rfl ?_
    refine wp_aload_0 d104_29 ?_
    refine wp_getP d104_30 (Nat.le_of_ble_eq_true rfl) kM.1 rfl ?_
    refine wp_aldP d104_33 (kM.2 _ (Nat.le_of_ble_eq_true rfl)) rfl (by omega) (by decide) ?_
    refine wp_istore_1 d104_34 (Nat.le_of_ble_eq_true rfl) rfl ?_
    refine wp_aload_0 d104_35 ?_
    refine wp_iload_1 d104_36 ?_
    refine wp_V1r d104_37 kM.1 ((m_canTread kM h5 hf.1 hk hl hdt)) (Nat.le_of_ble_eq_true rfl) (Nat.le_of_ble_eq_true rfl) ?_
    refine wp_if_neB d104_40 (by decide) (fun h40 => ?_) (fun hq => absurd hq (fun hq => absurd (hq.symm.trans hc) (by decide)))
    refine wp_aload_0 d104_46 ?_
    refine wp_iload_1 d104_47 ?_
    refine wp_V1v d104_48 kM.1 ((m_treads kM h5 hf hk hc hdt)) (Nat.le_of_ble_eq_true rfl) (Nat.le_of_ble_eq_true rfl) ?_
    refine wp_aload_0 d104_51 ?_
    refine wp_V0v d104_52 kM.1 ((m_layNow kM)) (Nat.le_of_ble_eq_true rfl) (Nat.le_of_ble_eq_true rfl) ?_
    refine wp_aload_0 d104_55 ?_
    refine wp_getP d104_56 (Nat.le_of_ble_eq_true rfl) kM.1 rfl ?_
    refine wp_iconst d104_59 ic_3 ?_
    refine wp_aload_0 d104_60 ?_
    refine wp_getP d104_61 (Nat.le_of_ble_eq_true rfl) kM.1 rfl ?_
    refine wp_iconst d104_64 ic_0 ?_
    refine wp_aldP d104_65 (kM.2 _ (Nat.le_of_ble_eq_true rfl)) rfl (by omega) (by decide) ?_
    refine wp_imulN d104_66 ?_
    refine wp_aldP d104_67 (kM.2 _ (Nat.le_of_ble_eq_true rfl)) rfl (by omega) (by decide) ?_
    rw [rw_0]
    refine wp_iconst d104_68 ic_2 ?_
    refine wp_icmp_neN d104_69 (by decide) (by omega) (by omega) (fun h69 => ?_) (fun h69 => ?_)
    · refine wp_iconst d104_103 ic_0 ?_
      exact fin _ false rfl (by simp [prd, h69]) _
    · refine wp_aload_0 d104_72 ?_
      refine wp_getP d104_73 (Nat.le_of_ble_eq_true rfl) kM.1 rfl ?_
      refine wp_if_leN d104_76 (by decide) (by omega) (fun h76 => ?_) (fun h76 => ?_)
      · refine wp_iconst d104_103 ic_0 ?_
        exact fin _ false rfl (by simp [prd, h76]) _
      · refine wp_aload_0 d104_79 ?_
        refine wp_getP d104_80 (Nat.le_of_ble_eq_true rfl) kM.1 rfl ?_
        refine wp_aload_0 d104_83 ?_
        refine wp_getP d104_84 (Nat.le_of_ble_eq_true rfl) kM.1 rfl ?_
        refine wp_iconst d104_87 ic_1 ?_
        refine wp_isubN d104_88 (by omega) ?_
        refine wp_aldP d104_89 (kM.2 _ (Nat.le_of_ble_eq_true rfl)) rfl (by omega) (by decide) ?_
        refine wp_aload_0 d104_90 ?_
        refine wp_getP d104_91 (Nat.le_of_ble_eq_true rfl) kM.1 rfl ?_
        refine wp_iconst d104_94 ic_0 ?_
        refine wp_aldP d104_95 (kM.2 _ (Nat.le_of_ble_eq_true rfl)) rfl (by omega) (by decide) ?_
        have hbo := hfo (trN - 1) (by omega)
        refine wp_icmp_ne d104_96 (by decide) (fun h96 => ?_) (fun h96 => ?_)
        · refine wp_iconst d104_103 ic_0 ?_
          exact fin _ false rfl (by simp [prd, h69]; intro _ z; exact h96 ((eo_some (by omega) hbo).mpr z)) _
        · refine wp_iconst d104_99 ic_1 ?_
          refine wp_goto d104_100 (by decide) ?_
          have z := (eo_some (by omega) hbo).mp h96
          exact fin _ true rfl (by simp [prd, h69, z]; omega) _
  · refine ⟨fi, le, ?_⟩
    have hc' : canN ki fi le (de trN) w = false := by simpa using hc
    rw [show okT w stN trN ki fi le de = false by simp [okT, hc']]
    refine ev_of (L := [(.ref m), .null, .null]) (by decide) rfl (Nat.le_of_ble_eq_true rfl) ?_
    refine wp_aload_0 d104_0 ?_
    refine wp_getP d104_1 (Nat.le_of_ble_eq_true rfl) kM.1 rfl ?_
    refine wp_if_eqN d104_4 (by decide) (by omega) (fun hq => absurd hq (by omega)) (fun h4 => ?_)
    refine wp_aload_0 d104_7 ?_
    refine wp_getP d104_8 (Nat.le_of_ble_eq_true rfl) kM.1 rfl ?_
    refine wp_aload_0 d104_11 ?_
    refine wp_getP d104_12 (Nat.le_of_ble_eq_true rfl) kM.1 rfl ?_
    refine wp_icmp_neN d104_15 (by decide) (by omega) (by omega) (fun h15 => ?_) (fun hq => absurd hq (by omega))
    refine wp_aload_0 d104_21 ?_
    refine wp_V0v d104_22 kM.1 ((m_asItIs kM)) (Nat.le_of_ble_eq_true rfl) (Nat.le_of_ble_eq_true rfl) ?_
    refine wp_aload_0 d104_25 ?_
    refine wp_getP d104_26 (Nat.le_of_ble_eq_true rfl) kM.1 rfl ?_
    refine wp_aload_0 d104_29 ?_
    refine wp_getP d104_30 (Nat.le_of_ble_eq_true rfl) kM.1 rfl ?_
    refine wp_aldP d104_33 (kM.2 _ (Nat.le_of_ble_eq_true rfl)) rfl (by omega) (by decide) ?_
    refine wp_istore_1 d104_34 (Nat.le_of_ble_eq_true rfl) rfl ?_
    refine wp_aload_0 d104_35 ?_
    refine wp_iload_1 d104_36 ?_
    refine wp_V1r d104_37 kM.1 ((m_canTread kM h5 hf.1 hk hl hdt)) (Nat.le_of_ble_eq_true rfl) (Nat.le_of_ble_eq_true rfl) ?_
    refine wp_if_neB d104_40 (by decide) (fun hq => absurd hq (fun hq => hc hq)) (fun h40 => ?_)
    refine wp_bipush d104_43 bi_m103 ?_
    exact wp_iret d104_45 rfl rfl rfl
theorem m_change (kM : KM σ m) {w : Nat} {le fi nf nl : Nat → Nat} (h5 : w ≤ 5) (hf : PF w fi) : ∃ nf' nl' : Nat → Nat, Ev 1 0 0 105 [.ref m] (put σ m (m + 1) (mF m pm sta rdm st me tr mi slr (nI w) cha bm bc bl bch ask sn ks kw kt km hsh) (mA apg ade afo aro (arr 5 le) (arr 5 fi) (arr 5 nf) (arr 5 nl) awh aod abo aof ama asd akr akl akf akd ako)) (some (.int (if w = 0 then -103 else nI (rot w fi 0)))) (put σ m (m + 1) (mF m pm sta rdm st me tr (if w = 0 then mi else mi + nI 1) slr (nI w) cha bm bc bl bch ask sn ks kw kt km hsh) (mA apg ade afo aro (arr 5 le) (arr 5 (if w = 0 then fi else rot w fi)) (arr 5 nf') (arr 5 nl') awh aod abo aof ama asd akr akl akf akd ako)) := by
  by_cases hw0 : w = 0
  · refine ⟨nf, nl, ?_⟩
    simp only [hw0, if_true]
    refine ev_of (L := [(.ref m)]) (by decide) rfl (Nat.le_of_ble_eq_true rfl) ?_
    refine wp_aload_0 d105_0 ?_
    refine wp_getP d105_1 (Nat.le_of_ble_eq_true rfl) kM.1 rfl ?_
    refine wp_if_neN d105_4 (by decide) (by omega) (fun hq => absurd hq (by omega)) (fun h4 => ?_)
    refine wp_bipush d105_7 bi_m103 ?_
    exact wp_iret d105_9 rfl rfl rfl
  · refine ⟨rot w fi, le, ?_⟩
    simp only [hw0, if_false]
    refine ev_of (L := [(.ref m)]) (by decide) rfl (Nat.le_of_ble_eq_true rfl) ?_
    refine wp_aload_0 d105_0 ?_
    refine wp_getP d105_1 (Nat.le_of_ble_eq_true rfl) kM.1 rfl ?_
    refine wp_if_neN d105_4 (by decide) (by omega) (fun h4 => ?_) (fun hq => absurd hq (by omega))
    refine wp_aload_0 d105_10 ?_
    refine wp_V0v d105_11 kM.1 ((m_asItIs kM)) (Nat.le_of_ble_eq_true rfl) (Nat.le_of_ble_eq_true rfl) ?_
    refine wp_aload_0 d105_14 ?_
    refine wp_V0v d105_15 kM.1 ((m_turns kM (by omega) h5)) (Nat.le_of_ble_eq_true rfl) (Nat.le_of_ble_eq_true rfl) ?_
    refine wp_aload_0 d105_18 ?_
    refine wp_V0v d105_19 kM.1 ((m_layNow kM)) (Nat.le_of_ble_eq_true rfl) (Nat.le_of_ble_eq_true rfl) ?_
    refine wp_aload_0 d105_22 ?_
    refine wp_dup d105_23 rfl ?_
    refine wp_getP d105_24 (Nat.le_of_ble_eq_true rfl) kM.1 rfl ?_
    refine wp_iconst d105_27 ic_1 ?_
    refine wp_iadd d105_28 ?_
    refine wp_putIP d105_29 kM.1 ?_
    refine wp_aload_0 d105_32 ?_
    refine wp_getP d105_33 (Nat.le_of_ble_eq_true rfl) kM.1 rfl ?_
    refine wp_iconst d105_36 ic_0 ?_
    refine wp_aldP d105_37 (kM.2 _ (Nat.le_of_ble_eq_true rfl)) rfl (by omega) (by decide) ?_
    exact wp_iret d105_38 rfl rfl rfl
theorem m_rest (kM : KM σ m) {w : Nat} {ki sr le fi nf nl : Nat → Nat} {to : Nat → Option Nat} (h5 : w ≤ 5) (hl : ∀ v, v < w → le v < 1000) (hs : ∀ v, v < w → sr v < 1000) : ∃ nf' nl' : Nat → Nat, Ev 1 0 0 107 [.ref m] (put σ m (m + 1) (mF m pm sta rdm st me tr mi slr (nI w) cha bm bc bl bch ask sn ks kw kt km hsh) (mA apg ade afo (arrI 15 (rw3 ki sr to)) (arr 5 le) (arr 5 fi) (arr 5 nf) (arr 5 nl) awh aod abo aof ama asd akr akl akf akd ako)) (some (.int (if w = 0 then -103 else nI (rcN sr le w)))) (put σ m (m + 1) (mF m pm sta rdm st me tr (if w = 0 then mi else mi + nI 5) slr (nI w) cha bm bc bl bch ask sn ks kw kt km hsh) (mA apg ade afo (arrI 15 (rw3 ki sr to)) (arr 5 (if w = 0 then le else rsN w sr le)) (arr 5 fi) (arr 5 nf') (arr 5 nl') awh aod abo aof ama asd akr akl akf akd ako)) := by
  by_cases hw0 : w = 0
  · refine ⟨nf, nl, ?_⟩
    simp only [hw0, if_true]
    refine ev_of (L := [(.ref m), .null]) (by decide) rfl (Nat.le_of_ble_eq_true rfl) ?_
    refine wp_aload_0 d107_0 ?_
    refine wp_getP d107_1 (Nat.le_of_ble_eq_true rfl) kM.1 rfl ?_
    refine wp_if_neN d107_4 (by decide) (by omega) (fun hq => absurd hq (by omega)) (fun h4 => ?_)
    refine wp_bipush d107_7 bi_m103 ?_
    exact wp_iret d107_9 rfl rfl rfl
  · refine ⟨fi, rsN w sr le, ?_⟩
    simp only [hw0, if_false]
    refine ev_of (L := [(.ref m), .null]) (by decide) rfl (Nat.le_of_ble_eq_true rfl) ?_
    refine wp_aload_0 d107_0 ?_
    refine wp_getP d107_1 (Nat.le_of_ble_eq_true rfl) kM.1 rfl ?_
    refine wp_if_neN d107_4 (by decide) (by omega) (fun h4 => ?_) (fun hq => absurd hq (by omega))
    refine wp_aload_0 d107_10 ?_
    refine wp_V0v d107_11 kM.1 ((m_asItIs kM)) (Nat.le_of_ble_eq_true rfl) (Nat.le_of_ble_eq_true rfl) ?_
    refine wp_aload_0 d107_14 ?_
    refine wp_V0r d107_15 kM.1 ((m_restsNow kM h5 hl hs)) (Nat.le_of_ble_eq_true rfl) (Nat.le_of_ble_eq_true rfl) ?_
    refine wp_istore_1 d107_18 (Nat.le_of_ble_eq_true rfl) rfl ?_
    refine wp_aload_0 d107_19 ?_
    refine wp_V0v d107_20 kM.1 ((m_layNow kM)) (Nat.le_of_ble_eq_true rfl) (Nat.le_of_ble_eq_true rfl) ?_
    refine wp_aload_0 d107_23 ?_
    refine wp_dup d107_24 rfl ?_
    refine wp_getP d107_25 (Nat.le_of_ble_eq_true rfl) kM.1 rfl ?_
    refine wp_iconst d107_28 ic_5 ?_
    refine wp_iadd d107_29 ?_
    refine wp_putIP d107_30 kM.1 ?_
    refine wp_iload_1 d107_33 ?_
    exact wp_iret d107_34 rfl rfl rfl

end S08_mo4b
end
section

theorem eq_0 {x : Int32} : x = 0 ↔ x.toInt = 0 := eq_nI (a := 0) (by decide)
theorem eq_1 {x : Int32} : x = nI 1 ↔ x.toInt = 1 := eq_nI (a := 1) (by decide)
theorem nI_or (a b : Nat) : nI a ||| nI b = nI (a ||| b) := by
  apply Int32.toBitVec_inj.mp
  simp [nI, BitVec.ofNat_or]
theorem gb_congr {w : Nat} {ki fi de wh wh' : Nat → Nat} : ∀ (n k j : Nat) (le : Nat → Nat) (ch : Nat), (∀ i, k ≤ i → i < k + n → wh i = wh' i) → gb w ki fi de wh n k j le ch = gb w ki fi de wh' n k j le ch
  | 0, k, j, le, ch, _ => rfl
  | n + 1, k, j, le, ch, h => by
    unfold gb
    rw [h k (by omega) (by omega), gb_congr n (k + 1) _ _ _ (fun i h1 h2 => h i (by omega) (by omega))]
theorem gb_ch {w : Nat} {ki fi de wh : Nat → Nat} (hw : 0 < w) : ∀ (n k j : Nat) (le : Nat → Nat) (ch : Nat), (gb w ki fi de wh n k j le ch).2.2.2 ≤ ch + n * w
  | 0, k, j, le, ch => by simp [gb]
  | n + 1, k, j, le, ch => by
    have hm : (pl w fi (wh k) + w - j) % w < w := Nat.mod_lt _ hw
    rw [Nat.succ_mul]
    unfold gb
    split
    · have := gb_ch (ki := ki) (fi := fi) (de := de) (wh := wh) hw n (k + 1) (pl w fi (wh k)) (trS ki (rotk w fi (pl w fi (wh k))) (de k) le w) (ch + (pl w fi (wh k) + w - j) % w)
      omega
    · show ch + (pl w fi (wh k) + w - j) % w ≤ _
      omega
theorem gb_le {w : Nat} {ki fi de wh : Nat → Nat} : ∀ (n k j : Nat) (le : Nat → Nat) (ch v : Nat), (gb w ki fi de wh n k j le ch).2.2.1 v ≤ le v
  | 0, k, j, le, ch, v => Nat.le_refl _
  | n + 1, k, j, le, ch, v => by
    unfold gb
    split
    · exact Nat.le_trans (gb_le n _ _ _ _ v) trS_le
    · exact Nat.le_refl _
/-- the way of a number -/
abbrev whC (w tr st c : Nat) : Nat → Nat := whN w tr st c (fun _ => 0)
abbrev gbC (w : Nat) (ki fi de le : Nat → Nat) (tr st c : Nat) : Bool × Nat × (Nat → Nat) × Nat := gb w ki fi de (whC w tr st c) (st - tr) tr 0 le 0
def o1 (b : Option (Nat × Nat × Nat)) : Option Nat := match b with
  | none => none
  | some (a, _, _) => some a
def o2 (b : Option (Nat × Nat × Nat)) : Option Nat := match b with
  | none => none
  | some (_, a, _) => some a
def o3 (b : Option (Nat × Nat × Nat)) : Option Nat := match b with
  | none => none
  | some (_, _, a) => some a
def btr (b : Option (Nat × Nat × Nat)) (v ch : Nat) : Bool := match b with
  | none => true
  | some (_, bl, bc) => decide (bl < v) || (decide (v = bl) && decide (ch < bc))
def bestF (w : Nat) (ki fi de le : Nat → Nat) (tr st : Nat) : Nat → Option (Nat × Nat × Nat)
  | 0 => none
  | c + 1 => if (gbC w ki fi de le tr st c).1 && btr (bestF w ki fi de le tr st c) (mnN (gbC w ki fi de le tr st c).2.2.1 100 w) (gbC w ki fi de le tr st c).2.2.2 then some (c, mnN (gbC w ki fi de le tr st c).2.2.1 100 w, (gbC w ki fi de le tr st c).2.2.2) else bestF w ki fi de le tr st c
theorem bestF_b {w : Nat} {ki fi de le : Nat → Nat} {tr st : Nat} (hw : 0 < w) : ∀ n c l ch, bestF w ki fi de le tr st n = some (c, l, ch) → c < n ∧ l ≤ 100 ∧ ch ≤ (st - tr) * w
  | 0, c, l, ch, h => by simp [bestF] at h
  | n + 1, c, l, ch, h => by
    unfold bestF at h
    split at h
    · cases h
      refine ⟨by omega, mnN_le _ _ _, ?_⟩
      have := gb_ch (ki := ki) (fi := fi) (de := de) (wh := whC w tr st n) hw (st - tr) tr 0 le 0
      exact Nat.le_trans this (by omega)
    · have := bestF_b hw n c l ch h
      omega
def r_best (w : Nat) (ki fi de le : Nat → Nat) (tr st : Nat) (x : Int32) : Int32 := match bestF w ki fi de le tr st (w ^ (st - tr)) with
  | none => -1
  | some (c, l, ch) => if x.toInt = 0 then nI l else if x.toInt = 1 then nI ch else if (tr : Int) ≤ x.toInt - 10 ∧ x.toInt - 10 ≤ (st : Int) - 1 then nI (whC w tr st c (x.toInt - 10).toNat) else -1
/-- how far -/
def faN (w : Nat) (ki de : Nat → Nat) (tr by' : Nat) : Nat → Nat → (Nat → Nat) → (Nat → Nat) → Nat
  | 0, k, _, _ => k
  | n + 1, k, fi, le => if canN ki fi le (de (tr + k)) w then faN w ki de tr by' n (k + 1) (if (k + 1) % by' = 0 then rot w fi else fi) (trS ki fi (de (tr + k)) le w) else k
/-- files by number -/
def odN (w c : Nat) (od : Nat → Nat) : Nat → Nat := fun p => if p < w then c / w ^ (w - 1 - p) % w else od p
def msk (f : Nat → Nat) : Nat → Nat → Nat
  | _, 0 => 0
  | a, n + 1 => msk f a n ||| 2 ^ f (a - (n + 1))
def soN (w : Nat) (ki de : Nat → Nat) : Nat → Nat → (Nat → Nat) → (Nat → Nat) → Bool × (Nat → Nat) × (Nat → Nat)
  | 0, _, fi, le => (true, fi, le)
  | n + 1, k, fi, le => if canN ki fi le (de k) w then soN w ki de n (k + 1) (rot w fi) (trS ki fi (de k) le w) else (false, fi, le)
theorem soN_le {w : Nat} {ki de : Nat → Nat} : ∀ (n k : Nat) (fi le : Nat → Nat) (v : Nat), (soN w ki de n k fi le).2.2 v ≤ le v
  | 0, k, fi, le, v => Nat.le_refl _
  | n + 1, k, fi, le, v => by
    unfold soN
    split
    · exact Nat.le_trans (soN_le n _ _ _ v) trS_le
    · exact Nat.le_refl _
theorem whN_lt {w tr st c k : Nat} {wh : Nat → Nat} (hw : 0 < w) (h1 : tr ≤ k) (h2 : k < st) : whN w tr st c wh k < w := by
  unfold whN
  rw [if_pos ⟨h1, h2⟩]
  exact Nat.mod_lt _ hw
end
section
section S09_mo5b
variable {σ : Sto} {m : Nat} {pm sta rdm st me tr mi slr wa cha bm bc bl bch ask sn ks kw kt km : Int32} {hsh : Int64} {apg ade afo aro ale afi anf anl awh aod abo aof ama asd akr akl akf akd ako : List Int32}

theorem m_layBest (kM : KM σ m) {trN stN w ch0 : Nat} {ki sr fi le de wh nf nl : Nat → Nat} {to : Nat → Option Nat} (h1 : trN ≤ stN) (h6 : stN ≤ 6) (hw : 1 ≤ w) (hw5 : w ≤ 5) (hf : PF w fi) (hk : ∀ v, v < w → ki v < 5) (hl : ∀ v, v < w → le v < 1000) (hd : ∀ k, k < stN → de k < 100) : ∃ (wh' nf' nl' : Nat → Nat) (ch' : Nat), Ev 3 0 0 114 [.ref m] (put σ m (m + 1) (mF m pm sta rdm (nI stN) me (nI trN) mi slr (nI w) (nI ch0) bm bc bl bch ask sn ks kw kt km hsh) (mA apg (arr 6 de) afo (arrI 15 (rw3 ki sr to)) (arr 5 le) (arr 5 fi) (arr 5 nf) (arr 5 nl) (arr 6 wh) aod abo aof ama asd akr akl akf akd ako)) none (put σ m (m + 1) (mF m pm sta rdm (nI stN) me (nI trN) mi slr (nI w) (nI ch') bm (eo (o1 (bestF w ki fi de le trN stN (w ^ (stN - trN))))) (eo (o2 (bestF w ki fi de le trN stN (w ^ (stN - trN))))) (eo (o3 (bestF w ki fi de le trN stN (w ^ (stN - trN))))) ask sn ks kw kt km hsh) (mA apg (arr 6 de) afo (arrI 15 (rw3 ki sr to)) (arr 5 le) (arr 5 fi) (arr 5 nf') (arr 5 nl') (arr 6 wh') aod abo aof ama asd akr akl akf akd ako)) := by
  have hpw : w ^ (stN - trN) ≤ 5 ^ 6 := Nat.le_trans (Nat.pow_le_pow_left hw5 _) (Nat.pow_le_pow_right (by decide) (by omega))
  have h56 : (5 : Nat) ^ 6 = 15625 := rfl
  have hbl : (stN - trN) * w ≤ 30 := Nat.le_trans (Nat.mul_le_mul (show stN - trN ≤ 6 by omega) hw5) (by decide)
  have loop : ∀ (n c : Nat) (wh nf nl : Nat → Nat) (ch : Nat) (u2 u3 : Value), c + n = w ^ (stN - trN) → u2.category = 1 → ∃ (wh' nf' nl' : Nat → Nat) (ch' : Nat), WP 3 0 0 114 17 [.ref m, .int (nI c), u2, u3] [] (put σ m (m + 1) (mF m pm sta rdm (nI stN) me (nI trN) mi slr (nI w) (nI ch) bm (eo (o1 (bestF w ki fi de le trN stN c))) (eo (o2 (bestF w ki fi de le trN stN c))) (eo (o3 (bestF w ki fi de le trN stN c))) ask sn ks kw kt km hsh) (mA apg (arr 6 de) afo (arrI 15 (rw3 ki sr to)) (arr 5 le) (arr 5 fi) (arr 5 nf) (arr 5 nl) (arr 6 wh) aod abo aof ama asd akr akl akf akd ako)) none (put σ m (m + 1) (mF m pm sta rdm (nI stN) me (nI trN) mi slr (nI w) (nI ch') bm (eo (o1 (bestF w ki fi de le trN stN (w ^ (stN - trN))))) (eo (o2 (bestF w ki fi de le trN stN (w ^ (stN - trN))))) (eo (o3 (bestF w ki fi de le trN stN (w ^ (stN - trN))))) ask sn ks kw kt km hsh) (mA apg (arr 6 de) afo (arrI 15 (rw3 ki sr to)) (arr 5 le) (arr 5 fi) (arr 5 nf') (arr 5 nl') (arr 6 wh') aod abo aof ama asd akr akl akf akd ako)) := by
    intro n
    induction n with
    | zero =>
      intro c wh nf nl ch u2 u3 hc hu
      refine ⟨wh, nf, nl, ch, ?_⟩
      have e : w ^ (stN - trN) = c := by omega
      refine wp_iload_1 d114_17 ?_
      refine wp_aload_0 d114_18 ?_
      refine wp_V0r d114_19 kM.1 ((m_ways kM h1 h6)) (Nat.le_of_ble_eq_true rfl) (Nat.le_of_ble_eq_true rfl) ?_
      rw [e]
      refine wp_icmp_geN d114_22 (by decide) (by omega) (by omega) (fun h22 => ?_) (fun hq => absurd hq (by omega))
      exact wp_vret d114_140 rfl rfl rfl
    | succ n ih =>
      intro c wh nf nl ch u2 u3 hc hu
      have hwl : ∀ k, trN ≤ k → k < stN → whN w trN stN c wh k < w := fun k a b => whN_lt (by omega) a b
      have eg : gb w ki fi de (whN w trN stN c wh) (stN - trN) trN 0 le 0 = gbC w ki fi de le trN stN c := gb_congr _ _ _ _ _ (fun i a b => by unfold whC whN; rw [if_pos (by omega), if_pos (by omega)])
      have hby := m_goesBy kM (σ := σ) (m := m) (nf := nf) (nl := nl) (wh := whN w trN stN c wh) (sr := sr) (to := to) (cha := nI ch) (bc := eo (o1 (bestF w ki fi de le trN stN c))) (bl := eo (o2 (bestF w ki fi de le trN stN c))) (bch := eo (o3 (bestF w ki fi de le trN stN c))) (pm := pm) (sta := sta) (rdm := rdm) (me := me) (mi := mi) (slr := slr) (bm := bm) (ask := ask) (sn := sn) (ks := ks) (kw := kw) (kt := kt) (km := km) (hsh := hsh) (apg := apg) (afo := afo) (aod := aod) (abo := abo) (aof := aof) (ama := ama) (asd := asd) (akr := akr) (akl := akl) (akf := akf) (akd := akd) (ako := ako) h1 h6 hw hw5 hf hk hl hd hwl
      rw [eg] at hby
      have hgl : ∀ v, v < w → (gbC w ki fi de le trN stN c).2.2.1 v < 1000 := fun v hv => Nat.lt_of_le_of_lt (gb_le _ _ _ _ _ v) (hl v hv)
      have hgc : (gbC w ki fi de le trN stN c).2.2.2 ≤ 30 := by
        have := gb_ch (ki := ki) (fi := fi) (de := de) (wh := whC w trN stN c) (show 0 < w by omega) (stN - trN) trN 0 le 0
        exact Nat.le_trans this (by omega)
      have hmn := mnN_le (gbC w ki fi de le trN stN c).2.2.1 100 w
      by_cases hg : (gbC w ki fi de le trN stN c).1 = true
      · generalize hv : mnN (gbC w ki fi de le trN stN c).2.2.1 100 w = v at *
        generalize hcc : (gbC w ki fi de le trN stN c).2.2.2 = cc at *
        by_cases hb : btr (bestF w ki fi de le trN stN c) v cc = true
        · have eb : bestF w ki fi de le trN stN (c + 1) = some (c, v, cc) := by rw [bestF, hv, hcc, hg, hb]; rfl
          obtain ⟨wh', nf', nl', ch', K⟩ := ih (c + 1) (whN w trN stN c wh) (rotk w fi (gbC w ki fi de le trN stN c).2.1) (gbC w ki fi de le trN stN c).2.2.1 cc (.int (nI v)) (.int (nI 1)) (by omega) rfl
          refine ⟨wh', nf', nl', ch', ?_⟩
          rw [eb] at K
          have yes : ∀ b : Option (Nat × Nat × Nat), WP 3 0 0 114 77 [.ref m, .int (nI c), .int (nI v), u3] [] (put σ m (m + 1) (mF m pm sta rdm (nI stN) me (nI trN) mi slr (nI w) (nI cc) bm (eo (o1 b)) (eo (o2 b)) (eo (o3 b)) ask sn ks kw kt km hsh) (mA apg (arr 6 de) afo (arrI 15 (rw3 ki sr to)) (arr 5 le) (arr 5 fi) (arr 5 (rotk w fi (gbC w ki fi de le trN stN c).2.1)) (arr 5 (gbC w ki fi de le trN stN c).2.2.1) (arr 6 (whN w trN stN c wh)) aod abo aof ama asd akr akl akf akd ako)) none (put σ m (m + 1) (mF m pm sta rdm (nI stN) me (nI trN) mi slr (nI w) (nI ch') bm (eo (o1 (bestF w ki fi de le trN stN (w ^ (stN - trN))))) (eo (o2 (bestF w ki fi de le trN stN (w ^ (stN - trN))))) (eo (o3 (bestF w ki fi de le trN stN (w ^ (stN - trN))))) ask sn ks kw kt km hsh) (mA apg (arr 6 de) afo (arrI 15 (rw3 ki sr to)) (arr 5 le) (arr 5 fi) (arr 5 nf') (arr 5 nl') (arr 6 wh') aod abo aof ama asd akr akl akf akd ako)) := by
            intro b
            refine wp_iconst d114_77 ic_1 ?_
            refine wp_goto d114_78 (by decide) ?_
            refine wp_istore_3 d114_82 (Nat.le_of_ble_eq_true rfl) rfl ?_
            refine wp_aload_0 d114_83 ?_
            refine wp_iload_3 d114_84 ?_
            refine wp_if_eqN d114_85 (by decide) (by omega) (fun hq => absurd hq (by omega)) (fun h85 => ?_)
            refine wp_aload_0 d114_88 ?_
            refine wp_getP d114_89 (Nat.le_of_ble_eq_true rfl) kM.1 rfl ?_
            refine wp_goto d114_92 (by decide) ?_
            refine wp_putIP d114_99 kM.1 ?_
            refine wp_aload_0 d114_102 ?_
            refine wp_iload_3 d114_103 ?_
            refine wp_if_eqN d114_104 (by decide) (by omega) (fun hq => absurd hq (by omega)) (fun h104 => ?_)
            refine wp_iload_2 d114_107 ?_
            refine wp_goto d114_108 (by decide) ?_
            refine wp_putIP d114_115 kM.1 ?_
            refine wp_aload_0 d114_118 ?_
            refine wp_iload_3 d114_119 ?_
            refine wp_if_eqN d114_120 (by decide) (by omega) (fun hq => absurd hq (by omega)) (fun h120 => ?_)
            refine wp_iload_1 d114_123 ?_
            refine wp_goto d114_124 (by decide) ?_
            refine wp_putIP d114_131 kM.1 ?_
            refine wp_iinc_1 d114_134 (Nat.le_of_ble_eq_true rfl) rfl (inc1 _) ?_
            refine wp_goto d114_137 (by decide) ?_
            exact K
          refine wp_iload_1 d114_17 ?_
          refine wp_aload_0 d114_18 ?_
          refine wp_V0r d114_19 kM.1 ((m_ways kM h1 h6)) (Nat.le_of_ble_eq_true rfl) (Nat.le_of_ble_eq_true rfl) ?_
          refine wp_icmp_geN d114_22 (by decide) (by omega) (by omega) (fun hq => absurd hq (by omega)) (fun h22 => ?_)
          refine wp_aload_0 d114_25 ?_
          refine wp_iload_1 d114_26 ?_
          refine wp_V1v d114_27 kM.1 ((m_layWho kM h1 h6 hw hw5 (by omega))) (Nat.le_of_ble_eq_true rfl) (Nat.le_of_ble_eq_true rfl) ?_
          refine wp_aload_0 d114_30 ?_
          refine wp_V0r d114_31 kM.1 ((hby)) (Nat.le_of_ble_eq_true rfl) (Nat.le_of_ble_eq_true rfl) ?_
          refine wp_if_eqB d114_34 (by decide) (fun hq => absurd hq (fun hq => absurd (hg.symm.trans hq) (by decide))) (fun h34 => ?_)
          refine wp_aload_0 d114_37 ?_
          refine wp_V0r d114_38 kM.1 ((m_leastLeft kM hw5 hgl)) (Nat.le_of_ble_eq_true rfl) (Nat.le_of_ble_eq_true rfl) ?_
          rw [hv]
          refine wp_istore_2 d114_41 (Nat.le_of_ble_eq_true rfl) rfl ?_
          revert hb
          cases hbb : bestF w ki fi de le trN stN c with
          | none =>
            intro hb
            refine wp_aload_0 d114_42 ?_
            refine wp_getP d114_43 (Nat.le_of_ble_eq_true rfl) kM.1 rfl ?_
            refine wp_iconst d114_46 ic_m1 ?_
            refine wp_icmp_eq d114_47 (by decide) (fun h47 => ?_) (fun hq => absurd hq (fun hq => hq rfl))
            exact yes none
          | some q =>
            obtain ⟨c0, l0, x0⟩ := q
            intro hb
            have hq := bestF_b (show 0 < w by omega) c c0 l0 x0 hbb
            simp only [btr, Bool.or_eq_true, Bool.and_eq_true, decide_eq_true_eq] at hb
            refine wp_aload_0 d114_42 ?_
            refine wp_getP d114_43 (Nat.le_of_ble_eq_true rfl) kM.1 rfl ?_
            refine wp_iconst d114_46 ic_m1 ?_
            refine wp_icmp_eq d114_47 (by decide) (fun hq => absurd hq (nI_m1 (by omega))) (fun _ => ?_)
            refine wp_iload_2 d114_50 ?_
            refine wp_aload_0 d114_51 ?_
            refine wp_getP d114_52 (Nat.le_of_ble_eq_true rfl) kM.1 rfl ?_
            refine wp_icmp_gtN d114_55 (by decide) (by omega) (by omega) (fun _ => yes (some (c0, l0, x0))) (fun h55 => ?_)
            refine wp_iload_2 d114_58 ?_
            refine wp_aload_0 d114_59 ?_
            refine wp_getP d114_60 (Nat.le_of_ble_eq_true rfl) kM.1 rfl ?_
            refine wp_icmp_neN d114_63 (by decide) (by omega) (by omega) (fun h => absurd h (by omega)) (fun h63 => ?_)
            refine wp_aload_0 d114_66 ?_
            refine wp_getP d114_67 (Nat.le_of_ble_eq_true rfl) kM.1 rfl ?_
            refine wp_aload_0 d114_70 ?_
            refine wp_getP d114_71 (Nat.le_of_ble_eq_true rfl) kM.1 rfl ?_
            refine wp_icmp_geN d114_74 (by decide) (by omega) (by omega) (fun h => absurd h (by omega)) (fun h63 => ?_)
            exact yes (some (c0, l0, x0))
        · have eb : bestF w ki fi de le trN stN (c + 1) = bestF w ki fi de le trN stN c := by rw [bestF, hv, hcc, hg]; simp [hb]
          obtain ⟨wh', nf', nl', ch', K⟩ := ih (c + 1) (whN w trN stN c wh) (rotk w fi (gbC w ki fi de le trN stN c).2.1) (gbC w ki fi de le trN stN c).2.2.1 cc (.int (nI v)) (.int (nI 0)) (by omega) rfl
          refine ⟨wh', nf', nl', ch', ?_⟩
          rw [eb] at K
          revert hb K
          cases hbb : bestF w ki fi de le trN stN c with
          | none =>
            intro hb
            exact absurd rfl hb
          | some q =>
            obtain ⟨c0, l0, x0⟩ := q
            intro hb K
            have hq := bestF_b (show 0 < w by omega) c c0 l0 x0 hbb
            simp only [btr, Bool.or_eq_true, Bool.and_eq_true, decide_eq_true_eq] at hb
            rw [hbb] at hby
            have no : WP 3 0 0 114 81 [.ref m, .int (nI c), .int (nI v), u3] [] (put σ m (m + 1) (mF m pm sta rdm (nI stN) me (nI trN) mi slr (nI w) (nI cc) bm (eo (o1 (some (c0, l0, x0)))) (eo (o2 (some (c0, l0, x0)))) (eo (o3 (some (c0, l0, x0)))) ask sn ks kw kt km hsh) (mA apg (arr 6 de) afo (arrI 15 (rw3 ki sr to)) (arr 5 le) (arr 5 fi) (arr 5 (rotk w fi (gbC w ki fi de le trN stN c).2.1)) (arr 5 (gbC w ki fi de le trN stN c).2.2.1) (arr 6 (whN w trN stN c wh)) aod abo aof ama asd akr akl akf akd ako)) none (put σ m (m + 1) (mF m pm sta rdm (nI stN) me (nI trN) mi slr (nI w) (nI ch') bm (eo (o1 (bestF w ki fi de le trN stN (w ^ (stN - trN))))) (eo (o2 (bestF w ki fi de le trN stN (w ^ (stN - trN))))) (eo (o3 (bestF w ki fi de le trN stN (w ^ (stN - trN))))) ask sn ks kw kt km hsh) (mA apg (arr 6 de) afo (arrI 15 (rw3 ki sr to)) (arr 5 le) (arr 5 fi) (arr 5 nf') (arr 5 nl') (arr 6 wh') aod abo aof ama asd akr akl akf akd ako)) := by
              refine wp_iconst d114_81 ic_0 ?_
              refine wp_istore_3 d114_82 (Nat.le_of_ble_eq_true rfl) rfl ?_
              refine wp_aload_0 d114_83 ?_
              refine wp_iload_3 d114_84 ?_
              refine wp_if_eqN d114_85 (by decide) (by omega) (fun h85 => ?_) (fun hq => absurd hq (by omega))
              refine wp_aload_0 d114_95 ?_
              refine wp_getP d114_96 (Nat.le_of_ble_eq_true rfl) kM.1 rfl ?_
              refine wp_putIP d114_99 kM.1 ?_
              refine wp_aload_0 d114_102 ?_
              refine wp_iload_3 d114_103 ?_
              refine wp_if_eqN d114_104 (by decide) (by omega) (fun h104 => ?_) (fun hq => absurd hq (by omega))
              refine wp_aload_0 d114_111 ?_
              refine wp_getP d114_112 (Nat.le_of_ble_eq_true rfl) kM.1 rfl ?_
              refine wp_putIP d114_115 kM.1 ?_
              refine wp_aload_0 d114_118 ?_
              refine wp_iload_3 d114_119 ?_
              refine wp_if_eqN d114_120 (by decide) (by omega) (fun h120 => ?_) (fun hq => absurd hq (by omega))
              refine wp_aload_0 d114_127 ?_
              refine wp_getP d114_128 (Nat.le_of_ble_eq_true rfl) kM.1 rfl ?_
              refine wp_putIP d114_131 kM.1 ?_
              refine wp_iinc_1 d114_134 (Nat.le_of_ble_eq_true rfl) rfl (inc1 _) ?_
              refine wp_goto d114_137 (by decide) ?_
              exact K
            refine wp_iload_1 d114_17 ?_
            refine wp_aload_0 d114_18 ?_
            refine wp_V0r d114_19 kM.1 ((m_ways kM h1 h6)) (Nat.le_of_ble_eq_true rfl) (Nat.le_of_ble_eq_true rfl) ?_
            refine wp_icmp_geN d114_22 (by decide) (by omega) (by omega) (fun hq => absurd hq (by omega)) (fun h22 => ?_)
            refine wp_aload_0 d114_25 ?_
            refine wp_iload_1 d114_26 ?_
            refine wp_V1v d114_27 kM.1 ((m_layWho kM h1 h6 hw hw5 (by omega))) (Nat.le_of_ble_eq_true rfl) (Nat.le_of_ble_eq_true rfl) ?_
            refine wp_aload_0 d114_30 ?_
            refine wp_V0r d114_31 kM.1 ((hby)) (Nat.le_of_ble_eq_true rfl) (Nat.le_of_ble_eq_true rfl) ?_
            refine wp_if_eqB d114_34 (by decide) (fun hq => absurd hq (fun hq => absurd (hg.symm.trans hq) (by decide))) (fun h34 => ?_)
            refine wp_aload_0 d114_37 ?_
            refine wp_V0r d114_38 kM.1 ((m_leastLeft kM hw5 hgl)) (Nat.le_of_ble_eq_true rfl) (Nat.le_of_ble_eq_true rfl) ?_
            rw [hv]
            refine wp_istore_2 d114_41 (Nat.le_of_ble_eq_true rfl) rfl ?_
            refine wp_aload_0 d114_42 ?_
            refine wp_getP d114_43 (Nat.le_of_ble_eq_true rfl) kM.1 rfl ?_
            refine wp_iconst d114_46 ic_m1 ?_
            refine wp_icmp_eq d114_47 (by decide) (fun hq => absurd hq (nI_m1 (by omega))) (fun _ => ?_)
            refine wp_iload_2 d114_50 ?_
            refine wp_aload_0 d114_51 ?_
            refine wp_getP d114_52 (Nat.le_of_ble_eq_true rfl) kM.1 rfl ?_
            refine wp_icmp_gtN d114_55 (by decide) (by omega) (by omega) (fun h => absurd h (by omega)) (fun h55 => ?_)
            refine wp_iload_2 d114_58 ?_
            refine wp_aload_0 d114_59 ?_
            refine wp_getP d114_60 (Nat.le_of_ble_eq_true rfl) kM.1 rfl ?_
            refine wp_icmp_neN d114_63 (by decide) (by omega) (by omega) (fun h => no) (fun h63 => ?_)
            refine wp_aload_0 d114_66 ?_
            refine wp_getP d114_67 (Nat.le_of_ble_eq_true rfl) kM.1 rfl ?_
            refine wp_aload_0 d114_70 ?_
            refine wp_getP d114_71 (Nat.le_of_ble_eq_true rfl) kM.1 rfl ?_
            refine wp_icmp_geN d114_74 (by decide) (by omega) (by omega) (fun h => no) (fun h63 => absurd h63 (by omega))
      · have hg' : (gbC w ki fi de le trN stN c).1 = false := by simpa using hg
        have eb : bestF w ki fi de le trN stN (c + 1) = bestF w ki fi de le trN stN c := by rw [bestF, hg']; rfl
        obtain ⟨wh', nf', nl', ch', K⟩ := ih (c + 1) (whN w trN stN c wh) (rotk w fi (gbC w ki fi de le trN stN c).2.1) (gbC w ki fi de le trN stN c).2.2.1 (gbC w ki fi de le trN stN c).2.2.2 u2 u3 (by omega) hu
        refine ⟨wh', nf', nl', ch', ?_⟩
        rw [eb] at K
        refine wp_iload_1 d114_17 ?_
        refine wp_aload_0 d114_18 ?_
        refine wp_V0r d114_19 kM.1 ((m_ways kM h1 h6)) (Nat.le_of_ble_eq_true rfl) (Nat.le_of_ble_eq_true rfl) ?_
        refine wp_icmp_geN d114_22 (by decide) (by omega) (by omega) (fun hq => absurd hq (by omega)) (fun h22 => ?_)
        refine wp_aload_0 d114_25 ?_
        refine wp_iload_1 d114_26 ?_
        refine wp_V1v d114_27 kM.1 ((m_layWho kM h1 h6 hw hw5 (by omega))) (Nat.le_of_ble_eq_true rfl) (Nat.le_of_ble_eq_true rfl) ?_
        refine wp_aload_0 d114_30 ?_
        refine wp_V0r d114_31 kM.1 ((hby)) (Nat.le_of_ble_eq_true rfl) (Nat.le_of_ble_eq_true rfl) ?_
        refine wp_if_eqB d114_34 (by decide) (fun h34 => ?_) (fun hq => absurd hq (fun hq => absurd (hq.symm.trans hg') (by decide)))
        refine wp_iinc_1 d114_134 (Nat.le_of_ble_eq_true rfl) rfl (inc1 _) ?_
        refine wp_goto d114_137 (by decide) ?_
        exact K
  obtain ⟨wh', nf', nl', ch', K⟩ := loop (w ^ (stN - trN)) 0 wh nf nl ch0 .null .null (by omega) rfl
  refine ⟨wh', nf', nl', ch', ?_⟩
  refine ev_of (L := [(.ref m), .null, .null, .null]) (by decide) rfl (Nat.le_of_ble_eq_true rfl) ?_
  refine wp_aload_0 d114_0 ?_
  refine wp_iconst d114_1 ic_m1 ?_
  refine wp_putIP d114_2 kM.1 ?_
  refine wp_aload_0 d114_5 ?_
  refine wp_iconst d114_6 ic_m1 ?_
  refine wp_putIP d114_7 kM.1 ?_
  refine wp_aload_0 d114_10 ?_
  refine wp_iconst d114_11 ic_m1 ?_
  refine wp_putIP d114_12 kM.1 ?_
  refine wp_iconst d114_15 ic_0 ?_
  refine wp_istore_1 d114_16 (Nat.le_of_ble_eq_true rfl) rfl ?_
  exact K
theorem m_tellBest (kM : KM σ m) {trN stN w ch0 : Nat} {ki sr fi le de wh nf nl : Nat → Nat} {to : Nat → Option Nat} (h1 : trN ≤ stN) (h6 : stN ≤ 6) (hw : 1 ≤ w) (hw5 : w ≤ 5) (hf : PF w fi) (hk : ∀ v, v < w → ki v < 5) (hl : ∀ v, v < w → le v < 1000) (hd : ∀ k, k < stN → de k < 100) (x : Int32) (hx : (x.toInt = 0 ∨ x.toInt = 1) ∨ (10 ≤ x.toInt ∧ x.toInt ≤ 15)) : ∃ (wh' nf' nl' : Nat → Nat) (ch' : Nat) (bc' bl' bch' : Int32), Ev 4 0 0 115 [.ref m, .int x] (put σ m (m + 1) (mF m pm sta rdm (nI stN) me (nI trN) mi slr (nI w) (nI ch0) bm bc bl bch ask sn ks kw kt km hsh) (mA apg (arr 6 de) afo (arrI 15 (rw3 ki sr to)) (arr 5 le) (arr 5 fi) (arr 5 nf) (arr 5 nl) (arr 6 wh) aod abo aof ama asd akr akl akf akd ako)) (some (.int (r_best w ki fi de le trN stN x))) (put σ m (m + 1) (mF m pm sta rdm (nI stN) me (nI trN) mi slr (nI w) (nI ch') bm (bc') (bl') (bch') ask sn ks kw kt km hsh) (mA apg (arr 6 de) afo (arrI 15 (rw3 ki sr to)) (arr 5 le) (arr 5 fi) (arr 5 nf') (arr 5 nl') (arr 6 wh') aod abo aof ama asd akr akl akf akd ako)) := by
  obtain ⟨wh', nf', nl', ch', K⟩ := m_layBest kM (σ := σ) (m := m) (nf := nf) (nl := nl) (wh := wh) (sr := sr) (to := to) (ch0 := ch0) (bc := bc) (bl := bl) (bch := bch) (pm := pm) (sta := sta) (rdm := rdm) (me := me) (mi := mi) (slr := slr) (bm := bm) (ask := ask) (sn := sn) (ks := ks) (kw := kw) (kt := kt) (km := km) (hsh := hsh) (apg := apg) (afo := afo) (aod := aod) (abo := abo) (aof := aof) (ama := ama) (asd := asd) (akr := akr) (akl := akl) (akf := akf) (akd := akd) (ako := ako) h1 h6 hw hw5 hf hk hl hd
  have hpw : w ^ (stN - trN) ≤ 5 ^ 6 := Nat.le_trans (Nat.pow_le_pow_left hw5 _) (Nat.pow_le_pow_right (by decide) (by omega))
  have h56 : (5 : Nat) ^ 6 = 15625 := rfl
  have hbl : (stN - trN) * w ≤ 30 := Nat.le_trans (Nat.mul_le_mul (show stN - trN ≤ 6 by omega) hw5) (by decide)
  cases hbb : bestF w ki fi de le trN stN (w ^ (stN - trN)) with
  | none =>
    rw [hbb] at K
    refine ⟨wh', nf', nl', ch', eo (o1 none), eo (o2 none), eo (o3 none), ?_⟩
    rw [show r_best w ki fi de le trN stN x = -1 by unfold r_best; rw [hbb]]
    refine ev_of (L := [(.ref m), (.int x)]) (by decide) rfl (Nat.le_of_ble_eq_true rfl) ?_
    refine wp_aload_0 d115_0 ?_
    refine wp_V0v d115_1 kM.1 ((K)) (Nat.le_of_ble_eq_true rfl) (Nat.le_of_ble_eq_true rfl) ?_
    refine wp_aload_0 d115_4 ?_
    refine wp_getP d115_5 (Nat.le_of_ble_eq_true rfl) kM.1 rfl ?_
    refine wp_iconst d115_8 ic_m1 ?_
    refine wp_icmp_eq d115_9 (by decide) (fun h9 => ?_) (fun hq => absurd hq (fun hq => hq rfl))
    refine wp_iload_1 d115_18 ?_
    refine wp_if_ne d115_19 (by decide) (fun h19 => ?_) (fun h19 => ?_)
    · refine wp_iload_1 d115_29 ?_
      refine wp_iconst d115_30 ic_1 ?_
      refine wp_icmp_ne d115_31 (by decide) (fun h31 => ?_) (fun h31 => ?_)
      · refine wp_iconst d115_41 ic_m1 ?_
        exact wp_iret d115_42 rfl rfl rfl
      · refine wp_aload_0 d115_34 ?_
        refine wp_getP d115_35 (Nat.le_of_ble_eq_true rfl) kM.1 rfl ?_
        refine wp_goto d115_38 (by decide) ?_
        exact wp_iret d115_42 rfl rfl rfl
    · refine wp_aload_0 d115_22 ?_
      refine wp_getP d115_23 (Nat.le_of_ble_eq_true rfl) kM.1 rfl ?_
      refine wp_goto d115_26 (by decide) ?_
      exact wp_iret d115_42 rfl rfl rfl
  | some q =>
    obtain ⟨c0, l0, x0⟩ := q
    rw [hbb] at K
    have hq := bestF_b (show 0 < w by omega) _ c0 l0 x0 hbb
    by_cases hx1 : x.toInt = 0 ∨ x.toInt = 1
    · refine ⟨wh', nf', nl', ch', eo (o1 (some (c0, l0, x0))), eo (o2 (some (c0, l0, x0))), eo (o3 (some (c0, l0, x0))), ?_⟩
      rw [show r_best w ki fi de le trN stN x = (if x.toInt = 0 then nI l0 else nI x0) by unfold r_best; rw [hbb]; simp only; grind]
      refine ev_of (L := [(.ref m), (.int x)]) (by decide) rfl (Nat.le_of_ble_eq_true rfl) ?_
      refine wp_aload_0 d115_0 ?_
      refine wp_V0v d115_1 kM.1 ((K)) (Nat.le_of_ble_eq_true rfl) (Nat.le_of_ble_eq_true rfl) ?_
      refine wp_aload_0 d115_4 ?_
      refine wp_getP d115_5 (Nat.le_of_ble_eq_true rfl) kM.1 rfl ?_
      refine wp_iconst d115_8 ic_m1 ?_
      refine wp_icmp_eq d115_9 (by decide) (fun hq => absurd hq (nI_m1 (by omega))) (fun _ => ?_)
      refine wp_iload_1 d115_12 ?_
      refine wp_bipush d115_13 bi_10 ?_
      refine wp_icmp_ge d115_15 (by decide) (fun hq => absurd ((ge_nI (by decide)).mp hq) (by omega)) (fun _ => ?_)
      refine wp_iload_1 d115_18 ?_
      refine wp_if_ne d115_19 (by decide) (fun h19 => ?_) (fun h19 => ?_)
      · rw [if_neg (fun z => h19 (eq_0.mpr z))]
        refine wp_iload_1 d115_29 ?_
        refine wp_iconst d115_30 ic_1 ?_
        refine wp_icmp_ne d115_31 (by decide) (fun hq => absurd ((eq_nI (a := 1) (by decide)).mpr (by rcases hx1 with z | z; exact absurd ((eq_nI (a := 0) (by decide)).mpr z) h19; exact z)) hq) (fun _ => ?_)
        refine wp_aload_0 d115_34 ?_
        refine wp_getP d115_35 (Nat.le_of_ble_eq_true rfl) kM.1 rfl ?_
        refine wp_goto d115_38 (by decide) ?_
        exact wp_iret d115_42 rfl rfl rfl
      · rw [if_pos (eq_0.mp h19)]
        refine wp_aload_0 d115_22 ?_
        refine wp_getP d115_23 (Nat.le_of_ble_eq_true rfl) kM.1 rfl ?_
        refine wp_goto d115_26 (by decide) ?_
        exact wp_iret d115_42 rfl rfl rfl
    · have hx2 : 10 ≤ x.toInt ∧ x.toInt ≤ 15 := by omega
      obtain ⟨y, hy, rfl⟩ : ∃ y : Nat, y ≤ 5 ∧ x = nI (y + 10) := ⟨(x.toInt - 10).toNat, by omega, by rw [show (x.toInt - 10).toNat + 10 = x.toInt.toNat by omega]; exact nI_to (by omega)⟩
      have ex : (nI (y + 10)).toInt = ((y + 10 : Nat) : Int) := nI_toInt (by omega)
      refine ⟨whN w trN stN c0 wh', nf', nl', ch', eo (o1 (some (c0, l0, x0))), eo (o2 (some (c0, l0, x0))), eo (o3 (some (c0, l0, x0))), ?_⟩
      rw [show r_best w ki fi de le trN stN (nI (y + 10)) = (if inB (nI y) trN ((stN : Int) - 1) then nI (whC w trN stN c0 y) else -1) by
        unfold r_best inB
        rw [hbb, ex, nI_toInt (by omega)]
        simp only [decide_eq_true_eq]
        rw [if_neg (by omega), if_neg (by omega), show (((y + 10 : Nat) : Int) - 10) = (y : Int) by omega]
        rfl]
      refine ev_of (L := [(.ref m), (.int (nI (y + 10)))]) (by decide) rfl (Nat.le_of_ble_eq_true rfl) ?_
      refine wp_aload_0 d115_0 ?_
      refine wp_V0v d115_1 kM.1 ((K)) (Nat.le_of_ble_eq_true rfl) (Nat.le_of_ble_eq_true rfl) ?_
      refine wp_aload_0 d115_4 ?_
      refine wp_getP d115_5 (Nat.le_of_ble_eq_true rfl) kM.1 rfl ?_
      refine wp_iconst d115_8 ic_m1 ?_
      refine wp_icmp_eq d115_9 (by decide) (fun hq => absurd hq (nI_m1 (by omega))) (fun _ => ?_)
      refine wp_iload_1 d115_12 ?_
      refine wp_bipush d115_13 bi_10 ?_
      refine wp_icmp_geN d115_15 (by decide) (by omega) (by omega) (fun h15 => ?_) (fun hq => absurd hq (by omega))
      refine wp_aload_0 d115_43 ?_
      refine wp_aload_0 d115_44 ?_
      refine wp_getP d115_45 (Nat.le_of_ble_eq_true rfl) kM.1 rfl ?_
      refine wp_V1v d115_48 kM.1 ((m_layWho kM h1 h6 hw hw5 (by omega))) (Nat.le_of_ble_eq_true rfl) (Nat.le_of_ble_eq_true rfl) ?_
      refine wp_iload_1 d115_51 ?_
      refine wp_bipush d115_52 bi_10 ?_
      refine wp_isubN d115_54 (by omega) ?_
      rw [Nat.add_sub_cancel]
      refine wp_i2l d115_55 ?_
      refine wp_aload_0 d115_56 ?_
      refine wp_getP d115_57 (Nat.le_of_ble_eq_true rfl) kM.1 rfl ?_
      refine wp_i2l d115_60 ?_
      refine wp_aload_0 d115_61 ?_
      refine wp_getP d115_62 (Nat.le_of_ble_eq_true rfl) kM.1 rfl ?_
      refine wp_iconst d115_65 ic_1 ?_
      refine wp_isub d115_66 ?_
      refine wp_i2l d115_67 ?_
      refine wp_S3r d115_68 rfl ((m_in (nI y) (a := trN) (b := (stN : Int) - 1) (by rw [x64, nI_toInt (by omega)]) (pred64 (by omega)))) (Nat.le_of_ble_eq_true rfl) (Nat.le_of_ble_eq_true rfl) ?_
      refine wp_if_eqB d115_71 (by decide) (fun h71 => ?_) (fun h71 => ?_)
      · rw [h71, if_neg (by decide)]
        refine wp_iconst d115_86 ic_m1 ?_
        exact wp_iret d115_87 rfl rfl rfl
      · rw [h71, if_pos rfl]
        have hb := inB_t.mp h71
        rw [nI_toInt (by omega)] at hb
        refine wp_aload_0 d115_74 ?_
        refine wp_getP d115_75 (Nat.le_of_ble_eq_true rfl) kM.1 rfl ?_
        refine wp_iload_1 d115_78 ?_
        refine wp_bipush d115_79 bi_10 ?_
        refine wp_isubN d115_81 (by omega) ?_
        rw [Nat.add_sub_cancel]
        refine wp_aldP d115_82 (kM.2 _ (Nat.le_of_ble_eq_true rfl)) rfl (by omega) (by decide) ?_
        refine wp_goto d115_83 (by decide) ?_
        rw [show whN w trN stN c0 wh' y = whC w trN stN c0 y by unfold whC whN; rw [if_pos (by omega), if_pos (by omega)]]
        exact wp_iret d115_87 rfl rfl rfl

end S09_mo5b
end
section

def okX (x : Int32) : Bool := inB x 0 1 || inB x 10 15
def okB (w bm : Nat) (x : Int32) : Bool := okX x && decide (w ≠ 0) && decide (bm ≠ 20)
theorem msk_bit {f : Nat → Nat} {a v : Nat} : ∀ n, n ≤ a → ((msk f a n).testBit v = true ↔ ∃ p, a - n ≤ p ∧ p < a ∧ f p = v)
  | 0, _ => by
    simp only [msk, Nat.zero_testBit]
    constructor
    · intro h
      exact absurd h (by decide)
    · rintro ⟨p, h1, h2, -⟩
      omega
  | n + 1, h => by
    unfold msk
    rw [Nat.testBit_or, Bool.or_eq_true, msk_bit n (by omega), Nat.testBit_two_pow]
    constructor
    · rintro (⟨p, h1, h2, h3⟩ | h3)
      · exact ⟨p, by omega, h2, h3⟩
      · exact ⟨a - (n + 1), by omega, by omega, by simpa using h3⟩
    · rintro ⟨p, h1, h2, h3⟩
      by_cases e : p = a - (n + 1)
      · right; subst e; simpa using h3
      · left; exact ⟨p, by omega, h2, h3⟩
theorem msk_lt {f : Nat → Nat} {a : Nat} (hf : ∀ p, p < a → f p < 5) : ∀ n, n ≤ a → msk f a n < 2 ^ 5
  | 0, _ => by simp [msk]
  | n + 1, h => by
    unfold msk
    exact Nat.or_lt_two_pow (msk_lt hf n (by omega)) (Nat.pow_lt_pow_right (by decide) (hf _ (by omega)))
theorem surj_inj : ∀ (w : Nat) (f : Nat → Nat), (∀ v, v < w → ∃ p, p < w ∧ f p = v) → (∀ p q, p < w → q < w → f p = f q → p = q) ∧ ∀ p, p < w → f p < w
  | 0, f, _ => ⟨fun p q hp => by omega, fun p hp => by omega⟩
  | w + 1, f, h => by
    obtain ⟨p0, hp0, e0⟩ := h w (by omega)
    have hg : ∀ v, v < w → ∃ p, p < w ∧ (fun p => if p = p0 then f w else f p) p = v := by
      intro v hv
      obtain ⟨p, hp, e⟩ := h v (by omega)
      by_cases a : p = w
      · have hpp : p0 ≠ w := by intro z; rw [z, ← a, e] at e0; omega
        refine ⟨p0, by omega, ?_⟩
        simp only [if_true]
        rw [← a]; exact e
      · have hpp : p ≠ p0 := by intro z; rw [z, e0] at e; omega
        exact ⟨p, by omega, by simp only [hpp, if_false]; exact e⟩
    obtain ⟨i1, i2⟩ := surj_inj w (fun p => if p = p0 then f w else f p) hg
    have key : ∀ p, p < w + 1 → p ≠ p0 → ∃ p', p' < w ∧ (if p' = p0 then f w else f p') = f p ∧ (p = w → p' = p0) ∧ (p ≠ w → p' = p) := by
      intro p hp hne
      by_cases a : p = w
      · exact ⟨p0, by omega, by rw [if_pos rfl, a], fun _ => rfl, fun z => absurd a z⟩
      · exact ⟨p, by omega, by rw [if_neg hne], fun z => absurd z a, fun _ => rfl⟩
    have small : ∀ p, p < w + 1 → p ≠ p0 → f p < w := by
      intro p hp hne
      obtain ⟨p', a, b, -, -⟩ := key p hp hne
      rw [← b]
      exact i2 p' a
    refine ⟨fun p q hp hq e => ?_, fun p hp => ?_⟩
    · by_cases a : p = p0
      · by_cases b : q = p0
        · omega
        · have := small q hq b
          rw [← e, a, e0] at this
          omega
      · by_cases b : q = p0
        · have := small p hp a
          rw [e, b, e0] at this
          omega
        · obtain ⟨p', a1, a2, a3, a4⟩ := key p hp a
          obtain ⟨q', b1, b2, b3, b4⟩ := key q hq b
          have := i1 p' q' a1 b1 (by rw [a2, b2]; exact e)
          by_cases c : p = w <;> by_cases d : q = w
          · omega
          · have := a3 c; have := b4 d; omega
          · have := a4 c; have := b3 d; omega
          · have := a4 c; have := b4 d; omega
    · by_cases a : p = p0
      · rw [a, e0]; omega
      · have := small p hp a
        omega
theorem msk_PF {f : Nat → Nat} {w : Nat} (h : msk f w w = 2 ^ w - 1) : PF w f := by
  have hs : ∀ v, v < w → ∃ p, p < w ∧ f p = v := by
    intro v hv
    have := (msk_bit (f := f) (a := w) (v := v) w (Nat.le_refl _)).mp (by rw [h, Nat.testBit_two_pow_sub_one]; simpa using hv)
    obtain ⟨p, -, h2, h3⟩ := this
    exact ⟨p, h2, h3⟩
  obtain ⟨a, b⟩ := surj_inj w f hs
  exact ⟨b, a, hs⟩
theorem PF_msk {f : Nat → Nat} {w : Nat} (h : PF w f) : msk f w w = 2 ^ w - 1 := by
  apply Nat.eq_of_testBit_eq
  intro v
  rw [Nat.testBit_two_pow_sub_one]
  by_cases hv : v < w
  · obtain ⟨p, h1, h2⟩ := h.2.2 v hv
    rw [(msk_bit (f := f) (a := w) (v := v) w (Nat.le_refl _)).mpr ⟨p, by omega, h1, h2⟩]
    simp [hv]
  · have : (msk f w w).testBit v ≠ true := by
      intro z
      obtain ⟨p, -, h2, h3⟩ := (msk_bit (f := f) (a := w) (v := v) w (Nat.le_refl _)).mp z
      have := h.1 p h2
      omega
    simp at this
    simp [this, hv]
theorem canN_congr {ki fi fi' le : Nat → Nat} {dp : Nat} : ∀ n, (∀ p, p < n → fi p = fi' p) → canN ki fi le dp n = canN ki fi' le dp n
  | 0, _ => rfl
  | n + 1, h => by
    have e : payN ki fi n dp = payN ki fi' n dp := by
      unfold payN hvN
      by_cases z : n = 0
      · subst z
        rw [if_pos rfl, if_pos rfl, h 0 (by omega)]
      · rw [if_neg z, if_neg z, h n (by omega), h (n - 1) (by omega)]
    unfold canN
    rw [canN_congr n (fun p hp => h p (by omega)), e, h n (by omega)]
theorem trS_congr {ki fi fi' le : Nat → Nat} {dp : Nat} : ∀ n, (∀ p, p < n → fi p = fi' p) → trS ki fi dp le n = trS ki fi' dp le n
  | 0, _ => rfl
  | n + 1, h => by
    have e : payN ki fi n dp = payN ki fi' n dp := by
      unfold payN hvN
      by_cases z : n = 0
      · subst z
        rw [if_pos rfl, if_pos rfl, h 0 (by omega)]
      · rw [if_neg z, if_neg z, h n (by omega), h (n - 1) (by omega)]
    unfold trS
    rw [trS_congr n (fun p hp => h p (by omega)), e, h n (by omega)]
theorem rot_congr {w : Nat} {fi fi' : Nat → Nat} (h : ∀ p, p < w → fi p = fi' p) : ∀ p, p < w → rot w fi p = rot w fi' p := by
  intro p hp
  unfold rot
  by_cases a : p + 1 < w
  · rw [if_pos a, if_pos a, h _ a]
  · rw [if_neg a, if_neg a, if_pos (by omega), if_pos (by omega), h 0 (by omega)]
theorem soN_congr {w : Nat} {ki de : Nat → Nat} : ∀ (n k : Nat) (fi fi' le : Nat → Nat), (∀ p, p < w → fi p = fi' p) → (soN w ki de n k fi le).1 = (soN w ki de n k fi' le).1 ∧ (soN w ki de n k fi le).2.2 = (soN w ki de n k fi' le).2.2
  | 0, k, fi, fi', le, _ => ⟨rfl, rfl⟩
  | n + 1, k, fi, fi', le, h => by
    unfold soN
    rw [canN_congr w h, trS_congr w h]
    split
    · exact soN_congr n (k + 1) _ _ _ (rot_congr h)
    · exact ⟨rfl, rfl⟩
abbrev odC (w c : Nat) : Nat → Nat := odN w c (fun _ => 0)
theorem odN_C {w c p : Nat} {od : Nat → Nat} (h : p < w) : odN w c od p = odC w c p := by
  unfold odC odN
  rw [if_pos h, if_pos h]
theorem msk_congr {f g : Nat → Nat} {a : Nat} : ∀ n, n ≤ a → (∀ p, p < a → f p = g p) → msk f a n = msk g a n
  | 0, _, _ => rfl
  | n + 1, h, e => by
    unfold msk
    rw [msk_congr n (by omega) e, e _ (by omega)]
def isO (w c : Nat) : Bool := decide (msk (odC w c) w w = 2 ^ w - 1)
def soC (w : Nat) (ki sr de : Nat → Nat) (st c : Nat) : Bool × (Nat → Nat) × (Nat → Nat) := soN w ki de st 0 (odC w c) sr
def gtO (b : Option (Nat × Nat)) (v : Nat) : Bool := match b with
  | none => true
  | some (_, l) => decide (l < v)
def setG (w : Nat) (ki sr de : Nat → Nat) (st : Nat) : Nat → Option (Nat × Nat)
  | 0 => none
  | c + 1 => if isO w c && (soC w ki sr de st c).1 && gtO (setG w ki sr de st c) (mnN (soC w ki sr de st c).2.2 100 w) then some (c, mnN (soC w ki sr de st c).2.2 100 w) else setG w ki sr de st c
def p2 (b : Option (Nat × Nat)) : Option Nat := match b with
  | none => none
  | some (_, l) => some l
theorem setG_b {w : Nat} {ki sr de : Nat → Nat} {st : Nat} : ∀ n c l, setG w ki sr de st n = some (c, l) → c < n ∧ l ≤ 100
  | 0, c, l, h => by simp [setG] at h
  | n + 1, c, l, h => by
    unfold setG at h
    split at h
    · cases h
      exact ⟨by omega, mnN_le _ _ _⟩
    · have := setG_b n c l h
      omega
def r_setOut (w : Nat) (ki sr de : Nat → Nat) (st : Nat) (x : Int32) : Int32 := match setG w ki sr de st (w ^ w) with
  | none => -1
  | some (c, l) => if x.toInt = 0 then nI l else if x.toInt - 10 < w then nI (odC w c (x.toInt - 10).toNat) else -1
theorem pred_lt0 {c : Nat} (h : c < 2 ^ 30) : nI c - nI 1 < 0 ↔ c = 0 := by
  rw [show (0 : Int32) = nI 0 from rfl, lt_nI (by decide), pk_sub_toInt h (by decide)]
  constructor
  · intro z
    have : (c : Int) - ((1 : Nat) : Int) < ((0 : Nat) : Int) := z
    omega
  · intro z
    subst z
    decide
end
section
section S10_mo6b
variable {σ : Sto} {m : Nat} {pm sta rdm st me tr mi slr wa cha bm bc bl bch ask sn ks kw kt km : Int32} {hsh : Int64} {apg ade afo aro ale afi anf anl awh aod abo aof ama asd akr akl akf akd ako : List Int32}

theorem m_best (kM : KM σ m) {trN stN w ch0 bmN : Nat} {ki sr fi le de wh nf nl : Nat → Nat} {to : Nat → Option Nat} (h1 : trN ≤ stN) (h6 : stN ≤ 6) (hw5 : w ≤ 5) (hf : PF w fi) (hk : ∀ v, v < w → ki v < 5) (hl : ∀ v, v < w → le v < 1000) (hd : ∀ k, k < stN → de k < 100) (hbm : bmN ≤ 20) (x : Int32) : ∃ (wh' nf' nl' : Nat → Nat) (ch' : Nat) (bc' bl' bch' : Int32), Ev 5 0 0 116 [.ref m, .int x] (put σ m (m + 1) (mF m pm sta rdm (nI stN) me (nI trN) mi slr (nI w) (nI ch0) (nI bmN) bc bl bch ask sn ks kw kt km hsh) (mA apg (arr 6 de) afo (arrI 15 (rw3 ki sr to)) (arr 5 le) (arr 5 fi) (arr 5 nf) (arr 5 nl) (arr 6 wh) aod abo aof ama asd akr akl akf akd ako)) (some (.int (if okX x then (if w = 0 ∨ bmN = 20 then -103 else r_best w ki fi de le trN stN x) else -102))) (put σ m (m + 1) (mF m pm sta rdm (nI stN) me (nI trN) mi slr (nI w) (nI ch') (nI (if okB w bmN x then bmN + 1 else bmN)) (bc') (bl') (bch') ask sn ks kw kt km hsh) (mA apg (arr 6 de) afo (arrI 15 (rw3 ki sr to)) (arr 5 le) (arr 5 fi) (arr 5 nf') (arr 5 nl') (arr 6 wh') aod abo aof ama asd akr akl akf akd ako)) := by
  by_cases hx : okX x = true
  · rw [if_pos hx]
    have hx2 : (x.toInt = 0 ∨ x.toInt = 1) ∨ (10 ≤ x.toInt ∧ x.toInt ≤ 15) := by
      simp only [okX, Bool.or_eq_true, inB_t] at hx
      omega
    have pre : ∀ {r : Option Value} {σ' : Sto}, WP 5 0 0 116 27 [.ref m, .int x] [] (put σ m (m + 1) (mF m pm sta rdm (nI stN) me (nI trN) mi slr (nI w) (nI ch0) (nI bmN) bc bl bch ask sn ks kw kt km hsh) (mA apg (arr 6 de) afo (arrI 15 (rw3 ki sr to)) (arr 5 le) (arr 5 fi) (arr 5 nf) (arr 5 nl) (arr 6 wh) aod abo aof ama asd akr akl akf akd ako)) r σ' → Ev 5 0 0 116 [.ref m, .int x] (put σ m (m + 1) (mF m pm sta rdm (nI stN) me (nI trN) mi slr (nI w) (nI ch0) (nI bmN) bc bl bch ask sn ks kw kt km hsh) (mA apg (arr 6 de) afo (arrI 15 (rw3 ki sr to)) (arr 5 le) (arr 5 fi) (arr 5 nf) (arr 5 nl) (arr 6 wh) aod abo aof ama asd akr akl akf akd ako)) r σ' := by
      intro r σ' K
      refine ev_of (L := [(.ref m), (.int x)]) (by decide) rfl (Nat.le_of_ble_eq_true rfl) ?_
      refine wp_iload_1 d116_0 ?_
      refine wp_i2l d116_1 ?_
      refine wp_lconst d116_2 (v := lN 0) rfl ?_
      refine wp_lconst d116_3 (v := lN 1) rfl ?_
      refine wp_S3r d116_4 rfl ((m_in x (a := 0) (b := 1) (by decide) (by decide))) (Nat.le_of_ble_eq_true rfl) (Nat.le_of_ble_eq_true rfl) ?_
      refine wp_if_neB d116_7 (by decide) (fun h7 => ?_) (fun h7 => ?_)
      · exact K
      · refine wp_iload_1 d116_10 ?_
        refine wp_i2l d116_11 ?_
        refine wp_ldc2 d116_12 (by decide) rfl lk_10 ?_
        refine wp_ldc2 d116_15 (by decide) rfl lk_15 ?_
        refine wp_S3r d116_18 rfl ((m_in x (a := 10) (b := 15) (by decide) (by decide))) (Nat.le_of_ble_eq_true rfl) (Nat.le_of_ble_eq_true rfl) ?_
        refine wp_if_neB d116_21 (by decide) (fun h21 => ?_) (fun h21 => ?_)
        · exact K
        · exfalso
          simp [okX, h7, h21] at hx
    by_cases hs : w = 0 ∨ bmN = 20
    · refine ⟨wh, nf, nl, ch0, bc, bl, bch, ?_⟩
      rw [if_pos hs, show okB w bmN x = false by rcases hs with z | z <;> simp [okB, z]]
      refine pre ?_
      refine wp_aload_0 d116_27 ?_
      refine wp_getP d116_28 (Nat.le_of_ble_eq_true rfl) kM.1 rfl ?_
      refine wp_if_eqN d116_31 (by decide) (by omega) (fun h31 => ?_) (fun h31 => ?_)
      · refine wp_bipush d116_43 bi_m103 ?_
        exact wp_iret d116_45 rfl rfl rfl
      · refine wp_aload_0 d116_34 ?_
        refine wp_getP d116_35 (Nat.le_of_ble_eq_true rfl) kM.1 rfl ?_
        refine wp_bipush d116_38 bi_20 ?_
        refine wp_icmp_neN d116_40 (by decide) (by omega) (by omega) (fun hq => absurd hq (by omega)) (fun h40 => ?_)
        refine wp_bipush d116_43 bi_m103 ?_
        exact wp_iret d116_45 rfl rfl rfl
    · obtain ⟨wh', nf', nl', ch', bc', bl', bch', K⟩ := m_tellBest kM (σ := σ) (m := m) (nf := nf) (nl := nl) (wh := wh) (sr := sr) (to := to) (ch0 := ch0) (bc := bc) (bl := bl) (bch := bch) (pm := pm) (sta := sta) (rdm := rdm) (me := me) (mi := mi) (slr := slr) (bm := nI (bmN + 1)) (ask := ask) (sn := sn) (ks := ks) (kw := kw) (kt := kt) (km := km) (hsh := hsh) (apg := apg) (afo := afo) (aod := aod) (abo := abo) (aof := aof) (ama := ama) (asd := asd) (akr := akr) (akl := akl) (akf := akf) (akd := akd) (ako := ako) h1 h6 (show 1 ≤ w by omega) hw5 hf hk hl hd x hx2
      refine ⟨wh', nf', nl', ch', bc', bl', bch', ?_⟩
      rw [if_neg hs, show okB w bmN x = true by simp [okB, hx]; omega]
      refine pre ?_
      refine wp_aload_0 d116_27 ?_
      refine wp_getP d116_28 (Nat.le_of_ble_eq_true rfl) kM.1 rfl ?_
      refine wp_if_eqN d116_31 (by decide) (by omega) (fun hq => absurd hq (by omega)) (fun h31 => ?_)
      refine wp_aload_0 d116_34 ?_
      refine wp_getP d116_35 (Nat.le_of_ble_eq_true rfl) kM.1 rfl ?_
      refine wp_bipush d116_38 bi_20 ?_
      refine wp_icmp_neN d116_40 (by decide) (by omega) (by omega) (fun h40 => ?_) (fun hq => absurd hq (by omega))
      refine wp_aload_0 d116_46 ?_
      refine wp_dup d116_47 rfl ?_
      refine wp_getP d116_48 (Nat.le_of_ble_eq_true rfl) kM.1 rfl ?_
      refine wp_iconst d116_51 ic_1 ?_
      refine wp_iaddN d116_52 ?_
      refine wp_putIP d116_53 kM.1 ?_
      refine wp_aload_0 d116_56 ?_
      refine wp_iload_1 d116_57 ?_
      refine wp_V1r d116_58 kM.1 ((K)) (Nat.le_of_ble_eq_true rfl) (Nat.le_of_ble_eq_true rfl) ?_
      exact wp_iret d116_61 rfl rfl rfl
  · refine ⟨wh, nf, nl, ch0, bc, bl, bch, ?_⟩
    have hx' : okX x = false := by simpa using hx
    rw [hx', show okB w bmN x = false by simp [okB, hx']]
    simp only [okX, Bool.or_eq_false_iff] at hx'
    refine ev_of (L := [(.ref m), (.int x)]) (by decide) rfl (Nat.le_of_ble_eq_true rfl) ?_
    refine wp_iload_1 d116_0 ?_
    refine wp_i2l d116_1 ?_
    refine wp_lconst d116_2 (v := lN 0) rfl ?_
    refine wp_lconst d116_3 (v := lN 1) rfl ?_
    refine wp_S3r d116_4 rfl ((m_in x (a := 0) (b := 1) (by decide) (by decide))) (Nat.le_of_ble_eq_true rfl) (Nat.le_of_ble_eq_true rfl) ?_
    refine wp_if_neB d116_7 (by decide) (fun hq => absurd hq (fun hq => absurd (hq.symm.trans hx'.1) (by decide))) (fun h7 => ?_)
    refine wp_iload_1 d116_10 ?_
    refine wp_i2l d116_11 ?_
    refine wp_ldc2 d116_12 (by decide) rfl lk_10 ?_
    refine wp_ldc2 d116_15 (by decide) rfl lk_15 ?_
    refine wp_S3r d116_18 rfl ((m_in x (a := 10) (b := 15) (by decide) (by decide))) (Nat.le_of_ble_eq_true rfl) (Nat.le_of_ble_eq_true rfl) ?_
    refine wp_if_neB d116_21 (by decide) (fun hq => absurd hq (fun hq => absurd (hq.symm.trans hx'.2) (by decide))) (fun h21 => ?_)
    refine wp_bipush d116_24 bi_m102 ?_
    exact wp_iret d116_26 rfl rfl rfl
theorem m_farOf (kM : KM σ m) {trN stN w by' : Nat} {ki sr fi le de nf nl : Nat → Nat} {to : Nat → Option Nat} (h1 : trN ≤ stN) (h6 : stN ≤ 6) (hw : 1 ≤ w) (hw5 : w ≤ 5) (hf : PF w fi) (hk : ∀ v, v < w → ki v < 5) (hl : ∀ v, v < w → le v < 1000) (hd : ∀ k, k < stN → de k < 100) (hb : 1 ≤ by') (hb6 : by' ≤ 6) : ∃ nf' nl' : Nat → Nat, Ev 2 0 0 117 [.ref m, .int (nI by')] (put σ m (m + 1) (mF m pm sta rdm (nI stN) me (nI trN) mi slr (nI w) cha bm bc bl bch ask sn ks kw kt km hsh) (mA apg (arr 6 de) afo (arrI 15 (rw3 ki sr to)) (arr 5 le) (arr 5 fi) (arr 5 nf) (arr 5 nl) awh aod abo aof ama asd akr akl akf akd ako)) (some (.int (nI (faN w ki de trN by' (stN - trN) 0 fi le)))) (put σ m (m + 1) (mF m pm sta rdm (nI stN) me (nI trN) mi slr (nI w) cha bm bc bl bch ask sn ks kw kt km hsh) (mA apg (arr 6 de) afo (arrI 15 (rw3 ki sr to)) (arr 5 le) (arr 5 fi) (arr 5 nf') (arr 5 nl') awh aod abo aof ama asd akr akl akf akd ako)) := by
  have loop : ∀ (n k : Nat) (f l2 : Nat → Nat), trN + k + n = stN → PF w f → (∀ v, v < w → l2 v < 1000) → ∃ nf' nl' : Nat → Nat, WP 2 0 0 117 6 [.ref m, .int (nI by'), .int (nI k)] [] (put σ m (m + 1) (mF m pm sta rdm (nI stN) me (nI trN) mi slr (nI w) cha bm bc bl bch ask sn ks kw kt km hsh) (mA apg (arr 6 de) afo (arrI 15 (rw3 ki sr to)) (arr 5 le) (arr 5 fi) (arr 5 f) (arr 5 l2) awh aod abo aof ama asd akr akl akf akd ako)) (some (.int (nI (faN w ki de trN by' n k f l2)))) (put σ m (m + 1) (mF m pm sta rdm (nI stN) me (nI trN) mi slr (nI w) cha bm bc bl bch ask sn ks kw kt km hsh) (mA apg (arr 6 de) afo (arrI 15 (rw3 ki sr to)) (arr 5 le) (arr 5 fi) (arr 5 nf') (arr 5 nl') awh aod abo aof ama asd akr akl akf akd ako)) := by
    intro n
    induction n with
    | zero =>
      intro k f l2 hk' hpf hl2
      refine ⟨f, l2, ?_⟩
      refine wp_aload_0 d117_6 ?_
      refine wp_getP d117_7 (Nat.le_of_ble_eq_true rfl) kM.1 rfl ?_
      refine wp_iload_2 d117_10 ?_
      refine wp_iaddN d117_11 ?_
      refine wp_aload_0 d117_12 ?_
      refine wp_getP d117_13 (Nat.le_of_ble_eq_true rfl) kM.1 rfl ?_
      refine wp_icmp_geN d117_16 (by decide) (by omega) (by omega) (fun h16 => ?_) (fun hq => absurd hq (by omega))
      refine wp_iload_2 d117_68 ?_
      exact wp_iret d117_69 rfl rfl rfl
    | succ n ih =>
      intro k f l2 hk' hpf hl2
      have hdk := hd (trN + k) (by omega)
      by_cases hc : canN ki f l2 (de (trN + k)) w = true
      · have hl3 : ∀ v, v < w → trS ki f (de (trN + k)) l2 w v < 1000 := fun v hv => Nat.lt_of_le_of_lt trS_le (hl2 v hv)
        have hpf' : PF w (if (k + 1) % by' = 0 then rot w f else f) := by
          split
          · exact PF_rot hpf
          · exact hpf
        obtain ⟨nf', nl', K⟩ := ih (k + 1) (if (k + 1) % by' = 0 then rot w f else f) (trS ki f (de (trN + k)) l2 w) (by omega) hpf' hl3
        refine ⟨nf', nl', ?_⟩
        rw [show faN w ki de trN by' (n + 1) k f l2 = faN w ki de trN by' n (k + 1) (if (k + 1) % by' = 0 then rot w f else f) (trS ki f (de (trN + k)) l2 w) by simp [faN, hc]]
        refine wp_aload_0 d117_6 ?_
        refine wp_getP d117_7 (Nat.le_of_ble_eq_true rfl) kM.1 rfl ?_
        refine wp_iload_2 d117_10 ?_
        refine wp_iaddN d117_11 ?_
        refine wp_aload_0 d117_12 ?_
        refine wp_getP d117_13 (Nat.le_of_ble_eq_true rfl) kM.1 rfl ?_
        refine wp_icmp_geN d117_16 (by decide) (by omega) (by omega) (fun hq => absurd hq (by omega)) (fun h16 => ?_)
        refine wp_aload_0 d117_19 ?_
        refine wp_aload_0 d117_20 ?_
        refine wp_getP d117_21 (Nat.le_of_ble_eq_true rfl) kM.1 rfl ?_
        refine wp_aload_0 d117_24 ?_
        refine wp_getP d117_25 (Nat.le_of_ble_eq_true rfl) kM.1 rfl ?_
        refine wp_iload_2 d117_28 ?_
        refine wp_iaddN d117_29 ?_
        refine wp_aldP d117_30 (kM.2 _ (Nat.le_of_ble_eq_true rfl)) rfl (by omega) (by decide) ?_
        refine wp_V1r d117_31 kM.1 ((m_canTread kM hw5 hpf.1 hk hl2 hdk)) (Nat.le_of_ble_eq_true rfl) (Nat.le_of_ble_eq_true rfl) ?_
        refine wp_if_eqB d117_34 (by decide) (fun hq => absurd hq (fun hq => absurd (hc.symm.trans hq) (by decide))) (fun h34 => ?_)
        refine wp_aload_0 d117_37 ?_
        refine wp_aload_0 d117_38 ?_
        refine wp_getP d117_39 (Nat.le_of_ble_eq_true rfl) kM.1 rfl ?_
        refine wp_aload_0 d117_42 ?_
        refine wp_getP d117_43 (Nat.le_of_ble_eq_true rfl) kM.1 rfl ?_
        refine wp_iload_2 d117_46 ?_
        refine wp_iaddN d117_47 ?_
        refine wp_aldP d117_48 (kM.2 _ (Nat.le_of_ble_eq_true rfl)) rfl (by omega) (by decide) ?_
        refine wp_V1v d117_49 kM.1 ((m_treads kM hw5 hpf hk hc hdk)) (Nat.le_of_ble_eq_true rfl) (Nat.le_of_ble_eq_true rfl) ?_
        refine wp_iinc_2 d117_52 (Nat.le_of_ble_eq_true rfl) rfl (inc1 _) ?_
        refine wp_iload_2 d117_55 ?_
        refine wp_iload_1 d117_56 ?_
        refine wp_iremN d117_57 (by omega) (by omega) (by omega) ?_
        have hmod : (k + 1) % by' < by' := Nat.mod_lt _ (by omega)
        refine wp_if_neN d117_58 (by decide) (by omega) (fun h58 => ?_) (fun h58 => ?_)
        · rw [if_neg h58] at K ⊢
          exact K
        · rw [if_pos h58] at K ⊢
          refine wp_aload_0 d117_61 ?_
          refine wp_V0v d117_62 kM.1 ((m_turns kM hw hw5)) (Nat.le_of_ble_eq_true rfl) (Nat.le_of_ble_eq_true rfl) ?_
          refine wp_goto d117_65 (by decide) ?_
          exact K
      · have hc' : canN ki f l2 (de (trN + k)) w = false := by simpa using hc
        refine ⟨f, l2, ?_⟩
        rw [show faN w ki de trN by' (n + 1) k f l2 = k by simp [faN, hc']]
        refine wp_aload_0 d117_6 ?_
        refine wp_getP d117_7 (Nat.le_of_ble_eq_true rfl) kM.1 rfl ?_
        refine wp_iload_2 d117_10 ?_
        refine wp_iaddN d117_11 ?_
        refine wp_aload_0 d117_12 ?_
        refine wp_getP d117_13 (Nat.le_of_ble_eq_true rfl) kM.1 rfl ?_
        refine wp_icmp_geN d117_16 (by decide) (by omega) (by omega) (fun hq => absurd hq (by omega)) (fun h16 => ?_)
        refine wp_aload_0 d117_19 ?_
        refine wp_aload_0 d117_20 ?_
        refine wp_getP d117_21 (Nat.le_of_ble_eq_true rfl) kM.1 rfl ?_
        refine wp_aload_0 d117_24 ?_
        refine wp_getP d117_25 (Nat.le_of_ble_eq_true rfl) kM.1 rfl ?_
        refine wp_iload_2 d117_28 ?_
        refine wp_iaddN d117_29 ?_
        refine wp_aldP d117_30 (kM.2 _ (Nat.le_of_ble_eq_true rfl)) rfl (by omega) (by decide) ?_
        refine wp_V1r d117_31 kM.1 ((m_canTread kM hw5 hpf.1 hk hl2 hdk)) (Nat.le_of_ble_eq_true rfl) (Nat.le_of_ble_eq_true rfl) ?_
        refine wp_if_eqB d117_34 (by decide) (fun h34 => ?_) (fun hq => absurd hq (fun hq => absurd (hq.symm.trans hc') (by decide)))
        refine wp_iload_2 d117_68 ?_
        exact wp_iret d117_69 rfl rfl rfl
  obtain ⟨nf', nl', K⟩ := loop (stN - trN) 0 fi le (by omega) hf hl
  refine ⟨nf', nl', ?_⟩
  refine ev_of (L := [(.ref m), (.int (nI by')), .null]) (by decide) rfl (Nat.le_of_ble_eq_true rfl) ?_
  refine wp_aload_0 d117_0 ?_
  refine wp_V0v d117_1 kM.1 ((m_asItIs kM)) (Nat.le_of_ble_eq_true rfl) (Nat.le_of_ble_eq_true rfl) ?_
  refine wp_iconst d117_4 ic_0 ?_
  refine wp_istore_2 d117_5 (Nat.le_of_ble_eq_true rfl) rfl ?_
  exact K
theorem m_far (kM : KM σ m) {trN stN w : Nat} {ki sr fi le de nf nl : Nat → Nat} {to : Nat → Option Nat} (h1 : trN ≤ stN) (h6 : stN ≤ 6) (hw5 : w ≤ 5) (hf : PF w fi) (hk : ∀ v, v < w → ki v < 5) (hl : ∀ v, v < w → le v < 1000) (hd : ∀ k, k < stN → de k < 100) (x : Int32) : ∃ nf' nl' : Nat → Nat, Ev 3 0 0 118 [.ref m, .int x] (put σ m (m + 1) (mF m pm sta rdm (nI stN) me (nI trN) mi slr (nI w) cha bm bc bl bch ask sn ks kw kt km hsh) (mA apg (arr 6 de) afo (arrI 15 (rw3 ki sr to)) (arr 5 le) (arr 5 fi) (arr 5 nf) (arr 5 nl) awh aod abo aof ama asd akr akl akf akd ako)) (some (.int (if inB x 1 6 then (if w = 0 then -103 else nI (faN w ki de trN x.toInt.toNat (stN - trN) 0 fi le)) else -102))) (put σ m (m + 1) (mF m pm sta rdm (nI stN) me (nI trN) mi slr (nI w) cha bm bc bl bch ask sn ks kw kt km hsh) (mA apg (arr 6 de) afo (arrI 15 (rw3 ki sr to)) (arr 5 le) (arr 5 fi) (arr 5 nf') (arr 5 nl') awh aod abo aof ama asd akr akl akf akd ako)) := by
  by_cases hx : inB x 1 6 = true
  · rw [if_pos hx]
    by_cases hw0 : w = 0
    · refine ⟨nf, nl, ?_⟩
      rw [if_pos hw0]
      subst hw0
      refine ev_of (L := [(.ref m), (.int x)]) (by decide) rfl (Nat.le_of_ble_eq_true rfl) ?_
      refine wp_iload_1 d118_0 ?_
      refine wp_i2l d118_1 ?_
      refine wp_lconst d118_2 (v := lN 1) rfl ?_
      refine wp_ldc2 d118_3 (by decide) rfl lk_6 ?_
      refine wp_S3r d118_6 rfl ((m_in x (a := 1) (b := 6) (by decide) (by decide))) (Nat.le_of_ble_eq_true rfl) (Nat.le_of_ble_eq_true rfl) ?_
      refine wp_if_neB d118_9 (by decide) (fun h9 => ?_) (fun hq => absurd hq (fun hq => absurd (hq.symm.trans hx) (by decide)))
      refine wp_aload_0 d118_15 ?_
      refine wp_getP d118_16 (Nat.le_of_ble_eq_true rfl) kM.1 rfl ?_
      refine wp_if_neN d118_19 (by decide) (by omega) (fun hq => absurd hq (by omega)) (fun h19 => ?_)
      refine wp_bipush d118_22 bi_m103 ?_
      refine wp_goto d118_24 (by decide) ?_
      exact wp_iret d118_32 rfl rfl rfl
    · have hb := inB_t.mp hx
      obtain ⟨y, hy, rfl⟩ : ∃ y : Nat, (1 ≤ y ∧ y ≤ 6) ∧ x = nI y := ⟨x.toInt.toNat, by omega, nI_to (by omega)⟩
      rw [show (nI y).toInt.toNat = y by rw [nI_toInt (by omega)]; rfl]
      obtain ⟨nf', nl', K⟩ := m_farOf kM (σ := σ) (m := m) (nf := nf) (nl := nl) (sr := sr) (to := to) (awh := awh) (cha := cha) (bc := bc) (bl := bl) (bch := bch) (pm := pm) (sta := sta) (rdm := rdm) (me := me) (mi := mi) (slr := slr) (bm := bm) (ask := ask) (sn := sn) (ks := ks) (kw := kw) (kt := kt) (km := km) (hsh := hsh) (apg := apg) (afo := afo) (aod := aod) (abo := abo) (aof := aof) (ama := ama) (asd := asd) (akr := akr) (akl := akl) (akf := akf) (akd := akd) (ako := ako) h1 h6 (show 1 ≤ w by omega) hw5 hf hk hl hd hy.1 hy.2
      refine ⟨nf', nl', ?_⟩
      rw [if_neg hw0]
      refine ev_of (L := [(.ref m), (.int (nI y))]) (by decide) rfl (Nat.le_of_ble_eq_true rfl) ?_
      refine wp_iload_1 d118_0 ?_
      refine wp_i2l d118_1 ?_
      refine wp_lconst d118_2 (v := lN 1) rfl ?_
      refine wp_ldc2 d118_3 (by decide) rfl lk_6 ?_
      refine wp_S3r d118_6 rfl ((m_in (nI y) (a := 1) (b := 6) (by decide) (by decide))) (Nat.le_of_ble_eq_true rfl) (Nat.le_of_ble_eq_true rfl) ?_
      refine wp_if_neB d118_9 (by decide) (fun h9 => ?_) (fun hq => absurd hq (fun hq => absurd (hq.symm.trans hx) (by decide)))
      refine wp_aload_0 d118_15 ?_
      refine wp_getP d118_16 (Nat.le_of_ble_eq_true rfl) kM.1 rfl ?_
      refine wp_if_neN d118_19 (by decide) (by omega) (fun h19 => ?_) (fun hq => absurd hq (by omega))
      refine wp_aload_0 d118_27 ?_
      refine wp_iload_1 d118_28 ?_
      refine wp_V1r d118_29 kM.1 ((K)) (Nat.le_of_ble_eq_true rfl) (Nat.le_of_ble_eq_true rfl) ?_
      exact wp_iret d118_32 rfl rfl rfl
  · refine ⟨nf, nl, ?_⟩
    have hx' : inB x 1 6 = false := by simpa using hx
    rw [if_neg hx]
    refine ev_of (L := [(.ref m), (.int x)]) (by decide) rfl (Nat.le_of_ble_eq_true rfl) ?_
    refine wp_iload_1 d118_0 ?_
    refine wp_i2l d118_1 ?_
    refine wp_lconst d118_2 (v := lN 1) rfl ?_
    refine wp_ldc2 d118_3 (by decide) rfl lk_6 ?_
    refine wp_S3r d118_6 rfl ((m_in x (a := 1) (b := 6) (by decide) (by decide))) (Nat.le_of_ble_eq_true rfl) (Nat.le_of_ble_eq_true rfl) ?_
    refine wp_if_neB d118_9 (by decide) (fun hq => absurd hq (fun hq => absurd (hq.symm.trans hx') (by decide))) (fun h9 => ?_)
    refine wp_bipush d118_12 bi_m102 ?_
    exact wp_iret d118_14 rfl rfl rfl
theorem m_isOrder (kM : KM σ m) {w c : Nat} {od : Nat → Nat} (hw : 1 ≤ w) (hw5 : w ≤ 5) (hc : c < 2 ^ 31) : Ev 0 0 0 119 [.ref m, .int (nI c)] (put σ m (m + 1) (mF m pm sta rdm st me tr mi slr (nI w) cha bm bc bl bch ask sn ks kw kt km hsh) (mA apg ade afo aro ale afi anf anl awh (arr 5 od) abo aof ama asd akr akl akf akd ako)) (some (.int (bi (isO w c)))) (put σ m (m + 1) (mF m pm sta rdm st me tr mi slr (nI w) cha bm bc bl bch ask sn ks kw kt km hsh) (mA apg ade afo aro ale afi anf anl awh (arr 5 (odN w c od)) abo aof ama asd akr akl akf akd ako)) := by
  have fin : WP 0 0 0 119 55 [.ref m, .int (nI c), .int (nI (c / w ^ w)), .int (nI (msk (odC w c) w w)), .int (nI 0 - nI 1)] [] (put σ m (m + 1) (mF m pm sta rdm st me tr mi slr (nI w) cha bm bc bl bch ask sn ks kw kt km hsh) (mA apg ade afo aro ale afi anf anl awh (arr 5 (odN w c od)) abo aof ama asd akr akl akf akd ako)) (some (.int (bi (isO w c)))) (put σ m (m + 1) (mF m pm sta rdm st me tr mi slr (nI w) cha bm bc bl bch ask sn ks kw kt km hsh) (mA apg ade afo aro ale afi anf anl awh (arr 5 (odN w c od)) abo aof ama asd akr akl akf akd ako)) := by
    have hm := msk_lt (f := odC w c) (a := w) (fun p hp => by unfold odC odN; rw [if_pos hp]; exact Nat.lt_of_lt_of_le (Nat.mod_lt _ (by omega)) hw5) w (Nat.le_refl _)
    have b1 : 1 ≤ 2 ^ w := Nat.one_le_two_pow
    have b2 : 2 ^ w ≤ 2 ^ 5 := Nat.pow_le_pow_right (by decide) hw5
    have h32 : (2 : Nat) ^ 5 = 32 := rfl
    refine wp_iload_3 d119_55 ?_
    refine wp_iconst d119_56 ic_1 ?_
    refine wp_aload_0 d119_57 ?_
    refine wp_getP d119_58 (Nat.le_of_ble_eq_true rfl) kM.1 rfl ?_
    refine wp_ishlN d119_61 (by omega) (by omega) ?_
    rw [Nat.one_mul]
    refine wp_iconst d119_62 ic_1 ?_
    refine wp_isubN d119_63 (by omega) ?_
    refine wp_icmp_neN d119_64 (by decide) (by omega) (by omega) (fun h64 => ?_) (fun h64 => ?_)
    · refine wp_iconst d119_71 ic_0 ?_
      exact wp_zret d119_72 rfl nI_01 (by simp [isO, h64, bi]; rfl) rfl
    · refine wp_iconst d119_67 ic_1 ?_
      refine wp_goto d119_68 (by decide) ?_
      exact wp_zret d119_72 rfl nI_11 (by simp [isO, h64, bi]; rfl) rfl
  have loop : ∀ (n : Nat) (f : Nat → Nat), n ≤ w → (∀ j, f j = if n ≤ j ∧ j < w then c / w ^ (w - 1 - j) % w else od j) → WP 0 0 0 119 12 [.ref m, .int (nI c), .int (nI (c / w ^ (w - n))), .int (nI (msk (odC w c) w (w - n))), .int (nI n - nI 1)] [] (put σ m (m + 1) (mF m pm sta rdm st me tr mi slr (nI w) cha bm bc bl bch ask sn ks kw kt km hsh) (mA apg ade afo aro ale afi anf anl awh (arr 5 f) abo aof ama asd akr akl akf akd ako)) (some (.int (bi (isO w c)))) (put σ m (m + 1) (mF m pm sta rdm st me tr mi slr (nI w) cha bm bc bl bch ask sn ks kw kt km hsh) (mA apg ade afo aro ale afi anf anl awh (arr 5 (odN w c od)) abo aof ama asd akr akl akf akd ako)) := by
    intro n
    induction n with
    | zero =>
      intro f hn hf
      rw [show f = odN w c od by funext j; rw [hf]; unfold odN; simp]
      refine wp_iload_4 d119_12 ?_
      refine wp_if_lt d119_14 (by decide) (fun _ => ?_) (fun h => absurd ((pred_lt0 (c := 0) (by decide)).mpr rfl) h)
      rw [Nat.sub_zero]
      exact fin
    | succ n ih =>
      intro f hn hf
      have hle : c / w ^ (w - (n + 1)) < 2 ^ 31 := Nat.lt_of_le_of_lt (Nat.div_le_self _ _) hc
      have hml : c / w ^ (w - (n + 1)) % w < w := Nat.mod_lt _ (by omega)
      have hpo : 2 ^ (c / w ^ (w - (n + 1)) % w) ≤ 2 ^ 5 := Nat.pow_le_pow_right (by decide) (by omega)
      have h32 : (2 : Nat) ^ 5 = 32 := rfl
      refine wp_iload_4 d119_12 ?_
      refine wp_if_lt d119_14 (by decide) (fun h => absurd ((pred_lt0 (c := n + 1) (by omega)).mp h) (by omega)) (fun _ => ?_)
      rw [pk_sub (show 1 ≤ n + 1 by omega), Nat.add_sub_cancel]
      refine wp_aload_0 d119_17 ?_
      refine wp_getP d119_18 (Nat.le_of_ble_eq_true rfl) kM.1 rfl ?_
      refine wp_iload_4 d119_21 ?_
      refine wp_iload_2 d119_23 ?_
      refine wp_aload_0 d119_24 ?_
      refine wp_getP d119_25 (Nat.le_of_ble_eq_true rfl) kM.1 rfl ?_
      refine wp_iremN d119_28 (by omega) (by omega) (by omega) ?_
      refine wp_astN d119_29 (kM.2 _ (Nat.le_of_ble_eq_true rfl)) rfl (by omega) (by decide) ?_
      refine wp_iload_3 d119_30 ?_
      refine wp_iconst d119_31 ic_1 ?_
      refine wp_aload_0 d119_32 ?_
      refine wp_getP d119_33 (Nat.le_of_ble_eq_true rfl) kM.1 rfl ?_
      refine wp_iload_4 d119_36 ?_
      refine wp_aldP d119_38 (kM.2 _ (Nat.le_of_ble_eq_true rfl)) rfl (by omega) (by decide) ?_
      rw [up_s]
      refine wp_ishlN d119_39 (by omega) (by omega) ?_
      refine wp_ior d119_40 ?_
      rw [nI_or, Nat.one_mul]
      refine wp_istore_3 d119_41 (Nat.le_of_ble_eq_true rfl) rfl ?_
      refine wp_iload_2 d119_42 ?_
      refine wp_aload_0 d119_43 ?_
      refine wp_getP d119_44 (Nat.le_of_ble_eq_true rfl) kM.1 rfl ?_
      refine wp_idivN d119_47 (by omega) (by omega) (by omega) ?_
      refine wp_istore_2 d119_48 (Nat.le_of_ble_eq_true rfl) rfl ?_
      refine wp_iinc_4 d119_49 (Nat.le_of_ble_eq_true rfl) rfl (dec2 _) ?_
      refine wp_goto d119_52 (by decide) ?_
      rw [Nat.div_div_eq_div_mul, ← Nat.pow_succ, show (w - (n + 1)).succ = w - n by omega]
      have em : msk (odC w c) w (w - (n + 1)) ||| 2 ^ (c / w ^ (w - (n + 1)) % w) = msk (odC w c) w (w - n) := by
        rw [show w - n = (w - (n + 1)) + 1 by omega]
        show _ = msk (odC w c) w (w - (n + 1)) ||| 2 ^ odC w c (w - (w - (n + 1) + 1))
        rw [show w - (w - (n + 1) + 1) = n by omega]
        unfold odC odN
        rw [if_pos (by omega), show w - 1 - n = w - (n + 1) by omega]
      rw [em]
      refine ih _ (by omega) (fun j => ?_)
      unfold up
      rw [hf j]
      by_cases e : j = n
      · subst e
        rw [if_pos rfl, if_pos (by omega), show w - 1 - j = w - (j + 1) by omega]
      · rw [if_neg e]
        by_cases e2 : n + 1 ≤ j ∧ j < w
        · rw [if_pos e2, if_pos (by omega)]
        · rw [if_neg e2, if_neg (by omega)]
  refine ev_of (L := [(.ref m), (.int (nI c)), .null, .null, .null]) (by decide) rfl (Nat.le_of_ble_eq_true rfl) ?_
  refine wp_iload_1 d119_0 ?_
  refine wp_istore_2 d119_1 (Nat.le_of_ble_eq_true rfl) rfl ?_
  refine wp_iconst d119_2 ic_0 ?_
  refine wp_istore_3 d119_3 (Nat.le_of_ble_eq_true rfl) rfl ?_
  refine wp_aload_0 d119_4 ?_
  refine wp_getP d119_5 (Nat.le_of_ble_eq_true rfl) kM.1 rfl ?_
  refine wp_iconst d119_8 ic_1 ?_
  refine wp_isub d119_9 ?_
  refine wp_istore_4 d119_10 (Nat.le_of_ble_eq_true rfl) rfl ?_
  have := loop w od (Nat.le_refl _) (fun j => by rw [if_neg (by omega)])
  rw [Nat.sub_self, Nat.pow_zero, Nat.div_one] at this
  exact this
theorem m_setsOut (kM : KM σ m) {stN w : Nat} {ki sr de od nf nl : Nat → Nat} {to : Nat → Option Nat} (h6 : stN ≤ 6) (hw : 1 ≤ w) (hw5 : w ≤ 5) (hf : PF w od) (hk : ∀ v, v < w → ki v < 5) (hs : ∀ v, v < w → sr v < 1000) (hd : ∀ k, k < stN → de k < 100) : Ev 2 0 0 120 [.ref m] (put σ m (m + 1) (mF m pm sta rdm (nI stN) me tr mi slr (nI w) cha bm bc bl bch ask sn ks kw kt km hsh) (mA apg (arr 6 de) afo (arrI 15 (rw3 ki sr to)) ale afi (arr 5 nf) (arr 5 nl) awh (arr 5 od) abo aof ama asd akr akl akf akd ako)) (some (.int (bi (soN w ki de stN 0 od sr).1))) (put σ m (m + 1) (mF m pm sta rdm (nI stN) me tr mi slr (nI w) cha bm bc bl bch ask sn ks kw kt km hsh) (mA apg (arr 6 de) afo (arrI 15 (rw3 ki sr to)) ale afi (arr 5 (soN w ki de stN 0 od sr).2.1) (arr 5 (soN w ki de stN 0 od sr).2.2) awh (arr 5 od) abo aof ama asd akr akl akf akd ako)) := by
  have loop : ∀ (n k : Nat) (f l2 : Nat → Nat), k + n = stN → PF w f → (∀ v, v < w → l2 v < 1000) → WP 2 0 0 120 45 [.ref m, .int (bi true), .int (nI k)] [] (put σ m (m + 1) (mF m pm sta rdm (nI stN) me tr mi slr (nI w) cha bm bc bl bch ask sn ks kw kt km hsh) (mA apg (arr 6 de) afo (arrI 15 (rw3 ki sr to)) ale afi (arr 5 f) (arr 5 l2) awh (arr 5 od) abo aof ama asd akr akl akf akd ako)) (some (.int (bi (soN w ki de n k f l2).1))) (put σ m (m + 1) (mF m pm sta rdm (nI stN) me tr mi slr (nI w) cha bm bc bl bch ask sn ks kw kt km hsh) (mA apg (arr 6 de) afo (arrI 15 (rw3 ki sr to)) ale afi (arr 5 (soN w ki de n k f l2).2.1) (arr 5 (soN w ki de n k f l2).2.2) awh (arr 5 od) abo aof ama asd akr akl akf akd ako)) := by
    intro n
    induction n with
    | zero =>
      intro k f l2 hk' hpf hl2
      refine wp_iload_2 d120_45 ?_
      refine wp_aload_0 d120_46 ?_
      refine wp_getP d120_47 (Nat.le_of_ble_eq_true rfl) kM.1 rfl ?_
      refine wp_icmp_geN d120_50 (by decide) (by omega) (by omega) (fun h50 => ?_) (fun hq => absurd hq (by omega))
      refine wp_iload_1 d120_92 ?_
      exact wp_zret d120_93 rfl (by first | exact nI_01 | exact nI_11 | exact bi_01 _) rfl rfl
    | succ n ih =>
      intro k f l2 hk' hpf hl2
      have hdk := hd k (by omega)
      refine wp_iload_2 d120_45 ?_
      refine wp_aload_0 d120_46 ?_
      refine wp_getP d120_47 (Nat.le_of_ble_eq_true rfl) kM.1 rfl ?_
      refine wp_icmp_geN d120_50 (by decide) (by omega) (by omega) (fun hq => absurd hq (by omega)) (fun h50 => ?_)
      refine wp_iload_1 d120_53 ?_
      refine wp_if_eqB d120_54 (by decide) (fun hq => absurd hq (by decide)) (fun h54 => ?_)
      refine wp_aload_0 d120_57 ?_
      refine wp_aload_0 d120_58 ?_
      refine wp_getP d120_59 (Nat.le_of_ble_eq_true rfl) kM.1 rfl ?_
      refine wp_iload_2 d120_62 ?_
      refine wp_aldP d120_63 (kM.2 _ (Nat.le_of_ble_eq_true rfl)) rfl (by omega) (by decide) ?_
      refine wp_V1r d120_64 kM.1 ((m_canTread kM hw5 hpf.1 hk hl2 hdk)) (Nat.le_of_ble_eq_true rfl) (Nat.le_of_ble_eq_true rfl) ?_
      refine wp_istore_1 d120_67 (Nat.le_of_ble_eq_true rfl) rfl ?_
      refine wp_iload_1 d120_68 ?_
      refine wp_if_eqB d120_69 (by decide) (fun h69 => ?_) (fun h69 => ?_)
      · rw [show soN w ki de (n + 1) k f l2 = (false, f, l2) by simp [soN, h69], h69]
        refine wp_iinc_2 d120_86 (Nat.le_of_ble_eq_true rfl) rfl (inc1 _) ?_
        refine wp_goto d120_89 (by decide) ?_
        refine wp_iload_2 d120_45 ?_
        refine wp_aload_0 d120_46 ?_
        refine wp_getP d120_47 (Nat.le_of_ble_eq_true rfl) kM.1 rfl ?_
        refine wp_icmp_geN d120_50 (by decide) (by omega) (by omega) (fun h50 => ?_) (fun h50 => ?_)
        · refine wp_iload_1 d120_92 ?_
          exact wp_zret d120_93 rfl (by first | exact nI_01 | exact nI_11 | exact bi_01 _) rfl rfl
        · refine wp_iload_1 d120_53 ?_
          refine wp_if_eqB d120_54 (by decide) (fun h54 => ?_) (fun hq => absurd hq (by decide))
          refine wp_iload_1 d120_92 ?_
          exact wp_zret d120_93 rfl (by first | exact nI_01 | exact nI_11 | exact bi_01 _) rfl rfl
      · rw [show soN w ki de (n + 1) k f l2 = soN w ki de n (k + 1) (rot w f) (trS ki f (de k) l2 w) by simp [soN, h69], h69]
        refine wp_aload_0 d120_72 ?_
        refine wp_aload_0 d120_73 ?_
        refine wp_getP d120_74 (Nat.le_of_ble_eq_true rfl) kM.1 rfl ?_
        refine wp_iload_2 d120_77 ?_
        refine wp_aldP d120_78 (kM.2 _ (Nat.le_of_ble_eq_true rfl)) rfl (by omega) (by decide) ?_
        refine wp_V1v d120_79 kM.1 ((m_treads kM hw5 hpf hk h69 hdk)) (Nat.le_of_ble_eq_true rfl) (Nat.le_of_ble_eq_true rfl) ?_
        refine wp_aload_0 d120_82 ?_
        refine wp_V0v d120_83 kM.1 ((m_turns kM hw hw5)) (Nat.le_of_ble_eq_true rfl) (Nat.le_of_ble_eq_true rfl) ?_
        refine wp_iinc_2 d120_86 (Nat.le_of_ble_eq_true rfl) rfl (inc1 _) ?_
        refine wp_goto d120_89 (by decide) ?_
        exact ih (k + 1) _ _ (by omega) (PF_rot hpf) (fun v hv => Nat.lt_of_le_of_lt trS_le (hl2 v hv))
  have lay : ∀ (n k : Nat) (f1 f2 : Nat → Nat), k + n = 5 → (∀ j, j < k → f1 j = od j) → (∀ j, j < k → f2 j = sr j) → WP 2 0 0 120 2 [.ref m, .int (nI k), .null] [] (put σ m (m + 1) (mF m pm sta rdm (nI stN) me tr mi slr (nI w) cha bm bc bl bch ask sn ks kw kt km hsh) (mA apg (arr 6 de) afo (arrI 15 (rw3 ki sr to)) ale afi (arr 5 f1) (arr 5 f2) awh (arr 5 od) abo aof ama asd akr akl akf akd ako)) (some (.int (bi (soN w ki de stN 0 od sr).1))) (put σ m (m + 1) (mF m pm sta rdm (nI stN) me tr mi slr (nI w) cha bm bc bl bch ask sn ks kw kt km hsh) (mA apg (arr 6 de) afo (arrI 15 (rw3 ki sr to)) ale afi (arr 5 (soN w ki de stN 0 od sr).2.1) (arr 5 (soN w ki de stN 0 od sr).2.2) awh (arr 5 od) abo aof ama asd akr akl akf akd ako)) := by
    intro n
    induction n with
    | zero =>
      intro k f1 f2 hk' g1 g2
      rw [arr_ext (f := f1) (g := od) (fun j hj => g1 j (by omega)), arr_ext (f := f2) (g := sr) (fun j hj => g2 j (by omega))]
      refine wp_iload_1 d120_2 ?_
      refine wp_iconst d120_3 ic_5 ?_
      refine wp_icmp_geN d120_4 (by decide) (by omega) (by omega) (fun h4 => ?_) (fun hq => absurd hq (by omega))
      refine wp_iconst d120_41 ic_1 ?_
      refine wp_istore_1 d120_42 (Nat.le_of_ble_eq_true rfl) rfl ?_
      refine wp_iconst d120_43 ic_0 ?_
      refine wp_istore_2 d120_44 (Nat.le_of_ble_eq_true rfl) rfl ?_
      exact loop stN 0 od sr (by omega) hf hs
    | succ n ih =>
      intro k f1 f2 hk' g1 g2
      refine wp_iload_1 d120_2 ?_
      refine wp_iconst d120_3 ic_5 ?_
      refine wp_icmp_geN d120_4 (by decide) (by omega) (by omega) (fun hq => absurd hq (by omega)) (fun h4 => ?_)
      refine wp_aload_0 d120_7 ?_
      refine wp_getP d120_8 (Nat.le_of_ble_eq_true rfl) kM.1 rfl ?_
      refine wp_iload_1 d120_11 ?_
      refine wp_aload_0 d120_12 ?_
      refine wp_getP d120_13 (Nat.le_of_ble_eq_true rfl) kM.1 rfl ?_
      refine wp_iload_1 d120_16 ?_
      refine wp_aldP d120_17 (kM.2 _ (Nat.le_of_ble_eq_true rfl)) rfl (by omega) (by decide) ?_
      refine wp_astN d120_18 (kM.2 _ (Nat.le_of_ble_eq_true rfl)) rfl (by omega) (by decide) ?_
      refine wp_aload_0 d120_19 ?_
      refine wp_getP d120_20 (Nat.le_of_ble_eq_true rfl) kM.1 rfl ?_
      refine wp_iload_1 d120_23 ?_
      refine wp_aload_0 d120_24 ?_
      refine wp_getP d120_25 (Nat.le_of_ble_eq_true rfl) kM.1 rfl ?_
      refine wp_iconst d120_28 ic_3 ?_
      refine wp_iload_1 d120_29 ?_
      refine wp_imulN d120_30 ?_
      refine wp_iconst d120_31 ic_1 ?_
      refine wp_iaddN d120_32 ?_
      refine wp_aldP d120_33 (kM.2 _ (Nat.le_of_ble_eq_true rfl)) rfl (by omega) (by decide) ?_
      rw [rw_1]
      refine wp_astN d120_34 (kM.2 _ (Nat.le_of_ble_eq_true rfl)) rfl (by omega) (by decide) ?_
      refine wp_iinc_1 d120_35 (Nat.le_of_ble_eq_true rfl) rfl (inc1 _) ?_
      refine wp_goto d120_38 (by decide) ?_
      exact ih (k + 1) _ _ (by omega) (fun j hj => by unfold up; grind) (fun j hj => by unfold up; grind)
  refine ev_of (L := [(.ref m), .null, .null]) (by decide) rfl (Nat.le_of_ble_eq_true rfl) ?_
  refine wp_iconst d120_0 ic_0 ?_
  refine wp_istore_1 d120_1 (Nat.le_of_ble_eq_true rfl) rfl ?_
  exact lay 5 0 nf nl rfl (fun j hj => by omega) (fun j hj => by omega)

end S10_mo6b
end
