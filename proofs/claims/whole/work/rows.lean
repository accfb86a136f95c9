section
-- ===== PART A: goes FIRST, ahead of the names: the tables' words, and 'selects' of the private methods out of them =====
/-- a private method of a class that the tables say can be made, by its rows of tables_1 -/
def lw_okq (q : MethodName × Nat) : Prop := (q.1.cls ≠ "java/lang/invoke/MethodHandle" ∧ q.1.cls ≠ "java/lang/invoke/VarHandle") ∧ Cond.instantiable q.1.cls q.2 ∈ tables_1 ∧ Cond.privateMethod q.1 ∈ tables_1 ∧ Cond.instanceMethod q.1 ∈ tables_1
theorem lw_p0 : lw_okq (⟨"TrailBreakers$Trail", "reckonDues", "()Z"⟩, 13) := ⟨⟨by decide +kernel, by decide +kernel⟩, List.mem_of_getElem? (i := 36) (by decide +kernel), List.mem_of_getElem? (i := 366) (by decide +kernel), List.mem_of_getElem? (i := 367) (by decide +kernel)⟩
theorem lw_p1 : lw_okq (⟨"TrailBreakers$Ways", "layOutStretch", "(I)V"⟩, 7) := ⟨⟨by decide +kernel, by decide +kernel⟩, List.mem_of_getElem? (i := 117) (by decide +kernel), List.mem_of_getElem? (i := 421) (by decide +kernel), List.mem_of_getElem? (i := 422) (by decide +kernel)⟩
theorem lw_p2 : lw_okq (⟨"TrailBreakers$BestFirsts", "goOn", "(IIII)V"⟩, 5) := ⟨⟨by decide +kernel, by decide +kernel⟩, List.mem_of_getElem? (i := 111) (by decide +kernel), List.mem_of_getElem? (i := 434) (by decide +kernel), List.mem_of_getElem? (i := 435) (by decide +kernel)⟩
theorem lw_p3 : lw_okq (⟨"TrailBreakers$BestFirsts", "isBeaten", "(II)Z"⟩, 5) := ⟨⟨by decide +kernel, by decide +kernel⟩, List.mem_of_getElem? (i := 111) (by decide +kernel), List.mem_of_getElem? (i := 438) (by decide +kernel), List.mem_of_getElem? (i := 439) (by decide +kernel)⟩
theorem lw_p4 : lw_okq (⟨"TrailBreakers$BestFirsts", "keep", "(II)V"⟩, 5) := ⟨⟨by decide +kernel, by decide +kernel⟩, List.mem_of_getElem? (i := 111) (by decide +kernel), List.mem_of_getElem? (i := 442) (by decide +kernel), List.mem_of_getElem? (i := 443) (by decide +kernel)⟩
theorem lw_p5 : lw_okq (⟨"TrailBreakers$BestFirsts", "step", "(III)V"⟩, 5) := ⟨⟨by decide +kernel, by decide +kernel⟩, List.mem_of_getElem? (i := 111) (by decide +kernel), List.mem_of_getElem? (i := 450) (by decide +kernel), List.mem_of_getElem? (i := 451) (by decide +kernel)⟩
theorem lw_p6 : lw_okq (⟨"TrailBreakers$SettingOut", "fillFrom", "(I)V"⟩, 5) := ⟨⟨by decide +kernel, by decide +kernel⟩, List.mem_of_getElem? (i := 202) (by decide +kernel), List.mem_of_getElem? (i := 473) (by decide +kernel), List.mem_of_getElem? (i := 474) (by decide +kernel)⟩
theorem lw_p7 : lw_okq (⟨"TrailBreakers$SettingOut", "tryFile", "()V"⟩, 5) := ⟨⟨by decide +kernel, by decide +kernel⟩, List.mem_of_getElem? (i := 202) (by decide +kernel), List.mem_of_getElem? (i := 477) (by decide +kernel), List.mem_of_getElem? (i := 478) (by decide +kernel)⟩
theorem lw_p8 : lw_okq (⟨"TrailBreakers$SettingOut", "startAnew", "()V"⟩, 5) := ⟨⟨by decide +kernel, by decide +kernel⟩, List.mem_of_getElem? (i := 202) (by decide +kernel), List.mem_of_getElem? (i := 481) (by decide +kernel), List.mem_of_getElem? (i := 482) (by decide +kernel)⟩
theorem lw_p9 : lw_okq (⟨"TrailBreakers$SettingOut", "step", "(II)V"⟩, 5) := ⟨⟨by decide +kernel, by decide +kernel⟩, List.mem_of_getElem? (i := 202) (by decide +kernel), List.mem_of_getElem? (i := 488) (by decide +kernel), List.mem_of_getElem? (i := 489) (by decide +kernel)⟩
theorem lw_p10 : lw_okq (⟨"TrailBreakers", "mayReadBook", "()Z"⟩, 11) := ⟨⟨by decide +kernel, by decide +kernel⟩, List.mem_of_getElem? (i := 11) (by decide +kernel), List.mem_of_getElem? (i := 500) (by decide +kernel), List.mem_of_getElem? (i := 501) (by decide +kernel)⟩
theorem lw_p11 : lw_okq (⟨"TrailBreakers$BookFirsts", "goOn", "(II)V"⟩, 7) := ⟨⟨by decide +kernel, by decide +kernel⟩, List.mem_of_getElem? (i := 170) (by decide +kernel), List.mem_of_getElem? (i := 509) (by decide +kernel), List.mem_of_getElem? (i := 510) (by decide +kernel)⟩
theorem lw_p12 : lw_okq (⟨"TrailBreakers$BookFirsts", "note", "(I)V"⟩, 7) := ⟨⟨by decide +kernel, by decide +kernel⟩, List.mem_of_getElem? (i := 170) (by decide +kernel), List.mem_of_getElem? (i := 513) (by decide +kernel), List.mem_of_getElem? (i := 514) (by decide +kernel)⟩
theorem lw_p13 : lw_okq (⟨"TrailBreakers$BookFirsts", "step", "(III)V"⟩, 7) := ⟨⟨by decide +kernel, by decide +kernel⟩, List.mem_of_getElem? (i := 170) (by decide +kernel), List.mem_of_getElem? (i := 517) (by decide +kernel), List.mem_of_getElem? (i := 518) (by decide +kernel)⟩
theorem lw_p14 : lw_okq (⟨"TrailBreakers", "spendDays", "(II)I"⟩, 11) := ⟨⟨by decide +kernel, by decide +kernel⟩, List.mem_of_getElem? (i := 11) (by decide +kernel), List.mem_of_getElem? (i := 530) (by decide +kernel), List.mem_of_getElem? (i := 531) (by decide +kernel)⟩
theorem lw_p15 : lw_okq (⟨"TrailBreakersModel", "faultOf", "()I"⟩, 40) := ⟨⟨by decide +kernel, by decide +kernel⟩, List.mem_of_getElem? (i := 572) (by decide +kernel), List.mem_of_getElem? (i := 715) (by decide +kernel), List.mem_of_getElem? (i := 716) (by decide +kernel)⟩
def lw_privs_1 : List (MethodName × Nat) := [(⟨"TrailBreakers$Trail", "reckonDues", "()Z"⟩, 13), (⟨"TrailBreakers$Ways", "layOutStretch", "(I)V"⟩, 7), (⟨"TrailBreakers$BestFirsts", "goOn", "(IIII)V"⟩, 5), (⟨"TrailBreakers$BestFirsts", "isBeaten", "(II)Z"⟩, 5), (⟨"TrailBreakers$BestFirsts", "keep", "(II)V"⟩, 5), (⟨"TrailBreakers$BestFirsts", "step", "(III)V"⟩, 5), (⟨"TrailBreakers$SettingOut", "fillFrom", "(I)V"⟩, 5), (⟨"TrailBreakers$SettingOut", "tryFile", "()V"⟩, 5), (⟨"TrailBreakers$SettingOut", "startAnew", "()V"⟩, 5), (⟨"TrailBreakers$SettingOut", "step", "(II)V"⟩, 5), (⟨"TrailBreakers", "mayReadBook", "()Z"⟩, 11), (⟨"TrailBreakers$BookFirsts", "goOn", "(II)V"⟩, 7), (⟨"TrailBreakers$BookFirsts", "note", "(I)V"⟩, 7), (⟨"TrailBreakers$BookFirsts", "step", "(III)V"⟩, 7), (⟨"TrailBreakers", "spendDays", "(II)I"⟩, 11), (⟨"TrailBreakersModel", "faultOf", "()I"⟩, 40)]
theorem lw_r1 : ∀ q ∈ lw_privs_1, lw_okq q := List.forall_mem_cons.mpr ⟨lw_p0, List.forall_mem_cons.mpr ⟨lw_p1, List.forall_mem_cons.mpr ⟨lw_p2, List.forall_mem_cons.mpr ⟨lw_p3, List.forall_mem_cons.mpr ⟨lw_p4, List.forall_mem_cons.mpr ⟨lw_p5, List.forall_mem_cons.mpr ⟨lw_p6, List.forall_mem_cons.mpr ⟨lw_p7, List.forall_mem_cons.mpr ⟨lw_p8, List.forall_mem_cons.mpr ⟨lw_p9, List.forall_mem_cons.mpr ⟨lw_p10, List.forall_mem_cons.mpr ⟨lw_p11, List.forall_mem_cons.mpr ⟨lw_p12, List.forall_mem_cons.mpr ⟨lw_p13, List.forall_mem_cons.mpr ⟨lw_p14, List.forall_mem_cons.mpr ⟨lw_p15, fun _ h => absurd h List.not_mem_nil⟩⟩⟩⟩⟩⟩⟩⟩⟩⟩⟩⟩⟩⟩⟩⟩
theorem lw_p16 : lw_okq (⟨"TrailBreakersModel", "go", "(I)Z"⟩, 40) := ⟨⟨by decide +kernel, by decide +kernel⟩, List.mem_of_getElem? (i := 572) (by decide +kernel), List.mem_of_getElem? (i := 719) (by decide +kernel), List.mem_of_getElem? (i := 720) (by decide +kernel)⟩
theorem lw_p17 : lw_okq (⟨"TrailBreakersModel", "isStretch", "(I)Z"⟩, 40) := ⟨⟨by decide +kernel, by decide +kernel⟩, List.mem_of_getElem? (i := 572) (by decide +kernel), List.mem_of_getElem? (i := 736) (by decide +kernel), List.mem_of_getElem? (i := 737) (by decide +kernel)⟩
theorem lw_p18 : lw_okq (⟨"TrailBreakersModel", "lacks", "()Z"⟩, 40) := ⟨⟨by decide +kernel, by decide +kernel⟩, List.mem_of_getElem? (i := 572) (by decide +kernel), List.mem_of_getElem? (i := 746) (by decide +kernel), List.mem_of_getElem? (i := 747) (by decide +kernel)⟩
theorem lw_p19 : lw_okq (⟨"TrailBreakersModel", "isWalker", "(I)Z"⟩, 40) := ⟨⟨by decide +kernel, by decide +kernel⟩, List.mem_of_getElem? (i := 572) (by decide +kernel), List.mem_of_getElem? (i := 754) (by decide +kernel), List.mem_of_getElem? (i := 755) (by decide +kernel)⟩
theorem lw_p20 : lw_okq (⟨"TrailBreakersModel", "tells", "(II)I"⟩, 40) := ⟨⟨by decide +kernel, by decide +kernel⟩, List.mem_of_getElem? (i := 572) (by decide +kernel), List.mem_of_getElem? (i := 758) (by decide +kernel), List.mem_of_getElem? (i := 759) (by decide +kernel)⟩
theorem lw_p21 : lw_okq (⟨"TrailBreakersModel", "placeOf", "(I)I"⟩, 40) := ⟨⟨by decide +kernel, by decide +kernel⟩, List.mem_of_getElem? (i := 572) (by decide +kernel), List.mem_of_getElem? (i := 762) (by decide +kernel), List.mem_of_getElem? (i := 763) (by decide +kernel)⟩
theorem lw_p22 : lw_okq (⟨"TrailBreakersModel", "firstsOf", "(I)I"⟩, 40) := ⟨⟨by decide +kernel, by decide +kernel⟩, List.mem_of_getElem? (i := 572) (by decide +kernel), List.mem_of_getElem? (i := 766) (by decide +kernel), List.mem_of_getElem? (i := 767) (by decide +kernel)⟩
theorem lw_p23 : lw_okq (⟨"TrailBreakersModel", "paysAt", "([III)I"⟩, 40) := ⟨⟨by decide +kernel, by decide +kernel⟩, List.mem_of_getElem? (i := 572) (by decide +kernel), List.mem_of_getElem? (i := 770) (by decide +kernel), List.mem_of_getElem? (i := 771) (by decide +kernel)⟩
theorem lw_p24 : lw_okq (⟨"TrailBreakersModel", "asItIs", "()V"⟩, 40) := ⟨⟨by decide +kernel, by decide +kernel⟩, List.mem_of_getElem? (i := 572) (by decide +kernel), List.mem_of_getElem? (i := 782) (by decide +kernel), List.mem_of_getElem? (i := 783) (by decide +kernel)⟩
theorem lw_p25 : lw_okq (⟨"TrailBreakersModel", "canTread", "(I)Z"⟩, 40) := ⟨⟨by decide +kernel, by decide +kernel⟩, List.mem_of_getElem? (i := 572) (by decide +kernel), List.mem_of_getElem? (i := 786) (by decide +kernel), List.mem_of_getElem? (i := 787) (by decide +kernel)⟩
theorem lw_p26 : lw_okq (⟨"TrailBreakersModel", "treads", "(I)V"⟩, 40) := ⟨⟨by decide +kernel, by decide +kernel⟩, List.mem_of_getElem? (i := 572) (by decide +kernel), List.mem_of_getElem? (i := 790) (by decide +kernel), List.mem_of_getElem? (i := 791) (by decide +kernel)⟩
theorem lw_p27 : lw_okq (⟨"TrailBreakersModel", "layNow", "()V"⟩, 40) := ⟨⟨by decide +kernel, by decide +kernel⟩, List.mem_of_getElem? (i := 572) (by decide +kernel), List.mem_of_getElem? (i := 794) (by decide +kernel), List.mem_of_getElem? (i := 795) (by decide +kernel)⟩
theorem lw_p28 : lw_okq (⟨"TrailBreakersModel", "turns", "()V"⟩, 40) := ⟨⟨by decide +kernel, by decide +kernel⟩, List.mem_of_getElem? (i := 572) (by decide +kernel), List.mem_of_getElem? (i := 802) (by decide +kernel), List.mem_of_getElem? (i := 803) (by decide +kernel)⟩
theorem lw_p29 : lw_okq (⟨"TrailBreakersModel", "restsNow", "()I"⟩, 40) := ⟨⟨by decide +kernel, by decide +kernel⟩, List.mem_of_getElem? (i := 572) (by decide +kernel), List.mem_of_getElem? (i := 810) (by decide +kernel), List.mem_of_getElem? (i := 811) (by decide +kernel)⟩
theorem lw_p30 : lw_okq (⟨"TrailBreakersModel", "depthsLeft", "()I"⟩, 40) := ⟨⟨by decide +kernel, by decide +kernel⟩, List.mem_of_getElem? (i := 572) (by decide +kernel), List.mem_of_getElem? (i := 819) (by decide +kernel), List.mem_of_getElem? (i := 820) (by decide +kernel)⟩
theorem lw_p31 : lw_okq (⟨"TrailBreakersModel", "tellBest", "(I)I"⟩, 40) := ⟨⟨by decide +kernel, by decide +kernel⟩, List.mem_of_getElem? (i := 572) (by decide +kernel), List.mem_of_getElem? (i := 833) (by decide +kernel), List.mem_of_getElem? (i := 834) (by decide +kernel)⟩
def lw_privs_2 : List (MethodName × Nat) := [(⟨"TrailBreakersModel", "go", "(I)Z"⟩, 40), (⟨"TrailBreakersModel", "isStretch", "(I)Z"⟩, 40), (⟨"TrailBreakersModel", "lacks", "()Z"⟩, 40), (⟨"TrailBreakersModel", "isWalker", "(I)Z"⟩, 40), (⟨"TrailBreakersModel", "tells", "(II)I"⟩, 40), (⟨"TrailBreakersModel", "placeOf", "(I)I"⟩, 40), (⟨"TrailBreakersModel", "firstsOf", "(I)I"⟩, 40), (⟨"TrailBreakersModel", "paysAt", "([III)I"⟩, 40), (⟨"TrailBreakersModel", "asItIs", "()V"⟩, 40), (⟨"TrailBreakersModel", "canTread", "(I)Z"⟩, 40), (⟨"TrailBreakersModel", "treads", "(I)V"⟩, 40), (⟨"TrailBreakersModel", "layNow", "()V"⟩, 40), (⟨"TrailBreakersModel", "turns", "()V"⟩, 40), (⟨"TrailBreakersModel", "restsNow", "()I"⟩, 40), (⟨"TrailBreakersModel", "depthsLeft", "()I"⟩, 40), (⟨"TrailBreakersModel", "tellBest", "(I)I"⟩, 40)]
theorem lw_r2 : ∀ q ∈ lw_privs_2, lw_okq q := List.forall_mem_cons.mpr ⟨lw_p16, List.forall_mem_cons.mpr ⟨lw_p17, List.forall_mem_cons.mpr ⟨lw_p18, List.forall_mem_cons.mpr ⟨lw_p19, List.forall_mem_cons.mpr ⟨lw_p20, List.forall_mem_cons.mpr ⟨lw_p21, List.forall_mem_cons.mpr ⟨lw_p22, List.forall_mem_cons.mpr ⟨lw_p23, List.forall_mem_cons.mpr ⟨lw_p24, List.forall_mem_cons.mpr ⟨lw_p25, List.forall_mem_cons.mpr ⟨lw_p26, List.forall_mem_cons.mpr ⟨lw_p27, List.forall_mem_cons.mpr ⟨lw_p28, List.forall_mem_cons.mpr ⟨lw_p29, List.forall_mem_cons.mpr ⟨lw_p30, List.forall_mem_cons.mpr ⟨lw_p31, fun _ h => absurd h List.not_mem_nil⟩⟩⟩⟩⟩⟩⟩⟩⟩⟩⟩⟩⟩⟩⟩⟩
theorem lw_p32 : lw_okq (⟨"TrailBreakersModel", "layBest", "()V"⟩, 40) := ⟨⟨by decide +kernel, by decide +kernel⟩, List.mem_of_getElem? (i := 572) (by decide +kernel), List.mem_of_getElem? (i := 837) (by decide +kernel), List.mem_of_getElem? (i := 838) (by decide +kernel)⟩
theorem lw_p33 : lw_okq (⟨"TrailBreakersModel", "ways", "()I"⟩, 40) := ⟨⟨by decide +kernel, by decide +kernel⟩, List.mem_of_getElem? (i := 572) (by decide +kernel), List.mem_of_getElem? (i := 841) (by decide +kernel), List.mem_of_getElem? (i := 842) (by decide +kernel)⟩
theorem lw_p34 : lw_okq (⟨"TrailBreakersModel", "layWho", "(I)V"⟩, 40) := ⟨⟨by decide +kernel, by decide +kernel⟩, List.mem_of_getElem? (i := 572) (by decide +kernel), List.mem_of_getElem? (i := 845) (by decide +kernel), List.mem_of_getElem? (i := 846) (by decide +kernel)⟩
theorem lw_p35 : lw_okq (⟨"TrailBreakersModel", "goesBy", "()Z"⟩, 40) := ⟨⟨by decide +kernel, by decide +kernel⟩, List.mem_of_getElem? (i := 572) (by decide +kernel), List.mem_of_getElem? (i := 849) (by decide +kernel), List.mem_of_getElem? (i := 850) (by decide +kernel)⟩
theorem lw_p36 : lw_okq (⟨"TrailBreakersModel", "leastLeft", "()I"⟩, 40) := ⟨⟨by decide +kernel, by decide +kernel⟩, List.mem_of_getElem? (i := 572) (by decide +kernel), List.mem_of_getElem? (i := 853) (by decide +kernel), List.mem_of_getElem? (i := 854) (by decide +kernel)⟩
theorem lw_p37 : lw_okq (⟨"TrailBreakersModel", "farOf", "(I)I"⟩, 40) := ⟨⟨by decide +kernel, by decide +kernel⟩, List.mem_of_getElem? (i := 572) (by decide +kernel), List.mem_of_getElem? (i := 862) (by decide +kernel), List.mem_of_getElem? (i := 863) (by decide +kernel)⟩
theorem lw_p38 : lw_okq (⟨"TrailBreakersModel", "setOutLeft", "()I"⟩, 40) := ⟨⟨by decide +kernel, by decide +kernel⟩, List.mem_of_getElem? (i := 572) (by decide +kernel), List.mem_of_getElem? (i := 871) (by decide +kernel), List.mem_of_getElem? (i := 872) (by decide +kernel)⟩
theorem lw_p39 : lw_okq (⟨"TrailBreakersModel", "isOrder", "(I)Z"⟩, 40) := ⟨⟨by decide +kernel, by decide +kernel⟩, List.mem_of_getElem? (i := 572) (by decide +kernel), List.mem_of_getElem? (i := 875) (by decide +kernel), List.mem_of_getElem? (i := 876) (by decide +kernel)⟩
theorem lw_p40 : lw_okq (⟨"TrailBreakersModel", "setsOut", "()Z"⟩, 40) := ⟨⟨by decide +kernel, by decide +kernel⟩, List.mem_of_getElem? (i := 572) (by decide +kernel), List.mem_of_getElem? (i := 879) (by decide +kernel), List.mem_of_getElem? (i := 880) (by decide +kernel)⟩
theorem lw_p41 : lw_okq (⟨"TrailBreakersModel", "layFits", "()I"⟩, 40) := ⟨⟨by decide +kernel, by decide +kernel⟩, List.mem_of_getElem? (i := 572) (by decide +kernel), List.mem_of_getElem? (i := 895) (by decide +kernel), List.mem_of_getElem? (i := 896) (by decide +kernel)⟩
theorem lw_p42 : lw_okq (⟨"TrailBreakersModel", "isBooked", "()Z"⟩, 40) := ⟨⟨by decide +kernel, by decide +kernel⟩, List.mem_of_getElem? (i := 572) (by decide +kernel), List.mem_of_getElem? (i := 899) (by decide +kernel), List.mem_of_getElem? (i := 900) (by decide +kernel)⟩
theorem lw_p43 : lw_okq (⟨"TrailBreakersModel", "draw", "(I)I"⟩, 40) := ⟨⟨by decide +kernel, by decide +kernel⟩, List.mem_of_getElem? (i := 572) (by decide +kernel), List.mem_of_getElem? (i := 913) (by decide +kernel), List.mem_of_getElem? (i := 914) (by decide +kernel)⟩
theorem lw_p44 : lw_okq (⟨"TrailBreakersModel", "countOf", "(I)I"⟩, 40) := ⟨⟨by decide +kernel, by decide +kernel⟩, List.mem_of_getElem? (i := 572) (by decide +kernel), List.mem_of_getElem? (i := 933) (by decide +kernel), List.mem_of_getElem? (i := 934) (by decide +kernel)⟩
theorem lw_p45 : lw_okq (⟨"TrailBreakersModel", "say", "(J)V"⟩, 40) := ⟨⟨by decide +kernel, by decide +kernel⟩, List.mem_of_getElem? (i := 572) (by decide +kernel), List.mem_of_getElem? (i := 942) (by decide +kernel), List.mem_of_getElem? (i := 943) (by decide +kernel)⟩
def lw_privs_3 : List (MethodName × Nat) := [(⟨"TrailBreakersModel", "layBest", "()V"⟩, 40), (⟨"TrailBreakersModel", "ways", "()I"⟩, 40), (⟨"TrailBreakersModel", "layWho", "(I)V"⟩, 40), (⟨"TrailBreakersModel", "goesBy", "()Z"⟩, 40), (⟨"TrailBreakersModel", "leastLeft", "()I"⟩, 40), (⟨"TrailBreakersModel", "farOf", "(I)I"⟩, 40), (⟨"TrailBreakersModel", "setOutLeft", "()I"⟩, 40), (⟨"TrailBreakersModel", "isOrder", "(I)Z"⟩, 40), (⟨"TrailBreakersModel", "setsOut", "()Z"⟩, 40), (⟨"TrailBreakersModel", "layFits", "()I"⟩, 40), (⟨"TrailBreakersModel", "isBooked", "()Z"⟩, 40), (⟨"TrailBreakersModel", "draw", "(I)I"⟩, 40), (⟨"TrailBreakersModel", "countOf", "(I)I"⟩, 40), (⟨"TrailBreakersModel", "say", "(J)V"⟩, 40)]
theorem lw_r3 : ∀ q ∈ lw_privs_3, lw_okq q := List.forall_mem_cons.mpr ⟨lw_p32, List.forall_mem_cons.mpr ⟨lw_p33, List.forall_mem_cons.mpr ⟨lw_p34, List.forall_mem_cons.mpr ⟨lw_p35, List.forall_mem_cons.mpr ⟨lw_p36, List.forall_mem_cons.mpr ⟨lw_p37, List.forall_mem_cons.mpr ⟨lw_p38, List.forall_mem_cons.mpr ⟨lw_p39, List.forall_mem_cons.mpr ⟨lw_p40, List.forall_mem_cons.mpr ⟨lw_p41, List.forall_mem_cons.mpr ⟨lw_p42, List.forall_mem_cons.mpr ⟨lw_p43, List.forall_mem_cons.mpr ⟨lw_p44, List.forall_mem_cons.mpr ⟨lw_p45, fun _ h => absurd h List.not_mem_nil⟩⟩⟩⟩⟩⟩⟩⟩⟩⟩⟩⟩⟩⟩
def lw_privs : List (MethodName × Nat) := lw_privs_1 ++ (lw_privs_2 ++ (lw_privs_3))
def lw_tbl : List Cond := k2_sels lw_privs ++ tables_1
theorem lw_privs_ok : ∀ q ∈ lw_privs, lw_okq q := by
  show ∀ q ∈ lw_privs_1 ++ (lw_privs_2 ++ (lw_privs_3)), lw_okq q
  exact List.forall_mem_append.mpr ⟨lw_r1, List.forall_mem_append.mpr ⟨lw_r2, lw_r3⟩⟩
-- ===== end of PART A; then your names; then what follows =====

/-! the tables: classes, fields, methods, what an instruction names, by numbers -/
def RRs : List String := ["TrailBreakers$BestFirsts", "TrailBreakers$BookFirsts", "TrailBreakers$Page", "TrailBreakers$SettingOut", "TrailBreakers$Trail", "TrailBreakers$Ways", "TrailBreakers", "TrailBreakersModel", "TrailBreakersLaw"]
def RR (k : Nat) : String := RRs.getD k ""
def fts : List (List (String × String × String × Bool)) := [[("TrailBreakers$BestFirsts", "ways", "LTrailBreakers$Ways;", true), ("TrailBreakers$BestFirsts", "tried", "[I", true), ("TrailBreakers$BestFirsts", "firsts", "[I", true), ("TrailBreakers$BestFirsts", "least", "I", false), ("TrailBreakers$BestFirsts", "changes", "I", false)], [("TrailBreakers$BookFirsts", "ways", "LTrailBreakers$Ways;", true), ("TrailBreakers$BookFirsts", "told", "[I", true), ("TrailBreakers$BookFirsts", "often", "[I", true), ("TrailBreakers$BookFirsts", "tried", "[I", true), ("TrailBreakers$BookFirsts", "owed", "I", false), ("TrailBreakers$BookFirsts", "found", "I", false), ("TrailBreakers$BookFirsts", "agreed", "I", false)], [("TrailBreakers$Page", "codes", "[I", true), ("TrailBreakers$Page", "size", "I", false)], [("TrailBreakers$SettingOut", "trial", "LTrailBreakers$Trail;", true), ("TrailBreakers$SettingOut", "placed", "[Z", true), ("TrailBreakers$SettingOut", "tried", "[I", true), ("TrailBreakers$SettingOut", "file", "[I", true), ("TrailBreakers$SettingOut", "least", "I", false)], [("TrailBreakers$Trail", "stretches", "I", false), ("TrailBreakers$Trail", "melt", "I", false), ("TrailBreakers$Trail", "trodden", "I", false), ("TrailBreakers$Trail", "walkers", "I", false), ("TrailBreakers$Trail", "minutes", "I", false), ("TrailBreakers$Trail", "depth", "[I", true), ("TrailBreakers$Trail", "firstOn", "[I", true), ("TrailBreakers$Trail", "kind", "[I", true), ("TrailBreakers$Trail", "strength", "[I", true), ("TrailBreakers$Trail", "left", "[I", true), ("TrailBreakers$Trail", "told", "[I", true), ("TrailBreakers$Trail", "file", "[I", true), ("TrailBreakers$Trail", "dues", "[I", true)], [("TrailBreakers$Ways", "turned", "LTrailBreakers$Trail;", true), ("TrailBreakers$Ways", "pays", "[I", true), ("TrailBreakers$Ways", "leftAhead", "[I", true), ("TrailBreakers$Ways", "place", "[I", true), ("TrailBreakers$Ways", "walkers", "I", false), ("TrailBreakers$Ways", "from", "I", false), ("TrailBreakers$Ways", "stretches", "I", false)], [("TrailBreakers", "page", "LTrailBreakers$Page;", true), ("TrailBreakers", "now", "LTrailBreakers$Trail;", true), ("TrailBreakers", "kept", "LTrailBreakers$Trail;", true), ("TrailBreakers", "trial", "LTrailBreakers$Trail;", true), ("TrailBreakers", "bestFirsts", "LTrailBreakers$BestFirsts;", true), ("TrailBreakers", "bookFirsts", "LTrailBreakers$BookFirsts;", true), ("TrailBreakers", "settingOut", "LTrailBreakers$SettingOut;", true), ("TrailBreakers", "imageStands", "Z", false), ("TrailBreakers", "slopesRead", "I", false), ("TrailBreakers", "bestDone", "I", false), ("TrailBreakers", "fitsDone", "I", false)], [("TrailBreakersModel", "page", "[I", true), ("TrailBreakersModel", "pageMany", "I", false), ("TrailBreakersModel", "state", "I", false), ("TrailBreakersModel", "readMany", "I", false), ("TrailBreakersModel", "stretches", "I", false), ("TrailBreakersModel", "melt", "I", false), ("TrailBreakersModel", "trodden", "I", false), ("TrailBreakersModel", "minutes", "I", false), ("TrailBreakersModel", "slopesRead", "I", false), ("TrailBreakersModel", "depths", "[I", true), ("TrailBreakersModel", "firsts", "[I", true), ("TrailBreakersModel", "walkers", "I", false), ("TrailBreakersModel", "rows", "[I", true), ("TrailBreakersModel", "left", "[I", true), ("TrailBreakersModel", "file", "[I", true), ("TrailBreakersModel", "nowFile", "[I", true), ("TrailBreakersModel", "nowLeft", "[I", true), ("TrailBreakersModel", "who", "[I", true), ("TrailBreakersModel", "changes", "I", false), ("TrailBreakersModel", "bestMany", "I", false), ("TrailBreakersModel", "bestCode", "I", false), ("TrailBreakersModel", "bestLeft", "I", false), ("TrailBreakersModel", "bestChanges", "I", false), ("TrailBreakersModel", "order", "[I", true), ("TrailBreakersModel", "bestOrder", "[I", true), ("TrailBreakersModel", "asked", "I", false), ("TrailBreakersModel", "often", "[I", true), ("TrailBreakersModel", "may", "[I", true), ("TrailBreakersModel", "seedNow", "I", false), ("TrailBreakersModel", "savedDepths", "[I", true), ("TrailBreakersModel", "keptSlope", "I", false), ("TrailBreakersModel", "keptWalkers", "I", false), ("TrailBreakersModel", "keptTrodden", "I", false), ("TrailBreakersModel", "keptMinutes", "I", false), ("TrailBreakersModel", "keptRows", "[I", true), ("TrailBreakersModel", "keptLeft", "[I", true), ("TrailBreakersModel", "keptFile", "[I", true), ("TrailBreakersModel", "keptDepths", "[I", true), ("TrailBreakersModel", "keptFirsts", "[I", true), ("TrailBreakersModel", "hash", "J", false)]]
def TT (c : Nat) : u_T := fun k => (fts.getD c []).getD k ("", "", "", false)
def NNs : List Nat := [5, 7, 2, 5, 13, 7, 11, 40]
def NN (c : Nat) : Nat := NNs.getD c 0
def tys : List (List FieldType) := [[.object "TrailBreakers$Ways", .array .int, .array .int, .int, .int], [.object "TrailBreakers$Ways", .array .int, .array .int, .array .int, .int, .int, .int], [.array .int, .int], [.object "TrailBreakers$Trail", .array .boolean, .array .int, .array .int, .int], [.int, .int, .int, .int, .int, .array .int, .array .int, .array .int, .array .int, .array .int, .array .int, .array .int, .array .int], [.object "TrailBreakers$Trail", .array .int, .array .int, .array .int, .int, .int, .int], [.object "TrailBreakers$Page", .object "TrailBreakers$Trail", .object "TrailBreakers$Trail", .object "TrailBreakers$Trail", .object "TrailBreakers$BestFirsts", .object "TrailBreakers$BookFirsts", .object "TrailBreakers$SettingOut", .boolean, .int, .int, .int], [.array .int, .int, .int, .int, .int, .int, .int, .int, .int, .array .int, .array .int, .int, .array .int, .array .int, .array .int, .array .int, .array .int, .array .int, .int, .int, .int, .int, .int, .array .int, .array .int, .int, .array .int, .array .int, .int, .array .int, .int, .int, .int, .int, .array .int, .array .int, .array .int, .array .int, .array .int, .long]]
def TY (c : Nat) : Nat → FieldType := fun k => (tys.getD c []).getD k .int
def clss : List vw_C := (List.range 8).map fun c => (RR c, TT c, NN c)
def yys : List MethodName := [⟨"TrailBreakers$BestFirsts", "<init>", "()V"⟩, ⟨"TrailBreakers$BestFirsts", "search", "(LTrailBreakers$Trail;)V"⟩, ⟨"TrailBreakers$BestFirsts", "goOn", "(IIII)V"⟩, ⟨"TrailBreakers$BestFirsts", "step", "(III)V"⟩, ⟨"TrailBreakers$BestFirsts", "isBeaten", "(II)Z"⟩, ⟨"TrailBreakers$BestFirsts", "keep", "(II)V"⟩, ⟨"TrailBreakers$BookFirsts", "<init>", "()V"⟩, ⟨"TrailBreakers$BookFirsts", "search", "(LTrailBreakers$Trail;I)V"⟩, ⟨"TrailBreakers$BookFirsts", "goOn", "(II)V"⟩, ⟨"TrailBreakers$BookFirsts", "step", "(III)V"⟩, ⟨"TrailBreakers$BookFirsts", "note", "(I)V"⟩, ⟨"TrailBreakers$Page", "<init>", "()V"⟩, ⟨"TrailBreakers$Page", "append", "(I)V"⟩, ⟨"TrailBreakers$Page", "firstWrongPlace", "()I"⟩, ⟨"TrailBreakers$Page", "placesForDigits", "(I)I"⟩, ⟨"TrailBreakers$Page", "isSlope", "()Z"⟩, ⟨"TrailBreakers$Page", "digitAt", "(I)I"⟩, ⟨"TrailBreakers$SettingOut", "<init>", "()V"⟩, ⟨"TrailBreakers$SettingOut", "search", "(LTrailBreakers$Trail;)V"⟩, ⟨"TrailBreakers$SettingOut", "fillFrom", "(I)V"⟩, ⟨"TrailBreakers$SettingOut", "step", "(II)V"⟩, ⟨"TrailBreakers$SettingOut", "tryFile", "()V"⟩, ⟨"TrailBreakers$SettingOut", "startAnew", "()V"⟩, ⟨"TrailBreakers$Trail", "<init>", "()V"⟩, ⟨"TrailBreakers$Trail", "begin", "(LTrailBreakers$Page;)V"⟩, ⟨"TrailBreakers$Trail", "copyFrom", "(LTrailBreakers$Trail;)V"⟩, ⟨"TrailBreakers$Trail", "hasStretch", "(I)Z"⟩, ⟨"TrailBreakers$Trail", "hasWalker", "(I)Z"⟩, ⟨"TrailBreakers$Trail", "join", "(II)I"⟩, ⟨"TrailBreakers$Trail", "isOfKind", "(II)Z"⟩, ⟨"TrailBreakers$Trail", "placeOf", "(I)I"⟩, ⟨"TrailBreakers$Trail", "timesFirst", "(I)I"⟩, ⟨"TrailBreakers$Trail", "nextPay", "(I)I"⟩, ⟨"TrailBreakers$Trail", "payAt", "(II)I"⟩, ⟨"TrailBreakers$Trail", "treadNext", "()Z"⟩, ⟨"TrailBreakers$Trail", "reckonDues", "()Z"⟩, ⟨"TrailBreakers$Trail", "changeFirst", "()V"⟩, ⟨"TrailBreakers$Trail", "restAll", "()I"⟩, ⟨"TrailBreakers$Trail", "deepenBy", "(I)V"⟩, ⟨"TrailBreakers$Trail", "depthAhead", "()I"⟩, ⟨"TrailBreakers$Trail", "leftOfAll", "()I"⟩, ⟨"TrailBreakers$Trail", "leastLeft", "()I"⟩, ⟨"TrailBreakers$Trail", "toldOf", "()I"⟩, ⟨"TrailBreakers$Ways", "<init>", "()V"⟩, ⟨"TrailBreakers$Ways", "layOut", "(LTrailBreakers$Trail;)V"⟩, ⟨"TrailBreakers$Ways", "layOutStretch", "(I)V"⟩, ⟨"TrailBreakers$Ways", "rowOfPays", "(II)I"⟩, ⟨"TrailBreakers$Ways", "leastBehind", "(II)I"⟩, ⟨"TrailBreakers$Ways", "changesFrom", "(II)I"⟩, ⟨"TrailBreakers", "<init>", "()V"⟩, ⟨"TrailBreakers", "letter", "(I)I"⟩, ⟨"TrailBreakers", "blank", "()I"⟩, ⟨"TrailBreakers", "fault", "()I"⟩, ⟨"TrailBreakers", "slope", "()I"⟩, ⟨"TrailBreakers", "stretch", "(II)I"⟩, ⟨"TrailBreakers", "walker", "(II)I"⟩, ⟨"TrailBreakers", "about", "(II)I"⟩, ⟨"TrailBreakers", "as", "(II)I"⟩, ⟨"TrailBreakers", "tread", "()I"⟩, ⟨"TrailBreakers", "change", "()I"⟩, ⟨"TrailBreakers", "rest", "()I"⟩, ⟨"TrailBreakers", "snow", "(I)I"⟩, ⟨"TrailBreakers", "sun", "()I"⟩, ⟨"TrailBreakers", "best", "(I)I"⟩, ⟨"TrailBreakers", "far", "(I)I"⟩, ⟨"TrailBreakers", "setOut", "(I)I"⟩, ⟨"TrailBreakers", "tell", "(II)I"⟩, ⟨"TrailBreakers", "fits", "()I"⟩, ⟨"TrailBreakers", "sure", "(I)I"⟩, ⟨"TrailBreakers", "days", "(III)I"⟩, ⟨"TrailBreakers", "image", "()I"⟩, ⟨"TrailBreakers", "restore", "()I"⟩, ⟨"TrailBreakers", "count", "(I)I"⟩, ⟨"TrailBreakers", "digest", "()J"⟩, ⟨"TrailBreakers", "isKind", "(I)Z"⟩, ⟨"TrailBreakers", "mayReadBook", "()Z"⟩, ⟨"TrailBreakers", "spendDays", "(II)I"⟩, ⟨"TrailBreakers", "nextSeed", "(I)I"⟩, ⟨"TrailBreakersModel", "<init>", "()V"⟩, ⟨"TrailBreakersModel", "in", "(JJJ)Z"⟩, ⟨"TrailBreakersModel", "letter", "(I)I"⟩, ⟨"TrailBreakersModel", "blank", "()I"⟩, ⟨"TrailBreakersModel", "isDigit", "(I)Z"⟩, ⟨"TrailBreakersModel", "go", "(I)Z"⟩, ⟨"TrailBreakersModel", "faultOf", "()I"⟩, ⟨"TrailBreakersModel", "fault", "()I"⟩, ⟨"TrailBreakersModel", "slope", "()I"⟩, ⟨"TrailBreakersModel", "lacks", "()Z"⟩, ⟨"TrailBreakersModel", "isStretch", "(I)Z"⟩, ⟨"TrailBreakersModel", "stretch", "(II)I"⟩, ⟨"TrailBreakersModel", "isWalker", "(I)Z"⟩, ⟨"TrailBreakersModel", "walker", "(II)I"⟩, ⟨"TrailBreakersModel", "paysAt", "([III)I"⟩, ⟨"TrailBreakersModel", "placeOf", "(I)I"⟩, ⟨"TrailBreakersModel", "firstsOf", "(I)I"⟩, ⟨"TrailBreakersModel", "tells", "(II)I"⟩, ⟨"TrailBreakersModel", "about", "(II)I"⟩, ⟨"TrailBreakersModel", "as", "(II)I"⟩, ⟨"TrailBreakersModel", "asItIs", "()V"⟩, ⟨"TrailBreakersModel", "layNow", "()V"⟩, ⟨"TrailBreakersModel", "turns", "()V"⟩, ⟨"TrailBreakersModel", "canTread", "(I)Z"⟩, ⟨"TrailBreakersModel", "treads", "(I)V"⟩, ⟨"TrailBreakersModel", "leastLeft", "()I"⟩, ⟨"TrailBreakersModel", "tread", "()I"⟩, ⟨"TrailBreakersModel", "change", "()I"⟩, ⟨"TrailBreakersModel", "restsNow", "()I"⟩, ⟨"TrailBreakersModel", "rest", "()I"⟩, ⟨"TrailBreakersModel", "depthsLeft", "()I"⟩, ⟨"TrailBreakersModel", "snow", "(I)I"⟩, ⟨"TrailBreakersModel", "sun", "()I"⟩, ⟨"TrailBreakersModel", "ways", "()I"⟩, ⟨"TrailBreakersModel", "layWho", "(I)V"⟩, ⟨"TrailBreakersModel", "goesBy", "()Z"⟩, ⟨"TrailBreakersModel", "layBest", "()V"⟩, ⟨"TrailBreakersModel", "tellBest", "(I)I"⟩, ⟨"TrailBreakersModel", "best", "(I)I"⟩, ⟨"TrailBreakersModel", "farOf", "(I)I"⟩, ⟨"TrailBreakersModel", "far", "(I)I"⟩, ⟨"TrailBreakersModel", "isOrder", "(I)Z"⟩, ⟨"TrailBreakersModel", "setsOut", "()Z"⟩, ⟨"TrailBreakersModel", "setOutLeft", "()I"⟩, ⟨"TrailBreakersModel", "setOut", "(I)I"⟩, ⟨"TrailBreakersModel", "tell", "(II)I"⟩, ⟨"TrailBreakersModel", "isBooked", "()Z"⟩, ⟨"TrailBreakersModel", "layFits", "()I"⟩, ⟨"TrailBreakersModel", "fits", "()I"⟩, ⟨"TrailBreakersModel", "sure", "(I)I"⟩, ⟨"TrailBreakersModel", "draw", "(I)I"⟩, ⟨"TrailBreakersModel", "copy", "([I[I)V"⟩, ⟨"TrailBreakersModel", "days", "(III)I"⟩, ⟨"TrailBreakersModel", "image", "()I"⟩, ⟨"TrailBreakersModel", "restore", "()I"⟩, ⟨"TrailBreakersModel", "countOf", "(I)I"⟩, ⟨"TrailBreakersModel", "count", "(I)I"⟩, ⟨"TrailBreakersModel", "say", "(J)V"⟩, ⟨"TrailBreakersModel", "digest", "()J"⟩, ⟨"TrailBreakersLaw", "law", "([I)Z"⟩]
def yy (m : Nat) : MethodName := yys.getD m ⟨"", "", ""⟩
def cbs : List ByteArray := [prog_2_method_1_code, prog_2_method_2_code, prog_2_method_3_code, prog_2_method_4_code, prog_2_method_5_code, prog_2_method_6_code, prog_3_method_1_code, prog_3_method_2_code, prog_3_method_3_code, prog_3_method_4_code, prog_3_method_5_code, prog_4_method_1_code, prog_4_method_2_code, prog_4_method_3_code, prog_4_method_4_code, prog_4_method_5_code, prog_4_method_6_code, prog_5_method_1_code, prog_5_method_2_code, prog_5_method_3_code, prog_5_method_4_code, prog_5_method_5_code, prog_5_method_6_code, prog_6_method_1_code, prog_6_method_2_code, prog_6_method_3_code, prog_6_method_4_code, prog_6_method_5_code, prog_6_method_6_code, prog_6_method_7_code, prog_6_method_8_code, prog_6_method_9_code, prog_6_method_10_code, prog_6_method_11_code, prog_6_method_12_code, prog_6_method_13_code, prog_6_method_14_code, prog_6_method_15_code, prog_6_method_16_code, prog_6_method_17_code, prog_6_method_18_code, prog_6_method_19_code, prog_6_method_20_code, prog_7_method_1_code, prog_7_method_2_code, prog_7_method_3_code, prog_7_method_4_code, prog_7_method_5_code, prog_7_method_6_code, prog_1_method_1_code, prog_1_method_2_code, prog_1_method_3_code, prog_1_method_4_code, prog_1_method_5_code, prog_1_method_6_code, prog_1_method_7_code, prog_1_method_8_code, prog_1_method_9_code, prog_1_method_10_code, prog_1_method_11_code, prog_1_method_12_code, prog_1_method_13_code, prog_1_method_14_code, prog_1_method_15_code, prog_1_method_16_code, prog_1_method_17_code, prog_1_method_18_code, prog_1_method_19_code, prog_1_method_20_code, prog_1_method_21_code, prog_1_method_22_code, prog_1_method_23_code, prog_1_method_24_code, prog_1_method_25_code, prog_1_method_26_code, prog_1_method_27_code, prog_1_method_28_code, prog_1_method_29_code, prog_9_method_1_code, prog_9_method_2_code, prog_9_method_3_code, prog_9_method_4_code, prog_9_method_5_code, prog_9_method_6_code, prog_9_method_7_code, prog_9_method_8_code, prog_9_method_9_code, prog_9_method_10_code, prog_9_method_11_code, prog_9_method_12_code, prog_9_method_13_code, prog_9_method_14_code, prog_9_method_15_code, prog_9_method_16_code, prog_9_method_17_code, prog_9_method_18_code, prog_9_method_19_code, prog_9_method_20_code, prog_9_method_21_code, prog_9_method_22_code, prog_9_method_23_code, prog_9_method_24_code, prog_9_method_25_code, prog_9_method_26_code, prog_9_method_27_code, prog_9_method_28_code, prog_9_method_29_code, prog_9_method_30_code, prog_9_method_31_code, prog_9_method_32_code, prog_9_method_33_code, prog_9_method_34_code, prog_9_method_35_code, prog_9_method_36_code, prog_9_method_37_code, prog_9_method_38_code, prog_9_method_39_code, prog_9_method_40_code, prog_9_method_41_code, prog_9_method_42_code, prog_9_method_43_code, prog_9_method_44_code, prog_9_method_45_code, prog_9_method_46_code, prog_9_method_47_code, prog_9_method_48_code, prog_9_method_49_code, prog_9_method_50_code, prog_9_method_51_code, prog_9_method_52_code, prog_9_method_53_code, prog_9_method_54_code, prog_9_method_55_code, prog_9_method_56_code, prog_9_method_57_code, prog_9_method_58_code, prog_9_method_59_code, code]
def cb (m : Nat) : ByteArray := cbs.getD m ByteArray.empty
def mls : List Nat := [1, 3, 6, 5, 3, 4, 1, 4, 4, 5, 2, 1, 2, 4, 1, 1, 2, 1, 3, 3, 3, 2, 2, 1, 3, 3, 2, 2, 4, 3, 3, 4, 3, 5, 4, 3, 3, 3, 3, 3, 3, 3, 3, 1, 4, 4, 2, 8, 4, 1, 2, 2, 1, 1, 3, 3, 3, 3, 1, 1, 1, 2, 1, 3, 3, 3, 4, 1, 2, 5, 1, 1, 2, 5, 1, 1, 6, 1, 1, 6, 2, 2, 1, 3, 2, 1, 2, 1, 2, 3, 2, 3, 8, 3, 4, 3, 3, 5, 2, 2, 3, 4, 3, 3, 3, 1, 4, 2, 3, 3, 2, 3, 4, 3, 4, 2, 2, 3, 2, 5, 3, 4, 3, 4, 3, 4, 1, 4, 2, 3, 9, 1, 1, 5, 2, 3, 3, 4]
def ml (m : Nat) : Nat := mls.getD m 0
def rts : List (Option FieldType) := [none, none, none, none, some .boolean, none, none, none, none, none, none, none, none, some .int, some .int, some .boolean, some .int, none, none, none, none, none, none, none, none, none, some .boolean, some .boolean, some .int, some .boolean, some .int, some .int, some .int, some .int, some .boolean, some .boolean, none, some .int, none, some .int, some .int, some .int, some .int, none, none, none, some .int, some .int, some .int, none, some .int, some .int, some .int, some .int, some .int, some .int, some .int, some .int, some .int, some .int, some .int, some .int, some .int, some .int, some .int, some .int, some .int, some .int, some .int, some .int, some .int, some .int, some .int, some .long, some .boolean, some .boolean, some .int, some .int, none, some .boolean, some .int, some .int, some .boolean, some .boolean, some .int, some .int, some .int, some .boolean, some .boolean, some .int, some .boolean, some .int, some .int, some .int, some .int, some .int, some .int, some .int, none, none, none, some .boolean, none, some .int, some .int, some .int, some .int, some .int, some .int, some .int, some .int, some .int, none, some .boolean, none, some .int, some .int, some .int, some .int, some .boolean, some .boolean, some .int, some .int, some .int, some .boolean, some .int, some .int, some .int, some .int, none, some .int, some .int, some .int, some .int, some .int, none, some .long, some .boolean]
def rt (m : Nat) : Option FieldType := rts.getD m none
def ows : List Nat := [0, 0, 0, 0, 0, 0, 1, 1, 1, 1, 1, 2, 2, 2, 2, 2, 2, 3, 3, 3, 3, 3, 3, 4, 4, 4, 4, 4, 4, 4, 4, 4, 4, 4, 4, 4, 4, 4, 4, 4, 4, 4, 4, 5, 5, 5, 5, 5, 5, 6, 6, 6, 6, 6, 6, 6, 6, 6, 6, 6, 6, 6, 6, 6, 6, 6, 6, 6, 6, 6, 6, 6, 6, 6, 6, 6, 6, 6, 7, 7, 7, 7, 7, 7, 7, 7, 7, 7, 7, 7, 7, 7, 7, 7, 7, 7, 7, 7, 7, 7, 7, 7, 7, 7, 7, 7, 7, 7, 7, 7, 7, 7, 7, 7, 7, 7, 7, 7, 7, 7, 7, 7, 7, 7, 7, 7, 7, 7, 7, 7, 7, 7, 7, 7, 7, 7, 7, 8]
def ow (m : Nat) : Nat := ows.getD m 0
def ftb : List (Nat × Nat × Nat × Nat × Nat × Int) := [(0, 12, 0, 0, 3, 196), (0, 18, 0, 1, 3, 197), (0, 22, 0, 2, 3, 198), (0, 25, 0, 3, 0, 200), (0, 29, 0, 4, 0, 202), (0, 36, 4, 2, 0, 95), (0, 41, 4, 11, 3, 124), (0, 56, 5, 6, 0, 180), (0, 63, 5, 4, 0, 175), (1, 12, 1, 0, 3, 223), (1, 18, 1, 1, 3, 224), (1, 22, 1, 2, 3, 225), (1, 25, 1, 3, 3, 226), (1, 28, 1, 4, 0, 227), (1, 32, 1, 5, 0, 228), (1, 35, 1, 6, 0, 230), (1, 42, 4, 3, 0, 101), (1, 47, 4, 10, 3, 121), (1, 48, 4, 2, 0, 96), (1, 55, 5, 6, 0, 179), (1, 62, 5, 4, 0, 176), (2, 9, 2, 0, 3, 70), (2, 15, 2, 1, 0, 72), (3, 12, 3, 0, 3, 255), (3, 18, 3, 1, 3, 256), (3, 22, 3, 2, 3, 257), (3, 26, 3, 3, 3, 258), (3, 29, 3, 4, 0, 260), (3, 41, 4, 3, 0, 102), (3, 54, 4, 0, 0, 89), (3, 64, 4, 2, 0, 97), (3, 71, 4, 9, 3, 118), (3, 74, 4, 8, 3, 114), (3, 77, 4, 11, 3, 126), (4, 9, 4, 0, 0, 87), (4, 15, 4, 1, 0, 91), (4, 18, 4, 2, 0, 93), (4, 21, 4, 3, 0, 99), (4, 24, 4, 4, 0, 104), (4, 27, 4, 5, 3, 106), (4, 31, 4, 6, 3, 109), (4, 34, 4, 7, 3, 111), (4, 37, 4, 8, 3, 113), (4, 40, 4, 9, 3, 116), (4, 43, 4, 10, 3, 120), (4, 46, 4, 11, 3, 123), (4, 49, 4, 12, 3, 128), (4, 52, 2, 1, 0, 73), (5, 12, 5, 0, 3, 170), (5, 18, 5, 1, 3, 171), (5, 22, 5, 2, 3, 172), (5, 25, 5, 3, 3, 173), (5, 28, 5, 4, 0, 174), (5, 32, 5, 5, 0, 177), (5, 35, 5, 6, 0, 178), (5, 42, 4, 3, 0, 100), (5, 43, 4, 2, 0, 94), (5, 46, 4, 0, 0, 88), (5, 47, 4, 9, 3, 117), (5, 50, 4, 11, 3, 125), (5, 64, 4, 5, 3, 107), (6, 10, 6, 0, 3, 274), (6, 19, 6, 1, 3, 275), (6, 23, 6, 2, 3, 276), (6, 26, 6, 3, 3, 277), (6, 32, 6, 4, 3, 278), (6, 39, 6, 5, 3, 279), (6, 46, 6, 6, 3, 280), (6, 50, 6, 7, 1, 281), (6, 54, 6, 8, 0, 282), (6, 58, 6, 9, 0, 283), (6, 61, 6, 10, 0, 284), (6, 64, 2, 1, 0, 74), (6, 83, 4, 0, 0, 90), (6, 90, 4, 5, 3, 108), (6, 94, 4, 6, 3, 110), (6, 100, 4, 3, 0, 103), (6, 110, 4, 7, 3, 112), (6, 113, 4, 8, 3, 115), (6, 116, 4, 9, 3, 119), (6, 129, 4, 10, 3, 122), (6, 139, 4, 2, 0, 98), (6, 145, 4, 11, 3, 127), (6, 157, 4, 1, 0, 92), (6, 164, 0, 2, 3, 199), (6, 167, 0, 3, 0, 201), (6, 170, 0, 4, 0, 203), (6, 177, 3, 3, 3, 259), (6, 178, 3, 4, 0, 261), (6, 185, 1, 5, 0, 229), (6, 188, 1, 6, 0, 231), (6, 197, 4, 4, 0, 105), (6, 219, 2, 0, 3, 71), (7, 7, 7, 0, 3, 623), (7, 13, 7, 9, 3, 632), (7, 16, 7, 10, 3, 633), (7, 19, 7, 12, 3, 635), (7, 22, 7, 13, 3, 636), (7, 25, 7, 14, 3, 637), (7, 28, 7, 15, 3, 638), (7, 31, 7, 16, 3, 639), (7, 34, 7, 17, 3, 640), (7, 37, 7, 23, 3, 646), (7, 40, 7, 24, 3, 647), (7, 43, 7, 26, 3, 649), (7, 46, 7, 27, 3, 650), (7, 49, 7, 29, 3, 652), (7, 52, 7, 34, 3, 657), (7, 55, 7, 35, 3, 658), (7, 58, 7, 36, 3, 659), (7, 61, 7, 37, 3, 660), (7, 64, 7, 38, 3, 661), (7, 67, 7, 30, 0, 653), (7, 77, 7, 1, 0, 624), (7, 84, 7, 2, 0, 625), (7, 87, 7, 3, 0, 626), (7, 101, 7, 4, 0, 627), (7, 104, 7, 5, 0, 628), (7, 107, 7, 6, 0, 629), (7, 110, 7, 7, 0, 630), (7, 113, 7, 11, 0, 634), (7, 116, 7, 8, 0, 631), (7, 172, 7, 18, 0, 641), (7, 175, 7, 20, 0, 643), (7, 178, 7, 21, 0, 644), (7, 181, 7, 22, 0, 645), (7, 203, 7, 19, 0, 642), (7, 234, 7, 25, 0, 648), (7, 242, 7, 28, 0, 651), (7, 257, 7, 31, 0, 654), (7, 260, 7, 32, 0, 655), (7, 263, 7, 33, 0, 656), (7, 271, 7, 39, 2, 662)]
def mtb : List (Nat × Nat × Nat × Nat × Nat × Int) := [(0, 3, 0, 0, 4, 161), (0, 11, 43, 0, 3, 164), (0, 32, 44, 1, 0, 458), (0, 44, 41, 0, 0, 475), (0, 48, 2, 4, 0, 479), (0, 52, 4, 2, 0, 483), (0, 59, 5, 2, 0, 487), (0, 66, 48, 2, 0, 491), (0, 70, 3, 3, 0, 495), (0, 74, 47, 2, 0, 499), (1, 3, 0, 0, 4, 220), (1, 11, 43, 0, 3, 222), (1, 38, 44, 1, 0, 553), (1, 51, 8, 2, 0, 554), (1, 58, 10, 1, 0, 558), (1, 63, 9, 3, 0, 562), (1, 67, 47, 2, 0, 566), (2, 3, 0, 0, 4, 69), (2, 19, 14, 1, 1, 328), (2, 23, 13, 0, 0, 339), (3, 3, 0, 0, 4, 252), (3, 11, 23, 0, 3, 254), (3, 33, 25, 1, 0, 517), (3, 37, 19, 1, 0, 518), (3, 44, 21, 0, 0, 522), (3, 47, 20, 2, 0, 533), (3, 51, 22, 0, 0, 526), (3, 57, 34, 0, 0, 530), (3, 61, 36, 0, 0, 531), (3, 67, 41, 0, 0, 532), (4, 3, 0, 0, 4, 86), (4, 57, 0, 2, 5, 344), (4, 63, 16, 1, 0, 347), (4, 67, 30, 1, 0, 390), (4, 70, 33, 2, 0, 391), (4, 73, 35, 0, 0, 411), (4, 77, 0, 2, 6, 439), (5, 3, 0, 0, 4, 167), (5, 11, 23, 0, 3, 169), (5, 38, 25, 1, 0, 462), (5, 53, 45, 1, 0, 466), (5, 57, 36, 0, 0, 474), (5, 60, 46, 2, 1, 470), (5, 67, 33, 2, 0, 473), (5, 70, 0, 2, 5, 503), (6, 1, 0, 0, 4, 61), (6, 9, 11, 0, 3, 66), (6, 18, 23, 0, 3, 83), (6, 31, 0, 0, 3, 158), (6, 38, 6, 0, 3, 217), (6, 45, 17, 0, 3, 249), (6, 67, 12, 1, 0, 312), (6, 71, 13, 0, 0, 324), (6, 75, 15, 0, 0, 335), (6, 79, 24, 1, 0, 340), (6, 86, 26, 1, 0, 355), (6, 97, 74, 1, 1, 363), (6, 103, 28, 2, 0, 366), (6, 107, 27, 1, 0, 374), (6, 119, 30, 1, 0, 378), (6, 123, 31, 1, 0, 382), (6, 126, 32, 1, 0, 386), (6, 132, 29, 2, 0, 399), (6, 136, 34, 0, 0, 407), (6, 142, 36, 0, 0, 419), (6, 148, 37, 0, 0, 427), (6, 151, 38, 1, 0, 435), (6, 154, 39, 0, 0, 442), (6, 160, 1, 1, 0, 454), (6, 173, 25, 1, 0, 508), (6, 176, 18, 1, 0, 513), (6, 179, 75, 0, 0, 545), (6, 182, 7, 2, 0, 549), (6, 191, 76, 2, 0, 575), (6, 194, 40, 0, 0, 586), (6, 200, 42, 0, 0, 602), (6, 207, 54, 2, 0, 612), (6, 210, 56, 2, 0, 613), (6, 213, 64, 1, 0, 614), (6, 216, 65, 1, 0, 615), (6, 222, 72, 1, 0, 616), (6, 225, 77, 1, 1, 579), (7, 1, 0, 0, 4, 622), (7, 73, 79, 3, 1, 749), (7, 90, 82, 1, 1, 768), (7, 94, 83, 1, 0, 764), (7, 97, 84, 0, 0, 760), (7, 119, 88, 1, 0, 781), (7, 126, 87, 0, 0, 791), (7, 130, 93, 1, 0, 807), (7, 134, 94, 1, 0, 811), (7, 137, 92, 3, 0, 815), (7, 141, 90, 1, 0, 799), (7, 144, 95, 2, 0, 803), (7, 148, 98, 0, 0, 827), (7, 151, 101, 1, 0, 831), (7, 154, 102, 1, 0, 835), (7, 158, 99, 0, 0, 839), (7, 161, 100, 0, 0, 847), (7, 164, 106, 0, 0, 855), (7, 169, 108, 0, 0, 864), (7, 184, 111, 0, 0, 886), (7, 187, 112, 1, 0, 890), (7, 190, 113, 0, 0, 894), (7, 193, 103, 0, 0, 898), (7, 196, 114, 0, 0, 882), (7, 206, 115, 1, 0, 878), (7, 211, 117, 1, 0, 907), (7, 214, 119, 1, 0, 920), (7, 217, 120, 0, 0, 924), (7, 220, 129, 2, 1, 928), (7, 226, 121, 0, 0, 916), (7, 231, 124, 0, 0, 944), (7, 237, 125, 0, 0, 940), (7, 254, 128, 1, 0, 958), (7, 266, 133, 1, 0, 978), (7, 277, 135, 1, 0, 987), (8, 9, 49, 0, 2, 58), (8, 12, 78, 0, 2, 619), (8, 13, 50, 1, 0, 308), (8, 17, 80, 1, 0, 744), (8, 18, 51, 0, 0, 316), (8, 22, 81, 0, 0, 752), (8, 23, 52, 0, 0, 320), (8, 26, 85, 0, 0, 756), (8, 27, 53, 0, 0, 331), (8, 30, 86, 0, 0, 773), (8, 31, 54, 2, 0, 351), (8, 35, 89, 2, 0, 777), (8, 36, 55, 2, 0, 359), (8, 39, 91, 2, 0, 785), (8, 40, 56, 2, 0, 370), (8, 43, 96, 2, 0, 795), (8, 44, 57, 2, 0, 395), (8, 47, 97, 2, 0, 819), (8, 48, 58, 0, 0, 403), (8, 51, 104, 0, 0, 823), (8, 52, 59, 0, 0, 415), (8, 55, 105, 0, 0, 843), (8, 56, 60, 0, 0, 423), (8, 59, 107, 0, 0, 851), (8, 60, 61, 1, 0, 431), (8, 63, 109, 1, 0, 859), (8, 64, 62, 0, 0, 446), (8, 67, 110, 0, 0, 868), (8, 68, 63, 1, 0, 450), (8, 71, 116, 1, 0, 872), (8, 72, 64, 1, 0, 504), (8, 75, 118, 1, 0, 902), (8, 76, 65, 1, 0, 509), (8, 79, 122, 1, 0, 911), (8, 80, 66, 2, 0, 537), (8, 83, 123, 2, 0, 931), (8, 84, 67, 0, 0, 541), (8, 87, 126, 0, 0, 936), (8, 88, 68, 1, 0, 567), (8, 91, 127, 1, 0, 948), (8, 92, 69, 3, 0, 571), (8, 96, 130, 3, 0, 952), (8, 97, 70, 0, 0, 590), (8, 100, 131, 0, 0, 966), (8, 101, 71, 0, 0, 594), (8, 104, 132, 0, 0, 970), (8, 105, 72, 1, 0, 598), (8, 108, 134, 1, 0, 974), (8, 109, 73, 0, 0, 606), (8, 113, 136, 0, 0, 982)]
def ctb : List (Nat × Nat × Nat × Nat × Nat × Int) := [(0, 9, 5, 7, 0, 162), (1, 9, 5, 7, 0, 221), (3, 9, 4, 13, 0, 253), (5, 9, 4, 13, 0, 168), (6, 7, 2, 2, 0, 64), (6, 16, 4, 13, 0, 81), (6, 29, 0, 5, 0, 156), (6, 36, 1, 7, 0, 215), (6, 43, 3, 5, 0, 247), (8, 7, 6, 11, 0, 56), (8, 10, 7, 40, 0, 617)]
def ktb : List (Nat × Nat × Nat × Nat × Nat × Int) := [(6, 203, 1, 610, 0, 787), (6, 205, 1, 611, 0, 31), (6, 228, 0, 585, 0, 65536), (6, 229, 1, 582, 0, 1103515245), (6, 231, 1, 583, 0, 12345), (6, 233, 1, 584, 0, 2147483648), (7, 71, 1, 748, 0, 126), (7, 80, 1, 771, 0, 48), (7, 82, 1, 772, 0, 57), (7, 122, 1, 789, 0, 4), (7, 124, 1, 790, 0, 99), (7, 167, 1, 863, 0, 9), (7, 199, 1, 876, 0, 10), (7, 201, 1, 877, 0, 15), (7, 209, 1, 906, 0, 6), (7, 224, 1, 915, 0, 14), (7, 229, 1, 935, 0, (-1)), (7, 240, 1, 962, 0, 1103515245), (7, 245, 1, 963, 0, 12345), (7, 247, 1, 964, 0, 2147483647), (7, 249, 0, 965, 0, 65536), (7, 250, 1, 956, 0, 60), (7, 252, 1, 957, 0, 2), (7, 269, 1, 991, 0, 31), (7, 275, 1, 986, 0, 787)]
def mws : List (Nat × Nat × Nat × Nat) := [(159, 0, 50, 160), (455, 456, 50, 457), (481, 2, 50, 482), (497, 5, 50, 498), (485, 3, 50, 486), (489, 4, 50, 490), (218, 0, 52, 219), (550, 551, 52, 552), (556, 11, 52, 557), (564, 13, 52, 565), (560, 12, 52, 561), (67, 0, 48, 68), (313, 314, 48, 315), (325, 326, 48, 327), (329, 0, 48, 330), (336, 337, 48, 338), (348, 349, 48, 350), (250, 0, 53, 251), (514, 515, 53, 516), (520, 6, 53, 521), (535, 9, 53, 536), (524, 7, 53, 525), (528, 8, 53, 529), (84, 0, 49, 85), (341, 342, 49, 343), (463, 464, 49, 465), (356, 357, 49, 358), (375, 376, 49, 377), (367, 368, 49, 369), (400, 401, 49, 402), (379, 380, 49, 381), (383, 384, 49, 385), (387, 388, 49, 389), (392, 393, 49, 394), (408, 409, 49, 410), (413, 0, 49, 414), (420, 421, 49, 422), (428, 429, 49, 430), (436, 437, 49, 438), (443, 444, 49, 445), (587, 588, 49, 589), (476, 477, 49, 478), (603, 604, 49, 605), (165, 0, 51, 166), (459, 460, 51, 461), (468, 1, 51, 469), (471, 0, 51, 472), (500, 501, 51, 502), (492, 493, 51, 494), (59, 0, 47, 60), (309, 310, 47, 311), (317, 318, 47, 319), (321, 322, 47, 323), (332, 333, 47, 334), (352, 353, 47, 354), (360, 361, 47, 362), (371, 372, 47, 373), (396, 397, 47, 398), (404, 405, 47, 406), (416, 417, 47, 418), (424, 425, 47, 426), (432, 433, 47, 434), (447, 448, 47, 449), (451, 452, 47, 453), (505, 506, 47, 507), (510, 511, 47, 512), (538, 539, 47, 540), (542, 543, 47, 544), (568, 569, 47, 570), (572, 573, 47, 574), (591, 592, 47, 593), (595, 596, 47, 597), (599, 600, 47, 601), (607, 608, 47, 609), (364, 0, 47, 365), (547, 10, 47, 548), (577, 14, 47, 578), (580, 0, 47, 581), (620, 0, 54, 621), (750, 0, 54, 751), (745, 746, 54, 747), (753, 754, 54, 755), (769, 0, 54, 770), (766, 16, 54, 767), (762, 15, 54, 763), (757, 758, 54, 759), (774, 775, 54, 776), (793, 18, 54, 794), (783, 17, 54, 784), (778, 779, 54, 780), (801, 19, 54, 802), (786, 787, 54, 788), (817, 23, 54, 818), (809, 21, 54, 810), (813, 22, 54, 814), (805, 20, 54, 806), (796, 797, 54, 798), (820, 821, 54, 822), (829, 24, 54, 830), (841, 27, 54, 842), (849, 28, 54, 850), (833, 25, 54, 834), (837, 26, 54, 838), (900, 36, 54, 901), (824, 825, 54, 826), (844, 845, 54, 846), (857, 29, 54, 858), (852, 853, 54, 854), (866, 30, 54, 867), (860, 861, 54, 862), (869, 870, 54, 871), (888, 33, 54, 889), (892, 34, 54, 893), (896, 35, 54, 897), (884, 32, 54, 885), (880, 31, 54, 881), (873, 874, 54, 875), (909, 37, 54, 910), (903, 904, 54, 905), (922, 39, 54, 923), (926, 40, 54, 927), (918, 38, 54, 919), (912, 913, 54, 914), (932, 933, 54, 934), (946, 42, 54, 947), (942, 41, 54, 943), (937, 938, 54, 939), (949, 950, 54, 951), (960, 43, 54, 961), (929, 0, 54, 930), (953, 954, 54, 955), (967, 968, 54, 969), (971, 972, 54, 973), (980, 44, 54, 981), (975, 976, 54, 977), (989, 45, 54, 990), (983, 984, 54, 985), (0, 0, 0, 0)]
def mwd (m : Nat) : Nat × Nat × Nat × Nat := mws.getD m (0, 0, 0, 0)
def look (tb : List (Nat × Nat × Nat × Nat × Nat × Int)) (own idx : Nat) : Nat × Nat × Nat × Int := match tb.find? (fun e => e.1 == own && e.2.1 == idx) with
  | some e => e.2.2
  | none => (0, 0, 99, 0)
def rs (own pc : Nat) (i : Instr) : Nat × Nat × Nat × Int := match i with
  | .getfield idx => look ftb own idx
  | .putfield idx => look ftb own idx
  | .invokevirtual idx => look mtb own idx
  | .invokespecial idx => look mtb own idx
  | .invokestatic idx => look mtb own idx
  | .new idx => look ctb own idx
  | .ldc idx => look ktb own idx
  | .ldc2_w idx => look ktb own idx
  | .goto off => (((pc : Int) + off).toNat, 0, 0, 0)
  | .if_icmp _ off => (((pc : Int) + off).toNat, 0, 0, 0)
  | .ifCond _ off => (((pc : Int) + off).toNat, 0, 0, 0)
  | _ => (0, 0, 0, 0)
/-- an instruction: what it is, how long, the next place, and what it names -/
abbrev IT : Type := Instr × Nat × Nat × Nat × Nat × Nat × Int
def ft (m pc : Nat) : Option IT := match decode (cb m) pc with
  | .ok (i, len) => some (i, len, pc + len, rs (ow m) pc i)
  | .error _ => none
theorem ft_dec {m pc len nx : Nat} {i : Instr} {X : Nat × Nat × Nat × Int} (h : ft m pc = some (i, len, nx, X)) : decode (cb m) pc = .ok (i, len) ∧ pc + len = nx ∧ rs (ow m) pc i = X := by
  unfold ft at h
  split at h
  · next i' len' hd =>
    cases h
    exact ⟨hd, rfl, rfl⟩
  · cases h
theorem look_in {tb : List (Nat × Nat × Nat × Nat × Nat × Int)} {own idx : Nat} {x y z : Nat} {v : Int} (h : look tb own idx = (x, y, z, v)) (hz : z ≠ 99) : (own, idx, x, y, z, v) ∈ tb := by
  unfold look at h
  split at h
  · next e he =>
    have h1 := List.find?_some he
    have h2 := List.mem_of_find?_eq_some he
    simp only [Bool.and_eq_true, beq_iff_eq] at h1
    obtain ⟨a, b, c⟩ := e
    obtain ⟨rfl, rfl⟩ := h1
    dsimp only at h
    rw [h] at h2
    exact h2
  · simp only [Prod.mk.injEq] at h
    exact absurd h.2.2.1.symm hz
theorem tw_all : ∀ c, c < 8 → ∀ w ∈ u_ws (RR c) (TT c) (NN c), w ∈ lw_tbl := by decide +kernel
theorem ty_all : ∀ c, c < 8 → ∀ k, k < NN c → parseFieldDescriptor (TT c k).2.2.1 = some (TY c k) := by decide +kernel
theorem nm_all : ∀ c, c < 8 → ∀ a, a < NN c → ∀ b, b < NN c → a ≠ b → (TT c a).2.1 ≠ (TT c b).2.1 := by decide +kernel
def tagOf (t : FieldType) : Nat := match t with
  | .int => 0
  | .boolean => 1
  | .long => 2
  | _ => 3
theorem f_all : ∀ e ∈ ftb, e.2.2.1 < 8 ∧ e.2.2.2.1 < NN e.2.2.1 ∧ (TT e.2.2.1 e.2.2.2.1).1 = RR e.2.2.1 ∧ tagOf (TY e.2.2.1 e.2.2.2.1) = e.2.2.2.2.1 ∧ lw_tbl[e.2.2.2.2.2.toNat]? = some (.fieldLink (RR e.1) e.2.1 (RR e.2.2.1) (TT e.2.2.1 e.2.2.2.1).2.1 (TT e.2.2.1 e.2.2.2.1).2.2.1) := by decide +kernel
theorem c_all : ∀ e ∈ ctb, e.2.2.1 < 8 ∧ e.2.2.2.1 = NN e.2.2.1 ∧ lw_tbl[e.2.2.2.2.2.toNat]? = some (.classLink (RR e.1) e.2.1 (RR e.2.2.1)) ∧ Cond.instantiable (RR e.2.2.1) (NN e.2.2.1) ∈ lw_tbl ∧ Cond.initialized (RR e.2.2.1) ∈ lw_tbl := by decide +kernel
theorem k_all : ∀ e ∈ ktb, (e.2.2.1 = 0 → lw_tbl[e.2.2.2.1]? = some (.constant (RR e.1) e.2.1 (Int32.ofInt e.2.2.2.2.2))) ∧ (e.2.2.1 = 1 → lw_tbl[e.2.2.2.1]? = some (.constantLong (RR e.1) e.2.1 (Int64.ofInt e.2.2.2.2.2))) := by decide +kernel
theorem m_all : ∀ e ∈ mtb, (e.2.2.2.2.1 < 3 → lw_tbl[e.2.2.2.2.2.toNat]? = some (.methodLink (RR e.1) e.2.1 (yy e.2.2.1))) ∧ (e.2.2.2.2.1 = 3 → lw_tbl[e.2.2.2.2.2.toNat]? = some (.methodLinkNest (RR e.1) e.2.1 (yy e.2.2.1) "TrailBreakers")) ∧ (e.2.2.2.2.1 = 4 → lw_tbl[e.2.2.2.2.2.toNat]? = some (.methodLink (RR e.1) e.2.1 objectInit)) ∧ (e.2.2.2.2.1 = 5 → lw_tbl[e.2.2.2.2.2.toNat]? = some (.methodLink (RR e.1) e.2.1 Lib.Math.min.name)) ∧ (e.2.2.2.2.1 = 6 → lw_tbl[e.2.2.2.2.2.toNat]? = some (.methodLink (RR e.1) e.2.1 Lib.Math.max.name)) ∧ (e.2.2.2.2.1 < 4 → e.2.2.1 < 137 ∧ (parseMethodDescriptor (yy e.2.2.1).desc).map (fun d => d.parameters.length) = some e.2.2.2.1) := by decide +kernel
theorem y_all : ∀ m, m < 137 → (yy m).cls ≠ "java/lang/invoke/MethodHandle" ∧ (yy m).cls ≠ "java/lang/invoke/VarHandle" ∧ plainName (yy m).cls = true ∧ (yy m).cls = RR (ow m) ∧ ow m < 8 ∧ ml m ≤ 20 := by decide +kernel
theorem i_all : ∀ m, m < 137 → lw_tbl[(mwd m).2.2.1]? = some (.initialized (yy m).cls) := by decide +kernel
theorem n_all : ∀ e ∈ mtb, (e.2.2.2.2.1 = 0 → lw_tbl[(mwd e.2.2.1).1]? = some (.instanceMethod (yy e.2.2.1)) ∧ lw_tbl[(mwd e.2.2.1).2.1]? = some (.selects (yy e.2.2.1).cls (yy e.2.2.1) (yy e.2.2.1))) ∧ (e.2.2.2.2.1 = 1 → lw_tbl[(mwd e.2.2.1).1]? = some (.static (yy e.2.2.1))) ∧ (e.2.2.2.2.1 = 2 ∨ e.2.2.2.2.1 = 3 → (yy e.2.2.1).name = "<init>" ∧ rt e.2.2.1 = none ∧ lw_tbl[(mwd e.2.2.1).1]? = some (.instanceMethod (yy e.2.2.1))) := by decide +kernel
set_option maxRecDepth 100000 in
theorem cw_0 : lw_tbl[160]? = some (.code (yy 0) (cb 0) (ml 0) (rt 0)) := rfl
set_option maxRecDepth 100000 in
theorem cw_1 : lw_tbl[457]? = some (.code (yy 1) (cb 1) (ml 1) (rt 1)) := rfl
set_option maxRecDepth 100000 in
theorem cw_2 : lw_tbl[482]? = some (.code (yy 2) (cb 2) (ml 2) (rt 2)) := rfl
set_option maxRecDepth 100000 in
theorem cw_3 : lw_tbl[498]? = some (.code (yy 3) (cb 3) (ml 3) (rt 3)) := rfl
set_option maxRecDepth 100000 in
theorem cw_4 : lw_tbl[486]? = some (.code (yy 4) (cb 4) (ml 4) (rt 4)) := rfl
set_option maxRecDepth 100000 in
theorem cw_5 : lw_tbl[490]? = some (.code (yy 5) (cb 5) (ml 5) (rt 5)) := rfl
set_option maxRecDepth 100000 in
theorem cw_6 : lw_tbl[219]? = some (.code (yy 6) (cb 6) (ml 6) (rt 6)) := rfl
set_option maxRecDepth 100000 in
theorem cw_7 : lw_tbl[552]? = some (.code (yy 7) (cb 7) (ml 7) (rt 7)) := rfl
set_option maxRecDepth 100000 in
theorem cw_8 : lw_tbl[557]? = some (.code (yy 8) (cb 8) (ml 8) (rt 8)) := rfl
set_option maxRecDepth 100000 in
theorem cw_9 : lw_tbl[565]? = some (.code (yy 9) (cb 9) (ml 9) (rt 9)) := rfl
set_option maxRecDepth 100000 in
theorem cw_10 : lw_tbl[561]? = some (.code (yy 10) (cb 10) (ml 10) (rt 10)) := rfl
set_option maxRecDepth 100000 in
theorem cw_11 : lw_tbl[68]? = some (.code (yy 11) (cb 11) (ml 11) (rt 11)) := rfl
set_option maxRecDepth 100000 in
theorem cw_12 : lw_tbl[315]? = some (.code (yy 12) (cb 12) (ml 12) (rt 12)) := rfl
set_option maxRecDepth 100000 in
theorem cw_13 : lw_tbl[327]? = some (.code (yy 13) (cb 13) (ml 13) (rt 13)) := rfl
set_option maxRecDepth 100000 in
theorem cw_14 : lw_tbl[330]? = some (.code (yy 14) (cb 14) (ml 14) (rt 14)) := rfl
set_option maxRecDepth 100000 in
theorem cw_15 : lw_tbl[338]? = some (.code (yy 15) (cb 15) (ml 15) (rt 15)) := rfl
set_option maxRecDepth 100000 in
theorem cw_16 : lw_tbl[350]? = some (.code (yy 16) (cb 16) (ml 16) (rt 16)) := rfl
set_option maxRecDepth 100000 in
theorem cw_17 : lw_tbl[251]? = some (.code (yy 17) (cb 17) (ml 17) (rt 17)) := rfl
set_option maxRecDepth 100000 in
theorem cw_18 : lw_tbl[516]? = some (.code (yy 18) (cb 18) (ml 18) (rt 18)) := rfl
set_option maxRecDepth 100000 in
theorem cw_19 : lw_tbl[521]? = some (.code (yy 19) (cb 19) (ml 19) (rt 19)) := rfl
set_option maxRecDepth 100000 in
theorem cw_20 : lw_tbl[536]? = some (.code (yy 20) (cb 20) (ml 20) (rt 20)) := rfl
set_option maxRecDepth 100000 in
theorem cw_21 : lw_tbl[525]? = some (.code (yy 21) (cb 21) (ml 21) (rt 21)) := rfl
set_option maxRecDepth 100000 in
theorem cw_22 : lw_tbl[529]? = some (.code (yy 22) (cb 22) (ml 22) (rt 22)) := rfl
set_option maxRecDepth 100000 in
theorem cw_23 : lw_tbl[85]? = some (.code (yy 23) (cb 23) (ml 23) (rt 23)) := rfl
set_option maxRecDepth 100000 in
theorem cw_24 : lw_tbl[343]? = some (.code (yy 24) (cb 24) (ml 24) (rt 24)) := rfl
set_option maxRecDepth 100000 in
theorem cw_25 : lw_tbl[465]? = some (.code (yy 25) (cb 25) (ml 25) (rt 25)) := rfl
set_option maxRecDepth 100000 in
theorem cw_26 : lw_tbl[358]? = some (.code (yy 26) (cb 26) (ml 26) (rt 26)) := rfl
set_option maxRecDepth 100000 in
theorem cw_27 : lw_tbl[377]? = some (.code (yy 27) (cb 27) (ml 27) (rt 27)) := rfl
set_option maxRecDepth 100000 in
theorem cw_28 : lw_tbl[369]? = some (.code (yy 28) (cb 28) (ml 28) (rt 28)) := rfl
set_option maxRecDepth 100000 in
theorem cw_29 : lw_tbl[402]? = some (.code (yy 29) (cb 29) (ml 29) (rt 29)) := rfl
set_option maxRecDepth 100000 in
theorem cw_30 : lw_tbl[381]? = some (.code (yy 30) (cb 30) (ml 30) (rt 30)) := rfl
set_option maxRecDepth 100000 in
theorem cw_31 : lw_tbl[385]? = some (.code (yy 31) (cb 31) (ml 31) (rt 31)) := rfl
set_option maxRecDepth 100000 in
theorem cw_32 : lw_tbl[389]? = some (.code (yy 32) (cb 32) (ml 32) (rt 32)) := rfl
set_option maxRecDepth 100000 in
theorem cw_33 : lw_tbl[394]? = some (.code (yy 33) (cb 33) (ml 33) (rt 33)) := rfl
set_option maxRecDepth 100000 in
theorem cw_34 : lw_tbl[410]? = some (.code (yy 34) (cb 34) (ml 34) (rt 34)) := rfl
set_option maxRecDepth 100000 in
theorem cw_35 : lw_tbl[414]? = some (.code (yy 35) (cb 35) (ml 35) (rt 35)) := rfl
set_option maxRecDepth 100000 in
theorem cw_36 : lw_tbl[422]? = some (.code (yy 36) (cb 36) (ml 36) (rt 36)) := rfl
set_option maxRecDepth 100000 in
theorem cw_37 : lw_tbl[430]? = some (.code (yy 37) (cb 37) (ml 37) (rt 37)) := rfl
set_option maxRecDepth 100000 in
theorem cw_38 : lw_tbl[438]? = some (.code (yy 38) (cb 38) (ml 38) (rt 38)) := rfl
set_option maxRecDepth 100000 in
theorem cw_39 : lw_tbl[445]? = some (.code (yy 39) (cb 39) (ml 39) (rt 39)) := rfl
set_option maxRecDepth 100000 in
theorem cw_40 : lw_tbl[589]? = some (.code (yy 40) (cb 40) (ml 40) (rt 40)) := rfl
set_option maxRecDepth 100000 in
theorem cw_41 : lw_tbl[478]? = some (.code (yy 41) (cb 41) (ml 41) (rt 41)) := rfl
set_option maxRecDepth 100000 in
theorem cw_42 : lw_tbl[605]? = some (.code (yy 42) (cb 42) (ml 42) (rt 42)) := rfl
set_option maxRecDepth 100000 in
theorem cw_43 : lw_tbl[166]? = some (.code (yy 43) (cb 43) (ml 43) (rt 43)) := rfl
set_option maxRecDepth 100000 in
theorem cw_44 : lw_tbl[461]? = some (.code (yy 44) (cb 44) (ml 44) (rt 44)) := rfl
set_option maxRecDepth 100000 in
theorem cw_45 : lw_tbl[469]? = some (.code (yy 45) (cb 45) (ml 45) (rt 45)) := rfl
set_option maxRecDepth 100000 in
theorem cw_46 : lw_tbl[472]? = some (.code (yy 46) (cb 46) (ml 46) (rt 46)) := rfl
set_option maxRecDepth 100000 in
theorem cw_47 : lw_tbl[502]? = some (.code (yy 47) (cb 47) (ml 47) (rt 47)) := rfl
set_option maxRecDepth 100000 in
theorem cw_48 : lw_tbl[494]? = some (.code (yy 48) (cb 48) (ml 48) (rt 48)) := rfl
set_option maxRecDepth 100000 in
theorem cw_49 : lw_tbl[60]? = some (.code (yy 49) (cb 49) (ml 49) (rt 49)) := rfl
set_option maxRecDepth 100000 in
theorem cw_50 : lw_tbl[311]? = some (.code (yy 50) (cb 50) (ml 50) (rt 50)) := rfl
set_option maxRecDepth 100000 in
theorem cw_51 : lw_tbl[319]? = some (.code (yy 51) (cb 51) (ml 51) (rt 51)) := rfl
set_option maxRecDepth 100000 in
theorem cw_52 : lw_tbl[323]? = some (.code (yy 52) (cb 52) (ml 52) (rt 52)) := rfl
set_option maxRecDepth 100000 in
theorem cw_53 : lw_tbl[334]? = some (.code (yy 53) (cb 53) (ml 53) (rt 53)) := rfl
set_option maxRecDepth 100000 in
theorem cw_54 : lw_tbl[354]? = some (.code (yy 54) (cb 54) (ml 54) (rt 54)) := rfl
set_option maxRecDepth 100000 in
theorem cw_55 : lw_tbl[362]? = some (.code (yy 55) (cb 55) (ml 55) (rt 55)) := rfl
set_option maxRecDepth 100000 in
theorem cw_56 : lw_tbl[373]? = some (.code (yy 56) (cb 56) (ml 56) (rt 56)) := rfl
set_option maxRecDepth 100000 in
theorem cw_57 : lw_tbl[398]? = some (.code (yy 57) (cb 57) (ml 57) (rt 57)) := rfl
set_option maxRecDepth 100000 in
theorem cw_58 : lw_tbl[406]? = some (.code (yy 58) (cb 58) (ml 58) (rt 58)) := rfl
set_option maxRecDepth 100000 in
theorem cw_59 : lw_tbl[418]? = some (.code (yy 59) (cb 59) (ml 59) (rt 59)) := rfl
set_option maxRecDepth 100000 in
theorem cw_60 : lw_tbl[426]? = some (.code (yy 60) (cb 60) (ml 60) (rt 60)) := rfl
set_option maxRecDepth 100000 in
theorem cw_61 : lw_tbl[434]? = some (.code (yy 61) (cb 61) (ml 61) (rt 61)) := rfl
set_option maxRecDepth 100000 in
theorem cw_62 : lw_tbl[449]? = some (.code (yy 62) (cb 62) (ml 62) (rt 62)) := rfl
set_option maxRecDepth 100000 in
theorem cw_63 : lw_tbl[453]? = some (.code (yy 63) (cb 63) (ml 63) (rt 63)) := rfl
set_option maxRecDepth 100000 in
theorem cw_64 : lw_tbl[507]? = some (.code (yy 64) (cb 64) (ml 64) (rt 64)) := rfl
set_option maxRecDepth 100000 in
theorem cw_65 : lw_tbl[512]? = some (.code (yy 65) (cb 65) (ml 65) (rt 65)) := rfl
set_option maxRecDepth 100000 in
theorem cw_66 : lw_tbl[540]? = some (.code (yy 66) (cb 66) (ml 66) (rt 66)) := rfl
set_option maxRecDepth 100000 in
theorem cw_67 : lw_tbl[544]? = some (.code (yy 67) (cb 67) (ml 67) (rt 67)) := rfl
set_option maxRecDepth 100000 in
theorem cw_68 : lw_tbl[570]? = some (.code (yy 68) (cb 68) (ml 68) (rt 68)) := rfl
set_option maxRecDepth 100000 in
theorem cw_69 : lw_tbl[574]? = some (.code (yy 69) (cb 69) (ml 69) (rt 69)) := rfl
set_option maxRecDepth 100000 in
theorem cw_70 : lw_tbl[593]? = some (.code (yy 70) (cb 70) (ml 70) (rt 70)) := rfl
set_option maxRecDepth 100000 in
theorem cw_71 : lw_tbl[597]? = some (.code (yy 71) (cb 71) (ml 71) (rt 71)) := rfl
set_option maxRecDepth 100000 in
theorem cw_72 : lw_tbl[601]? = some (.code (yy 72) (cb 72) (ml 72) (rt 72)) := rfl
set_option maxRecDepth 100000 in
theorem cw_73 : lw_tbl[609]? = some (.code (yy 73) (cb 73) (ml 73) (rt 73)) := rfl
set_option maxRecDepth 100000 in
theorem cw_74 : lw_tbl[365]? = some (.code (yy 74) (cb 74) (ml 74) (rt 74)) := rfl
set_option maxRecDepth 100000 in
theorem cw_75 : lw_tbl[548]? = some (.code (yy 75) (cb 75) (ml 75) (rt 75)) := rfl
set_option maxRecDepth 100000 in
theorem cw_76 : lw_tbl[578]? = some (.code (yy 76) (cb 76) (ml 76) (rt 76)) := rfl
set_option maxRecDepth 100000 in
theorem cw_77 : lw_tbl[581]? = some (.code (yy 77) (cb 77) (ml 77) (rt 77)) := rfl
set_option maxRecDepth 100000 in
theorem cw_78 : lw_tbl[621]? = some (.code (yy 78) (cb 78) (ml 78) (rt 78)) := rfl
set_option maxRecDepth 100000 in
theorem cw_79 : lw_tbl[751]? = some (.code (yy 79) (cb 79) (ml 79) (rt 79)) := rfl
set_option maxRecDepth 100000 in
theorem cw_80 : lw_tbl[747]? = some (.code (yy 80) (cb 80) (ml 80) (rt 80)) := rfl
set_option maxRecDepth 100000 in
theorem cw_81 : lw_tbl[755]? = some (.code (yy 81) (cb 81) (ml 81) (rt 81)) := rfl
set_option maxRecDepth 100000 in
theorem cw_82 : lw_tbl[770]? = some (.code (yy 82) (cb 82) (ml 82) (rt 82)) := rfl
set_option maxRecDepth 100000 in
theorem cw_83 : lw_tbl[767]? = some (.code (yy 83) (cb 83) (ml 83) (rt 83)) := rfl
set_option maxRecDepth 100000 in
theorem cw_84 : lw_tbl[763]? = some (.code (yy 84) (cb 84) (ml 84) (rt 84)) := rfl
set_option maxRecDepth 100000 in
theorem cw_85 : lw_tbl[759]? = some (.code (yy 85) (cb 85) (ml 85) (rt 85)) := rfl
set_option maxRecDepth 100000 in
theorem cw_86 : lw_tbl[776]? = some (.code (yy 86) (cb 86) (ml 86) (rt 86)) := rfl
set_option maxRecDepth 100000 in
theorem cw_87 : lw_tbl[794]? = some (.code (yy 87) (cb 87) (ml 87) (rt 87)) := rfl
set_option maxRecDepth 100000 in
theorem cw_88 : lw_tbl[784]? = some (.code (yy 88) (cb 88) (ml 88) (rt 88)) := rfl
set_option maxRecDepth 100000 in
theorem cw_89 : lw_tbl[780]? = some (.code (yy 89) (cb 89) (ml 89) (rt 89)) := rfl
set_option maxRecDepth 100000 in
theorem cw_90 : lw_tbl[802]? = some (.code (yy 90) (cb 90) (ml 90) (rt 90)) := rfl
set_option maxRecDepth 100000 in
theorem cw_91 : lw_tbl[788]? = some (.code (yy 91) (cb 91) (ml 91) (rt 91)) := rfl
set_option maxRecDepth 100000 in
theorem cw_92 : lw_tbl[818]? = some (.code (yy 92) (cb 92) (ml 92) (rt 92)) := rfl
set_option maxRecDepth 100000 in
theorem cw_93 : lw_tbl[810]? = some (.code (yy 93) (cb 93) (ml 93) (rt 93)) := rfl
set_option maxRecDepth 100000 in
theorem cw_94 : lw_tbl[814]? = some (.code (yy 94) (cb 94) (ml 94) (rt 94)) := rfl
set_option maxRecDepth 100000 in
theorem cw_95 : lw_tbl[806]? = some (.code (yy 95) (cb 95) (ml 95) (rt 95)) := rfl
set_option maxRecDepth 100000 in
theorem cw_96 : lw_tbl[798]? = some (.code (yy 96) (cb 96) (ml 96) (rt 96)) := rfl
set_option maxRecDepth 100000 in
theorem cw_97 : lw_tbl[822]? = some (.code (yy 97) (cb 97) (ml 97) (rt 97)) := rfl
set_option maxRecDepth 100000 in
theorem cw_98 : lw_tbl[830]? = some (.code (yy 98) (cb 98) (ml 98) (rt 98)) := rfl
set_option maxRecDepth 100000 in
theorem cw_99 : lw_tbl[842]? = some (.code (yy 99) (cb 99) (ml 99) (rt 99)) := rfl
set_option maxRecDepth 100000 in
theorem cw_100 : lw_tbl[850]? = some (.code (yy 100) (cb 100) (ml 100) (rt 100)) := rfl
set_option maxRecDepth 100000 in
theorem cw_101 : lw_tbl[834]? = some (.code (yy 101) (cb 101) (ml 101) (rt 101)) := rfl
set_option maxRecDepth 100000 in
theorem cw_102 : lw_tbl[838]? = some (.code (yy 102) (cb 102) (ml 102) (rt 102)) := rfl
set_option maxRecDepth 100000 in
theorem cw_103 : lw_tbl[901]? = some (.code (yy 103) (cb 103) (ml 103) (rt 103)) := rfl
set_option maxRecDepth 100000 in
theorem cw_104 : lw_tbl[826]? = some (.code (yy 104) (cb 104) (ml 104) (rt 104)) := rfl
set_option maxRecDepth 100000 in
theorem cw_105 : lw_tbl[846]? = some (.code (yy 105) (cb 105) (ml 105) (rt 105)) := rfl
set_option maxRecDepth 100000 in
theorem cw_106 : lw_tbl[858]? = some (.code (yy 106) (cb 106) (ml 106) (rt 106)) := rfl
set_option maxRecDepth 100000 in
theorem cw_107 : lw_tbl[854]? = some (.code (yy 107) (cb 107) (ml 107) (rt 107)) := rfl
set_option maxRecDepth 100000 in
theorem cw_108 : lw_tbl[867]? = some (.code (yy 108) (cb 108) (ml 108) (rt 108)) := rfl
set_option maxRecDepth 100000 in
theorem cw_109 : lw_tbl[862]? = some (.code (yy 109) (cb 109) (ml 109) (rt 109)) := rfl
set_option maxRecDepth 100000 in
theorem cw_110 : lw_tbl[871]? = some (.code (yy 110) (cb 110) (ml 110) (rt 110)) := rfl
set_option maxRecDepth 100000 in
theorem cw_111 : lw_tbl[889]? = some (.code (yy 111) (cb 111) (ml 111) (rt 111)) := rfl
set_option maxRecDepth 100000 in
theorem cw_112 : lw_tbl[893]? = some (.code (yy 112) (cb 112) (ml 112) (rt 112)) := rfl
set_option maxRecDepth 100000 in
theorem cw_113 : lw_tbl[897]? = some (.code (yy 113) (cb 113) (ml 113) (rt 113)) := rfl
set_option maxRecDepth 100000 in
theorem cw_114 : lw_tbl[885]? = some (.code (yy 114) (cb 114) (ml 114) (rt 114)) := rfl
set_option maxRecDepth 100000 in
theorem cw_115 : lw_tbl[881]? = some (.code (yy 115) (cb 115) (ml 115) (rt 115)) := rfl
set_option maxRecDepth 100000 in
theorem cw_116 : lw_tbl[875]? = some (.code (yy 116) (cb 116) (ml 116) (rt 116)) := rfl
set_option maxRecDepth 100000 in
theorem cw_117 : lw_tbl[910]? = some (.code (yy 117) (cb 117) (ml 117) (rt 117)) := rfl
set_option maxRecDepth 100000 in
theorem cw_118 : lw_tbl[905]? = some (.code (yy 118) (cb 118) (ml 118) (rt 118)) := rfl
set_option maxRecDepth 100000 in
theorem cw_119 : lw_tbl[923]? = some (.code (yy 119) (cb 119) (ml 119) (rt 119)) := rfl
set_option maxRecDepth 100000 in
theorem cw_120 : lw_tbl[927]? = some (.code (yy 120) (cb 120) (ml 120) (rt 120)) := rfl
set_option maxRecDepth 100000 in
theorem cw_121 : lw_tbl[919]? = some (.code (yy 121) (cb 121) (ml 121) (rt 121)) := rfl
set_option maxRecDepth 100000 in
theorem cw_122 : lw_tbl[914]? = some (.code (yy 122) (cb 122) (ml 122) (rt 122)) := rfl
set_option maxRecDepth 100000 in
theorem cw_123 : lw_tbl[934]? = some (.code (yy 123) (cb 123) (ml 123) (rt 123)) := rfl
set_option maxRecDepth 100000 in
theorem cw_124 : lw_tbl[947]? = some (.code (yy 124) (cb 124) (ml 124) (rt 124)) := rfl
set_option maxRecDepth 100000 in
theorem cw_125 : lw_tbl[943]? = some (.code (yy 125) (cb 125) (ml 125) (rt 125)) := rfl
set_option maxRecDepth 100000 in
theorem cw_126 : lw_tbl[939]? = some (.code (yy 126) (cb 126) (ml 126) (rt 126)) := rfl
set_option maxRecDepth 100000 in
theorem cw_127 : lw_tbl[951]? = some (.code (yy 127) (cb 127) (ml 127) (rt 127)) := rfl
set_option maxRecDepth 100000 in
theorem cw_128 : lw_tbl[961]? = some (.code (yy 128) (cb 128) (ml 128) (rt 128)) := rfl
set_option maxRecDepth 100000 in
theorem cw_129 : lw_tbl[930]? = some (.code (yy 129) (cb 129) (ml 129) (rt 129)) := rfl
set_option maxRecDepth 100000 in
theorem cw_130 : lw_tbl[955]? = some (.code (yy 130) (cb 130) (ml 130) (rt 130)) := rfl
set_option maxRecDepth 100000 in
theorem cw_131 : lw_tbl[969]? = some (.code (yy 131) (cb 131) (ml 131) (rt 131)) := rfl
set_option maxRecDepth 100000 in
theorem cw_132 : lw_tbl[973]? = some (.code (yy 132) (cb 132) (ml 132) (rt 132)) := rfl
set_option maxRecDepth 100000 in
theorem cw_133 : lw_tbl[981]? = some (.code (yy 133) (cb 133) (ml 133) (rt 133)) := rfl
set_option maxRecDepth 100000 in
theorem cw_134 : lw_tbl[977]? = some (.code (yy 134) (cb 134) (ml 134) (rt 134)) := rfl
set_option maxRecDepth 100000 in
theorem cw_135 : lw_tbl[990]? = some (.code (yy 135) (cb 135) (ml 135) (rt 135)) := rfl
set_option maxRecDepth 100000 in
theorem cw_136 : lw_tbl[985]? = some (.code (yy 136) (cb 136) (ml 136) (rt 136)) := rfl
theorem cw_all : ∀ m, m < 137 → Cond.code (yy m) (cb m) (ml m) (rt m) ∈ lw_tbl := by
  intro m h
  match m, h with
  | 0, _ => exact List.mem_of_getElem? cw_0
  | 1, _ => exact List.mem_of_getElem? cw_1
  | 2, _ => exact List.mem_of_getElem? cw_2
  | 3, _ => exact List.mem_of_getElem? cw_3
  | 4, _ => exact List.mem_of_getElem? cw_4
  | 5, _ => exact List.mem_of_getElem? cw_5
  | 6, _ => exact List.mem_of_getElem? cw_6
  | 7, _ => exact List.mem_of_getElem? cw_7
  | 8, _ => exact List.mem_of_getElem? cw_8
  | 9, _ => exact List.mem_of_getElem? cw_9
  | 10, _ => exact List.mem_of_getElem? cw_10
  | 11, _ => exact List.mem_of_getElem? cw_11
  | 12, _ => exact List.mem_of_getElem? cw_12
  | 13, _ => exact List.mem_of_getElem? cw_13
  | 14, _ => exact List.mem_of_getElem? cw_14
  | 15, _ => exact List.mem_of_getElem? cw_15
  | 16, _ => exact List.mem_of_getElem? cw_16
  | 17, _ => exact List.mem_of_getElem? cw_17
  | 18, _ => exact List.mem_of_getElem? cw_18
  | 19, _ => exact List.mem_of_getElem? cw_19
  | 20, _ => exact List.mem_of_getElem? cw_20
  | 21, _ => exact List.mem_of_getElem? cw_21
  | 22, _ => exact List.mem_of_getElem? cw_22
  | 23, _ => exact List.mem_of_getElem? cw_23
  | 24, _ => exact List.mem_of_getElem? cw_24
  | 25, _ => exact List.mem_of_getElem? cw_25
  | 26, _ => exact List.mem_of_getElem? cw_26
  | 27, _ => exact List.mem_of_getElem? cw_27
  | 28, _ => exact List.mem_of_getElem? cw_28
  | 29, _ => exact List.mem_of_getElem? cw_29
  | 30, _ => exact List.mem_of_getElem? cw_30
  | 31, _ => exact List.mem_of_getElem? cw_31
  | 32, _ => exact List.mem_of_getElem? cw_32
  | 33, _ => exact List.mem_of_getElem? cw_33
  | 34, _ => exact List.mem_of_getElem? cw_34
  | 35, _ => exact List.mem_of_getElem? cw_35
  | 36, _ => exact List.mem_of_getElem? cw_36
  | 37, _ => exact List.mem_of_getElem? cw_37
  | 38, _ => exact List.mem_of_getElem? cw_38
  | 39, _ => exact List.mem_of_getElem? cw_39
  | 40, _ => exact List.mem_of_getElem? cw_40
  | 41, _ => exact List.mem_of_getElem? cw_41
  | 42, _ => exact List.mem_of_getElem? cw_42
  | 43, _ => exact List.mem_of_getElem? cw_43
  | 44, _ => exact List.mem_of_getElem? cw_44
  | 45, _ => exact List.mem_of_getElem? cw_45
  | 46, _ => exact List.mem_of_getElem? cw_46
  | 47, _ => exact List.mem_of_getElem? cw_47
  | 48, _ => exact List.mem_of_getElem? cw_48
  | 49, _ => exact List.mem_of_getElem? cw_49
  | 50, _ => exact List.mem_of_getElem? cw_50
  | 51, _ => exact List.mem_of_getElem? cw_51
  | 52, _ => exact List.mem_of_getElem? cw_52
  | 53, _ => exact List.mem_of_getElem? cw_53
  | 54, _ => exact List.mem_of_getElem? cw_54
  | 55, _ => exact List.mem_of_getElem? cw_55
  | 56, _ => exact List.mem_of_getElem? cw_56
  | 57, _ => exact List.mem_of_getElem? cw_57
  | 58, _ => exact List.mem_of_getElem? cw_58
  | 59, _ => exact List.mem_of_getElem? cw_59
  | 60, _ => exact List.mem_of_getElem? cw_60
  | 61, _ => exact List.mem_of_getElem? cw_61
  | 62, _ => exact List.mem_of_getElem? cw_62
  | 63, _ => exact List.mem_of_getElem? cw_63
  | 64, _ => exact List.mem_of_getElem? cw_64
  | 65, _ => exact List.mem_of_getElem? cw_65
  | 66, _ => exact List.mem_of_getElem? cw_66
  | 67, _ => exact List.mem_of_getElem? cw_67
  | 68, _ => exact List.mem_of_getElem? cw_68
  | 69, _ => exact List.mem_of_getElem? cw_69
  | 70, _ => exact List.mem_of_getElem? cw_70
  | 71, _ => exact List.mem_of_getElem? cw_71
  | 72, _ => exact List.mem_of_getElem? cw_72
  | 73, _ => exact List.mem_of_getElem? cw_73
  | 74, _ => exact List.mem_of_getElem? cw_74
  | 75, _ => exact List.mem_of_getElem? cw_75
  | 76, _ => exact List.mem_of_getElem? cw_76
  | 77, _ => exact List.mem_of_getElem? cw_77
  | 78, _ => exact List.mem_of_getElem? cw_78
  | 79, _ => exact List.mem_of_getElem? cw_79
  | 80, _ => exact List.mem_of_getElem? cw_80
  | 81, _ => exact List.mem_of_getElem? cw_81
  | 82, _ => exact List.mem_of_getElem? cw_82
  | 83, _ => exact List.mem_of_getElem? cw_83
  | 84, _ => exact List.mem_of_getElem? cw_84
  | 85, _ => exact List.mem_of_getElem? cw_85
  | 86, _ => exact List.mem_of_getElem? cw_86
  | 87, _ => exact List.mem_of_getElem? cw_87
  | 88, _ => exact List.mem_of_getElem? cw_88
  | 89, _ => exact List.mem_of_getElem? cw_89
  | 90, _ => exact List.mem_of_getElem? cw_90
  | 91, _ => exact List.mem_of_getElem? cw_91
  | 92, _ => exact List.mem_of_getElem? cw_92
  | 93, _ => exact List.mem_of_getElem? cw_93
  | 94, _ => exact List.mem_of_getElem? cw_94
  | 95, _ => exact List.mem_of_getElem? cw_95
  | 96, _ => exact List.mem_of_getElem? cw_96
  | 97, _ => exact List.mem_of_getElem? cw_97
  | 98, _ => exact List.mem_of_getElem? cw_98
  | 99, _ => exact List.mem_of_getElem? cw_99
  | 100, _ => exact List.mem_of_getElem? cw_100
  | 101, _ => exact List.mem_of_getElem? cw_101
  | 102, _ => exact List.mem_of_getElem? cw_102
  | 103, _ => exact List.mem_of_getElem? cw_103
  | 104, _ => exact List.mem_of_getElem? cw_104
  | 105, _ => exact List.mem_of_getElem? cw_105
  | 106, _ => exact List.mem_of_getElem? cw_106
  | 107, _ => exact List.mem_of_getElem? cw_107
  | 108, _ => exact List.mem_of_getElem? cw_108
  | 109, _ => exact List.mem_of_getElem? cw_109
  | 110, _ => exact List.mem_of_getElem? cw_110
  | 111, _ => exact List.mem_of_getElem? cw_111
  | 112, _ => exact List.mem_of_getElem? cw_112
  | 113, _ => exact List.mem_of_getElem? cw_113
  | 114, _ => exact List.mem_of_getElem? cw_114
  | 115, _ => exact List.mem_of_getElem? cw_115
  | 116, _ => exact List.mem_of_getElem? cw_116
  | 117, _ => exact List.mem_of_getElem? cw_117
  | 118, _ => exact List.mem_of_getElem? cw_118
  | 119, _ => exact List.mem_of_getElem? cw_119
  | 120, _ => exact List.mem_of_getElem? cw_120
  | 121, _ => exact List.mem_of_getElem? cw_121
  | 122, _ => exact List.mem_of_getElem? cw_122
  | 123, _ => exact List.mem_of_getElem? cw_123
  | 124, _ => exact List.mem_of_getElem? cw_124
  | 125, _ => exact List.mem_of_getElem? cw_125
  | 126, _ => exact List.mem_of_getElem? cw_126
  | 127, _ => exact List.mem_of_getElem? cw_127
  | 128, _ => exact List.mem_of_getElem? cw_128
  | 129, _ => exact List.mem_of_getElem? cw_129
  | 130, _ => exact List.mem_of_getElem? cw_130
  | 131, _ => exact List.mem_of_getElem? cw_131
  | 132, _ => exact List.mem_of_getElem? cw_132
  | 133, _ => exact List.mem_of_getElem? cw_133
  | 134, _ => exact List.mem_of_getElem? cw_134
  | 135, _ => exact List.mem_of_getElem? cw_135
  | 136, _ => exact List.mem_of_getElem? cw_136
  | n + 137, h => omega
/-- the words that stay good whatever is loaded -/
def gt : List Cond := lw_tbl.filter goodWord
theorem gt_in {w : Cond} (h : w ∈ lw_tbl) (hg : goodWord w = true) : w ∈ gt := List.mem_filter.mpr ⟨h, hg⟩
theorem gt_at {w : Cond} {k : Nat} (h : lw_tbl[k]? = some w) (hg : goodWord w = true) : w ∈ gt := gt_in (List.mem_of_getElem? h) hg
theorem gt_tbl {w : Cond} (h : w ∈ gt) : w ∈ lw_tbl := (List.mem_filter.mp h).1
theorem gt_good : GoodIn gt gt := fun w h => ⟨h, good_of_word (List.mem_filter.mp h).2⟩
theorem tw_good : ∀ c, c < 8 → ∀ w ∈ u_ws (RR c) (TT c) (NN c), goodWord w = true := by decide +kernel
theorem tw_gt : ∀ c, c < 8 → ∀ w ∈ u_ws (RR c) (TT c) (NN c), w ∈ gt := fun c hc w hw => gt_in (tw_all c hc w hw) (tw_good c hc w hw)
theorem ac_I : Cond.arrayClass .int ∈ lw_tbl := by decide +kernel
theorem ac_Z : Cond.arrayClass .boolean ∈ lw_tbl := by decide +kernel
theorem oi_1 : Cond.instanceMethod objectInit ∈ lw_tbl := by decide +kernel
theorem oi_2 : Cond.code objectInit ⟨#[0xb1]⟩ 1 none ∈ lw_tbl := by decide +kernel
theorem mm_1 : Cond.static Lib.Math.min.name ∈ lw_tbl := by decide +kernel
theorem mm_2 : Cond.static Lib.Math.max.name ∈ lw_tbl := by decide +kernel
theorem mm_3 : Cond.initialized "java/lang/Math" ∈ lw_tbl := by decide +kernel
theorem mm_4 : Cond.code Lib.Math.min.name Lib.Math.min.code 2 (some .int) ∈ lw_tbl := by decide +kernel
theorem mm_5 : Cond.code Lib.Math.max.name Lib.Math.max.code 2 (some .int) ∈ lw_tbl := by decide +kernel
end
section

theorem f_fin : ∀ e ∈ ftb, (TT e.2.2.1 e.2.2.2.1).2.2.2 = (e.2.2.2.2.1 == 3) := by decide +kernel
theorem cl_all : ∀ c, c < 8 → clss[c]? = some (RR c, TT c, NN c) := by
  intro c h
  simp [clss, h]
/-! the store: the kinds of the cells (0: the script), what objects hold, what arrays hold -/
abbrev Sto : Type := List Nat × (Nat → List Value) × (Nat → List Int32)
def ad (b B : Nat) (i : Nat) : Nat := match i with
  | 0 => b
  | i + 1 => B + i
def cv (b B : Nat) (v : Value) : Value := match v with
  | .ref i => .ref (ad b B i)
  | v => v
theorem cv_cat (b B : Nat) (v : Value) : (cv b B v).category = v.category := by cases v <;> rfl
theorem cv_sum (b B : Nat) (S : List Value) : ((S.map (cv b B)).map fun v => v.category).sum = (S.map fun v => v.category).sum := by
  rw [List.map_map]
  congr 1
  exact List.map_congr_left fun v _ => cv_cat b B v
def ent (b B : Nat) (cI cZ : ClassId) (σ : Sto) (i : Nat) : va_E :=
  if σ.1.getD i 0 < 8 then .inr (σ.1.getD i 0, (σ.2.1 i).map (cv b B)) else .inl ((if σ.1.getD i 0 = 100 then cI else cZ), (σ.2.2 i).length, .inl (fun j => (σ.2.2 i).getD j 0))
def wsT (b B : Nat) (cI cZ : ClassId) (σ : Sto) : va_W := (List.range (σ.1.length - 1)).map (fun i => (B + i, ent b B cI cZ σ (i + 1)))
theorem ws_at {b B : Nat} {cI cZ : ClassId} {σ : Sto} {i k : Nat} (h : σ.1[i + 1]? = some k) : (wsT b B cI cZ σ)[i]? = some (B + i, ent b B cI cZ σ (i + 1)) := by
  have hl := (List.getElem?_eq_some_iff.mp h).1
  have : i < σ.1.length - 1 := by omega
  simp [wsT, this]
theorem ws_obj {b B : Nat} {cI cZ : ClassId} {σ : Sto} {i k : Nat} (h : σ.1[i + 1]? = some k) (h8 : k < 8) : (wsT b B cI cZ σ)[i]? = some (B + i, .inr (k, (σ.2.1 (i + 1)).map (cv b B))) := by
  rw [ws_at h]
  simp [ent, List.getD, h, h8]
theorem ws_arr {b B : Nat} {cI cZ : ClassId} {σ : Sto} {i : Nat} (h : σ.1[i + 1]? = some 100) : (wsT b B cI cZ σ)[i]? = some (B + i, .inl (cI, (σ.2.2 (i + 1)).length, .inl (fun j => (σ.2.2 (i + 1)).getD j 0))) := by
  rw [ws_at h]
  simp [ent, h]
theorem ws_arz {b B : Nat} {cI cZ : ClassId} {σ : Sto} {i : Nat} (h : σ.1[i + 1]? = some 101) : (wsT b B cI cZ σ)[i]? = some (B + i, .inl (cZ, (σ.2.2 (i + 1)).length, .inl (fun j => (σ.2.2 (i + 1)).getD j 0))) := by
  rw [ws_at h]
  simp [ent, h]
theorem ws_D (b B : Nat) (cI cZ : ClassId) (σ : Sto) : va_D (fun q => B ≤ q) (wsT b B cI cZ σ) := by
  have key : ∀ (k : Nat) (q : Nat × va_E), (wsT b B cI cZ σ)[k]? = some q → q.1 = B + k := by
    intro k q h
    simp only [wsT, List.getElem?_map, Option.map_eq_some_iff] at h
    obtain ⟨a, h1, rfl⟩ := h
    obtain ⟨h2, h3⟩ := List.getElem?_eq_some_iff.mp h1
    simp at h3
    simp [h3]
  refine ⟨fun i j p q h1 h2 h3 => ?_, fun k q h => ?_⟩
  · have e1 := key i p h1
    have e2 := key j q h2
    omega
  · have e1 := key k q h
    show B ≤ q.1
    omega
theorem ent_eq {b B : Nat} {cI cZ : ClassId} {σ σ' : Sto} {i : Nat} (h1 : σ'.1.getD i 0 = σ.1.getD i 0) (h2 : σ'.2.1 i = σ.2.1 i) (h3 : σ'.2.2 i = σ.2.2 i) : ent b B cI cZ σ' i = ent b B cI cZ σ i := by
  unfold ent
  rw [h1, h2, h3]
theorem ws_up {b B : Nat} {cI cZ : ClassId} {σ σ' : Sto} {i : Nat} {e : va_E} (h1 : σ'.1 = σ.1) (hn : ∀ j, j ≠ i + 1 → σ'.2.1 j = σ.2.1 j ∧ σ'.2.2 j = σ.2.2 j) (he : ent b B cI cZ σ' (i + 1) = e) : (wsT b B cI cZ σ).set i (B + i, e) = wsT b B cI cZ σ' := by
  apply List.ext_getElem?
  intro n
  rw [List.getElem?_set]
  unfold wsT
  rw [h1]
  simp only [List.length_map, List.length_range, List.getElem?_map]
  by_cases hin : i = n
  · subst hin
    by_cases hl : i < σ.1.length - 1
    · simp [hl, he]
    · simp [hl]
  · simp only [hin, if_false]
    by_cases hl : n < σ.1.length - 1
    · simp only [List.getElem?_range hl, Option.map_some]
      rw [ent_eq (σ := σ') (σ' := σ) (by rw [h1]) (hn (n + 1) (by omega)).1.symm (hn (n + 1) (by omega)).2.symm]
    · have : (List.range (σ.1.length - 1))[n]? = none := by simp; omega
      simp [this]
theorem ws_push {b B : Nat} {cI cZ : ClassId} {σ σ' : Sto} {k : Nat} {e : va_E} (hl : 0 < σ.1.length) (h1 : σ'.1 = σ.1 ++ [k]) (hn : ∀ j, j < σ.1.length → σ'.2.1 j = σ.2.1 j ∧ σ'.2.2 j = σ.2.2 j) (he : ent b B cI cZ σ' σ.1.length = e) : wsT b B cI cZ σ ++ [(B + (σ.1.length - 1), e)] = wsT b B cI cZ σ' := by
  have hlen : σ'.1.length - 1 = (σ.1.length - 1) + 1 := by rw [h1]; simp; omega
  unfold wsT
  rw [hlen, List.range_succ, List.map_append, List.map_cons, List.map_nil]
  congr 1
  · apply List.map_congr_left
    intro n hn1
    have hn2 : n < σ.1.length - 1 := List.mem_range.mp hn1
    rw [ent_eq (σ := σ') (σ' := σ) ?_ (hn (n + 1) (by omega)).1.symm (hn (n + 1) (by omega)).2.symm]
    rw [h1, List.getD_eq_getElem?_getD, List.getD_eq_getElem?_getD, List.getElem?_append_left (by omega)]
  · rw [← he, show σ.1.length - 1 + 1 = σ.1.length by omega]
/-- the heap holds the store: the cells lie one behind the other from B on; the script lies at b -/
def HI (b B : Nat) (D : va_G) (cI cZ : ClassId) (scr : Cell) (σ : Sto) (H : Heap) : Prop :=
  H.size + 1 = B + σ.1.length ∧ H[b]? = some scr ∧ va_P D clss (wsT b B cI cZ σ) H ∧ σ.1[0]? = some 102 ∧ (scr.slots.size = (σ.2.2 0).length ∧ ∀ j, j < (σ.2.2 0).length → scr.slots[j]? = some (.int ((σ.2.2 0).getD j 0))) ∧ ∀ i k, σ.1[i]? = some k → k < 8 → (σ.2.1 i).length = NN k
theorem HI.pos {b B : Nat} {D : va_G} {cI cZ : ClassId} {scr : Cell} {σ : Sto} {H : Heap} (h : HI b B D cI cZ scr σ H) {o k : Nat} (hk : σ.1[o]? = some k) (hne : k ≠ 102) : ∃ i, o = i + 1 := by
  cases o with
  | zero =>
    rw [h.2.2.2.1] at hk
    cases hk
    exact absurd rfl hne
  | succ i => exact ⟨i, rfl⟩
/-! locals: a list of values, .null where nothing is known -/
def lvo (b B : Nat) (L : List Value) : List (Nat × Value) := (List.range L.length).filterMap (fun k => match L[k]? with
  | some v => if v = .null then none else some (k, cv b B v)
  | none => none)
theorem lvo_mem {b B : Nat} {L : List Value} {q : Nat × Value} : q ∈ lvo b B L ↔ ∃ v, L[q.1]? = some v ∧ v ≠ .null ∧ q.2 = cv b B v := by
  unfold lvo
  rw [List.mem_filterMap]
  constructor
  · rintro ⟨k, hk, h⟩
    split at h
    · next v hv =>
      split at h
      · cases h
      · next hn => cases h; exact ⟨v, hv, hn, rfl⟩
    · cases h
  · rintro ⟨v, hv, hn, he⟩
    refine ⟨q.1, List.mem_range.mpr (List.getElem?_eq_some_iff.mp hv).1, ?_⟩
    rw [hv]
    simp only [hn, if_false]
    rw [← he]
def Lr (b B : Nat) (ls : Array Slot) (n : Nat) (L : List Value) : Prop := lv_has ls n (lvo b B L)
theorem Lr.get {b B : Nat} {ls : Array Slot} {n : Nat} {L : List Value} (h : Lr b B ls n L) {k : Nat} {v : Value} (hk : L[k]? = some v) (hn : v ≠ .null) : ls[k]? = some (.val (cv b B v)) := h.2.2 (k, cv b B v) (lvo_mem.mpr ⟨v, hk, hn, rfl⟩)
theorem Lr.set1 {b B : Nat} {ls : Array Slot} {n : Nat} {L : List Value} {i : Nat} {v : Value} (h : lv_has ls n ((i, cv b B v) :: (lvo b B L).filter (fun q => !(q.1 == i) && !(q.1 + 1 == i && q.2.category == 2)))) (hp : ∀ j w, j + 1 = i → L[j]? = some w → w.category = 1) : Lr b B ls n (L.set i v) := by
  refine ⟨h.1, h.2.1, fun q hq => h.2.2 q ?_⟩
  obtain ⟨w, hw, hn, he⟩ := lvo_mem.mp hq
  rw [List.getElem?_set] at hw
  by_cases hi : i = q.1
  · rw [if_pos hi] at hw
    split at hw
    · cases hw
      refine List.mem_cons.mpr (Or.inl ?_)
      obtain ⟨a, c⟩ := q
      simp only at hi he
      rw [hi, he]
    · cases hw
  · rw [if_neg hi] at hw
    refine List.mem_cons.mpr (Or.inr (List.mem_filter.mpr ⟨lvo_mem.mpr ⟨w, hw, hn, he⟩, ?_⟩))
    have h1 : (q.1 == i) = false := by simp; exact fun z => hi z.symm
    by_cases h2 : q.1 + 1 = i
    · have h3 := hp q.1 w h2 hw
      rw [he, cv_cat, h3, h1]
      simp
    · simp [h1, h2]
theorem Lr.set2 {b B : Nat} {ls : Array Slot} {n : Nat} {L : List Value} {i : Nat} {v : Value} (h : lv_has ls n ((i, cv b B v) :: (lvo b B L).filter (fun q => !(q.1 == i) && (!(q.1 == i + 1) && !(q.1 + 1 == i && q.2.category == 2))))) (hp : ∀ j w, j + 1 = i → L[j]? = some w → w.category = 1) : Lr b B ls n ((L.set i v).set (i + 1) .null) := by
  refine ⟨h.1, h.2.1, fun q hq => h.2.2 q ?_⟩
  obtain ⟨w, hw, hn, he⟩ := lvo_mem.mp hq
  rw [List.getElem?_set] at hw
  by_cases hi1 : i + 1 = q.1
  · rw [if_pos hi1] at hw
    split at hw
    · cases hw; exact absurd rfl hn
    · cases hw
  · rw [if_neg hi1, List.getElem?_set] at hw
    by_cases hi : i = q.1
    · rw [if_pos hi] at hw
      split at hw
      · cases hw
        refine List.mem_cons.mpr (Or.inl ?_)
        obtain ⟨a, c⟩ := q
        simp only at hi he
        rw [hi, he]
      · cases hw
    · rw [if_neg hi] at hw
      refine List.mem_cons.mpr (Or.inr (List.mem_filter.mpr ⟨lvo_mem.mpr ⟨w, hw, hn, he⟩, ?_⟩))
      have h1 : (q.1 == i) = false := by simp; exact fun z => hi z.symm
      have h0 : (q.1 == i + 1) = false := by simp; exact fun z => hi1 z.symm
      by_cases h2 : q.1 + 1 = i
      · have h3 := hp q.1 w h2 hw
        rw [he, cv_cat, h3, h1, h0]
        simp
      · simp [h1, h0, h2]
/-- the locals at a method's entry -/
def entA : List Value → List Value
  | [] => []
  | v :: vs => if v.category = 2 then v :: .null :: entA vs else v :: entA vs
def entL (n : Nat) (As : List Value) : List Value := entA As ++ List.replicate (n - (entA As).length) .null
theorem entA_len (b B : Nat) : ∀ As : List Value, (lg_sl (As.map (cv b B))).length = (entA As).length
  | [] => rfl
  | v :: vs => by
    have ih := entA_len b B vs
    unfold lg_sl at ih ⊢
    rw [List.map_cons, List.flatMap_cons, List.length_append, ih, cv_cat]
    rw [entA]
    split <;> simp <;> omega
theorem entA_at (b B : Nat) : ∀ (As : List Value) (n k : Nat) (v : Value), (entA As)[k]? = some v → v ≠ .null → (n + k, cv b B v) ∈ lv_args n (As.map (cv b B))
  | [], n, k, v, h, _ => by simp [entA] at h
  | w :: vs, n, k, v, h, hv => by
    unfold entA at h
    simp only [List.map_cons, lv_args, cv_cat]
    split at h
    · next hc =>
      rw [if_pos hc]
      match k, h with
      | 0, h => simp at h; subst h; exact List.mem_cons_self
      | 1, h => simp at h; exact absurd h.symm hv
      | k + 2, h =>
        simp at h
        have := entA_at b B vs (n + 2) k v h hv
        rw [show n + (k + 2) = n + 2 + k by omega]
        exact List.mem_cons_of_mem _ this
    · next hc =>
      rw [if_neg hc]
      match k, h with
      | 0, h => simp at h; subst h; exact List.mem_cons_self
      | k + 1, h =>
        simp at h
        have := entA_at b B vs (n + 1) k v h hv
        rw [show n + (k + 1) = n + 1 + k by omega]
        exact List.mem_cons_of_mem _ this
theorem Lr.entry (b B : Nat) (As : List Value) {n : Nat} (h : (entA As).length ≤ n) : Lr b B ((lg_sl (As.map (cv b B)) ++ List.replicate (n - (lg_sl (As.map (cv b B))).length) Slot.unset).toArray) n (entL n As) := by
  have h1 := lv_entry (As.map (cv b B)) (n := n) (by rw [entA_len]; exact h)
  refine ⟨h1.1, h1.2.1, fun q hq => h1.2.2 q ?_⟩
  obtain ⟨v, hv, hn, he⟩ := lvo_mem.mp hq
  unfold entL at hv
  by_cases hl : q.1 < (entA As).length
  · rw [List.getElem?_append_left hl] at hv
    have := entA_at b B As 0 q.1 v hv hn
    rw [Nat.zero_add] at this
    obtain ⟨a, c⟩ := q
    simp only at he this ⊢
    rw [he]
    exact this
  · rw [List.getElem?_append_right (by omega), List.getElem?_replicate] at hv
    split at hv
    · cases hv; exact absurd rfl hn
    · cases hv
/-! the two judgements -/
/-- the links to a nest mate's constructor -/
def NWs (U : State) : Prop := ∀ e ∈ mtb, e.2.2.2.2.1 = 3 → va_Nw (.methodLinkNest (RR e.1) e.2.1 (yy e.2.2.1) "TrailBreakers") U
def Cx (p : Program) (R : Room) (s : State) (mi : MethodId) (args : Array Value) (meth : Method) (c : Code) (b B : Nat) (D : va_G) (cI cZ : ClassId) (scr : Cell) (m d : Nat) : Prop :=
  p.tables.exec = Jvm.exec ∧ c.code = cb m ∧ c.maxLocals = ml m ∧ s.vm.findClass (RR (ow m)) = some mi.cls ∧ (∀ w ∈ gt, w.before args s = true) ∧ va_K D clss [(cI, .int), (cZ, .boolean)] s ∧ b < B ∧ B ≤ s.heap.size ∧ (s.isArrayOf scr .int ∧ scr.vm ≠ .unknown) ∧ (d ≤ R.frames ∧ 40 * d ≤ R.locals) ∧ ((yy m).name = "<init>" → meth.name = "<init>") ∧ NWs s
def rOK (m : Nat) (r : Option Value) (i : Instr) : Prop := (i = .ireturn ∧ ∃ x : Int32, r = some (.int x) ∧ (rt m = some .int ∨ (rt m = some .boolean ∧ (x = 0 ∨ x = 1)))) ∨ (i = .lreturn ∧ ∃ x : Int64, r = some (.long x) ∧ rt m = some .long) ∨ (i = .return_ ∧ r = none ∧ rt m = none)
def Fz (p : Program) (l : Launch) (e : Env) (R : Room) (s : State) (mi : MethodId) (args : Array Value) (below : List Frame) (meth : Method) (c : Code) (b B : Nat) (D : va_G) (cI cZ : ClassId) (scr : Cell) (Z : State → Prop) (m : Nat) (r : Option Value) (σ' : Sto) : Prop :=
  ∀ (H : Heap) (locs : List Loc) (ls : Array Slot) (pc : Nat) (i : Instr) (cells slots : Nat), rOK m r i → decode (cb m) pc = .ok (i, 1) → HI b B D cI cZ scr σ' H → va_S (fun q => B ≤ q) s.heap H locs → cells ≤ R.cells → slots ≤ R.slots → W p l e R s mi args below meth c H locs cells slots Z (F0 mi pc ls (r.toList.map (cv b B)))
/-- from place pc of method m, with these locals, this stack, this store, the method ends with r, and the store is σ' then; d: how deep it calls; mc, ms: cells and slots that it makes -/
def WP (d mc ms m pc : Nat) (L S : List Value) (σ : Sto) (r : Option Value) (σ' : Sto) : Prop :=
  ∀ (p : Program) (l : Launch) (e : Env) (R : Room) (s : State) (mi : MethodId) (args : Array Value) (below : List Frame) (meth : Method) (c : Code) (b B : Nat) (D : va_G) (cI cZ : ClassId) (scr : Cell) (Z : State → Prop),
    Cx p R s mi args meth c b B D cI cZ scr m d → Fz p l e R s mi args below meth c b B D cI cZ scr Z m r σ' →
    ∀ (H : Heap) (locs : List Loc) (ls : Array Slot) (cells slots : Nat), HI b B D cI cZ scr σ H → va_S (fun q => B ≤ q) s.heap H locs → Lr b B ls (ml m) L → cells + mc ≤ R.cells → slots + ms ≤ R.slots →
      W p l e R s mi args below meth c H locs cells slots Z (F0 mi pc ls (S.map (cv b B)))
def Pm (b B : Nat) (D : va_G) (cI cZ : ClassId) (scr : Cell) (As : List Value) (σ : Sto) : Array Value → State → Prop := fun v U =>
  v = (As.map (cv b B)).toArray ∧ b < B ∧ B ≤ U.heap.size ∧ HI b B D cI cZ scr σ U.heap ∧ va_K D clss [(cI, .int), (cZ, .boolean)] U ∧ (U.isArrayOf scr .int ∧ scr.vm ≠ .unknown) ∧ NWs U
def Qm (b B : Nat) (D : va_G) (cI cZ : ClassId) (scr : Cell) (r : Option Value) (σ' : Sto) : Array Value → State → Outcome → State → Prop := fun _ st oc t =>
  oc = .returned (r.map (cv b B)) ∧ HI b B D cI cZ scr σ' t.heap ∧ va_F (fun q => B ≤ q) st t
def wm (m : Nat) : List Cond := Cond.code (yy m) (cb m) (ml m) (rt m) :: gt
/-- a whole call of method m -/
def Ev (d mc ms m : Nat) (As : List Value) (σ : Sto) (r : Option Value) (σ' : Sto) : Prop :=
  ∀ (l : Launch) (b B : Nat) (D : va_G) (cI cZ : ClassId) (scr : Cell), Met l (yy m) (wm m) { frames := d, cells := mc, slots := ms, locals := 40 * d } (Pm b B D cI cZ scr As σ) (Qm b B D cI cZ scr r σ') mc ms (fun q => B ≤ q)
theorem wm_good {m : Nat} (hm : m < 137) : GoodIn gt (wm m) := by
  intro w hw
  rcases List.mem_cons.mp hw with h | h
  · subst h
    exact ⟨gt_in (cw_all m hm) rfl, Or.inl rfl⟩
  · exact gt_good w h
set_option maxHeartbeats 1000000 in
theorem ev_of {d mc ms m : Nat} {As L : List Value} {σ : Sto} {r : Option Value} {σ' : Sto} (hm : m < 137) (hL : entL (ml m) As = L) (hl : (entA As).length ≤ ml m) (k : WP d mc ms m 0 L [] σ r σ') : Ev d mc ms m As σ r σ' := by
  intro l b B D cI cZ scr
  refine Met.ofW (cc := cb m) (maxL := ml m) (ret := rt m) (y_all m hm).2.2.1 rfl ?_
  intro p e s mi args below meth c s₁ Bd hml hv
  obtain ⟨rfl, hbB, hBs, hH, hK, hsc, hNw⟩ := hv
  have hts0 := atoms_spec (ws := wm m) Bd.pre
  have hts : ∀ w ∈ gt, w.before ((As.map (cv b B)).toArray) s = true := fun w h => hts0 w (List.mem_cons_of_mem _ h)
  have hown : s.vm.findClass (RR (ow m)) = some mi.cls := by rw [← (y_all m hm).2.2.2.1]; exact findClass_of_methodNamed Bd.named
  have hlocks := Bd.notSynchronized
  have hr := Bd.returns
  have hx := Bd.exec
  have hb := Bd.bytes
  have hl2 := Lr.entry b B As hl
  rw [hL] at hl2
  rw [lg_entry_eq]
  refine k p l e _ s mi _ below meth c b B D cI cZ scr _ ⟨hx, hb, hml, hown, hts, hK, hbB, hBs, hsc, ⟨Nat.le_refl _, Nat.le_refl _⟩, fun h => ?_, hNw⟩ ?_ s.heap [] _ 0 0 hH va_S.rf hl2 (by rw [Nat.zero_add]; exact Nat.le_refl _) (by rw [Nat.zero_add]; exact Nat.le_refl _)
  · have := (name_of_methodNamed Bd.named Bd.method).1
    rw [this]; exact h
  · intro H locs ls pc i cells slots hro hdec hH' hS' h1 h2
    refine W.widen (k := mc) (n := ms) h1 h2 ?_
    rcases hro with ⟨rfl, x, rfl, hrt⟩ | ⟨rfl, x, rfl, hrt⟩ | ⟨rfl, rfl, hrt⟩
    · rcases hrt with hrt | ⟨hrt, hx01⟩
      · exact W.zret (v := x) (ty := .int) hx hb (hr.trans hrt) rfl (fun t ht hW => ⟨rfl, by rw [ht]; exact hH', hS'.F ht⟩) hS'.2.2 hdec
      · refine W.zret (v := x) (ty := .boolean) hx hb (hr.trans hrt) ?_ (fun t ht hW => ⟨rfl, by rw [ht]; exact hH', hS'.F ht⟩) hS'.2.2 hdec
        rcases hx01 with rfl | rfl <;> rfl
    · exact W.lret (v := x) hx hb (hr.trans hrt) (fun t ht hW => ⟨rfl, by rw [ht]; exact hH', hS'.F ht⟩) hS'.2.2 hdec
    · exact W.vret hx hb (hr.trans hrt) (fun t ht hW => ⟨rfl, by rw [ht]; exact hH', hS'.F ht⟩) hS'.2.2 hdec

theorem wp_iconst {d mc ms m pc nx : Nat} {L S : List Value} {σ σ' : Sto} {r : Option Value} {X : Nat × Nat × Nat × Int} {n : Int} {v : Int32} (hd : ft m pc = some (.iconst n, 1, nx, X)) (hv : Int32.ofInt n = v) (k : WP d mc ms m nx L (.int v :: S) σ r σ') : WP d mc ms m pc L (S) σ r σ' := by
  intro p l e R s mi args below meth c b B D cI cZ scr Z C hZ H locs ls cells slots hH hS hL hc hs
  obtain ⟨hdec, rfl, -⟩ := ft_dec hd
  exact lv_iconst C.1 C.2.1 hdec hv (k p l e R s mi args below meth c b B D cI cZ scr Z C hZ H locs ls cells slots hH hS hL hc hs)
theorem wp_bipush {d mc ms m pc nx : Nat} {L S : List Value} {σ σ' : Sto} {r : Option Value} {X : Nat × Nat × Nat × Int} {n : Int} {v : Int32} (hd : ft m pc = some (.bipush n, 2, nx, X)) (hv : (Int8.ofInt n).toInt32 = v) (k : WP d mc ms m nx L (.int v :: S) σ r σ') : WP d mc ms m pc L (S) σ r σ' := by
  intro p l e R s mi args below meth c b B D cI cZ scr Z C hZ H locs ls cells slots hH hS hL hc hs
  obtain ⟨hdec, rfl, -⟩ := ft_dec hd
  exact lv_bipush C.1 C.2.1 hdec hv (k p l e R s mi args below meth c b B D cI cZ scr Z C hZ H locs ls cells slots hH hS hL hc hs)
theorem wp_sipush {d mc ms m pc nx : Nat} {L S : List Value} {σ σ' : Sto} {r : Option Value} {X : Nat × Nat × Nat × Int} {n : Int} {v : Int32} (hd : ft m pc = some (.sipush n, 3, nx, X)) (hv : (Int16.ofInt n).toInt32 = v) (k : WP d mc ms m nx L (.int v :: S) σ r σ') : WP d mc ms m pc L (S) σ r σ' := by
  intro p l e R s mi args below meth c b B D cI cZ scr Z C hZ H locs ls cells slots hH hS hL hc hs
  obtain ⟨hdec, rfl, -⟩ := ft_dec hd
  exact lv_sipush C.1 C.2.1 hdec hv (k p l e R s mi args below meth c b B D cI cZ scr Z C hZ H locs ls cells slots hH hS hL hc hs)
theorem wp_lconst {d mc ms m pc nx : Nat} {L S : List Value} {σ σ' : Sto} {r : Option Value} {X : Nat × Nat × Nat × Int} {n : Fin 2} {v : Int64} (hd : ft m pc = some (.lconst n, 1, nx, X)) (hv : Int64.ofNat (n : Nat) = v) (k : WP d mc ms m nx L (.long v :: S) σ r σ') : WP d mc ms m pc L (S) σ r σ' := by
  intro p l e R s mi args below meth c b B D cI cZ scr Z C hZ H locs ls cells slots hH hS hL hc hs
  obtain ⟨hdec, rfl, -⟩ := ft_dec hd
  exact lv_lconst C.1 C.2.1 hdec hv (k p l e R s mi args below meth c b B D cI cZ scr Z C hZ H locs ls cells slots hH hS hL hc hs)
theorem wp_iadd {d mc ms m pc nx : Nat} {L S : List Value} {σ σ' : Sto} {r : Option Value} {X : Nat × Nat × Nat × Int} {x y : Int32} (hd : ft m pc = some (.iadd, 1, nx, X))  (k : WP d mc ms m nx L (.int (x + y) :: S) σ r σ') : WP d mc ms m pc L (.int y :: .int x :: S) σ r σ' := by
  intro p l e R s mi args below meth c b B D cI cZ scr Z C hZ H locs ls cells slots hH hS hL hc hs
  obtain ⟨hdec, rfl, -⟩ := ft_dec hd
  exact lv_iadd C.1 C.2.1 hdec (k p l e R s mi args below meth c b B D cI cZ scr Z C hZ H locs ls cells slots hH hS hL hc hs)
theorem wp_isub {d mc ms m pc nx : Nat} {L S : List Value} {σ σ' : Sto} {r : Option Value} {X : Nat × Nat × Nat × Int} {x y : Int32} (hd : ft m pc = some (.isub, 1, nx, X))  (k : WP d mc ms m nx L (.int (x - y) :: S) σ r σ') : WP d mc ms m pc L (.int y :: .int x :: S) σ r σ' := by
  intro p l e R s mi args below meth c b B D cI cZ scr Z C hZ H locs ls cells slots hH hS hL hc hs
  obtain ⟨hdec, rfl, -⟩ := ft_dec hd
  exact lv_isub C.1 C.2.1 hdec (k p l e R s mi args below meth c b B D cI cZ scr Z C hZ H locs ls cells slots hH hS hL hc hs)
theorem wp_imul {d mc ms m pc nx : Nat} {L S : List Value} {σ σ' : Sto} {r : Option Value} {X : Nat × Nat × Nat × Int} {x y : Int32} (hd : ft m pc = some (.imul, 1, nx, X))  (k : WP d mc ms m nx L (.int (x * y) :: S) σ r σ') : WP d mc ms m pc L (.int y :: .int x :: S) σ r σ' := by
  intro p l e R s mi args below meth c b B D cI cZ scr Z C hZ H locs ls cells slots hH hS hL hc hs
  obtain ⟨hdec, rfl, -⟩ := ft_dec hd
  exact lv_imul C.1 C.2.1 hdec (k p l e R s mi args below meth c b B D cI cZ scr Z C hZ H locs ls cells slots hH hS hL hc hs)
theorem wp_iand {d mc ms m pc nx : Nat} {L S : List Value} {σ σ' : Sto} {r : Option Value} {X : Nat × Nat × Nat × Int} {x y : Int32} (hd : ft m pc = some (.iand, 1, nx, X))  (k : WP d mc ms m nx L (.int (x &&& y) :: S) σ r σ') : WP d mc ms m pc L (.int y :: .int x :: S) σ r σ' := by
  intro p l e R s mi args below meth c b B D cI cZ scr Z C hZ H locs ls cells slots hH hS hL hc hs
  obtain ⟨hdec, rfl, -⟩ := ft_dec hd
  exact lv_iand C.1 C.2.1 hdec (k p l e R s mi args below meth c b B D cI cZ scr Z C hZ H locs ls cells slots hH hS hL hc hs)
theorem wp_ior {d mc ms m pc nx : Nat} {L S : List Value} {σ σ' : Sto} {r : Option Value} {X : Nat × Nat × Nat × Int} {x y : Int32} (hd : ft m pc = some (.ior, 1, nx, X))  (k : WP d mc ms m nx L (.int (x ||| y) :: S) σ r σ') : WP d mc ms m pc L (.int y :: .int x :: S) σ r σ' := by
  intro p l e R s mi args below meth c b B D cI cZ scr Z C hZ H locs ls cells slots hH hS hL hc hs
  obtain ⟨hdec, rfl, -⟩ := ft_dec hd
  exact lv_ior C.1 C.2.1 hdec (k p l e R s mi args below meth c b B D cI cZ scr Z C hZ H locs ls cells slots hH hS hL hc hs)
theorem wp_ishl {d mc ms m pc nx : Nat} {L S : List Value} {σ σ' : Sto} {r : Option Value} {X : Nat × Nat × Nat × Int} {x y : Int32} (hd : ft m pc = some (.ishl, 1, nx, X))  (k : WP d mc ms m nx L (.int (x <<< (y &&& 31)) :: S) σ r σ') : WP d mc ms m pc L (.int y :: .int x :: S) σ r σ' := by
  intro p l e R s mi args below meth c b B D cI cZ scr Z C hZ H locs ls cells slots hH hS hL hc hs
  obtain ⟨hdec, rfl, -⟩ := ft_dec hd
  exact lv_ishl C.1 C.2.1 hdec (k p l e R s mi args below meth c b B D cI cZ scr Z C hZ H locs ls cells slots hH hS hL hc hs)
theorem wp_ishr {d mc ms m pc nx : Nat} {L S : List Value} {σ σ' : Sto} {r : Option Value} {X : Nat × Nat × Nat × Int} {x y : Int32} (hd : ft m pc = some (.ishr, 1, nx, X))  (k : WP d mc ms m nx L (.int (x >>> (y &&& 31)) :: S) σ r σ') : WP d mc ms m pc L (.int y :: .int x :: S) σ r σ' := by
  intro p l e R s mi args below meth c b B D cI cZ scr Z C hZ H locs ls cells slots hH hS hL hc hs
  obtain ⟨hdec, rfl, -⟩ := ft_dec hd
  exact lv_ishr C.1 C.2.1 hdec (k p l e R s mi args below meth c b B D cI cZ scr Z C hZ H locs ls cells slots hH hS hL hc hs)
theorem wp_idiv {d mc ms m pc nx : Nat} {L S : List Value} {σ σ' : Sto} {r : Option Value} {X : Nat × Nat × Nat × Int} {x y : Int32} (hd : ft m pc = some (.idiv, 1, nx, X)) (hne : ¬ y = 0) (k : WP d mc ms m nx L (.int (x / y) :: S) σ r σ') : WP d mc ms m pc L (.int y :: .int x :: S) σ r σ' := by
  intro p l e R s mi args below meth c b B D cI cZ scr Z C hZ H locs ls cells slots hH hS hL hc hs
  obtain ⟨hdec, rfl, -⟩ := ft_dec hd
  exact lv_idiv C.1 C.2.1 hdec hne (k p l e R s mi args below meth c b B D cI cZ scr Z C hZ H locs ls cells slots hH hS hL hc hs)
theorem wp_irem {d mc ms m pc nx : Nat} {L S : List Value} {σ σ' : Sto} {r : Option Value} {X : Nat × Nat × Nat × Int} {x y : Int32} (hd : ft m pc = some (.irem, 1, nx, X)) (hne : ¬ y = 0) (k : WP d mc ms m nx L (.int (x - x / y * y) :: S) σ r σ') : WP d mc ms m pc L (.int y :: .int x :: S) σ r σ' := by
  intro p l e R s mi args below meth c b B D cI cZ scr Z C hZ H locs ls cells slots hH hS hL hc hs
  obtain ⟨hdec, rfl, -⟩ := ft_dec hd
  exact lv_irem C.1 C.2.1 hdec hne (k p l e R s mi args below meth c b B D cI cZ scr Z C hZ H locs ls cells slots hH hS hL hc hs)
theorem wp_lrem {d mc ms m pc nx : Nat} {L S : List Value} {σ σ' : Sto} {r : Option Value} {X : Nat × Nat × Nat × Int} {x y : Int64} (hd : ft m pc = some (.lrem, 1, nx, X)) (hne : ¬ y = 0) (k : WP d mc ms m nx L (.long (x - x / y * y) :: S) σ r σ') : WP d mc ms m pc L (.long y :: .long x :: S) σ r σ' := by
  intro p l e R s mi args below meth c b B D cI cZ scr Z C hZ H locs ls cells slots hH hS hL hc hs
  obtain ⟨hdec, rfl, -⟩ := ft_dec hd
  exact lv_lrem C.1 C.2.1 hdec hne (k p l e R s mi args below meth c b B D cI cZ scr Z C hZ H locs ls cells slots hH hS hL hc hs)
theorem wp_ineg {d mc ms m pc nx : Nat} {L S : List Value} {σ σ' : Sto} {r : Option Value} {X : Nat × Nat × Nat × Int} {x : Int32} (hd : ft m pc = some (.ineg, 1, nx, X))  (k : WP d mc ms m nx L (.int (-x) :: S) σ r σ') : WP d mc ms m pc L (.int x :: S) σ r σ' := by
  intro p l e R s mi args below meth c b B D cI cZ scr Z C hZ H locs ls cells slots hH hS hL hc hs
  obtain ⟨hdec, rfl, -⟩ := ft_dec hd
  exact lv_ineg C.1 C.2.1 hdec (k p l e R s mi args below meth c b B D cI cZ scr Z C hZ H locs ls cells slots hH hS hL hc hs)
theorem wp_ladd {d mc ms m pc nx : Nat} {L S : List Value} {σ σ' : Sto} {r : Option Value} {X : Nat × Nat × Nat × Int} {x y : Int64} (hd : ft m pc = some (.ladd, 1, nx, X))  (k : WP d mc ms m nx L (.long (x + y) :: S) σ r σ') : WP d mc ms m pc L (.long y :: .long x :: S) σ r σ' := by
  intro p l e R s mi args below meth c b B D cI cZ scr Z C hZ H locs ls cells slots hH hS hL hc hs
  obtain ⟨hdec, rfl, -⟩ := ft_dec hd
  exact lv_ladd C.1 C.2.1 hdec (k p l e R s mi args below meth c b B D cI cZ scr Z C hZ H locs ls cells slots hH hS hL hc hs)
theorem wp_lmul {d mc ms m pc nx : Nat} {L S : List Value} {σ σ' : Sto} {r : Option Value} {X : Nat × Nat × Nat × Int} {x y : Int64} (hd : ft m pc = some (.lmul, 1, nx, X))  (k : WP d mc ms m nx L (.long (x * y) :: S) σ r σ') : WP d mc ms m pc L (.long y :: .long x :: S) σ r σ' := by
  intro p l e R s mi args below meth c b B D cI cZ scr Z C hZ H locs ls cells slots hH hS hL hc hs
  obtain ⟨hdec, rfl, -⟩ := ft_dec hd
  exact lv_lmul C.1 C.2.1 hdec (k p l e R s mi args below meth c b B D cI cZ scr Z C hZ H locs ls cells slots hH hS hL hc hs)
theorem wp_land {d mc ms m pc nx : Nat} {L S : List Value} {σ σ' : Sto} {r : Option Value} {X : Nat × Nat × Nat × Int} {x y : Int64} (hd : ft m pc = some (.land, 1, nx, X))  (k : WP d mc ms m nx L (.long (x &&& y) :: S) σ r σ') : WP d mc ms m pc L (.long y :: .long x :: S) σ r σ' := by
  intro p l e R s mi args below meth c b B D cI cZ scr Z C hZ H locs ls cells slots hH hS hL hc hs
  obtain ⟨hdec, rfl, -⟩ := ft_dec hd
  exact lv_land C.1 C.2.1 hdec (k p l e R s mi args below meth c b B D cI cZ scr Z C hZ H locs ls cells slots hH hS hL hc hs)
theorem wp_lcmp {d mc ms m pc nx : Nat} {L S : List Value} {σ σ' : Sto} {r : Option Value} {X : Nat × Nat × Nat × Int} {x y : Int64} (hd : ft m pc = some (.lcmp, 1, nx, X))  (k : WP d mc ms m nx L (.int (lg_cmp x y) :: S) σ r σ') : WP d mc ms m pc L (.long y :: .long x :: S) σ r σ' := by
  intro p l e R s mi args below meth c b B D cI cZ scr Z C hZ H locs ls cells slots hH hS hL hc hs
  obtain ⟨hdec, rfl, -⟩ := ft_dec hd
  exact W.lcmp C.1 C.2.1 hdec (k p l e R s mi args below meth c b B D cI cZ scr Z C hZ H locs ls cells slots hH hS hL hc hs)
theorem wp_i2l {d mc ms m pc nx : Nat} {L S : List Value} {σ σ' : Sto} {r : Option Value} {X : Nat × Nat × Nat × Int} {x : Int32} (hd : ft m pc = some (.i2l, 1, nx, X))  (k : WP d mc ms m nx L (.long x.toInt64 :: S) σ r σ') : WP d mc ms m pc L (.int x :: S) σ r σ' := by
  intro p l e R s mi args below meth c b B D cI cZ scr Z C hZ H locs ls cells slots hH hS hL hc hs
  obtain ⟨hdec, rfl, -⟩ := ft_dec hd
  exact lv_i2l C.1 C.2.1 hdec rfl (k p l e R s mi args below meth c b B D cI cZ scr Z C hZ H locs ls cells slots hH hS hL hc hs)
theorem wp_l2i {d mc ms m pc nx : Nat} {L S : List Value} {σ σ' : Sto} {r : Option Value} {X : Nat × Nat × Nat × Int} {x : Int64} (hd : ft m pc = some (.l2i, 1, nx, X))  (k : WP d mc ms m nx L (.int x.toInt32 :: S) σ r σ') : WP d mc ms m pc L (.long x :: S) σ r σ' := by
  intro p l e R s mi args below meth c b B D cI cZ scr Z C hZ H locs ls cells slots hH hS hL hc hs
  obtain ⟨hdec, rfl, -⟩ := ft_dec hd
  exact lv_l2i C.1 C.2.1 hdec rfl (k p l e R s mi args below meth c b B D cI cZ scr Z C hZ H locs ls cells slots hH hS hL hc hs)
theorem wp_dup {d mc ms m pc nx : Nat} {L S : List Value} {σ σ' : Sto} {r : Option Value} {X : Nat × Nat × Nat × Int} {v : Value} (hd : ft m pc = some (.dup, 1, nx, X)) (hv : v.category = 1) (k : WP d mc ms m nx L (v :: v :: S) σ r σ') : WP d mc ms m pc L (v :: S) σ r σ' := by
  intro p l e R s mi args below meth c b B D cI cZ scr Z C hZ H locs ls cells slots hH hS hL hc hs
  obtain ⟨hdec, rfl, -⟩ := ft_dec hd
  exact lv_dup C.1 C.2.1 hdec ((cv_cat b B v).trans hv) (k p l e R s mi args below meth c b B D cI cZ scr Z C hZ H locs ls cells slots hH hS hL hc hs)
theorem wp_pop {d mc ms m pc nx : Nat} {L S : List Value} {σ σ' : Sto} {r : Option Value} {X : Nat × Nat × Nat × Int} {v : Value} (hd : ft m pc = some (.pop, 1, nx, X)) (hv : v.category = 1) (k : WP d mc ms m nx L (S) σ r σ') : WP d mc ms m pc L (v :: S) σ r σ' := by
  intro p l e R s mi args below meth c b B D cI cZ scr Z C hZ H locs ls cells slots hH hS hL hc hs
  obtain ⟨hdec, rfl, -⟩ := ft_dec hd
  exact lv_pop C.1 C.2.1 hdec ((cv_cat b B v).trans hv) (k p l e R s mi args below meth c b B D cI cZ scr Z C hZ H locs ls cells slots hH hS hL hc hs)
theorem wp_dup2 {d mc ms m pc nx : Nat} {L S : List Value} {σ σ' : Sto} {r : Option Value} {X : Nat × Nat × Nat × Int} {v w : Value} (hd : ft m pc = some (.dup2, 1, nx, X)) (hv : v.category = 1) (hw : w.category = 1) (k : WP d mc ms m nx L (v :: w :: v :: w :: S) σ r σ') : WP d mc ms m pc L (v :: w :: S) σ r σ' := by
  intro p l e R s mi args below meth c b B D cI cZ scr Z C hZ H locs ls cells slots hH hS hL hc hs
  obtain ⟨hdec, rfl, -⟩ := ft_dec hd
  exact lv_dup2_11 C.1 C.2.1 hdec ((cv_cat b B v).trans hv) ((cv_cat b B w).trans hw) (k p l e R s mi args below meth c b B D cI cZ scr Z C hZ H locs ls cells slots hH hS hL hc hs)
theorem wp_icmp_eq {d mc ms m pc nx tg a2 a3 : Nat} {a4 : Int} {L S : List Value} {σ σ' : Sto} {r : Option Value} {x y : Int32} {off : Int} (hd : ft m pc = some (.if_icmp .eq off, 3, nx, tg, a2, a3, a4)) (h0 : 0 ≤ (pc : Int) + off) (kt : x = y → WP d mc ms m tg L S σ r σ') (kf : ¬ x = y → WP d mc ms m nx L S σ r σ') : WP d mc ms m pc L (.int y :: .int x :: S) σ r σ' := by
  intro p l e R s mi args below meth c b B D cI cZ scr Z C hZ H locs ls cells slots hH hS hL hc hs
  obtain ⟨hdec, rfl, hrs⟩ := ft_dec hd
  have ht : (pc : Int) + off = (tg : Int) := by
    have : ((pc : Int) + off).toNat = tg := congrArg (fun z => z.1) hrs
    omega
  exact lv_icmp_eq C.1 C.2.1 hdec ht (fun h => kt h p l e R s mi args below meth c b B D cI cZ scr Z C hZ H locs ls cells slots hH hS hL hc hs) (fun h => kf h p l e R s mi args below meth c b B D cI cZ scr Z C hZ H locs ls cells slots hH hS hL hc hs)
theorem wp_if_eq {d mc ms m pc nx tg a2 a3 : Nat} {a4 : Int} {L S : List Value} {σ σ' : Sto} {r : Option Value} {x : Int32} {off : Int} (hd : ft m pc = some (.ifCond .eq off, 3, nx, tg, a2, a3, a4)) (h0 : 0 ≤ (pc : Int) + off) (kt : x = 0 → WP d mc ms m tg L S σ r σ') (kf : ¬ x = 0 → WP d mc ms m nx L S σ r σ') : WP d mc ms m pc L (.int x :: S) σ r σ' := by
  intro p l e R s mi args below meth c b B D cI cZ scr Z C hZ H locs ls cells slots hH hS hL hc hs
  obtain ⟨hdec, rfl, hrs⟩ := ft_dec hd
  have ht : (pc : Int) + off = (tg : Int) := by
    have : ((pc : Int) + off).toNat = tg := congrArg (fun z => z.1) hrs
    omega
  exact lv_if_eq C.1 C.2.1 hdec ht (fun h => kt h p l e R s mi args below meth c b B D cI cZ scr Z C hZ H locs ls cells slots hH hS hL hc hs) (fun h => kf h p l e R s mi args below meth c b B D cI cZ scr Z C hZ H locs ls cells slots hH hS hL hc hs)
theorem wp_icmp_ne {d mc ms m pc nx tg a2 a3 : Nat} {a4 : Int} {L S : List Value} {σ σ' : Sto} {r : Option Value} {x y : Int32} {off : Int} (hd : ft m pc = some (.if_icmp .ne off, 3, nx, tg, a2, a3, a4)) (h0 : 0 ≤ (pc : Int) + off) (kt : ¬ x = y → WP d mc ms m tg L S σ r σ') (kf : x = y → WP d mc ms m nx L S σ r σ') : WP d mc ms m pc L (.int y :: .int x :: S) σ r σ' := by
  intro p l e R s mi args below meth c b B D cI cZ scr Z C hZ H locs ls cells slots hH hS hL hc hs
  obtain ⟨hdec, rfl, hrs⟩ := ft_dec hd
  have ht : (pc : Int) + off = (tg : Int) := by
    have : ((pc : Int) + off).toNat = tg := congrArg (fun z => z.1) hrs
    omega
  exact lv_icmp_ne C.1 C.2.1 hdec ht (fun h => kt h p l e R s mi args below meth c b B D cI cZ scr Z C hZ H locs ls cells slots hH hS hL hc hs) (fun h => kf h p l e R s mi args below meth c b B D cI cZ scr Z C hZ H locs ls cells slots hH hS hL hc hs)
theorem wp_if_ne {d mc ms m pc nx tg a2 a3 : Nat} {a4 : Int} {L S : List Value} {σ σ' : Sto} {r : Option Value} {x : Int32} {off : Int} (hd : ft m pc = some (.ifCond .ne off, 3, nx, tg, a2, a3, a4)) (h0 : 0 ≤ (pc : Int) + off) (kt : ¬ x = 0 → WP d mc ms m tg L S σ r σ') (kf : x = 0 → WP d mc ms m nx L S σ r σ') : WP d mc ms m pc L (.int x :: S) σ r σ' := by
  intro p l e R s mi args below meth c b B D cI cZ scr Z C hZ H locs ls cells slots hH hS hL hc hs
  obtain ⟨hdec, rfl, hrs⟩ := ft_dec hd
  have ht : (pc : Int) + off = (tg : Int) := by
    have : ((pc : Int) + off).toNat = tg := congrArg (fun z => z.1) hrs
    omega
  exact lv_if_ne C.1 C.2.1 hdec ht (fun h => kt h p l e R s mi args below meth c b B D cI cZ scr Z C hZ H locs ls cells slots hH hS hL hc hs) (fun h => kf h p l e R s mi args below meth c b B D cI cZ scr Z C hZ H locs ls cells slots hH hS hL hc hs)
theorem wp_icmp_lt {d mc ms m pc nx tg a2 a3 : Nat} {a4 : Int} {L S : List Value} {σ σ' : Sto} {r : Option Value} {x y : Int32} {off : Int} (hd : ft m pc = some (.if_icmp .lt off, 3, nx, tg, a2, a3, a4)) (h0 : 0 ≤ (pc : Int) + off) (kt : x < y → WP d mc ms m tg L S σ r σ') (kf : ¬ x < y → WP d mc ms m nx L S σ r σ') : WP d mc ms m pc L (.int y :: .int x :: S) σ r σ' := by
  intro p l e R s mi args below meth c b B D cI cZ scr Z C hZ H locs ls cells slots hH hS hL hc hs
  obtain ⟨hdec, rfl, hrs⟩ := ft_dec hd
  have ht : (pc : Int) + off = (tg : Int) := by
    have : ((pc : Int) + off).toNat = tg := congrArg (fun z => z.1) hrs
    omega
  exact lv_icmp_lt C.1 C.2.1 hdec ht (fun h => kt h p l e R s mi args below meth c b B D cI cZ scr Z C hZ H locs ls cells slots hH hS hL hc hs) (fun h => kf h p l e R s mi args below meth c b B D cI cZ scr Z C hZ H locs ls cells slots hH hS hL hc hs)
theorem wp_if_lt {d mc ms m pc nx tg a2 a3 : Nat} {a4 : Int} {L S : List Value} {σ σ' : Sto} {r : Option Value} {x : Int32} {off : Int} (hd : ft m pc = some (.ifCond .lt off, 3, nx, tg, a2, a3, a4)) (h0 : 0 ≤ (pc : Int) + off) (kt : x < 0 → WP d mc ms m tg L S σ r σ') (kf : ¬ x < 0 → WP d mc ms m nx L S σ r σ') : WP d mc ms m pc L (.int x :: S) σ r σ' := by
  intro p l e R s mi args below meth c b B D cI cZ scr Z C hZ H locs ls cells slots hH hS hL hc hs
  obtain ⟨hdec, rfl, hrs⟩ := ft_dec hd
  have ht : (pc : Int) + off = (tg : Int) := by
    have : ((pc : Int) + off).toNat = tg := congrArg (fun z => z.1) hrs
    omega
  exact lv_if_lt C.1 C.2.1 hdec ht (fun h => kt h p l e R s mi args below meth c b B D cI cZ scr Z C hZ H locs ls cells slots hH hS hL hc hs) (fun h => kf h p l e R s mi args below meth c b B D cI cZ scr Z C hZ H locs ls cells slots hH hS hL hc hs)
theorem wp_icmp_ge {d mc ms m pc nx tg a2 a3 : Nat} {a4 : Int} {L S : List Value} {σ σ' : Sto} {r : Option Value} {x y : Int32} {off : Int} (hd : ft m pc = some (.if_icmp .ge off, 3, nx, tg, a2, a3, a4)) (h0 : 0 ≤ (pc : Int) + off) (kt : y ≤ x → WP d mc ms m tg L S σ r σ') (kf : ¬ y ≤ x → WP d mc ms m nx L S σ r σ') : WP d mc ms m pc L (.int y :: .int x :: S) σ r σ' := by
  intro p l e R s mi args below meth c b B D cI cZ scr Z C hZ H locs ls cells slots hH hS hL hc hs
  obtain ⟨hdec, rfl, hrs⟩ := ft_dec hd
  have ht : (pc : Int) + off = (tg : Int) := by
    have : ((pc : Int) + off).toNat = tg := congrArg (fun z => z.1) hrs
    omega
  exact lv_icmp_ge C.1 C.2.1 hdec ht (fun h => kt h p l e R s mi args below meth c b B D cI cZ scr Z C hZ H locs ls cells slots hH hS hL hc hs) (fun h => kf h p l e R s mi args below meth c b B D cI cZ scr Z C hZ H locs ls cells slots hH hS hL hc hs)
theorem wp_if_ge {d mc ms m pc nx tg a2 a3 : Nat} {a4 : Int} {L S : List Value} {σ σ' : Sto} {r : Option Value} {x : Int32} {off : Int} (hd : ft m pc = some (.ifCond .ge off, 3, nx, tg, a2, a3, a4)) (h0 : 0 ≤ (pc : Int) + off) (kt : 0 ≤ x → WP d mc ms m tg L S σ r σ') (kf : ¬ 0 ≤ x → WP d mc ms m nx L S σ r σ') : WP d mc ms m pc L (.int x :: S) σ r σ' := by
  intro p l e R s mi args below meth c b B D cI cZ scr Z C hZ H locs ls cells slots hH hS hL hc hs
  obtain ⟨hdec, rfl, hrs⟩ := ft_dec hd
  have ht : (pc : Int) + off = (tg : Int) := by
    have : ((pc : Int) + off).toNat = tg := congrArg (fun z => z.1) hrs
    omega
  exact lv_if_ge C.1 C.2.1 hdec ht (fun h => kt h p l e R s mi args below meth c b B D cI cZ scr Z C hZ H locs ls cells slots hH hS hL hc hs) (fun h => kf h p l e R s mi args below meth c b B D cI cZ scr Z C hZ H locs ls cells slots hH hS hL hc hs)
theorem wp_icmp_gt {d mc ms m pc nx tg a2 a3 : Nat} {a4 : Int} {L S : List Value} {σ σ' : Sto} {r : Option Value} {x y : Int32} {off : Int} (hd : ft m pc = some (.if_icmp .gt off, 3, nx, tg, a2, a3, a4)) (h0 : 0 ≤ (pc : Int) + off) (kt : y < x → WP d mc ms m tg L S σ r σ') (kf : ¬ y < x → WP d mc ms m nx L S σ r σ') : WP d mc ms m pc L (.int y :: .int x :: S) σ r σ' := by
  intro p l e R s mi args below meth c b B D cI cZ scr Z C hZ H locs ls cells slots hH hS hL hc hs
  obtain ⟨hdec, rfl, hrs⟩ := ft_dec hd
  have ht : (pc : Int) + off = (tg : Int) := by
    have : ((pc : Int) + off).toNat = tg := congrArg (fun z => z.1) hrs
    omega
  exact lv_icmp_gt C.1 C.2.1 hdec ht (fun h => kt h p l e R s mi args below meth c b B D cI cZ scr Z C hZ H locs ls cells slots hH hS hL hc hs) (fun h => kf h p l e R s mi args below meth c b B D cI cZ scr Z C hZ H locs ls cells slots hH hS hL hc hs)
theorem wp_if_gt {d mc ms m pc nx tg a2 a3 : Nat} {a4 : Int} {L S : List Value} {σ σ' : Sto} {r : Option Value} {x : Int32} {off : Int} (hd : ft m pc = some (.ifCond .gt off, 3, nx, tg, a2, a3, a4)) (h0 : 0 ≤ (pc : Int) + off) (kt : 0 < x → WP d mc ms m tg L S σ r σ') (kf : ¬ 0 < x → WP d mc ms m nx L S σ r σ') : WP d mc ms m pc L (.int x :: S) σ r σ' := by
  intro p l e R s mi args below meth c b B D cI cZ scr Z C hZ H locs ls cells slots hH hS hL hc hs
  obtain ⟨hdec, rfl, hrs⟩ := ft_dec hd
  have ht : (pc : Int) + off = (tg : Int) := by
    have : ((pc : Int) + off).toNat = tg := congrArg (fun z => z.1) hrs
    omega
  exact lv_if_gt C.1 C.2.1 hdec ht (fun h => kt h p l e R s mi args below meth c b B D cI cZ scr Z C hZ H locs ls cells slots hH hS hL hc hs) (fun h => kf h p l e R s mi args below meth c b B D cI cZ scr Z C hZ H locs ls cells slots hH hS hL hc hs)
theorem wp_icmp_le {d mc ms m pc nx tg a2 a3 : Nat} {a4 : Int} {L S : List Value} {σ σ' : Sto} {r : Option Value} {x y : Int32} {off : Int} (hd : ft m pc = some (.if_icmp .le off, 3, nx, tg, a2, a3, a4)) (h0 : 0 ≤ (pc : Int) + off) (kt : x ≤ y → WP d mc ms m tg L S σ r σ') (kf : ¬ x ≤ y → WP d mc ms m nx L S σ r σ') : WP d mc ms m pc L (.int y :: .int x :: S) σ r σ' := by
  intro p l e R s mi args below meth c b B D cI cZ scr Z C hZ H locs ls cells slots hH hS hL hc hs
  obtain ⟨hdec, rfl, hrs⟩ := ft_dec hd
  have ht : (pc : Int) + off = (tg : Int) := by
    have : ((pc : Int) + off).toNat = tg := congrArg (fun z => z.1) hrs
    omega
  exact lv_icmp_le C.1 C.2.1 hdec ht (fun h => kt h p l e R s mi args below meth c b B D cI cZ scr Z C hZ H locs ls cells slots hH hS hL hc hs) (fun h => kf h p l e R s mi args below meth c b B D cI cZ scr Z C hZ H locs ls cells slots hH hS hL hc hs)
theorem wp_if_le {d mc ms m pc nx tg a2 a3 : Nat} {a4 : Int} {L S : List Value} {σ σ' : Sto} {r : Option Value} {x : Int32} {off : Int} (hd : ft m pc = some (.ifCond .le off, 3, nx, tg, a2, a3, a4)) (h0 : 0 ≤ (pc : Int) + off) (kt : x ≤ 0 → WP d mc ms m tg L S σ r σ') (kf : ¬ x ≤ 0 → WP d mc ms m nx L S σ r σ') : WP d mc ms m pc L (.int x :: S) σ r σ' := by
  intro p l e R s mi args below meth c b B D cI cZ scr Z C hZ H locs ls cells slots hH hS hL hc hs
  obtain ⟨hdec, rfl, hrs⟩ := ft_dec hd
  have ht : (pc : Int) + off = (tg : Int) := by
    have : ((pc : Int) + off).toNat = tg := congrArg (fun z => z.1) hrs
    omega
  exact lv_if_le C.1 C.2.1 hdec ht (fun h => kt h p l e R s mi args below meth c b B D cI cZ scr Z C hZ H locs ls cells slots hH hS hL hc hs) (fun h => kf h p l e R s mi args below meth c b B D cI cZ scr Z C hZ H locs ls cells slots hH hS hL hc hs)
theorem wp_goto {d mc ms m pc nx tg a2 a3 : Nat} {a4 : Int} {L S : List Value} {σ σ' : Sto} {r : Option Value} {off : Int} (hd : ft m pc = some (.goto off, 3, nx, tg, a2, a3, a4)) (h0 : 0 ≤ (pc : Int) + off) (k : WP d mc ms m tg L S σ r σ') : WP d mc ms m pc L S σ r σ' := by
  intro p l e R s mi args below meth c b B D cI cZ scr Z C hZ H locs ls cells slots hH hS hL hc hs
  obtain ⟨hdec, rfl, hrs⟩ := ft_dec hd
  have ht : (pc : Int) + off = (tg : Int) := by
    have : ((pc : Int) + off).toNat = tg := congrArg (fun z => z.1) hrs
    omega
  exact lv_goto C.1 C.2.1 hdec ht (k p l e R s mi args below meth c b B D cI cZ scr Z C hZ H locs ls cells slots hH hS hL hc hs)
theorem wp_swin {d mc ms m pc nx : Nat} {L S : List Value} {σ σ' : Sto} {r : Option Value} {X : Nat × Nat × Nat × Int} {dflt lo hi : Int} {offs : Array Int} {len tgt : Nat} {x : Int32} {off : Int} (hd : ft m pc = some (.tableswitch dflt lo hi offs, len, nx, X)) (h1 : ¬ x.toInt < lo) (h2 : ¬ hi < x.toInt) (ho : offs[(x.toInt - lo).toNat]? = some off) (ht : (pc : Int) + off = (tgt : Int)) (k : WP d mc ms m tgt L S σ r σ') : WP d mc ms m pc L (.int x :: S) σ r σ' := by
  intro p l e R s mi args below meth c b B D cI cZ scr Z C hZ H locs ls cells slots hH hS hL hc hs
  obtain ⟨hdec, rfl, -⟩ := ft_dec hd
  exact lv_tableIn C.1 C.2.1 hdec h1 h2 ho ht (k p l e R s mi args below meth c b B D cI cZ scr Z C hZ H locs ls cells slots hH hS hL hc hs)
theorem wp_swout {d mc ms m pc nx : Nat} {L S : List Value} {σ σ' : Sto} {r : Option Value} {X : Nat × Nat × Nat × Int} {dflt lo hi : Int} {offs : Array Int} {len tgt : Nat} {x : Int32} (hd : ft m pc = some (.tableswitch dflt lo hi offs, len, nx, X)) (h : x.toInt < lo ∨ hi < x.toInt) (ht : (pc : Int) + dflt = (tgt : Int)) (k : WP d mc ms m tgt L S σ r σ') : WP d mc ms m pc L (.int x :: S) σ r σ' := by
  intro p l e R s mi args below meth c b B D cI cZ scr Z C hZ H locs ls cells slots hH hS hL hc hs
  obtain ⟨hdec, rfl, -⟩ := ft_dec hd
  exact lv_tableOut C.1 C.2.1 hdec h ht (k p l e R s mi args below meth c b B D cI cZ scr Z C hZ H locs ls cells slots hH hS hL hc hs)
theorem wp_ldc {d mc ms m pc nx a1 a2 a3 idx : Nat} {L S : List Value} {σ σ' : Sto} {r : Option Value} {z : Int} {v : Int32} (hd : ft m pc = some (.ldc idx, 2, nx, a1, a2, a3, z)) (h9 : a3 ≠ 99) (h0 : a1 = 0) (hv : Int32.ofInt z = v) (k : WP d mc ms m nx L (.int v :: S) σ r σ') : WP d mc ms m pc L S σ r σ' := by
  intro p l e R s mi args below meth c b B D cI cZ scr Z C hZ H locs ls cells slots hH hS hL hc hs
  obtain ⟨hdec, rfl, hrs⟩ := ft_dec hd
  subst hv
  exact lv_ldc C.1 C.2.1 C.2.2.2.1 (C.2.2.2.2.1 _ (gt_at ((k_all _ (look_in hrs h9)).1 h0) rfl)) hdec (k p l e R s mi args below meth c b B D cI cZ scr Z C hZ H locs ls cells slots hH hS hL hc hs)
theorem wp_ldc2 {d mc ms m pc nx a1 a2 a3 idx : Nat} {L S : List Value} {σ σ' : Sto} {r : Option Value} {z : Int} {v : Int64} (hd : ft m pc = some (.ldc2_w idx, 3, nx, a1, a2, a3, z)) (h9 : a3 ≠ 99) (h0 : a1 = 1) (hv : Int64.ofInt z = v) (k : WP d mc ms m nx L (.long v :: S) σ r σ') : WP d mc ms m pc L S σ r σ' := by
  intro p l e R s mi args below meth c b B D cI cZ scr Z C hZ H locs ls cells slots hH hS hL hc hs
  obtain ⟨hdec, rfl, hrs⟩ := ft_dec hd
  subst hv
  exact lv_ldc2 C.1 C.2.1 C.2.2.2.1 (C.2.2.2.2.1 _ (gt_at ((k_all _ (look_in hrs h9)).2 h0) rfl)) hdec (k p l e R s mi args below meth c b B D cI cZ scr Z C hZ H locs ls cells slots hH hS hL hc hs)
theorem wp_iret {d mc ms m pc nx : Nat} {L S : List Value} {σ σ' : Sto} {r : Option Value} {X : Nat × Nat × Nat × Int} {x : Int32} (hd : ft m pc = some (.ireturn, 1, nx, X)) (ht : rt m = some .int) (hr : r = some (.int x)) (hσ : σ' = σ) : WP d mc ms m pc L [.int x] σ r σ' := by
  intro p l e R s mi args below meth c b B D cI cZ scr Z C hZ H locs ls cells slots hH hS hL hc hs
  subst hr; subst hσ
  exact hZ H locs ls pc _ cells slots (Or.inl ⟨rfl, x, rfl, Or.inl ht⟩) (ft_dec hd).1 hH hS (by omega) (by omega)
theorem wp_zret {d mc ms m pc nx : Nat} {L S : List Value} {σ σ' : Sto} {r : Option Value} {X : Nat × Nat × Nat × Int} {x : Int32} (hd : ft m pc = some (.ireturn, 1, nx, X)) (ht : rt m = some .boolean) (h01 : x = 0 ∨ x = 1) (hr : r = some (.int x)) (hσ : σ' = σ) : WP d mc ms m pc L [.int x] σ r σ' := by
  intro p l e R s mi args below meth c b B D cI cZ scr Z C hZ H locs ls cells slots hH hS hL hc hs
  subst hr; subst hσ
  exact hZ H locs ls pc _ cells slots (Or.inl ⟨rfl, x, rfl, Or.inr ⟨ht, h01⟩⟩) (ft_dec hd).1 hH hS (by omega) (by omega)
theorem wp_lret {d mc ms m pc nx : Nat} {L S : List Value} {σ σ' : Sto} {r : Option Value} {X : Nat × Nat × Nat × Int} {x : Int64} (hd : ft m pc = some (.lreturn, 1, nx, X)) (ht : rt m = some .long) (hr : r = some (.long x)) (hσ : σ' = σ) : WP d mc ms m pc L [.long x] σ r σ' := by
  intro p l e R s mi args below meth c b B D cI cZ scr Z C hZ H locs ls cells slots hH hS hL hc hs
  subst hr; subst hσ
  exact hZ H locs ls pc _ cells slots (Or.inr (Or.inl ⟨rfl, x, rfl, ht⟩)) (ft_dec hd).1 hH hS (by omega) (by omega)
theorem wp_vret {d mc ms m pc nx : Nat} {L S : List Value} {σ σ' : Sto} {r : Option Value} {X : Nat × Nat × Nat × Int} (hd : ft m pc = some (.return_, 1, nx, X)) (ht : rt m = none) (hr : r = none) (hσ : σ' = σ) : WP d mc ms m pc L [] σ r σ' := by
  intro p l e R s mi args below meth c b B D cI cZ scr Z C hZ H locs ls cells slots hH hS hL hc hs
  subst hr; subst hσ
  exact hZ H locs ls pc _ cells slots (Or.inr (Or.inr ⟨rfl, rfl, ht⟩)) (ft_dec hd).1 hH hS (by omega) (by omega)
theorem wp_iload_0 {d mc ms m pc nx : Nat} {L S : List Value} {σ σ' : Sto} {r : Option Value} {X : Nat × Nat × Nat × Int}  {x : Int32} (hd : ft m pc = some (.iload_n 0, 1, nx, X)) (k : WP d mc ms m nx (.int x :: L) (.int x :: S) σ r σ') : WP d mc ms m pc (.int x :: L) S σ r σ' := by
  intro p l e R s mi args below meth c b B D cI cZ scr Z C hZ H locs ls cells slots hH hS hL hc hs
  obtain ⟨hdec, rfl, -⟩ := ft_dec hd
  exact lv_iload_n C.1 C.2.1 hdec rfl (hL.get (k := 0) (v := .int x) rfl (fun h => by cases h)) (k p l e R s mi args below meth c b B D cI cZ scr Z C hZ H locs ls cells slots hH hS hL hc hs)
theorem wp_aload_0 {d mc ms m pc nx : Nat} {L S : List Value} {σ σ' : Sto} {r : Option Value} {X : Nat × Nat × Nat × Int}  {x : Nat} (hd : ft m pc = some (.aload_n 0, 1, nx, X)) (k : WP d mc ms m nx (.ref x :: L) (.ref x :: S) σ r σ') : WP d mc ms m pc (.ref x :: L) S σ r σ' := by
  intro p l e R s mi args below meth c b B D cI cZ scr Z C hZ H locs ls cells slots hH hS hL hc hs
  obtain ⟨hdec, rfl, -⟩ := ft_dec hd
  exact lv_aload_n C.1 C.2.1 hdec rfl (hL.get (k := 0) (v := .ref x) rfl (fun h => by cases h)) (k p l e R s mi args below meth c b B D cI cZ scr Z C hZ H locs ls cells slots hH hS hL hc hs)
theorem wp_lload_0 {d mc ms m pc nx : Nat} {L S : List Value} {σ σ' : Sto} {r : Option Value} {X : Nat × Nat × Nat × Int}  {x : Int64} (hd : ft m pc = some (.lload_n 0, 1, nx, X)) (k : WP d mc ms m nx (.long x :: L) (.long x :: S) σ r σ') : WP d mc ms m pc (.long x :: L) S σ r σ' := by
  intro p l e R s mi args below meth c b B D cI cZ scr Z C hZ H locs ls cells slots hH hS hL hc hs
  obtain ⟨hdec, rfl, -⟩ := ft_dec hd
  exact lv_lload_n C.1 C.2.1 hdec rfl (hL.get (k := 0) (v := .long x) rfl (fun h => by cases h)) (k p l e R s mi args below meth c b B D cI cZ scr Z C hZ H locs ls cells slots hH hS hL hc hs)
theorem wp_istore_0 {d mc ms m pc nx : Nat} {L S : List Value} {σ σ' : Sto} {r : Option Value} {X : Nat × Nat × Nat × Int}  {u : Value} {x : Int32} (hd : ft m pc = some (.istore_n 0, 1, nx, X)) (hn : 0 < ml m)  (k : WP d mc ms m nx (.int x :: L) S σ r σ') : WP d mc ms m pc (u :: L) (.int x :: S) σ r σ' := by
  intro p l e R s mi args below meth c b B D cI cZ scr Z C hZ H locs ls cells slots hH hS hL hc hs
  obtain ⟨hdec, rfl, -⟩ := ft_dec hd
  refine lv_istore_n C.1 C.2.1 hdec rfl hL hn rfl (fun ls' hl' => ?_)
  exact k p l e R s mi args below meth c b B D cI cZ scr Z C hZ H locs ls' cells slots hH hS (Lr.set1 (v := .int x) hl' (fun j w hj hw => by cases hj)) hc hs
theorem wp_astore_0 {d mc ms m pc nx : Nat} {L S : List Value} {σ σ' : Sto} {r : Option Value} {X : Nat × Nat × Nat × Int}  {u : Value} {x : Nat} (hd : ft m pc = some (.astore_n 0, 1, nx, X)) (hn : 0 < ml m)  (k : WP d mc ms m nx (.ref x :: L) S σ r σ') : WP d mc ms m pc (u :: L) (.ref x :: S) σ r σ' := by
  intro p l e R s mi args below meth c b B D cI cZ scr Z C hZ H locs ls cells slots hH hS hL hc hs
  obtain ⟨hdec, rfl, -⟩ := ft_dec hd
  refine lv_astore_n C.1 C.2.1 hdec rfl hL hn rfl (fun ls' hl' => ?_)
  exact k p l e R s mi args below meth c b B D cI cZ scr Z C hZ H locs ls' cells slots hH hS (Lr.set1 (v := .ref x) hl' (fun j w hj hw => by cases hj)) hc hs
theorem wp_lstore_0 {d mc ms m pc nx : Nat} {L S : List Value} {σ σ' : Sto} {r : Option Value} {X : Nat × Nat × Nat × Int}  {u u2 : Value} {x : Int64} (hd : ft m pc = some (.lstore_n 0, 1, nx, X)) (hn : 0 + 1 < ml m)  (k : WP d mc ms m nx (.long x :: .null :: L) S σ r σ') : WP d mc ms m pc (u :: u2 :: L) (.long x :: S) σ r σ' := by
  intro p l e R s mi args below meth c b B D cI cZ scr Z C hZ H locs ls cells slots hH hS hL hc hs
  obtain ⟨hdec, rfl, -⟩ := ft_dec hd
  refine lv_lstore_n C.1 C.2.1 hdec rfl hL hn rfl (fun ls' hl' => ?_)
  exact k p l e R s mi args below meth c b B D cI cZ scr Z C hZ H locs ls' cells slots hH hS (Lr.set2 (v := .long x) hl' (fun j w hj hw => by cases hj)) hc hs
theorem wp_iinc_0 {d mc ms m pc nx : Nat} {L S : List Value} {σ σ' : Sto} {r : Option Value} {X : Nat × Nat × Nat × Int}  {x v : Int32} {n : Int} (hd : ft m pc = some (.iinc 0 n, 3, nx, X)) (hn : 0 < ml m)  (hv : x + Int32.ofInt n = v) (k : WP d mc ms m nx (.int v :: L) S σ r σ') : WP d mc ms m pc (.int x :: L) S σ r σ' := by
  intro p l e R s mi args below meth c b B D cI cZ scr Z C hZ H locs ls cells slots hH hS hL hc hs
  obtain ⟨hdec, rfl, -⟩ := ft_dec hd
  obtain ⟨j, hj⟩ := List.getElem?_of_mem (lvo_mem (q := (0, .int x)).mpr ⟨.int x, (rfl : (Value.int x :: L)[0]? = some (.int x)), (fun h => by cases h), (rfl : Value.int x = cv b B (.int x))⟩)
  refine lv_iinc C.1 C.2.1 hdec hL hj hv hn rfl (fun ls' hl' => ?_)
  exact k p l e R s mi args below meth c b B D cI cZ scr Z C hZ H locs ls' cells slots hH hS (Lr.set1 (v := .int v) hl' (fun j w hj hw => by cases hj)) hc hs
theorem wp_iload_1 {d mc ms m pc nx : Nat} {L S : List Value} {σ σ' : Sto} {r : Option Value} {X : Nat × Nat × Nat × Int} {l0 : Value} {x : Int32} (hd : ft m pc = some (.iload_n 1, 1, nx, X)) (k : WP d mc ms m nx (l0 :: .int x :: L) (.int x :: S) σ r σ') : WP d mc ms m pc (l0 :: .int x :: L) S σ r σ' := by
  intro p l e R s mi args below meth c b B D cI cZ scr Z C hZ H locs ls cells slots hH hS hL hc hs
  obtain ⟨hdec, rfl, -⟩ := ft_dec hd
  exact lv_iload_n C.1 C.2.1 hdec rfl (hL.get (k := 1) (v := .int x) rfl (fun h => by cases h)) (k p l e R s mi args below meth c b B D cI cZ scr Z C hZ H locs ls cells slots hH hS hL hc hs)
theorem wp_aload_1 {d mc ms m pc nx : Nat} {L S : List Value} {σ σ' : Sto} {r : Option Value} {X : Nat × Nat × Nat × Int} {l0 : Value} {x : Nat} (hd : ft m pc = some (.aload_n 1, 1, nx, X)) (k : WP d mc ms m nx (l0 :: .ref x :: L) (.ref x :: S) σ r σ') : WP d mc ms m pc (l0 :: .ref x :: L) S σ r σ' := by
  intro p l e R s mi args below meth c b B D cI cZ scr Z C hZ H locs ls cells slots hH hS hL hc hs
  obtain ⟨hdec, rfl, -⟩ := ft_dec hd
  exact lv_aload_n C.1 C.2.1 hdec rfl (hL.get (k := 1) (v := .ref x) rfl (fun h => by cases h)) (k p l e R s mi args below meth c b B D cI cZ scr Z C hZ H locs ls cells slots hH hS hL hc hs)
theorem wp_lload_1 {d mc ms m pc nx : Nat} {L S : List Value} {σ σ' : Sto} {r : Option Value} {X : Nat × Nat × Nat × Int} {l0 : Value} {x : Int64} (hd : ft m pc = some (.lload_n 1, 1, nx, X)) (k : WP d mc ms m nx (l0 :: .long x :: L) (.long x :: S) σ r σ') : WP d mc ms m pc (l0 :: .long x :: L) S σ r σ' := by
  intro p l e R s mi args below meth c b B D cI cZ scr Z C hZ H locs ls cells slots hH hS hL hc hs
  obtain ⟨hdec, rfl, -⟩ := ft_dec hd
  exact lv_lload_n C.1 C.2.1 hdec rfl (hL.get (k := 1) (v := .long x) rfl (fun h => by cases h)) (k p l e R s mi args below meth c b B D cI cZ scr Z C hZ H locs ls cells slots hH hS hL hc hs)
theorem wp_istore_1 {d mc ms m pc nx : Nat} {L S : List Value} {σ σ' : Sto} {r : Option Value} {X : Nat × Nat × Nat × Int} {l0 : Value} {u : Value} {x : Int32} (hd : ft m pc = some (.istore_n 1, 1, nx, X)) (hn : 1 < ml m) (hp : l0.category = 1) (k : WP d mc ms m nx (l0 :: .int x :: L) S σ r σ') : WP d mc ms m pc (l0 :: u :: L) (.int x :: S) σ r σ' := by
  intro p l e R s mi args below meth c b B D cI cZ scr Z C hZ H locs ls cells slots hH hS hL hc hs
  obtain ⟨hdec, rfl, -⟩ := ft_dec hd
  refine lv_istore_n C.1 C.2.1 hdec rfl hL hn rfl (fun ls' hl' => ?_)
  exact k p l e R s mi args below meth c b B D cI cZ scr Z C hZ H locs ls' cells slots hH hS (Lr.set1 (v := .int x) hl' (fun j w hj hw => by cases hj; cases hw; exact hp)) hc hs
theorem wp_astore_1 {d mc ms m pc nx : Nat} {L S : List Value} {σ σ' : Sto} {r : Option Value} {X : Nat × Nat × Nat × Int} {l0 : Value} {u : Value} {x : Nat} (hd : ft m pc = some (.astore_n 1, 1, nx, X)) (hn : 1 < ml m) (hp : l0.category = 1) (k : WP d mc ms m nx (l0 :: .ref x :: L) S σ r σ') : WP d mc ms m pc (l0 :: u :: L) (.ref x :: S) σ r σ' := by
  intro p l e R s mi args below meth c b B D cI cZ scr Z C hZ H locs ls cells slots hH hS hL hc hs
  obtain ⟨hdec, rfl, -⟩ := ft_dec hd
  refine lv_astore_n C.1 C.2.1 hdec rfl hL hn rfl (fun ls' hl' => ?_)
  exact k p l e R s mi args below meth c b B D cI cZ scr Z C hZ H locs ls' cells slots hH hS (Lr.set1 (v := .ref x) hl' (fun j w hj hw => by cases hj; cases hw; exact hp)) hc hs
theorem wp_lstore_1 {d mc ms m pc nx : Nat} {L S : List Value} {σ σ' : Sto} {r : Option Value} {X : Nat × Nat × Nat × Int} {l0 : Value} {u u2 : Value} {x : Int64} (hd : ft m pc = some (.lstore_n 1, 1, nx, X)) (hn : 1 + 1 < ml m) (hp : l0.category = 1) (k : WP d mc ms m nx (l0 :: .long x :: .null :: L) S σ r σ') : WP d mc ms m pc (l0 :: u :: u2 :: L) (.long x :: S) σ r σ' := by
  intro p l e R s mi args below meth c b B D cI cZ scr Z C hZ H locs ls cells slots hH hS hL hc hs
  obtain ⟨hdec, rfl, -⟩ := ft_dec hd
  refine lv_lstore_n C.1 C.2.1 hdec rfl hL hn rfl (fun ls' hl' => ?_)
  exact k p l e R s mi args below meth c b B D cI cZ scr Z C hZ H locs ls' cells slots hH hS (Lr.set2 (v := .long x) hl' (fun j w hj hw => by cases hj; cases hw; exact hp)) hc hs
theorem wp_iinc_1 {d mc ms m pc nx : Nat} {L S : List Value} {σ σ' : Sto} {r : Option Value} {X : Nat × Nat × Nat × Int} {l0 : Value} {x v : Int32} {n : Int} (hd : ft m pc = some (.iinc 1 n, 3, nx, X)) (hn : 1 < ml m) (hp : l0.category = 1) (hv : x + Int32.ofInt n = v) (k : WP d mc ms m nx (l0 :: .int v :: L) S σ r σ') : WP d mc ms m pc (l0 :: .int x :: L) S σ r σ' := by
  intro p l e R s mi args below meth c b B D cI cZ scr Z C hZ H locs ls cells slots hH hS hL hc hs
  obtain ⟨hdec, rfl, -⟩ := ft_dec hd
  obtain ⟨j, hj⟩ := List.getElem?_of_mem (lvo_mem (q := (1, .int x)).mpr ⟨.int x, (rfl : (l0 :: Value.int x :: L)[1]? = some (.int x)), (fun h => by cases h), (rfl : Value.int x = cv b B (.int x))⟩)
  refine lv_iinc C.1 C.2.1 hdec hL hj hv hn rfl (fun ls' hl' => ?_)
  exact k p l e R s mi args below meth c b B D cI cZ scr Z C hZ H locs ls' cells slots hH hS (Lr.set1 (v := .int v) hl' (fun j w hj hw => by cases hj; cases hw; exact hp)) hc hs
theorem wp_iload_2 {d mc ms m pc nx : Nat} {L S : List Value} {σ σ' : Sto} {r : Option Value} {X : Nat × Nat × Nat × Int} {l0 l1 : Value} {x : Int32} (hd : ft m pc = some (.iload_n 2, 1, nx, X)) (k : WP d mc ms m nx (l0 :: l1 :: .int x :: L) (.int x :: S) σ r σ') : WP d mc ms m pc (l0 :: l1 :: .int x :: L) S σ r σ' := by
  intro p l e R s mi args below meth c b B D cI cZ scr Z C hZ H locs ls cells slots hH hS hL hc hs
  obtain ⟨hdec, rfl, -⟩ := ft_dec hd
  exact lv_iload_n C.1 C.2.1 hdec rfl (hL.get (k := 2) (v := .int x) rfl (fun h => by cases h)) (k p l e R s mi args below meth c b B D cI cZ scr Z C hZ H locs ls cells slots hH hS hL hc hs)
theorem wp_aload_2 {d mc ms m pc nx : Nat} {L S : List Value} {σ σ' : Sto} {r : Option Value} {X : Nat × Nat × Nat × Int} {l0 l1 : Value} {x : Nat} (hd : ft m pc = some (.aload_n 2, 1, nx, X)) (k : WP d mc ms m nx (l0 :: l1 :: .ref x :: L) (.ref x :: S) σ r σ') : WP d mc ms m pc (l0 :: l1 :: .ref x :: L) S σ r σ' := by
  intro p l e R s mi args below meth c b B D cI cZ scr Z C hZ H locs ls cells slots hH hS hL hc hs
  obtain ⟨hdec, rfl, -⟩ := ft_dec hd
  exact lv_aload_n C.1 C.2.1 hdec rfl (hL.get (k := 2) (v := .ref x) rfl (fun h => by cases h)) (k p l e R s mi args below meth c b B D cI cZ scr Z C hZ H locs ls cells slots hH hS hL hc hs)
theorem wp_lload_2 {d mc ms m pc nx : Nat} {L S : List Value} {σ σ' : Sto} {r : Option Value} {X : Nat × Nat × Nat × Int} {l0 l1 : Value} {x : Int64} (hd : ft m pc = some (.lload_n 2, 1, nx, X)) (k : WP d mc ms m nx (l0 :: l1 :: .long x :: L) (.long x :: S) σ r σ') : WP d mc ms m pc (l0 :: l1 :: .long x :: L) S σ r σ' := by
  intro p l e R s mi args below meth c b B D cI cZ scr Z C hZ H locs ls cells slots hH hS hL hc hs
  obtain ⟨hdec, rfl, -⟩ := ft_dec hd
  exact lv_lload_n C.1 C.2.1 hdec rfl (hL.get (k := 2) (v := .long x) rfl (fun h => by cases h)) (k p l e R s mi args below meth c b B D cI cZ scr Z C hZ H locs ls cells slots hH hS hL hc hs)
theorem wp_istore_2 {d mc ms m pc nx : Nat} {L S : List Value} {σ σ' : Sto} {r : Option Value} {X : Nat × Nat × Nat × Int} {l0 l1 : Value} {u : Value} {x : Int32} (hd : ft m pc = some (.istore_n 2, 1, nx, X)) (hn : 2 < ml m) (hp : l1.category = 1) (k : WP d mc ms m nx (l0 :: l1 :: .int x :: L) S σ r σ') : WP d mc ms m pc (l0 :: l1 :: u :: L) (.int x :: S) σ r σ' := by
  intro p l e R s mi args below meth c b B D cI cZ scr Z C hZ H locs ls cells slots hH hS hL hc hs
  obtain ⟨hdec, rfl, -⟩ := ft_dec hd
  refine lv_istore_n C.1 C.2.1 hdec rfl hL hn rfl (fun ls' hl' => ?_)
  exact k p l e R s mi args below meth c b B D cI cZ scr Z C hZ H locs ls' cells slots hH hS (Lr.set1 (v := .int x) hl' (fun j w hj hw => by cases hj; cases hw; exact hp)) hc hs
theorem wp_astore_2 {d mc ms m pc nx : Nat} {L S : List Value} {σ σ' : Sto} {r : Option Value} {X : Nat × Nat × Nat × Int} {l0 l1 : Value} {u : Value} {x : Nat} (hd : ft m pc = some (.astore_n 2, 1, nx, X)) (hn : 2 < ml m) (hp : l1.category = 1) (k : WP d mc ms m nx (l0 :: l1 :: .ref x :: L) S σ r σ') : WP d mc ms m pc (l0 :: l1 :: u :: L) (.ref x :: S) σ r σ' := by
  intro p l e R s mi args below meth c b B D cI cZ scr Z C hZ H locs ls cells slots hH hS hL hc hs
  obtain ⟨hdec, rfl, -⟩ := ft_dec hd
  refine lv_astore_n C.1 C.2.1 hdec rfl hL hn rfl (fun ls' hl' => ?_)
  exact k p l e R s mi args below meth c b B D cI cZ scr Z C hZ H locs ls' cells slots hH hS (Lr.set1 (v := .ref x) hl' (fun j w hj hw => by cases hj; cases hw; exact hp)) hc hs
theorem wp_lstore_2 {d mc ms m pc nx : Nat} {L S : List Value} {σ σ' : Sto} {r : Option Value} {X : Nat × Nat × Nat × Int} {l0 l1 : Value} {u u2 : Value} {x : Int64} (hd : ft m pc = some (.lstore_n 2, 1, nx, X)) (hn : 2 + 1 < ml m) (hp : l1.category = 1) (k : WP d mc ms m nx (l0 :: l1 :: .long x :: .null :: L) S σ r σ') : WP d mc ms m pc (l0 :: l1 :: u :: u2 :: L) (.long x :: S) σ r σ' := by
  intro p l e R s mi args below meth c b B D cI cZ scr Z C hZ H locs ls cells slots hH hS hL hc hs
  obtain ⟨hdec, rfl, -⟩ := ft_dec hd
  refine lv_lstore_n C.1 C.2.1 hdec rfl hL hn rfl (fun ls' hl' => ?_)
  exact k p l e R s mi args below meth c b B D cI cZ scr Z C hZ H locs ls' cells slots hH hS (Lr.set2 (v := .long x) hl' (fun j w hj hw => by cases hj; cases hw; exact hp)) hc hs
theorem wp_iinc_2 {d mc ms m pc nx : Nat} {L S : List Value} {σ σ' : Sto} {r : Option Value} {X : Nat × Nat × Nat × Int} {l0 l1 : Value} {x v : Int32} {n : Int} (hd : ft m pc = some (.iinc 2 n, 3, nx, X)) (hn : 2 < ml m) (hp : l1.category = 1) (hv : x + Int32.ofInt n = v) (k : WP d mc ms m nx (l0 :: l1 :: .int v :: L) S σ r σ') : WP d mc ms m pc (l0 :: l1 :: .int x :: L) S σ r σ' := by
  intro p l e R s mi args below meth c b B D cI cZ scr Z C hZ H locs ls cells slots hH hS hL hc hs
  obtain ⟨hdec, rfl, -⟩ := ft_dec hd
  obtain ⟨j, hj⟩ := List.getElem?_of_mem (lvo_mem (q := (2, .int x)).mpr ⟨.int x, (rfl : (l0 :: l1 :: Value.int x :: L)[2]? = some (.int x)), (fun h => by cases h), (rfl : Value.int x = cv b B (.int x))⟩)
  refine lv_iinc C.1 C.2.1 hdec hL hj hv hn rfl (fun ls' hl' => ?_)
  exact k p l e R s mi args below meth c b B D cI cZ scr Z C hZ H locs ls' cells slots hH hS (Lr.set1 (v := .int v) hl' (fun j w hj hw => by cases hj; cases hw; exact hp)) hc hs
theorem wp_iload_3 {d mc ms m pc nx : Nat} {L S : List Value} {σ σ' : Sto} {r : Option Value} {X : Nat × Nat × Nat × Int} {l0 l1 l2 : Value} {x : Int32} (hd : ft m pc = some (.iload_n 3, 1, nx, X)) (k : WP d mc ms m nx (l0 :: l1 :: l2 :: .int x :: L) (.int x :: S) σ r σ') : WP d mc ms m pc (l0 :: l1 :: l2 :: .int x :: L) S σ r σ' := by
  intro p l e R s mi args below meth c b B D cI cZ scr Z C hZ H locs ls cells slots hH hS hL hc hs
  obtain ⟨hdec, rfl, -⟩ := ft_dec hd
  exact lv_iload_n C.1 C.2.1 hdec rfl (hL.get (k := 3) (v := .int x) rfl (fun h => by cases h)) (k p l e R s mi args below meth c b B D cI cZ scr Z C hZ H locs ls cells slots hH hS hL hc hs)
theorem wp_aload_3 {d mc ms m pc nx : Nat} {L S : List Value} {σ σ' : Sto} {r : Option Value} {X : Nat × Nat × Nat × Int} {l0 l1 l2 : Value} {x : Nat} (hd : ft m pc = some (.aload_n 3, 1, nx, X)) (k : WP d mc ms m nx (l0 :: l1 :: l2 :: .ref x :: L) (.ref x :: S) σ r σ') : WP d mc ms m pc (l0 :: l1 :: l2 :: .ref x :: L) S σ r σ' := by
  intro p l e R s mi args below meth c b B D cI cZ scr Z C hZ H locs ls cells slots hH hS hL hc hs
  obtain ⟨hdec, rfl, -⟩ := ft_dec hd
  exact lv_aload_n C.1 C.2.1 hdec rfl (hL.get (k := 3) (v := .ref x) rfl (fun h => by cases h)) (k p l e R s mi args below meth c b B D cI cZ scr Z C hZ H locs ls cells slots hH hS hL hc hs)
theorem wp_lload_3 {d mc ms m pc nx : Nat} {L S : List Value} {σ σ' : Sto} {r : Option Value} {X : Nat × Nat × Nat × Int} {l0 l1 l2 : Value} {x : Int64} (hd : ft m pc = some (.lload_n 3, 1, nx, X)) (k : WP d mc ms m nx (l0 :: l1 :: l2 :: .long x :: L) (.long x :: S) σ r σ') : WP d mc ms m pc (l0 :: l1 :: l2 :: .long x :: L) S σ r σ' := by
  intro p l e R s mi args below meth c b B D cI cZ scr Z C hZ H locs ls cells slots hH hS hL hc hs
  obtain ⟨hdec, rfl, -⟩ := ft_dec hd
  exact lv_lload_n C.1 C.2.1 hdec rfl (hL.get (k := 3) (v := .long x) rfl (fun h => by cases h)) (k p l e R s mi args below meth c b B D cI cZ scr Z C hZ H locs ls cells slots hH hS hL hc hs)
theorem wp_istore_3 {d mc ms m pc nx : Nat} {L S : List Value} {σ σ' : Sto} {r : Option Value} {X : Nat × Nat × Nat × Int} {l0 l1 l2 : Value} {u : Value} {x : Int32} (hd : ft m pc = some (.istore_n 3, 1, nx, X)) (hn : 3 < ml m) (hp : l2.category = 1) (k : WP d mc ms m nx (l0 :: l1 :: l2 :: .int x :: L) S σ r σ') : WP d mc ms m pc (l0 :: l1 :: l2 :: u :: L) (.int x :: S) σ r σ' := by
  intro p l e R s mi args below meth c b B D cI cZ scr Z C hZ H locs ls cells slots hH hS hL hc hs
  obtain ⟨hdec, rfl, -⟩ := ft_dec hd
  refine lv_istore_n C.1 C.2.1 hdec rfl hL hn rfl (fun ls' hl' => ?_)
  exact k p l e R s mi args below meth c b B D cI cZ scr Z C hZ H locs ls' cells slots hH hS (Lr.set1 (v := .int x) hl' (fun j w hj hw => by cases hj; cases hw; exact hp)) hc hs
theorem wp_astore_3 {d mc ms m pc nx : Nat} {L S : List Value} {σ σ' : Sto} {r : Option Value} {X : Nat × Nat × Nat × Int} {l0 l1 l2 : Value} {u : Value} {x : Nat} (hd : ft m pc = some (.astore_n 3, 1, nx, X)) (hn : 3 < ml m) (hp : l2.category = 1) (k : WP d mc ms m nx (l0 :: l1 :: l2 :: .ref x :: L) S σ r σ') : WP d mc ms m pc (l0 :: l1 :: l2 :: u :: L) (.ref x :: S) σ r σ' := by
  intro p l e R s mi args below meth c b B D cI cZ scr Z C hZ H locs ls cells slots hH hS hL hc hs
  obtain ⟨hdec, rfl, -⟩ := ft_dec hd
  refine lv_astore_n C.1 C.2.1 hdec rfl hL hn rfl (fun ls' hl' => ?_)
  exact k p l e R s mi args below meth c b B D cI cZ scr Z C hZ H locs ls' cells slots hH hS (Lr.set1 (v := .ref x) hl' (fun j w hj hw => by cases hj; cases hw; exact hp)) hc hs
theorem wp_iinc_3 {d mc ms m pc nx : Nat} {L S : List Value} {σ σ' : Sto} {r : Option Value} {X : Nat × Nat × Nat × Int} {l0 l1 l2 : Value} {x v : Int32} {n : Int} (hd : ft m pc = some (.iinc 3 n, 3, nx, X)) (hn : 3 < ml m) (hp : l2.category = 1) (hv : x + Int32.ofInt n = v) (k : WP d mc ms m nx (l0 :: l1 :: l2 :: .int v :: L) S σ r σ') : WP d mc ms m pc (l0 :: l1 :: l2 :: .int x :: L) S σ r σ' := by
  intro p l e R s mi args below meth c b B D cI cZ scr Z C hZ H locs ls cells slots hH hS hL hc hs
  obtain ⟨hdec, rfl, -⟩ := ft_dec hd
  obtain ⟨j, hj⟩ := List.getElem?_of_mem (lvo_mem (q := (3, .int x)).mpr ⟨.int x, (rfl : (l0 :: l1 :: l2 :: Value.int x :: L)[3]? = some (.int x)), (fun h => by cases h), (rfl : Value.int x = cv b B (.int x))⟩)
  refine lv_iinc C.1 C.2.1 hdec hL hj hv hn rfl (fun ls' hl' => ?_)
  exact k p l e R s mi args below meth c b B D cI cZ scr Z C hZ H locs ls' cells slots hH hS (Lr.set1 (v := .int v) hl' (fun j w hj hw => by cases hj; cases hw; exact hp)) hc hs
theorem wp_iload_4 {d mc ms m pc nx : Nat} {L S : List Value} {σ σ' : Sto} {r : Option Value} {X : Nat × Nat × Nat × Int} {l0 l1 l2 l3 : Value} {x : Int32} (hd : ft m pc = some (.iload 4, 2, nx, X)) (k : WP d mc ms m nx (l0 :: l1 :: l2 :: l3 :: .int x :: L) (.int x :: S) σ r σ') : WP d mc ms m pc (l0 :: l1 :: l2 :: l3 :: .int x :: L) S σ r σ' := by
  intro p l e R s mi args below meth c b B D cI cZ scr Z C hZ H locs ls cells slots hH hS hL hc hs
  obtain ⟨hdec, rfl, -⟩ := ft_dec hd
  exact lv_iload C.1 C.2.1 hdec (hL.get (k := 4) (v := .int x) rfl (fun h => by cases h)) (k p l e R s mi args below meth c b B D cI cZ scr Z C hZ H locs ls cells slots hH hS hL hc hs)
theorem wp_aload_4 {d mc ms m pc nx : Nat} {L S : List Value} {σ σ' : Sto} {r : Option Value} {X : Nat × Nat × Nat × Int} {l0 l1 l2 l3 : Value} {x : Nat} (hd : ft m pc = some (.aload 4, 2, nx, X)) (k : WP d mc ms m nx (l0 :: l1 :: l2 :: l3 :: .ref x :: L) (.ref x :: S) σ r σ') : WP d mc ms m pc (l0 :: l1 :: l2 :: l3 :: .ref x :: L) S σ r σ' := by
  intro p l e R s mi args below meth c b B D cI cZ scr Z C hZ H locs ls cells slots hH hS hL hc hs
  obtain ⟨hdec, rfl, -⟩ := ft_dec hd
  exact lv_aload C.1 C.2.1 hdec (hL.get (k := 4) (v := .ref x) rfl (fun h => by cases h)) (k p l e R s mi args below meth c b B D cI cZ scr Z C hZ H locs ls cells slots hH hS hL hc hs)
theorem wp_lload_4 {d mc ms m pc nx : Nat} {L S : List Value} {σ σ' : Sto} {r : Option Value} {X : Nat × Nat × Nat × Int} {l0 l1 l2 l3 : Value} {x : Int64} (hd : ft m pc = some (.lload 4, 2, nx, X)) (k : WP d mc ms m nx (l0 :: l1 :: l2 :: l3 :: .long x :: L) (.long x :: S) σ r σ') : WP d mc ms m pc (l0 :: l1 :: l2 :: l3 :: .long x :: L) S σ r σ' := by
  intro p l e R s mi args below meth c b B D cI cZ scr Z C hZ H locs ls cells slots hH hS hL hc hs
  obtain ⟨hdec, rfl, -⟩ := ft_dec hd
  exact lv_lload C.1 C.2.1 hdec (hL.get (k := 4) (v := .long x) rfl (fun h => by cases h)) (k p l e R s mi args below meth c b B D cI cZ scr Z C hZ H locs ls cells slots hH hS hL hc hs)
theorem wp_istore_4 {d mc ms m pc nx : Nat} {L S : List Value} {σ σ' : Sto} {r : Option Value} {X : Nat × Nat × Nat × Int} {l0 l1 l2 l3 : Value} {u : Value} {x : Int32} (hd : ft m pc = some (.istore 4, 2, nx, X)) (hn : 4 < ml m) (hp : l3.category = 1) (k : WP d mc ms m nx (l0 :: l1 :: l2 :: l3 :: .int x :: L) S σ r σ') : WP d mc ms m pc (l0 :: l1 :: l2 :: l3 :: u :: L) (.int x :: S) σ r σ' := by
  intro p l e R s mi args below meth c b B D cI cZ scr Z C hZ H locs ls cells slots hH hS hL hc hs
  obtain ⟨hdec, rfl, -⟩ := ft_dec hd
  refine lv_istore C.1 C.2.1 hdec hL hn rfl (fun ls' hl' => ?_)
  exact k p l e R s mi args below meth c b B D cI cZ scr Z C hZ H locs ls' cells slots hH hS (Lr.set1 (v := .int x) hl' (fun j w hj hw => by cases hj; cases hw; exact hp)) hc hs
theorem wp_iinc_4 {d mc ms m pc nx : Nat} {L S : List Value} {σ σ' : Sto} {r : Option Value} {X : Nat × Nat × Nat × Int} {l0 l1 l2 l3 : Value} {x v : Int32} {n : Int} (hd : ft m pc = some (.iinc 4 n, 3, nx, X)) (hn : 4 < ml m) (hp : l3.category = 1) (hv : x + Int32.ofInt n = v) (k : WP d mc ms m nx (l0 :: l1 :: l2 :: l3 :: .int v :: L) S σ r σ') : WP d mc ms m pc (l0 :: l1 :: l2 :: l3 :: .int x :: L) S σ r σ' := by
  intro p l e R s mi args below meth c b B D cI cZ scr Z C hZ H locs ls cells slots hH hS hL hc hs
  obtain ⟨hdec, rfl, -⟩ := ft_dec hd
  obtain ⟨j, hj⟩ := List.getElem?_of_mem (lvo_mem (q := (4, .int x)).mpr ⟨.int x, (rfl : (l0 :: l1 :: l2 :: l3 :: Value.int x :: L)[4]? = some (.int x)), (fun h => by cases h), (rfl : Value.int x = cv b B (.int x))⟩)
  refine lv_iinc C.1 C.2.1 hdec hL hj hv hn rfl (fun ls' hl' => ?_)
  exact k p l e R s mi args below meth c b B D cI cZ scr Z C hZ H locs ls' cells slots hH hS (Lr.set1 (v := .int v) hl' (fun j w hj hw => by cases hj; cases hw; exact hp)) hc hs
theorem wp_iload_5 {d mc ms m pc nx : Nat} {L S : List Value} {σ σ' : Sto} {r : Option Value} {X : Nat × Nat × Nat × Int} {l0 l1 l2 l3 l4 : Value} {x : Int32} (hd : ft m pc = some (.iload 5, 2, nx, X)) (k : WP d mc ms m nx (l0 :: l1 :: l2 :: l3 :: l4 :: .int x :: L) (.int x :: S) σ r σ') : WP d mc ms m pc (l0 :: l1 :: l2 :: l3 :: l4 :: .int x :: L) S σ r σ' := by
  intro p l e R s mi args below meth c b B D cI cZ scr Z C hZ H locs ls cells slots hH hS hL hc hs
  obtain ⟨hdec, rfl, -⟩ := ft_dec hd
  exact lv_iload C.1 C.2.1 hdec (hL.get (k := 5) (v := .int x) rfl (fun h => by cases h)) (k p l e R s mi args below meth c b B D cI cZ scr Z C hZ H locs ls cells slots hH hS hL hc hs)
theorem wp_aload_5 {d mc ms m pc nx : Nat} {L S : List Value} {σ σ' : Sto} {r : Option Value} {X : Nat × Nat × Nat × Int} {l0 l1 l2 l3 l4 : Value} {x : Nat} (hd : ft m pc = some (.aload 5, 2, nx, X)) (k : WP d mc ms m nx (l0 :: l1 :: l2 :: l3 :: l4 :: .ref x :: L) (.ref x :: S) σ r σ') : WP d mc ms m pc (l0 :: l1 :: l2 :: l3 :: l4 :: .ref x :: L) S σ r σ' := by
  intro p l e R s mi args below meth c b B D cI cZ scr Z C hZ H locs ls cells slots hH hS hL hc hs
  obtain ⟨hdec, rfl, -⟩ := ft_dec hd
  exact lv_aload C.1 C.2.1 hdec (hL.get (k := 5) (v := .ref x) rfl (fun h => by cases h)) (k p l e R s mi args below meth c b B D cI cZ scr Z C hZ H locs ls cells slots hH hS hL hc hs)
theorem wp_istore_5 {d mc ms m pc nx : Nat} {L S : List Value} {σ σ' : Sto} {r : Option Value} {X : Nat × Nat × Nat × Int} {l0 l1 l2 l3 l4 : Value} {u : Value} {x : Int32} (hd : ft m pc = some (.istore 5, 2, nx, X)) (hn : 5 < ml m) (hp : l4.category = 1) (k : WP d mc ms m nx (l0 :: l1 :: l2 :: l3 :: l4 :: .int x :: L) S σ r σ') : WP d mc ms m pc (l0 :: l1 :: l2 :: l3 :: l4 :: u :: L) (.int x :: S) σ r σ' := by
  intro p l e R s mi args below meth c b B D cI cZ scr Z C hZ H locs ls cells slots hH hS hL hc hs
  obtain ⟨hdec, rfl, -⟩ := ft_dec hd
  refine lv_istore C.1 C.2.1 hdec hL hn rfl (fun ls' hl' => ?_)
  exact k p l e R s mi args below meth c b B D cI cZ scr Z C hZ H locs ls' cells slots hH hS (Lr.set1 (v := .int x) hl' (fun j w hj hw => by cases hj; cases hw; exact hp)) hc hs
theorem wp_iinc_5 {d mc ms m pc nx : Nat} {L S : List Value} {σ σ' : Sto} {r : Option Value} {X : Nat × Nat × Nat × Int} {l0 l1 l2 l3 l4 : Value} {x v : Int32} {n : Int} (hd : ft m pc = some (.iinc 5 n, 3, nx, X)) (hn : 5 < ml m) (hp : l4.category = 1) (hv : x + Int32.ofInt n = v) (k : WP d mc ms m nx (l0 :: l1 :: l2 :: l3 :: l4 :: .int v :: L) S σ r σ') : WP d mc ms m pc (l0 :: l1 :: l2 :: l3 :: l4 :: .int x :: L) S σ r σ' := by
  intro p l e R s mi args below meth c b B D cI cZ scr Z C hZ H locs ls cells slots hH hS hL hc hs
  obtain ⟨hdec, rfl, -⟩ := ft_dec hd
  obtain ⟨j, hj⟩ := List.getElem?_of_mem (lvo_mem (q := (5, .int x)).mpr ⟨.int x, (rfl : (l0 :: l1 :: l2 :: l3 :: l4 :: Value.int x :: L)[5]? = some (.int x)), (fun h => by cases h), (rfl : Value.int x = cv b B (.int x))⟩)
  refine lv_iinc C.1 C.2.1 hdec hL hj hv hn rfl (fun ls' hl' => ?_)
  exact k p l e R s mi args below meth c b B D cI cZ scr Z C hZ H locs ls' cells slots hH hS (Lr.set1 (v := .int v) hl' (fun j w hj hw => by cases hj; cases hw; exact hp)) hc hs
theorem wp_iload_6 {d mc ms m pc nx : Nat} {L S : List Value} {σ σ' : Sto} {r : Option Value} {X : Nat × Nat × Nat × Int} {l0 l1 l2 l3 l4 l5 : Value} {x : Int32} (hd : ft m pc = some (.iload 6, 2, nx, X)) (k : WP d mc ms m nx (l0 :: l1 :: l2 :: l3 :: l4 :: l5 :: .int x :: L) (.int x :: S) σ r σ') : WP d mc ms m pc (l0 :: l1 :: l2 :: l3 :: l4 :: l5 :: .int x :: L) S σ r σ' := by
  intro p l e R s mi args below meth c b B D cI cZ scr Z C hZ H locs ls cells slots hH hS hL hc hs
  obtain ⟨hdec, rfl, -⟩ := ft_dec hd
  exact lv_iload C.1 C.2.1 hdec (hL.get (k := 6) (v := .int x) rfl (fun h => by cases h)) (k p l e R s mi args below meth c b B D cI cZ scr Z C hZ H locs ls cells slots hH hS hL hc hs)
theorem wp_aload_6 {d mc ms m pc nx : Nat} {L S : List Value} {σ σ' : Sto} {r : Option Value} {X : Nat × Nat × Nat × Int} {l0 l1 l2 l3 l4 l5 : Value} {x : Nat} (hd : ft m pc = some (.aload 6, 2, nx, X)) (k : WP d mc ms m nx (l0 :: l1 :: l2 :: l3 :: l4 :: l5 :: .ref x :: L) (.ref x :: S) σ r σ') : WP d mc ms m pc (l0 :: l1 :: l2 :: l3 :: l4 :: l5 :: .ref x :: L) S σ r σ' := by
  intro p l e R s mi args below meth c b B D cI cZ scr Z C hZ H locs ls cells slots hH hS hL hc hs
  obtain ⟨hdec, rfl, -⟩ := ft_dec hd
  exact lv_aload C.1 C.2.1 hdec (hL.get (k := 6) (v := .ref x) rfl (fun h => by cases h)) (k p l e R s mi args below meth c b B D cI cZ scr Z C hZ H locs ls cells slots hH hS hL hc hs)
theorem wp_istore_6 {d mc ms m pc nx : Nat} {L S : List Value} {σ σ' : Sto} {r : Option Value} {X : Nat × Nat × Nat × Int} {l0 l1 l2 l3 l4 l5 : Value} {u : Value} {x : Int32} (hd : ft m pc = some (.istore 6, 2, nx, X)) (hn : 6 < ml m) (hp : l5.category = 1) (k : WP d mc ms m nx (l0 :: l1 :: l2 :: l3 :: l4 :: l5 :: .int x :: L) S σ r σ') : WP d mc ms m pc (l0 :: l1 :: l2 :: l3 :: l4 :: l5 :: u :: L) (.int x :: S) σ r σ' := by
  intro p l e R s mi args below meth c b B D cI cZ scr Z C hZ H locs ls cells slots hH hS hL hc hs
  obtain ⟨hdec, rfl, -⟩ := ft_dec hd
  refine lv_istore C.1 C.2.1 hdec hL hn rfl (fun ls' hl' => ?_)
  exact k p l e R s mi args below meth c b B D cI cZ scr Z C hZ H locs ls' cells slots hH hS (Lr.set1 (v := .int x) hl' (fun j w hj hw => by cases hj; cases hw; exact hp)) hc hs
theorem wp_iinc_6 {d mc ms m pc nx : Nat} {L S : List Value} {σ σ' : Sto} {r : Option Value} {X : Nat × Nat × Nat × Int} {l0 l1 l2 l3 l4 l5 : Value} {x v : Int32} {n : Int} (hd : ft m pc = some (.iinc 6 n, 3, nx, X)) (hn : 6 < ml m) (hp : l5.category = 1) (hv : x + Int32.ofInt n = v) (k : WP d mc ms m nx (l0 :: l1 :: l2 :: l3 :: l4 :: l5 :: .int v :: L) S σ r σ') : WP d mc ms m pc (l0 :: l1 :: l2 :: l3 :: l4 :: l5 :: .int x :: L) S σ r σ' := by
  intro p l e R s mi args below meth c b B D cI cZ scr Z C hZ H locs ls cells slots hH hS hL hc hs
  obtain ⟨hdec, rfl, -⟩ := ft_dec hd
  obtain ⟨j, hj⟩ := List.getElem?_of_mem (lvo_mem (q := (6, .int x)).mpr ⟨.int x, (rfl : (l0 :: l1 :: l2 :: l3 :: l4 :: l5 :: Value.int x :: L)[6]? = some (.int x)), (fun h => by cases h), (rfl : Value.int x = cv b B (.int x))⟩)
  refine lv_iinc C.1 C.2.1 hdec hL hj hv hn rfl (fun ls' hl' => ?_)
  exact k p l e R s mi args below meth c b B D cI cZ scr Z C hZ H locs ls' cells slots hH hS (Lr.set1 (v := .int v) hl' (fun j w hj hw => by cases hj; cases hw; exact hp)) hc hs
theorem wp_iload_7 {d mc ms m pc nx : Nat} {L S : List Value} {σ σ' : Sto} {r : Option Value} {X : Nat × Nat × Nat × Int} {l0 l1 l2 l3 l4 l5 l6 : Value} {x : Int32} (hd : ft m pc = some (.iload 7, 2, nx, X)) (k : WP d mc ms m nx (l0 :: l1 :: l2 :: l3 :: l4 :: l5 :: l6 :: .int x :: L) (.int x :: S) σ r σ') : WP d mc ms m pc (l0 :: l1 :: l2 :: l3 :: l4 :: l5 :: l6 :: .int x :: L) S σ r σ' := by
  intro p l e R s mi args below meth c b B D cI cZ scr Z C hZ H locs ls cells slots hH hS hL hc hs
  obtain ⟨hdec, rfl, -⟩ := ft_dec hd
  exact lv_iload C.1 C.2.1 hdec (hL.get (k := 7) (v := .int x) rfl (fun h => by cases h)) (k p l e R s mi args below meth c b B D cI cZ scr Z C hZ H locs ls cells slots hH hS hL hc hs)
theorem wp_aload_7 {d mc ms m pc nx : Nat} {L S : List Value} {σ σ' : Sto} {r : Option Value} {X : Nat × Nat × Nat × Int} {l0 l1 l2 l3 l4 l5 l6 : Value} {x : Nat} (hd : ft m pc = some (.aload 7, 2, nx, X)) (k : WP d mc ms m nx (l0 :: l1 :: l2 :: l3 :: l4 :: l5 :: l6 :: .ref x :: L) (.ref x :: S) σ r σ') : WP d mc ms m pc (l0 :: l1 :: l2 :: l3 :: l4 :: l5 :: l6 :: .ref x :: L) S σ r σ' := by
  intro p l e R s mi args below meth c b B D cI cZ scr Z C hZ H locs ls cells slots hH hS hL hc hs
  obtain ⟨hdec, rfl, -⟩ := ft_dec hd
  exact lv_aload C.1 C.2.1 hdec (hL.get (k := 7) (v := .ref x) rfl (fun h => by cases h)) (k p l e R s mi args below meth c b B D cI cZ scr Z C hZ H locs ls cells slots hH hS hL hc hs)
theorem wp_istore_7 {d mc ms m pc nx : Nat} {L S : List Value} {σ σ' : Sto} {r : Option Value} {X : Nat × Nat × Nat × Int} {l0 l1 l2 l3 l4 l5 l6 : Value} {u : Value} {x : Int32} (hd : ft m pc = some (.istore 7, 2, nx, X)) (hn : 7 < ml m) (hp : l6.category = 1) (k : WP d mc ms m nx (l0 :: l1 :: l2 :: l3 :: l4 :: l5 :: l6 :: .int x :: L) S σ r σ') : WP d mc ms m pc (l0 :: l1 :: l2 :: l3 :: l4 :: l5 :: l6 :: u :: L) (.int x :: S) σ r σ' := by
  intro p l e R s mi args below meth c b B D cI cZ scr Z C hZ H locs ls cells slots hH hS hL hc hs
  obtain ⟨hdec, rfl, -⟩ := ft_dec hd
  refine lv_istore C.1 C.2.1 hdec hL hn rfl (fun ls' hl' => ?_)
  exact k p l e R s mi args below meth c b B D cI cZ scr Z C hZ H locs ls' cells slots hH hS (Lr.set1 (v := .int x) hl' (fun j w hj hw => by cases hj; cases hw; exact hp)) hc hs
theorem wp_iinc_7 {d mc ms m pc nx : Nat} {L S : List Value} {σ σ' : Sto} {r : Option Value} {X : Nat × Nat × Nat × Int} {l0 l1 l2 l3 l4 l5 l6 : Value} {x v : Int32} {n : Int} (hd : ft m pc = some (.iinc 7 n, 3, nx, X)) (hn : 7 < ml m) (hp : l6.category = 1) (hv : x + Int32.ofInt n = v) (k : WP d mc ms m nx (l0 :: l1 :: l2 :: l3 :: l4 :: l5 :: l6 :: .int v :: L) S σ r σ') : WP d mc ms m pc (l0 :: l1 :: l2 :: l3 :: l4 :: l5 :: l6 :: .int x :: L) S σ r σ' := by
  intro p l e R s mi args below meth c b B D cI cZ scr Z C hZ H locs ls cells slots hH hS hL hc hs
  obtain ⟨hdec, rfl, -⟩ := ft_dec hd
  obtain ⟨j, hj⟩ := List.getElem?_of_mem (lvo_mem (q := (7, .int x)).mpr ⟨.int x, (rfl : (l0 :: l1 :: l2 :: l3 :: l4 :: l5 :: l6 :: Value.int x :: L)[7]? = some (.int x)), (fun h => by cases h), (rfl : Value.int x = cv b B (.int x))⟩)
  refine lv_iinc C.1 C.2.1 hdec hL hj hv hn rfl (fun ls' hl' => ?_)
  exact k p l e R s mi args below meth c b B D cI cZ scr Z C hZ H locs ls' cells slots hH hS (Lr.set1 (v := .int v) hl' (fun j w hj hw => by cases hj; cases hw; exact hp)) hc hs
theorem wp_iload_8 {d mc ms m pc nx : Nat} {L S : List Value} {σ σ' : Sto} {r : Option Value} {X : Nat × Nat × Nat × Int} {l0 l1 l2 l3 l4 l5 l6 l7 : Value} {x : Int32} (hd : ft m pc = some (.iload 8, 2, nx, X)) (k : WP d mc ms m nx (l0 :: l1 :: l2 :: l3 :: l4 :: l5 :: l6 :: l7 :: .int x :: L) (.int x :: S) σ r σ') : WP d mc ms m pc (l0 :: l1 :: l2 :: l3 :: l4 :: l5 :: l6 :: l7 :: .int x :: L) S σ r σ' := by
  intro p l e R s mi args below meth c b B D cI cZ scr Z C hZ H locs ls cells slots hH hS hL hc hs
  obtain ⟨hdec, rfl, -⟩ := ft_dec hd
  exact lv_iload C.1 C.2.1 hdec (hL.get (k := 8) (v := .int x) rfl (fun h => by cases h)) (k p l e R s mi args below meth c b B D cI cZ scr Z C hZ H locs ls cells slots hH hS hL hc hs)
theorem wp_aload_8 {d mc ms m pc nx : Nat} {L S : List Value} {σ σ' : Sto} {r : Option Value} {X : Nat × Nat × Nat × Int} {l0 l1 l2 l3 l4 l5 l6 l7 : Value} {x : Nat} (hd : ft m pc = some (.aload 8, 2, nx, X)) (k : WP d mc ms m nx (l0 :: l1 :: l2 :: l3 :: l4 :: l5 :: l6 :: l7 :: .ref x :: L) (.ref x :: S) σ r σ') : WP d mc ms m pc (l0 :: l1 :: l2 :: l3 :: l4 :: l5 :: l6 :: l7 :: .ref x :: L) S σ r σ' := by
  intro p l e R s mi args below meth c b B D cI cZ scr Z C hZ H locs ls cells slots hH hS hL hc hs
  obtain ⟨hdec, rfl, -⟩ := ft_dec hd
  exact lv_aload C.1 C.2.1 hdec (hL.get (k := 8) (v := .ref x) rfl (fun h => by cases h)) (k p l e R s mi args below meth c b B D cI cZ scr Z C hZ H locs ls cells slots hH hS hL hc hs)
theorem wp_istore_8 {d mc ms m pc nx : Nat} {L S : List Value} {σ σ' : Sto} {r : Option Value} {X : Nat × Nat × Nat × Int} {l0 l1 l2 l3 l4 l5 l6 l7 : Value} {u : Value} {x : Int32} (hd : ft m pc = some (.istore 8, 2, nx, X)) (hn : 8 < ml m) (hp : l7.category = 1) (k : WP d mc ms m nx (l0 :: l1 :: l2 :: l3 :: l4 :: l5 :: l6 :: l7 :: .int x :: L) S σ r σ') : WP d mc ms m pc (l0 :: l1 :: l2 :: l3 :: l4 :: l5 :: l6 :: l7 :: u :: L) (.int x :: S) σ r σ' := by
  intro p l e R s mi args below meth c b B D cI cZ scr Z C hZ H locs ls cells slots hH hS hL hc hs
  obtain ⟨hdec, rfl, -⟩ := ft_dec hd
  refine lv_istore C.1 C.2.1 hdec hL hn rfl (fun ls' hl' => ?_)
  exact k p l e R s mi args below meth c b B D cI cZ scr Z C hZ H locs ls' cells slots hH hS (Lr.set1 (v := .int x) hl' (fun j w hj hw => by cases hj; cases hw; exact hp)) hc hs
theorem wp_iinc_8 {d mc ms m pc nx : Nat} {L S : List Value} {σ σ' : Sto} {r : Option Value} {X : Nat × Nat × Nat × Int} {l0 l1 l2 l3 l4 l5 l6 l7 : Value} {x v : Int32} {n : Int} (hd : ft m pc = some (.iinc 8 n, 3, nx, X)) (hn : 8 < ml m) (hp : l7.category = 1) (hv : x + Int32.ofInt n = v) (k : WP d mc ms m nx (l0 :: l1 :: l2 :: l3 :: l4 :: l5 :: l6 :: l7 :: .int v :: L) S σ r σ') : WP d mc ms m pc (l0 :: l1 :: l2 :: l3 :: l4 :: l5 :: l6 :: l7 :: .int x :: L) S σ r σ' := by
  intro p l e R s mi args below meth c b B D cI cZ scr Z C hZ H locs ls cells slots hH hS hL hc hs
  obtain ⟨hdec, rfl, -⟩ := ft_dec hd
  obtain ⟨j, hj⟩ := List.getElem?_of_mem (lvo_mem (q := (8, .int x)).mpr ⟨.int x, (rfl : (l0 :: l1 :: l2 :: l3 :: l4 :: l5 :: l6 :: l7 :: Value.int x :: L)[8]? = some (.int x)), (fun h => by cases h), (rfl : Value.int x = cv b B (.int x))⟩)
  refine lv_iinc C.1 C.2.1 hdec hL hj hv hn rfl (fun ls' hl' => ?_)
  exact k p l e R s mi args below meth c b B D cI cZ scr Z C hZ H locs ls' cells slots hH hS (Lr.set1 (v := .int v) hl' (fun j w hj hw => by cases hj; cases hw; exact hp)) hc hs
end
section

section MEM
variable {p : Program} {l : Launch} {e : Env} {R : Room} {s : State} {m : MethodId} {args : Array Value} {below : List Frame} {meth : Method} {c : Code} {H : Heap} {locs : List Loc} {cells slots : Nat} {Q : State → Prop}
variable {cc : ByteArray} {pc : Nat} {ls : Array Slot} {rest : List Value} {D : va_G} {cl : List vw_C} {A : Nat → Prop} {a : Nat} {tys : List (ClassId × FieldType)} {ws : va_W} {H0 : Heap}
theorem my_put (hexec : p.tables.exec = Jvm.exec) (hb : c.code = cc) {own ref C : String} {T : u_T} {N ci index : Nat} {Ts : List Cond} (hts : ∀ w ∈ Ts, w.before args s = true) (hin : ∀ w ∈ u_ws C T N, w ∈ Ts) (ty0 : Nat → FieldType) (hty : ∀ k, k < N → parseFieldDescriptor (T k).2.2.1 = some (ty0 k)) (hnm : ∀ a, a < N → ∀ b, b < N → a ≠ b → (T a).2.1 ≠ (T b).2.1) (hown : s.vm.findClass own = some m.cls) (hK : va_K D cl tys s) (hP : va_P D cl ws H) (hD : va_D A ws) (hS0 : va_S A H0 H locs) (q0 : Nat) {fs : List Value} (he : ws[q0]? = some (a, .inr (ci, fs))) (hc : cl[ci]? = some (C, T, N)) (k : Nat) (hk : k < N) (hlink : (Cond.fieldLink own index ref (T k).2.1 (T k).2.2.1).before args s = true) (hsame : ∀ x, s.fieldFound? (T k).1 (T k).2.1 (T k).2.2.1 = some x → s.fieldFound? ref (T k).2.1 (T k).2.2.1 = some x) (hfin : (T k).2.2.2 = false) {ty : FieldType} {v : Value} (hd : parseFieldDescriptor (T k).2.2.1 = some ty) (hn : narrow ty v = v) (hfit : fits ty v = true) (hl : k < fs.length)
    (hdg : decode cc pc = .ok (.putfield index, 3)) (kk : ∀ (H1 : Heap) (locs1 : List Loc), va_P D cl (ws.set q0 (a, .inr (ci, fs.set k v))) H1 → H1.size = H.size → va_S A H0 H1 locs1 → W p l e R s m args below meth c H1 locs1 cells slots Q (F0 m (pc + 3) ls rest)) : W p l e R s m args below meth c H locs cells slots Q (F0 m pc ls (v :: .ref a :: rest)) := by
  have hap := va_apart (own := own) hts hin ty0 hty hnm hK hc
  obtain ⟨r, h1, cell, q1, q2, q3, q4⟩ := hP q0 _ he
  have hr : r = (C, T, N) := Option.some.inj (h1.symm.trans hc)
  subst hr
  obtain ⟨hS, hfc, kC, hkC, hkind⟩ := hK.1 ci _ hc
  obtain ⟨cf, kf, fi, f, hi, hsl⟩ := hS k hk
  have hlay := hts _ (hin _ (u_in_lay hk))
  unfold u_lay at hlay
  rw [if_neg (by rw [hfin]; decide)] at hlay
  have hst := (u_facts hfc hkC (u_lays hts hin hk) hi).1
  have h6 := u_store hfc hkC hkind hlay hi hd hn hfit
  refine W.putK hexec hb (f := f) ⟨hown, hlink, ⟨_, _, _, hsame _ hi⟩, hst⟩ (by rw [q2]; exact h6) q1 q3 (by rw [hsl]; exact k2_hasslot (q4 k hk)) rfl rfl hdg fun H' e1 e2 e3 => ?_
  rw [hsl] at e1 ⊢
  exact kk H' _ (hP.set hD he ⟨_, hc, t_OB.to (V := updV (vp_V fs) k v) ⟨_, e1, q2, q3, t_set q4 hap hk v⟩ (fun j _ => vp_updV_set hl v j)⟩ e3) e2 (hS0.put e2 e3 (hD.2 q0 _ he))
theorem my_putF (hexec : p.tables.exec = Jvm.exec) (hb : c.code = cc) {own ref C : String} {T : u_T} {N ci index : Nat} {Ts : List Cond} (hts : ∀ w ∈ Ts, w.before args s = true) (hin : ∀ w ∈ u_ws C T N, w ∈ Ts) (ty0 : Nat → FieldType) (hty : ∀ k, k < N → parseFieldDescriptor (T k).2.2.1 = some (ty0 k)) (hnm : ∀ a, a < N → ∀ b, b < N → a ≠ b → (T a).2.1 ≠ (T b).2.1) (hown : s.vm.findClass own = some m.cls) (hK : va_K D cl tys s) (hP : va_P D cl ws H) (hD : va_D A ws) (hS0 : va_S A H0 H locs) (q0 : Nat) {fs : List Value} (he : ws[q0]? = some (a, .inr (ci, fs))) (hc : cl[ci]? = some (C, T, N)) (k : Nat) (hk : k < N) (hlink : (Cond.fieldLink own index ref (T k).2.1 (T k).2.2.1).before args s = true) (hsame : ∀ x, s.fieldFound? (T k).1 (T k).2.1 (T k).2.2.1 = some x → s.fieldFound? ref (T k).2.1 (T k).2.2.1 = some x) (hfin : (T k).2.2.2 = true) (hin2 : meth.name = "<init>") (hdecl : (T k).1 = own) {ty : FieldType} {v : Value} (hd : parseFieldDescriptor (T k).2.2.1 = some ty) (hn : narrow ty v = v) (hfit : fits ty v = true) (hl : k < fs.length)
    (hdg : decode cc pc = .ok (.putfield index, 3)) (kk : ∀ (H1 : Heap) (locs1 : List Loc), va_P D cl (ws.set q0 (a, .inr (ci, fs.set k v))) H1 → H1.size = H.size → va_S A H0 H1 locs1 → W p l e R s m args below meth c H1 locs1 cells slots Q (F0 m (pc + 3) ls rest)) : W p l e R s m args below meth c H locs cells slots Q (F0 m pc ls (v :: .ref a :: rest)) := by
  have hap := va_apart (own := own) hts hin ty0 hty hnm hK hc
  obtain ⟨r, h1, cell, q1, q2, q3, q4⟩ := hP q0 _ he
  have hr : r = (C, T, N) := Option.some.inj (h1.symm.trans hc)
  subst hr
  obtain ⟨hS, hfc, kC, hkC, hkind⟩ := hK.1 ci _ hc
  obtain ⟨cf, kf, fi, f, hi, hsl⟩ := hS k hk
  have hlay := hts _ (hin _ (u_in_lay hk))
  unfold u_lay at hlay
  rw [if_pos hfin] at hlay
  have hst := (u_facts hfc hkC (u_lays hts hin hk) hi).1
  have hcf : m.cls = cf := by
    obtain ⟨_, _, c', _, _, _, -, -, hf', -, -, -, hown2, -⟩ := Cond.laysFinal_spec hlay
    have e1 : c' = cf := by have := hi.symm.trans hf'; simp at this; exact this.1.symm
    rw [hdecl] at hown2
    rw [← e1]; exact Option.some.inj (hown.symm.trans hown2)
  have h6 := u_fits hfc hkC hkind (Or.inr hlay) hi hd hn hfit
  refine W.putFinK hexec hb hown hlink (hsame _ hi) hst hcf hin2 (by rw [q2]; exact h6) q1 q3 (by rw [hsl]; exact k2_hasslot (q4 k hk)) rfl rfl hdg fun H' e1 e2 e3 => ?_
  rw [hsl] at e1 ⊢
  exact kk H' _ (hP.set hD he ⟨_, hc, t_OB.to (V := updV (vp_V fs) k v) ⟨_, e1, q2, q3, t_set q4 hap hk v⟩ (fun j _ => vp_updV_set hl v j)⟩ e3) e2 (hS0.put e2 e3 (hD.2 q0 _ he))
theorem my_iast (hexec : p.tables.exec = Jvm.exec) (hb : c.code = cc) (hK : va_K D cl tys s) (hP : va_P D cl ws H) (hD : va_D A ws) (hS : va_S A H0 H locs) (q0 t0 : Nat) {cA : ClassId} {n : Nat} {f : Nat → Int32} (ha : ws[q0]? = some (a, .inl (cA, n, .inl f))) (ht : tys[t0]? = some (cA, .int)) {i : Int32} {x : Int32} (hin : vp_in i n) (hdg : decode cc pc = .ok (.iastore, 1))
    (kk : ∀ (H1 : Heap) (locs1 : List Loc), va_P D cl (ws.set q0 (a, .inl (cA, n, .inl (upd f i.toNatClampNeg x)))) H1 → H1.size = H.size → va_S A H0 H1 locs1 → W p l e R s m args below meth c H1 locs1 cells slots Q (F0 m (pc + 1) ls rest)) : W p l e R s m args below meth c H locs cells slots Q (F0 m pc ls (.int x :: .int i :: .ref a :: rest)) := by
  refine W.iast hexec hb (hP q0 _ ha) ((hK.2 t0 _ ht).1 n (fun j => .int (f j))) (fun q => by cases q) (by show ¬ (i < 0 ∨ (arrV _ _ _).slots.size ≤ _); rw [arrV_size]; exact hin) rfl rfl hdg fun H1 e z oq => ?_
  refine kk H1 _ (hP.set hD ha ?_ oq) z (hS.put z oq (hD.2 q0 _ ha))
  show H1[a]? = some (vp_cell _ _)
  rw [e]
  rw [vp_cell_i, vp_cell_i, arrV_store]
  congr 2
  funext q
  by_cases hq : q = i.toNatClampNeg
  · subst hq
    simp [updV, upd]
  · simp [updV, upd, hq]
theorem my_zast (hexec : p.tables.exec = Jvm.exec) (hb : c.code = cc) (hK : va_K D cl tys s) (hP : va_P D cl ws H) (hD : va_D A ws) (hS : va_S A H0 H locs) (q0 t0 : Nat) {cA : ClassId} {n : Nat} {f : Nat → Int32} (ha : ws[q0]? = some (a, .inl (cA, n, .inl f))) (ht : tys[t0]? = some (cA, .boolean)) {i : Int32} {x : Int32} (hx01 : x = 0 ∨ x = 1) (hin : vp_in i n) (hdg : decode cc pc = .ok (.bastore, 1))
    (kk : ∀ (H1 : Heap) (locs1 : List Loc), va_P D cl (ws.set q0 (a, .inl (cA, n, .inl (upd f i.toNatClampNeg x)))) H1 → H1.size = H.size → va_S A H0 H1 locs1 → W p l e R s m args below meth c H1 locs1 cells slots Q (F0 m (pc + 1) ls rest)) : W p l e R s m args below meth c H locs cells slots Q (F0 m pc ls (.int x :: .int i :: .ref a :: rest)) := by
  refine W.zast hexec hb (hP q0 _ ha) ((hK.2 t0 _ ht).1 n (fun j => .int (f j))) (fun q => by cases q) (by show ¬ (i < 0 ∨ (arrV _ _ _).slots.size ≤ _); rw [arrV_size]; exact hin) rfl rfl hdg fun H1 e z oq => ?_
  refine kk H1 _ (hP.set hD ha ?_ oq) z (hS.put z oq (hD.2 q0 _ ha))
  show H1[a]? = some (vp_cell _ _)
  rw [e]
  rw [vp_cell_i, vp_cell_i, arrV_store]
  congr 2
  funext q
  by_cases hq : q = i.toNatClampNeg
  · subst hq
    rcases hx01 with rfl | rfl <;> simp [updV, upd] <;> rfl
  · simp [updV, upd, hq]
theorem call_go {b B : Nat} {cI cZ : ClassId} {scr : Cell} {mc1 ms1 : Nat} {r1 : Option Value} {σ1 : Sto} {st0 : List Value} {av : Array Value} (hr : va_Run p l e R s m args below meth c H locs cells slots mc1 ms1 (F0 m pc ls st0) rest (Qm b B D cI cZ scr r1 σ1 av) (fun q => B ≤ q)) (hS : va_S (fun q => B ≤ q) s.heap H locs)
    (kk : ∀ (H1 : Heap) (locs1 : List Loc), HI b B D cI cZ scr σ1 H1 → va_S (fun q => B ≤ q) s.heap H1 locs1 → W p l e R s m args below meth c H1 locs1 (cells + mc1) (slots + ms1) Q (F0 m (pc + 3) ls ((r1.map (cv b B)).toList ++ rest))) : W p l e R s m args below meth c H locs cells slots Q (F0 m pc ls st0) := by
  intro T hT X
  obtain ⟨v, st₀, t, T', L, h0, X', hL, e1, e2, ⟨hv, hH1, hz, hk⟩, st⟩ := hr T hT X
  cases hv
  rw [h0] at hz hk
  obtain ⟨t2, a1, b1⟩ := kk T'.heap (locs ++ L) (by rw [e1]; exact hH1) ⟨Nat.le_trans hS.1 (by rw [e1]; exact hz), fun q h1 h2 => by rw [e1, hk q (Nat.lt_of_lt_of_le h1 hS.1) h2]; exact hS.2.1 q h1 h2, fun q hq => by
      rcases List.mem_append.mp hq with h | h
      · exact hS.2.2 q h
      · exact hL q h⟩ T' rfl X'
  exact ⟨t2, st t2 a1, b1⟩
end MEM
theorem HI.up {b B : Nat} {D : va_G} {cI cZ : ClassId} {scr : Cell} {σ σ' : Sto} {H H1 : Heap} {s : State} {locs locs1 : List Loc} (h : HI b B D cI cZ scr σ H) (hbB : b < B) (hBs : B ≤ s.heap.size) (h1 : σ'.1 = σ.1) (hF : ∀ i, (σ'.2.1 i).length = (σ.2.1 i).length) (h0 : σ'.2.2 0 = σ.2.2 0) (hP : va_P D clss (wsT b B cI cZ σ') H1) (hz : H1.size = H.size) (hS : va_S (fun q => B ≤ q) s.heap H locs) (hS1 : va_S (fun q => B ≤ q) s.heap H1 locs1) : HI b B D cI cZ scr σ' H1 := by
  obtain ⟨a1, a2, a3, a4, a5, a6⟩ := h
  refine ⟨by rw [hz, h1]; exact a1, ?_, hP, by rw [h1]; exact a4, by rw [h0]; exact a5, fun i k hk h8 => ?_⟩
  · rw [hS1.2.1 b (by omega) (by show ¬ B ≤ b; omega), ← hS.2.1 b (by omega) (by show ¬ B ≤ b; omega)]
    exact a2
  · rw [hF]
    rw [h1] at hk
    exact a6 i k hk h8
def setF (σ : Sto) (o k : Nat) (v : Value) : Sto := (σ.1, fun i => if i = o then (σ.2.1 o).set k v else σ.2.1 i, σ.2.2)
def setA (σ : Sto) (a : Nat) (l : List Int32) : Sto := (σ.1, σ.2.1, fun i => if i = a then l else σ.2.2 i)
def refT (t : FieldType) : Bool := match t with
  | .object _ => true
  | .array _ => true
  | _ => false
theorem f_ref : ∀ e ∈ ftb, e.2.2.2.2.1 = 3 → refT (TY e.2.2.1 e.2.2.2.1) = true := by decide +kernel

theorem wp_get {d mc ms m pc nx idx cc k tg o : Nat} {ps : Int} {L S fs : List Value} {σ σ' : Sto} {r : Option Value} {v : Value} (hd : ft m pc = some (.getfield idx, 3, nx, cc, k, tg, ps)) (h9 : tg < 4) (hK : σ.1[o]? = some cc) (hF : σ.2.1 o = fs) (hv : fs[k]? = some v) (kk : WP d mc ms m nx L (v :: S) σ r σ') : WP d mc ms m pc L (.ref o :: S) σ r σ' := by
  intro p l e R s mi args below meth c b B D cI cZ scr Z C hZ H locs ls cells slots hH hS hL hc hs
  obtain ⟨hdec, rfl, hrs⟩ := ft_dec hd
  obtain ⟨h8, hkN, hown, -, hlk⟩ : cc < 8 ∧ k < NN cc ∧ (TT cc k).1 = RR cc ∧ tagOf (TY cc k) = tg ∧ lw_tbl[ps.toNat]? = some (.fieldLink (RR (ow m)) idx (RR cc) (TT cc k).2.1 (TT cc k).2.2.1) := f_all _ (look_in hrs (by omega))
  obtain ⟨i, rfl⟩ := hH.pos hK (by omega)
  exact va_get (D := D) (cl := clss) (ws := wsT b B cI cZ σ) (ci := cc) (v := cv b B v) (C := RR cc) (T := TT cc) (N := NN cc) (own := RR (ow m)) (ref := RR cc) C.1 C.2.1 C.2.2.2.2.1 (tw_gt cc h8) C.2.2.2.1 C.2.2.2.2.2.1 hH.2.2.1 i (ws_obj hK h8) (cl_all cc h8) k hkN (C.2.2.2.2.1 _ (gt_at hlk rfl)) (fun x h => by rw [hown] at h; exact h) (by rw [List.getElem?_map, hF, hv]; rfl) hdec (kk p l e R s mi args below meth c b B D cI cZ scr Z C hZ H locs ls cells slots hH hS hL hc hs)
theorem wp_put {d mc ms m pc nx idx cc k tg o : Nat} {ps : Int} {L S : List Value} {σ σ' : Sto} {r : Option Value} {v : Value} (hd : ft m pc = some (.putfield idx, 3, nx, cc, k, tg, ps)) (h9 : tg < 4) (hK : σ.1[o]? = some cc) (hv : ∀ b B, narrow (TY cc k) (cv b B v) = cv b B v ∧ fits (TY cc k) (cv b B v) = true) (hi : tg = 3 → (yy m).name = "<init>" ∧ RR cc = RR (ow m)) (kk : WP d mc ms m nx L S (setF σ o k v) r σ') : WP d mc ms m pc L (v :: .ref o :: S) σ r σ' := by
  intro p l e R s mi args below meth c b B D cI cZ scr Z C hZ H locs ls cells slots hH hS hL hc hs
  obtain ⟨hdec, rfl, hrs⟩ := ft_dec hd
  have hmem := look_in (tb := ftb) hrs (by omega)
  obtain ⟨h8, hkN, hown, -, hlk⟩ : cc < 8 ∧ k < NN cc ∧ (TT cc k).1 = RR cc ∧ tagOf (TY cc k) = tg ∧ lw_tbl[ps.toNat]? = some (.fieldLink (RR (ow m)) idx (RR cc) (TT cc k).2.1 (TT cc k).2.2.1) := f_all _ hmem
  have hfin : (TT cc k).2.2.2 = (tg == 3) := f_fin _ hmem
  obtain ⟨i, rfl⟩ := hH.pos hK (by omega)
  have hlen : (σ.2.1 (i + 1)).length = NN cc := hH.2.2.2.2.2 _ _ hK h8
  have hgo : ∀ (H1 : Heap) (locs1 : List Loc), va_P D clss ((wsT b B cI cZ σ).set i (B + i, .inr (cc, ((σ.2.1 (i + 1)).map (cv b B)).set k (cv b B v)))) H1 → H1.size = H.size → va_S (fun q => B ≤ q) s.heap H1 locs1 → W p l e R s mi args below meth c H1 locs1 cells slots Z (F0 mi (pc + 3) ls (S.map (cv b B))) := by
    intro H1 locs1 hP1 hz hS1
    rw [ws_up (b := b) (B := B) (cI := cI) (cZ := cZ) (σ := σ) (σ' := setF σ (i + 1) k v) rfl (fun j hj => ⟨by simp [setF, hj], rfl⟩) (by simp [ent, setF, List.getD, hK, h8, List.map_set])] at hP1
    refine kk p l e R s mi args below meth c b B D cI cZ scr Z C hZ H1 locs1 ls cells slots (hH.up C.2.2.2.2.2.2.1 C.2.2.2.2.2.2.2.1 rfl (fun j => ?_) rfl hP1 hz hS hS1) hS1 hL hc hs
    show (if j = i + 1 then (σ.2.1 (i + 1)).set k v else σ.2.1 j).length = _
    split
    · next h => rw [List.length_set, h]
    · rfl
  by_cases h3 : tg = 3
  · exact my_putF (D := D) (cl := clss) (ws := wsT b B cI cZ σ) (ci := cc) (v := cv b B v) (ty := TY cc k) (C := RR cc) (T := TT cc) (N := NN cc) (own := RR (ow m)) (ref := RR cc) C.1 C.2.1 C.2.2.2.2.1 (tw_gt cc h8) (TY cc) (ty_all cc h8) (nm_all cc h8) C.2.2.2.1 C.2.2.2.2.2.1 hH.2.2.1 (ws_D b B cI cZ σ) hS i (ws_obj hK h8) (cl_all cc h8) k hkN (C.2.2.2.2.1 _ (gt_at hlk rfl)) (fun x h => by rw [hown] at h; exact h) (by rw [hfin, h3]; rfl) (C.2.2.2.2.2.2.2.2.2.2.1 (hi h3).1) (hown.trans (hi h3).2) (ty_all cc h8 k hkN) (hv b B).1 (hv b B).2 (by rw [List.length_map, hlen]; exact hkN) hdec hgo
  · exact my_put (D := D) (cl := clss) (ws := wsT b B cI cZ σ) (ci := cc) (v := cv b B v) (ty := TY cc k) (C := RR cc) (T := TT cc) (N := NN cc) (own := RR (ow m)) (ref := RR cc) C.1 C.2.1 C.2.2.2.2.1 (tw_gt cc h8) (TY cc) (ty_all cc h8) (nm_all cc h8) C.2.2.2.1 C.2.2.2.2.2.1 hH.2.2.1 (ws_D b B cI cZ σ) hS i (ws_obj hK h8) (cl_all cc h8) k hkN (C.2.2.2.2.1 _ (gt_at hlk rfl)) (fun x h => by rw [hown] at h; exact h) (by rw [hfin]; simp [h3]) (ty_all cc h8 k hkN) (hv b B).1 (hv b B).2 (by rw [List.length_map, hlen]; exact hkN) hdec hgo
theorem tag0 {t : FieldType} (h : tagOf t = 0) : t = .int := by cases t <;> first | rfl | (simp [tagOf] at h)
theorem tag1 {t : FieldType} (h : tagOf t = 1) : t = .boolean := by cases t <;> first | rfl | (simp [tagOf] at h)
theorem tag2 {t : FieldType} (h : tagOf t = 2) : t = .long := by cases t <;> first | rfl | (simp [tagOf] at h)
theorem f_tag {m pc nx idx cc k tg len : Nat} {ps : Int} (hd : ft m pc = some (.putfield idx, len, nx, cc, k, tg, ps)) (h9 : tg < 4) : tagOf (TY cc k) = tg ∧ (tg = 3 → refT (TY cc k) = true) := by
  obtain ⟨-, -, hrs⟩ := ft_dec hd
  have hmem := look_in (tb := ftb) hrs (by omega)
  exact ⟨(f_all _ hmem).2.2.2.1, f_ref _ hmem⟩
theorem wp_putI {d mc ms m pc nx idx cc k o : Nat} {ps : Int} {L S : List Value} {σ σ' : Sto} {r : Option Value} {x : Int32} (hd : ft m pc = some (.putfield idx, 3, nx, cc, k, 0, ps)) (hK : σ.1[o]? = some cc) (kk : WP d mc ms m nx L S (setF σ o k (.int x)) r σ') : WP d mc ms m pc L (.int x :: .ref o :: S) σ r σ' :=
  wp_put hd (by decide) hK (fun b B => by rw [tag0 (f_tag hd (by decide)).1]; exact ⟨rfl, rfl⟩) (fun h => by cases h) kk
theorem wp_putZ {d mc ms m pc nx idx cc k o : Nat} {ps : Int} {L S : List Value} {σ σ' : Sto} {r : Option Value} {x : Int32} (hd : ft m pc = some (.putfield idx, 3, nx, cc, k, 1, ps)) (hK : σ.1[o]? = some cc) (h01 : x = 0 ∨ x = 1) (kk : WP d mc ms m nx L S (setF σ o k (.int x)) r σ') : WP d mc ms m pc L (.int x :: .ref o :: S) σ r σ' :=
  wp_put hd (by decide) hK (fun b B => by rw [tag1 (f_tag hd (by decide)).1]; rcases h01 with rfl | rfl <;> exact ⟨rfl, rfl⟩) (fun h => by cases h) kk
theorem wp_putL {d mc ms m pc nx idx cc k o : Nat} {ps : Int} {L S : List Value} {σ σ' : Sto} {r : Option Value} {x : Int64} (hd : ft m pc = some (.putfield idx, 3, nx, cc, k, 2, ps)) (hK : σ.1[o]? = some cc) (kk : WP d mc ms m nx L S (setF σ o k (.long x)) r σ') : WP d mc ms m pc L (.long x :: .ref o :: S) σ r σ' :=
  wp_put hd (by decide) hK (fun b B => by rw [tag2 (f_tag hd (by decide)).1]; exact ⟨rfl, rfl⟩) (fun h => by cases h) kk
theorem wp_putR {d mc ms m pc nx idx cc k o a : Nat} {ps : Int} {L S : List Value} {σ σ' : Sto} {r : Option Value} (hd : ft m pc = some (.putfield idx, 3, nx, cc, k, 3, ps)) (hK : σ.1[o]? = some cc) (hi : (yy m).name = "<init>" ∧ RR cc = RR (ow m)) (kk : WP d mc ms m nx L S (setF σ o k (.ref a)) r σ') : WP d mc ms m pc L (.ref a :: .ref o :: S) σ r σ' :=
  wp_put hd (by decide) hK (fun b B => by
    have h := (f_tag hd (by decide)).2 rfl
    revert h
    cases TY cc k <;> intro h <;> first | exact ⟨rfl, rfl⟩ | (simp [refT] at h)) (fun _ => hi) kk
theorem getD_up {l : List Int32} {j : Nat} {x : Int32} (hj : j < l.length) : (fun q => (l.set j x).getD q 0) = upd (fun q => l.getD q 0) j x := by
  funext q
  by_cases hq : q = j
  · subst hq
    simp [upd, List.getD, hj]
  · simp [upd, List.getD, hq, List.getElem?_set_ne (Ne.symm hq)]
theorem wp_iald {d mc ms m pc nx : Nat} {L S : List Value} {σ σ' : Sto} {r : Option Value} {X : Nat × Nat × Nat × Int} {a j : Nat} (hd : ft m pc = some (.iaload, 1, nx, X)) (hK : σ.1[a]? = some 100) (hj : j < (σ.2.2 a).length) (hl : (σ.2.2 a).length < 2 ^ 31) (kk : WP d mc ms m nx L (.int ((σ.2.2 a).getD j 0) :: S) σ r σ') : WP d mc ms m pc L (.int (nI j) :: .ref a :: S) σ r σ' := by
  intro p l e R s mi args below meth c b B D cI cZ scr Z C hZ H locs ls cells slots hH hS hL hc hs
  obtain ⟨hdec, rfl, -⟩ := ft_dec hd
  obtain ⟨i, rfl⟩ := hH.pos hK (by decide)
  refine va_iald (D := D) (cl := clss) (ws := wsT b B cI cZ σ) C.1 C.2.1 C.2.2.2.2.2.1 hH.2.2.1 i 0 (ws_arr hK) rfl (vp_in_nI hj hl) hdec ?_
  rw [nI_clamp (by omega)]
  exact kk p l e R s mi args below meth c b B D cI cZ scr Z C hZ H locs ls cells slots hH hS hL hc hs
theorem wp_zald {d mc ms m pc nx : Nat} {L S : List Value} {σ σ' : Sto} {r : Option Value} {X : Nat × Nat × Nat × Int} {a j : Nat} (hd : ft m pc = some (.baload, 1, nx, X)) (hK : σ.1[a]? = some 101) (hj : j < (σ.2.2 a).length) (hl : (σ.2.2 a).length < 2 ^ 31) (kk : WP d mc ms m nx L (.int ((σ.2.2 a).getD j 0) :: S) σ r σ') : WP d mc ms m pc L (.int (nI j) :: .ref a :: S) σ r σ' := by
  intro p l e R s mi args below meth c b B D cI cZ scr Z C hZ H locs ls cells slots hH hS hL hc hs
  obtain ⟨hdec, rfl, -⟩ := ft_dec hd
  obtain ⟨i, rfl⟩ := hH.pos hK (by decide)
  refine va_zald (D := D) (cl := clss) (ws := wsT b B cI cZ σ) C.1 C.2.1 C.2.2.2.2.2.1 hH.2.2.1 i 1 (ws_arz hK) rfl (vp_in_nI hj hl) hdec ?_
  rw [nI_clamp (by omega)]
  exact kk p l e R s mi args below meth c b B D cI cZ scr Z C hZ H locs ls cells slots hH hS hL hc hs
theorem wp_sald {d mc ms m pc nx : Nat} {L S : List Value} {σ σ' : Sto} {r : Option Value} {X : Nat × Nat × Nat × Int} {j : Nat} (hd : ft m pc = some (.iaload, 1, nx, X)) (hj : j < (σ.2.2 0).length) (hl : (σ.2.2 0).length < 2 ^ 31) (kk : WP d mc ms m nx L (.int ((σ.2.2 0).getD j 0) :: S) σ r σ') : WP d mc ms m pc L (.int (nI j) :: .ref 0 :: S) σ r σ' := by
  intro p l e R s mi args below meth c b B D cI cZ scr Z C hZ H locs ls cells slots hH hS hL hc hs
  obtain ⟨hdec, rfl, -⟩ := ft_dec hd
  have hsc := hH.2.2.2.2.1
  refine W.iald (v := .int ((σ.2.2 0).getD j 0)) C.1 C.2.1 (a := b) hH.2.1 C.2.2.2.2.2.2.2.2.1.1 C.2.2.2.2.2.2.2.2.1.2 (by rw [hsc.1]; exact vp_in_nI hj hl) (by rw [nI_clamp (by omega)]; exact hsc.2 j hj) rfl rfl hdec ?_
  exact kk p l e R s mi args below meth c b B D cI cZ scr Z C hZ H locs ls cells slots hH hS hL hc hs
theorem wp_slen {d mc ms m pc nx : Nat} {L S : List Value} {σ σ' : Sto} {r : Option Value} {X : Nat × Nat × Nat × Int} (hd : ft m pc = some (.arraylength, 1, nx, X)) (kk : WP d mc ms m nx L (.int (nI (σ.2.2 0).length) :: S) σ r σ') : WP d mc ms m pc L (.ref 0 :: S) σ r σ' := by
  intro p l e R s mi args below meth c b B D cI cZ scr Z C hZ H locs ls cells slots hH hS hL hc hs
  obtain ⟨hdec, rfl, -⟩ := ft_dec hd
  have hsc := hH.2.2.2.2.1
  exact W.alen (n := nI (σ.2.2 0).length) C.1 C.2.1 (a := b) hH.2.1 C.2.2.2.2.2.2.2.2.1.1 (by rw [hsc.1]; rfl) rfl rfl hdec (kk p l e R s mi args below meth c b B D cI cZ scr Z C hZ H locs ls cells slots hH hS hL hc hs)
theorem wp_alen {d mc ms m pc nx : Nat} {L S : List Value} {σ σ' : Sto} {r : Option Value} {X : Nat × Nat × Nat × Int} {a : Nat} (hd : ft m pc = some (.arraylength, 1, nx, X)) (hK : σ.1[a]? = some 100) (kk : WP d mc ms m nx L (.int (nI (σ.2.2 a).length) :: S) σ r σ') : WP d mc ms m pc L (.ref a :: S) σ r σ' := by
  intro p l e R s mi args below meth c b B D cI cZ scr Z C hZ H locs ls cells slots hH hS hL hc hs
  obtain ⟨hdec, rfl, -⟩ := ft_dec hd
  obtain ⟨i, rfl⟩ := hH.pos hK (by decide)
  exact va_alen (D := D) (cl := clss) (ws := wsT b B cI cZ σ) C.1 C.2.1 C.2.2.2.2.2.1 hH.2.2.1 i 0 (ws_arr hK) rfl (v := nI (σ.2.2 (i + 1)).length) rfl hdec (kk p l e R s mi args below meth c b B D cI cZ scr Z C hZ H locs ls cells slots hH hS hL hc hs)
theorem wp_iast {d mc ms m pc nx : Nat} {L S : List Value} {σ σ' : Sto} {r : Option Value} {X : Nat × Nat × Nat × Int} {a j : Nat} {x : Int32} (hd : ft m pc = some (.iastore, 1, nx, X)) (hK : σ.1[a]? = some 100) (hj : j < (σ.2.2 a).length) (hl : (σ.2.2 a).length < 2 ^ 31) (kk : WP d mc ms m nx L S (setA σ a ((σ.2.2 a).set j x)) r σ') : WP d mc ms m pc L (.int x :: .int (nI j) :: .ref a :: S) σ r σ' := by
  intro p l e R s mi args below meth c b B D cI cZ scr Z C hZ H locs ls cells slots hH hS hL hc hs
  obtain ⟨hdec, rfl, -⟩ := ft_dec hd
  obtain ⟨i, rfl⟩ := hH.pos hK (by decide)
  refine my_iast (D := D) (cl := clss) (ws := wsT b B cI cZ σ) C.1 C.2.1 C.2.2.2.2.2.1 hH.2.2.1 (ws_D b B cI cZ σ) hS i 0 (ws_arr hK) rfl (vp_in_nI hj hl) hdec (fun H1 locs1 hP1 hz hS1 => ?_)
  rw [nI_clamp (by omega), ← getD_up hj] at hP1
  rw [ws_up (b := b) (B := B) (cI := cI) (cZ := cZ) (σ := σ) (σ' := setA σ (i + 1) ((σ.2.2 (i + 1)).set j x)) rfl (fun j hj => ⟨rfl, by simp [setA, hj]⟩) (by simp [ent, setA, hK])] at hP1
  exact kk p l e R s mi args below meth c b B D cI cZ scr Z C hZ H1 locs1 ls cells slots (hH.up C.2.2.2.2.2.2.1 C.2.2.2.2.2.2.2.1 rfl (fun j => rfl) (by simp [setA]) hP1 hz hS hS1) hS1 hL hc hs
theorem wp_zast {d mc ms m pc nx : Nat} {L S : List Value} {σ σ' : Sto} {r : Option Value} {X : Nat × Nat × Nat × Int} {a j : Nat} {x : Int32} (hd : ft m pc = some (.bastore, 1, nx, X)) (hK : σ.1[a]? = some 101) (h01 : x = 0 ∨ x = 1) (hj : j < (σ.2.2 a).length) (hl : (σ.2.2 a).length < 2 ^ 31) (kk : WP d mc ms m nx L S (setA σ a ((σ.2.2 a).set j x)) r σ') : WP d mc ms m pc L (.int x :: .int (nI j) :: .ref a :: S) σ r σ' := by
  intro p l e R s mi args below meth c b B D cI cZ scr Z C hZ H locs ls cells slots hH hS hL hc hs
  obtain ⟨hdec, rfl, -⟩ := ft_dec hd
  obtain ⟨i, rfl⟩ := hH.pos hK (by decide)
  refine my_zast (D := D) (cl := clss) (ws := wsT b B cI cZ σ) C.1 C.2.1 C.2.2.2.2.2.1 hH.2.2.1 (ws_D b B cI cZ σ) hS i 1 (ws_arz hK) rfl h01 (vp_in_nI hj hl) hdec (fun H1 locs1 hP1 hz hS1 => ?_)
  rw [nI_clamp (by omega), ← getD_up hj] at hP1
  rw [ws_up (b := b) (B := B) (cI := cI) (cZ := cZ) (σ := σ) (σ' := setA σ (i + 1) ((σ.2.2 (i + 1)).set j x)) rfl (fun j hj => ⟨rfl, by simp [setA, hj]⟩) (by simp [ent, setA, hK])] at hP1
  exact kk p l e R s mi args below meth c b B D cI cZ scr Z C hZ H1 locs1 ls cells slots (hH.up C.2.2.2.2.2.2.1 C.2.2.2.2.2.2.2.1 rfl (fun j => rfl) (by simp [setA]) hP1 hz hS hS1) hS1 hL hc hs
/-! making cells -/
def dfl (c : Nat) : List Value := (List.range (NN c)).map (fun k => defaultValue (TY c k))
theorem dfl_ok : ∀ c, c < 8 → ∀ k, k < NN c → defaultValue (TY c k) = .null ∨ defaultValue (TY c k) = .int 0 ∨ defaultValue (TY c k) = .long 0 := by decide +kernel
theorem dfl_cv {c : Nat} (h : c < 8) (b B : Nat) : (dfl c).map (cv b B) = dfl c := by
  unfold dfl
  rw [List.map_map]
  apply List.map_congr_left
  intro k hk
  rcases dfl_ok c h k (List.mem_range.mp hk) with e | e | e <;> simp only [Function.comp, e] <;> rfl
def newO (σ : Sto) (c : Nat) : Sto := (σ.1 ++ [c], fun i => if i = σ.1.length then dfl c else σ.2.1 i, σ.2.2)
def newA (σ : Sto) (k n : Nat) : Sto := (σ.1 ++ [k], σ.2.1, fun i => if i = σ.1.length then List.replicate n 0 else σ.2.2 i)
theorem HI.len {b B : Nat} {D : va_G} {cI cZ : ClassId} {scr : Cell} {σ : Sto} {H : Heap} (h : HI b B D cI cZ scr σ H) : 0 < σ.1.length := (List.getElem?_eq_some_iff.mp h.2.2.2.1).1
theorem ad_len {b B n h : Nat} (hn : 0 < n) (hh : h + 1 = B + n) : ad b B n = h := by
  cases n with
  | zero => omega
  | succ k => show B + k = h; omega
theorem HI.push {b B : Nat} {D : va_G} {cI cZ : ClassId} {scr : Cell} {σ σ' : Sto} {H H1 : Heap} {k : Nat} {e : va_E} (h : HI b B D cI cZ scr σ H) (h1 : σ'.1 = σ.1 ++ [k]) (hn : ∀ j, j < σ.1.length → σ'.2.1 j = σ.2.1 j ∧ σ'.2.2 j = σ.2.2 j) (he : ent b B cI cZ σ' σ.1.length = e) (hlen : k < 8 → (σ'.2.1 σ.1.length).length = NN k) (hbs : b < H.size) (hz : H1.size = H.size + 1) (ho : ∀ q, q < H.size → H1[q]? = H[q]?) (hat : va_at D clss (H.size, e) H1) : HI b B D cI cZ scr σ' H1 := by
  have hl := h.len
  obtain ⟨a1, a2, a3, a4, a5, a6⟩ := h
  have e0 := hn 0 hl
  refine ⟨by rw [hz, h1]; simp; omega, by rw [ho b hbs]; exact a2, ?_, by rw [h1, List.getElem?_append_left hl]; exact a4, by rw [e0.2]; exact a5, fun i k' hk h8 => ?_⟩
  · rw [← ws_push hl h1 hn he]
    refine (a3.kept (fun k q hk => ho q.1 ((a3 k q hk).lt))).app (fun k q hk => ?_)
    have hz : k < 1 := (List.getElem?_eq_some_iff.mp hk).1
    rw [show k = 0 by omega] at hk
    cases hk
    rw [show B + (σ.1.length - 1) = H.size by omega]
    exact hat
  · rw [h1] at hk
    by_cases hi : i < σ.1.length
    · rw [List.getElem?_append_left hi] at hk
      rw [(hn i hi).1]
      exact a6 i k' hk h8
    · rw [List.getElem?_append_right (by omega)] at hk
      have : i - σ.1.length < 1 := (List.getElem?_eq_some_iff.mp hk).1
      have hi2 : i = σ.1.length := by omega
      subst hi2
      rw [Nat.sub_self] at hk
      cases hk
      exact hlen h8
theorem wp_new {d mc ms m pc nx idx cc n a3 : Nat} {ps : Int} {L S : List Value} {σ σ' : Sto} {r : Option Value} (hd : ft m pc = some (.new idx, 3, nx, cc, n, a3, ps)) (h9 : a3 ≠ 99) (kk : WP d mc ms m nx L (.ref σ.1.length :: S) (newO σ cc) r σ') : WP d (mc + 1) (ms + n) m pc L S σ r σ' := by
  intro p l e R s mi args below meth c b B D cI cZ scr Z C hZ H locs ls cells slots hH hS hL hc hs
  obtain ⟨hdec, rfl, hrs⟩ := ft_dec hd
  obtain ⟨h8, hn, hlk, hins, hini⟩ : cc < 8 ∧ n = NN cc ∧ lw_tbl[ps.toNat]? = some (.classLink (RR (ow m)) idx (RR cc)) ∧ Cond.instantiable (RR cc) (NN cc) ∈ lw_tbl ∧ Cond.initialized (RR cc) ∈ lw_tbl := c_all _ (look_in hrs h9)
  subst hn
  have hKn := C.2.2.2.2.2.1.1 cc _ (cl_all cc h8)
  refine W.newcK C.1 C.2.1 (C := RR cc) (own := RR (ow m)) C.2.2.2.1 (C.2.2.2.2.1 _ (gt_at hlk rfl)) (C.2.2.2.2.1 _ (gt_in hins rfl)) (C.2.2.2.2.1 _ (gt_in hini rfl)) rfl hdec (by omega) (by omega) hKn.2.1 rfl fun H1 kC hkC e1 z1 o1 => ?_
  have hbs : b < H.size := by have := C.2.2.2.2.2.2.1; have := C.2.2.2.2.2.2.2.1; have := hS.1; omega
  have hH1 : HI b B D cI cZ scr (newO σ cc) H1 := by
    refine hH.push (σ' := newO σ cc) (k := cc) rfl (fun j hj => ⟨by simp [newO, Nat.ne_of_lt hj], rfl⟩) rfl (fun _ => by simp [newO, dfl]) hbs z1 o1 ?_
    rw [show ent b B cI cZ (newO σ cc) σ.1.length = .inr (cc, dfl cc) by simp [ent, newO, List.getD, h8, dfl_cv h8]]
    refine ⟨_, cl_all cc h8, (u_born (TY cc) C.2.2.2.2.1 (tw_gt cc h8) hKn hkC e1 (ty_all cc h8)).to (fun j hj => ?_)⟩
    have hj' : j < NN cc := hj
    simp [vp_V, dfl, hj']
  have hS1 : va_S (fun q => B ≤ q) s.heap H1 locs := ⟨Nat.le_trans hS.1 (by omega), fun x h1 h2 => (o1 x (Nat.lt_of_lt_of_le h1 hS.1)).trans (hS.2.1 x h1 h2), hS.2.2⟩
  have := kk p l e R s mi args below meth c b B D cI cZ scr Z C hZ H1 locs ls (cells + 1) (slots + NN cc) hH1 hS1 hL (by omega) (by omega)
  rw [List.map_cons, show cv b B (.ref σ.1.length) = .ref H.size from congrArg Value.ref (ad_len hH.len hH.1)] at this
  exact this
theorem wp_newI {d mc ms m pc nx : Nat} {L S : List Value} {σ σ' : Sto} {r : Option Value} {X : Nat × Nat × Nat × Int} {n : Nat} (hd : ft m pc = some (.newarray .int, 2, nx, X)) (hn : n < 1000) (kk : WP d mc ms m nx L (.ref σ.1.length :: S) (newA σ 100 n) r σ') : WP d (mc + 1) (ms + n) m pc L (.int (nI n) :: S) σ r σ' := by
  intro p l e R s mi args below meth c b B D cI cZ scr Z C hZ H locs ls cells slots hH hS hL hc hs
  obtain ⟨hdec, rfl, hrs⟩ := ft_dec hd
  refine va_newaK (atype := .int) C.1 C.2.1 (C.2.2.2.2.1 _ (gt_in ac_I rfl)) rfl hdec rfl (nI_pos (by omega)) (nI_clamp (by omega)) (show n * 4 ≤ 536870912 by omega) (by omega) (by omega) rfl fun H1 cA e1 z1 o1 hAr hNm => ?_
  have hcA : cA = cI := Option.some.inj (hNm.symm.trans ((C.2.2.2.2.2.1.2 0 _ rfl).2))
  subst hcA
  have hbs : b < H.size := by have := C.2.2.2.2.2.2.1; have := C.2.2.2.2.2.2.2.1; have := hS.1; omega
  have hH1 : HI b B D cA cZ scr (newA σ 100 n) H1 := by
    refine hH.push (σ' := newA σ 100 n) (k := 100) rfl (fun j hj => ⟨rfl, by simp [newA, Nat.ne_of_lt hj]⟩) rfl (fun h => by omega) hbs z1 o1 ?_
    rw [show ent b B cA cZ (newA σ 100 n) σ.1.length = .inl (cA, n, .inl (fun _ => 0)) by simp [ent, newA, List.getD, List.getElem?_replicate]; funext j; split <;> rfl]
    exact e1
  have hS1 : va_S (fun q => B ≤ q) s.heap H1 locs := ⟨Nat.le_trans hS.1 (by omega), fun x h1 h2 => (o1 x (Nat.lt_of_lt_of_le h1 hS.1)).trans (hS.2.1 x h1 h2), hS.2.2⟩
  have := kk p l e R s mi args below meth c b B D cA cZ scr Z C hZ H1 locs ls (cells + 1) (slots + n) hH1 hS1 hL (by omega) (by omega)
  rw [List.map_cons, show cv b B (.ref σ.1.length) = .ref H.size from congrArg Value.ref (ad_len hH.len hH.1)] at this
  exact this
theorem wp_newZ {d mc ms m pc nx : Nat} {L S : List Value} {σ σ' : Sto} {r : Option Value} {X : Nat × Nat × Nat × Int} {n : Nat} (hd : ft m pc = some (.newarray .boolean, 2, nx, X)) (hn : n < 1000) (kk : WP d mc ms m nx L (.ref σ.1.length :: S) (newA σ 101 n) r σ') : WP d (mc + 1) (ms + n) m pc L (.int (nI n) :: S) σ r σ' := by
  intro p l e R s mi args below meth c b B D cI cZ scr Z C hZ H locs ls cells slots hH hS hL hc hs
  obtain ⟨hdec, rfl, hrs⟩ := ft_dec hd
  refine va_newaK (atype := .boolean) C.1 C.2.1 (C.2.2.2.2.1 _ (gt_in ac_Z rfl)) rfl hdec rfl (nI_pos (by omega)) (nI_clamp (by omega)) (show n * 1 ≤ 536870912 by omega) (by omega) (by omega) rfl fun H1 cA e1 z1 o1 hAr hNm => ?_
  have hcA : cA = cZ := Option.some.inj (hNm.symm.trans ((C.2.2.2.2.2.1.2 1 _ rfl).2))
  subst hcA
  have hbs : b < H.size := by have := C.2.2.2.2.2.2.1; have := C.2.2.2.2.2.2.2.1; have := hS.1; omega
  have hH1 : HI b B D cI cA scr (newA σ 101 n) H1 := by
    refine hH.push (σ' := newA σ 101 n) (k := 101) rfl (fun j hj => ⟨rfl, by simp [newA, Nat.ne_of_lt hj]⟩) rfl (fun h => by omega) hbs z1 o1 ?_
    rw [show ent b B cI cA (newA σ 101 n) σ.1.length = .inl (cA, n, .inl (fun _ => 0)) by simp [ent, newA, List.getD, List.getElem?_replicate]; funext j; split <;> rfl]
    exact e1
  have hS1 : va_S (fun q => B ≤ q) s.heap H1 locs := ⟨Nat.le_trans hS.1 (by omega), fun x h1 h2 => (o1 x (Nat.lt_of_lt_of_le h1 hS.1)).trans (hS.2.1 x h1 h2), hS.2.2⟩
  have := kk p l e R s mi args below meth c b B D cI cA scr Z C hZ H1 locs ls (cells + 1) (slots + n) hH1 hS1 hL (by omega) (by omega)
  rw [List.map_cons, show cv b B (.ref σ.1.length) = .ref H.size from congrArg Value.ref (ad_len hH.len hH.1)] at this
  exact this
/-! calls -/
theorem Pm_blind {b B : Nat} {D : va_G} {cI cZ : ClassId} {scr : Cell} {As : List Value} {σ : Sto} : FrameBlind (Pm b B D cI cZ scr As σ) := fun a U g mk q => by
  obtain ⟨q0, q1, q2, q3, q4, q5, q6⟩ := q
  exact ⟨q0, q1, q2, q3, va_K.moved (u := U) (U := U.calling g mk a) (Vm.Alike.refl U.vm) q4, ⟨State.isArrayOf_alike (Vm.Alike.refl U.vm) q5.1, q5.2⟩, fun e he h3 => va_Nw.same rfl rfl (q6 e he h3)⟩
theorem Pm_of {p : Program} {R : Room} {s : State} {mi : MethodId} {args : Array Value} {meth : Method} {c : Code} {b B : Nat} {D : va_G} {cI cZ : ClassId} {scr : Cell} {m d : Nat} {As : List Value} {σ : Sto} {H : Heap} {locs : List Loc} (C : Cx p R s mi args meth c b B D cI cZ scr m d) (hH : HI b B D cI cZ scr σ H) (hS : va_S (fun q => B ≤ q) s.heap H locs) : ∀ U : State, U.heap = H → s.WarmedH U.vm → Pm b B D cI cZ scr As σ (As.map (cv b B)).toArray U := fun U hU hW =>
  ⟨rfl, C.2.2.2.2.2.2.1, by rw [hU]; exact Nat.le_trans C.2.2.2.2.2.2.2.1 hS.1, by rw [hU]; exact hH, va_K.moved hW.alike C.2.2.2.2.2.1, ⟨State.isArrayOf_alike hW.alike C.2.2.2.2.2.2.2.2.1.1, C.2.2.2.2.2.2.2.2.1.2⟩, fun e he h3 => va_Nw.warmM hW (C.2.2.2.2.2.2.2.2.2.2.2 e he h3)⟩
theorem tl_map (r : Option Value) (b B : Nat) (S : List Value) : (r.map (cv b B)).toList ++ S.map (cv b B) = (r.toList ++ S).map (cv b B) := by cases r <;> rfl
set_option maxHeartbeats 1000000 in
theorem wp_callV {d d' mc ms mc' ms' m m' n pc nx idx o : Nat} {ps : Int} {L As S : List Value} {σ σ1 σ' : Sto} {r r1 : Option Value} (hd : ft m pc = some (.invokevirtual idx, 3, nx, m', n, 0, ps)) (hn : As.length = n) (hK : σ.1[o]? = some (ow m')) (hE : Ev d' mc' ms' m' (.ref o :: As) σ r1 σ1) (hdd : d' + 1 ≤ d) (hcat : (S.map fun v => v.category).sum ≤ 8) (kk : WP d mc ms m nx L (r1.toList ++ S) σ1 r σ') : WP d (mc + mc') (ms + ms') m pc L (As.reverse ++ .ref o :: S) σ r σ' := by
  intro p l e R s mi args below meth c b B D cI cZ scr Z C hZ H locs ls cells slots hH hS hL hc hs
  obtain ⟨hdec, rfl, hrs⟩ := ft_dec hd
  have hmem := look_in (tb := mtb) hrs (by decide)
  obtain ⟨hm1, -, -, -, -, hm2⟩ := m_all _ hmem
  obtain ⟨hm2, hdesc⟩ := hm2 (by decide : (0 : Nat) < 4)
  obtain ⟨hv1, hv2⟩ := (n_all _ hmem).1 rfl
  have hm' : m' < 137 := hm2
  have hy := y_all m' hm'
  have hlk : Cond.methodLink (RR (ow m)) idx (yy m') ∈ gt := gt_at (hm1 (by decide : (0 : Nat) < 3)) rfl
  have hG : GoodIn gt (wsV (RR (ow m)) idx (yy m').cls (yy m') (wm m')) := by
    intro w hw
    rcases List.mem_append.mp hw with h | h
    · simp only [List.mem_cons, List.not_mem_nil, or_false] at h
      rcases h with rfl | rfl | rfl | rfl
      · exact ⟨hlk, Or.inl rfl⟩
      · exact ⟨gt_at hv1 rfl, Or.inl rfl⟩
      · exact ⟨gt_at hv2 rfl, Or.inl rfl⟩
      · exact ⟨gt_at (i_all m' hm') rfl, Or.inl rfl⟩
    · exact wm_good hm' w h
  obtain ⟨i, rfl⟩ := hH.pos hK (by omega)
  have hR := C.2.2.2.2.2.2.2.2.2.1
  have hrun := va_runV (As := As.map (cv b B)) (rest := S.map (cv b B)) (g := F0 mi pc ls ((As.reverse ++ .ref (i + 1) :: S).map (cv b B))) (e := e) (below := below) (meth := meth) (locs := locs) (cells := cells) (slots := slots) (b := B + i) (H := H) ⟨C.1, C.2.1, C.2.2.1, C.2.2.2.1, C.2.2.2.2.1⟩ (hE l b B D cI cZ scr) (cwV n C.2.2.2.2.1 hG rfl rfl rfl ⟨rfl, hy.1, hy.2.1, hdesc⟩ ⟨by show d' + 1 ≤ R.frames; omega, by show 8 + (ml m' + 11) + 40 * d' ≤ R.locals; omega⟩) ⟨Pm_blind, by rw [hy.2.2.2.1]; exact va_recv C.2.2.2.2.2.1 hH.2.2.1 (cl_all _ hy.2.2.2.2.1) (ws_obj hK hy.2.2.2.2.1), Pm_of (As := .ref (i + 1) :: As) C hH hS⟩ rfl (by rw [List.length_map]; exact hn) hL.1 (by simp [ad, cv]) (lv_room (by rw [cv_sum]; exact hcat)) hdec ⟨by omega, by omega⟩
  refine call_go hrun hS (fun H1 locs1 hH1 hS1 => ?_)
  rw [tl_map]
  exact kk p l e R s mi args below meth c b B D cI cZ scr Z C hZ H1 locs1 ls (cells + mc') (slots + ms') hH1 hS1 hL (by omega) (by omega)
set_option maxHeartbeats 1000000 in
theorem wp_callS {d d' mc ms mc' ms' m m' n pc nx idx : Nat} {ps : Int} {L As S : List Value} {σ σ1 σ' : Sto} {r r1 : Option Value} (hd : ft m pc = some (.invokestatic idx, 3, nx, m', n, 1, ps)) (hn : As.length = n) (ho : ow m = ow m') (hE : Ev d' mc' ms' m' As σ r1 σ1) (hdd : d' + 1 ≤ d) (hcat : (S.map fun v => v.category).sum ≤ 8) (kk : WP d mc ms m nx L (r1.toList ++ S) σ1 r σ') : WP d (mc + mc') (ms + ms') m pc L (As.reverse ++ S) σ r σ' := by
  intro p l e R s mi args below meth c b B D cI cZ scr Z C hZ H locs ls cells slots hH hS hL hc hs
  obtain ⟨hdec, rfl, hrs⟩ := ft_dec hd
  have hmem := look_in (tb := mtb) hrs (by decide)
  obtain ⟨hm1, -, -, -, -, hm2⟩ := m_all _ hmem
  obtain ⟨hm2, hdesc⟩ := hm2 (by decide : (1 : Nat) < 4)
  have hv1 := (n_all _ hmem).2.1 rfl
  have hm' : m' < 137 := hm2
  have hy := y_all m' hm'
  have hlk : Cond.methodLink (RR (ow m)) idx (yy m') ∈ gt := gt_at (hm1 (by decide : (1 : Nat) < 3)) rfl
  have hcl : (yy m').cls = RR (ow m) := by rw [ho]; exact hy.2.2.2.1
  have hG : GoodIn gt (wsS (RR (ow m)) idx (yy m') (wm m')) := by
    intro w hw
    rcases List.mem_append.mp hw with h | h
    · simp only [List.mem_cons, List.not_mem_nil, or_false] at h
      rcases h with rfl | rfl | rfl
      · exact ⟨hlk, Or.inl rfl⟩
      · exact ⟨gt_at hv1 rfl, Or.inl rfl⟩
      · rw [← hcl]; exact ⟨gt_at (i_all m' hm') rfl, Or.inl rfl⟩
    · exact wm_good hm' w h
  have hR := C.2.2.2.2.2.2.2.2.2.1
  have hrun := va_runS (As := As.map (cv b B)) (rest := S.map (cv b B)) (g := F0 mi pc ls ((As.reverse ++ S).map (cv b B))) (e := e) (below := below) (meth := meth) (locs := locs) (cells := cells) (slots := slots) (H := H) ⟨C.1, C.2.1, C.2.2.1, C.2.2.2.1, C.2.2.2.2.1⟩ (hE l b B D cI cZ scr) (cwS n C.2.2.2.2.1 hG rfl rfl rfl ⟨hcl, hy.1, hy.2.1, hdesc⟩ ⟨by show d' + 1 ≤ R.frames; omega, by show 8 + (ml m' + 11) + 40 * d' ≤ R.locals; omega⟩) ⟨Pm_blind, Pm_of (As := As) C hH hS⟩ rfl (by rw [List.length_map]; exact hn) hL.1 (by simp) (lv_room (by rw [cv_sum]; exact hcat)) hdec ⟨by omega, by omega⟩
  refine call_go hrun hS (fun H1 locs1 hH1 hS1 => ?_)
  rw [tl_map]
  exact kk p l e R s mi args below meth c b B D cI cZ scr Z C hZ H1 locs1 ls (cells + mc') (slots + ms') hH1 hS1 hL (by omega) (by omega)
set_option maxHeartbeats 1000000 in
theorem wp_callI {d d' mc ms mc' ms' m m' pc nx idx o kd : Nat} {ps : Int} {L S : List Value} {σ σ1 σ' : Sto} {r : Option Value} (hd : ft m pc = some (.invokespecial idx, 3, nx, m', 0, kd, ps)) (hkd : kd = 2 ∨ kd = 3) (hk0 : 0 < o) (hE : Ev d' mc' ms' m' [.ref o] σ none σ1) (hdd : d' + 1 ≤ d) (hcat : (S.map fun v => v.category).sum ≤ 8) (kk : WP d mc ms m nx L S σ1 r σ') : WP d (mc + mc') (ms + ms') m pc L (.ref o :: S) σ r σ' := by
  intro p l e R s mi args below meth c b B D cI cZ scr Z C hZ H locs ls cells slots hH hS hL hc hs
  obtain ⟨hdec, rfl, hrs⟩ := ft_dec hd
  have hmem := look_in (tb := mtb) hrs (by omega)
  obtain ⟨hm1, hm3, -, -, -, hm2⟩ := m_all _ hmem
  obtain ⟨hm2, hdesc⟩ := hm2 (show kd < 4 by omega)
  obtain ⟨hnm, hrt, hv1⟩ := (n_all _ hmem).2.2 hkd
  have hm' : m' < 137 := hm2
  have hnm : (yy m').name = "<init>" := hnm
  have hrt : rt m' = none := hrt
  have hy := y_all m' hm'
  obtain ⟨i, rfl⟩ : ∃ i, o = i + 1 := ⟨o - 1, by omega⟩
  have hR := C.2.2.2.2.2.2.2.2.2.1
  have hini := C.2.2.2.2.1 _ (gt_at (i_all m' hm') rfl)
  have hins := C.2.2.2.2.1 _ (gt_at hv1 rfl)
  have hRR : d' + 1 ≤ R.frames ∧ 8 + (ml m' + 11) + 40 * d' ≤ R.locals := ⟨by omega, by omega⟩
  have hw : wm m' = Cond.code (yy m') (cb m') (ml m') none :: gt := by rw [← hrt]; rfl
  have hp : PreS s H (Pm b B D cI cZ scr [.ref (i + 1)] σ) (.ref (B + i) :: ([] : List Value)) := ⟨Pm_blind, Pm_of (As := [.ref (i + 1)]) C hH hS⟩
  have hrun : va_Run p l e R s mi args below meth c H locs cells slots mc' ms' (F0 mi pc ls ((.ref (i + 1) :: S).map (cv b B))) (S.map (cv b B)) (Qm b B D cI cZ scr none σ1 (Value.ref (B + i) :: []).toArray) (fun q => B ≤ q) := by
    rcases hkd with rfl | rfl
    · exact va_runI (As := []) (rest := S.map (cv b B)) (b := B + i) ⟨C.1, C.2.1, C.2.2.1, C.2.2.2.1, C.2.2.2.2.1⟩ (hE l b B D cI cZ scr) (cwI 0 C.2.2.2.2.1 (wm_good hm') hw rfl rfl hini (C.2.2.2.2.1 _ (gt_at (hm1 (by decide : (2 : Nat) < 3)) rfl)) hins hnm ⟨hy.1, hy.2.1, hdesc⟩ hRR) hp rfl rfl hL.1 rfl (lv_room (by rw [cv_sum]; exact hcat)) hdec ⟨by omega, by omega⟩
    · have hnw : va_Nw (.methodLinkNest (RR (ow m)) idx (yy m') "TrailBreakers") s := by have h0 : NWs s := C.2.2.2.2.2.2.2.2.2.2.2; exact h0 (ow m, idx, m', 0, 3, ps) hmem rfl
      have hcn : va_CN R s args (RR (ow m)) idx (yy m') "TrailBreakers" (cb m') (ml m') none (wm m') { frames := d', cells := mc', slots := ms', locals := 40 * d' } mc' ms' 0 := va_cnB (Ts := gt) (ws' := gt) 0 C.2.2.2.2.1 (wm_good hm') hw rfl rfl hnw hini ⟨hy.1, hy.2.1, hdesc⟩ hRR
      exact va_runIN (Ts := gt) (own := RR (ow m)) (host := "TrailBreakers") (y := yy m') (bytes := cb m') (maxL := ml m') (nL := ml m) (mc := mc') (ms := ms') (n := 0) (ws := wm m') (rm := { frames := d', cells := mc', slots := ms', locals := 40 * d' }) (Pc := Pm b B D cI cZ scr [.ref (i + 1)] σ) (Qc := Qm b B D cI cZ scr none σ1) (free := fun q => B ≤ q) (As := []) (rest := S.map (cv b B)) (b := B + i) ⟨C.1, C.2.1, C.2.2.1, C.2.2.2.1, C.2.2.2.2.1⟩ (hE l b B D cI cZ scr) ⟨hcn, hnm, hins⟩ hp rfl rfl hL.1 rfl (lv_room (by rw [cv_sum]; exact hcat)) hdec ⟨by omega, by omega⟩
  refine call_go hrun hS (fun H1 locs1 hH1 hS1 => ?_)
  exact kk p l e R s mi args below meth c b B D cI cZ scr Z C hZ H1 locs1 ls (cells + mc') (slots + ms') hH1 hS1 hL (by omega) (by omega)
theorem wp_objInit {d mc ms m pc nx idx a1 a2 o : Nat} {ps : Int} {L S : List Value} {σ σ' : Sto} {r : Option Value} (hd : ft m pc = some (.invokespecial idx, 3, nx, a1, a2, 4, ps)) (hdd : 1 ≤ d) (hcat : (S.map fun v => v.category).sum ≤ 8) (kk : WP d mc ms m nx L S σ r σ') : WP d mc ms m pc L (.ref o :: S) σ r σ' := by
  intro p l e R s mi args below meth c b B D cI cZ scr Z C hZ H locs ls cells slots hH hS hL hc hs
  obtain ⟨hdec, rfl, hrs⟩ := ft_dec hd
  have hmem := look_in (tb := mtb) hrs (by decide)
  have hm1 := (m_all _ hmem).2.2.1 rfl
  have hR := C.2.2.2.2.2.2.2.2.2.1
  have h8 : 2 * (F0 mi pc ls ((.ref o :: S).map (cv b B))).monitorRoom + ((S.map (cv b B)).map fun v => v.category).sum ≤ 8 := lv_room (by rw [cv_sum]; exact hcat)
  exact W.objInit C.1 C.2.1 (own := RR (ow m)) C.2.2.2.1 (C.2.2.2.2.1 _ (gt_at hm1 rfl)) (C.2.2.2.2.1 _ (gt_in oi_1 rfl)) (C.2.2.2.2.1 _ (gt_in oi_2 rfl)) rfl (by rw [C.2.2.1]; exact hL.1) rfl hdec (by omega) (by omega) (kk p l e R s mi args below meth c b B D cI cZ scr Z C hZ H locs ls cells slots hH hS hL hc hs)
theorem wp_min {d mc ms m pc nx idx a1 a2 : Nat} {ps : Int} {L S : List Value} {σ σ' : Sto} {r : Option Value} {x y : Int32} (hd : ft m pc = some (.invokestatic idx, 3, nx, a1, a2, 5, ps)) (hdd : 1 ≤ d) (hcat : (S.map fun v => v.category).sum ≤ 8) (kk : WP d mc ms m nx L (.int (if y < x then y else x) :: S) σ r σ') : WP d mc ms m pc L (.int y :: .int x :: S) σ r σ' := by
  intro p l e R s mi args below meth c b B D cI cZ scr Z C hZ H locs ls cells slots hH hS hL hc hs
  obtain ⟨hdec, rfl, hrs⟩ := ft_dec hd
  have hmem := look_in (tb := mtb) hrs (by decide)
  have hm1 := (m_all _ hmem).2.2.2.1 rfl
  have hR := C.2.2.2.2.2.2.2.2.2.1
  exact va_mmin C.1 C.2.1 (by rw [C.2.2.1]; exact hL.1.symm) (own := RR (ow m)) C.2.2.2.1 (C.2.2.2.2.1 _ (gt_at hm1 rfl)) (C.2.2.2.2.1 _ (gt_in mm_1 rfl)) (C.2.2.2.2.1 _ (gt_in mm_3 rfl)) (C.2.2.2.2.1 _ (gt_in mm_4 rfl)) (by omega) (by rw [cv_sum]; omega) (by omega) (by omega) hdec (kk p l e R s mi args below meth c b B D cI cZ scr Z C hZ H locs ls cells slots hH hS hL hc hs)
theorem wp_max {d mc ms m pc nx idx a1 a2 : Nat} {ps : Int} {L S : List Value} {σ σ' : Sto} {r : Option Value} {x y : Int32} (hd : ft m pc = some (.invokestatic idx, 3, nx, a1, a2, 6, ps)) (hdd : 1 ≤ d) (hcat : (S.map fun v => v.category).sum ≤ 8) (kk : WP d mc ms m nx L (.int (if x < y then y else x) :: S) σ r σ') : WP d mc ms m pc L (.int y :: .int x :: S) σ r σ' := by
  intro p l e R s mi args below meth c b B D cI cZ scr Z C hZ H locs ls cells slots hH hS hL hc hs
  obtain ⟨hdec, rfl, hrs⟩ := ft_dec hd
  have hmem := look_in (tb := mtb) hrs (by decide)
  have hm1 := (m_all _ hmem).2.2.2.2.1 rfl
  have hR := C.2.2.2.2.2.2.2.2.2.1
  exact va_mmax C.1 C.2.1 (by rw [C.2.2.1]; exact hL.1.symm) (own := RR (ow m)) C.2.2.2.1 (C.2.2.2.2.1 _ (gt_at hm1 rfl)) (C.2.2.2.2.1 _ (gt_in mm_2 rfl)) (C.2.2.2.2.1 _ (gt_in mm_3 rfl)) (C.2.2.2.2.1 _ (gt_in mm_5 rfl)) (by omega) (by rw [cv_sum]; omega) (by omega) (by omega) hdec (kk p l e R s mi args below meth c b B D cI cZ scr Z C hZ H locs ls cells slots hH hS hL hc hs)
theorem WP.cast {d mc ms mc' ms' m pc : Nat} {L S : List Value} {σ σ' : Sto} {r : Option Value} (h1 : mc' ≤ mc) (h2 : ms' ≤ ms) (k : WP d mc' ms' m pc L S σ r σ') : WP d mc ms m pc L S σ r σ' := by
  intro p l e R s mi args below meth c b B D cI cZ scr Z C hZ H locs ls cells slots hH hS hL hc hs
  exact k p l e R s mi args below meth c b B D cI cZ scr Z C hZ H locs ls cells slots hH hS hL (by omega) (by omega)
end
