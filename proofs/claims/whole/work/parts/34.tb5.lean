section S34_tb5
variable {σ : Sto} {pm : Nat} {pg : Nat → Nat} {N K : Trl} {img : Bool} {sl bd fd : Nat}

theorem fl_best (x : Int32) {r : Option Value} {σ' : Sto} (k : WP 16 0 0 63 18 [.ref 1, .int x, .int (bi (inB x 10 15))] [] σ r σ') : WP 16 0 0 63 0 [.ref 1, .int x, .null] [] σ r σ' := by
  refine wp_iload_1 d63_0 ?_
  refine wp_bipush d63_1 bi_10 ?_
  refine wp_icmp_lt d63_3 (by decide) (fun h3 => ?_) (fun h3 => ?_)
  · have := (lt_nI (a := 10) (by decide)).mp h3
    rw [inB_f.mpr (by omega)] at k
    refine wp_iconst d63_16 ic_0 ?_
    refine wp_istore_2 d63_17 (Nat.le_of_ble_eq_true rfl) rfl ?_
    exact k
  · have := mt (lt_nI (x := x) (a := 10) (by decide)).mpr h3
    refine wp_iload_1 d63_6 ?_
    refine wp_bipush d63_7 bi_16 ?_
    refine wp_icmp_ge d63_9 (by decide) (fun h9 => ?_) (fun h9 => ?_)
    · have := (ge_nI (a := 16) (by decide)).mp h9
      rw [inB_f.mpr (by omega)] at k
      refine wp_iconst d63_16 ic_0 ?_
      refine wp_istore_2 d63_17 (Nat.le_of_ble_eq_true rfl) rfl ?_
      exact k
    · have := mt (ge_nI (x := x) (a := 16) (by decide)).mpr h9
      rw [inB_t.mpr (by omega)] at k
      refine wp_iconst d63_12 ic_1 ?_
      refine wp_goto d63_13 (by decide) ?_
      refine wp_istore_2 d63_17 (Nat.le_of_ble_eq_true rfl) rfl ?_
      exact k
theorem fl_setOut (x : Int32) {r : Option Value} {σ' : Sto} (k : WP 16 0 0 65 18 [.ref 1, .int x, .int (bi (inB x 10 14))] [] σ r σ') : WP 16 0 0 65 0 [.ref 1, .int x, .null] [] σ r σ' := by
  refine wp_iload_1 d65_0 ?_
  refine wp_bipush d65_1 bi_10 ?_
  refine wp_icmp_lt d65_3 (by decide) (fun h3 => ?_) (fun h3 => ?_)
  · have := (lt_nI (a := 10) (by decide)).mp h3
    rw [inB_f.mpr (by omega)] at k
    refine wp_iconst d65_16 ic_0 ?_
    refine wp_istore_2 d65_17 (Nat.le_of_ble_eq_true rfl) rfl ?_
    exact k
  · have := mt (lt_nI (x := x) (a := 10) (by decide)).mpr h3
    refine wp_iload_1 d65_6 ?_
    refine wp_bipush d65_7 bi_15 ?_
    refine wp_icmp_ge d65_9 (by decide) (fun h9 => ?_) (fun h9 => ?_)
    · have := (ge_nI (a := 15) (by decide)).mp h9
      rw [inB_f.mpr (by omega)] at k
      refine wp_iconst d65_16 ic_0 ?_
      refine wp_istore_2 d65_17 (Nat.le_of_ble_eq_true rfl) rfl ?_
      exact k
    · have := mt (ge_nI (x := x) (a := 15) (by decide)).mpr h9
      rw [inB_t.mpr (by omega)] at k
      refine wp_iconst d65_12 ic_1 ?_
      refine wp_goto d65_13 (by decide) ?_
      refine wp_istore_2 d65_17 (Nat.le_of_ble_eq_true rfl) rfl ?_
      exact k
theorem c_best (h : CIv σ pm pg N K img sl bd fd) (g : Gd N) (hbd : bd ≤ 20) (x : Int32) : ∃ σ', Ev 16 0 0 63 [.ref 1, .int x] σ (some (.int (if okX x then (if N.w = 0 ∨ bd = 20 then -103 else r_best N.w N.ki N.fi N.de N.le N.tr N.st x) else -102))) σ' ∧ Fr σ σ' 1 76 ∧ CIv σ' pm pg N K img sl (if okB N.w bd x then bd + 1 else bd) fd := by
  obtain ⟨du, hN⟩ := h.N
  have hw5 := g.w5
  cases e : okX x with
  | false =>
    have e1 : okB N.w bd x = false := by simp [okB, e]
    rw [e1]
    refine ⟨σ, ?_, Fr_refl, h⟩
    simp only [okX, Bool.or_eq_false_iff] at e
    obtain ⟨e2, e3⟩ := e
    have hx := inB_f.mp e2
    refine ev_of (L := [.ref 1, .int x, .null]) (by decide) rfl (Nat.le_of_ble_eq_true rfl) (fl_best x ?_)
    rw [e3]
    refine wp_iload_1 d63_18 ?_
    refine wp_if_eq d63_19 (by decide) (fun hq => absurd ((eq_nI (x := x) (a := 0) (by decide)).mp hq) (by omega)) (fun _ => ?_)
    refine wp_iload_1 d63_22 ?_
    refine wp_iconst d63_23 ic_1 ?_
    refine wp_icmp_eq d63_24 (by decide) (fun hq => absurd ((eq_nI (x := x) (a := 1) (by decide)).mp hq) (by omega)) (fun _ => ?_)
    refine wp_iload_2 d63_27 ?_
    refine wp_if_neB d63_28 (by decide) (fun hq => absurd hq (by decide)) (fun h28 => ?_)
    refine wp_bipush d63_31 bi_m102 ?_
    exact wp_iret d63_33 rfl rfl rfl
  | true =>
    rw [if_pos rfl]
    have hx : (0 ≤ x.toInt ∧ x.toInt ≤ 1) ∨ (10 ≤ x.toInt ∧ x.toInt ≤ 15) := by
      simp only [okX, Bool.or_eq_true] at e
      rcases e with e | e
      · exact Or.inl (inB_t.mp e)
      · exact Or.inr (inB_t.mp e)
    have ex := nI_to (x := x) (by omega)
    -- to the questions
    have head : ∀ {r : Option Value} {σ' : Sto}, WP 16 0 0 63 34 [.ref 1, .int x, .int (bi (inB x 10 15))] [] σ r σ' → Ev 16 0 0 63 [.ref 1, .int x] σ r σ' := by
      intro r σ' k
      refine ev_of (L := [.ref 1, .int x, .null]) (by decide) rfl (Nat.le_of_ble_eq_true rfl) (fl_best x ?_)
      refine wp_iload_1 d63_18 ?_
      refine wp_if_eq d63_19 (by decide) (fun h19 => ?_) (fun h19 => ?_)
      · exact k
      · have n0 : ¬ x.toInt = 0 := fun z => h19 ((eq_nI (a := 0) (by decide)).mpr z)
        refine wp_iload_1 d63_22 ?_
        refine wp_iconst d63_23 ic_1 ?_
        refine wp_icmp_eq d63_24 (by decide) (fun h24 => ?_) (fun h24 => ?_)
        · exact k
        · have n1 : ¬ x.toInt = 1 := fun z => h24 ((eq_nI (a := 1) (by decide)).mpr z)
          rw [inB_t.mpr (by omega)] at k ⊢
          refine wp_iload_2 d63_27 ?_
          refine wp_if_neB d63_28 (by decide) (fun h28 => ?_) (fun hq => absurd hq (by decide))
          exact k
    by_cases ew : N.w = 0
    · rw [if_pos (Or.inl ew), show okB N.w bd x = false by simp [okB, ew]]
      refine ⟨σ, head ?_, Fr_refl, h⟩
      refine wp_aload_0 d63_34 ?_
      refine wp_get d63_35 (Nat.le_of_ble_eq_true rfl) h.k.X h.X.1 rfl ?_
      refine wp_get d63_38 (Nat.le_of_ble_eq_true rfl) h.k.N.1 hN.1 rfl ?_
      refine wp_if_eqN d63_41 (by decide) (by omega) (fun h41 => ?_) (fun hq => absurd hq (by omega))
      refine wp_bipush d63_53 bi_m103 ?_
      exact wp_iret d63_55 rfl rfl rfl
    · by_cases eb : bd = 20
      · rw [if_pos (Or.inr eb), show okB N.w bd x = false by simp [okB, eb]]
        refine ⟨σ, head ?_, Fr_refl, h⟩
        refine wp_aload_0 d63_34 ?_
        refine wp_get d63_35 (Nat.le_of_ble_eq_true rfl) h.k.X h.X.1 rfl ?_
        refine wp_get d63_38 (Nat.le_of_ble_eq_true rfl) h.k.N.1 hN.1 rfl ?_
        refine wp_if_eqN d63_41 (by decide) (by omega) (fun hq => absurd hq (by omega)) (fun h41 => ?_)
        refine wp_aload_0 d63_44 ?_
        refine wp_get d63_45 (Nat.le_of_ble_eq_true rfl) h.k.X h.X.1 rfl ?_
        refine wp_bipush d63_48 bi_20 ?_
        refine wp_icmp_ltN d63_50 (by decide) (by omega) (by omega) (fun hq => absurd hq (by omega)) (fun h50 => ?_)
        refine wp_bipush d63_53 bi_m103 ?_
        exact wp_iret d63_55 rfl rfl rfl
      · rw [if_neg (by omega), show okB N.w bd x = true by simp [okB, e, ew, eb], r_best_eq]
        have h1 := CIv_X (img' := img) (sl' := sl) (bd' := bd + 1) (fd' := fd) h
        obtain ⟨σ', td', K1, hF, h2, hB⟩ := s_best h1 g (by omega)
        refine ⟨σ', head ?_, Fr_trans Fr_X (Fr_all hF (by decide) (by decide)), h2⟩
        refine wp_aload_0 d63_34 ?_
        refine wp_get d63_35 (Nat.le_of_ble_eq_true rfl) h.k.X h.X.1 rfl ?_
        refine wp_get d63_38 (Nat.le_of_ble_eq_true rfl) h.k.N.1 hN.1 rfl ?_
        refine wp_if_eqN d63_41 (by decide) (by omega) (fun hq => absurd hq (by omega)) (fun h41 => ?_)
        refine wp_aload_0 d63_44 ?_
        refine wp_get d63_45 (Nat.le_of_ble_eq_true rfl) h.k.X h.X.1 rfl ?_
        refine wp_bipush d63_48 bi_20 ?_
        refine wp_icmp_ltN d63_50 (by decide) (by omega) (by omega) (fun h50 => ?_) (fun hq => absurd hq (by omega))
        refine wp_aload_0 d63_56 ?_
        refine wp_dup d63_57 rfl ?_
        refine wp_get d63_58 (Nat.le_of_ble_eq_true rfl) h.k.X h.X.1 rfl ?_
        refine wp_iconst d63_61 ic_1 ?_
        refine wp_iaddN d63_62 ?_
        refine wp_putI d63_63 h.k.X ?_
        rw [setF_Hs h.X, show (xF img sl bd fd).set 9 (.int (nI (bd + 1))) = xF img sl (bd + 1) fd from rfl]
        refine wp_aload_0 d63_66 ?_
        refine wp_get d63_67 (Nat.le_of_ble_eq_true rfl) h.k.X h1.X.1 rfl ?_
        refine wp_aload_0 d63_70 ?_
        refine wp_get d63_71 (Nat.le_of_ble_eq_true rfl) h.k.X h1.X.1 rfl ?_
        refine wp_V1v d63_74 h.k.B.1 (K1) (Nat.le_of_ble_eq_true rfl) (Nat.le_of_ble_eq_true rfl) ?_
        by_cases c : inB x 10 15 = true
        · obtain ⟨v, hv, ex2, ex3, hv1, hv2⟩ := inN c (by decide)
          rw [c, if_neg (by omega), if_neg (by omega), if_pos (by omega), show (x.toInt - 10).toNat = v - 10 by omega, ex2]
          refine wp_iload_2 d63_77 ?_
          refine wp_if_eqB d63_78 (by decide) (fun hq => absurd hq (by decide)) (fun h78 => ?_)
          refine wp_aload_0 d63_81 ?_
          refine wp_get d63_82 (Nat.le_of_ble_eq_true rfl) h2.k.X h2.X.1 rfl ?_
          refine wp_get d63_85 (Nat.le_of_ble_eq_true rfl) h2.k.B.1 hB.1 rfl ?_
          refine wp_iload_1 d63_88 ?_
          refine wp_bipush d63_89 bi_10 ?_
          refine wp_isubN d63_91 (by omega) ?_
          refine wp_aldG d63_92 (h2.k.B.2 1 (by decide)) (hB.2 1 _ rfl) (by omega) (by decide) ?_
          exact wp_iret d63_93 rfl rfl rfl
        · rw [show inB x 10 15 = false by simpa using c]
          have hx' := mt inB_t.mpr c
          refine wp_iload_2 d63_77 ?_
          refine wp_if_eqB d63_78 (by decide) (fun h78 => ?_) (fun hq => absurd hq (by decide))
          refine wp_iload_1 d63_94 ?_
          refine wp_if_ne d63_95 (by decide) (fun h95 => ?_) (fun h95 => ?_)
          · have n0 : ¬ x.toInt = 0 := fun z => h95 ((eq_nI (a := 0) (by decide)).mpr z)
            rw [if_neg n0, if_pos (by omega)]
            refine wp_aload_0 d63_108 ?_
            refine wp_get d63_109 (Nat.le_of_ble_eq_true rfl) h2.k.X h2.X.1 rfl ?_
            refine wp_get d63_112 (Nat.le_of_ble_eq_true rfl) h2.k.B.1 hB.1 rfl ?_
            exact wp_iret d63_115 rfl rfl rfl
          · have n0 : x.toInt = 0 := (eq_nI (a := 0) (by decide)).mp h95
            rw [if_pos n0]
            refine wp_aload_0 d63_98 ?_
            refine wp_get d63_99 (Nat.le_of_ble_eq_true rfl) h2.k.X h2.X.1 rfl ?_
            refine wp_get d63_102 (Nat.le_of_ble_eq_true rfl) h2.k.B.1 hB.1 rfl ?_
            refine wp_goto d63_105 (by decide) ?_
            exact wp_iret d63_115 rfl rfl rfl
theorem c_setOut (h : CIv σ pm pg N K img sl bd fd) (g : Gd N) (x : Int32) : ∃ σ', Ev 16 0 0 65 [.ref 1, .int x] σ (some (.int (if x.toInt = 0 ∨ inB x 10 14 then (if N.w = 0 then -103 else r_setOut N.w N.ki N.sr N.de N.st x) else -102))) σ' ∧ Fr σ σ' 1 76 ∧ CIv σ' pm pg N K img sl bd fd := by
  obtain ⟨du, hN⟩ := h.N
  have hw5 := g.w5
  by_cases e : x.toInt = 0 ∨ inB x 10 14 = true
  · rw [if_pos e]
    have hx : x.toInt = 0 ∨ (10 ≤ x.toInt ∧ x.toInt ≤ 14) := by
      rcases e with e | e
      · exact Or.inl e
      · exact Or.inr (inB_t.mp e)
    have head : ∀ {r : Option Value} {σ' : Sto}, WP 16 0 0 65 29 [.ref 1, .int x, .int (bi (inB x 10 14))] [] σ r σ' → Ev 16 0 0 65 [.ref 1, .int x] σ r σ' := by
      intro r σ' k
      refine ev_of (L := [.ref 1, .int x, .null]) (by decide) rfl (Nat.le_of_ble_eq_true rfl) (fl_setOut x ?_)
      refine wp_iload_1 d65_18 ?_
      refine wp_if_eq d65_19 (by decide) (fun h19 => ?_) (fun h19 => ?_)
      · exact k
      · have n0 : ¬ x.toInt = 0 := fun z => h19 ((eq_nI (a := 0) (by decide)).mpr z)
        rw [inB_t.mpr (by omega)] at k ⊢
        refine wp_iload_2 d65_22 ?_
        refine wp_if_neB d65_23 (by decide) (fun h23 => ?_) (fun hq => absurd hq (by decide))
        exact k
    by_cases ew : N.w = 0
    · rw [if_pos ew]
      refine ⟨σ, head ?_, Fr_refl, h⟩
      refine wp_aload_0 d65_29 ?_
      refine wp_get d65_30 (Nat.le_of_ble_eq_true rfl) h.k.X h.X.1 rfl ?_
      refine wp_get d65_33 (Nat.le_of_ble_eq_true rfl) h.k.N.1 hN.1 rfl ?_
      refine wp_if_neN d65_36 (by decide) (by omega) (fun hq => absurd hq (by omega)) (fun h36 => ?_)
      refine wp_bipush d65_39 bi_m103 ?_
      exact wp_iret d65_41 rfl rfl rfl
    · rw [if_neg ew, r_setOut_eq x (by omega)]
      obtain ⟨σ', pd', td', K1, hF, h2, hB⟩ := s_setOut h g (by omega)
      refine ⟨σ', head ?_, Fr_all hF (by decide) (by decide), h2⟩
      refine wp_aload_0 d65_29 ?_
      refine wp_get d65_30 (Nat.le_of_ble_eq_true rfl) h.k.X h.X.1 rfl ?_
      refine wp_get d65_33 (Nat.le_of_ble_eq_true rfl) h.k.N.1 hN.1 rfl ?_
      refine wp_if_neN d65_36 (by decide) (by omega) (fun h36 => ?_) (fun hq => absurd hq (by omega))
      refine wp_aload_0 d65_42 ?_
      refine wp_get d65_43 (Nat.le_of_ble_eq_true rfl) h.k.X h.X.1 rfl ?_
      refine wp_aload_0 d65_46 ?_
      refine wp_get d65_47 (Nat.le_of_ble_eq_true rfl) h.k.X h.X.1 rfl ?_
      refine wp_V1v d65_50 h.k.S.1 (K1) (Nat.le_of_ble_eq_true rfl) (Nat.le_of_ble_eq_true rfl) ?_
      by_cases c : inB x 10 14 = true
      · obtain ⟨v, hv, ex2, ex3, hv1, hv2⟩ := inN c (by decide)
        rw [c, if_neg (by omega), show (x.toInt - 10).toNat = v - 10 by omega, ex2]
        refine wp_iload_2 d65_53 ?_
        refine wp_if_eqB d65_54 (by decide) (fun hq => absurd hq (by decide)) (fun h54 => ?_)
        refine wp_aload_0 d65_57 ?_
        refine wp_get d65_58 (Nat.le_of_ble_eq_true rfl) h2.k.X h2.X.1 rfl ?_
        refine wp_get d65_61 (Nat.le_of_ble_eq_true rfl) h2.k.S.1 hB.1 rfl ?_
        refine wp_iload_1 d65_64 ?_
        refine wp_bipush d65_65 bi_10 ?_
        refine wp_isubN d65_67 (by omega) ?_
        refine wp_aldG d65_68 h2.k.S.2.1.2 (hB.2 2 _ rfl) (by omega) (by decide) ?_
        refine wp_goto d65_69 (by decide) ?_
        exact wp_iret d65_79 rfl rfl rfl
      · rw [show inB x 10 14 = false by simpa using c]
        have hx' := mt inB_t.mpr c
        rw [if_pos (by omega)]
        refine wp_iload_2 d65_53 ?_
        refine wp_if_eqB d65_54 (by decide) (fun h54 => ?_) (fun hq => absurd hq (by decide))
        refine wp_aload_0 d65_72 ?_
        refine wp_get d65_73 (Nat.le_of_ble_eq_true rfl) h2.k.X h2.X.1 rfl ?_
        refine wp_get d65_76 (Nat.le_of_ble_eq_true rfl) h2.k.S.1 hB.1 rfl ?_
        exact wp_iret d65_79 rfl rfl rfl
  · rw [if_neg e]
    have hx : ¬ x.toInt = 0 := fun z => e (Or.inl z)
    refine ⟨σ, ?_, Fr_refl, h⟩
    refine ev_of (L := [.ref 1, .int x, .null]) (by decide) rfl (Nat.le_of_ble_eq_true rfl) (fl_setOut x ?_)
    rw [show inB x 10 14 = false by cases c : inB x 10 14 with | false => rfl | true => exact absurd (Or.inr c) e]
    refine wp_iload_1 d65_18 ?_
    refine wp_if_eq d65_19 (by decide) (fun hq => absurd ((eq_nI (x := x) (a := 0) (by decide)).mp hq) hx) (fun _ => ?_)
    refine wp_iload_2 d65_22 ?_
    refine wp_if_neB d65_23 (by decide) (fun hq => absurd hq (by decide)) (fun h23 => ?_)
    refine wp_bipush d65_26 bi_m102 ?_
    exact wp_iret d65_28 rfl rfl rfl
theorem c_may (h : CIv σ pm pg N K img sl bd fd) (g : Gd N) (hfd : fd ≤ 40) : Ev 0 0 0 75 [.ref 1] σ (some (.int (bi (decide (¬ (N.w = 0 ∨ fd = 40)))))) σ := by
  obtain ⟨du, hN⟩ := h.N
  have hw5 := g.w5
  refine ev_of (L := [(.ref 1)]) (by decide) rfl (Nat.le_of_ble_eq_true rfl) ?_
  by_cases ew : N.w = 0
  · rw [decide_eq_false (by omega)]
    refine wp_aload_0 d75_0 ?_
    refine wp_get d75_1 (Nat.le_of_ble_eq_true rfl) h.k.X h.X.1 rfl ?_
    refine wp_get d75_4 (Nat.le_of_ble_eq_true rfl) h.k.N.1 hN.1 rfl ?_
    refine wp_if_leN d75_7 (by decide) (by omega) (fun h7 => ?_) (fun hq => absurd hq (by omega))
    refine wp_iconst d75_23 ic_0 ?_
    exact wp_zret d75_24 rfl (by first | exact nI_01 | exact nI_11 | exact bi_01 _) rfl rfl
  · by_cases ef : fd = 40
    · rw [decide_eq_false (by omega)]
      refine wp_aload_0 d75_0 ?_
      refine wp_get d75_1 (Nat.le_of_ble_eq_true rfl) h.k.X h.X.1 rfl ?_
      refine wp_get d75_4 (Nat.le_of_ble_eq_true rfl) h.k.N.1 hN.1 rfl ?_
      refine wp_if_leN d75_7 (by decide) (by omega) (fun hq => absurd hq (by omega)) (fun h7 => ?_)
      refine wp_aload_0 d75_10 ?_
      refine wp_get d75_11 (Nat.le_of_ble_eq_true rfl) h.k.X h.X.1 rfl ?_
      refine wp_bipush d75_14 bi_40 ?_
      refine wp_icmp_geN d75_16 (by decide) (by omega) (by omega) (fun h16 => ?_) (fun hq => absurd hq (by omega))
      refine wp_iconst d75_23 ic_0 ?_
      exact wp_zret d75_24 rfl (by first | exact nI_01 | exact nI_11 | exact bi_01 _) rfl rfl
    · rw [decide_eq_true (by omega)]
      refine wp_aload_0 d75_0 ?_
      refine wp_get d75_1 (Nat.le_of_ble_eq_true rfl) h.k.X h.X.1 rfl ?_
      refine wp_get d75_4 (Nat.le_of_ble_eq_true rfl) h.k.N.1 hN.1 rfl ?_
      refine wp_if_leN d75_7 (by decide) (by omega) (fun hq => absurd hq (by omega)) (fun h7 => ?_)
      refine wp_aload_0 d75_10 ?_
      refine wp_get d75_11 (Nat.le_of_ble_eq_true rfl) h.k.X h.X.1 rfl ?_
      refine wp_bipush d75_14 bi_40 ?_
      refine wp_icmp_geN d75_16 (by decide) (by omega) (by omega) (fun hq => absurd hq (by omega)) (fun h16 => ?_)
      refine wp_iconst d75_19 ic_1 ?_
      refine wp_goto d75_20 (by decide) ?_
      exact wp_zret d75_24 rfl (by first | exact nI_01 | exact nI_11 | exact bi_01 _) rfl rfl
theorem c_fits (h : CIv σ pm pg N K img sl bd fd) (g : Gd N) (hfd : fd ≤ 40) : ∃ σ', Ev 16 0 0 67 [.ref 1] σ (some (.int (if N.w = 0 ∨ fd = 40 then -103 else nI (ftN N.w N.ki N.fi N.de N.le N.to N.tr N.st (N.w ^ (N.st - N.tr)))))) σ' ∧ Fr σ σ' 1 76 ∧ CIv σ' pm pg N K img sl bd (if N.w = 0 ∨ fd = 40 then fd else fd + 1) := by
  have km := c_may h g hfd
  by_cases e : N.w = 0 ∨ fd = 40
  · rw [decide_eq_false (by omega)] at km
    rw [if_pos e, if_pos e]
    refine ⟨σ, ?_, Fr_refl, h⟩
    refine ev_of (L := [(.ref 1)]) (by decide) rfl (Nat.le_of_ble_eq_true rfl) ?_
    refine wp_aload_0 d67_0 ?_
    refine wp_V0r d67_1 h.k.X (km) (Nat.le_of_ble_eq_true rfl) (Nat.le_of_ble_eq_true rfl) ?_
    refine wp_if_neB d67_4 (by decide) (fun hq => absurd hq (by decide)) (fun h4 => ?_)
    refine wp_bipush d67_7 bi_m103 ?_
    exact wp_iret d67_9 rfl rfl rfl
  · rw [decide_eq_true (by omega)] at km
    rw [if_neg e, if_neg e]
    have h1 := CIv_X (img' := img) (sl' := sl) (bd' := bd) (fd' := fd + 1) h
    obtain ⟨σ', ow', A', K1, hF, h2, hB⟩ := s_book h1 g (by omega) none (fun k hk => by cases hk)
    refine ⟨σ', ?_, Fr_trans Fr_X (Fr_all hF (by decide) (by decide)), h2⟩
    refine ev_of (L := [(.ref 1)]) (by decide) rfl (Nat.le_of_ble_eq_true rfl) ?_
    refine wp_aload_0 d67_0 ?_
    refine wp_V0r d67_1 h.k.X (km) (Nat.le_of_ble_eq_true rfl) (Nat.le_of_ble_eq_true rfl) ?_
    refine wp_if_neB d67_4 (by decide) (fun h4 => ?_) (fun hq => absurd hq (by decide))
    refine wp_aload_0 d67_10 ?_
    refine wp_dup d67_11 rfl ?_
    refine wp_get d67_12 (Nat.le_of_ble_eq_true rfl) h.k.X h.X.1 rfl ?_
    refine wp_iconst d67_15 ic_1 ?_
    refine wp_iaddN d67_16 ?_
    refine wp_putI d67_17 h.k.X ?_
    rw [setF_Hs h.X, show (xF img sl bd fd).set 10 (.int (nI (fd + 1))) = xF img sl bd (fd + 1) from rfl]
    refine wp_aload_0 d67_20 ?_
    refine wp_get d67_21 (Nat.le_of_ble_eq_true rfl) h.k.X h1.X.1 rfl ?_
    refine wp_aload_0 d67_24 ?_
    refine wp_get d67_25 (Nat.le_of_ble_eq_true rfl) h.k.X h1.X.1 rfl ?_
    refine wp_iconst d67_28 ic_m1 ?_
    refine wp_V2v d67_29 h.k.O.1 (K1) (Nat.le_of_ble_eq_true rfl) (Nat.le_of_ble_eq_true rfl) ?_
    refine wp_aload_0 d67_32 ?_
    refine wp_get d67_33 (Nat.le_of_ble_eq_true rfl) h2.k.X h2.X.1 rfl ?_
    refine wp_get d67_36 (Nat.le_of_ble_eq_true rfl) h2.k.O.1 hB.1 rfl ?_
    exact wp_iret d67_39 rfl rfl rfl
theorem c_sure (h : CIv σ pm pg N K img sl bd fd) (g : Gd N) (hfd : fd ≤ 40) (x : Int32) : ∃ σ', Ev 16 0 0 68 [.ref 1, .int x] σ (some (.int (if inB x N.tr ((N.st : Int) - 1) then (if N.w = 0 ∨ fd = 40 then -103 else r_sure N.w N.ki N.fi N.de N.le N.to N.tr N.st x.toInt.toNat) else -101))) σ' ∧ Fr σ σ' 1 76 ∧ CIv σ' pm pg N K img sl bd (if okSu N.tr N.st N.w fd x then fd + 1 else fd) := by
  obtain ⟨du, hN⟩ := h.N
  have km := c_may h g hfd
  have hs := Ev_rd hN (t_hasStretch h.k.N g.s6 x)
  have hs6 := g.s6
  have hts := g.ts
  by_cases c : inB x N.tr ((N.st : Int) - 1) = true
  · obtain ⟨v, hv, ex, -, hv1, hv2⟩ := inN c (by omega)
    rw [if_pos c, hv]
    have c2 : inB x 0 ((N.st : Int) - 1) = true := inB_t.mpr (by have := inB_t.mp c; omega)
    rw [c2, ex] at hs
    by_cases e : N.w = 0 ∨ fd = 40
    · rw [decide_eq_false (by omega)] at km
      rw [if_pos e, show okSu N.tr N.st N.w fd x = false by rcases e with e | e <;> simp [okSu, e]]
      refine ⟨σ, ?_, Fr_refl, h⟩
      rw [ex]
      refine ev_of (L := [(.ref 1), (.int (nI v))]) (by decide) rfl (Nat.le_of_ble_eq_true rfl) ?_
      refine wp_aload_0 d68_0 ?_
      refine wp_get d68_1 (Nat.le_of_ble_eq_true rfl) h.k.X h.X.1 rfl ?_
      refine wp_iload_1 d68_4 ?_
      refine wp_V1r d68_5 h.k.N.1 (hs) (Nat.le_of_ble_eq_true rfl) (Nat.le_of_ble_eq_true rfl) ?_
      refine wp_if_eqB d68_8 (by decide) (fun hq => absurd hq (by decide)) (fun h8 => ?_)
      refine wp_iload_1 d68_11 ?_
      refine wp_aload_0 d68_12 ?_
      refine wp_get d68_13 (Nat.le_of_ble_eq_true rfl) h.k.X h.X.1 rfl ?_
      refine wp_get d68_16 (Nat.le_of_ble_eq_true rfl) h.k.N.1 hN.1 rfl ?_
      refine wp_icmp_geN d68_19 (by decide) (by omega) (by omega) (fun h19 => ?_) (fun hq => absurd hq (by omega))
      refine wp_aload_0 d68_25 ?_
      refine wp_V0r d68_26 h.k.X (km) (Nat.le_of_ble_eq_true rfl) (Nat.le_of_ble_eq_true rfl) ?_
      refine wp_if_neB d68_29 (by decide) (fun hq => absurd hq (by decide)) (fun h29 => ?_)
      refine wp_bipush d68_32 bi_m103 ?_
      exact wp_iret d68_34 rfl rfl rfl
    · rw [decide_eq_true (by omega)] at km
      rw [if_neg e, show okSu N.tr N.st N.w fd x = true by simp [okSu, c]; omega]
      have h1 := CIv_X (img' := img) (sl' := sl) (bd' := bd) (fd' := fd + 1) h
      obtain ⟨σ', ow', A', K1, hF, h2, hB⟩ := s_book h1 g (by omega) (some v) (fun k hk => by cases hk; omega)
      refine ⟨σ', ?_, Fr_trans Fr_X (Fr_all hF (by decide) (by decide)), h2⟩
      rw [show r_sure N.w N.ki N.fi N.de N.le N.to N.tr N.st v = eo (agA N.w N.ki N.fi N.de N.le N.to N.tr N.st (some v) (N.w ^ (N.st - N.tr))) from sure_eq (by omega) (by omega) (by omega) _, ex]
      refine ev_of (L := [(.ref 1), (.int (nI v))]) (by decide) rfl (Nat.le_of_ble_eq_true rfl) ?_
      refine wp_aload_0 d68_0 ?_
      refine wp_get d68_1 (Nat.le_of_ble_eq_true rfl) h.k.X h.X.1 rfl ?_
      refine wp_iload_1 d68_4 ?_
      refine wp_V1r d68_5 h.k.N.1 (hs) (Nat.le_of_ble_eq_true rfl) (Nat.le_of_ble_eq_true rfl) ?_
      refine wp_if_eqB d68_8 (by decide) (fun hq => absurd hq (by decide)) (fun h8 => ?_)
      refine wp_iload_1 d68_11 ?_
      refine wp_aload_0 d68_12 ?_
      refine wp_get d68_13 (Nat.le_of_ble_eq_true rfl) h.k.X h.X.1 rfl ?_
      refine wp_get d68_16 (Nat.le_of_ble_eq_true rfl) h.k.N.1 hN.1 rfl ?_
      refine wp_icmp_geN d68_19 (by decide) (by omega) (by omega) (fun h19 => ?_) (fun hq => absurd hq (by omega))
      refine wp_aload_0 d68_25 ?_
      refine wp_V0r d68_26 h.k.X (km) (Nat.le_of_ble_eq_true rfl) (Nat.le_of_ble_eq_true rfl) ?_
      refine wp_if_neB d68_29 (by decide) (fun h29 => ?_) (fun hq => absurd hq (by decide))
      refine wp_aload_0 d68_35 ?_
      refine wp_dup d68_36 rfl ?_
      refine wp_get d68_37 (Nat.le_of_ble_eq_true rfl) h.k.X h.X.1 rfl ?_
      refine wp_iconst d68_40 ic_1 ?_
      refine wp_iaddN d68_41 ?_
      refine wp_putI d68_42 h.k.X ?_
      rw [setF_Hs h.X, show (xF img sl bd fd).set 10 (.int (nI (fd + 1))) = xF img sl bd (fd + 1) from rfl]
      refine wp_aload_0 d68_45 ?_
      refine wp_get d68_46 (Nat.le_of_ble_eq_true rfl) h.k.X h1.X.1 rfl ?_
      refine wp_aload_0 d68_49 ?_
      refine wp_get d68_50 (Nat.le_of_ble_eq_true rfl) h.k.X h1.X.1 rfl ?_
      refine wp_iload_1 d68_53 ?_
      refine wp_V2v d68_54 h.k.O.1 (K1) (Nat.le_of_ble_eq_true rfl) (Nat.le_of_ble_eq_true rfl) ?_
      refine wp_aload_0 d68_57 ?_
      refine wp_get d68_58 (Nat.le_of_ble_eq_true rfl) h2.k.X h2.X.1 rfl ?_
      refine wp_get d68_61 (Nat.le_of_ble_eq_true rfl) h2.k.O.1 hB.1 rfl ?_
      exact wp_iret d68_64 rfl rfl rfl
  · have hx := mt inB_t.mpr c
    have c' : inB x N.tr ((N.st : Int) - 1) = false := by simpa using c
    rw [if_neg c, show okSu N.tr N.st N.w fd x = false by simp [okSu, c']]
    refine ⟨σ, ?_, Fr_refl, h⟩
    by_cases c2 : inB x 0 ((N.st : Int) - 1) = true
    · obtain ⟨v, hv, ex, ex3, hv1, hv2⟩ := inN c2 (by omega)
      rw [c2, ex] at hs
      rw [ex]
      refine ev_of (L := [(.ref 1), (.int (nI v))]) (by decide) rfl (Nat.le_of_ble_eq_true rfl) ?_
      refine wp_aload_0 d68_0 ?_
      refine wp_get d68_1 (Nat.le_of_ble_eq_true rfl) h.k.X h.X.1 rfl ?_
      refine wp_iload_1 d68_4 ?_
      refine wp_V1r d68_5 h.k.N.1 (hs) (Nat.le_of_ble_eq_true rfl) (Nat.le_of_ble_eq_true rfl) ?_
      refine wp_if_eqB d68_8 (by decide) (fun hq => absurd hq (by decide)) (fun h8 => ?_)
      refine wp_iload_1 d68_11 ?_
      refine wp_aload_0 d68_12 ?_
      refine wp_get d68_13 (Nat.le_of_ble_eq_true rfl) h.k.X h.X.1 rfl ?_
      refine wp_get d68_16 (Nat.le_of_ble_eq_true rfl) h.k.N.1 hN.1 rfl ?_
      refine wp_icmp_geN d68_19 (by decide) (by omega) (by omega) (fun hq => absurd hq (by omega)) (fun h19 => ?_)
      refine wp_bipush d68_22 bi_m101 ?_
      exact wp_iret d68_24 rfl rfl rfl
    · rw [show inB x 0 ((N.st : Int) - 1) = false by simpa using c2] at hs
      refine ev_of (L := [(.ref 1), (.int x)]) (by decide) rfl (Nat.le_of_ble_eq_true rfl) ?_
      refine wp_aload_0 d68_0 ?_
      refine wp_get d68_1 (Nat.le_of_ble_eq_true rfl) h.k.X h.X.1 rfl ?_
      refine wp_iload_1 d68_4 ?_
      refine wp_V1r d68_5 h.k.N.1 (hs) (Nat.le_of_ble_eq_true rfl) (Nat.le_of_ble_eq_true rfl) ?_
      refine wp_if_eqB d68_8 (by decide) (fun h8 => ?_) (fun hq => absurd hq (by decide))
      refine wp_bipush d68_22 bi_m101 ?_
      exact wp_iret d68_24 rfl rfl rfl

end S34_tb5
