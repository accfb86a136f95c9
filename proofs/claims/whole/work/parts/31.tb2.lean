section S31_tb2
variable {σ : Sto} {pm : Nat} {pg : Nat → Nat} {N K : Trl} {img : Bool} {sl bd fd : Nat}

theorem Fr_all {σ σ' : Sto} {a n : Nat} (h : Fr σ σ' a n) (h1 : 1 ≤ a) (h2 : a + n ≤ 77) : Fr σ σ' 1 76 := Fr_mono h h1 (by omega)
theorem Fr_P {f : List Value} {a : List Int32} : Fr σ (put σ 2 (2 + 1) f (pgA a)) 1 76 := Fr_put Fr_refl (by decide) (by simp [pgA])
theorem Fr_N {f : List Value} {a1 a2 a3 a4 a5 a6 a7 a8 : List Int32} : Fr σ (put σ 4 (4 + 1) f (trA a1 a2 a3 a4 a5 a6 a7 a8)) 1 76 := Fr_put Fr_refl (by decide) (by simp [trA])
theorem Fr_K {f : List Value} {a1 a2 a3 a4 a5 a6 a7 a8 : List Int32} : Fr σ (put σ 13 (13 + 1) f (trA a1 a2 a3 a4 a5 a6 a7 a8)) 1 76 := Fr_put Fr_refl (by decide) (by simp [trA])
theorem Fr_T {f : List Value} {a1 a2 a3 a4 a5 a6 a7 a8 : List Int32} : Fr σ (put σ 22 (22 + 1) f (trA a1 a2 a3 a4 a5 a6 a7 a8)) 1 76 := Fr_put Fr_refl (by decide) (by simp [trA])
theorem Fr_X {f : List Value} : Fr σ (put σ 1 2 f []) 1 76 := Fr_put Fr_refl (by decide) (by decide)
theorem inN {x : Int32} {a b : Int} (h : inB x a b = true) (ha : 0 ≤ a) : ∃ v : Nat, x.toInt.toNat = v ∧ x = nI v ∧ x.toInt = (v : Int) ∧ a ≤ (v : Int) ∧ (v : Int) ≤ b := by
  have hx := inB_t.mp h
  exact ⟨x.toInt.toNat, rfl, nI_to (by omega), by omega, by omega, by omega⟩
theorem c_letter (h : CIv σ pm pg N K img sl bd fd) (hpm : pm ≤ 10) (x : Int32) : ∃ σ', Ev 1 0 0 50 [.ref 1, .int x] σ (some (.int (r_letter pm x))) σ' ∧ Fr σ σ' 1 76 ∧ CIv σ' (n_letter pm x) (p_letter pm pg x) N K img sl bd fd := by
  by_cases e : inB x 1 126 = true
  · obtain ⟨v, hv, ex, -, hv1, hv2⟩ := inN e (by decide)
    by_cases e2 : pm = 10
    · rw [show r_letter pm x = -104 by simp [r_letter, e, e2], show n_letter pm x = pm by simp [n_letter, e2], show p_letter pm pg x = pg by simp [p_letter, e2]]
      refine ⟨σ, ?_, Fr_refl, h⟩
      rw [ex]
      refine ev_of (L := [(.ref 1), (.int (nI v))]) (by decide) rfl (Nat.le_of_ble_eq_true rfl) ?_
      refine wp_iload_1 d50_0 ?_
      refine wp_iconst d50_1 ic_1 ?_
      refine wp_icmp_ltN d50_2 (by decide) (by omega) (by omega) (fun hq => absurd hq (by omega)) (fun h2 => ?_)
      refine wp_iload_1 d50_5 ?_
      refine wp_bipush d50_6 bi_126 ?_
      refine wp_icmp_leN d50_8 (by decide) (by omega) (by omega) (fun h8 => ?_) (fun hq => absurd hq (by omega))
      refine wp_aload_0 d50_14 ?_
      refine wp_get d50_15 (Nat.le_of_ble_eq_true rfl) h.k.X h.X.1 rfl ?_
      refine wp_get d50_18 (Nat.le_of_ble_eq_true rfl) h.k.P.1 h.P.1 rfl ?_
      refine wp_bipush d50_21 bi_10 ?_
      refine wp_icmp_ltN d50_23 (by decide) (by omega) (by omega) (fun hq => absurd hq (by omega)) (fun h23 => ?_)
      refine wp_bipush d50_26 bi_m104 ?_
      exact wp_iret d50_28 rfl rfl rfl
    · rw [show r_letter pm x = nI (pm + 1) by simp [r_letter, e, e2], show n_letter pm x = pm + 1 by simp [n_letter, e, e2], show p_letter pm pg x = up pg pm x.toInt.toNat by simp [p_letter, e, e2]]
      rw [hv]
      refine ⟨_, ?_, Fr_P, CIv_P h⟩
      have K := Ev_at h.P (g_append (a := v) h.k.P (show pm < 10 by omega))
      rw [ex]
      refine ev_of (L := [(.ref 1), (.int (nI v))]) (by decide) rfl (Nat.le_of_ble_eq_true rfl) ?_
      refine wp_iload_1 d50_0 ?_
      refine wp_iconst d50_1 ic_1 ?_
      refine wp_icmp_ltN d50_2 (by decide) (by omega) (by omega) (fun hq => absurd hq (by omega)) (fun h2 => ?_)
      refine wp_iload_1 d50_5 ?_
      refine wp_bipush d50_6 bi_126 ?_
      refine wp_icmp_leN d50_8 (by decide) (by omega) (by omega) (fun h8 => ?_) (fun hq => absurd hq (by omega))
      refine wp_aload_0 d50_14 ?_
      refine wp_get d50_15 (Nat.le_of_ble_eq_true rfl) h.k.X h.X.1 rfl ?_
      refine wp_get d50_18 (Nat.le_of_ble_eq_true rfl) h.k.P.1 h.P.1 rfl ?_
      refine wp_bipush d50_21 bi_10 ?_
      refine wp_icmp_ltN d50_23 (by decide) (by omega) (by omega) (fun h23 => ?_) (fun hq => absurd hq (by omega))
      refine wp_aload_0 d50_29 ?_
      refine wp_get d50_30 (Nat.le_of_ble_eq_true rfl) h.k.X h.X.1 rfl ?_
      refine wp_iload_1 d50_33 ?_
      refine wp_V1v d50_34 h.k.P.1 (K) (Nat.le_of_ble_eq_true rfl) (Nat.le_of_ble_eq_true rfl) ?_
      refine wp_aload_0 d50_37 ?_
      refine wp_get d50_38 (Nat.le_of_ble_eq_true rfl) h.k.X (CIv_P h).X.1 rfl ?_
      refine wp_get d50_41 (Nat.le_of_ble_eq_true rfl) h.k.P.1 (CIv_P h).P.1 rfl ?_
      exact wp_iret d50_44 rfl rfl rfl
  · have hx := mt inB_t.mpr e
    rw [show r_letter pm x = -102 by simp [r_letter, e], show n_letter pm x = pm by simp [n_letter, e], show p_letter pm pg x = pg by simp [p_letter, e]]
    refine ⟨σ, ?_, Fr_refl, h⟩
    refine ev_of (L := [(.ref 1), (.int x)]) (by decide) rfl (Nat.le_of_ble_eq_true rfl) ?_
    refine wp_iload_1 d50_0 ?_
    refine wp_iconst d50_1 ic_1 ?_
    refine wp_icmp_lt d50_2 (by decide) (fun h2 => ?_) (fun h2 => ?_)
    · refine wp_bipush d50_11 bi_m102 ?_
      exact wp_iret d50_13 rfl rfl rfl
    · have := mt (lt_nI (x := x) (a := 1) (by decide)).mpr h2
      refine wp_iload_1 d50_5 ?_
      refine wp_bipush d50_6 bi_126 ?_
      refine wp_icmp_le d50_8 (by decide) (fun hq => absurd ((le_nI (x := x) (a := 126) (by decide)).mp hq) (by omega)) (fun _ => ?_)
      refine wp_bipush d50_11 bi_m102 ?_
      exact wp_iret d50_13 rfl rfl rfl
theorem c_blank (h : CIv σ pm pg N K img sl bd fd) : ∃ σ', Ev 1 0 0 51 [.ref 1] σ (some (.int (nI pm))) σ' ∧ Fr σ σ' 1 76 ∧ CIv σ' 0 pg N K img sl bd fd := by
  refine ⟨_, ?_, Fr_P, CIv_P h⟩
  refine ev_of (L := [(.ref 1), .null]) (by decide) rfl (Nat.le_of_ble_eq_true rfl) ?_
  refine wp_aload_0 d51_0 ?_
  refine wp_get d51_1 (Nat.le_of_ble_eq_true rfl) h.k.X h.X.1 rfl ?_
  refine wp_get d51_4 (Nat.le_of_ble_eq_true rfl) h.k.P.1 h.P.1 rfl ?_
  refine wp_istore_1 d51_7 (Nat.le_of_ble_eq_true rfl) rfl ?_
  refine wp_aload_0 d51_8 ?_
  refine wp_get d51_9 (Nat.le_of_ble_eq_true rfl) h.k.X h.X.1 rfl ?_
  refine wp_iconst d51_12 ic_0 ?_
  rw [← Hs_self h.P]
  refine wp_putIP d51_13 h.k.P.1 ?_
  rw [Hs_self h.P]
  refine wp_iload_1 d51_16 ?_
  exact wp_iret d51_17 rfl rfl rfl
theorem c_fault (h : CIv σ pm pg N K img sl bd fd) (hpm : pm ≤ 10) (hpg : ∀ k, k < pm → pg k < 1000) : ∃ σ', Ev 2 0 0 52 [.ref 1] σ (some (.int (nI (flt pg pm 0 0 0).1))) σ' ∧ Fr σ σ' 1 76 ∧ CIv σ' pm pg N K img sl bd fd := by
  refine ⟨σ, ?_, Fr_refl, h⟩
  have K := Ev_rd h.P (g_firstWrong h.k.P hpm hpg)
  refine ev_of (L := [(.ref 1)]) (by decide) rfl (Nat.le_of_ble_eq_true rfl) ?_
  refine wp_aload_0 d52_0 ?_
  refine wp_get d52_1 (Nat.le_of_ble_eq_true rfl) h.k.X h.X.1 rfl ?_
  refine wp_V0r d52_4 h.k.P.1 (K) (Nat.le_of_ble_eq_true rfl) (Nat.le_of_ble_eq_true rfl) ?_
  exact wp_iret d52_7 rfl rfl rfl
theorem c_stretch (h : CIv σ pm pg N K img sl bd fd) (g : Gd N) (x y : Int32) : ∃ σ', Ev 1 0 0 54 [.ref 1, .int x, .int y] σ (some (.int (if inB x 0 ((N.st : Int) - 1) then r_stretch N.de N.fo x.toInt.toNat y else -101))) σ' ∧ Fr σ σ' 1 76 ∧ CIv σ' pm pg N K img sl bd fd := by
  obtain ⟨du, hN⟩ := h.N
  refine ⟨σ, ?_, Fr_refl, h⟩
  have K := Ev_rd hN (t_hasStretch h.k.N g.s6 x)
  have hs6 := g.s6
  by_cases e : inB x 0 ((N.st : Int) - 1) = true
  · obtain ⟨v, hv, ex, -, hv1, hv2⟩ := inN e (by decide)
    rw [if_pos e, hv]
    rw [e, ex] at K
    rw [ex]
    refine ev_of (L := [(.ref 1), (.int (nI v)), (.int y)]) (by decide) rfl (Nat.le_of_ble_eq_true rfl) ?_
    refine wp_aload_0 d54_0 ?_
    refine wp_get d54_1 (Nat.le_of_ble_eq_true rfl) h.k.X h.X.1 rfl ?_
    refine wp_iload_1 d54_4 ?_
    refine wp_V1r d54_5 h.k.N.1 (K) (Nat.le_of_ble_eq_true rfl) (Nat.le_of_ble_eq_true rfl) ?_
    refine wp_if_neB d54_8 (by decide) (fun h8 => ?_) (fun hq => absurd hq (by decide))
    refine wp_iload_2 d54_14 ?_
    refine wp_if_ne d54_15 (by decide) (fun h15 => ?_) (fun h15 => ?_)
    · have hy : ¬ y.toInt = 0 := fun z => h15 ((eq_nI (a := 0) (by decide)).mpr z)
      refine wp_iload_2 d54_28 ?_
      refine wp_iconst d54_29 ic_1 ?_
      refine wp_icmp_ne d54_30 (by decide) (fun h30 => ?_) (fun h30 => ?_)
      · have hy1 : ¬ y.toInt = 1 := fun z => h30 ((eq_nI (a := 1) (by decide)).mpr z)
        rw [show r_stretch N.de N.fo v y = -102 by simp [r_stretch, hy, hy1]]
        refine wp_bipush d54_43 bi_m102 ?_
        exact wp_iret d54_45 rfl rfl rfl
      · have hy1 : y.toInt = 1 := (eq_nI (a := 1) (by decide)).mp (by simpa using h30)
        rw [show r_stretch N.de N.fo v y = eo (N.fo v) by simp [r_stretch, hy1]]
        refine wp_aload_0 d54_33 ?_
        refine wp_get d54_34 (Nat.le_of_ble_eq_true rfl) h.k.X h.X.1 rfl ?_
        refine wp_get d54_37 (Nat.le_of_ble_eq_true rfl) h.k.N.1 hN.1 rfl ?_
        refine wp_iload_1 d54_40 ?_
        refine wp_aldG d54_41 (h.k.N.2 1 (by decide)) (hN.2 1 _ rfl) (by omega) (by decide) ?_
        exact wp_iret d54_42 rfl rfl rfl
    · have hy : y.toInt = 0 := (eq_nI (a := 0) (by decide)).mp h15
      rw [show r_stretch N.de N.fo v y = nI (N.de v) by simp [r_stretch, hy]]
      refine wp_aload_0 d54_18 ?_
      refine wp_get d54_19 (Nat.le_of_ble_eq_true rfl) h.k.X h.X.1 rfl ?_
      refine wp_get d54_22 (Nat.le_of_ble_eq_true rfl) h.k.N.1 hN.1 rfl ?_
      refine wp_iload_1 d54_25 ?_
      refine wp_aldG d54_26 (h.k.N.2 0 (by decide)) (hN.2 0 _ rfl) (by omega) (by decide) ?_
      exact wp_iret d54_27 rfl rfl rfl
  · rw [if_neg e]
    rw [show inB x 0 ((N.st : Int) - 1) = false by simpa using e] at K
    refine ev_of (L := [(.ref 1), (.int x), (.int y)]) (by decide) rfl (Nat.le_of_ble_eq_true rfl) ?_
    refine wp_aload_0 d54_0 ?_
    refine wp_get d54_1 (Nat.le_of_ble_eq_true rfl) h.k.X h.X.1 rfl ?_
    refine wp_iload_1 d54_4 ?_
    refine wp_V1r d54_5 h.k.N.1 (K) (Nat.le_of_ble_eq_true rfl) (Nat.le_of_ble_eq_true rfl) ?_
    refine wp_if_neB d54_8 (by decide) (fun hq => absurd hq (by decide)) (fun h8 => ?_)
    refine wp_bipush d54_11 bi_m101 ?_
    exact wp_iret d54_13 rfl rfl rfl
theorem c_isKind (x : Int32) : Ev 0 0 0 74 [.int x] σ (some (.int (bi (inB x 0 4)))) σ := by
  refine ev_of (L := [(.int x)]) (by decide) rfl (Nat.le_of_ble_eq_true rfl) ?_
  refine wp_iload_0 d74_0 ?_
  refine wp_if_lt d74_1 (by decide) (fun h1 => ?_) (fun h1 => ?_)
  · have := (lt_nI (a := 0) (by decide)).mp h1
    refine wp_iconst d74_13 ic_0 ?_
    exact wp_zret d74_14 rfl nI_01 (by rw [inB_f.mpr (by omega)]; rfl) rfl
  · have := mt (lt_nI (x := x) (a := 0) (by decide)).mpr h1
    refine wp_iload_0 d74_4 ?_
    refine wp_iconst d74_5 ic_4 ?_
    refine wp_icmp_gt d74_6 (by decide) (fun h6 => ?_) (fun h6 => ?_)
    · have := (gt_nI (a := 4) (by omega)).mp h6
      refine wp_iconst d74_13 ic_0 ?_
      exact wp_zret d74_14 rfl nI_01 (by rw [inB_f.mpr (by omega)]; rfl) rfl
    · have := mt (gt_nI (x := x) (a := 4) (by omega)).mpr h6
      refine wp_iconst d74_9 ic_1 ?_
      refine wp_goto d74_10 (by decide) ?_
      exact wp_zret d74_14 rfl nI_11 (by rw [inB_t.mpr (by omega)]; rfl) rfl
theorem c_walker (h : CIv σ pm pg N K img sl bd fd) (g : Gd N) (x y : Int32) : ∃ σ', Ev 1 0 0 55 [.ref 1, .int x, .int y] σ (some (.int (r_walker N.st N.w x y))) σ' ∧ Fr σ σ' 1 76 ∧ CIv σ' pm pg (if okW N.st N.w x y then mkT N.st N.me N.tr (N.w + 1) N.mi N.de (up N.ki N.w x.toInt.toNat) (up N.sr N.w y.toInt.toNat) (up N.le N.w y.toInt.toNat) (up N.fi N.w N.w) N.fo (up N.to N.w none) else N) K img sl bd fd := by
  obtain ⟨du, hN⟩ := h.N
  have hs6 := g.s6
  have hw5 := g.w5
  by_cases e : inB x 0 4 = true
  · by_cases e1 : inB y 1 99 = true
    · obtain ⟨v, hv, ex, -, hv1, hv2⟩ := inN e (by decide)
      obtain ⟨u, hu, ey, -, hu1, hu2⟩ := inN e1 (by decide)
      have kk := c_isKind (σ := σ) x
      rw [e, ex] at kk
      by_cases e2 : N.st = 0
      · rw [show r_walker N.st N.w x y = -103 by simp [r_walker, e, e1, e2], show okW N.st N.w x y = false by simp [okW, e2]]
        refine ⟨σ, ?_, Fr_refl, h⟩
        rw [ex, ey]
        refine ev_of (L := [(.ref 1), (.int (nI v)), (.int (nI u))]) (by decide) rfl (Nat.le_of_ble_eq_true rfl) ?_
        refine wp_iload_1 d55_0 ?_
        refine wp_S1r d55_1 rfl ((kk)) (Nat.le_of_ble_eq_true rfl) (Nat.le_of_ble_eq_true rfl) ?_
        refine wp_if_eqB d55_4 (by decide) (fun hq => absurd hq (by decide)) (fun h4 => ?_)
        refine wp_iload_2 d55_7 ?_
        refine wp_iconst d55_8 ic_1 ?_
        refine wp_icmp_ltN d55_9 (by decide) (by omega) (by omega) (fun hq => absurd hq (by omega)) (fun h9 => ?_)
        refine wp_iload_2 d55_12 ?_
        refine wp_bipush d55_13 bi_99 ?_
        refine wp_icmp_leN d55_15 (by decide) (by omega) (by omega) (fun h15 => ?_) (fun hq => absurd hq (by omega))
        refine wp_aload_0 d55_21 ?_
        refine wp_get d55_22 (Nat.le_of_ble_eq_true rfl) h.k.X h.X.1 rfl ?_
        refine wp_get d55_25 (Nat.le_of_ble_eq_true rfl) h.k.N.1 hN.1 rfl ?_
        refine wp_if_neN d55_28 (by decide) (by omega) (fun hq => absurd hq (by omega)) (fun h28 => ?_)
        refine wp_bipush d55_31 bi_m103 ?_
        exact wp_iret d55_33 rfl rfl rfl
      · by_cases e3 : N.w = 5
        · rw [show r_walker N.st N.w x y = -104 by simp [r_walker, e, e1, e2, e3], show okW N.st N.w x y = false by simp [okW, e3]]
          refine ⟨σ, ?_, Fr_refl, h⟩
          rw [ex, ey]
          refine ev_of (L := [(.ref 1), (.int (nI v)), (.int (nI u))]) (by decide) rfl (Nat.le_of_ble_eq_true rfl) ?_
          refine wp_iload_1 d55_0 ?_
          refine wp_S1r d55_1 rfl ((kk)) (Nat.le_of_ble_eq_true rfl) (Nat.le_of_ble_eq_true rfl) ?_
          refine wp_if_eqB d55_4 (by decide) (fun hq => absurd hq (by decide)) (fun h4 => ?_)
          refine wp_iload_2 d55_7 ?_
          refine wp_iconst d55_8 ic_1 ?_
          refine wp_icmp_ltN d55_9 (by decide) (by omega) (by omega) (fun hq => absurd hq (by omega)) (fun h9 => ?_)
          refine wp_iload_2 d55_12 ?_
          refine wp_bipush d55_13 bi_99 ?_
          refine wp_icmp_leN d55_15 (by decide) (by omega) (by omega) (fun h15 => ?_) (fun hq => absurd hq (by omega))
          refine wp_aload_0 d55_21 ?_
          refine wp_get d55_22 (Nat.le_of_ble_eq_true rfl) h.k.X h.X.1 rfl ?_
          refine wp_get d55_25 (Nat.le_of_ble_eq_true rfl) h.k.N.1 hN.1 rfl ?_
          refine wp_if_neN d55_28 (by decide) (by omega) (fun h28 => ?_) (fun hq => absurd hq (by omega))
          refine wp_aload_0 d55_34 ?_
          refine wp_get d55_35 (Nat.le_of_ble_eq_true rfl) h.k.X h.X.1 rfl ?_
          refine wp_get d55_38 (Nat.le_of_ble_eq_true rfl) h.k.N.1 hN.1 rfl ?_
          refine wp_iconst d55_41 ic_5 ?_
          refine wp_icmp_ltN d55_42 (by decide) (by omega) (by omega) (fun hq => absurd hq (by omega)) (fun h42 => ?_)
          refine wp_bipush d55_45 bi_m104 ?_
          exact wp_iret d55_47 rfl rfl rfl
        · rw [show r_walker N.st N.w x y = nI N.w by simp [r_walker, e, e1, e2, e3], show okW N.st N.w x y = true by simp [okW, e, e1, e2]; omega, hv, hu]
          have K := Ev_at hN (t_join (a := v) (b := u) h.k.N (show N.w < 5 by omega))
          refine ⟨_, ?_, Fr_N, CIv_N (N' := mkT N.st N.me N.tr (N.w + 1) N.mi N.de (up N.ki N.w v) (up N.sr N.w u) (up N.le N.w u) (up N.fi N.w N.w) N.fo (up N.to N.w none)) (du := du) h⟩
          rw [ex, ey]
          refine ev_of (L := [(.ref 1), (.int (nI v)), (.int (nI u))]) (by decide) rfl (Nat.le_of_ble_eq_true rfl) ?_
          refine wp_iload_1 d55_0 ?_
          refine wp_S1r d55_1 rfl ((kk)) (Nat.le_of_ble_eq_true rfl) (Nat.le_of_ble_eq_true rfl) ?_
          refine wp_if_eqB d55_4 (by decide) (fun hq => absurd hq (by decide)) (fun h4 => ?_)
          refine wp_iload_2 d55_7 ?_
          refine wp_iconst d55_8 ic_1 ?_
          refine wp_icmp_ltN d55_9 (by decide) (by omega) (by omega) (fun hq => absurd hq (by omega)) (fun h9 => ?_)
          refine wp_iload_2 d55_12 ?_
          refine wp_bipush d55_13 bi_99 ?_
          refine wp_icmp_leN d55_15 (by decide) (by omega) (by omega) (fun h15 => ?_) (fun hq => absurd hq (by omega))
          refine wp_aload_0 d55_21 ?_
          refine wp_get d55_22 (Nat.le_of_ble_eq_true rfl) h.k.X h.X.1 rfl ?_
          refine wp_get d55_25 (Nat.le_of_ble_eq_true rfl) h.k.N.1 hN.1 rfl ?_
          refine wp_if_neN d55_28 (by decide) (by omega) (fun h28 => ?_) (fun hq => absurd hq (by omega))
          refine wp_aload_0 d55_34 ?_
          refine wp_get d55_35 (Nat.le_of_ble_eq_true rfl) h.k.X h.X.1 rfl ?_
          refine wp_get d55_38 (Nat.le_of_ble_eq_true rfl) h.k.N.1 hN.1 rfl ?_
          refine wp_iconst d55_41 ic_5 ?_
          refine wp_icmp_ltN d55_42 (by decide) (by omega) (by omega) (fun h42 => ?_) (fun hq => absurd hq (by omega))
          refine wp_aload_0 d55_48 ?_
          refine wp_get d55_49 (Nat.le_of_ble_eq_true rfl) h.k.X h.X.1 rfl ?_
          refine wp_iload_1 d55_52 ?_
          refine wp_iload_2 d55_53 ?_
          refine wp_V2r d55_54 h.k.N.1 (K) (Nat.le_of_ble_eq_true rfl) (Nat.le_of_ble_eq_true rfl) ?_
          exact wp_iret d55_57 rfl rfl rfl
    · have hy := mt inB_t.mpr e1
      have e1' : inB y 1 99 = false := by simpa using e1
      rw [show r_walker N.st N.w x y = -102 by simp [r_walker, e1'], show okW N.st N.w x y = false by simp [okW, e1']]
      refine ⟨σ, ?_, Fr_refl, h⟩
      have kk := c_isKind (σ := σ) x
      rw [e] at kk
      refine ev_of (L := [(.ref 1), (.int x), (.int y)]) (by decide) rfl (Nat.le_of_ble_eq_true rfl) ?_
      refine wp_iload_1 d55_0 ?_
      refine wp_S1r d55_1 rfl ((kk)) (Nat.le_of_ble_eq_true rfl) (Nat.le_of_ble_eq_true rfl) ?_
      refine wp_if_eqB d55_4 (by decide) (fun hq => absurd hq (by decide)) (fun h4 => ?_)
      refine wp_iload_2 d55_7 ?_
      refine wp_iconst d55_8 ic_1 ?_
      refine wp_icmp_lt d55_9 (by decide) (fun h9 => ?_) (fun h9 => ?_)
      · refine wp_bipush d55_18 bi_m102 ?_
        exact wp_iret d55_20 rfl rfl rfl
      · have := mt (lt_nI (x := y) (a := 1) (by decide)).mpr h9
        refine wp_iload_2 d55_12 ?_
        refine wp_bipush d55_13 bi_99 ?_
        refine wp_icmp_le d55_15 (by decide) (fun hq => absurd ((le_nI (x := y) (a := 99) (by decide)).mp hq) (by omega)) (fun _ => ?_)
        refine wp_bipush d55_18 bi_m102 ?_
        exact wp_iret d55_20 rfl rfl rfl
  · have e' : inB x 0 4 = false := by simpa using e
    rw [show r_walker N.st N.w x y = -102 by simp [r_walker, e'], show okW N.st N.w x y = false by simp [okW, e']]
    refine ⟨σ, ?_, Fr_refl, h⟩
    have kk := c_isKind (σ := σ) x
    rw [e'] at kk
    refine ev_of (L := [(.ref 1), (.int x), (.int y)]) (by decide) rfl (Nat.le_of_ble_eq_true rfl) ?_
    refine wp_iload_1 d55_0 ?_
    refine wp_S1r d55_1 rfl ((kk)) (Nat.le_of_ble_eq_true rfl) (Nat.le_of_ble_eq_true rfl) ?_
    refine wp_if_eqB d55_4 (by decide) (fun h4 => ?_) (fun hq => absurd hq (by decide))
    refine wp_bipush d55_18 bi_m102 ?_
    exact wp_iret d55_20 rfl rfl rfl

end S31_tb2
