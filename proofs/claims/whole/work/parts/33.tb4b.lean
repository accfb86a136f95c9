section S33_tb4b
variable {σ : Sto} {pm : Nat} {pg : Nat → Nat} {N K : Trl} {img : Bool} {sl bd fd : Nat}

theorem c_tell (h : CIv σ pm pg N K img sl bd fd) (g : Gd N) (x y : Int32) : ∃ σ', Ev 1 0 0 66 [.ref 1, .int x, .int y] σ (some (.int (if inB x 0 ((N.w : Int) - 1) then (if inB y (-1) 6 then eo (N.to x.toInt.toNat) else -102) else -101))) σ' ∧ Fr σ σ' 1 76 ∧ CIv σ' pm pg (n_tell N x y) K img sl bd fd := by
  obtain ⟨du, hN⟩ := h.N
  have kw := Ev_rd hN (t_hasWalker h.k.N g.w5 x)
  have hw5 := g.w5
  by_cases e : inB x 0 ((N.w : Int) - 1) = true
  · obtain ⟨v, hv, ex, -, hv1, hv2⟩ := inN e (by decide)
    rw [if_pos e, hv]
    rw [e, ex] at kw
    by_cases e1 : inB y (-1) 6 = true
    · have h1 := CIv_N (N' := n_tell N x y) (du := du) h
      obtain ⟨du1, hN1⟩ := h1.N
      have ok : okTl N.w x y = true := by simp [okTl, e, e1]
      simp only [n_tell, ok, if_true, hv] at *
      rw [if_pos e1]
      refine ⟨_, ?_, Fr_N, h1⟩
      have ey := tlO_eo e1
      have hy := inB_t.mp e1
      rw [ex]
      have tail : WP 1 0 0 66 32 [.ref 1, .int (nI v), .int y, .null] [] σ (some (.int (eo (N.to v)))) (put σ 4 (4 + 1) (tF 4 (mkT N.st N.me N.tr N.w N.mi N.de N.ki N.sr N.le N.fi N.fo (up N.to v (tlO y)))) (tA (mkT N.st N.me N.tr N.w N.mi N.de N.ki N.sr N.le N.fi N.fo (up N.to v (tlO y))) du)) := by
        refine wp_aload_0 d66_32 ?_
        refine wp_get d66_33 (Nat.le_of_ble_eq_true rfl) h.k.X h.X.1 rfl ?_
        refine wp_get d66_36 (Nat.le_of_ble_eq_true rfl) h.k.N.1 hN.1 rfl ?_
        refine wp_iload_1 d66_39 ?_
        refine wp_aldG d66_40 (h.k.N.2 5 (by decide)) (hN.2 5 _ rfl) (by omega) (by decide) ?_
        refine wp_istore_3 d66_41 (Nat.le_of_ble_eq_true rfl) rfl ?_
        refine wp_aload_0 d66_42 ?_
        refine wp_get d66_43 (Nat.le_of_ble_eq_true rfl) h.k.X h.X.1 rfl ?_
        refine wp_get d66_46 (Nat.le_of_ble_eq_true rfl) h.k.N.1 hN.1 rfl ?_
        refine wp_iload_1 d66_49 ?_
        refine wp_iload_2 d66_50 ?_
        refine wp_iast d66_51 (h.k.N.2 5 (by decide)) (by rw [hN.2 5 _ rfl, arrI_len]; omega) (by rw [hN.2 5 _ rfl, arrI_len]; decide) ?_
        rw [hN.2 5 _ rfl, show (arO 5 N.to).set v y = arO 5 (up N.to v (tlO y)) by rw [← arO_set, ← ey], setA_Hs hN (show 5 < 8 by decide)]
        refine wp_iload_3 d66_52 ?_
        exact wp_iret d66_53 rfl rfl rfl
      refine ev_of (L := [(.ref 1), (.int (nI v)), (.int y), .null]) (by decide) rfl (Nat.le_of_ble_eq_true rfl) ?_
      refine wp_aload_0 d66_0 ?_
      refine wp_get d66_1 (Nat.le_of_ble_eq_true rfl) h.k.X h.X.1 rfl ?_
      refine wp_iload_1 d66_4 ?_
      refine wp_V1r d66_5 h.k.N.1 (kw) (Nat.le_of_ble_eq_true rfl) (Nat.le_of_ble_eq_true rfl) ?_
      refine wp_if_neB d66_8 (by decide) (fun h8 => ?_) (fun hq => absurd hq (by decide))
      refine wp_iload_2 d66_14 ?_
      refine wp_iconst d66_15 ic_m1 ?_
      refine wp_icmp_eq d66_16 (by decide) (fun h16 => ?_) (fun h16 => ?_)
      · exact tail
      · have h0 : 0 ≤ y.toInt := by
          have : ¬ y.toInt = -1 := fun z => h16 (Int32.toInt_inj.mp (by rw [z]; rfl))
          omega
        refine wp_iload_2 d66_19 ?_
        refine wp_if_lt d66_20 (by decide) (fun hq => absurd ((lt_nI (x := y) (a := 0) (by decide)).mp hq) (by omega)) (fun _ => ?_)
        refine wp_iload_2 d66_23 ?_
        refine wp_bipush d66_24 bi_6 ?_
        refine wp_icmp_le d66_26 (by decide) (fun _ => tail) (fun hq => absurd ((le_nI (x := y) (a := 6) (by decide)).mpr (by omega)) hq)
    · have e1' : inB y (-1) 6 = false := by simpa using e1
      have hy := mt inB_t.mpr e1
      have ok : okTl N.w x y = false := by simp [okTl, e1']
      rw [if_neg e1]
      refine ⟨σ, ?_, Fr_refl, by simp only [n_tell, ok]; exact h⟩
      rw [ex]
      refine ev_of (L := [(.ref 1), (.int (nI v)), (.int y), .null]) (by decide) rfl (Nat.le_of_ble_eq_true rfl) ?_
      refine wp_aload_0 d66_0 ?_
      refine wp_get d66_1 (Nat.le_of_ble_eq_true rfl) h.k.X h.X.1 rfl ?_
      refine wp_iload_1 d66_4 ?_
      refine wp_V1r d66_5 h.k.N.1 (kw) (Nat.le_of_ble_eq_true rfl) (Nat.le_of_ble_eq_true rfl) ?_
      refine wp_if_neB d66_8 (by decide) (fun h8 => ?_) (fun hq => absurd hq (by decide))
      refine wp_iload_2 d66_14 ?_
      refine wp_iconst d66_15 ic_m1 ?_
      refine wp_icmp_eq d66_16 (by decide) (fun hq => absurd (show y.toInt = -1 by rw [hq]; rfl) (by omega)) (fun _ => ?_)
      refine wp_iload_2 d66_19 ?_
      refine wp_if_lt d66_20 (by decide) (fun h20 => ?_) (fun h20 => ?_)
      · refine wp_bipush d66_29 bi_m102 ?_
        exact wp_iret d66_31 rfl rfl rfl
      · have := mt (lt_nI (x := y) (a := 0) (by decide)).mpr h20
        refine wp_iload_2 d66_23 ?_
        refine wp_bipush d66_24 bi_6 ?_
        refine wp_icmp_le d66_26 (by decide) (fun hq => absurd ((le_nI (x := y) (a := 6) (by decide)).mp hq) (by omega)) (fun _ => ?_)
        refine wp_bipush d66_29 bi_m102 ?_
        exact wp_iret d66_31 rfl rfl rfl
  · have e' : inB x 0 ((N.w : Int) - 1) = false := by simpa using e
    have ok : okTl N.w x y = false := by simp [okTl, e']
    rw [if_neg e]
    rw [e'] at kw
    refine ⟨σ, ?_, Fr_refl, by simp only [n_tell, ok]; exact h⟩
    refine ev_of (L := [(.ref 1), (.int x), (.int y), .null]) (by decide) rfl (Nat.le_of_ble_eq_true rfl) ?_
    refine wp_aload_0 d66_0 ?_
    refine wp_get d66_1 (Nat.le_of_ble_eq_true rfl) h.k.X h.X.1 rfl ?_
    refine wp_iload_1 d66_4 ?_
    refine wp_V1r d66_5 h.k.N.1 (kw) (Nat.le_of_ble_eq_true rfl) (Nat.le_of_ble_eq_true rfl) ?_
    refine wp_if_neB d66_8 (by decide) (fun hq => absurd hq (by decide)) (fun h8 => ?_)
    refine wp_bipush d66_11 bi_m101 ?_
    exact wp_iret d66_13 rfl rfl rfl
theorem c_image (h : CIv σ pm pg N K img sl bd fd) (g : Gd N) : ∃ σ', Ev 1 0 0 70 [.ref 1] σ (some (.int (if N.st = 0 then -103 else nI N.tr))) σ' ∧ Fr σ σ' 1 76 ∧ CIv σ' pm pg N (if N.st = 0 then K else N) (if N.st = 0 then img else true) sl bd fd := by
  obtain ⟨du, hN⟩ := h.N
  obtain ⟨du2, hK⟩ := h.K
  have hs6 := g.s6
  by_cases e : N.st = 0
  · simp only [if_pos e]
    refine ⟨σ, ?_, Fr_refl, h⟩
    refine ev_of (L := [(.ref 1)]) (by decide) rfl (Nat.le_of_ble_eq_true rfl) ?_
    refine wp_aload_0 d70_0 ?_
    refine wp_get d70_1 (Nat.le_of_ble_eq_true rfl) h.k.X h.X.1 rfl ?_
    refine wp_get d70_4 (Nat.le_of_ble_eq_true rfl) h.k.N.1 hN.1 rfl ?_
    refine wp_if_neN d70_7 (by decide) (by omega) (fun hq => absurd hq (by omega)) (fun h7 => ?_)
    refine wp_bipush d70_10 bi_m103 ?_
    exact wp_iret d70_12 rfl rfl rfl
  · simp only [if_neg e]
    have cp := Ev_at hK (t_copyFrom (σ := σ) (t := 13) (u := 4) h.k.K h.k.N (by decide) (by decide) hN)
    have h1 := CIv_K (K' := N) (du := du2) h
    have h2 := CIv_X (img' := true) (sl' := sl) (bd' := bd) (fd' := fd) h1
    obtain ⟨du3, hN3⟩ := h2.N
    refine ⟨_, ?_, Fr_trans Fr_K Fr_X, h2⟩
    refine ev_of (L := [(.ref 1)]) (by decide) rfl (Nat.le_of_ble_eq_true rfl) ?_
    refine wp_aload_0 d70_0 ?_
    refine wp_get d70_1 (Nat.le_of_ble_eq_true rfl) h.k.X h.X.1 rfl ?_
    refine wp_get d70_4 (Nat.le_of_ble_eq_true rfl) h.k.N.1 hN.1 rfl ?_
    refine wp_if_neN d70_7 (by decide) (by omega) (fun h7 => ?_) (fun hq => absurd hq (by omega))
    refine wp_aload_0 d70_13 ?_
    refine wp_get d70_14 (Nat.le_of_ble_eq_true rfl) h.k.X h.X.1 rfl ?_
    refine wp_aload_0 d70_17 ?_
    refine wp_get d70_18 (Nat.le_of_ble_eq_true rfl) h.k.X h.X.1 rfl ?_
    refine wp_V1v d70_21 h.k.K.1 (cp) (Nat.le_of_ble_eq_true rfl) (Nat.le_of_ble_eq_true rfl) ?_
    refine wp_aload_0 d70_24 ?_
    refine wp_iconst d70_25 ic_1 ?_
    refine wp_putZ d70_26 h.k.X nI_11 ?_
    rw [setF_Hs h1.X, show (xF img sl bd fd).set 7 (.int (nI 1)) = xF true sl bd fd from rfl]
    refine wp_aload_0 d70_29 ?_
    refine wp_get d70_30 (Nat.le_of_ble_eq_true rfl) h.k.X h2.X.1 rfl ?_
    refine wp_get d70_33 (Nat.le_of_ble_eq_true rfl) h.k.N.1 hN3.1 rfl ?_
    exact wp_iret d70_36 rfl rfl rfl
theorem c_restore (h : CIv σ pm pg N K img sl bd fd) : ∃ σ', Ev 1 0 0 71 [.ref 1] σ (some (.int (if img then nI K.tr else -103))) σ' ∧ Fr σ σ' 1 76 ∧ CIv σ' pm pg (if img then K else N) K img sl bd fd := by
  obtain ⟨du, hN⟩ := h.N
  obtain ⟨du2, hK⟩ := h.K
  cases e : img with
  | false =>
    simp only [if_false, Bool.false_eq_true]
    subst e
    refine ⟨σ, ?_, Fr_refl, h⟩
    refine ev_of (L := [(.ref 1)]) (by decide) rfl (Nat.le_of_ble_eq_true rfl) ?_
    refine wp_aload_0 d71_0 ?_
    refine wp_get d71_1 (Nat.le_of_ble_eq_true rfl) h.k.X h.X.1 rfl ?_
    refine wp_if_neB d71_4 (by decide) (fun hq => absurd hq (by decide)) (fun h4 => ?_)
    refine wp_bipush d71_7 bi_m103 ?_
    exact wp_iret d71_9 rfl rfl rfl
  | true =>
    simp only [if_true]
    subst e
    have cp := Ev_at hN (t_copyFrom (σ := σ) (t := 4) (u := 13) h.k.N h.k.K (by decide) (by decide) hK)
    have h1 := CIv_N (N' := K) (du := du) h
    obtain ⟨du3, hN3⟩ := h1.N
    refine ⟨_, ?_, Fr_N, h1⟩
    refine ev_of (L := [(.ref 1)]) (by decide) rfl (Nat.le_of_ble_eq_true rfl) ?_
    refine wp_aload_0 d71_0 ?_
    refine wp_get d71_1 (Nat.le_of_ble_eq_true rfl) h.k.X h.X.1 rfl ?_
    refine wp_if_neB d71_4 (by decide) (fun h4 => ?_) (fun hq => absurd hq (by decide))
    refine wp_aload_0 d71_10 ?_
    refine wp_get d71_11 (Nat.le_of_ble_eq_true rfl) h.k.X h.X.1 rfl ?_
    refine wp_aload_0 d71_14 ?_
    refine wp_get d71_15 (Nat.le_of_ble_eq_true rfl) h.k.X h.X.1 rfl ?_
    refine wp_V1v d71_18 h.k.N.1 (cp) (Nat.le_of_ble_eq_true rfl) (Nat.le_of_ble_eq_true rfl) ?_
    refine wp_aload_0 d71_21 ?_
    refine wp_get d71_22 (Nat.le_of_ble_eq_true rfl) h.k.X h1.X.1 rfl ?_
    refine wp_get d71_25 (Nat.le_of_ble_eq_true rfl) h.k.N.1 hN3.1 rfl ?_
    exact wp_iret d71_28 rfl rfl rfl
theorem c_count (h : CIv σ pm pg N K img sl bd fd) (g : Gd N) (x : Int32) : ∃ σ', Ev 1 0 0 72 [.ref 1, .int x] σ (some (.int (r_count N.st N.me N.w N.tr N.mi N.le N.to pm sl bd fd x))) σ' ∧ Fr σ σ' 1 76 ∧ CIv σ' pm pg N K img sl bd fd := by
  obtain ⟨du, hN⟩ := h.N
  refine ⟨σ, ?_, Fr_refl, h⟩
  refine ev_of (L := [(.ref 1), (.int x)]) (by decide) rfl (Nat.le_of_ble_eq_true rfl) ?_
  refine wp_iload_1 d72_0 ?_
  by_cases hx : 0 ≤ x.toInt ∧ x.toInt ≤ 10
  · obtain ⟨j, hj, rfl⟩ : ∃ j : Nat, j ≤ 10 ∧ x = nI j := ⟨x.toInt.toNat, by omega, nI_to hx.1⟩
    rcases (by omega : j = 0 ∨ j = 1 ∨ j = 2 ∨ j = 3 ∨ j = 4 ∨ j = 5 ∨ j = 6 ∨ j = 7 ∨ j = 8 ∨ j = 9 ∨ j = 10) with rfl | rfl | rfl | rfl | rfl | rfl | rfl | rfl | rfl | rfl | rfl
    · rw [show r_count N.st N.me N.w N.tr N.mi N.le N.to pm sl bd fd (nI 0) = nI (N.st) from rfl]
      refine wp_swin (off := 59) (tgt := 60) d72_1 (by decide) (by decide) rfl (by decide) ?_
      refine wp_aload_0 d72_60 ?_
      refine wp_get d72_61 (Nat.le_of_ble_eq_true rfl) h.k.X h.X.1 rfl ?_
      refine wp_get d72_64 (Nat.le_of_ble_eq_true rfl) h.k.N.1 hN.1 rfl ?_
      exact wp_iret d72_67 rfl rfl rfl
    · rw [show r_count N.st N.me N.w N.tr N.mi N.le N.to pm sl bd fd (nI 1) = nI (N.me) from rfl]
      refine wp_swin (off := 67) (tgt := 68) d72_1 (by decide) (by decide) rfl (by decide) ?_
      refine wp_aload_0 d72_68 ?_
      refine wp_get d72_69 (Nat.le_of_ble_eq_true rfl) h.k.X h.X.1 rfl ?_
      refine wp_get d72_72 (Nat.le_of_ble_eq_true rfl) h.k.N.1 hN.1 rfl ?_
      exact wp_iret d72_75 rfl rfl rfl
    · rw [show r_count N.st N.me N.w N.tr N.mi N.le N.to pm sl bd fd (nI 2) = nI (N.w) from rfl]
      refine wp_swin (off := 75) (tgt := 76) d72_1 (by decide) (by decide) rfl (by decide) ?_
      refine wp_aload_0 d72_76 ?_
      refine wp_get d72_77 (Nat.le_of_ble_eq_true rfl) h.k.X h.X.1 rfl ?_
      refine wp_get d72_80 (Nat.le_of_ble_eq_true rfl) h.k.N.1 hN.1 rfl ?_
      exact wp_iret d72_83 rfl rfl rfl
    · rw [show r_count N.st N.me N.w N.tr N.mi N.le N.to pm sl bd fd (nI 3) = nI (N.tr) from rfl]
      refine wp_swin (off := 83) (tgt := 84) d72_1 (by decide) (by decide) rfl (by decide) ?_
      refine wp_aload_0 d72_84 ?_
      refine wp_get d72_85 (Nat.le_of_ble_eq_true rfl) h.k.X h.X.1 rfl ?_
      refine wp_get d72_88 (Nat.le_of_ble_eq_true rfl) h.k.N.1 hN.1 rfl ?_
      exact wp_iret d72_91 rfl rfl rfl
    · rw [show r_count N.st N.me N.w N.tr N.mi N.le N.to pm sl bd fd (nI 4) = N.mi from rfl]
      refine wp_swin (off := 91) (tgt := 92) d72_1 (by decide) (by decide) rfl (by decide) ?_
      refine wp_aload_0 d72_92 ?_
      refine wp_get d72_93 (Nat.le_of_ble_eq_true rfl) h.k.X h.X.1 rfl ?_
      refine wp_get d72_96 (Nat.le_of_ble_eq_true rfl) h.k.N.1 hN.1 rfl ?_
      exact wp_iret d72_99 rfl rfl rfl
    · rw [show r_count N.st N.me N.w N.tr N.mi N.le N.to pm sl bd fd (nI 5) = nI (smN N.le 0 N.w) from rfl]
      refine wp_swin (off := 99) (tgt := 100) d72_1 (by decide) (by decide) rfl (by decide) ?_
      refine wp_aload_0 d72_100 ?_
      refine wp_get d72_101 (Nat.le_of_ble_eq_true rfl) h.k.X h.X.1 rfl ?_
      refine wp_V0r d72_104 h.k.N.1 (Ev_rd hN (t_leftOfAll h.k.N g.w5)) (Nat.le_of_ble_eq_true rfl) (Nat.le_of_ble_eq_true rfl) ?_
      exact wp_iret d72_107 rfl rfl rfl
    · rw [show r_count N.st N.me N.w N.tr N.mi N.le N.to pm sl bd fd (nI 6) = nI (bkN N.to N.w) from rfl]
      refine wp_swin (off := 107) (tgt := 108) d72_1 (by decide) (by decide) rfl (by decide) ?_
      refine wp_aload_0 d72_108 ?_
      refine wp_get d72_109 (Nat.le_of_ble_eq_true rfl) h.k.X h.X.1 rfl ?_
      refine wp_V0r d72_112 h.k.N.1 (Ev_rd hN (t_toldOf h.k.N g.w5 (fun v hv j hj => by have := g.to v hv j hj; omega))) (Nat.le_of_ble_eq_true rfl) (Nat.le_of_ble_eq_true rfl) ?_
      exact wp_iret d72_115 rfl rfl rfl
    · rw [show r_count N.st N.me N.w N.tr N.mi N.le N.to pm sl bd fd (nI 7) = nI (pm) from rfl]
      refine wp_swin (off := 115) (tgt := 116) d72_1 (by decide) (by decide) rfl (by decide) ?_
      refine wp_aload_0 d72_116 ?_
      refine wp_get d72_117 (Nat.le_of_ble_eq_true rfl) h.k.X h.X.1 rfl ?_
      refine wp_get d72_120 (Nat.le_of_ble_eq_true rfl) h.k.P.1 h.P.1 rfl ?_
      exact wp_iret d72_123 rfl rfl rfl
    · rw [show r_count N.st N.me N.w N.tr N.mi N.le N.to pm sl bd fd (nI 8) = nI (sl) from rfl]
      refine wp_swin (off := 123) (tgt := 124) d72_1 (by decide) (by decide) rfl (by decide) ?_
      refine wp_aload_0 d72_124 ?_
      refine wp_get d72_125 (Nat.le_of_ble_eq_true rfl) h.k.X h.X.1 rfl ?_
      exact wp_iret d72_128 rfl rfl rfl
    · rw [show r_count N.st N.me N.w N.tr N.mi N.le N.to pm sl bd fd (nI 9) = nI (bd) from rfl]
      refine wp_swin (off := 128) (tgt := 129) d72_1 (by decide) (by decide) rfl (by decide) ?_
      refine wp_aload_0 d72_129 ?_
      refine wp_get d72_130 (Nat.le_of_ble_eq_true rfl) h.k.X h.X.1 rfl ?_
      exact wp_iret d72_133 rfl rfl rfl
    · rw [show r_count N.st N.me N.w N.tr N.mi N.le N.to pm sl bd fd (nI 10) = nI (fd) from rfl]
      refine wp_swin (off := 133) (tgt := 134) d72_1 (by decide) (by decide) rfl (by decide) ?_
      refine wp_aload_0 d72_134 ?_
      refine wp_get d72_135 (Nat.le_of_ble_eq_true rfl) h.k.X h.X.1 rfl ?_
      exact wp_iret d72_138 rfl rfl rfl
  · rw [show r_count N.st N.me N.w N.tr N.mi N.le N.to pm sl bd fd x = -102 by unfold r_count; split <;> first | omega | rfl]
    refine wp_swout (tgt := 139) d72_1 (by omega) (by decide) ?_
    refine wp_bipush d72_139 bi_m102 ?_
    exact wp_iret d72_141 rfl rfl rfl

end S33_tb4b
