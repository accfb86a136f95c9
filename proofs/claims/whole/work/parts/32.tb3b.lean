section S32_tb3b
variable {σ : Sto} {pm : Nat} {pg : Nat → Nat} {N K : Trl} {img : Bool} {sl bd fd : Nat}

theorem c_slope (h : CIv σ pm pg N K img sl bd fd) (hpm : pm ≤ 10) (hpg : ∀ k, k < pm → pg k < 1000) : ∃ σ', Ev 3 0 0 53 [.ref 1] σ (some (.int (if okS pg pm then nI (pm - 2) else -103))) σ' ∧ Fr σ σ' 1 76 ∧ CIv σ' (if okS pg pm then 0 else pm) pg (if okS pg pm then n_slope N pg pm else N) K (if okS pg pm then false else img) (if okS pg pm then sl + 1 else sl) bd fd := by
  obtain ⟨du, hN⟩ := h.N
  have K0 := Ev_rd h.P (g_isSlope h.k.P hpm hpg)
  cases e : okS pg pm with
  | false =>
    rw [e] at K0
    refine ⟨σ, ?_, Fr_refl, h⟩
    refine ev_of (L := [(.ref 1)]) (by decide) rfl (Nat.le_of_ble_eq_true rfl) ?_
    refine wp_aload_0 d53_0 ?_
    refine wp_get d53_1 (Nat.le_of_ble_eq_true rfl) h.k.X h.X.1 rfl ?_
    refine wp_V0r d53_4 h.k.P.1 (K0) (Nat.le_of_ble_eq_true rfl) (Nat.le_of_ble_eq_true rfl) ?_
    refine wp_if_neB d53_7 (by decide) (fun hq => absurd hq (by decide)) (fun h7 => ?_)
    refine wp_bipush d53_10 bi_m103 ?_
    exact wp_iret d53_12 rfl rfl rfl
  | true =>
    rw [e] at K0
    have K1 := Ev_at hN (t_begin h.k.N h.k.P (by decide) (by decide) hpm e h.P)
    have h1 := CIv_N (N' := n_slope N pg pm) (du := du) h
    have h2 := CIv_P (pm' := 0) (pg' := pg) h1
    have h3 := CIv_X (img' := false) (sl' := sl) (bd' := bd) (fd' := fd) h2
    have h4 := CIv_X (img' := false) (sl' := sl + 1) (bd' := bd) (fd' := fd) h3
    obtain ⟨du4, hN4⟩ := h4.N
    refine ⟨_, ?_, Fr_trans (Fr_trans (Fr_trans Fr_N Fr_P) Fr_X) Fr_X, h4⟩
    refine ev_of (L := [(.ref 1)]) (by decide) rfl (Nat.le_of_ble_eq_true rfl) ?_
    refine wp_aload_0 d53_0 ?_
    refine wp_get d53_1 (Nat.le_of_ble_eq_true rfl) h.k.X h.X.1 rfl ?_
    refine wp_V0r d53_4 h.k.P.1 (K0) (Nat.le_of_ble_eq_true rfl) (Nat.le_of_ble_eq_true rfl) ?_
    refine wp_if_neB d53_7 (by decide) (fun h7 => ?_) (fun hq => absurd hq (by decide))
    refine wp_aload_0 d53_13 ?_
    refine wp_get d53_14 (Nat.le_of_ble_eq_true rfl) h.k.X h.X.1 rfl ?_
    refine wp_aload_0 d53_17 ?_
    refine wp_get d53_18 (Nat.le_of_ble_eq_true rfl) h.k.X h.X.1 rfl ?_
    refine wp_V1v d53_21 h.k.N.1 (K1) (Nat.le_of_ble_eq_true rfl) (Nat.le_of_ble_eq_true rfl) ?_
    refine wp_aload_0 d53_24 ?_
    refine wp_get d53_25 (Nat.le_of_ble_eq_true rfl) h.k.X h1.X.1 rfl ?_
    refine wp_iconst d53_28 ic_0 ?_
    refine wp_putI d53_29 h.k.P.1 ?_
    rw [setF_Hs h1.P, show (pgF 2 (nI pm)).set 1 (.int (nI 0)) = pgF 2 (nI 0) from rfl]
    refine wp_aload_0 d53_32 ?_
    refine wp_iconst d53_33 ic_0 ?_
    refine wp_putZ d53_34 h.k.X nI_01 ?_
    rw [setF_Hs h2.X, show (xF img sl bd fd).set 7 (.int (nI 0)) = xF false sl bd fd from rfl]
    refine wp_aload_0 d53_37 ?_
    refine wp_dup d53_38 rfl ?_
    refine wp_get d53_39 (Nat.le_of_ble_eq_true rfl) h.k.X h3.X.1 rfl ?_
    refine wp_iconst d53_42 ic_1 ?_
    refine wp_iaddN d53_43 ?_
    refine wp_putI d53_44 h.k.X ?_
    rw [setF_Hs h3.X, show (xF false sl bd fd).set 8 (.int (nI (sl + 1))) = xF false (sl + 1) bd fd from rfl]
    refine wp_aload_0 d53_47 ?_
    refine wp_get d53_48 (Nat.le_of_ble_eq_true rfl) h.k.X h4.X.1 rfl ?_
    refine wp_get d53_51 (Nat.le_of_ble_eq_true rfl) h.k.N.1 hN4.1 rfl ?_
    exact wp_iret d53_54 rfl rfl rfl
theorem c_about (h : CIv σ pm pg N K img sl bd fd) (g : Gd N) (x y : Int32) : ∃ σ', Ev 2 0 0 56 [.ref 1, .int x, .int y] σ (some (.int (if inB x 0 ((N.w : Int) - 1) then r_tells N.st N.tr N.ki N.sr N.le N.fi N.de N.to N.fo N.w x.toInt.toNat y else -101))) σ' ∧ Fr σ σ' 1 76 ∧ CIv σ' pm pg N K img sl bd fd := by
  obtain ⟨du, hN⟩ := h.N
  refine ⟨σ, ?_, Fr_refl, h⟩
  have kw := Ev_rd hN (t_hasWalker h.k.N g.w5 x)
  have hw5 := g.w5
  by_cases e : inB x 0 ((N.w : Int) - 1) = true
  · obtain ⟨v, hv, ex, -, hv1, hv2⟩ := inN e (by decide)
    rw [if_pos e, hv]
    rw [e, ex] at kw
    rw [ex]
    have hp := PF_pl g.f (show v < N.w by omega)
    refine ev_of (L := [(.ref 1), (.int (nI v)), (.int y)]) (by decide) rfl (Nat.le_of_ble_eq_true rfl) ?_
    refine wp_aload_0 d56_0 ?_
    refine wp_get d56_1 (Nat.le_of_ble_eq_true rfl) h.k.X h.X.1 rfl ?_
    refine wp_iload_1 d56_4 ?_
    refine wp_V1r d56_5 h.k.N.1 (kw) (Nat.le_of_ble_eq_true rfl) (Nat.le_of_ble_eq_true rfl) ?_
    refine wp_if_neB d56_8 (by decide) (fun h8 => ?_) (fun hq => absurd hq (by decide))
    refine wp_iload_2 d56_14 ?_
    by_cases hx : 0 ≤ y.toInt ∧ y.toInt ≤ 6
    · obtain ⟨j, hj, rfl⟩ : ∃ j : Nat, j ≤ 6 ∧ y = nI j := ⟨y.toInt.toNat, by omega, nI_to hx.1⟩
      rcases (by omega : j = 0 ∨ j = 1 ∨ j = 2 ∨ j = 3 ∨ j = 4 ∨ j = 5 ∨ j = 6) with rfl | rfl | rfl | rfl | rfl | rfl | rfl
      · rw [show r_tells N.st N.tr N.ki N.sr N.le N.fi N.de N.to N.fo N.w v (nI 0) = nI (N.ki v) from rfl]
        refine wp_swin (off := 41) (tgt := 56) d56_15 (by decide) (by decide) rfl (by decide) ?_
        refine wp_aload_0 d56_56 ?_
        refine wp_get d56_57 (Nat.le_of_ble_eq_true rfl) h.k.X h.X.1 rfl ?_
        refine wp_get d56_60 (Nat.le_of_ble_eq_true rfl) h.k.N.1 hN.1 rfl ?_
        refine wp_iload_1 d56_63 ?_
        refine wp_aldG d56_64 (h.k.N.2 2 (by decide)) (hN.2 2 _ rfl) (by omega) (by decide) ?_
        exact wp_iret d56_65 rfl rfl rfl
      · rw [show r_tells N.st N.tr N.ki N.sr N.le N.fi N.de N.to N.fo N.w v (nI 1) = nI (N.sr v) from rfl]
        refine wp_swin (off := 51) (tgt := 66) d56_15 (by decide) (by decide) rfl (by decide) ?_
        refine wp_aload_0 d56_66 ?_
        refine wp_get d56_67 (Nat.le_of_ble_eq_true rfl) h.k.X h.X.1 rfl ?_
        refine wp_get d56_70 (Nat.le_of_ble_eq_true rfl) h.k.N.1 hN.1 rfl ?_
        refine wp_iload_1 d56_73 ?_
        refine wp_aldG d56_74 (h.k.N.2 3 (by decide)) (hN.2 3 _ rfl) (by omega) (by decide) ?_
        exact wp_iret d56_75 rfl rfl rfl
      · rw [show r_tells N.st N.tr N.ki N.sr N.le N.fi N.de N.to N.fo N.w v (nI 2) = nI (N.le v) from rfl]
        refine wp_swin (off := 61) (tgt := 76) d56_15 (by decide) (by decide) rfl (by decide) ?_
        refine wp_aload_0 d56_76 ?_
        refine wp_get d56_77 (Nat.le_of_ble_eq_true rfl) h.k.X h.X.1 rfl ?_
        refine wp_get d56_80 (Nat.le_of_ble_eq_true rfl) h.k.N.1 hN.1 rfl ?_
        refine wp_iload_1 d56_83 ?_
        refine wp_aldG d56_84 (h.k.N.2 4 (by decide)) (hN.2 4 _ rfl) (by omega) (by decide) ?_
        exact wp_iret d56_85 rfl rfl rfl
      · rw [show r_tells N.st N.tr N.ki N.sr N.le N.fi N.de N.to N.fo N.w v (nI 3) = nI (pl N.w N.fi v) from rfl]
        refine wp_swin (off := 71) (tgt := 86) d56_15 (by decide) (by decide) rfl (by decide) ?_
        refine wp_aload_0 d56_86 ?_
        refine wp_get d56_87 (Nat.le_of_ble_eq_true rfl) h.k.X h.X.1 rfl ?_
        refine wp_iload_1 d56_90 ?_
        refine wp_V1r d56_91 h.k.N.1 (Ev_rd hN (t_placeOf h.k.N g.w5 g.f (by omega))) (Nat.le_of_ble_eq_true rfl) (Nat.le_of_ble_eq_true rfl) ?_
        exact wp_iret d56_94 rfl rfl rfl
      · rw [show r_tells N.st N.tr N.ki N.sr N.le N.fi N.de N.to N.fo N.w v (nI 4) = nI (frN N.fo v N.tr) from rfl]
        have q1 := g.ts
        have q2 := g.s6
        refine wp_swin (off := 80) (tgt := 95) d56_15 (by decide) (by decide) rfl (by decide) ?_
        refine wp_aload_0 d56_95 ?_
        refine wp_get d56_96 (Nat.le_of_ble_eq_true rfl) h.k.X h.X.1 rfl ?_
        refine wp_iload_1 d56_99 ?_
        refine wp_V1r d56_100 h.k.N.1 (Ev_rd hN (t_timesFirst h.k.N (by omega) (by omega) (fun k hk j hj => by have := g.fo k j hj; omega))) (Nat.le_of_ble_eq_true rfl) (Nat.le_of_ble_eq_true rfl) ?_
        exact wp_iret d56_103 rfl rfl rfl
      · rw [show r_tells N.st N.tr N.ki N.sr N.le N.fi N.de N.to N.fo N.w v (nI 5) = (if N.tr = N.st then -1 else nI (payN N.ki N.fi (pl N.w N.fi v) (N.de N.tr))) from rfl]
        refine wp_swin (off := 89) (tgt := 104) d56_15 (by decide) (by decide) rfl (by decide) ?_
        refine wp_aload_0 d56_104 ?_
        refine wp_get d56_105 (Nat.le_of_ble_eq_true rfl) h.k.X h.X.1 rfl ?_
        refine wp_iload_1 d56_108 ?_
        refine wp_V1r d56_109 h.k.N.1 (Ev_rd hN (t_nextPay h.k.N g.ts g.s6 g.f g.w5 g.ki (by omega) (fun k hk => by have := g.de k hk; omega))) (Nat.le_of_ble_eq_true rfl) (Nat.le_of_ble_eq_true rfl) ?_
        exact wp_iret d56_112 rfl rfl rfl
      · rw [show r_tells N.st N.tr N.ki N.sr N.le N.fi N.de N.to N.fo N.w v (nI 6) = eo (N.to v) from rfl]
        refine wp_swin (off := 98) (tgt := 113) d56_15 (by decide) (by decide) rfl (by decide) ?_
        refine wp_aload_0 d56_113 ?_
        refine wp_get d56_114 (Nat.le_of_ble_eq_true rfl) h.k.X h.X.1 rfl ?_
        refine wp_get d56_117 (Nat.le_of_ble_eq_true rfl) h.k.N.1 hN.1 rfl ?_
        refine wp_iload_1 d56_120 ?_
        refine wp_aldG d56_121 (h.k.N.2 5 (by decide)) (hN.2 5 _ rfl) (by omega) (by decide) ?_
        exact wp_iret d56_122 rfl rfl rfl
    · rw [show r_tells N.st N.tr N.ki N.sr N.le N.fi N.de N.to N.fo N.w v y = -102 by unfold r_tells; split <;> first | omega | rfl]
      refine wp_swout (tgt := 123) d56_15 (by omega) (by decide) ?_
      refine wp_bipush d56_123 bi_m102 ?_
      exact wp_iret d56_125 rfl rfl rfl
  · rw [if_neg e]
    rw [show inB x 0 ((N.w : Int) - 1) = false by simpa using e] at kw
    refine ev_of (L := [(.ref 1), (.int x), (.int y)]) (by decide) rfl (Nat.le_of_ble_eq_true rfl) ?_
    refine wp_aload_0 d56_0 ?_
    refine wp_get d56_1 (Nat.le_of_ble_eq_true rfl) h.k.X h.X.1 rfl ?_
    refine wp_iload_1 d56_4 ?_
    refine wp_V1r d56_5 h.k.N.1 (kw) (Nat.le_of_ble_eq_true rfl) (Nat.le_of_ble_eq_true rfl) ?_
    refine wp_if_neB d56_8 (by decide) (fun hq => absurd hq (by decide)) (fun h8 => ?_)
    refine wp_bipush d56_11 bi_m101 ?_
    exact wp_iret d56_13 rfl rfl rfl
theorem c_as (h : CIv σ pm pg N K img sl bd fd) (g : Gd N) (x y : Int32) : ∃ σ', Ev 1 0 0 57 [.ref 1, .int x, .int y] σ (some (.int (if inB x 0 ((N.w : Int) - 1) then r_as N.ki x.toInt.toNat y else -101))) σ' ∧ Fr σ σ' 1 76 ∧ CIv σ' pm pg N K img sl bd fd := by
  obtain ⟨du, hN⟩ := h.N
  refine ⟨σ, ?_, Fr_refl, h⟩
  have kw := Ev_rd hN (t_hasWalker h.k.N g.w5 x)
  have kk := c_isKind (σ := σ) y
  by_cases e : inB x 0 ((N.w : Int) - 1) = true
  · obtain ⟨v, hv, ex, -, hv1, hv2⟩ := inN e (by decide)
    rw [if_pos e, hv]
    rw [e, ex] at kw
    rw [ex]
    by_cases e1 : inB y 0 4 = true
    · obtain ⟨u, hu, ey, ey2, hu1, hu2⟩ := inN e1 (by decide)
      have ko := Ev_rd hN (t_isOfKind (v := v) (j := u) h.k.N g.w5 (by omega) g.ki (by omega))
      rw [e1, ey] at kk
      unfold r_as
      rw [if_pos e1, ey2, ey]
      by_cases e2 : u = 0 ∨ u = N.ki v ∨ (u = 3 ∧ N.ki v = 4)
      · rw [decide_eq_true e2] at ko
        rw [if_pos (by omega)]
        refine ev_of (L := [(.ref 1), (.int (nI v)), (.int (nI u))]) (by decide) rfl (Nat.le_of_ble_eq_true rfl) ?_
        refine wp_aload_0 d57_0 ?_
        refine wp_get d57_1 (Nat.le_of_ble_eq_true rfl) h.k.X h.X.1 rfl ?_
        refine wp_iload_1 d57_4 ?_
        refine wp_V1r d57_5 h.k.N.1 (kw) (Nat.le_of_ble_eq_true rfl) (Nat.le_of_ble_eq_true rfl) ?_
        refine wp_if_neB d57_8 (by decide) (fun h8 => ?_) (fun hq => absurd hq (by decide))
        refine wp_iload_2 d57_14 ?_
        refine wp_S1r d57_15 rfl ((kk)) (Nat.le_of_ble_eq_true rfl) (Nat.le_of_ble_eq_true rfl) ?_
        refine wp_if_neB d57_18 (by decide) (fun h18 => ?_) (fun hq => absurd hq (by decide))
        refine wp_aload_0 d57_24 ?_
        refine wp_get d57_25 (Nat.le_of_ble_eq_true rfl) h.k.X h.X.1 rfl ?_
        refine wp_iload_1 d57_28 ?_
        refine wp_iload_2 d57_29 ?_
        refine wp_V2r d57_30 h.k.N.1 (ko) (Nat.le_of_ble_eq_true rfl) (Nat.le_of_ble_eq_true rfl) ?_
        refine wp_if_eqB d57_33 (by decide) (fun hq => absurd hq (by decide)) (fun h33 => ?_)
        refine wp_iload_1 d57_36 ?_
        refine wp_goto d57_37 (by decide) ?_
        exact wp_iret d57_41 rfl rfl rfl
      · rw [decide_eq_false e2] at ko
        rw [if_neg (by omega)]
        refine ev_of (L := [(.ref 1), (.int (nI v)), (.int (nI u))]) (by decide) rfl (Nat.le_of_ble_eq_true rfl) ?_
        refine wp_aload_0 d57_0 ?_
        refine wp_get d57_1 (Nat.le_of_ble_eq_true rfl) h.k.X h.X.1 rfl ?_
        refine wp_iload_1 d57_4 ?_
        refine wp_V1r d57_5 h.k.N.1 (kw) (Nat.le_of_ble_eq_true rfl) (Nat.le_of_ble_eq_true rfl) ?_
        refine wp_if_neB d57_8 (by decide) (fun h8 => ?_) (fun hq => absurd hq (by decide))
        refine wp_iload_2 d57_14 ?_
        refine wp_S1r d57_15 rfl ((kk)) (Nat.le_of_ble_eq_true rfl) (Nat.le_of_ble_eq_true rfl) ?_
        refine wp_if_neB d57_18 (by decide) (fun h18 => ?_) (fun hq => absurd hq (by decide))
        refine wp_aload_0 d57_24 ?_
        refine wp_get d57_25 (Nat.le_of_ble_eq_true rfl) h.k.X h.X.1 rfl ?_
        refine wp_iload_1 d57_28 ?_
        refine wp_iload_2 d57_29 ?_
        refine wp_V2r d57_30 h.k.N.1 (ko) (Nat.le_of_ble_eq_true rfl) (Nat.le_of_ble_eq_true rfl) ?_
        refine wp_if_eqB d57_33 (by decide) (fun h33 => ?_) (fun hq => absurd hq (by decide))
        refine wp_iconst d57_40 ic_m1 ?_
        exact wp_iret d57_41 rfl rfl rfl
    · have e1' : inB y 0 4 = false := by simpa using e1
      rw [e1'] at kk
      unfold r_as
      rw [if_neg e1]
      refine ev_of (L := [(.ref 1), (.int (nI v)), (.int y)]) (by decide) rfl (Nat.le_of_ble_eq_true rfl) ?_
      refine wp_aload_0 d57_0 ?_
      refine wp_get d57_1 (Nat.le_of_ble_eq_true rfl) h.k.X h.X.1 rfl ?_
      refine wp_iload_1 d57_4 ?_
      refine wp_V1r d57_5 h.k.N.1 (kw) (Nat.le_of_ble_eq_true rfl) (Nat.le_of_ble_eq_true rfl) ?_
      refine wp_if_neB d57_8 (by decide) (fun h8 => ?_) (fun hq => absurd hq (by decide))
      refine wp_iload_2 d57_14 ?_
      refine wp_S1r d57_15 rfl ((kk)) (Nat.le_of_ble_eq_true rfl) (Nat.le_of_ble_eq_true rfl) ?_
      refine wp_if_neB d57_18 (by decide) (fun hq => absurd hq (by decide)) (fun h18 => ?_)
      refine wp_bipush d57_21 bi_m102 ?_
      exact wp_iret d57_23 rfl rfl rfl
  · rw [if_neg e]
    rw [show inB x 0 ((N.w : Int) - 1) = false by simpa using e] at kw
    refine ev_of (L := [(.ref 1), (.int x), (.int y)]) (by decide) rfl (Nat.le_of_ble_eq_true rfl) ?_
    refine wp_aload_0 d57_0 ?_
    refine wp_get d57_1 (Nat.le_of_ble_eq_true rfl) h.k.X h.X.1 rfl ?_
    refine wp_iload_1 d57_4 ?_
    refine wp_V1r d57_5 h.k.N.1 (kw) (Nat.le_of_ble_eq_true rfl) (Nat.le_of_ble_eq_true rfl) ?_
    refine wp_if_neB d57_8 (by decide) (fun hq => absurd hq (by decide)) (fun h8 => ?_)
    refine wp_bipush d57_11 bi_m101 ?_
    exact wp_iret d57_13 rfl rfl rfl
theorem c_tread (h : CIv σ pm pg N K img sl bd fd) (g : Gd N) : ∃ σ', Ev 3 0 0 58 [.ref 1] σ (some (.int (if okT N.w N.st N.tr N.ki N.fi N.le N.de then nI (N.tr + 1) else -103))) σ' ∧ Fr σ σ' 1 76 ∧ CIv σ' pm pg (n_tread N) K img sl bd fd := by
  obtain ⟨du, hN⟩ := h.N
  obtain ⟨du', K⟩ := t_treadNext (σ := σ) (t := 4) (me := nI N.me) (mi := N.mi) (asr := arr 5 N.sr) (ato := arO 5 N.to) (du := du) (le := N.le) (de := N.de) (fo := N.fo) h.k.N g.ts g.s6 g.f g.w5 g.ki (fun v hv => by have := g.le v hv; omega) (fun k hk => by have := g.de k hk; omega) (fun k hk j hj => by have := g.fo k j hj; omega)
  have K := Ev_at hN K
  have h1 := CIv_N (N' := n_tread N) (du := du') h
  obtain ⟨du1, hN1⟩ := h1.N
  refine ⟨_, ?_, Fr_N, h1⟩
  cases e : okT N.w N.st N.tr N.ki N.fi N.le N.de with
  | true =>
    simp only [n_tread, e, if_true] at *
    refine ev_of (L := [(.ref 1)]) (by decide) rfl (Nat.le_of_ble_eq_true rfl) ?_
    refine wp_aload_0 d58_0 ?_
    refine wp_get d58_1 (Nat.le_of_ble_eq_true rfl) h.k.X h.X.1 rfl ?_
    refine wp_V0r d58_4 h.k.N.1 (K) (Nat.le_of_ble_eq_true rfl) (Nat.le_of_ble_eq_true rfl) ?_
    refine wp_if_eqB d58_7 (by decide) (fun hq => absurd hq (by decide)) (fun h7 => ?_)
    refine wp_aload_0 d58_10 ?_
    refine wp_get d58_11 (Nat.le_of_ble_eq_true rfl) h.k.X h1.X.1 rfl ?_
    refine wp_get d58_14 (Nat.le_of_ble_eq_true rfl) h.k.N.1 hN1.1 rfl ?_
    refine wp_goto d58_17 (by decide) ?_
    exact wp_iret d58_22 rfl rfl rfl
  | false =>
    simp only [n_tread, e, if_false, Bool.false_eq_true] at *
    refine ev_of (L := [(.ref 1)]) (by decide) rfl (Nat.le_of_ble_eq_true rfl) ?_
    refine wp_aload_0 d58_0 ?_
    refine wp_get d58_1 (Nat.le_of_ble_eq_true rfl) h.k.X h1.X.1 rfl ?_
    refine wp_V0r d58_4 h.k.N.1 (K) (Nat.le_of_ble_eq_true rfl) (Nat.le_of_ble_eq_true rfl) ?_
    refine wp_if_eqB d58_7 (by decide) (fun h7 => ?_) (fun hq => absurd hq (by decide))
    refine wp_bipush d58_20 bi_m103 ?_
    exact wp_iret d58_22 rfl rfl rfl
theorem c_change (h : CIv σ pm pg N K img sl bd fd) (g : Gd N) : ∃ σ', Ev 1 0 0 59 [.ref 1] σ (some (.int (if N.w = 0 then -103 else nI (rot N.w N.fi 0)))) σ' ∧ Fr σ σ' 1 76 ∧ CIv σ' pm pg (n_change N) K img sl bd fd := by
  obtain ⟨du, hN⟩ := h.N
  have hw5 := g.w5
  have K := Ev_at hN (t_changeFirst (σ := σ) (t := 4) (mi := N.mi) h.k.N g.w5)
  have h1 := CIv_N (N' := n_change N) (du := du) h
  obtain ⟨du1, hN1⟩ := h1.N
  by_cases e : N.w = 0
  · rw [if_pos e]
    have e2 : n_change N = N := by simp only [n_change, if_pos e]; rfl
    refine ⟨σ, ?_, Fr_refl, by rw [e2]; exact h⟩
    refine ev_of (L := [(.ref 1)]) (by decide) rfl (Nat.le_of_ble_eq_true rfl) ?_
    refine wp_aload_0 d59_0 ?_
    refine wp_get d59_1 (Nat.le_of_ble_eq_true rfl) h.k.X h.X.1 rfl ?_
    refine wp_get d59_4 (Nat.le_of_ble_eq_true rfl) h.k.N.1 hN.1 rfl ?_
    refine wp_if_neN d59_7 (by decide) (by omega) (fun hq => absurd hq (by omega)) (fun h7 => ?_)
    refine wp_bipush d59_10 bi_m103 ?_
    exact wp_iret d59_12 rfl rfl rfl
  · simp only [n_change, if_neg e] at *
    refine ⟨_, ?_, Fr_N, h1⟩
    refine ev_of (L := [(.ref 1)]) (by decide) rfl (Nat.le_of_ble_eq_true rfl) ?_
    refine wp_aload_0 d59_0 ?_
    refine wp_get d59_1 (Nat.le_of_ble_eq_true rfl) h.k.X h.X.1 rfl ?_
    refine wp_get d59_4 (Nat.le_of_ble_eq_true rfl) h.k.N.1 hN.1 rfl ?_
    refine wp_if_neN d59_7 (by decide) (by omega) (fun h7 => ?_) (fun hq => absurd hq (by omega))
    refine wp_aload_0 d59_13 ?_
    refine wp_get d59_14 (Nat.le_of_ble_eq_true rfl) h.k.X h.X.1 rfl ?_
    refine wp_V0v d59_17 h.k.N.1 (K) (Nat.le_of_ble_eq_true rfl) (Nat.le_of_ble_eq_true rfl) ?_
    refine wp_aload_0 d59_20 ?_
    refine wp_get d59_21 (Nat.le_of_ble_eq_true rfl) h.k.X h1.X.1 rfl ?_
    refine wp_get d59_24 (Nat.le_of_ble_eq_true rfl) h.k.N.1 hN1.1 rfl ?_
    refine wp_iconst d59_27 ic_0 ?_
    refine wp_aldG (j := 0) d59_28 (h.k.N.2 6 (by decide)) (hN1.2 6 _ rfl) (by decide) (by decide) ?_
    exact wp_iret d59_29 rfl rfl rfl
theorem c_rest (h : CIv σ pm pg N K img sl bd fd) (g : Gd N) : ∃ σ', Ev 1 0 0 60 [.ref 1] σ (some (.int (if N.w = 0 then -103 else nI (rcN N.sr N.le N.w)))) σ' ∧ Fr σ σ' 1 76 ∧ CIv σ' pm pg (n_rest N) K img sl bd fd := by
  obtain ⟨du, hN⟩ := h.N
  have hw5 := g.w5
  have K := Ev_at hN (t_restAll (σ := σ) (t := 4) (mi := N.mi) h.k.N g.w5 (fun v hv => by have := g.le v hv; omega) (fun v hv => by have := g.sr v hv; omega))
  have h1 := CIv_N (N' := n_rest N) (du := du) h
  by_cases e : N.w = 0
  · rw [if_pos e]
    have e2 : n_rest N = N := by simp only [n_rest, if_pos e]; rfl
    refine ⟨σ, ?_, Fr_refl, by rw [e2]; exact h⟩
    refine ev_of (L := [(.ref 1)]) (by decide) rfl (Nat.le_of_ble_eq_true rfl) ?_
    refine wp_aload_0 d60_0 ?_
    refine wp_get d60_1 (Nat.le_of_ble_eq_true rfl) h.k.X h.X.1 rfl ?_
    refine wp_get d60_4 (Nat.le_of_ble_eq_true rfl) h.k.N.1 hN.1 rfl ?_
    refine wp_if_neN d60_7 (by decide) (by omega) (fun hq => absurd hq (by omega)) (fun h7 => ?_)
    refine wp_bipush d60_10 bi_m103 ?_
    exact wp_iret d60_12 rfl rfl rfl
  · simp only [n_rest, if_neg e] at *
    refine ⟨_, ?_, Fr_N, h1⟩
    refine ev_of (L := [(.ref 1)]) (by decide) rfl (Nat.le_of_ble_eq_true rfl) ?_
    refine wp_aload_0 d60_0 ?_
    refine wp_get d60_1 (Nat.le_of_ble_eq_true rfl) h.k.X h.X.1 rfl ?_
    refine wp_get d60_4 (Nat.le_of_ble_eq_true rfl) h.k.N.1 hN.1 rfl ?_
    refine wp_if_neN d60_7 (by decide) (by omega) (fun h7 => ?_) (fun hq => absurd hq (by omega))
    refine wp_aload_0 d60_13 ?_
    refine wp_get d60_14 (Nat.le_of_ble_eq_true rfl) h.k.X h.X.1 rfl ?_
    refine wp_V0r d60_17 h.k.N.1 (K) (Nat.le_of_ble_eq_true rfl) (Nat.le_of_ble_eq_true rfl) ?_
    exact wp_iret d60_20 rfl rfl rfl
theorem c_snow (h : CIv σ pm pg N K img sl bd fd) (g : Gd N) (x : Int32) : ∃ σ', Ev 2 0 0 61 [.ref 1, .int x] σ (some (.int (if inB x 0 9 then (if N.st = 0 then -103 else nI (smN (snN N.tr N.st x.toInt.toNat N.de) N.tr (N.st - N.tr))) else -102))) σ' ∧ Fr σ σ' 1 76 ∧ CIv σ' pm pg (n_snow N x) K img sl bd fd := by
  obtain ⟨du, hN⟩ := h.N
  have hs6 := g.s6
  by_cases e : inB x 0 9 = true
  · obtain ⟨v, hv, ex, -, hv1, hv2⟩ := inN e (by decide)
    have h1 := CIv_N (N' := n_snow N x) (du := du) h
    simp only [n_snow, if_pos e, hv] at *
    by_cases e1 : N.st = 0
    · rw [if_pos e1]
      have e2 : snN N.tr N.st v N.de = N.de := by
        funext k
        unfold snN
        rw [if_neg (by omega)]
      rw [e2]
      refine ⟨σ, ?_, Fr_refl, h⟩
      rw [ex]
      refine ev_of (L := [(.ref 1), (.int (nI v))]) (by decide) rfl (Nat.le_of_ble_eq_true rfl) ?_
      refine wp_iload_1 d61_0 ?_
      refine wp_if_ltN d61_1 (by decide) (by omega) ?_
      refine wp_iload_1 d61_4 ?_
      refine wp_bipush d61_5 bi_9 ?_
      refine wp_icmp_leN d61_7 (by decide) (by omega) (by omega) (fun h7 => ?_) (fun hq => absurd hq (by omega))
      refine wp_aload_0 d61_13 ?_
      refine wp_get d61_14 (Nat.le_of_ble_eq_true rfl) h.k.X h.X.1 rfl ?_
      refine wp_get d61_17 (Nat.le_of_ble_eq_true rfl) h.k.N.1 hN.1 rfl ?_
      refine wp_if_neN d61_20 (by decide) (by omega) (fun hq => absurd hq (by omega)) (fun h20 => ?_)
      refine wp_bipush d61_23 bi_m103 ?_
      exact wp_iret d61_25 rfl rfl rfl
    · rw [if_neg e1]
      have K := Ev_at hN (t_deepenP (σ := σ) (t := 4) (dp := v) h.k.N g.ts g.s6 (fun k hk => by have := g.de k hk; omega) (by omega))
      have K2 := Ev_rd (o := 4) (q := 4 + 1) Hs_put (t_depthAhead (σ := put σ 4 (4 + 1) (tF 4 (mkT N.st N.me N.tr N.w N.mi (snN N.tr N.st v N.de) N.ki N.sr N.le N.fi N.fo N.to)) (tA (mkT N.st N.me N.tr N.w N.mi (snN N.tr N.st v N.de) N.ki N.sr N.le N.fi N.fo N.to) du)) (t := 4) (de := snN N.tr N.st v N.de) h.k.N g.ts g.s6)
      refine ⟨_, ?_, Fr_N, h1⟩
      rw [ex]
      refine ev_of (L := [(.ref 1), (.int (nI v))]) (by decide) rfl (Nat.le_of_ble_eq_true rfl) ?_
      refine wp_iload_1 d61_0 ?_
      refine wp_if_ltN d61_1 (by decide) (by omega) ?_
      refine wp_iload_1 d61_4 ?_
      refine wp_bipush d61_5 bi_9 ?_
      refine wp_icmp_leN d61_7 (by decide) (by omega) (by omega) (fun h7 => ?_) (fun hq => absurd hq (by omega))
      refine wp_aload_0 d61_13 ?_
      refine wp_get d61_14 (Nat.le_of_ble_eq_true rfl) h.k.X h.X.1 rfl ?_
      refine wp_get d61_17 (Nat.le_of_ble_eq_true rfl) h.k.N.1 hN.1 rfl ?_
      refine wp_if_neN d61_20 (by decide) (by omega) (fun h20 => ?_) (fun hq => absurd hq (by omega))
      refine wp_aload_0 d61_26 ?_
      refine wp_get d61_27 (Nat.le_of_ble_eq_true rfl) h.k.X h.X.1 rfl ?_
      refine wp_iload_1 d61_30 ?_
      refine wp_V1v d61_31 h.k.N.1 (K) (Nat.le_of_ble_eq_true rfl) (Nat.le_of_ble_eq_true rfl) ?_
      refine wp_aload_0 d61_34 ?_
      refine wp_get d61_35 (Nat.le_of_ble_eq_true rfl) h.k.X h1.X.1 rfl ?_
      refine wp_V0r d61_38 h.k.N.1 (K2) (Nat.le_of_ble_eq_true rfl) (Nat.le_of_ble_eq_true rfl) ?_
      exact wp_iret d61_41 rfl rfl rfl
  · have hx := mt inB_t.mpr e
    simp only [n_snow, if_neg e] at *
    refine ⟨σ, ?_, Fr_refl, h⟩
    refine ev_of (L := [(.ref 1), (.int x)]) (by decide) rfl (Nat.le_of_ble_eq_true rfl) ?_
    refine wp_iload_1 d61_0 ?_
    refine wp_if_lt d61_1 (by decide) (fun h1 => ?_) (fun h1 => ?_)
    · refine wp_bipush d61_10 bi_m102 ?_
      exact wp_iret d61_12 rfl rfl rfl
    · have := mt (lt_nI (x := x) (a := 0) (by decide)).mpr h1
      refine wp_iload_1 d61_4 ?_
      refine wp_bipush d61_5 bi_9 ?_
      refine wp_icmp_le d61_7 (by decide) (fun hq => absurd ((le_nI (x := x) (a := 9) (by decide)).mp hq) (by omega)) (fun _ => ?_)
      refine wp_bipush d61_10 bi_m102 ?_
      exact wp_iret d61_12 rfl rfl rfl
theorem c_sun (h : CIv σ pm pg N K img sl bd fd) (g : Gd N) : ∃ σ', Ev 2 0 0 62 [.ref 1] σ (some (.int (if N.st = 0 then -103 else nI (smN (suN N.tr N.st N.me N.de) N.tr (N.st - N.tr))))) σ' ∧ Fr σ σ' 1 76 ∧ CIv σ' pm pg (n_sun N) K img sl bd fd := by
  obtain ⟨du, hN⟩ := h.N
  have hs6 := g.s6
  have h1 := CIv_N (N' := n_sun N) (du := du) h
  by_cases e1 : N.st = 0
  · rw [if_pos e1]
    have e2 : suN N.tr N.st N.me N.de = N.de := by
      funext k
      unfold suN
      rw [if_neg (by omega)]
    simp only [n_sun, e2] at *
    refine ⟨σ, ?_, Fr_refl, h⟩
    refine ev_of (L := [(.ref 1)]) (by decide) rfl (Nat.le_of_ble_eq_true rfl) ?_
    refine wp_aload_0 d62_0 ?_
    refine wp_get d62_1 (Nat.le_of_ble_eq_true rfl) h.k.X h.X.1 rfl ?_
    refine wp_get d62_4 (Nat.le_of_ble_eq_true rfl) h.k.N.1 hN.1 rfl ?_
    refine wp_if_neN d62_7 (by decide) (by omega) (fun hq => absurd hq (by omega)) (fun h7 => ?_)
    refine wp_bipush d62_10 bi_m103 ?_
    exact wp_iret d62_12 rfl rfl rfl
  · rw [if_neg e1]
    have K := Ev_at hN (t_deepenM (σ := σ) (t := 4) (meN := N.me) h.k.N g.ts g.s6 g.de (by have := g.me; omega))
    have K2 := Ev_rd (o := 4) (q := 4 + 1) Hs_put (t_depthAhead (σ := put σ 4 (4 + 1) (tF 4 (n_sun N)) (tA (n_sun N) du)) (t := 4) (de := suN N.tr N.st N.me N.de) h.k.N g.ts g.s6)
    refine ⟨_, ?_, Fr_N, h1⟩
    refine ev_of (L := [(.ref 1)]) (by decide) rfl (Nat.le_of_ble_eq_true rfl) ?_
    refine wp_aload_0 d62_0 ?_
    refine wp_get d62_1 (Nat.le_of_ble_eq_true rfl) h.k.X h.X.1 rfl ?_
    refine wp_get d62_4 (Nat.le_of_ble_eq_true rfl) h.k.N.1 hN.1 rfl ?_
    refine wp_if_neN d62_7 (by decide) (by omega) (fun h7 => ?_) (fun hq => absurd hq (by omega))
    refine wp_aload_0 d62_13 ?_
    refine wp_get d62_14 (Nat.le_of_ble_eq_true rfl) h.k.X h.X.1 rfl ?_
    refine wp_aload_0 d62_17 ?_
    refine wp_get d62_18 (Nat.le_of_ble_eq_true rfl) h.k.X h.X.1 rfl ?_
    refine wp_get d62_21 (Nat.le_of_ble_eq_true rfl) h.k.N.1 hN.1 rfl ?_
    refine wp_ineg d62_24 ?_
    refine wp_V1v d62_25 h.k.N.1 (K) (Nat.le_of_ble_eq_true rfl) (Nat.le_of_ble_eq_true rfl) ?_
    refine wp_aload_0 d62_28 ?_
    refine wp_get d62_29 (Nat.le_of_ble_eq_true rfl) h.k.X h1.X.1 rfl ?_
    refine wp_V0r d62_32 h.k.N.1 (K2) (Nat.le_of_ble_eq_true rfl) (Nat.le_of_ble_eq_true rfl) ?_
    exact wp_iret d62_35 rfl rfl rfl

end S32_tb3b
