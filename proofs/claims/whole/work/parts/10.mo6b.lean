section S10_mo6b
variable {σ : Sto} {m : Nat} {pm sta rdm st me tr mi slr wa cha bm bc bl bch ask sn ks kw kt km : Int32} {hsh : Int64} {apg ade afo aro ale afi anf anl awh aod abo aof ama asd akr akl akf akd ako : List Int32}

theorem m_best (kM : KM σ m) {trN stN w ch0 bmN : Nat} {ki sr fi le de wh nf nl : Nat → Nat} {to : Nat → Option Nat} (h1 : trN ≤ stN) (h6 : stN ≤ 6) (hw5 : w ≤ 5) (hf : PF w fi) (hk : ∀ v, v < w → ki v < 5) (hl : ∀ v, v < w → le v < 1000) (hd : ∀ k, k < stN → de k < 100) (hbm : bmN ≤ 20) (x : Int32) : ∃ (wh' nf' nl' : Nat → Nat) (ch' : Nat) (bc' bl' bch' : Int32), Ev 5 0 0 116 [.ref m, .int x] (put σ m (m + 1) (mF m pm sta rdm (nI stN) me (nI trN) mi slr (nI w) (nI ch0) (nI bmN) bc bl bch ask sn ks kw kt km hsh) (mA apg (arr 6 de) afo (arrI 15 (rw3 ki sr to)) (arr 5 le) (arr 5 fi) (arr 5 nf) (arr 5 nl) (arr 6 wh) aod abo aof ama asd akr akl akf akd ako)) (some (.int (if okX x then (if w = 0 ∨ bmN = 20 then -103 else r_best w ki fi de le trN stN x) else -102))) (put σ m (m + 1) (mF m pm sta rdm (nI stN) me (nI trN) mi slr (nI w) (nI ch') (nI (if okB w bmN x then bmN + 1 else bmN)) (bc') (bl') (bch') ask sn ks kw kt km hsh) (mA apg (arr 6 de) afo (arrI 15 (rw3 ki sr to)) (arr 5 le) (arr 5 fi) (arr 5 nf') (arr 5 nl') (arr 6 wh') aod abo aof ama asd akr akl akf akd ako)) := by
  by_cases hx : okX x = true
  · rw [if_pos hx]
    have hx2 : (x.toInt = 0 ∨ x.toInt = 1) ∨ (10 ≤ x.toInt ∧ x.toInt ≤ 15) := by
      simp only [okX, Bool.or_eq_true, inB_t] at hx
      omega
    have pre : ∀ {r : Option Value} {σ' : Sto}, WP 5 0 0 116 27 [.ref m, .int x] [] (put σ m (m + 1) (mF m pm sta rdm (nI stN) me (nI trN) mi slr (nI w) (nI ch0) (nI bmN) bc bl bch ask sn ks kw kt km hsh) (mA apg (arr 6 de) afo (arrI 15 (rw3 ki sr to)) (arr 5 le) (arr 5 fi) (arr 5 nf) (arr 5 nl) (arr 6 wh) aod abo aof ama asd akr akl akf akd ako)) r σ' → Ev 5 0 0 116 [.ref m, .int x] (put σ m (m + 1) (mF m pm sta rdm (nI stN) me (nI trN) mi slr (nI w) (nI ch0) (nI bmN) bc bl bch ask sn ks kw kt km hsh) (mA apg (arr 6 de) afo (arrI 15 (rw3 ki sr to)) (arr 5 le) (arr 5 fi) (arr 5 nf) (arr 5 nl) (arr 6 wh) aod abo aof ama asd akr akl akf akd ako)) r σ' := by
      intro r σ' K
      refine ev_of (L := [(.ref m), (.int x)]) (by decide) rfl (Nat.le_of_ble_eq_true rfl) ?_
      refine wp_iload_1 d116_0 ?_
      refine wp_i2l d116_1 ?_
      refine wp_lconst d116_2 (v := lN 0) rfl ?_
      refine wp_lconst d116_3 (v := lN 1) rfl ?_
      refine wp_S3r d116_4 rfl ((m_in x (a := 0) (b := 1) (by decide) (by decide))) (Nat.le_of_ble_eq_true rfl) (Nat.le_of_ble_eq_true rfl) ?_
      refine wp_if_neB d116_7 (by decide) (fun h7 => ?_) (fun h7 => ?_)
      · exact K
      · refine wp_iload_1 d116_10 ?_
        refine wp_i2l d116_11 ?_
        refine wp_ldc2 d116_12 (by decide) rfl lk_10 ?_
        refine wp_ldc2 d116_15 (by decide) rfl lk_15 ?_
        refine wp_S3r d116_18 rfl ((m_in x (a := 10) (b := 15) (by decide) (by decide))) (Nat.le_of_ble_eq_true rfl) (Nat.le_of_ble_eq_true rfl) ?_
        refine wp_if_neB d116_21 (by decide) (fun h21 => ?_) (fun h21 => ?_)
        · exact K
        · exfalso
          simp [okX, h7, h21] at hx
    by_cases hs : w = 0 ∨ bmN = 20
    · refine ⟨wh, nf, nl, ch0, bc, bl, bch, ?_⟩
      rw [if_pos hs, show okB w bmN x = false by rcases hs with z | z <;> simp [okB, z]]
      refine pre ?_
      refine wp_aload_0 d116_27 ?_
      refine wp_getP d116_28 (Nat.le_of_ble_eq_true rfl) kM.1 rfl ?_
      refine wp_if_eqN d116_31 (by decide) (by omega) (fun h31 => ?_) (fun h31 => ?_)
      · refine wp_bipush d116_43 bi_m103 ?_
        exact wp_iret d116_45 rfl rfl rfl
      · refine wp_aload_0 d116_34 ?_
        refine wp_getP d116_35 (Nat.le_of_ble_eq_true rfl) kM.1 rfl ?_
        refine wp_bipush d116_38 bi_20 ?_
        refine wp_icmp_neN d116_40 (by decide) (by omega) (by omega) (fun hq => absurd hq (by omega)) (fun h40 => ?_)
        refine wp_bipush d116_43 bi_m103 ?_
        exact wp_iret d116_45 rfl rfl rfl
    · obtain ⟨wh', nf', nl', ch', bc', bl', bch', K⟩ := m_tellBest kM (σ := σ) (m := m) (nf := nf) (nl := nl) (wh := wh) (sr := sr) (to := to) (ch0 := ch0) (bc := bc) (bl := bl) (bch := bch) (pm := pm) (sta := sta) (rdm := rdm) (me := me) (mi := mi) (slr := slr) (bm := nI (bmN + 1)) (ask := ask) (sn := sn) (ks := ks) (kw := kw) (kt := kt) (km := km) (hsh := hsh) (apg := apg) (afo := afo) (aod := aod) (abo := abo) (aof := aof) (ama := ama) (asd := asd) (akr := akr) (akl := akl) (akf := akf) (akd := akd) (ako := ako) h1 h6 (show 1 ≤ w by omega) hw5 hf hk hl hd x hx2
      refine ⟨wh', nf', nl', ch', bc', bl', bch', ?_⟩
      rw [if_neg hs, show okB w bmN x = true by simp [okB, hx]; omega]
      refine pre ?_
      refine wp_aload_0 d116_27 ?_
      refine wp_getP d116_28 (Nat.le_of_ble_eq_true rfl) kM.1 rfl ?_
      refine wp_if_eqN d116_31 (by decide) (by omega) (fun hq => absurd hq (by omega)) (fun h31 => ?_)
      refine wp_aload_0 d116_34 ?_
      refine wp_getP d116_35 (Nat.le_of_ble_eq_true rfl) kM.1 rfl ?_
      refine wp_bipush d116_38 bi_20 ?_
      refine wp_icmp_neN d116_40 (by decide) (by omega) (by omega) (fun h40 => ?_) (fun hq => absurd hq (by omega))
      refine wp_aload_0 d116_46 ?_
      refine wp_dup d116_47 rfl ?_
      refine wp_getP d116_48 (Nat.le_of_ble_eq_true rfl) kM.1 rfl ?_
      refine wp_iconst d116_51 ic_1 ?_
      refine wp_iaddN d116_52 ?_
      refine wp_putIP d116_53 kM.1 ?_
      refine wp_aload_0 d116_56 ?_
      refine wp_iload_1 d116_57 ?_
      refine wp_V1r d116_58 kM.1 ((K)) (Nat.le_of_ble_eq_true rfl) (Nat.le_of_ble_eq_true rfl) ?_
      exact wp_iret d116_61 rfl rfl rfl
  · refine ⟨wh, nf, nl, ch0, bc, bl, bch, ?_⟩
    have hx' : okX x = false := by simpa using hx
    rw [hx', show okB w bmN x = false by simp [okB, hx']]
    simp only [okX, Bool.or_eq_false_iff] at hx'
    refine ev_of (L := [(.ref m), (.int x)]) (by decide) rfl (Nat.le_of_ble_eq_true rfl) ?_
    refine wp_iload_1 d116_0 ?_
    refine wp_i2l d116_1 ?_
    refine wp_lconst d116_2 (v := lN 0) rfl ?_
    refine wp_lconst d116_3 (v := lN 1) rfl ?_
    refine wp_S3r d116_4 rfl ((m_in x (a := 0) (b := 1) (by decide) (by decide))) (Nat.le_of_ble_eq_true rfl) (Nat.le_of_ble_eq_true rfl) ?_
    refine wp_if_neB d116_7 (by decide) (fun hq => absurd hq (fun hq => absurd (hq.symm.trans hx'.1) (by decide))) (fun h7 => ?_)
    refine wp_iload_1 d116_10 ?_
    refine wp_i2l d116_11 ?_
    refine wp_ldc2 d116_12 (by decide) rfl lk_10 ?_
    refine wp_ldc2 d116_15 (by decide) rfl lk_15 ?_
    refine wp_S3r d116_18 rfl ((m_in x (a := 10) (b := 15) (by decide) (by decide))) (Nat.le_of_ble_eq_true rfl) (Nat.le_of_ble_eq_true rfl) ?_
    refine wp_if_neB d116_21 (by decide) (fun hq => absurd hq (fun hq => absurd (hq.symm.trans hx'.2) (by decide))) (fun h21 => ?_)
    refine wp_bipush d116_24 bi_m102 ?_
    exact wp_iret d116_26 rfl rfl rfl
theorem m_farOf (kM : KM σ m) {trN stN w by' : Nat} {ki sr fi le de nf nl : Nat → Nat} {to : Nat → Option Nat} (h1 : trN ≤ stN) (h6 : stN ≤ 6) (hw : 1 ≤ w) (hw5 : w ≤ 5) (hf : PF w fi) (hk : ∀ v, v < w → ki v < 5) (hl : ∀ v, v < w → le v < 1000) (hd : ∀ k, k < stN → de k < 100) (hb : 1 ≤ by') (hb6 : by' ≤ 6) : ∃ nf' nl' : Nat → Nat, Ev 2 0 0 117 [.ref m, .int (nI by')] (put σ m (m + 1) (mF m pm sta rdm (nI stN) me (nI trN) mi slr (nI w) cha bm bc bl bch ask sn ks kw kt km hsh) (mA apg (arr 6 de) afo (arrI 15 (rw3 ki sr to)) (arr 5 le) (arr 5 fi) (arr 5 nf) (arr 5 nl) awh aod abo aof ama asd akr akl akf akd ako)) (some (.int (nI (faN w ki de trN by' (stN - trN) 0 fi le)))) (put σ m (m + 1) (mF m pm sta rdm (nI stN) me (nI trN) mi slr (nI w) cha bm bc bl bch ask sn ks kw kt km hsh) (mA apg (arr 6 de) afo (arrI 15 (rw3 ki sr to)) (arr 5 le) (arr 5 fi) (arr 5 nf') (arr 5 nl') awh aod abo aof ama asd akr akl akf akd ako)) := by
  have loop : ∀ (n k : Nat) (f l2 : Nat → Nat), trN + k + n = stN → PF w f → (∀ v, v < w → l2 v < 1000) → ∃ nf' nl' : Nat → Nat, WP 2 0 0 117 6 [.ref m, .int (nI by'), .int (nI k)] [] (put σ m (m + 1) (mF m pm sta rdm (nI stN) me (nI trN) mi slr (nI w) cha bm bc bl bch ask sn ks kw kt km hsh) (mA apg (arr 6 de) afo (arrI 15 (rw3 ki sr to)) (arr 5 le) (arr 5 fi) (arr 5 f) (arr 5 l2) awh aod abo aof ama asd akr akl akf akd ako)) (some (.int (nI (faN w ki de trN by' n k f l2)))) (put σ m (m + 1) (mF m pm sta rdm (nI stN) me (nI trN) mi slr (nI w) cha bm bc bl bch ask sn ks kw kt km hsh) (mA apg (arr 6 de) afo (arrI 15 (rw3 ki sr to)) (arr 5 le) (arr 5 fi) (arr 5 nf') (arr 5 nl') awh aod abo aof ama asd akr akl akf akd ako)) := by
    intro n
    induction n with
    | zero =>
      intro k f l2 hk' hpf hl2
      refine ⟨f, l2, ?_⟩
      refine wp_aload_0 d117_6 ?_
      refine wp_getP d117_7 (Nat.le_of_ble_eq_true rfl) kM.1 rfl ?_
      refine wp_iload_2 d117_10 ?_
      refine wp_iaddN d117_11 ?_
      refine wp_aload_0 d117_12 ?_
      refine wp_getP d117_13 (Nat.le_of_ble_eq_true rfl) kM.1 rfl ?_
      refine wp_icmp_geN d117_16 (by decide) (by omega) (by omega) (fun h16 => ?_) (fun hq => absurd hq (by omega))
      refine wp_iload_2 d117_68 ?_
      exact wp_iret d117_69 rfl rfl rfl
    | succ n ih =>
      intro k f l2 hk' hpf hl2
      have hdk := hd (trN + k) (by omega)
      by_cases hc : canN ki f l2 (de (trN + k)) w = true
      · have hl3 : ∀ v, v < w → trS ki f (de (trN + k)) l2 w v < 1000 := fun v hv => Nat.lt_of_le_of_lt trS_le (hl2 v hv)
        have hpf' : PF w (if (k + 1) % by' = 0 then rot w f else f) := by
          split
          · exact PF_rot hpf
          · exact hpf
        obtain ⟨nf', nl', K⟩ := ih (k + 1) (if (k + 1) % by' = 0 then rot w f else f) (trS ki f (de (trN + k)) l2 w) (by omega) hpf' hl3
        refine ⟨nf', nl', ?_⟩
        rw [show faN w ki de trN by' (n + 1) k f l2 = faN w ki de trN by' n (k + 1) (if (k + 1) % by' = 0 then rot w f else f) (trS ki f (de (trN + k)) l2 w) by simp [faN, hc]]
        refine wp_aload_0 d117_6 ?_
        refine wp_getP d117_7 (Nat.le_of_ble_eq_true rfl) kM.1 rfl ?_
        refine wp_iload_2 d117_10 ?_
        refine wp_iaddN d117_11 ?_
        refine wp_aload_0 d117_12 ?_
        refine wp_getP d117_13 (Nat.le_of_ble_eq_true rfl) kM.1 rfl ?_
        refine wp_icmp_geN d117_16 (by decide) (by omega) (by omega) (fun hq => absurd hq (by omega)) (fun h16 => ?_)
        refine wp_aload_0 d117_19 ?_
        refine wp_aload_0 d117_20 ?_
        refine wp_getP d117_21 (Nat.le_of_ble_eq_true rfl) kM.1 rfl ?_
        refine wp_aload_0 d117_24 ?_
        refine wp_getP d117_25 (Nat.le_of_ble_eq_true rfl) kM.1 rfl ?_
        refine wp_iload_2 d117_28 ?_
        refine wp_iaddN d117_29 ?_
        refine wp_aldP d117_30 (kM.2 _ (Nat.le_of_ble_eq_true rfl)) rfl (by omega) (by decide) ?_
        refine wp_V1r d117_31 kM.1 ((m_canTread kM hw5 hpf.1 hk hl2 hdk)) (Nat.le_of_ble_eq_true rfl) (Nat.le_of_ble_eq_true rfl) ?_
        refine wp_if_eqB d117_34 (by decide) (fun hq => absurd hq (fun hq => absurd (hc.symm.trans hq) (by decide))) (fun h34 => ?_)
        refine wp_aload_0 d117_37 ?_
        refine wp_aload_0 d117_38 ?_
        refine wp_getP d117_39 (Nat.le_of_ble_eq_true rfl) kM.1 rfl ?_
        refine wp_aload_0 d117_42 ?_
        refine wp_getP d117_43 (Nat.le_of_ble_eq_true rfl) kM.1 rfl ?_
        refine wp_iload_2 d117_46 ?_
        refine wp_iaddN d117_47 ?_
        refine wp_aldP d117_48 (kM.2 _ (Nat.le_of_ble_eq_true rfl)) rfl (by omega) (by decide) ?_
        refine wp_V1v d117_49 kM.1 ((m_treads kM hw5 hpf hk hc hdk)) (Nat.le_of_ble_eq_true rfl) (Nat.le_of_ble_eq_true rfl) ?_
        refine wp_iinc_2 d117_52 (Nat.le_of_ble_eq_true rfl) rfl (inc1 _) ?_
        refine wp_iload_2 d117_55 ?_
        refine wp_iload_1 d117_56 ?_
        refine wp_iremN d117_57 (by omega) (by omega) (by omega) ?_
        have hmod : (k + 1) % by' < by' := Nat.mod_lt _ (by omega)
        refine wp_if_neN d117_58 (by decide) (by omega) (fun h58 => ?_) (fun h58 => ?_)
        · rw [if_neg h58] at K ⊢
          exact K
        · rw [if_pos h58] at K ⊢
          refine wp_aload_0 d117_61 ?_
          refine wp_V0v d117_62 kM.1 ((m_turns kM hw hw5)) (Nat.le_of_ble_eq_true rfl) (Nat.le_of_ble_eq_true rfl) ?_
          refine wp_goto d117_65 (by decide) ?_
          exact K
      · have hc' : canN ki f l2 (de (trN + k)) w = false := by simpa using hc
        refine ⟨f, l2, ?_⟩
        rw [show faN w ki de trN by' (n + 1) k f l2 = k by simp [faN, hc']]
        refine wp_aload_0 d117_6 ?_
        refine wp_getP d117_7 (Nat.le_of_ble_eq_true rfl) kM.1 rfl ?_
        refine wp_iload_2 d117_10 ?_
        refine wp_iaddN d117_11 ?_
        refine wp_aload_0 d117_12 ?_
        refine wp_getP d117_13 (Nat.le_of_ble_eq_true rfl) kM.1 rfl ?_
        refine wp_icmp_geN d117_16 (by decide) (by omega) (by omega) (fun hq => absurd hq (by omega)) (fun h16 => ?_)
        refine wp_aload_0 d117_19 ?_
        refine wp_aload_0 d117_20 ?_
        refine wp_getP d117_21 (Nat.le_of_ble_eq_true rfl) kM.1 rfl ?_
        refine wp_aload_0 d117_24 ?_
        refine wp_getP d117_25 (Nat.le_of_ble_eq_true rfl) kM.1 rfl ?_
        refine wp_iload_2 d117_28 ?_
        refine wp_iaddN d117_29 ?_
        refine wp_aldP d117_30 (kM.2 _ (Nat.le_of_ble_eq_true rfl)) rfl (by omega) (by decide) ?_
        refine wp_V1r d117_31 kM.1 ((m_canTread kM hw5 hpf.1 hk hl2 hdk)) (Nat.le_of_ble_eq_true rfl) (Nat.le_of_ble_eq_true rfl) ?_
        refine wp_if_eqB d117_34 (by decide) (fun h34 => ?_) (fun hq => absurd hq (fun hq => absurd (hq.symm.trans hc') (by decide)))
        refine wp_iload_2 d117_68 ?_
        exact wp_iret d117_69 rfl rfl rfl
  obtain ⟨nf', nl', K⟩ := loop (stN - trN) 0 fi le (by omega) hf hl
  refine ⟨nf', nl', ?_⟩
  refine ev_of (L := [(.ref m), (.int (nI by')), .null]) (by decide) rfl (Nat.le_of_ble_eq_true rfl) ?_
  refine wp_aload_0 d117_0 ?_
  refine wp_V0v d117_1 kM.1 ((m_asItIs kM)) (Nat.le_of_ble_eq_true rfl) (Nat.le_of_ble_eq_true rfl) ?_
  refine wp_iconst d117_4 ic_0 ?_
  refine wp_istore_2 d117_5 (Nat.le_of_ble_eq_true rfl) rfl ?_
  exact K
theorem m_far (kM : KM σ m) {trN stN w : Nat} {ki sr fi le de nf nl : Nat → Nat} {to : Nat → Option Nat} (h1 : trN ≤ stN) (h6 : stN ≤ 6) (hw5 : w ≤ 5) (hf : PF w fi) (hk : ∀ v, v < w → ki v < 5) (hl : ∀ v, v < w → le v < 1000) (hd : ∀ k, k < stN → de k < 100) (x : Int32) : ∃ nf' nl' : Nat → Nat, Ev 3 0 0 118 [.ref m, .int x] (put σ m (m + 1) (mF m pm sta rdm (nI stN) me (nI trN) mi slr (nI w) cha bm bc bl bch ask sn ks kw kt km hsh) (mA apg (arr 6 de) afo (arrI 15 (rw3 ki sr to)) (arr 5 le) (arr 5 fi) (arr 5 nf) (arr 5 nl) awh aod abo aof ama asd akr akl akf akd ako)) (some (.int (if inB x 1 6 then (if w = 0 then -103 else nI (faN w ki de trN x.toInt.toNat (stN - trN) 0 fi le)) else -102))) (put σ m (m + 1) (mF m pm sta rdm (nI stN) me (nI trN) mi slr (nI w) cha bm bc bl bch ask sn ks kw kt km hsh) (mA apg (arr 6 de) afo (arrI 15 (rw3 ki sr to)) (arr 5 le) (arr 5 fi) (arr 5 nf') (arr 5 nl') awh aod abo aof ama asd akr akl akf akd ako)) := by
  by_cases hx : inB x 1 6 = true
  · rw [if_pos hx]
    by_cases hw0 : w = 0
    · refine ⟨nf, nl, ?_⟩
      rw [if_pos hw0]
      subst hw0
      refine ev_of (L := [(.ref m), (.int x)]) (by decide) rfl (Nat.le_of_ble_eq_true rfl) ?_
      refine wp_iload_1 d118_0 ?_
      refine wp_i2l d118_1 ?_
      refine wp_lconst d118_2 (v := lN 1) rfl ?_
      refine wp_ldc2 d118_3 (by decide) rfl lk_6 ?_
      refine wp_S3r d118_6 rfl ((m_in x (a := 1) (b := 6) (by decide) (by decide))) (Nat.le_of_ble_eq_true rfl) (Nat.le_of_ble_eq_true rfl) ?_
      refine wp_if_neB d118_9 (by decide) (fun h9 => ?_) (fun hq => absurd hq (fun hq => absurd (hq.symm.trans hx) (by decide)))
      refine wp_aload_0 d118_15 ?_
      refine wp_getP d118_16 (Nat.le_of_ble_eq_true rfl) kM.1 rfl ?_
      refine wp_if_neN d118_19 (by decide) (by omega) (fun hq => absurd hq (by omega)) (fun h19 => ?_)
      refine wp_bipush d118_22 bi_m103 ?_
      refine wp_goto d118_24 (by decide) ?_
      exact wp_iret d118_32 rfl rfl rfl
    · have hb := inB_t.mp hx
      obtain ⟨y, hy, rfl⟩ : ∃ y : Nat, (1 ≤ y ∧ y ≤ 6) ∧ x = nI y := ⟨x.toInt.toNat, by omega, nI_to (by omega)⟩
      rw [show (nI y).toInt.toNat = y by rw [nI_toInt (by omega)]; rfl]
      obtain ⟨nf', nl', K⟩ := m_farOf kM (σ := σ) (m := m) (nf := nf) (nl := nl) (sr := sr) (to := to) (awh := awh) (cha := cha) (bc := bc) (bl := bl) (bch := bch) (pm := pm) (sta := sta) (rdm := rdm) (me := me) (mi := mi) (slr := slr) (bm := bm) (ask := ask) (sn := sn) (ks := ks) (kw := kw) (kt := kt) (km := km) (hsh := hsh) (apg := apg) (afo := afo) (aod := aod) (abo := abo) (aof := aof) (ama := ama) (asd := asd) (akr := akr) (akl := akl) (akf := akf) (akd := akd) (ako := ako) h1 h6 (show 1 ≤ w by omega) hw5 hf hk hl hd hy.1 hy.2
      refine ⟨nf', nl', ?_⟩
      rw [if_neg hw0]
      refine ev_of (L := [(.ref m), (.int (nI y))]) (by decide) rfl (Nat.le_of_ble_eq_true rfl) ?_
      refine wp_iload_1 d118_0 ?_
      refine wp_i2l d118_1 ?_
      refine wp_lconst d118_2 (v := lN 1) rfl ?_
      refine wp_ldc2 d118_3 (by decide) rfl lk_6 ?_
      refine wp_S3r d118_6 rfl ((m_in (nI y) (a := 1) (b := 6) (by decide) (by decide))) (Nat.le_of_ble_eq_true rfl) (Nat.le_of_ble_eq_true rfl) ?_
      refine wp_if_neB d118_9 (by decide) (fun h9 => ?_) (fun hq => absurd hq (fun hq => absurd (hq.symm.trans hx) (by decide)))
      refine wp_aload_0 d118_15 ?_
      refine wp_getP d118_16 (Nat.le_of_ble_eq_true rfl) kM.1 rfl ?_
      refine wp_if_neN d118_19 (by decide) (by omega) (fun h19 => ?_) (fun hq => absurd hq (by omega))
      refine wp_aload_0 d118_27 ?_
      refine wp_iload_1 d118_28 ?_
      refine wp_V1r d118_29 kM.1 ((K)) (Nat.le_of_ble_eq_true rfl) (Nat.le_of_ble_eq_true rfl) ?_
      exact wp_iret d118_32 rfl rfl rfl
  · refine ⟨nf, nl, ?_⟩
    have hx' : inB x 1 6 = false := by simpa using hx
    rw [if_neg hx]
    refine ev_of (L := [(.ref m), (.int x)]) (by decide) rfl (Nat.le_of_ble_eq_true rfl) ?_
    refine wp_iload_1 d118_0 ?_
    refine wp_i2l d118_1 ?_
    refine wp_lconst d118_2 (v := lN 1) rfl ?_
    refine wp_ldc2 d118_3 (by decide) rfl lk_6 ?_
    refine wp_S3r d118_6 rfl ((m_in x (a := 1) (b := 6) (by decide) (by decide))) (Nat.le_of_ble_eq_true rfl) (Nat.le_of_ble_eq_true rfl) ?_
    refine wp_if_neB d118_9 (by decide) (fun hq => absurd hq (fun hq => absurd (hq.symm.trans hx') (by decide))) (fun h9 => ?_)
    refine wp_bipush d118_12 bi_m102 ?_
    exact wp_iret d118_14 rfl rfl rfl
theorem m_isOrder (kM : KM σ m) {w c : Nat} {od : Nat → Nat} (hw : 1 ≤ w) (hw5 : w ≤ 5) (hc : c < 2 ^ 31) : Ev 0 0 0 119 [.ref m, .int (nI c)] (put σ m (m + 1) (mF m pm sta rdm st me tr mi slr (nI w) cha bm bc bl bch ask sn ks kw kt km hsh) (mA apg ade afo aro ale afi anf anl awh (arr 5 od) abo aof ama asd akr akl akf akd ako)) (some (.int (bi (isO w c)))) (put σ m (m + 1) (mF m pm sta rdm st me tr mi slr (nI w) cha bm bc bl bch ask sn ks kw kt km hsh) (mA apg ade afo aro ale afi anf anl awh (arr 5 (odN w c od)) abo aof ama asd akr akl akf akd ako)) := by
  have fin : WP 0 0 0 119 55 [.ref m, .int (nI c), .int (nI (c / w ^ w)), .int (nI (msk (odC w c) w w)), .int (nI 0 - nI 1)] [] (put σ m (m + 1) (mF m pm sta rdm st me tr mi slr (nI w) cha bm bc bl bch ask sn ks kw kt km hsh) (mA apg ade afo aro ale afi anf anl awh (arr 5 (odN w c od)) abo aof ama asd akr akl akf akd ako)) (some (.int (bi (isO w c)))) (put σ m (m + 1) (mF m pm sta rdm st me tr mi slr (nI w) cha bm bc bl bch ask sn ks kw kt km hsh) (mA apg ade afo aro ale afi anf anl awh (arr 5 (odN w c od)) abo aof ama asd akr akl akf akd ako)) := by
    have hm := msk_lt (f := odC w c) (a := w) (fun p hp => by unfold odC odN; rw [if_pos hp]; exact Nat.lt_of_lt_of_le (Nat.mod_lt _ (by omega)) hw5) w (Nat.le_refl _)
    have b1 : 1 ≤ 2 ^ w := Nat.one_le_two_pow
    have b2 : 2 ^ w ≤ 2 ^ 5 := Nat.pow_le_pow_right (by decide) hw5
    have h32 : (2 : Nat) ^ 5 = 32 := rfl
    refine wp_iload_3 d119_55 ?_
    refine wp_iconst d119_56 ic_1 ?_
    refine wp_aload_0 d119_57 ?_
    refine wp_getP d119_58 (Nat.le_of_ble_eq_true rfl) kM.1 rfl ?_
    refine wp_ishlN d119_61 (by omega) (by omega) ?_
    rw [Nat.one_mul]
    refine wp_iconst d119_62 ic_1 ?_
    refine wp_isubN d119_63 (by omega) ?_
    refine wp_icmp_neN d119_64 (by decide) (by omega) (by omega) (fun h64 => ?_) (fun h64 => ?_)
    · refine wp_iconst d119_71 ic_0 ?_
      exact wp_zret d119_72 rfl nI_01 (by simp [isO, h64, bi]; rfl) rfl
    · refine wp_iconst d119_67 ic_1 ?_
      refine wp_goto d119_68 (by decide) ?_
      exact wp_zret d119_72 rfl nI_11 (by simp [isO, h64, bi]; rfl) rfl
  have loop : ∀ (n : Nat) (f : Nat → Nat), n ≤ w → (∀ j, f j = if n ≤ j ∧ j < w then c / w ^ (w - 1 - j) % w else od j) → WP 0 0 0 119 12 [.ref m, .int (nI c), .int (nI (c / w ^ (w - n))), .int (nI (msk (odC w c) w (w - n))), .int (nI n - nI 1)] [] (put σ m (m + 1) (mF m pm sta rdm st me tr mi slr (nI w) cha bm bc bl bch ask sn ks kw kt km hsh) (mA apg ade afo aro ale afi anf anl awh (arr 5 f) abo aof ama asd akr akl akf akd ako)) (some (.int (bi (isO w c)))) (put σ m (m + 1) (mF m pm sta rdm st me tr mi slr (nI w) cha bm bc bl bch ask sn ks kw kt km hsh) (mA apg ade afo aro ale afi anf anl awh (arr 5 (odN w c od)) abo aof ama asd akr akl akf akd ako)) := by
    intro n
    induction n with
    | zero =>
      intro f hn hf
      rw [show f = odN w c od by funext j; rw [hf]; unfold odN; simp]
      refine wp_iload_4 d119_12 ?_
      refine wp_if_lt d119_14 (by decide) (fun _ => ?_) (fun h => absurd ((pred_lt0 (c := 0) (by decide)).mpr rfl) h)
      rw [Nat.sub_zero]
      exact fin
    | succ n ih =>
      intro f hn hf
      have hle : c / w ^ (w - (n + 1)) < 2 ^ 31 := Nat.lt_of_le_of_lt (Nat.div_le_self _ _) hc
      have hml : c / w ^ (w - (n + 1)) % w < w := Nat.mod_lt _ (by omega)
      have hpo : 2 ^ (c / w ^ (w - (n + 1)) % w) ≤ 2 ^ 5 := Nat.pow_le_pow_right (by decide) (by omega)
      have h32 : (2 : Nat) ^ 5 = 32 := rfl
      refine wp_iload_4 d119_12 ?_
      refine wp_if_lt d119_14 (by decide) (fun h => absurd ((pred_lt0 (c := n + 1) (by omega)).mp h) (by omega)) (fun _ => ?_)
      rw [pk_sub (show 1 ≤ n + 1 by omega), Nat.add_sub_cancel]
      refine wp_aload_0 d119_17 ?_
      refine wp_getP d119_18 (Nat.le_of_ble_eq_true rfl) kM.1 rfl ?_
      refine wp_iload_4 d119_21 ?_
      refine wp_iload_2 d119_23 ?_
      refine wp_aload_0 d119_24 ?_
      refine wp_getP d119_25 (Nat.le_of_ble_eq_true rfl) kM.1 rfl ?_
      refine wp_iremN d119_28 (by omega) (by omega) (by omega) ?_
      refine wp_astN d119_29 (kM.2 _ (Nat.le_of_ble_eq_true rfl)) rfl (by omega) (by decide) ?_
      refine wp_iload_3 d119_30 ?_
      refine wp_iconst d119_31 ic_1 ?_
      refine wp_aload_0 d119_32 ?_
      refine wp_getP d119_33 (Nat.le_of_ble_eq_true rfl) kM.1 rfl ?_
      refine wp_iload_4 d119_36 ?_
      refine wp_aldP d119_38 (kM.2 _ (Nat.le_of_ble_eq_true rfl)) rfl (by omega) (by decide) ?_
      rw [up_s]
      refine wp_ishlN d119_39 (by omega) (by omega) ?_
      refine wp_ior d119_40 ?_
      rw [nI_or, Nat.one_mul]
      refine wp_istore_3 d119_41 (Nat.le_of_ble_eq_true rfl) rfl ?_
      refine wp_iload_2 d119_42 ?_
      refine wp_aload_0 d119_43 ?_
      refine wp_getP d119_44 (Nat.le_of_ble_eq_true rfl) kM.1 rfl ?_
      refine wp_idivN d119_47 (by omega) (by omega) (by omega) ?_
      refine wp_istore_2 d119_48 (Nat.le_of_ble_eq_true rfl) rfl ?_
      refine wp_iinc_4 d119_49 (Nat.le_of_ble_eq_true rfl) rfl (dec2 _) ?_
      refine wp_goto d119_52 (by decide) ?_
      rw [Nat.div_div_eq_div_mul, ← Nat.pow_succ, show (w - (n + 1)).succ = w - n by omega]
      have em : msk (odC w c) w (w - (n + 1)) ||| 2 ^ (c / w ^ (w - (n + 1)) % w) = msk (odC w c) w (w - n) := by
        rw [show w - n = (w - (n + 1)) + 1 by omega]
        show _ = msk (odC w c) w (w - (n + 1)) ||| 2 ^ odC w c (w - (w - (n + 1) + 1))
        rw [show w - (w - (n + 1) + 1) = n by omega]
        unfold odC odN
        rw [if_pos (by omega), show w - 1 - n = w - (n + 1) by omega]
      rw [em]
      refine ih _ (by omega) (fun j => ?_)
      unfold up
      rw [hf j]
      by_cases e : j = n
      · subst e
        rw [if_pos rfl, if_pos (by omega), show w - 1 - j = w - (j + 1) by omega]
      · rw [if_neg e]
        by_cases e2 : n + 1 ≤ j ∧ j < w
        · rw [if_pos e2, if_pos (by omega)]
        · rw [if_neg e2, if_neg (by omega)]
  refine ev_of (L := [(.ref m), (.int (nI c)), .null, .null, .null]) (by decide) rfl (Nat.le_of_ble_eq_true rfl) ?_
  refine wp_iload_1 d119_0 ?_
  refine wp_istore_2 d119_1 (Nat.le_of_ble_eq_true rfl) rfl ?_
  refine wp_iconst d119_2 ic_0 ?_
  refine wp_istore_3 d119_3 (Nat.le_of_ble_eq_true rfl) rfl ?_
  refine wp_aload_0 d119_4 ?_
  refine wp_getP d119_5 (Nat.le_of_ble_eq_true rfl) kM.1 rfl ?_
  refine wp_iconst d119_8 ic_1 ?_
  refine wp_isub d119_9 ?_
  refine wp_istore_4 d119_10 (Nat.le_of_ble_eq_true rfl) rfl ?_
  have := loop w od (Nat.le_refl _) (fun j => by rw [if_neg (by omega)])
  rw [Nat.sub_self, Nat.pow_zero, Nat.div_one] at this
  exact this
theorem m_setsOut (kM : KM σ m) {stN w : Nat} {ki sr de od nf nl : Nat → Nat} {to : Nat → Option Nat} (h6 : stN ≤ 6) (hw : 1 ≤ w) (hw5 : w ≤ 5) (hf : PF w od) (hk : ∀ v, v < w → ki v < 5) (hs : ∀ v, v < w → sr v < 1000) (hd : ∀ k, k < stN → de k < 100) : Ev 2 0 0 120 [.ref m] (put σ m (m + 1) (mF m pm sta rdm (nI stN) me tr mi slr (nI w) cha bm bc bl bch ask sn ks kw kt km hsh) (mA apg (arr 6 de) afo (arrI 15 (rw3 ki sr to)) ale afi (arr 5 nf) (arr 5 nl) awh (arr 5 od) abo aof ama asd akr akl akf akd ako)) (some (.int (bi (soN w ki de stN 0 od sr).1))) (put σ m (m + 1) (mF m pm sta rdm (nI stN) me tr mi slr (nI w) cha bm bc bl bch ask sn ks kw kt km hsh) (mA apg (arr 6 de) afo (arrI 15 (rw3 ki sr to)) ale afi (arr 5 (soN w ki de stN 0 od sr).2.1) (arr 5 (soN w ki de stN 0 od sr).2.2) awh (arr 5 od) abo aof ama asd akr akl akf akd ako)) := by
  have loop : ∀ (n k : Nat) (f l2 : Nat → Nat), k + n = stN → PF w f → (∀ v, v < w → l2 v < 1000) → WP 2 0 0 120 45 [.ref m, .int (bi true), .int (nI k)] [] (put σ m (m + 1) (mF m pm sta rdm (nI stN) me tr mi slr (nI w) cha bm bc bl bch ask sn ks kw kt km hsh) (mA apg (arr 6 de) afo (arrI 15 (rw3 ki sr to)) ale afi (arr 5 f) (arr 5 l2) awh (arr 5 od) abo aof ama asd akr akl akf akd ako)) (some (.int (bi (soN w ki de n k f l2).1))) (put σ m (m + 1) (mF m pm sta rdm (nI stN) me tr mi slr (nI w) cha bm bc bl bch ask sn ks kw kt km hsh) (mA apg (arr 6 de) afo (arrI 15 (rw3 ki sr to)) ale afi (arr 5 (soN w ki de n k f l2).2.1) (arr 5 (soN w ki de n k f l2).2.2) awh (arr 5 od) abo aof ama asd akr akl akf akd ako)) := by
    intro n
    induction n with
    | zero =>
      intro k f l2 hk' hpf hl2
      refine wp_iload_2 d120_45 ?_
      refine wp_aload_0 d120_46 ?_
      refine wp_getP d120_47 (Nat.le_of_ble_eq_true rfl) kM.1 rfl ?_
      refine wp_icmp_geN d120_50 (by decide) (by omega) (by omega) (fun h50 => ?_) (fun hq => absurd hq (by omega))
      refine wp_iload_1 d120_92 ?_
      exact wp_zret d120_93 rfl (by first | exact nI_01 | exact nI_11 | exact bi_01 _) rfl rfl
    | succ n ih =>
      intro k f l2 hk' hpf hl2
      have hdk := hd k (by omega)
      refine wp_iload_2 d120_45 ?_
      refine wp_aload_0 d120_46 ?_
      refine wp_getP d120_47 (Nat.le_of_ble_eq_true rfl) kM.1 rfl ?_
      refine wp_icmp_geN d120_50 (by decide) (by omega) (by omega) (fun hq => absurd hq (by omega)) (fun h50 => ?_)
      refine wp_iload_1 d120_53 ?_
      refine wp_if_eqB d120_54 (by decide) (fun hq => absurd hq (by decide)) (fun h54 => ?_)
      refine wp_aload_0 d120_57 ?_
      refine wp_aload_0 d120_58 ?_
      refine wp_getP d120_59 (Nat.le_of_ble_eq_true rfl) kM.1 rfl ?_
      refine wp_iload_2 d120_62 ?_
      refine wp_aldP d120_63 (kM.2 _ (Nat.le_of_ble_eq_true rfl)) rfl (by omega) (by decide) ?_
      refine wp_V1r d120_64 kM.1 ((m_canTread kM hw5 hpf.1 hk hl2 hdk)) (Nat.le_of_ble_eq_true rfl) (Nat.le_of_ble_eq_true rfl) ?_
      refine wp_istore_1 d120_67 (Nat.le_of_ble_eq_true rfl) rfl ?_
      refine wp_iload_1 d120_68 ?_
      refine wp_if_eqB d120_69 (by decide) (fun h69 => ?_) (fun h69 => ?_)
      · rw [show soN w ki de (n + 1) k f l2 = (false, f, l2) by simp [soN, h69], h69]
        refine wp_iinc_2 d120_86 (Nat.le_of_ble_eq_true rfl) rfl (inc1 _) ?_
        refine wp_goto d120_89 (by decide) ?_
        refine wp_iload_2 d120_45 ?_
        refine wp_aload_0 d120_46 ?_
        refine wp_getP d120_47 (Nat.le_of_ble_eq_true rfl) kM.1 rfl ?_
        refine wp_icmp_geN d120_50 (by decide) (by omega) (by omega) (fun h50 => ?_) (fun h50 => ?_)
        · refine wp_iload_1 d120_92 ?_
          exact wp_zret d120_93 rfl (by first | exact nI_01 | exact nI_11 | exact bi_01 _) rfl rfl
        · refine wp_iload_1 d120_53 ?_
          refine wp_if_eqB d120_54 (by decide) (fun h54 => ?_) (fun hq => absurd hq (by decide))
          refine wp_iload_1 d120_92 ?_
          exact wp_zret d120_93 rfl (by first | exact nI_01 | exact nI_11 | exact bi_01 _) rfl rfl
      · rw [show soN w ki de (n + 1) k f l2 = soN w ki de n (k + 1) (rot w f) (trS ki f (de k) l2 w) by simp [soN, h69], h69]
        refine wp_aload_0 d120_72 ?_
        refine wp_aload_0 d120_73 ?_
        refine wp_getP d120_74 (Nat.le_of_ble_eq_true rfl) kM.1 rfl ?_
        refine wp_iload_2 d120_77 ?_
        refine wp_aldP d120_78 (kM.2 _ (Nat.le_of_ble_eq_true rfl)) rfl (by omega) (by decide) ?_
        refine wp_V1v d120_79 kM.1 ((m_treads kM hw5 hpf hk h69 hdk)) (Nat.le_of_ble_eq_true rfl) (Nat.le_of_ble_eq_true rfl) ?_
        refine wp_aload_0 d120_82 ?_
        refine wp_V0v d120_83 kM.1 ((m_turns kM hw hw5)) (Nat.le_of_ble_eq_true rfl) (Nat.le_of_ble_eq_true rfl) ?_
        refine wp_iinc_2 d120_86 (Nat.le_of_ble_eq_true rfl) rfl (inc1 _) ?_
        refine wp_goto d120_89 (by decide) ?_
        exact ih (k + 1) _ _ (by omega) (PF_rot hpf) (fun v hv => Nat.lt_of_le_of_lt trS_le (hl2 v hv))
  have lay : ∀ (n k : Nat) (f1 f2 : Nat → Nat), k + n = 5 → (∀ j, j < k → f1 j = od j) → (∀ j, j < k → f2 j = sr j) → WP 2 0 0 120 2 [.ref m, .int (nI k), .null] [] (put σ m (m + 1) (mF m pm sta rdm (nI stN) me tr mi slr (nI w) cha bm bc bl bch ask sn ks kw kt km hsh) (mA apg (arr 6 de) afo (arrI 15 (rw3 ki sr to)) ale afi (arr 5 f1) (arr 5 f2) awh (arr 5 od) abo aof ama asd akr akl akf akd ako)) (some (.int (bi (soN w ki de stN 0 od sr).1))) (put σ m (m + 1) (mF m pm sta rdm (nI stN) me tr mi slr (nI w) cha bm bc bl bch ask sn ks kw kt km hsh) (mA apg (arr 6 de) afo (arrI 15 (rw3 ki sr to)) ale afi (arr 5 (soN w ki de stN 0 od sr).2.1) (arr 5 (soN w ki de stN 0 od sr).2.2) awh (arr 5 od) abo aof ama asd akr akl akf akd ako)) := by
    intro n
    induction n with
    | zero =>
      intro k f1 f2 hk' g1 g2
      rw [arr_ext (f := f1) (g := od) (fun j hj => g1 j (by omega)), arr_ext (f := f2) (g := sr) (fun j hj => g2 j (by omega))]
      refine wp_iload_1 d120_2 ?_
      refine wp_iconst d120_3 ic_5 ?_
      refine wp_icmp_geN d120_4 (by decide) (by omega) (by omega) (fun h4 => ?_) (fun hq => absurd hq (by omega))
      refine wp_iconst d120_41 ic_1 ?_
      refine wp_istore_1 d120_42 (Nat.le_of_ble_eq_true rfl) rfl ?_
      refine wp_iconst d120_43 ic_0 ?_
      refine wp_istore_2 d120_44 (Nat.le_of_ble_eq_true rfl) rfl ?_
      exact loop stN 0 od sr (by omega) hf hs
    | succ n ih =>
      intro k f1 f2 hk' g1 g2
      refine wp_iload_1 d120_2 ?_
      refine wp_iconst d120_3 ic_5 ?_
      refine wp_icmp_geN d120_4 (by decide) (by omega) (by omega) (fun hq => absurd hq (by omega)) (fun h4 => ?_)
      refine wp_aload_0 d120_7 ?_
      refine wp_getP d120_8 (Nat.le_of_ble_eq_true rfl) kM.1 rfl ?_
      refine wp_iload_1 d120_11 ?_
      refine wp_aload_0 d120_12 ?_
      refine wp_getP d120_13 (Nat.le_of_ble_eq_true rfl) kM.1 rfl ?_
      refine wp_iload_1 d120_16 ?_
      refine wp_aldP d120_17 (kM.2 _ (Nat.le_of_ble_eq_true rfl)) rfl (by omega) (by decide) ?_
      refine wp_astN d120_18 (kM.2 _ (Nat.le_of_ble_eq_true rfl)) rfl (by omega) (by decide) ?_
      refine wp_aload_0 d120_19 ?_
      refine wp_getP d120_20 (Nat.le_of_ble_eq_true rfl) kM.1 rfl ?_
      refine wp_iload_1 d120_23 ?_
      refine wp_aload_0 d120_24 ?_
      refine wp_getP d120_25 (Nat.le_of_ble_eq_true rfl) kM.1 rfl ?_
      refine wp_iconst d120_28 ic_3 ?_
      refine wp_iload_1 d120_29 ?_
      refine wp_imulN d120_30 ?_
      refine wp_iconst d120_31 ic_1 ?_
      refine wp_iaddN d120_32 ?_
      refine wp_aldP d120_33 (kM.2 _ (Nat.le_of_ble_eq_true rfl)) rfl (by omega) (by decide) ?_
      rw [rw_1]
      refine wp_astN d120_34 (kM.2 _ (Nat.le_of_ble_eq_true rfl)) rfl (by omega) (by decide) ?_
      refine wp_iinc_1 d120_35 (Nat.le_of_ble_eq_true rfl) rfl (inc1 _) ?_
      refine wp_goto d120_38 (by decide) ?_
      exact ih (k + 1) _ _ (by omega) (fun j hj => by unfold up; grind) (fun j hj => by unfold up; grind)
  refine ev_of (L := [(.ref m), .null, .null]) (by decide) rfl (Nat.le_of_ble_eq_true rfl) ?_
  refine wp_iconst d120_0 ic_0 ?_
  refine wp_istore_1 d120_1 (Nat.le_of_ble_eq_true rfl) rfl ?_
  exact lay 5 0 nf nl rfl (fun j hj => by omega) (fun j hj => by omega)

end S10_mo6b
