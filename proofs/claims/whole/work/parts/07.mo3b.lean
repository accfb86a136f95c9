section S07_mo3b
variable {σ : Sto} {m : Nat} {pm sta rdm st me tr mi slr wa cha bm bc bl bch ask sn ks kw kt km : Int32} {hsh : Int64} {apg ade afo aro ale afi anf anl awh aod abo aof ama asd akr akl akf akd ako : List Int32}

theorem m_canTread (kM : KM σ m) {w dp : Nat} {ki sr nf nl : Nat → Nat} {to : Nat → Option Nat} (h5 : w ≤ 5) (hf : ∀ p, p < w → nf p < w) (hk : ∀ v, v < w → ki v < 5) (hl : ∀ v, v < w → nl v < 1000) (hdp : dp < 100) : Ev 1 0 0 101 [.ref m, .int (nI dp)] (put σ m (m + 1) (mF m pm sta rdm st me tr mi slr (nI w) cha bm bc bl bch ask sn ks kw kt km hsh) (mA apg ade afo (arrI 15 (rw3 ki sr to)) ale afi (arr 5 nf) (arr 5 nl) awh aod abo aof ama asd akr akl akf akd ako)) (some (.int (bi (canN ki nf nl dp w)))) (put σ m (m + 1) (mF m pm sta rdm st me tr mi slr (nI w) cha bm bc bl bch ask sn ks kw kt km hsh) (mA apg ade afo (arrI 15 (rw3 ki sr to)) ale afi (arr 5 nf) (arr 5 nl) awh aod abo aof ama asd akr akl akf akd ako)) := by
  have loop : ∀ (n k : Nat) (x : Int32), k + n = w → x = bi (canN ki nf nl dp k) → WP 1 0 0 101 4 [.ref m, .int (nI dp), .int x, .int (nI k)] [] (put σ m (m + 1) (mF m pm sta rdm st me tr mi slr (nI w) cha bm bc bl bch ask sn ks kw kt km hsh) (mA apg ade afo (arrI 15 (rw3 ki sr to)) ale afi (arr 5 nf) (arr 5 nl) awh aod abo aof ama asd akr akl akf akd ako)) (some (.int (bi (canN ki nf nl dp w)))) (put σ m (m + 1) (mF m pm sta rdm st me tr mi slr (nI w) cha bm bc bl bch ask sn ks kw kt km hsh) (mA apg ade afo (arrI 15 (rw3 ki sr to)) ale afi (arr 5 nf) (arr 5 nl) awh aod abo aof ama asd akr akl akf akd ako)) := by
    intro n
    induction n with
    | zero =>
      intro k x hk' hx
      have e : k = w := by omega
      subst e
      subst hx
      refine wp_iload_3 d101_4 ?_
      refine wp_aload_0 d101_5 ?_
      refine wp_getP d101_6 (Nat.le_of_ble_eq_true rfl) kM.1 rfl ?_
      refine wp_icmp_geN d101_9 (by decide) (by omega) (by omega) (fun h9 => ?_) (fun hq => absurd hq (by omega))
      refine wp_iload_2 d101_52 ?_
      exact wp_zret d101_53 rfl (by first | exact nI_01 | exact nI_11 | exact bi_01 _) rfl rfl
    | succ n ih =>
      intro k x hk' hx
      subst hx
      have b1 := hf k (by omega)
      have b2 := hk (nf k) (by omega)
      have b3 := hl (nf k) (by omega)
      have b4 : k ≠ 0 → nf (k - 1) < 5 := fun z => by have := hf (k - 1) (by omega); omega
      have b5 : k ≠ 0 → ki (nf (k - 1)) < 5 := fun z => hk _ (hf (k - 1) (by omega))
      have b6 := payN_le (ki := ki) (fi := nf) (p := k) (dp := dp)
      refine wp_iload_3 d101_4 ?_
      refine wp_aload_0 d101_5 ?_
      refine wp_getP d101_6 (Nat.le_of_ble_eq_true rfl) kM.1 rfl ?_
      refine wp_icmp_geN d101_9 (by decide) (by omega) (by omega) (fun hq => absurd hq (by omega)) (fun h9 => ?_)
      refine wp_iload_2 d101_12 ?_
      refine wp_if_eqB d101_13 (by decide) (fun h13 => ?_) (fun h13 => ?_)
      · refine wp_iconst d101_44 ic_0 ?_
        refine wp_istore_2 d101_45 (Nat.le_of_ble_eq_true rfl) rfl ?_
        refine wp_iinc_3 d101_46 (Nat.le_of_ble_eq_true rfl) rfl (inc1 _) ?_
        refine wp_goto d101_49 (by decide) ?_
        exact ih (k + 1) _ (by omega) (by simp [canN, h13]; rfl)
      · refine wp_aload_0 d101_16 ?_
        refine wp_getP d101_17 (Nat.le_of_ble_eq_true rfl) kM.1 rfl ?_
        refine wp_aload_0 d101_20 ?_
        refine wp_getP d101_21 (Nat.le_of_ble_eq_true rfl) kM.1 rfl ?_
        refine wp_iload_3 d101_24 ?_
        refine wp_aldP d101_25 (kM.2 _ (Nat.le_of_ble_eq_true rfl)) rfl (by omega) (by decide) ?_
        refine wp_aldP d101_26 (kM.2 _ (Nat.le_of_ble_eq_true rfl)) rfl (by omega) (by decide) ?_
        refine wp_aload_0 d101_27 ?_
        refine wp_aload_0 d101_28 ?_
        refine wp_getP d101_29 (Nat.le_of_ble_eq_true rfl) kM.1 rfl ?_
        refine wp_iload_3 d101_32 ?_
        refine wp_iload_1 d101_33 ?_
        refine wp_V3r d101_34 kM.1 ((m_paysAtN kM (by omega) (by omega) b4 b2 b5 hdp)) (Nat.le_of_ble_eq_true rfl) (Nat.le_of_ble_eq_true rfl) ?_
        refine wp_icmp_ltN d101_37 (by decide) (by omega) (by omega) (fun h37 => ?_) (fun h37 => ?_)
        · refine wp_iconst d101_44 ic_0 ?_
          refine wp_istore_2 d101_45 (Nat.le_of_ble_eq_true rfl) rfl ?_
          refine wp_iinc_3 d101_46 (Nat.le_of_ble_eq_true rfl) rfl (inc1 _) ?_
          refine wp_goto d101_49 (by decide) ?_
          exact ih (k + 1) _ (by omega) (by simp [canN, show ¬ payN ki nf k dp ≤ nl (nf k) by omega]; rfl)
        · refine wp_iconst d101_40 ic_1 ?_
          refine wp_goto d101_41 (by decide) ?_
          refine wp_istore_2 d101_45 (Nat.le_of_ble_eq_true rfl) rfl ?_
          refine wp_iinc_3 d101_46 (Nat.le_of_ble_eq_true rfl) rfl (inc1 _) ?_
          refine wp_goto d101_49 (by decide) ?_
          exact ih (k + 1) _ (by omega) (by simp [canN, h13, h37]; rfl)
  refine ev_of (L := [(.ref m), (.int (nI dp)), .null, .null]) (by decide) rfl (Nat.le_of_ble_eq_true rfl) ?_
  refine wp_iconst d101_0 ic_1 ?_
  refine wp_istore_2 d101_1 (Nat.le_of_ble_eq_true rfl) rfl ?_
  refine wp_iconst d101_2 ic_0 ?_
  refine wp_istore_3 d101_3 (Nat.le_of_ble_eq_true rfl) rfl ?_
  exact loop w 0 _ (by omega) rfl
theorem m_treads (kM : KM σ m) {w dp : Nat} {ki sr nf nl : Nat → Nat} {to : Nat → Option Nat} (h5 : w ≤ 5) (hf : PF w nf) (hk : ∀ v, v < w → ki v < 5) (hc : canN ki nf nl dp w = true) (hdp : dp < 100) : Ev 1 0 0 102 [.ref m, .int (nI dp)] (put σ m (m + 1) (mF m pm sta rdm st me tr mi slr (nI w) cha bm bc bl bch ask sn ks kw kt km hsh) (mA apg ade afo (arrI 15 (rw3 ki sr to)) ale afi (arr 5 nf) (arr 5 nl) awh aod abo aof ama asd akr akl akf akd ako)) none (put σ m (m + 1) (mF m pm sta rdm st me tr mi slr (nI w) cha bm bc bl bch ask sn ks kw kt km hsh) (mA apg ade afo (arrI 15 (rw3 ki sr to)) ale afi (arr 5 nf) (arr 5 (trS ki nf dp nl w)) awh aod abo aof ama asd akr akl akf akd ako)) := by
  have loop : ∀ (n k : Nat), k + n = w → WP 1 0 0 102 2 [.ref m, .int (nI dp), .int (nI k)] [] (put σ m (m + 1) (mF m pm sta rdm st me tr mi slr (nI w) cha bm bc bl bch ask sn ks kw kt km hsh) (mA apg ade afo (arrI 15 (rw3 ki sr to)) ale afi (arr 5 nf) (arr 5 (trS ki nf dp nl k)) awh aod abo aof ama asd akr akl akf akd ako)) none (put σ m (m + 1) (mF m pm sta rdm st me tr mi slr (nI w) cha bm bc bl bch ask sn ks kw kt km hsh) (mA apg ade afo (arrI 15 (rw3 ki sr to)) ale afi (arr 5 nf) (arr 5 (trS ki nf dp nl w)) awh aod abo aof ama asd akr akl akf akd ako)) := by
    intro n
    induction n with
    | zero =>
      intro k hk'
      have e : k = w := by omega
      subst e
      refine wp_iload_2 d102_2 ?_
      refine wp_aload_0 d102_3 ?_
      refine wp_getP d102_4 (Nat.le_of_ble_eq_true rfl) kM.1 rfl ?_
      refine wp_icmp_geN d102_7 (by decide) (by omega) (by omega) (fun h7 => ?_) (fun hq => absurd hq (by omega))
      exact wp_vret d102_40 rfl rfl rfl
    | succ n ih =>
      intro k hk'
      have b1 := hf.1 k (by omega)
      have b2 := hk (nf k) (by omega)
      have b4 : k ≠ 0 → nf (k - 1) < 5 := fun z => by have := hf.1 (k - 1) (by omega); omega
      have b5 : k ≠ 0 → ki (nf (k - 1)) < 5 := fun z => hk _ (hf.1 (k - 1) (by omega))
      have b6 := canN_at hc (show k < w by omega)
      have b7 : trS ki nf dp nl k (nf k) = nl (nf k) := trS_out (fun p hp z => by have := hf.2.1 p k (by omega) (by omega) z; omega)
      refine wp_iload_2 d102_2 ?_
      refine wp_aload_0 d102_3 ?_
      refine wp_getP d102_4 (Nat.le_of_ble_eq_true rfl) kM.1 rfl ?_
      refine wp_icmp_geN d102_7 (by decide) (by omega) (by omega) (fun hq => absurd hq (by omega)) (fun h7 => ?_)
      refine wp_aload_0 d102_10 ?_
      refine wp_getP d102_11 (Nat.le_of_ble_eq_true rfl) kM.1 rfl ?_
      refine wp_aload_0 d102_14 ?_
      refine wp_getP d102_15 (Nat.le_of_ble_eq_true rfl) kM.1 rfl ?_
      refine wp_iload_2 d102_18 ?_
      refine wp_aldP d102_19 (kM.2 _ (Nat.le_of_ble_eq_true rfl)) rfl (by omega) (by decide) ?_
      refine wp_dup2 d102_20 rfl rfl ?_
      refine wp_aldP d102_21 (kM.2 _ (Nat.le_of_ble_eq_true rfl)) rfl (by omega) (by decide) ?_
      refine wp_aload_0 d102_22 ?_
      refine wp_aload_0 d102_23 ?_
      refine wp_getP d102_24 (Nat.le_of_ble_eq_true rfl) kM.1 rfl ?_
      refine wp_iload_2 d102_27 ?_
      refine wp_iload_1 d102_28 ?_
      refine wp_V3r d102_29 kM.1 ((m_paysAtN kM (by omega) (by omega) b4 b2 b5 hdp)) (Nat.le_of_ble_eq_true rfl) (Nat.le_of_ble_eq_true rfl) ?_
      refine wp_isubN d102_32 (by omega) ?_
      refine wp_astN d102_33 (kM.2 _ (Nat.le_of_ble_eq_true rfl)) rfl (by omega) (by decide) ?_
      refine wp_iinc_2 d102_34 (Nat.le_of_ble_eq_true rfl) rfl (inc1 _) ?_
      refine wp_goto d102_37 (by decide) ?_
      exact ih (k + 1) (by omega)
  refine ev_of (L := [(.ref m), (.int (nI dp)), .null]) (by decide) rfl (Nat.le_of_ble_eq_true rfl) ?_
  refine wp_iconst d102_0 ic_0 ?_
  refine wp_istore_2 d102_1 (Nat.le_of_ble_eq_true rfl) rfl ?_
  exact loop w 0 (by omega)
theorem m_leastLeft (kM : KM σ m) {w : Nat} {nl : Nat → Nat} (h5 : w ≤ 5) (hl : ∀ v, v < w → nl v < 1000) : Ev 0 0 0 103 [.ref m] (put σ m (m + 1) (mF m pm sta rdm st me tr mi slr (nI w) cha bm bc bl bch ask sn ks kw kt km hsh) (mA apg ade afo aro ale afi anf (arr 5 nl) awh aod abo aof ama asd akr akl akf akd ako)) (some (.int (nI (mnN nl 100 w)))) (put σ m (m + 1) (mF m pm sta rdm st me tr mi slr (nI w) cha bm bc bl bch ask sn ks kw kt km hsh) (mA apg ade afo aro ale afi anf (arr 5 nl) awh aod abo aof ama asd akr akl akf akd ako)) := by
  have loop : ∀ (n k : Nat), k + n = w → WP 0 0 0 103 5 [.ref m, .int (nI (mnN nl 100 k)), .int (nI k)] [] (put σ m (m + 1) (mF m pm sta rdm st me tr mi slr (nI w) cha bm bc bl bch ask sn ks kw kt km hsh) (mA apg ade afo aro ale afi anf (arr 5 nl) awh aod abo aof ama asd akr akl akf akd ako)) (some (.int (nI (mnN nl 100 w)))) (put σ m (m + 1) (mF m pm sta rdm st me tr mi slr (nI w) cha bm bc bl bch ask sn ks kw kt km hsh) (mA apg ade afo aro ale afi anf (arr 5 nl) awh aod abo aof ama asd akr akl akf akd ako)) := by
    intro n
    induction n with
    | zero =>
      intro k hk'
      have e : k = w := by omega
      subst e
      refine wp_iload_2 d103_5 ?_
      refine wp_aload_0 d103_6 ?_
      refine wp_getP d103_7 (Nat.le_of_ble_eq_true rfl) kM.1 rfl ?_
      refine wp_icmp_geN d103_10 (by decide) (by omega) (by omega) (fun h10 => ?_) (fun hq => absurd hq (by omega))
      refine wp_iload_1 d103_40 ?_
      exact wp_iret d103_41 rfl rfl rfl
    | succ n ih =>
      intro k hk'
      have b1 := hl k (by omega)
      have b2 := mnN_le nl 100 k
      refine wp_iload_2 d103_5 ?_
      refine wp_aload_0 d103_6 ?_
      refine wp_getP d103_7 (Nat.le_of_ble_eq_true rfl) kM.1 rfl ?_
      refine wp_icmp_geN d103_10 (by decide) (by omega) (by omega) (fun hq => absurd hq (by omega)) (fun h10 => ?_)
      refine wp_aload_0 d103_13 ?_
      refine wp_getP d103_14 (Nat.le_of_ble_eq_true rfl) kM.1 rfl ?_
      refine wp_iload_2 d103_17 ?_
      refine wp_aldP d103_18 (kM.2 _ (Nat.le_of_ble_eq_true rfl)) rfl (by omega) (by decide) ?_
      refine wp_iload_1 d103_19 ?_
      refine wp_icmp_geN d103_20 (by decide) (by omega) (by omega) (fun h20 => ?_) (fun h20 => ?_)
      · refine wp_iload_1 d103_32 ?_
        refine wp_istore_1 d103_33 (Nat.le_of_ble_eq_true rfl) rfl ?_
        refine wp_iinc_2 d103_34 (Nat.le_of_ble_eq_true rfl) rfl (inc1 _) ?_
        refine wp_goto d103_37 (by decide) ?_
        have := ih (k + 1) (by omega)
        rw [show mnN nl 100 (k + 1) = mnN nl 100 k by simp [mnN]; omega] at this
        exact this
      · refine wp_aload_0 d103_23 ?_
        refine wp_getP d103_24 (Nat.le_of_ble_eq_true rfl) kM.1 rfl ?_
        refine wp_iload_2 d103_27 ?_
        refine wp_aldP d103_28 (kM.2 _ (Nat.le_of_ble_eq_true rfl)) rfl (by omega) (by decide) ?_
        refine wp_goto d103_29 (by decide) ?_
        refine wp_istore_1 d103_33 (Nat.le_of_ble_eq_true rfl) rfl ?_
        refine wp_iinc_2 d103_34 (Nat.le_of_ble_eq_true rfl) rfl (inc1 _) ?_
        refine wp_goto d103_37 (by decide) ?_
        have := ih (k + 1) (by omega)
        rw [show mnN nl 100 (k + 1) = nl k by simp [mnN]; omega] at this
        exact this
  refine ev_of (L := [(.ref m), .null, .null]) (by decide) rfl (Nat.le_of_ble_eq_true rfl) ?_
  refine wp_bipush d103_0 bi_100 ?_
  refine wp_istore_1 d103_2 (Nat.le_of_ble_eq_true rfl) rfl ?_
  refine wp_iconst d103_3 ic_0 ?_
  refine wp_istore_2 d103_4 (Nat.le_of_ble_eq_true rfl) rfl ?_
  exact loop w 0 (by omega)
theorem m_restsNow (kM : KM σ m) {w : Nat} {ki sr nl : Nat → Nat} {to : Nat → Option Nat} (h5 : w ≤ 5) (hl : ∀ v, v < w → nl v < 1000) (hs : ∀ v, v < w → sr v < 1000) : Ev 0 0 0 106 [.ref m] (put σ m (m + 1) (mF m pm sta rdm st me tr mi slr (nI w) cha bm bc bl bch ask sn ks kw kt km hsh) (mA apg ade afo (arrI 15 (rw3 ki sr to)) ale afi anf (arr 5 nl) awh aod abo aof ama asd akr akl akf akd ako)) (some (.int (nI (rcN sr nl w)))) (put σ m (m + 1) (mF m pm sta rdm st me tr mi slr (nI w) cha bm bc bl bch ask sn ks kw kt km hsh) (mA apg ade afo (arrI 15 (rw3 ki sr to)) ale afi anf (arr 5 (rsN w sr nl)) awh aod abo aof ama asd akr akl akf akd ako)) := by
  have loop : ∀ (n k : Nat) (f : Nat → Nat) (u : Value), k + n = w → (∀ v, f v = if v < k ∧ nl v < sr v then nl v + 1 else nl v) → WP 0 0 0 106 4 [.ref m, .int (nI (rcN sr nl k)), .int (nI k), u] [] (put σ m (m + 1) (mF m pm sta rdm st me tr mi slr (nI w) cha bm bc bl bch ask sn ks kw kt km hsh) (mA apg ade afo (arrI 15 (rw3 ki sr to)) ale afi anf (arr 5 f) awh aod abo aof ama asd akr akl akf akd ako)) (some (.int (nI (rcN sr nl w)))) (put σ m (m + 1) (mF m pm sta rdm st me tr mi slr (nI w) cha bm bc bl bch ask sn ks kw kt km hsh) (mA apg ade afo (arrI 15 (rw3 ki sr to)) ale afi anf (arr 5 (rsN w sr nl)) awh aod abo aof ama asd akr akl akf akd ako)) := by
    intro n
    induction n with
    | zero =>
      intro k f u hk' hf
      have e : k = w := by omega
      subst e
      rw [show rsN k sr nl = f by funext v; rw [hf]; rfl]
      refine wp_iload_2 d106_4 ?_
      refine wp_aload_0 d106_5 ?_
      refine wp_getP d106_6 (Nat.le_of_ble_eq_true rfl) kM.1 rfl ?_
      refine wp_icmp_geN d106_9 (by decide) (by omega) (by omega) (fun h9 => ?_) (fun hq => absurd hq (by omega))
      refine wp_iload_1 d106_73 ?_
      exact wp_iret d106_74 rfl rfl rfl
    | succ n ih =>
      intro k f u hk' hf
      have b1 := hl k (by omega)
      have b2 := hs k (by omega)
      have b3 : f k = nl k := by rw [hf]; simp
      have b4 := rcN_le sr nl k
      refine wp_iload_2 d106_4 ?_
      refine wp_aload_0 d106_5 ?_
      refine wp_getP d106_6 (Nat.le_of_ble_eq_true rfl) kM.1 rfl ?_
      refine wp_icmp_geN d106_9 (by decide) (by omega) (by omega) (fun hq => absurd hq (by omega)) (fun h9 => ?_)
      refine wp_aload_0 d106_12 ?_
      refine wp_getP d106_13 (Nat.le_of_ble_eq_true rfl) kM.1 rfl ?_
      refine wp_iload_2 d106_16 ?_
      refine wp_aldP d106_17 (kM.2 _ (Nat.le_of_ble_eq_true rfl)) rfl (by omega) (by decide) ?_
      refine wp_aload_0 d106_18 ?_
      refine wp_getP d106_19 (Nat.le_of_ble_eq_true rfl) kM.1 rfl ?_
      refine wp_iconst d106_22 ic_3 ?_
      refine wp_iload_2 d106_23 ?_
      refine wp_imulN d106_24 ?_
      refine wp_iconst d106_25 ic_1 ?_
      refine wp_iaddN d106_26 ?_
      refine wp_aldP d106_27 (kM.2 _ (Nat.le_of_ble_eq_true rfl)) rfl (by omega) (by decide) ?_
      rw [rw_1, b3]
      refine wp_icmp_geN d106_28 (by decide) (by omega) (by omega) (fun h28 => ?_) (fun h28 => ?_)
      · refine wp_iconst d106_35 ic_0 ?_
        refine wp_istore_3 d106_36 (Nat.le_of_ble_eq_true rfl) rfl ?_
        refine wp_aload_0 d106_37 ?_
        refine wp_getP d106_38 (Nat.le_of_ble_eq_true rfl) kM.1 rfl ?_
        refine wp_iload_2 d106_41 ?_
        refine wp_dup2 d106_42 rfl rfl ?_
        refine wp_aldP d106_43 (kM.2 _ (Nat.le_of_ble_eq_true rfl)) rfl (by omega) (by decide) ?_
        refine wp_iload_3 d106_44 ?_
        refine wp_if_eqN d106_45 (by decide) (by omega) (fun h45 => ?_) (fun hq => absurd hq (by omega))
        refine wp_iconst d106_52 ic_0 ?_
        refine wp_iaddN d106_53 ?_
        refine wp_astN d106_54 (kM.2 _ (Nat.le_of_ble_eq_true rfl)) rfl (by omega) (by decide) ?_
        refine wp_iload_1 d106_55 ?_
        refine wp_iload_3 d106_56 ?_
        refine wp_if_eqN d106_57 (by decide) (by omega) (fun h57 => ?_) (fun hq => absurd hq (by omega))
        refine wp_iconst d106_64 ic_0 ?_
        refine wp_iaddN d106_65 ?_
        refine wp_istore_1 d106_66 (Nat.le_of_ble_eq_true rfl) rfl ?_
        refine wp_iinc_2 d106_67 (Nat.le_of_ble_eq_true rfl) rfl (inc1 _) ?_
        refine wp_goto d106_70 (by decide) ?_
        rw [show rcN sr nl k + 0 = rcN sr nl (k + 1) by simp [rcN]; omega]
        refine ih (k + 1) _ _ (by omega) (fun v => ?_)
        unfold up
        rw [hf v, hf k]
        grind
      · refine wp_iconst d106_31 ic_1 ?_
        refine wp_goto d106_32 (by decide) ?_
        refine wp_istore_3 d106_36 (Nat.le_of_ble_eq_true rfl) rfl ?_
        refine wp_aload_0 d106_37 ?_
        refine wp_getP d106_38 (Nat.le_of_ble_eq_true rfl) kM.1 rfl ?_
        refine wp_iload_2 d106_41 ?_
        refine wp_dup2 d106_42 rfl rfl ?_
        refine wp_aldP d106_43 (kM.2 _ (Nat.le_of_ble_eq_true rfl)) rfl (by omega) (by decide) ?_
        refine wp_iload_3 d106_44 ?_
        refine wp_if_eqN d106_45 (by decide) (by omega) (fun hq => absurd hq (by omega)) (fun h45 => ?_)
        refine wp_iconst d106_48 ic_1 ?_
        refine wp_goto d106_49 (by decide) ?_
        refine wp_iaddN d106_53 ?_
        refine wp_astN d106_54 (kM.2 _ (Nat.le_of_ble_eq_true rfl)) rfl (by omega) (by decide) ?_
        refine wp_iload_1 d106_55 ?_
        refine wp_iload_3 d106_56 ?_
        refine wp_if_eqN d106_57 (by decide) (by omega) (fun hq => absurd hq (by omega)) (fun h57 => ?_)
        refine wp_iconst d106_60 ic_1 ?_
        refine wp_goto d106_61 (by decide) ?_
        refine wp_iaddN d106_65 ?_
        refine wp_istore_1 d106_66 (Nat.le_of_ble_eq_true rfl) rfl ?_
        refine wp_iinc_2 d106_67 (Nat.le_of_ble_eq_true rfl) rfl (inc1 _) ?_
        refine wp_goto d106_70 (by decide) ?_
        rw [show rcN sr nl k + 1 = rcN sr nl (k + 1) by simp [rcN]; omega]
        refine ih (k + 1) _ _ (by omega) (fun v => ?_)
        unfold up
        rw [hf v, hf k]
        grind
  refine ev_of (L := [(.ref m), .null, .null, .null]) (by decide) rfl (Nat.le_of_ble_eq_true rfl) ?_
  refine wp_iconst d106_0 ic_0 ?_
  refine wp_istore_1 d106_1 (Nat.le_of_ble_eq_true rfl) rfl ?_
  refine wp_iconst d106_2 ic_0 ?_
  refine wp_istore_2 d106_3 (Nat.le_of_ble_eq_true rfl) rfl ?_
  exact loop w 0 nl _ (by omega) (fun v => by simp)
theorem m_depthsLeft (kM : KM σ m) {trN stN : Nat} {de : Nat → Nat} (h1 : trN ≤ stN) (h6 : stN ≤ 6) : Ev 0 0 0 108 [.ref m] (put σ m (m + 1) (mF m pm sta rdm (nI stN) me (nI trN) mi slr wa cha bm bc bl bch ask sn ks kw kt km hsh) (mA apg (arr 6 de) afo aro ale afi anf anl awh aod abo aof ama asd akr akl akf akd ako)) (some (.int (nI (smN de trN (stN - trN))))) (put σ m (m + 1) (mF m pm sta rdm (nI stN) me (nI trN) mi slr wa cha bm bc bl bch ask sn ks kw kt km hsh) (mA apg (arr 6 de) afo aro ale afi anf anl awh aod abo aof ama asd akr akl akf akd ako)) := by
  have loop : ∀ (n k : Nat), trN + k + n = stN → WP 0 0 0 108 7 [.ref m, .int (nI (smN de trN k)), .int (nI (trN + k))] [] (put σ m (m + 1) (mF m pm sta rdm (nI stN) me (nI trN) mi slr wa cha bm bc bl bch ask sn ks kw kt km hsh) (mA apg (arr 6 de) afo aro ale afi anf anl awh aod abo aof ama asd akr akl akf akd ako)) (some (.int (nI (smN de trN (stN - trN))))) (put σ m (m + 1) (mF m pm sta rdm (nI stN) me (nI trN) mi slr wa cha bm bc bl bch ask sn ks kw kt km hsh) (mA apg (arr 6 de) afo aro ale afi anf anl awh aod abo aof ama asd akr akl akf akd ako)) := by
    intro n
    induction n with
    | zero =>
      intro k hk'
      have e : stN - trN = k := by omega
      rw [e]
      refine wp_iload_2 d108_7 ?_
      refine wp_aload_0 d108_8 ?_
      refine wp_getP d108_9 (Nat.le_of_ble_eq_true rfl) kM.1 rfl ?_
      refine wp_icmp_geN d108_12 (by decide) (by omega) (by omega) (fun h12 => ?_) (fun hq => absurd hq (by omega))
      refine wp_iload_1 d108_30 ?_
      exact wp_iret d108_31 rfl rfl rfl
    | succ n ih =>
      intro k hk'
      refine wp_iload_2 d108_7 ?_
      refine wp_aload_0 d108_8 ?_
      refine wp_getP d108_9 (Nat.le_of_ble_eq_true rfl) kM.1 rfl ?_
      refine wp_icmp_geN d108_12 (by decide) (by omega) (by omega) (fun hq => absurd hq (by omega)) (fun h12 => ?_)
      refine wp_iload_1 d108_15 ?_
      refine wp_aload_0 d108_16 ?_
      refine wp_getP d108_17 (Nat.le_of_ble_eq_true rfl) kM.1 rfl ?_
      refine wp_iload_2 d108_20 ?_
      refine wp_aldP d108_21 (kM.2 _ (Nat.le_of_ble_eq_true rfl)) rfl (by omega) (by decide) ?_
      refine wp_iaddN d108_22 ?_
      refine wp_istore_1 d108_23 (Nat.le_of_ble_eq_true rfl) rfl ?_
      refine wp_iinc_2 d108_24 (Nat.le_of_ble_eq_true rfl) rfl (inc1 _) ?_
      refine wp_goto d108_27 (by decide) ?_
      exact ih (k + 1) (by omega)
  refine ev_of (L := [(.ref m), .null, .null]) (by decide) rfl (Nat.le_of_ble_eq_true rfl) ?_
  refine wp_iconst d108_0 ic_0 ?_
  refine wp_istore_1 d108_1 (Nat.le_of_ble_eq_true rfl) rfl ?_
  refine wp_aload_0 d108_2 ?_
  refine wp_getP d108_3 (Nat.le_of_ble_eq_true rfl) kM.1 rfl ?_
  refine wp_istore_2 d108_6 (Nat.le_of_ble_eq_true rfl) rfl ?_
  exact loop (stN - trN) 0 (by omega)
theorem m_snow (kM : KM σ m) {trN stN : Nat} {de : Nat → Nat} (h1 : trN ≤ stN) (h6 : stN ≤ 6) (hd : ∀ k, k < stN → de k < 100) (x : Int32) : Ev 1 0 0 109 [.ref m, .int x] (put σ m (m + 1) (mF m pm sta rdm (nI stN) me (nI trN) mi slr wa cha bm bc bl bch ask sn ks kw kt km hsh) (mA apg (arr 6 de) afo aro ale afi anf anl awh aod abo aof ama asd akr akl akf akd ako)) (some (.int (if inB x 0 9 then (if stN = 0 then -103 else nI (smN (snN trN stN x.toInt.toNat de) trN (stN - trN))) else -102))) (put σ m (m + 1) (mF m pm sta rdm (nI stN) me (nI trN) mi slr wa cha bm bc bl bch ask sn ks kw kt km hsh) (mA apg (arr 6 (if inB x 0 9 then snN trN stN x.toInt.toNat de else de)) afo aro ale afi anf anl awh aod abo aof ama asd akr akl akf akd ako)) := by
  refine ev_of (L := [(.ref m), (.int x), .null]) (by decide) rfl (Nat.le_of_ble_eq_true rfl) ?_
  refine wp_iload_1 d109_0 ?_
  refine wp_i2l d109_1 ?_
  refine wp_lconst d109_2 (v := lN 0) rfl ?_
  refine wp_ldc2 d109_3 (by decide) rfl lk_9 ?_
  refine wp_S3r d109_6 rfl ((m_in x (a := 0) (b := 9) (by decide) (by decide))) (Nat.le_of_ble_eq_true rfl) (Nat.le_of_ble_eq_true rfl) ?_
  refine wp_if_neB d109_9 (by decide) (fun h9 => ?_) (fun h9 => ?_)
  · rw [h9, if_pos rfl, if_pos rfl]
    rw [inB_t] at h9
    obtain ⟨dp, hdp, rfl⟩ : ∃ j : Nat, j ≤ 9 ∧ x = nI j := ⟨x.toInt.toNat, by omega, nI_to h9.1⟩
    rw [show (nI dp).toInt.toNat = dp by rw [nI_toInt (by omega)]; rfl]
    refine wp_aload_0 d109_15 ?_
    refine wp_V0r d109_16 kM.1 ((m_lacks kM h6)) (Nat.le_of_ble_eq_true rfl) (Nat.le_of_ble_eq_true rfl) ?_
    refine wp_if_eqB d109_19 (by decide) (fun h19 => ?_) (fun h19 => ?_)
    · have h19 : ¬ stN = 0 := by simpa using h19
      rw [if_neg h19]
      have loop : ∀ (n k : Nat) (f : Nat → Nat), k + n = stN → trN ≤ k → (∀ j, f j = if trN ≤ j ∧ j < k then (if 9 < de j + dp then 9 else de j + dp) else de j) → WP 1 0 0 109 30 [.ref m, .int (nI dp), .int (nI k)] [] (put σ m (m + 1) (mF m pm sta rdm (nI stN) me (nI trN) mi slr wa cha bm bc bl bch ask sn ks kw kt km hsh) (mA apg (arr 6 f) afo aro ale afi anf anl awh aod abo aof ama asd akr akl akf akd ako)) (some (.int (nI (smN (snN trN stN dp de) trN (stN - trN))))) (put σ m (m + 1) (mF m pm sta rdm (nI stN) me (nI trN) mi slr wa cha bm bc bl bch ask sn ks kw kt km hsh) (mA apg (arr 6 (snN trN stN dp de)) afo aro ale afi anf anl awh aod abo aof ama asd akr akl akf akd ako)) := by
        intro n
        induction n with
        | zero =>
          intro k f hk' ht hf
          have e : k = stN := by omega
          subst e
          rw [show snN trN k dp de = f by funext j; rw [hf]; rfl]
          refine wp_iload_2 d109_30 ?_
          refine wp_aload_0 d109_31 ?_
          refine wp_getP d109_32 (Nat.le_of_ble_eq_true rfl) kM.1 rfl ?_
          refine wp_icmp_geN d109_35 (by decide) (by omega) (by omega) (fun h35 => ?_) (fun hq => absurd hq (by omega))
          refine wp_aload_0 d109_76 ?_
          refine wp_V0r d109_77 kM.1 ((m_depthsLeft kM (by omega) h6)) (Nat.le_of_ble_eq_true rfl) (Nat.le_of_ble_eq_true rfl) ?_
          exact wp_iret d109_80 rfl rfl rfl
        | succ n ih =>
          intro k f hk' ht hf
          have b1 := hd k (by omega)
          have b2 : f k = de k := by rw [hf]; simp
          refine wp_iload_2 d109_30 ?_
          refine wp_aload_0 d109_31 ?_
          refine wp_getP d109_32 (Nat.le_of_ble_eq_true rfl) kM.1 rfl ?_
          refine wp_icmp_geN d109_35 (by decide) (by omega) (by omega) (fun hq => absurd hq (by omega)) (fun h35 => ?_)
          refine wp_aload_0 d109_38 ?_
          refine wp_getP d109_39 (Nat.le_of_ble_eq_true rfl) kM.1 rfl ?_
          refine wp_iload_2 d109_42 ?_
          refine wp_aload_0 d109_43 ?_
          refine wp_getP d109_44 (Nat.le_of_ble_eq_true rfl) kM.1 rfl ?_
          refine wp_iload_2 d109_47 ?_
          refine wp_aldP d109_48 (kM.2 _ (Nat.le_of_ble_eq_true rfl)) rfl (by omega) (by decide) ?_
          rw [b2]
          refine wp_iload_1 d109_49 ?_
          refine wp_iaddN d109_50 ?_
          refine wp_bipush d109_51 bi_9 ?_
          refine wp_icmp_leN d109_53 (by decide) (by omega) (by omega) (fun h53 => ?_) (fun h53 => ?_)
          · refine wp_aload_0 d109_61 ?_
            refine wp_getP d109_62 (Nat.le_of_ble_eq_true rfl) kM.1 rfl ?_
            refine wp_iload_2 d109_65 ?_
            refine wp_aldP d109_66 (kM.2 _ (Nat.le_of_ble_eq_true rfl)) rfl (by omega) (by decide) ?_
            refine wp_iload_1 d109_67 ?_
            refine wp_iaddN d109_68 ?_
            refine wp_astN d109_69 (kM.2 _ (Nat.le_of_ble_eq_true rfl)) rfl (by omega) (by decide) ?_
            refine wp_iinc_2 d109_70 (Nat.le_of_ble_eq_true rfl) rfl (inc1 _) ?_
            refine wp_goto d109_73 (by decide) ?_
            refine ih (k + 1) _ (by omega) (by omega) (fun j => ?_)
            unfold up
            rw [hf j, b2]
            grind
          · refine wp_bipush d109_56 bi_9 ?_
            refine wp_goto d109_58 (by decide) ?_
            refine wp_astN d109_69 (kM.2 _ (Nat.le_of_ble_eq_true rfl)) rfl (by omega) (by decide) ?_
            refine wp_iinc_2 d109_70 (Nat.le_of_ble_eq_true rfl) rfl (inc1 _) ?_
            refine wp_goto d109_73 (by decide) ?_
            refine ih (k + 1) _ (by omega) (by omega) (fun j => ?_)
            unfold up
            rw [hf j]
            grind
      refine wp_aload_0 d109_25 ?_
      refine wp_getP d109_26 (Nat.le_of_ble_eq_true rfl) kM.1 rfl ?_
      refine wp_istore_2 d109_29 (Nat.le_of_ble_eq_true rfl) rfl ?_
      exact loop (stN - trN) trN de (by omega) (by omega) (fun j => by grind)
    · have h19 : stN = 0 := by simpa using h19
      rw [if_pos h19, show snN trN stN dp de = de by funext j; simp [snN]; omega]
      refine wp_bipush d109_22 bi_m103 ?_
      exact wp_iret d109_24 rfl rfl rfl
  · rw [h9, if_neg (by decide), if_neg (by decide)]
    refine wp_bipush d109_12 bi_m102 ?_
    exact wp_iret d109_14 rfl rfl rfl
theorem m_sun (kM : KM σ m) {trN stN meN : Nat} {de : Nat → Nat} (h1 : trN ≤ stN) (h6 : stN ≤ 6) (hd : ∀ k, k < stN → de k < 100) (hm : meN < 100) : Ev 1 0 0 110 [.ref m] (put σ m (m + 1) (mF m pm sta rdm (nI stN) (nI meN) (nI trN) mi slr wa cha bm bc bl bch ask sn ks kw kt km hsh) (mA apg (arr 6 de) afo aro ale afi anf anl awh aod abo aof ama asd akr akl akf akd ako)) (some (.int (if stN = 0 then -103 else nI (smN (suN trN stN meN de) trN (stN - trN))))) (put σ m (m + 1) (mF m pm sta rdm (nI stN) (nI meN) (nI trN) mi slr wa cha bm bc bl bch ask sn ks kw kt km hsh) (mA apg (arr 6 (suN trN stN meN de)) afo aro ale afi anf anl awh aod abo aof ama asd akr akl akf akd ako)) := by
  refine ev_of (L := [(.ref m), .null]) (by decide) rfl (Nat.le_of_ble_eq_true rfl) ?_
  refine wp_aload_0 d110_0 ?_
  refine wp_V0r d110_1 kM.1 ((m_lacks kM h6)) (Nat.le_of_ble_eq_true rfl) (Nat.le_of_ble_eq_true rfl) ?_
  refine wp_if_eqB d110_4 (by decide) (fun h4 => ?_) (fun h4 => ?_)
  · have h19 : ¬ stN = 0 := by simpa using h4
    rw [if_neg h19]
    have loop : ∀ (n k : Nat) (f : Nat → Nat), k + n = stN → trN ≤ k → (∀ j, f j = if trN ≤ j ∧ j < k then (if de j < meN then 0 else de j - meN) else de j) → WP 1 0 0 110 15 [.ref m, .int (nI k)] [] (put σ m (m + 1) (mF m pm sta rdm (nI stN) (nI meN) (nI trN) mi slr wa cha bm bc bl bch ask sn ks kw kt km hsh) (mA apg (arr 6 f) afo aro ale afi anf anl awh aod abo aof ama asd akr akl akf akd ako)) (some (.int (nI (smN (suN trN stN meN de) trN (stN - trN))))) (put σ m (m + 1) (mF m pm sta rdm (nI stN) (nI meN) (nI trN) mi slr wa cha bm bc bl bch ask sn ks kw kt km hsh) (mA apg (arr 6 (suN trN stN meN de)) afo aro ale afi anf anl awh aod abo aof ama asd akr akl akf akd ako)) := by
      intro n
      induction n with
      | zero =>
        intro k f hk' ht hf
        have e : k = stN := by omega
        subst e
        rw [show suN trN k meN de = f by funext j; rw [hf]; rfl]
        refine wp_iload_1 d110_15 ?_
        refine wp_aload_0 d110_16 ?_
        refine wp_getP d110_17 (Nat.le_of_ble_eq_true rfl) kM.1 rfl ?_
        refine wp_icmp_geN d110_20 (by decide) (by omega) (by omega) (fun h20 => ?_) (fun hq => absurd hq (by omega))
        refine wp_aload_0 d110_63 ?_
        refine wp_V0r d110_64 kM.1 ((m_depthsLeft kM (by omega) h6)) (Nat.le_of_ble_eq_true rfl) (Nat.le_of_ble_eq_true rfl) ?_
        exact wp_iret d110_67 rfl rfl rfl
      | succ n ih =>
        intro k f hk' ht hf
        have b1 := hd k (by omega)
        have b2 : f k = de k := by rw [hf]; simp
        refine wp_iload_1 d110_15 ?_
        refine wp_aload_0 d110_16 ?_
        refine wp_getP d110_17 (Nat.le_of_ble_eq_true rfl) kM.1 rfl ?_
        refine wp_icmp_geN d110_20 (by decide) (by omega) (by omega) (fun hq => absurd hq (by omega)) (fun h20 => ?_)
        refine wp_aload_0 d110_23 ?_
        refine wp_getP d110_24 (Nat.le_of_ble_eq_true rfl) kM.1 rfl ?_
        refine wp_iload_1 d110_27 ?_
        refine wp_aload_0 d110_28 ?_
        refine wp_getP d110_29 (Nat.le_of_ble_eq_true rfl) kM.1 rfl ?_
        refine wp_iload_1 d110_32 ?_
        refine wp_aldP d110_33 (kM.2 _ (Nat.le_of_ble_eq_true rfl)) rfl (by omega) (by decide) ?_
        rw [b2]
        refine wp_aload_0 d110_34 ?_
        refine wp_getP d110_35 (Nat.le_of_ble_eq_true rfl) kM.1 rfl ?_
        refine wp_icmp_geN d110_38 (by decide) (by omega) (by omega) (fun h38 => ?_) (fun h38 => ?_)
        · refine wp_aload_0 d110_45 ?_
          refine wp_getP d110_46 (Nat.le_of_ble_eq_true rfl) kM.1 rfl ?_
          refine wp_iload_1 d110_49 ?_
          refine wp_aldP d110_50 (kM.2 _ (Nat.le_of_ble_eq_true rfl)) rfl (by omega) (by decide) ?_
          rw [b2]
          refine wp_aload_0 d110_51 ?_
          refine wp_getP d110_52 (Nat.le_of_ble_eq_true rfl) kM.1 rfl ?_
          refine wp_isubN d110_55 (by omega) ?_
          refine wp_astN d110_56 (kM.2 _ (Nat.le_of_ble_eq_true rfl)) rfl (by omega) (by decide) ?_
          refine wp_iinc_1 d110_57 (Nat.le_of_ble_eq_true rfl) rfl (inc1 _) ?_
          refine wp_goto d110_60 (by decide) ?_
          refine ih (k + 1) _ (by omega) (by omega) (fun j => ?_)
          unfold up
          rw [hf j]
          grind
        · refine wp_iconst d110_41 ic_0 ?_
          refine wp_goto d110_42 (by decide) ?_
          refine wp_astN d110_56 (kM.2 _ (Nat.le_of_ble_eq_true rfl)) rfl (by omega) (by decide) ?_
          refine wp_iinc_1 d110_57 (Nat.le_of_ble_eq_true rfl) rfl (inc1 _) ?_
          refine wp_goto d110_60 (by decide) ?_
          refine ih (k + 1) _ (by omega) (by omega) (fun j => ?_)
          unfold up
          rw [hf j]
          grind
    refine wp_aload_0 d110_10 ?_
    refine wp_getP d110_11 (Nat.le_of_ble_eq_true rfl) kM.1 rfl ?_
    refine wp_istore_1 d110_14 (Nat.le_of_ble_eq_true rfl) rfl ?_
    exact loop (stN - trN) trN de (by omega) (by omega) (fun j => by grind)
  · have h19 : stN = 0 := by simpa using h4
    rw [if_pos h19, show suN trN stN meN de = de by funext j; simp [suN]; omega]
    refine wp_bipush d110_7 bi_m103 ?_
    exact wp_iret d110_9 rfl rfl rfl
theorem m_ways (kM : KM σ m) {trN stN w : Nat} (h1 : trN ≤ stN) (h6 : stN ≤ 6) : Ev 0 0 0 111 [.ref m] (put σ m (m + 1) (mF m pm sta rdm (nI stN) me (nI trN) mi slr (nI w) cha bm bc bl bch ask sn ks kw kt km hsh) (mA apg ade afo aro ale afi anf anl awh aod abo aof ama asd akr akl akf akd ako)) (some (.int (nI (w ^ (stN - trN))))) (put σ m (m + 1) (mF m pm sta rdm (nI stN) me (nI trN) mi slr (nI w) cha bm bc bl bch ask sn ks kw kt km hsh) (mA apg ade afo aro ale afi anf anl awh aod abo aof ama asd akr akl akf akd ako)) := by
  have loop : ∀ (n k : Nat), trN + k + n = stN → WP 0 0 0 111 7 [.ref m, .int (nI (w ^ k)), .int (nI (trN + k))] [] (put σ m (m + 1) (mF m pm sta rdm (nI stN) me (nI trN) mi slr (nI w) cha bm bc bl bch ask sn ks kw kt km hsh) (mA apg ade afo aro ale afi anf anl awh aod abo aof ama asd akr akl akf akd ako)) (some (.int (nI (w ^ (stN - trN))))) (put σ m (m + 1) (mF m pm sta rdm (nI stN) me (nI trN) mi slr (nI w) cha bm bc bl bch ask sn ks kw kt km hsh) (mA apg ade afo aro ale afi anf anl awh aod abo aof ama asd akr akl akf akd ako)) := by
    intro n
    induction n with
    | zero =>
      intro k hk'
      have e : stN - trN = k := by omega
      rw [e]
      refine wp_iload_2 d111_7 ?_
      refine wp_aload_0 d111_8 ?_
      refine wp_getP d111_9 (Nat.le_of_ble_eq_true rfl) kM.1 rfl ?_
      refine wp_icmp_geN d111_12 (by decide) (by omega) (by omega) (fun h12 => ?_) (fun hq => absurd hq (by omega))
      refine wp_iload_1 d111_28 ?_
      exact wp_iret d111_29 rfl rfl rfl
    | succ n ih =>
      intro k hk'
      refine wp_iload_2 d111_7 ?_
      refine wp_aload_0 d111_8 ?_
      refine wp_getP d111_9 (Nat.le_of_ble_eq_true rfl) kM.1 rfl ?_
      refine wp_icmp_geN d111_12 (by decide) (by omega) (by omega) (fun hq => absurd hq (by omega)) (fun h12 => ?_)
      refine wp_iload_1 d111_15 ?_
      refine wp_aload_0 d111_16 ?_
      refine wp_getP d111_17 (Nat.le_of_ble_eq_true rfl) kM.1 rfl ?_
      refine wp_imulN d111_20 ?_
      refine wp_istore_1 d111_21 (Nat.le_of_ble_eq_true rfl) rfl ?_
      refine wp_iinc_2 d111_22 (Nat.le_of_ble_eq_true rfl) rfl (inc1 _) ?_
      refine wp_goto d111_25 (by decide) ?_
      exact ih (k + 1) (by omega)
  refine ev_of (L := [(.ref m), .null, .null]) (by decide) rfl (Nat.le_of_ble_eq_true rfl) ?_
  refine wp_iconst d111_0 ic_1 ?_
  refine wp_istore_1 d111_1 (Nat.le_of_ble_eq_true rfl) rfl ?_
  refine wp_aload_0 d111_2 ?_
  refine wp_getP d111_3 (Nat.le_of_ble_eq_true rfl) kM.1 rfl ?_
  refine wp_istore_2 d111_6 (Nat.le_of_ble_eq_true rfl) rfl ?_
  exact loop (stN - trN) 0 (by omega)
theorem lt_pred {a b : Nat} (ha : a < 2 ^ 30) (hb : b < 2 ^ 30) : nI a - nI 1 < nI b ↔ (a : Int) - 1 < b := by
  rw [lt_nI (by omega), pk_sub_toInt ha (by decide)]
  rfl
theorem m_layWho (kM : KM σ m) {trN stN w code : Nat} {wh : Nat → Nat} (h1 : trN ≤ stN) (h6 : stN ≤ 6) (hw : 1 ≤ w) (hw5 : w ≤ 5) (hc : code < 2 ^ 31) : Ev 0 0 0 112 [.ref m, .int (nI code)] (put σ m (m + 1) (mF m pm sta rdm (nI stN) me (nI trN) mi slr (nI w) cha bm bc bl bch ask sn ks kw kt km hsh) (mA apg ade afo aro ale afi anf anl (arr 6 wh) aod abo aof ama asd akr akl akf akd ako)) none (put σ m (m + 1) (mF m pm sta rdm (nI stN) me (nI trN) mi slr (nI w) cha bm bc bl bch ask sn ks kw kt km hsh) (mA apg ade afo aro ale afi anf anl (arr 6 (whN w trN stN code wh)) aod abo aof ama asd akr akl akf akd ako)) := by
  have loop : ∀ (n c : Nat) (f : Nat → Nat), trN + n = c → c ≤ stN → (∀ j, f j = if c ≤ j ∧ j < stN then code / w ^ (stN - 1 - j) % w else wh j) → WP 0 0 0 112 9 [.ref m, .int (nI code), .int (nI (code / w ^ (stN - c))), .int (nI c - nI 1)] [] (put σ m (m + 1) (mF m pm sta rdm (nI stN) me (nI trN) mi slr (nI w) cha bm bc bl bch ask sn ks kw kt km hsh) (mA apg ade afo aro ale afi anf anl (arr 6 f) aod abo aof ama asd akr akl akf akd ako)) none (put σ m (m + 1) (mF m pm sta rdm (nI stN) me (nI trN) mi slr (nI w) cha bm bc bl bch ask sn ks kw kt km hsh) (mA apg ade afo aro ale afi anf anl (arr 6 (whN w trN stN code wh)) aod abo aof ama asd akr akl akf akd ako)) := by
    intro n
    induction n with
    | zero =>
      intro c f hk' hcs hf
      have e : trN = c := by omega
      subst e
      rw [show whN w trN stN code wh = f by funext j; rw [hf]; rfl]
      refine wp_iload_3 d112_9 ?_
      refine wp_aload_0 d112_10 ?_
      refine wp_getP d112_11 (Nat.le_of_ble_eq_true rfl) kM.1 rfl ?_
      refine wp_icmp_lt d112_14 (by decide) (fun h14 => ?_) (fun hq => absurd hq (fun hq => hq ((lt_pred (by omega) (by omega)).mpr (by omega))))
      exact wp_vret d112_42 rfl rfl rfl
    | succ n ih =>
      intro c f hk' hcs hf
      refine wp_iload_3 d112_9 ?_
      refine wp_aload_0 d112_10 ?_
      refine wp_getP d112_11 (Nat.le_of_ble_eq_true rfl) kM.1 rfl ?_
      refine wp_icmp_lt d112_14 (by decide) (fun hq => absurd ((lt_pred (by omega) (by omega)).mp hq) (by omega)) (fun h14 => ?_)
      obtain ⟨c', rfl⟩ : ∃ c', c = c' + 1 := ⟨c - 1, by omega⟩
      rw [pk_sub (show 1 ≤ c' + 1 by omega), Nat.add_sub_cancel]
      have hle : code / w ^ (stN - (c' + 1)) < 2 ^ 31 := Nat.lt_of_le_of_lt (Nat.div_le_self _ _) hc
      refine wp_aload_0 d112_17 ?_
      refine wp_getP d112_18 (Nat.le_of_ble_eq_true rfl) kM.1 rfl ?_
      refine wp_iload_3 d112_21 ?_
      refine wp_iload_2 d112_22 ?_
      refine wp_aload_0 d112_23 ?_
      refine wp_getP d112_24 (Nat.le_of_ble_eq_true rfl) kM.1 rfl ?_
      refine wp_iremN d112_27 (by omega) (by omega) (by omega) ?_
      refine wp_astN d112_28 (kM.2 _ (Nat.le_of_ble_eq_true rfl)) rfl (by omega) (by decide) ?_
      refine wp_iload_2 d112_29 ?_
      refine wp_aload_0 d112_30 ?_
      refine wp_getP d112_31 (Nat.le_of_ble_eq_true rfl) kM.1 rfl ?_
      refine wp_idivN d112_34 (by omega) (by omega) (by omega) ?_
      refine wp_istore_2 d112_35 (Nat.le_of_ble_eq_true rfl) rfl ?_
      refine wp_iinc_3 d112_36 (Nat.le_of_ble_eq_true rfl) rfl (dec2 _) ?_
      refine wp_goto d112_39 (by decide) ?_
      rw [Nat.div_div_eq_div_mul, ← Nat.pow_succ, show (stN - (c' + 1)).succ = stN - c' by omega]
      refine ih c' _ (by omega) (by omega) (fun j => ?_)
      unfold up
      rw [hf j]
      by_cases e : j = c'
      · subst e
        rw [if_pos rfl, if_pos (by omega), show stN - 1 - j = stN - (j + 1) by omega]
      · rw [if_neg e]
        by_cases e2 : c' + 1 ≤ j ∧ j < stN
        · rw [if_pos e2, if_pos (by omega)]
        · rw [if_neg e2, if_neg (by omega)]
  refine ev_of (L := [(.ref m), (.int (nI code)), .null, .null]) (by decide) rfl (Nat.le_of_ble_eq_true rfl) ?_
  refine wp_iload_1 d112_0 ?_
  refine wp_istore_2 d112_1 (Nat.le_of_ble_eq_true rfl) rfl ?_
  refine wp_aload_0 d112_2 ?_
  refine wp_getP d112_3 (Nat.le_of_ble_eq_true rfl) kM.1 rfl ?_
  refine wp_iconst d112_6 ic_1 ?_
  refine wp_isub d112_7 ?_
  refine wp_istore_3 d112_8 (Nat.le_of_ble_eq_true rfl) rfl ?_
  have := loop (stN - trN) stN wh (by omega) (by omega) (fun j => by rw [if_neg (by omega)])
  rw [Nat.sub_self, Nat.pow_zero, Nat.div_one] at this
  exact this
theorem m_goesBy (kM : KM σ m) {trN stN w : Nat} {ki sr fi le de wh nf nl : Nat → Nat} {to : Nat → Option Nat} (h1 : trN ≤ stN) (h6 : stN ≤ 6) (hw : 1 ≤ w) (hw5 : w ≤ 5) (hf : PF w fi) (hk : ∀ v, v < w → ki v < 5) (hl : ∀ v, v < w → le v < 1000) (hd : ∀ k, k < stN → de k < 100) (hwh : ∀ k, trN ≤ k → k < stN → wh k < w) : Ev 2 0 0 113 [.ref m] (put σ m (m + 1) (mF m pm sta rdm (nI stN) me (nI trN) mi slr (nI w) cha bm bc bl bch ask sn ks kw kt km hsh) (mA apg (arr 6 de) afo (arrI 15 (rw3 ki sr to)) (arr 5 le) (arr 5 fi) (arr 5 nf) (arr 5 nl) (arr 6 wh) aod abo aof ama asd akr akl akf akd ako)) (some (.int (bi (gb w ki fi de wh (stN - trN) trN 0 le 0).1))) (put σ m (m + 1) (mF m pm sta rdm (nI stN) me (nI trN) mi slr (nI w) (nI (gb w ki fi de wh (stN - trN) trN 0 le 0).2.2.2) bm bc bl bch ask sn ks kw kt km hsh) (mA apg (arr 6 de) afo (arrI 15 (rw3 ki sr to)) (arr 5 le) (arr 5 fi) (arr 5 (rotk w fi (gb w ki fi de wh (stN - trN) trN 0 le 0).2.1)) (arr 5 (gb w ki fi de wh (stN - trN) trN 0 le 0).2.2.1) (arr 6 wh) aod abo aof ama asd akr akl akf akd ako)) := by
  have inner : ∀ (k : Nat) (l2 : Nat → Nat) (r : Option Value) (σ' : Sto) (x : Int32), trN ≤ k → k < stN → ∀ (i j ch : Nat), i < w → (j + i) % w = pl w fi (wh k) → WP 2 0 0 113 60 [.ref m, .int x, .int (nI k)] [] (put σ m (m + 1) (mF m pm sta rdm (nI stN) me (nI trN) mi slr (nI w) (nI (ch + i)) bm bc bl bch ask sn ks kw kt km hsh) (mA apg (arr 6 de) afo (arrI 15 (rw3 ki sr to)) (arr 5 le) (arr 5 fi) (arr 5 (rotk w fi (pl w fi (wh k)))) (arr 5 l2) (arr 6 wh) aod abo aof ama asd akr akl akf akd ako)) r σ' → WP 2 0 0 113 28 [.ref m, .int x, .int (nI k)] [] (put σ m (m + 1) (mF m pm sta rdm (nI stN) me (nI trN) mi slr (nI w) (nI ch) bm bc bl bch ask sn ks kw kt km hsh) (mA apg (arr 6 de) afo (arrI 15 (rw3 ki sr to)) (arr 5 le) (arr 5 fi) (arr 5 (rotk w fi j)) (arr 5 l2) (arr 6 wh) aod abo aof ama asd akr akl akf akd ako)) r σ' := by
    intro k l2 r σ' x hk1 hk2 i
    have hv := hwh k hk1 hk2
    have hp := PF_pl hf hv
    induction i with
    | zero =>
      intro j ch hi he K
      have hj := PF_rotk hf j
      have b1 := hj.1 0 (by omega)
      have e0 : rotk w fi j 0 = wh k := by
        unfold rotk
        rw [if_pos (by omega), Nat.zero_add, show j % w = pl w fi (wh k) from he]
        exact hp.2
      refine wp_aload_0 d113_28 ?_
      refine wp_getP d113_29 (Nat.le_of_ble_eq_true rfl) kM.1 rfl ?_
      refine wp_iconst d113_32 ic_0 ?_
      refine wp_aldP d113_33 (kM.2 _ (Nat.le_of_ble_eq_true rfl)) rfl (by omega) (by decide) ?_
      refine wp_aload_0 d113_34 ?_
      refine wp_getP d113_35 (Nat.le_of_ble_eq_true rfl) kM.1 rfl ?_
      refine wp_iload_2 d113_38 ?_
      refine wp_aldP d113_39 (kM.2 _ (Nat.le_of_ble_eq_true rfl)) rfl (by omega) (by decide) ?_
      refine wp_icmp_eqN d113_40 (by decide) (by omega) (by omega) (fun h40 => ?_) (fun hq => absurd hq (fun hq => hq e0))
      rw [show rotk w fi (pl w fi (wh k)) = rotk w fi j by rw [← he]; exact (rotk_mod (by omega)).symm] at K
      exact K
    | succ i ih =>
      intro j ch hi he K
      have hj := PF_rotk hf j
      have b1 := hj.1 0 (by omega)
      have e0 : rotk w fi j 0 ≠ wh k := by
        intro z
        unfold rotk at z
        rw [if_pos (by omega), Nat.zero_add] at z
        have h2 := hf.2.1 (j % w) (pl w fi (wh k)) (Nat.mod_lt _ (by omega)) hp.1 (z.trans hp.2.symm)
        rw [← he] at h2
        rcases (by omega : w = 1 ∨ w = 2 ∨ w = 3 ∨ w = 4 ∨ w = 5) with rfl | rfl | rfl | rfl | rfl <;> omega
      refine wp_aload_0 d113_28 ?_
      refine wp_getP d113_29 (Nat.le_of_ble_eq_true rfl) kM.1 rfl ?_
      refine wp_iconst d113_32 ic_0 ?_
      refine wp_aldP d113_33 (kM.2 _ (Nat.le_of_ble_eq_true rfl)) rfl (by omega) (by decide) ?_
      refine wp_aload_0 d113_34 ?_
      refine wp_getP d113_35 (Nat.le_of_ble_eq_true rfl) kM.1 rfl ?_
      refine wp_iload_2 d113_38 ?_
      refine wp_aldP d113_39 (kM.2 _ (Nat.le_of_ble_eq_true rfl)) rfl (by omega) (by decide) ?_
      refine wp_icmp_eqN d113_40 (by decide) (by omega) (by omega) (fun hq => absurd hq (e0)) (fun h40 => ?_)
      refine wp_aload_0 d113_43 ?_
      refine wp_V0v d113_44 kM.1 ((m_turns kM (by omega) (by omega))) (Nat.le_of_ble_eq_true rfl) (Nat.le_of_ble_eq_true rfl) ?_
      refine wp_aload_0 d113_47 ?_
      refine wp_dup d113_48 rfl ?_
      refine wp_getP d113_49 (Nat.le_of_ble_eq_true rfl) kM.1 rfl ?_
      refine wp_iconst d113_52 ic_1 ?_
      refine wp_iaddN d113_53 ?_
      refine wp_putIP d113_54 kM.1 ?_
      refine wp_goto d113_57 (by decide) ?_
      rw [rot_rotk (by omega)]
      refine ih (j + 1) (ch + 1) (by omega) (by rw [show j + 1 + i = j + (i + 1) by omega]; exact he) ?_
      rw [show ch + 1 + i = ch + (i + 1) by omega]
      exact K
  have loop : ∀ (n k j ch : Nat) (l2 : Nat → Nat), k + n = stN → trN ≤ k → j < w → (∀ v, v < w → l2 v < 1000) → WP 2 0 0 113 16 [.ref m, .int (bi true), .int (nI k)] [] (put σ m (m + 1) (mF m pm sta rdm (nI stN) me (nI trN) mi slr (nI w) (nI ch) bm bc bl bch ask sn ks kw kt km hsh) (mA apg (arr 6 de) afo (arrI 15 (rw3 ki sr to)) (arr 5 le) (arr 5 fi) (arr 5 (rotk w fi j)) (arr 5 l2) (arr 6 wh) aod abo aof ama asd akr akl akf akd ako)) (some (.int (bi (gb w ki fi de wh n k j l2 ch).1))) (put σ m (m + 1) (mF m pm sta rdm (nI stN) me (nI trN) mi slr (nI w) (nI (gb w ki fi de wh n k j l2 ch).2.2.2) bm bc bl bch ask sn ks kw kt km hsh) (mA apg (arr 6 de) afo (arrI 15 (rw3 ki sr to)) (arr 5 le) (arr 5 fi) (arr 5 (rotk w fi (gb w ki fi de wh n k j l2 ch).2.1)) (arr 5 (gb w ki fi de wh n k j l2 ch).2.2.1) (arr 6 wh) aod abo aof ama asd akr akl akf akd ako)) := by
    intro n
    induction n with
    | zero =>
      intro k j ch l2 hk' ht hj hl2
      refine wp_iload_2 d113_16 ?_
      refine wp_aload_0 d113_17 ?_
      refine wp_getP d113_18 (Nat.le_of_ble_eq_true rfl) kM.1 rfl ?_
      refine wp_icmp_geN d113_21 (by decide) (by omega) (by omega) (fun h21 => ?_) (fun hq => absurd hq (by omega))
      refine wp_iload_1 d113_91 ?_
      exact wp_zret d113_92 rfl (by first | exact nI_01 | exact nI_11 | exact bi_01 _) rfl rfl
    | succ n ih =>
      intro k j ch l2 hk' ht hj hl2
      have hv := hwh k ht (by omega)
      have hp := PF_pl hf hv
      have hpf := PF_rotk hf (pl w fi (wh k))
      have hdk := hd k (by omega)
      refine wp_iload_2 d113_16 ?_
      refine wp_aload_0 d113_17 ?_
      refine wp_getP d113_18 (Nat.le_of_ble_eq_true rfl) kM.1 rfl ?_
      refine wp_icmp_geN d113_21 (by decide) (by omega) (by omega) (fun hq => absurd hq (by omega)) (fun h21 => ?_)
      refine wp_iload_1 d113_24 ?_
      refine wp_if_eqB d113_25 (by decide) (fun hq => absurd hq (by decide)) (fun h25 => ?_)
      refine inner k l2 _ _ _ ht (by omega) ((pl w fi (wh k) + w - j) % w) j ch (Nat.mod_lt _ (by omega)) ?_ ?_
      · rcases (by omega : w = 1 ∨ w = 2 ∨ w = 3 ∨ w = 4 ∨ w = 5) with rfl | rfl | rfl | rfl | rfl <;> omega
      · refine wp_aload_0 d113_60 ?_
        refine wp_aload_0 d113_61 ?_
        refine wp_getP d113_62 (Nat.le_of_ble_eq_true rfl) kM.1 rfl ?_
        refine wp_iload_2 d113_65 ?_
        refine wp_aldP d113_66 (kM.2 _ (Nat.le_of_ble_eq_true rfl)) rfl (by omega) (by decide) ?_
        refine wp_V1r d113_67 kM.1 ((m_canTread kM hw5 hpf.1 hk hl2 hdk)) (Nat.le_of_ble_eq_true rfl) (Nat.le_of_ble_eq_true rfl) ?_
        refine wp_istore_1 d113_70 (Nat.le_of_ble_eq_true rfl) rfl ?_
        refine wp_iload_1 d113_71 ?_
        refine wp_if_eqB d113_72 (by decide) (fun h72 => ?_) (fun h72 => ?_)
        · rw [show gb w ki fi de wh (n + 1) k j l2 ch = (false, pl w fi (wh k), l2, ch + (pl w fi (wh k) + w - j) % w) by simp [gb, h72], h72]
          refine wp_iinc_2 d113_85 (Nat.le_of_ble_eq_true rfl) rfl (inc1 _) ?_
          refine wp_goto d113_88 (by decide) ?_
          refine wp_iload_2 d113_16 ?_
          refine wp_aload_0 d113_17 ?_
          refine wp_getP d113_18 (Nat.le_of_ble_eq_true rfl) kM.1 rfl ?_
          refine wp_icmp_geN d113_21 (by decide) (by omega) (by omega) (fun h21 => ?_) (fun h21 => ?_)
          · refine wp_iload_1 d113_91 ?_
            exact wp_zret d113_92 rfl (by first | exact nI_01 | exact nI_11 | exact bi_01 _) rfl rfl
          · refine wp_iload_1 d113_24 ?_
            refine wp_if_eqB d113_25 (by decide) (fun h25 => ?_) (fun hq => absurd hq (by decide))
            refine wp_iload_1 d113_91 ?_
            exact wp_zret d113_92 rfl (by first | exact nI_01 | exact nI_11 | exact bi_01 _) rfl rfl
        · rw [show gb w ki fi de wh (n + 1) k j l2 ch = gb w ki fi de wh n (k + 1) (pl w fi (wh k)) (trS ki (rotk w fi (pl w fi (wh k))) (de k) l2 w) (ch + (pl w fi (wh k) + w - j) % w) by simp [gb, h72], h72]
          refine wp_aload_0 d113_75 ?_
          refine wp_aload_0 d113_76 ?_
          refine wp_getP d113_77 (Nat.le_of_ble_eq_true rfl) kM.1 rfl ?_
          refine wp_iload_2 d113_80 ?_
          refine wp_aldP d113_81 (kM.2 _ (Nat.le_of_ble_eq_true rfl)) rfl (by omega) (by decide) ?_
          refine wp_V1v d113_82 kM.1 ((m_treads kM hw5 hpf hk h72 hdk)) (Nat.le_of_ble_eq_true rfl) (Nat.le_of_ble_eq_true rfl) ?_
          refine wp_iinc_2 d113_85 (Nat.le_of_ble_eq_true rfl) rfl (inc1 _) ?_
          refine wp_goto d113_88 (by decide) ?_
          exact ih (k + 1) _ _ _ (by omega) (by omega) hp.1 (fun v hv => Nat.lt_of_le_of_lt trS_le (hl2 v hv))
  refine ev_of (L := [(.ref m), .null, .null]) (by decide) rfl (Nat.le_of_ble_eq_true rfl) ?_
  refine wp_aload_0 d113_0 ?_
  refine wp_V0v d113_1 kM.1 ((m_asItIs kM)) (Nat.le_of_ble_eq_true rfl) (Nat.le_of_ble_eq_true rfl) ?_
  refine wp_aload_0 d113_4 ?_
  refine wp_iconst d113_5 ic_0 ?_
  refine wp_putIP d113_6 kM.1 ?_
  refine wp_iconst d113_9 ic_1 ?_
  refine wp_istore_1 d113_10 (Nat.le_of_ble_eq_true rfl) rfl ?_
  refine wp_aload_0 d113_11 ?_
  refine wp_getP d113_12 (Nat.le_of_ble_eq_true rfl) kM.1 rfl ?_
  refine wp_istore_2 d113_15 (Nat.le_of_ble_eq_true rfl) rfl ?_
  have := loop (stN - trN) trN 0 0 le (by omega) (by omega) (by omega) hl
  rw [rotk_0] at this
  exact this

end S07_mo3b
