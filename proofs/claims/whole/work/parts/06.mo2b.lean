section S06_mo2b
variable {σ : Sto} {m : Nat} {pm sta rdm st me tr mi slr wa cha bm bc bl bch ask sn ks kw kt km : Int32} {hsh : Int64} {apg ade afo aro ale afi anf anl awh aod abo aof ama asd akr akl akf akd ako : List Int32}

theorem m_in (x : Int32) {lo hi : Int64} {a b : Int} (ha : lo.toInt = a) (hb : hi.toInt = b) {σ : Sto} : Ev 0 0 0 79 [.long x.toInt64, .long lo, .long hi] σ (some (.int (bi (inB x a b)))) σ := by
  subst ha; subst hb
  refine ev_of (L := [(.long x.toInt64), .null, (.long lo), .null, (.long hi), .null]) (by decide) rfl (Nat.le_of_ble_eq_true rfl) ?_
  refine wp_lload_0 d79_0 ?_
  refine wp_lload_2 d79_1 ?_
  refine wp_lcmp d79_2 ?_
  refine wp_if_lt d79_3 (by decide) (fun h3 => ?_) (fun h3 => ?_)
  · have h := Int64.lt_iff_toInt_lt.mp ((lz_lt _ _).mp h3)
    rw [x64] at h
    refine wp_iconst d79_17 ic_0 ?_
    refine WP.r ?_ (wp_zret d79_18 rfl nI_01 rfl rfl)
    rw [inB_f.mpr (by omega)]
    rfl
  · have h := mt (fun z => (lz_lt _ _).mpr (Int64.lt_iff_toInt_lt.mpr z)) h3
    rw [x64] at h
    refine wp_lload_0 d79_6 ?_
    refine wp_lload_4 d79_7 ?_
    refine wp_lcmp d79_9 ?_
    refine wp_if_gt d79_10 (by decide) (fun h10 => ?_) (fun h10 => ?_)
    · have h2 := Int64.lt_iff_toInt_lt.mp ((lz_gt _ _).mp h10)
      rw [x64] at h2
      refine wp_iconst d79_17 ic_0 ?_
      refine WP.r ?_ (wp_zret d79_18 rfl nI_01 rfl rfl)
      rw [inB_f.mpr (by omega)]
      rfl
    · have h2 := mt (fun z => (lz_gt _ _).mpr (Int64.lt_iff_toInt_lt.mpr z)) h10
      rw [x64] at h2
      refine wp_iconst d79_13 ic_1 ?_
      refine wp_goto d79_14 (by decide) ?_
      refine WP.r ?_ (wp_zret d79_18 rfl nI_11 rfl rfl)
      rw [inB_t.mpr (by omega)]
      rfl
theorem m_letter (kM : KM σ m) {pmN : Nat} {pg : Nat → Nat} (hpm : pmN ≤ 10) (x : Int32) : Ev 1 0 0 80 [.ref m, .int x] (put σ m (m + 1) (mF m (nI pmN) sta rdm st me tr mi slr wa cha bm bc bl bch ask sn ks kw kt km hsh) (mA (arr 10 pg) ade afo aro ale afi anf anl awh aod abo aof ama asd akr akl akf akd ako)) (some (.int (r_letter pmN x))) (put σ m (m + 1) (mF m (nI (n_letter pmN x)) sta rdm st me tr mi slr wa cha bm bc bl bch ask sn ks kw kt km hsh) (mA (arr 10 (p_letter pmN pg x)) ade afo aro ale afi anf anl awh aod abo aof ama asd akr akl akf akd ako)) := by
  refine ev_of (L := [(.ref m), (.int x)]) (by decide) rfl (Nat.le_of_ble_eq_true rfl) ?_
  refine wp_iload_1 d80_0 ?_
  refine wp_i2l d80_1 ?_
  refine wp_lconst d80_2 (v := lN 1) rfl ?_
  refine wp_ldc2 d80_3 (by decide) rfl lk_126 ?_
  refine wp_S3r d80_6 rfl ((m_in x (a := 1) (b := 126) (by decide) (by decide))) (Nat.le_of_ble_eq_true rfl) (Nat.le_of_ble_eq_true rfl) ?_
  refine wp_if_neB d80_9 (by decide) (fun h9 => ?_) (fun h9 => ?_)
  · rw [inB_t] at h9
    refine wp_aload_0 d80_15 ?_
    refine wp_getP d80_16 (Nat.le_of_ble_eq_true rfl) kM.1 rfl ?_
    refine wp_bipush d80_19 bi_10 ?_
    refine wp_icmp_neN d80_21 (by decide) (by omega) (by omega) (fun h21 => ?_) (fun h21 => ?_)
    · refine wp_aload_0 d80_27 ?_
      refine wp_getP d80_28 (Nat.le_of_ble_eq_true rfl) kM.1 rfl ?_
      refine wp_aload_0 d80_31 ?_
      refine wp_getP d80_32 (Nat.le_of_ble_eq_true rfl) kM.1 rfl ?_
      refine wp_iload_1 d80_35 ?_
      rw [nI_to (x := x) (by omega)]
      refine wp_astN d80_36 (kM.2 _ (Nat.le_of_ble_eq_true rfl)) rfl (by omega) (by decide) ?_
      refine wp_aload_0 d80_37 ?_
      refine wp_dup d80_38 rfl ?_
      refine wp_getP d80_39 (Nat.le_of_ble_eq_true rfl) kM.1 rfl ?_
      refine wp_iconst d80_42 ic_1 ?_
      refine wp_iaddN d80_43 ?_
      refine wp_putIP d80_44 kM.1 ?_
      refine wp_aload_0 d80_47 ?_
      refine wp_getP d80_48 (Nat.le_of_ble_eq_true rfl) kM.1 rfl ?_
      have e1 : n_letter pmN (nI x.toInt.toNat) = pmN + 1 := by rw [← nI_to (x := x) (by omega)]; simp [n_letter, inB_t, h9, h21]
      have e2 : p_letter pmN pg (nI x.toInt.toNat) = up pg pmN x.toInt.toNat := by rw [← nI_to (x := x) (by omega)]; simp [p_letter, inB_t, h9, h21]
      have e3 : r_letter pmN (nI x.toInt.toNat) = nI (pmN + 1) := by rw [← nI_to (x := x) (by omega)]; simp [r_letter, inB_t, h9, h21]
      rw [e1, e2, e3]
      exact wp_iret d80_51 rfl rfl rfl
    · refine wp_bipush d80_24 bi_m104 ?_
      subst h21
      rw [show n_letter 10 x = 10 by simp [n_letter], show p_letter 10 pg x = pg by simp [p_letter], show r_letter 10 x = -104 by simp [r_letter, inB_t, h9]]
      exact wp_iret d80_26 rfl rfl rfl
  · refine wp_bipush d80_12 bi_m102 ?_
    rw [show n_letter pmN x = pmN by simp [n_letter, h9], show p_letter pmN pg x = pg by simp [p_letter, h9], show r_letter pmN x = -102 by simp [r_letter, h9]]
    exact wp_iret d80_14 rfl rfl rfl
theorem m_blank (kM : KM σ m) : Ev 0 0 0 81 [.ref m] (put σ m (m + 1) (mF m pm sta rdm st me tr mi slr wa cha bm bc bl bch ask sn ks kw kt km hsh) (mA apg ade afo aro ale afi anf anl awh aod abo aof ama asd akr akl akf akd ako)) (some (.int pm)) (put σ m (m + 1) (mF m (nI 0) sta rdm st me tr mi slr wa cha bm bc bl bch ask sn ks kw kt km hsh) (mA apg ade afo aro ale afi anf anl awh aod abo aof ama asd akr akl akf akd ako)) := by
  refine ev_of (L := [(.ref m), .null]) (by decide) rfl (Nat.le_of_ble_eq_true rfl) ?_
  refine wp_aload_0 d81_0 ?_
  refine wp_getP d81_1 (Nat.le_of_ble_eq_true rfl) kM.1 rfl ?_
  refine wp_istore_1 d81_4 (Nat.le_of_ble_eq_true rfl) rfl ?_
  refine wp_aload_0 d81_5 ?_
  refine wp_iconst d81_6 ic_0 ?_
  refine wp_putIP d81_7 kM.1 ?_
  refine wp_iload_1 d81_10 ?_
  exact wp_iret d81_11 rfl rfl rfl
theorem m_isDigit {c : Nat} (hc : c < 1000) : Ev 1 0 0 82 [.int (nI c)] σ (some (.int (bi (dgt c)))) σ := by
  refine ev_of (L := [(.int (nI c))]) (by decide) rfl (Nat.le_of_ble_eq_true rfl) ?_
  refine wp_iload_0 d82_0 ?_
  refine wp_i2l d82_1 ?_
  refine wp_ldc2 d82_2 (by decide) rfl lk_48 ?_
  refine wp_ldc2 d82_5 (by decide) rfl lk_57 ?_
  refine wp_S3r d82_8 rfl ((m_in (nI c) (a := 48) (b := 57) (by decide) (by decide))) (Nat.le_of_ble_eq_true rfl) (Nat.le_of_ble_eq_true rfl) ?_
  refine WP.r ?_ (wp_zret d82_11 rfl (bi_01 _) rfl rfl)
  have : inB (nI c) 48 57 = dgt c := by
    unfold inB dgt
    rw [nI_toInt (by omega)]
    congr 1
    apply propext
    omega
  rw [this]
theorem m_go (kM : KM σ m) {s r c : Nat} (hs : s < 100) (hr : r < 100) (hc : c < 1000) : Ev 2 0 0 83 [.ref m, .int (nI c)] (put σ m (m + 1) (mF m pm (nI s) (nI r) st me tr mi slr wa cha bm bc bl bch ask sn ks kw kt km hsh) (mA apg ade afo aro ale afi anf anl awh aod abo aof ama asd akr akl akf akd ako)) (some (.int (bi (goN s r c).1))) (put σ m (m + 1) (mF m pm (nI (goN s r c).2.1) (nI (goN s r c).2.2) st me tr mi slr wa cha bm bc bl bch ask sn ks kw kt km hsh) (mA apg ade afo aro ale afi anf anl awh aod abo aof ama asd akr akl akf akd ako)) := by
  have A : (s = 0 ∨ (s = 1 ∧ c ≠ 59)) → WP 2 0 0 83 21 [.ref m, .int (nI c), .null] [] (put σ m (m + 1) (mF m pm (nI s) (nI r) st me tr mi slr wa cha bm bc bl bch ask sn ks kw kt km hsh) (mA apg ade afo aro ale afi anf anl awh aod abo aof ama asd akr akl akf akd ako)) (some (.int (bi (goN s r c).1))) (put σ m (m + 1) (mF m pm (nI (goN s r c).2.1) (nI (goN s r c).2.2) st me tr mi slr wa cha bm bc bl bch ask sn ks kw kt km hsh) (mA apg ade afo aro ale afi anf anl awh aod abo aof ama asd akr akl akf akd ako)) := by
    intro h
    have e : goN s r c = (dgt c && decide (r + 1 < 7), 1, r + 1) := by simp only [goN, h, if_true]
    rw [e]
    refine wp_aload_0 d83_21 ?_
    refine wp_iconst d83_22 ic_1 ?_
    refine wp_putIP d83_23 kM.1 ?_
    refine wp_aload_0 d83_26 ?_
    refine wp_dup d83_27 rfl ?_
    refine wp_getP d83_28 (Nat.le_of_ble_eq_true rfl) kM.1 rfl ?_
    refine wp_iconst d83_31 ic_1 ?_
    refine wp_iaddN d83_32 ?_
    refine wp_putIP d83_33 kM.1 ?_
    refine wp_iload_1 d83_36 ?_
    refine wp_S1r d83_37 rfl ((m_isDigit hc)) (Nat.le_of_ble_eq_true rfl) (Nat.le_of_ble_eq_true rfl) ?_
    refine wp_if_eqB d83_40 (by decide) (fun h40 => ?_) (fun h40 => ?_)
    · refine wp_iconst d83_56 ic_0 ?_
      exact wp_zret d83_57 rfl nI_01 (by simp [h40, bi]; rfl) rfl
    · refine wp_aload_0 d83_43 ?_
      refine wp_getP d83_44 (Nat.le_of_ble_eq_true rfl) kM.1 rfl ?_
      refine wp_bipush d83_47 bi_7 ?_
      refine wp_icmp_geN d83_49 (by decide) (by omega) (by omega) (fun h49 => ?_) (fun h49 => ?_)
      · refine wp_iconst d83_56 ic_0 ?_
        exact wp_zret d83_57 rfl nI_01 (by simp [show ¬ (r + 1 < 7) by omega, bi]; rfl) rfl
      · refine wp_iconst d83_52 ic_1 ?_
        refine wp_goto d83_53 (by decide) ?_
        exact wp_zret d83_57 rfl nI_11 (by simp [h40, h49, bi]; rfl) rfl
  have Bq : ∀ p : Bool, (decide (s = 1) || (decide (s = 2) && dgt c)) = p → ¬ (s = 0 ∨ (s = 1 ∧ c ≠ 59)) → WP 2 0 0 83 86 [.ref m, .int (nI c), .null] [.int (bi p)] (put σ m (m + 1) (mF m pm (nI s) (nI r) st me tr mi slr wa cha bm bc bl bch ask sn ks kw kt km hsh) (mA apg ade afo aro ale afi anf anl awh aod abo aof ama asd akr akl akf akd ako)) (some (.int (bi (goN s r c).1))) (put σ m (m + 1) (mF m pm (nI (goN s r c).2.1) (nI (goN s r c).2.2) st me tr mi slr wa cha bm bc bl bch ask sn ks kw kt km hsh) (mA apg ade afo aro ale afi anf anl awh aod abo aof ama asd akr akl akf akd ako)) := by
    intro p hp h
    have e : goN s r c = (p, s + 1, r) := by simp only [goN, h, if_false, hp]
    rw [e]
    refine wp_istore_2 d83_86 (Nat.le_of_ble_eq_true rfl) rfl ?_
    refine wp_aload_0 d83_87 ?_
    refine wp_dup d83_88 rfl ?_
    refine wp_getP d83_89 (Nat.le_of_ble_eq_true rfl) kM.1 rfl ?_
    refine wp_iconst d83_92 ic_1 ?_
    refine wp_iaddN d83_93 ?_
    refine wp_putIP d83_94 kM.1 ?_
    refine wp_iload_2 d83_97 ?_
    exact wp_zret d83_98 rfl (bi_01 _) rfl rfl
  have Bs : ¬ (s = 0 ∨ (s = 1 ∧ c ≠ 59)) → WP 2 0 0 83 58 [.ref m, .int (nI c), .null] [] (put σ m (m + 1) (mF m pm (nI s) (nI r) st me tr mi slr wa cha bm bc bl bch ask sn ks kw kt km hsh) (mA apg ade afo aro ale afi anf anl awh aod abo aof ama asd akr akl akf akd ako)) (some (.int (bi (goN s r c).1))) (put σ m (m + 1) (mF m pm (nI (goN s r c).2.1) (nI (goN s r c).2.2) st me tr mi slr wa cha bm bc bl bch ask sn ks kw kt km hsh) (mA apg ade afo aro ale afi anf anl awh aod abo aof ama asd akr akl akf akd ako)) := by
    intro h
    refine wp_aload_0 d83_58 ?_
    refine wp_getP d83_59 (Nat.le_of_ble_eq_true rfl) kM.1 rfl ?_
    refine wp_iconst d83_62 ic_1 ?_
    refine wp_icmp_eqN d83_63 (by decide) (by omega) (by omega) (fun h63 => ?_) (fun h63 => ?_)
    · refine wp_iconst d83_81 ic_1 ?_
      refine wp_goto d83_82 (by decide) ?_
      exact Bq true (by simp [h63]) h
    · refine wp_aload_0 d83_66 ?_
      refine wp_getP d83_67 (Nat.le_of_ble_eq_true rfl) kM.1 rfl ?_
      refine wp_iconst d83_70 ic_2 ?_
      refine wp_icmp_neN d83_71 (by decide) (by omega) (by omega) (fun h71 => ?_) (fun h71 => ?_)
      · refine wp_iconst d83_85 ic_0 ?_
        exact Bq false (by simp [h63, h71]) h
      · refine wp_iload_1 d83_74 ?_
        refine wp_S1r d83_75 rfl ((m_isDigit hc)) (Nat.le_of_ble_eq_true rfl) (Nat.le_of_ble_eq_true rfl) ?_
        refine wp_if_eqB d83_78 (by decide) (fun h78 => ?_) (fun h78 => ?_)
        · refine wp_iconst d83_85 ic_0 ?_
          exact Bq false (by simp [h63, h78]) h
        · refine wp_iconst d83_81 ic_1 ?_
          refine wp_goto d83_82 (by decide) ?_
          exact Bq true (by simp [h71, h78]) h
  refine ev_of (L := [(.ref m), (.int (nI c)), .null]) (by decide) rfl (Nat.le_of_ble_eq_true rfl) ?_
  refine wp_aload_0 d83_0 ?_
  refine wp_getP d83_1 (Nat.le_of_ble_eq_true rfl) kM.1 rfl ?_
  refine wp_if_eqN d83_4 (by decide) (by omega) (fun h4 => ?_) (fun h4 => ?_)
  · exact A (Or.inl h4)
  · refine wp_aload_0 d83_7 ?_
    refine wp_getP d83_8 (Nat.le_of_ble_eq_true rfl) kM.1 rfl ?_
    refine wp_iconst d83_11 ic_1 ?_
    refine wp_icmp_neN d83_12 (by decide) (by omega) (by omega) (fun h12 => ?_) (fun h12 => ?_)
    · exact Bs (by omega)
    · refine wp_iload_1 d83_15 ?_
      refine wp_bipush d83_16 bi_59 ?_
      refine wp_icmp_eqN d83_18 (by decide) (by omega) (by omega) (fun h18 => ?_) (fun h18 => ?_)
      · exact Bs (by omega)
      · exact A (Or.inr ⟨h12, h18⟩)
theorem goN_b {s r c : Nat} (hs : s ≤ 3) (h : (goN s r c).1 = true) : (goN s r c).2.1 ≤ 3 ∧ (goN s r c).2.2 ≤ r + 1 := by
  unfold goN at h ⊢
  split
  · exact ⟨by simp, by simp⟩
  · next h1 =>
    rw [if_neg h1] at h
    simp at h
    refine ⟨?_, by simp⟩
    simp
    omega
theorem m_faultOf (kM : KM σ m) {pmN : Nat} {pg : Nat → Nat} (hpm : pmN ≤ 10) (hpg : ∀ k, k < pmN → pg k < 1000) : Ev 3 0 0 84 [.ref m] (put σ m (m + 1) (mF m (nI pmN) sta rdm st me tr mi slr wa cha bm bc bl bch ask sn ks kw kt km hsh) (mA (arr 10 pg) ade afo aro ale afi anf anl awh aod abo aof ama asd akr akl akf akd ako)) (some (.int (nI (flt pg pmN 0 0 0).1))) (put σ m (m + 1) (mF m (nI pmN) (nI (flt pg pmN 0 0 0).2.1) (nI (flt pg pmN 0 0 0).2.2) st me tr mi slr wa cha bm bc bl bch ask sn ks kw kt km hsh) (mA (arr 10 pg) ade afo aro ale afi anf anl awh aod abo aof ama asd akr akl akf akd ako)) := by
  have loop : ∀ (n k s r : Nat), k + n = pmN → s ≤ 3 → r ≤ k → WP 3 0 0 84 12 [.ref m, .int (nI k)] [] (put σ m (m + 1) (mF m (nI pmN) (nI s) (nI r) st me tr mi slr wa cha bm bc bl bch ask sn ks kw kt km hsh) (mA (arr 10 pg) ade afo aro ale afi anf anl awh aod abo aof ama asd akr akl akf akd ako)) (some (.int (nI (flt pg n k s r).1))) (put σ m (m + 1) (mF m (nI pmN) (nI (flt pg n k s r).2.1) (nI (flt pg n k s r).2.2) st me tr mi slr wa cha bm bc bl bch ask sn ks kw kt km hsh) (mA (arr 10 pg) ade afo aro ale afi anf anl awh aod abo aof ama asd akr akl akf akd ako)) := by
    intro n
    induction n with
    | zero =>
      intro k s r hk hs hr
      refine wp_iload_1 d84_12 ?_
      refine wp_aload_0 d84_13 ?_
      refine wp_getP d84_14 (Nat.le_of_ble_eq_true rfl) kM.1 rfl ?_
      refine wp_icmp_geN d84_17 (by decide) (by omega) (by omega) (fun h17 => ?_) (fun hq => absurd hq (by omega))
      refine wp_iload_1 d84_39 ?_
      exact wp_iret d84_40 rfl rfl rfl
    | succ n ih =>
      intro k s r hk hs hr
      have := hpg k (by omega)
      refine wp_iload_1 d84_12 ?_
      refine wp_aload_0 d84_13 ?_
      refine wp_getP d84_14 (Nat.le_of_ble_eq_true rfl) kM.1 rfl ?_
      refine wp_icmp_geN d84_17 (by decide) (by omega) (by omega) (fun hq => absurd hq (by omega)) (fun h17 => ?_)
      refine wp_aload_0 d84_20 ?_
      refine wp_aload_0 d84_21 ?_
      refine wp_getP d84_22 (Nat.le_of_ble_eq_true rfl) kM.1 rfl ?_
      refine wp_iload_1 d84_25 ?_
      refine wp_aldP d84_26 (kM.2 _ (Nat.le_of_ble_eq_true rfl)) rfl (by omega) (by decide) ?_
      refine wp_V1r d84_27 kM.1 ((m_go kM (s := s) (r := r) (c := pg k) (by omega) (by omega) (by omega))) (Nat.le_of_ble_eq_true rfl) (Nat.le_of_ble_eq_true rfl) ?_
      refine wp_if_eqB d84_30 (by decide) (fun h30 => ?_) (fun h30 => ?_)
      · rw [show flt pg (n + 1) k s r = (k, (goN s r (pg k)).2.1, (goN s r (pg k)).2.2) by simp [flt, h30]]
        refine wp_iload_1 d84_39 ?_
        exact wp_iret d84_40 rfl rfl rfl
      · rw [show flt pg (n + 1) k s r = flt pg n (k + 1) (goN s r (pg k)).2.1 (goN s r (pg k)).2.2 by simp [flt, h30]]
        refine wp_iinc_1 d84_33 (Nat.le_of_ble_eq_true rfl) rfl (inc1 _) ?_
        refine wp_goto d84_36 (by decide) ?_
        have hb := goN_b hs h30
        exact ih (k + 1) _ _ (by omega) hb.1 (by omega)
  refine ev_of (L := [(.ref m), .null]) (by decide) rfl (Nat.le_of_ble_eq_true rfl) ?_
  refine wp_aload_0 d84_0 ?_
  refine wp_iconst d84_1 ic_0 ?_
  refine wp_putIP d84_2 kM.1 ?_
  refine wp_aload_0 d84_5 ?_
  refine wp_iconst d84_6 ic_0 ?_
  refine wp_putIP d84_7 kM.1 ?_
  refine wp_iconst d84_10 ic_0 ?_
  refine wp_istore_1 d84_11 (Nat.le_of_ble_eq_true rfl) rfl ?_
  exact loop pmN 0 0 0 (by omega) (by omega) (by omega)
theorem m_fault (kM : KM σ m) {pmN : Nat} {pg : Nat → Nat} (hpm : pmN ≤ 10) (hpg : ∀ k, k < pmN → pg k < 1000) : Ev 4 0 0 85 [.ref m] (put σ m (m + 1) (mF m (nI pmN) sta rdm st me tr mi slr wa cha bm bc bl bch ask sn ks kw kt km hsh) (mA (arr 10 pg) ade afo aro ale afi anf anl awh aod abo aof ama asd akr akl akf akd ako)) (some (.int (nI (flt pg pmN 0 0 0).1))) (put σ m (m + 1) (mF m (nI pmN) (nI (flt pg pmN 0 0 0).2.1) (nI (flt pg pmN 0 0 0).2.2) st me tr mi slr wa cha bm bc bl bch ask sn ks kw kt km hsh) (mA (arr 10 pg) ade afo aro ale afi anf anl awh aod abo aof ama asd akr akl akf akd ako)) := by
  refine ev_of (L := [(.ref m)]) (by decide) rfl (Nat.le_of_ble_eq_true rfl) ?_
  refine wp_aload_0 d85_0 ?_
  refine wp_V0r d85_1 kM.1 ((m_faultOf kM hpm hpg)) (Nat.le_of_ble_eq_true rfl) (Nat.le_of_ble_eq_true rfl) ?_
  exact wp_iret d85_4 rfl rfl rfl
theorem m_lacks (kM : KM σ m) {stN : Nat} (h : stN ≤ 6) : Ev 0 0 0 87 [.ref m] (put σ m (m + 1) (mF m pm sta rdm (nI stN) me tr mi slr wa cha bm bc bl bch ask sn ks kw kt km hsh) (mA apg ade afo aro ale afi anf anl awh aod abo aof ama asd akr akl akf akd ako)) (some (.int (bi (decide (stN = 0))))) (put σ m (m + 1) (mF m pm sta rdm (nI stN) me tr mi slr wa cha bm bc bl bch ask sn ks kw kt km hsh) (mA apg ade afo aro ale afi anf anl awh aod abo aof ama asd akr akl akf akd ako)) := by
  refine ev_of (L := [(.ref m)]) (by decide) rfl (Nat.le_of_ble_eq_true rfl) ?_
  refine wp_aload_0 d87_0 ?_
  refine wp_getP d87_1 (Nat.le_of_ble_eq_true rfl) kM.1 rfl ?_
  refine wp_if_neN d87_4 (by decide) (by omega) (fun h4 => ?_) (fun h4 => ?_)
  · refine wp_iconst d87_11 ic_0 ?_
    exact wp_zret d87_12 rfl nI_01 (by simp [h4, bi]; rfl) rfl
  · refine wp_iconst d87_7 ic_1 ?_
    refine wp_goto d87_8 (by decide) ?_
    exact wp_zret d87_12 rfl nI_11 (by simp [h4, bi]; rfl) rfl
theorem m_isStretch (kM : KM σ m) {stN : Nat} (h : stN ≤ 6) (x : Int32) : Ev 1 0 0 88 [.ref m, .int x] (put σ m (m + 1) (mF m pm sta rdm (nI stN) me tr mi slr wa cha bm bc bl bch ask sn ks kw kt km hsh) (mA apg ade afo aro ale afi anf anl awh aod abo aof ama asd akr akl akf akd ako)) (some (.int (bi (inB x 0 ((stN : Int) - 1))))) (put σ m (m + 1) (mF m pm sta rdm (nI stN) me tr mi slr wa cha bm bc bl bch ask sn ks kw kt km hsh) (mA apg ade afo aro ale afi anf anl awh aod abo aof ama asd akr akl akf akd ako)) := by
  refine ev_of (L := [(.ref m), (.int x)]) (by decide) rfl (Nat.le_of_ble_eq_true rfl) ?_
  refine wp_iload_1 d88_0 ?_
  refine wp_i2l d88_1 ?_
  refine wp_lconst d88_2 (v := lN 0) rfl ?_
  refine wp_aload_0 d88_3 ?_
  refine wp_getP d88_4 (Nat.le_of_ble_eq_true rfl) kM.1 rfl ?_
  refine wp_iconst d88_7 ic_1 ?_
  refine wp_isub d88_8 ?_
  refine wp_i2l d88_9 ?_
  refine wp_S3r d88_10 rfl ((m_in x (a := 0) (b := (stN : Int) - 1) (by decide) (pred64 (by omega)))) (Nat.le_of_ble_eq_true rfl) (Nat.le_of_ble_eq_true rfl) ?_
  exact wp_zret d88_13 rfl (by first | exact nI_01 | exact nI_11 | exact bi_01 _) rfl rfl
theorem m_isWalker (kM : KM σ m) {w : Nat} (h : w ≤ 5) (x : Int32) : Ev 1 0 0 90 [.ref m, .int x] (put σ m (m + 1) (mF m pm sta rdm st me tr mi slr (nI w) cha bm bc bl bch ask sn ks kw kt km hsh) (mA apg ade afo aro ale afi anf anl awh aod abo aof ama asd akr akl akf akd ako)) (some (.int (bi (inB x 0 ((w : Int) - 1))))) (put σ m (m + 1) (mF m pm sta rdm st me tr mi slr (nI w) cha bm bc bl bch ask sn ks kw kt km hsh) (mA apg ade afo aro ale afi anf anl awh aod abo aof ama asd akr akl akf akd ako)) := by
  refine ev_of (L := [(.ref m), (.int x)]) (by decide) rfl (Nat.le_of_ble_eq_true rfl) ?_
  refine wp_iload_1 d90_0 ?_
  refine wp_i2l d90_1 ?_
  refine wp_lconst d90_2 (v := lN 0) rfl ?_
  refine wp_aload_0 d90_3 ?_
  refine wp_getP d90_4 (Nat.le_of_ble_eq_true rfl) kM.1 rfl ?_
  refine wp_iconst d90_7 ic_1 ?_
  refine wp_isub d90_8 ?_
  refine wp_i2l d90_9 ?_
  refine wp_S3r d90_10 rfl ((m_in x (a := 0) (b := (w : Int) - 1) (by decide) (pred64 (by omega)))) (Nat.le_of_ble_eq_true rfl) (Nat.le_of_ble_eq_true rfl) ?_
  exact wp_zret d90_13 rfl (by first | exact nI_01 | exact nI_11 | exact bi_01 _) rfl rfl
theorem m_stretch (kM : KM σ m) {stN : Nat} {de : Nat → Nat} {fo : Nat → Option Nat} (h : stN ≤ 6) (x y : Int32) : Ev 2 0 0 89 [.ref m, .int x, .int y] (put σ m (m + 1) (mF m pm sta rdm (nI stN) me tr mi slr wa cha bm bc bl bch ask sn ks kw kt km hsh) (mA apg (arr 6 de) (arO 6 fo) aro ale afi anf anl awh aod abo aof ama asd akr akl akf akd ako)) (some (.int (if inB x 0 ((stN : Int) - 1) then r_stretch de fo x.toInt.toNat y else -101))) (put σ m (m + 1) (mF m pm sta rdm (nI stN) me tr mi slr wa cha bm bc bl bch ask sn ks kw kt km hsh) (mA apg (arr 6 de) (arO 6 fo) aro ale afi anf anl awh aod abo aof ama asd akr akl akf akd ako)) := by
  refine ev_of (L := [(.ref m), (.int x), (.int y)]) (by decide) rfl (Nat.le_of_ble_eq_true rfl) ?_
  refine wp_aload_0 d89_0 ?_
  refine wp_iload_1 d89_1 ?_
  refine wp_V1r d89_2 kM.1 ((m_isStretch kM h x)) (Nat.le_of_ble_eq_true rfl) (Nat.le_of_ble_eq_true rfl) ?_
  refine wp_if_neB d89_5 (by decide) (fun h5 => ?_) (fun h5 => ?_)
  · rw [h5, if_pos rfl]
    rw [inB_t] at h5
    obtain ⟨j, hj, rfl⟩ : ∃ j : Nat, j < stN ∧ x = nI j := ⟨x.toInt.toNat, by omega, nI_to h5.1⟩
    have ej : (nI j).toInt.toNat = j := by rw [nI_toInt (by omega)]; rfl
    rw [ej]
    unfold r_stretch
    refine wp_iload_2 d89_11 ?_
    refine wp_if_ne d89_12 (by decide) (fun h12 => ?_) (fun h12 => ?_)
    · have e0 : ¬ y.toInt = 0 := fun z => h12 ((eq_nI (a := 0) (by decide)).mpr z)
      rw [if_neg e0]
      refine wp_iload_2 d89_24 ?_
      refine wp_iconst d89_25 ic_1 ?_
      refine wp_icmp_ne d89_26 (by decide) (fun h26 => ?_) (fun h26 => ?_)
      · have e1 : ¬ y.toInt = 1 := fun z => h26 ((eq_nI (a := 1) (by decide)).mpr z)
        rw [if_neg e1]
        refine wp_bipush d89_38 bi_m102 ?_
        exact wp_iret d89_40 rfl rfl rfl
      · rw [if_pos (show y.toInt = 1 from (eq_nI (a := 1) (by decide)).mp h26)]
        refine wp_aload_0 d89_29 ?_
        refine wp_getP d89_30 (Nat.le_of_ble_eq_true rfl) kM.1 rfl ?_
        refine wp_iload_1 d89_33 ?_
        refine wp_aldP d89_34 (kM.2 _ (Nat.le_of_ble_eq_true rfl)) rfl (by omega) (by decide) ?_
        refine wp_goto d89_35 (by decide) ?_
        exact wp_iret d89_40 rfl rfl rfl
    · rw [if_pos (show y.toInt = 0 from (eq_nI (a := 0) (by decide)).mp h12)]
      refine wp_aload_0 d89_15 ?_
      refine wp_getP d89_16 (Nat.le_of_ble_eq_true rfl) kM.1 rfl ?_
      refine wp_iload_1 d89_19 ?_
      refine wp_aldP d89_20 (kM.2 _ (Nat.le_of_ble_eq_true rfl)) rfl (by omega) (by decide) ?_
      refine wp_goto d89_21 (by decide) ?_
      exact wp_iret d89_40 rfl rfl rfl
  · rw [h5, if_neg (by decide)]
    refine wp_bipush d89_8 bi_m101 ?_
    exact wp_iret d89_10 rfl rfl rfl
theorem m_placeOf (kM : KM σ m) {w v : Nat} {fi : Nat → Nat} (h5 : w ≤ 5) (hf : PF w fi) (hv : v < w) : Ev 0 0 0 93 [.ref m, .int (nI v)] (put σ m (m + 1) (mF m pm sta rdm st me tr mi slr wa cha bm bc bl bch ask sn ks kw kt km hsh) (mA apg ade afo aro ale (arr 5 fi) anf anl awh aod abo aof ama asd akr akl akf akd ako)) (some (.int (nI (pl w fi v)))) (put σ m (m + 1) (mF m pm sta rdm st me tr mi slr wa cha bm bc bl bch ask sn ks kw kt km hsh) (mA apg ade afo aro ale (arr 5 fi) anf anl awh aod abo aof ama asd akr akl akf akd ako)) := by
  have hp := PF_pl hf hv
  have loop : ∀ (n k : Nat), k + n = pl w fi v → WP 0 0 0 93 2 [.ref m, .int (nI v), .int (nI k)] [] (put σ m (m + 1) (mF m pm sta rdm st me tr mi slr wa cha bm bc bl bch ask sn ks kw kt km hsh) (mA apg ade afo aro ale (arr 5 fi) anf anl awh aod abo aof ama asd akr akl akf akd ako)) (some (.int (nI (pl w fi v)))) (put σ m (m + 1) (mF m pm sta rdm st me tr mi slr wa cha bm bc bl bch ask sn ks kw kt km hsh) (mA apg ade afo aro ale (arr 5 fi) anf anl awh aod abo aof ama asd akr akl akf akd ako)) := by
    intro n
    induction n with
    | zero =>
      intro k hk
      have e : k = pl w fi v := by omega
      have := hf.1 k (by omega)
      subst e
      refine wp_aload_0 d93_2 ?_
      refine wp_getP d93_3 (Nat.le_of_ble_eq_true rfl) kM.1 rfl ?_
      refine wp_iload_2 d93_6 ?_
      refine wp_aldP d93_7 (kM.2 _ (Nat.le_of_ble_eq_true rfl)) rfl (by omega) (by decide) ?_
      refine wp_iload_1 d93_8 ?_
      refine wp_icmp_eqN d93_9 (by decide) (by omega) (by omega) (fun h9 => ?_) (fun hq => absurd hq (fun hq => hq hp.2))
      refine wp_iload_2 d93_18 ?_
      exact wp_iret d93_19 rfl rfl rfl
    | succ n ih =>
      intro k hk
      have := hf.1 k (by omega)
      refine wp_aload_0 d93_2 ?_
      refine wp_getP d93_3 (Nat.le_of_ble_eq_true rfl) kM.1 rfl ?_
      refine wp_iload_2 d93_6 ?_
      refine wp_aldP d93_7 (kM.2 _ (Nat.le_of_ble_eq_true rfl)) rfl (by omega) (by decide) ?_
      refine wp_iload_1 d93_8 ?_
      refine wp_icmp_eqN d93_9 (by decide) (by omega) (by omega) (fun h9 => ?_) (fun h9 => ?_)
      · exfalso
        have := pl_eq hf.2.1 (show k < w by omega)
        rw [h9] at this
        omega
      · refine wp_iinc_2 d93_12 (Nat.le_of_ble_eq_true rfl) rfl (inc1 _) ?_
        refine wp_goto d93_15 (by decide) ?_
        exact ih (k + 1) (by omega)
  refine ev_of (L := [(.ref m), (.int (nI v)), .null]) (by decide) rfl (Nat.le_of_ble_eq_true rfl) ?_
  refine wp_iconst d93_0 ic_0 ?_
  refine wp_istore_2 d93_1 (Nat.le_of_ble_eq_true rfl) rfl ?_
  exact loop (pl w fi v) 0 (by omega)
theorem m_firstsOf (kM : KM σ m) {trN v : Nat} {fo : Nat → Option Nat} (h6 : trN ≤ 6) (hv : v < 5) (hfo : ∀ k, k < trN → ∀ j, fo k = some j → j < 2 ^ 31) : Ev 0 0 0 94 [.ref m, .int (nI v)] (put σ m (m + 1) (mF m pm sta rdm st me (nI trN) mi slr wa cha bm bc bl bch ask sn ks kw kt km hsh) (mA apg ade (arO 6 fo) aro ale afi anf anl awh aod abo aof ama asd akr akl akf akd ako)) (some (.int (nI (frN fo v trN)))) (put σ m (m + 1) (mF m pm sta rdm st me (nI trN) mi slr wa cha bm bc bl bch ask sn ks kw kt km hsh) (mA apg ade (arO 6 fo) aro ale afi anf anl awh aod abo aof ama asd akr akl akf akd ako)) := by
  have loop : ∀ (n k : Nat), k + n = trN → WP 0 0 0 94 4 [.ref m, .int (nI v), .int (nI (frN fo v k)), .int (nI k)] [] (put σ m (m + 1) (mF m pm sta rdm st me (nI trN) mi slr wa cha bm bc bl bch ask sn ks kw kt km hsh) (mA apg ade (arO 6 fo) aro ale afi anf anl awh aod abo aof ama asd akr akl akf akd ako)) (some (.int (nI (frN fo v trN)))) (put σ m (m + 1) (mF m pm sta rdm st me (nI trN) mi slr wa cha bm bc bl bch ask sn ks kw kt km hsh) (mA apg ade (arO 6 fo) aro ale afi anf anl awh aod abo aof ama asd akr akl akf akd ako)) := by
    intro n
    induction n with
    | zero =>
      intro k hk
      have e : k = trN := by omega
      subst e
      refine wp_iload_3 d94_4 ?_
      refine wp_aload_0 d94_5 ?_
      refine wp_getP d94_6 (Nat.le_of_ble_eq_true rfl) kM.1 rfl ?_
      refine wp_icmp_geN d94_9 (by decide) (by omega) (by omega) (fun h9 => ?_) (fun hq => absurd hq (by omega))
      refine wp_iload_2 d94_36 ?_
      exact wp_iret d94_37 rfl rfl rfl
    | succ n ih =>
      intro k hk
      have hb := hfo k (by omega)
      refine wp_iload_3 d94_4 ?_
      refine wp_aload_0 d94_5 ?_
      refine wp_getP d94_6 (Nat.le_of_ble_eq_true rfl) kM.1 rfl ?_
      refine wp_icmp_geN d94_9 (by decide) (by omega) (by omega) (fun hq => absurd hq (by omega)) (fun h9 => ?_)
      refine wp_iload_2 d94_12 ?_
      refine wp_aload_0 d94_13 ?_
      refine wp_getP d94_14 (Nat.le_of_ble_eq_true rfl) kM.1 rfl ?_
      refine wp_iload_3 d94_17 ?_
      refine wp_aldP d94_18 (kM.2 _ (Nat.le_of_ble_eq_true rfl)) rfl (by omega) (by decide) ?_
      refine wp_iload_1 d94_19 ?_
      refine wp_icmp_ne d94_20 (by decide) (fun h20 => ?_) (fun h20 => ?_)
      · have e : ¬ fo k = some v := fun z => h20 ((eo_some (by omega) hb).mpr z)
        refine wp_iconst d94_27 ic_0 ?_
        refine wp_iaddN d94_28 ?_
        refine wp_istore_2 d94_29 (Nat.le_of_ble_eq_true rfl) rfl ?_
        refine wp_iinc_3 d94_30 (Nat.le_of_ble_eq_true rfl) rfl (inc1 _) ?_
        refine wp_goto d94_33 (by decide) ?_
        rw [show frN fo v k + 0 = frN fo v (k + 1) by simp [frN, e]]
        exact ih (k + 1) (by omega)
      · have e : fo k = some v := (eo_some (by omega) hb).mp h20
        refine wp_iconst d94_23 ic_1 ?_
        refine wp_goto d94_24 (by decide) ?_
        refine wp_iaddN d94_28 ?_
        refine wp_istore_2 d94_29 (Nat.le_of_ble_eq_true rfl) rfl ?_
        refine wp_iinc_3 d94_30 (Nat.le_of_ble_eq_true rfl) rfl (inc1 _) ?_
        refine wp_goto d94_33 (by decide) ?_
        rw [show frN fo v k + 1 = frN fo v (k + 1) by simp [frN, e]]
        exact ih (k + 1) (by omega)
  refine ev_of (L := [(.ref m), (.int (nI v)), .null, .null]) (by decide) rfl (Nat.le_of_ble_eq_true rfl) ?_
  refine wp_iconst d94_0 ic_0 ?_
  refine wp_istore_2 d94_1 (Nat.le_of_ble_eq_true rfl) rfl ?_
  refine wp_iconst d94_2 ic_0 ?_
  refine wp_istore_3 d94_3 (Nat.le_of_ble_eq_true rfl) rfl ?_
  exact loop trN 0 (by omega)

end S06_mo2b
