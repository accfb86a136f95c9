section S05_mo1
variable {σ : Sto} {m : Nat} {pm sta rdm st me tr mi slr wa cha bm bc bl bch ask sn ks kw kt km : Int32} {hsh : Int64} {apg ade afo aro ale afi anf anl awh aod abo aof ama asd akr akl akf akd ako : List Int32}

theorem m_turns (kM : KM σ m) {w : Nat} {nf : Nat → Nat} (h1 : 1 ≤ w) (h5 : w ≤ 5) : Ev 0 0 0 100 [.ref m] (put σ m (m + 1) (mF m pm sta rdm st me tr mi slr (nI w) cha bm bc bl bch ask sn ks kw kt km hsh) (mA apg ade afo aro ale afi (arr 5 nf) anl awh aod abo aof ama asd akr akl akf akd ako)) none (put σ m (m + 1) (mF m pm sta rdm st me tr mi slr (nI w) cha bm bc bl bch ask sn ks kw kt km hsh) (mA apg ade afo aro ale afi (arr 5 (rot w nf)) anl awh aod abo aof ama asd akr akl akf akd ako)) := by
  have loop : ∀ (n k : Nat) (g : Nat → Nat), k + n = w → 1 ≤ k → (∀ j, g j = if j + 1 < k then nf (j + 1) else nf j) → WP 0 0 0 100 9 [.ref m, .int (nI (nf 0)), .int (nI k)] [] (put σ m (m + 1) (mF m pm sta rdm st me tr mi slr (nI w) cha bm bc bl bch ask sn ks kw kt km hsh) (mA apg ade afo aro ale afi (arr 5 g) anl awh aod abo aof ama asd akr akl akf akd ako)) none (put σ m (m + 1) (mF m pm sta rdm st me tr mi slr (nI w) cha bm bc bl bch ask sn ks kw kt km hsh) (mA apg ade afo aro ale afi (arr 5 (rot w nf)) anl awh aod abo aof ama asd akr akl akf akd ako)) := by
    intro n
    induction n with
    | zero =>
      intro k g hk hk1 hg
      refine wp_iload_2 d100_9 ?_
      refine wp_aload_0 d100_10 ?_
      refine wp_getP d100_11 (Nat.le_of_ble_eq_true rfl) kM.1 rfl ?_
      refine wp_icmp_geN d100_14 (by decide) (by omega) (by omega) (fun h14 => ?_) (fun hq => absurd hq (by omega))
      refine wp_aload_0 d100_37 ?_
      refine wp_getP d100_38 (Nat.le_of_ble_eq_true rfl) kM.1 rfl ?_
      refine wp_aload_0 d100_41 ?_
      refine wp_getP d100_42 (Nat.le_of_ble_eq_true rfl) kM.1 rfl ?_
      refine wp_iconst d100_45 ic_1 ?_
      refine wp_isubN d100_46 (by omega) ?_
      refine wp_iload_1 d100_47 ?_
      refine wp_astN d100_48 (kM.2 _ (Nat.le_of_ble_eq_true rfl)) rfl (by omega) (by decide) ?_
      refine WP.s ?_ (wp_vret d100_49 rfl rfl rfl)
      show (put σ m (m + 1) (mF m pm sta rdm st me tr mi slr (nI w) cha bm bc bl bch ask sn ks kw kt km hsh) (mA apg ade afo aro ale afi (arr 5 (rot w nf)) anl awh aod abo aof ama asd akr akl akf akd ako)) = (put σ m (m + 1) (mF m pm sta rdm st me tr mi slr (nI w) cha bm bc bl bch ask sn ks kw kt km hsh) (mA apg ade afo aro ale afi (arr 5 (up g (w - 1) (nf 0))) anl awh aod abo aof ama asd akr akl akf akd ako))
      rw [arr_ext (f := rot w nf) (g := up g (w - 1) (nf 0))]
      intro j hj
      unfold rot up
      grind
    | succ n ih =>
      intro k g hk hk1 hg
      refine wp_iload_2 d100_9 ?_
      refine wp_aload_0 d100_10 ?_
      refine wp_getP d100_11 (Nat.le_of_ble_eq_true rfl) kM.1 rfl ?_
      refine wp_icmp_geN d100_14 (by decide) (by omega) (by omega) (fun hq => absurd hq (by omega)) (fun h14 => ?_)
      refine wp_aload_0 d100_17 ?_
      refine wp_getP d100_18 (Nat.le_of_ble_eq_true rfl) kM.1 rfl ?_
      refine wp_iload_2 d100_21 ?_
      refine wp_iconst d100_22 ic_1 ?_
      refine wp_isubN d100_23 (by omega) ?_
      refine wp_aload_0 d100_24 ?_
      refine wp_getP d100_25 (Nat.le_of_ble_eq_true rfl) kM.1 rfl ?_
      refine wp_iload_2 d100_28 ?_
      refine wp_aldP d100_29 (kM.2 _ (Nat.le_of_ble_eq_true rfl)) rfl (by omega) (by decide) ?_
      refine wp_astN d100_30 (kM.2 _ (Nat.le_of_ble_eq_true rfl)) rfl (by omega) (by decide) ?_
      refine wp_iinc_2 d100_31 (Nat.le_of_ble_eq_true rfl) rfl (inc1 _) ?_
      refine wp_goto d100_34 (by decide) ?_
      exact ih (k + 1) _ (by omega) (by omega) (fun j => by unfold up; grind)
  refine ev_of (L := [(.ref m), .null, .null]) (by decide) rfl (Nat.le_of_ble_eq_true rfl) ?_
  refine wp_aload_0 d100_0 ?_
  refine wp_getP d100_1 (Nat.le_of_ble_eq_true rfl) kM.1 rfl ?_
  refine wp_iconst d100_4 ic_0 ?_
  refine wp_aldP d100_5 (kM.2 _ (Nat.le_of_ble_eq_true rfl)) rfl (by omega) (by decide) ?_
  refine wp_istore_1 d100_6 (Nat.le_of_ble_eq_true rfl) rfl ?_
  refine wp_iconst d100_7 ic_1 ?_
  refine wp_istore_2 d100_8 (Nat.le_of_ble_eq_true rfl) rfl ?_
  exact loop (w - 1) 1 nf (by omega) (by omega) (fun j => by grind)
theorem m_asItIs (kM : KM σ m) {fi le nf nl : Nat → Nat} : Ev 0 0 0 98 [.ref m] (put σ m (m + 1) (mF m pm sta rdm st me tr mi slr wa cha bm bc bl bch ask sn ks kw kt km hsh) (mA apg ade afo aro (arr 5 le) (arr 5 fi) (arr 5 nf) (arr 5 nl) awh aod abo aof ama asd akr akl akf akd ako)) none (put σ m (m + 1) (mF m pm sta rdm st me tr mi slr wa cha bm bc bl bch ask sn ks kw kt km hsh) (mA apg ade afo aro (arr 5 le) (arr 5 fi) (arr 5 fi) (arr 5 le) awh aod abo aof ama asd akr akl akf akd ako)) := by
  have loop : ∀ (n k : Nat) (f1 f2 : Nat → Nat), k + n = 5 → (∀ j, j < k → f1 j = fi j) → (∀ j, j < k → f2 j = le j) → WP 0 0 0 98 2 [.ref m, .int (nI k)] [] (put σ m (m + 1) (mF m pm sta rdm st me tr mi slr wa cha bm bc bl bch ask sn ks kw kt km hsh) (mA apg ade afo aro (arr 5 le) (arr 5 fi) (arr 5 f1) (arr 5 f2) awh aod abo aof ama asd akr akl akf akd ako)) none (put σ m (m + 1) (mF m pm sta rdm st me tr mi slr wa cha bm bc bl bch ask sn ks kw kt km hsh) (mA apg ade afo aro (arr 5 le) (arr 5 fi) (arr 5 fi) (arr 5 le) awh aod abo aof ama asd akr akl akf akd ako)) := by
    intro n
    induction n with
    | zero =>
      intro k f1 f2 hk h1 h2
      refine wp_iload_1 d98_2 ?_
      refine wp_iconst d98_3 ic_5 ?_
      refine wp_icmp_geN d98_4 (by decide) (by omega) (by omega) (fun h4 => ?_) (fun hq => absurd hq (by omega))
      refine WP.s ?_ (wp_vret d98_37 rfl rfl rfl)
      rw [arr_ext (f := f1) (g := fi) (fun j hj => h1 j (by omega)), arr_ext (f := f2) (g := le) (fun j hj => h2 j (by omega))]
    | succ n ih =>
      intro k f1 f2 hk h1 h2
      refine wp_iload_1 d98_2 ?_
      refine wp_iconst d98_3 ic_5 ?_
      refine wp_icmp_geN d98_4 (by decide) (by omega) (by omega) (fun hq => absurd hq (by omega)) (fun h4 => ?_)
      refine wp_aload_0 d98_7 ?_
      refine wp_getP d98_8 (Nat.le_of_ble_eq_true rfl) kM.1 rfl ?_
      refine wp_iload_1 d98_11 ?_
      refine wp_aload_0 d98_12 ?_
      refine wp_getP d98_13 (Nat.le_of_ble_eq_true rfl) kM.1 rfl ?_
      refine wp_iload_1 d98_16 ?_
      refine wp_aldP d98_17 (kM.2 _ (Nat.le_of_ble_eq_true rfl)) rfl (by omega) (by decide) ?_
      refine wp_astN d98_18 (kM.2 _ (Nat.le_of_ble_eq_true rfl)) rfl (by omega) (by decide) ?_
      refine wp_aload_0 d98_19 ?_
      refine wp_getP d98_20 (Nat.le_of_ble_eq_true rfl) kM.1 rfl ?_
      refine wp_iload_1 d98_23 ?_
      refine wp_aload_0 d98_24 ?_
      refine wp_getP d98_25 (Nat.le_of_ble_eq_true rfl) kM.1 rfl ?_
      refine wp_iload_1 d98_28 ?_
      refine wp_aldP d98_29 (kM.2 _ (Nat.le_of_ble_eq_true rfl)) rfl (by omega) (by decide) ?_
      refine wp_astN d98_30 (kM.2 _ (Nat.le_of_ble_eq_true rfl)) rfl (by omega) (by decide) ?_
      refine wp_iinc_1 d98_31 (Nat.le_of_ble_eq_true rfl) rfl (inc1 _) ?_
      refine wp_goto d98_34 (by decide) ?_
      exact ih (k + 1) _ _ (by omega) (fun j hj => by unfold up; grind) (fun j hj => by unfold up; grind)
  refine ev_of (L := [(.ref m), .null]) (by decide) rfl (Nat.le_of_ble_eq_true rfl) ?_
  refine wp_iconst d98_0 ic_0 ?_
  refine wp_istore_1 d98_1 (Nat.le_of_ble_eq_true rfl) rfl ?_
  exact loop 5 0 nf nl rfl (fun j hj => by omega) (fun j hj => by omega)
theorem m_layNow (kM : KM σ m) {fi le nf nl : Nat → Nat} : Ev 0 0 0 99 [.ref m] (put σ m (m + 1) (mF m pm sta rdm st me tr mi slr wa cha bm bc bl bch ask sn ks kw kt km hsh) (mA apg ade afo aro (arr 5 le) (arr 5 fi) (arr 5 nf) (arr 5 nl) awh aod abo aof ama asd akr akl akf akd ako)) none (put σ m (m + 1) (mF m pm sta rdm st me tr mi slr wa cha bm bc bl bch ask sn ks kw kt km hsh) (mA apg ade afo aro (arr 5 nl) (arr 5 nf) (arr 5 nf) (arr 5 nl) awh aod abo aof ama asd akr akl akf akd ako)) := by
  have loop : ∀ (n k : Nat) (f1 f2 : Nat → Nat), k + n = 5 → (∀ j, j < k → f1 j = nf j) → (∀ j, j < k → f2 j = nl j) → WP 0 0 0 99 2 [.ref m, .int (nI k)] [] (put σ m (m + 1) (mF m pm sta rdm st me tr mi slr wa cha bm bc bl bch ask sn ks kw kt km hsh) (mA apg ade afo aro (arr 5 f2) (arr 5 f1) (arr 5 nf) (arr 5 nl) awh aod abo aof ama asd akr akl akf akd ako)) none (put σ m (m + 1) (mF m pm sta rdm st me tr mi slr wa cha bm bc bl bch ask sn ks kw kt km hsh) (mA apg ade afo aro (arr 5 nl) (arr 5 nf) (arr 5 nf) (arr 5 nl) awh aod abo aof ama asd akr akl akf akd ako)) := by
    intro n
    induction n with
    | zero =>
      intro k f1 f2 hk h1 h2
      refine wp_iload_1 d99_2 ?_
      refine wp_iconst d99_3 ic_5 ?_
      refine wp_icmp_geN d99_4 (by decide) (by omega) (by omega) (fun h4 => ?_) (fun hq => absurd hq (by omega))
      refine WP.s ?_ (wp_vret d99_37 rfl rfl rfl)
      rw [arr_ext (f := f1) (g := nf) (fun j hj => h1 j (by omega)), arr_ext (f := f2) (g := nl) (fun j hj => h2 j (by omega))]
    | succ n ih =>
      intro k f1 f2 hk h1 h2
      refine wp_iload_1 d99_2 ?_
      refine wp_iconst d99_3 ic_5 ?_
      refine wp_icmp_geN d99_4 (by decide) (by omega) (by omega) (fun hq => absurd hq (by omega)) (fun h4 => ?_)
      refine wp_aload_0 d99_7 ?_
      refine wp_getP d99_8 (Nat.le_of_ble_eq_true rfl) kM.1 rfl ?_
      refine wp_iload_1 d99_11 ?_
      refine wp_aload_0 d99_12 ?_
      refine wp_getP d99_13 (Nat.le_of_ble_eq_true rfl) kM.1 rfl ?_
      refine wp_iload_1 d99_16 ?_
      refine wp_aldP d99_17 (kM.2 _ (Nat.le_of_ble_eq_true rfl)) rfl (by omega) (by decide) ?_
      refine wp_astN d99_18 (kM.2 _ (Nat.le_of_ble_eq_true rfl)) rfl (by omega) (by decide) ?_
      refine wp_aload_0 d99_19 ?_
      refine wp_getP d99_20 (Nat.le_of_ble_eq_true rfl) kM.1 rfl ?_
      refine wp_iload_1 d99_23 ?_
      refine wp_aload_0 d99_24 ?_
      refine wp_getP d99_25 (Nat.le_of_ble_eq_true rfl) kM.1 rfl ?_
      refine wp_iload_1 d99_28 ?_
      refine wp_aldP d99_29 (kM.2 _ (Nat.le_of_ble_eq_true rfl)) rfl (by omega) (by decide) ?_
      refine wp_astN d99_30 (kM.2 _ (Nat.le_of_ble_eq_true rfl)) rfl (by omega) (by decide) ?_
      refine wp_iinc_1 d99_31 (Nat.le_of_ble_eq_true rfl) rfl (inc1 _) ?_
      refine wp_goto d99_34 (by decide) ?_
      exact ih (k + 1) _ _ (by omega) (fun j hj => by unfold up; grind) (fun j hj => by unfold up; grind)
  refine ev_of (L := [(.ref m), .null]) (by decide) rfl (Nat.le_of_ble_eq_true rfl) ?_
  refine wp_iconst d99_0 ic_0 ?_
  refine wp_istore_1 d99_1 (Nat.le_of_ble_eq_true rfl) rfl ?_
  exact loop 5 0 fi le rfl (fun j hj => by omega) (fun j hj => by omega)

theorem m_paysAtF (kM : KM σ m) {ki sr fi : Nat → Nat} {to : Nat → Option Nat} {p dp : Nat} (hp : p < 5) (hf : fi p < 5) (hf1 : p ≠ 0 → fi (p - 1) < 5) (hk : ki (fi p) < 5) (hk1 : p ≠ 0 → ki (fi (p - 1)) < 5) (hdp : dp < 100) : Ev 0 0 0 92 [.ref m, .ref (m + 1 + 5), .int (nI p), .int (nI dp)] (put σ m (m + 1) (mF m pm sta rdm st me tr mi slr wa cha bm bc bl bch ask sn ks kw kt km hsh) (mA apg ade afo (arrI 15 (rw3 ki sr to)) ale (arr 5 fi) anf anl awh aod abo aof ama asd akr akl akf akd ako)) (some (.int (nI (payN ki fi p dp)))) (put σ m (m + 1) (mF m pm sta rdm st me tr mi slr wa cha bm bc bl bch ask sn ks kw kt km hsh) (mA apg ade afo (arrI 15 (rw3 ki sr to)) ale (arr 5 fi) anf anl awh aod abo aof ama asd akr akl akf akd ako)) := by
  have join : ∀ (h : Nat) (u6 u7 : Value), h ≤ 4 → WP 0 0 0 92 63 [.ref m, .ref (m + 1 + 5), .int (nI p), .int (nI dp), .int (nI (fi p)), .int (nI (ki (fi p))), u6, u7] [.int (nI h)] (put σ m (m + 1) (mF m pm sta rdm st me tr mi slr wa cha bm bc bl bch ask sn ks kw kt km hsh) (mA apg ade afo (arrI 15 (rw3 ki sr to)) ale (arr 5 fi) anf anl awh aod abo aof ama asd akr akl akf akd ako)) (some (.int (nI ((dp + 2 ^ h - 1) / 2 ^ h)))) (put σ m (m + 1) (mF m pm sta rdm st me tr mi slr wa cha bm bc bl bch ask sn ks kw kt km hsh) (mA apg ade afo (arrI 15 (rw3 ki sr to)) ale (arr 5 fi) anf anl awh aod abo aof ama asd akr akl akf akd ako)) := by
    intro h u6 u7 hh
    have b1 : 1 ≤ 2 ^ h := Nat.one_le_two_pow
    have b2 : 2 ^ h ≤ 2 ^ 4 := Nat.pow_le_pow_right (by decide) hh
    refine wp_istore_6 d92_63 (Nat.le_of_ble_eq_true rfl) rfl ?_
    refine wp_iconst d92_65 ic_1 ?_
    refine wp_iload_6 d92_66 ?_
    refine wp_ishlN d92_68 (by omega) (by omega) ?_
    refine wp_istore_7 d92_69 (Nat.le_of_ble_eq_true rfl) rfl ?_
    rw [Nat.one_mul]
    refine wp_iload_3 d92_71 ?_
    refine wp_iload_7 d92_72 ?_
    refine wp_iaddN d92_74 ?_
    refine wp_iconst d92_75 ic_1 ?_
    refine wp_isubN d92_76 (by omega) ?_
    refine wp_iload_7 d92_77 ?_
    refine wp_idivN d92_79 (by omega) (by omega) (by omega) ?_
    exact wp_iret d92_80 rfl rfl rfl
  refine ev_of (L := [(.ref m), (.ref (m + 1 + 5)), (.int (nI p)), (.int (nI dp)), .null, .null, .null, .null]) (by decide) rfl (Nat.le_of_ble_eq_true rfl) ?_
  refine wp_aload_1 d92_0 ?_
  refine wp_iload_2 d92_1 ?_
  refine wp_aldP d92_2 (kM.2 _ (Nat.le_of_ble_eq_true rfl)) rfl (by omega) (by decide) ?_
  refine wp_istore_4 d92_3 (Nat.le_of_ble_eq_true rfl) rfl ?_
  refine wp_aload_0 d92_5 ?_
  refine wp_getP d92_6 (Nat.le_of_ble_eq_true rfl) kM.1 rfl ?_
  refine wp_iconst d92_9 ic_3 ?_
  refine wp_iload_4 d92_10 ?_
  refine wp_imulN d92_12 ?_
  refine wp_aldP d92_13 (kM.2 _ (Nat.le_of_ble_eq_true rfl)) rfl (by omega) (by decide) ?_
  rw [rw_0]
  refine wp_istore_5 d92_14 (Nat.le_of_ble_eq_true rfl) rfl ?_
  refine wp_iload_2 d92_16 ?_
  refine wp_if_neN d92_17 (by decide) (by omega) (fun h17 => ?_) (fun h17 => ?_)
  · refine wp_iload_2 d92_30 ?_
    refine wp_if_leN d92_31 (by decide) (by omega) (fun h31 => ?_) (fun h31 => ?_)
    · exact absurd h31 h17
    · refine wp_iload_5 d92_34 ?_
      refine wp_iconst d92_36 ic_1 ?_
      have := hf1 h17
      refine wp_icmp_neN d92_37 (by decide) (by omega) (by omega) (fun h37 => ?_) (fun h37 => ?_)
      · refine wp_iload_2 d92_62 ?_
        refine WP.r ?_ (join p _ _ (by omega))
        simp [payN, hvN, h17, h37]
      · refine wp_aload_0 d92_40 ?_
        refine wp_getP d92_41 (Nat.le_of_ble_eq_true rfl) kM.1 rfl ?_
        refine wp_iconst d92_44 ic_3 ?_
        refine wp_aload_1 d92_45 ?_
        refine wp_iload_2 d92_46 ?_
        refine wp_iconst d92_47 ic_1 ?_
        refine wp_isubN d92_48 (by omega) ?_
        refine wp_aldP d92_49 (kM.2 _ (Nat.le_of_ble_eq_true rfl)) rfl (by omega) (by decide) ?_
        refine wp_imulN d92_50 ?_
        refine wp_aldP d92_51 (kM.2 _ (Nat.le_of_ble_eq_true rfl)) rfl (by omega) (by decide) ?_
        rw [rw_0]
        have := hk1 h17
        refine wp_iconst d92_52 ic_4 ?_
        refine wp_icmp_neN d92_53 (by decide) (by omega) (by omega) (fun h53 => ?_) (fun h53 => ?_)
        · refine wp_iload_2 d92_62 ?_
          refine WP.r ?_ (join p _ _ (by omega))
          simp [payN, hvN, h17, h37, h53]
        · refine wp_iload_2 d92_56 ?_
          refine wp_iconst d92_57 ic_1 ?_
          refine wp_isubN d92_58 (by omega) ?_
          refine wp_goto d92_59 (by decide) ?_
          refine WP.r ?_ (join (p - 1) _ _ (by omega))
          simp [payN, hvN, h17, h37, h53]
  · subst h17
    refine wp_iload_5 d92_20 ?_
    refine wp_iconst d92_22 ic_2 ?_
    refine wp_icmp_leN d92_23 (by decide) (by omega) (by omega) (fun h23 => ?_) (fun h23 => ?_)
    · refine wp_iload_2 d92_30 ?_
      refine wp_if_leN d92_31 (by decide) (by omega) (fun h31 => ?_) (fun h31 => ?_)
      · refine wp_iload_2 d92_62 ?_
        refine WP.r ?_ (join 0 _ _ (by omega))
        simp [payN, hvN, show ¬ 2 < ki (fi 0) by omega]
      · exact absurd rfl h31
    · refine wp_iconst d92_26 ic_1 ?_
      refine wp_goto d92_27 (by decide) ?_
      refine WP.r ?_ (join 1 _ _ (by omega))
      simp [payN, hvN, h23]

theorem m_paysAtN (kM : KM σ m) {ki sr fi : Nat → Nat} {to : Nat → Option Nat} {p dp : Nat} (hp : p < 5) (hf : fi p < 5) (hf1 : p ≠ 0 → fi (p - 1) < 5) (hk : ki (fi p) < 5) (hk1 : p ≠ 0 → ki (fi (p - 1)) < 5) (hdp : dp < 100) : Ev 0 0 0 92 [.ref m, .ref (m + 1 + 6), .int (nI p), .int (nI dp)] (put σ m (m + 1) (mF m pm sta rdm st me tr mi slr wa cha bm bc bl bch ask sn ks kw kt km hsh) (mA apg ade afo (arrI 15 (rw3 ki sr to)) ale afi (arr 5 fi) anl awh aod abo aof ama asd akr akl akf akd ako)) (some (.int (nI (payN ki fi p dp)))) (put σ m (m + 1) (mF m pm sta rdm st me tr mi slr wa cha bm bc bl bch ask sn ks kw kt km hsh) (mA apg ade afo (arrI 15 (rw3 ki sr to)) ale afi (arr 5 fi) anl awh aod abo aof ama asd akr akl akf akd ako)) := by
  have join : ∀ (h : Nat) (u6 u7 : Value), h ≤ 4 → WP 0 0 0 92 63 [.ref m, .ref (m + 1 + 6), .int (nI p), .int (nI dp), .int (nI (fi p)), .int (nI (ki (fi p))), u6, u7] [.int (nI h)] (put σ m (m + 1) (mF m pm sta rdm st me tr mi slr wa cha bm bc bl bch ask sn ks kw kt km hsh) (mA apg ade afo (arrI 15 (rw3 ki sr to)) ale afi (arr 5 fi) anl awh aod abo aof ama asd akr akl akf akd ako)) (some (.int (nI ((dp + 2 ^ h - 1) / 2 ^ h)))) (put σ m (m + 1) (mF m pm sta rdm st me tr mi slr wa cha bm bc bl bch ask sn ks kw kt km hsh) (mA apg ade afo (arrI 15 (rw3 ki sr to)) ale afi (arr 5 fi) anl awh aod abo aof ama asd akr akl akf akd ako)) := by
    intro h u6 u7 hh
    have b1 : 1 ≤ 2 ^ h := Nat.one_le_two_pow
    have b2 : 2 ^ h ≤ 2 ^ 4 := Nat.pow_le_pow_right (by decide) hh
    refine wp_istore_6 d92_63 (Nat.le_of_ble_eq_true rfl) rfl ?_
    refine wp_iconst d92_65 ic_1 ?_
    refine wp_iload_6 d92_66 ?_
    refine wp_ishlN d92_68 (by omega) (by omega) ?_
    refine wp_istore_7 d92_69 (Nat.le_of_ble_eq_true rfl) rfl ?_
    rw [Nat.one_mul]
    refine wp_iload_3 d92_71 ?_
    refine wp_iload_7 d92_72 ?_
    refine wp_iaddN d92_74 ?_
    refine wp_iconst d92_75 ic_1 ?_
    refine wp_isubN d92_76 (by omega) ?_
    refine wp_iload_7 d92_77 ?_
    refine wp_idivN d92_79 (by omega) (by omega) (by omega) ?_
    exact wp_iret d92_80 rfl rfl rfl
  refine ev_of (L := [(.ref m), (.ref (m + 1 + 6)), (.int (nI p)), (.int (nI dp)), .null, .null, .null, .null]) (by decide) rfl (Nat.le_of_ble_eq_true rfl) ?_
  refine wp_aload_1 d92_0 ?_
  refine wp_iload_2 d92_1 ?_
  refine wp_aldP d92_2 (kM.2 _ (Nat.le_of_ble_eq_true rfl)) rfl (by omega) (by decide) ?_
  refine wp_istore_4 d92_3 (Nat.le_of_ble_eq_true rfl) rfl ?_
  refine wp_aload_0 d92_5 ?_
  refine wp_getP d92_6 (Nat.le_of_ble_eq_true rfl) kM.1 rfl ?_
  refine wp_iconst d92_9 ic_3 ?_
  refine wp_iload_4 d92_10 ?_
  refine wp_imulN d92_12 ?_
  refine wp_aldP d92_13 (kM.2 _ (Nat.le_of_ble_eq_true rfl)) rfl (by omega) (by decide) ?_
  rw [rw_0]
  refine wp_istore_5 d92_14 (Nat.le_of_ble_eq_true rfl) rfl ?_
  refine wp_iload_2 d92_16 ?_
  refine wp_if_neN d92_17 (by decide) (by omega) (fun h17 => ?_) (fun h17 => ?_)
  · refine wp_iload_2 d92_30 ?_
    refine wp_if_leN d92_31 (by decide) (by omega) (fun h31 => ?_) (fun h31 => ?_)
    · exact absurd h31 h17
    · refine wp_iload_5 d92_34 ?_
      refine wp_iconst d92_36 ic_1 ?_
      have := hf1 h17
      refine wp_icmp_neN d92_37 (by decide) (by omega) (by omega) (fun h37 => ?_) (fun h37 => ?_)
      · refine wp_iload_2 d92_62 ?_
        refine WP.r ?_ (join p _ _ (by omega))
        simp [payN, hvN, h17, h37]
      · refine wp_aload_0 d92_40 ?_
        refine wp_getP d92_41 (Nat.le_of_ble_eq_true rfl) kM.1 rfl ?_
        refine wp_iconst d92_44 ic_3 ?_
        refine wp_aload_1 d92_45 ?_
        refine wp_iload_2 d92_46 ?_
        refine wp_iconst d92_47 ic_1 ?_
        refine wp_isubN d92_48 (by omega) ?_
        refine wp_aldP d92_49 (kM.2 _ (Nat.le_of_ble_eq_true rfl)) rfl (by omega) (by decide) ?_
        refine wp_imulN d92_50 ?_
        refine wp_aldP d92_51 (kM.2 _ (Nat.le_of_ble_eq_true rfl)) rfl (by omega) (by decide) ?_
        rw [rw_0]
        have := hk1 h17
        refine wp_iconst d92_52 ic_4 ?_
        refine wp_icmp_neN d92_53 (by decide) (by omega) (by omega) (fun h53 => ?_) (fun h53 => ?_)
        · refine wp_iload_2 d92_62 ?_
          refine WP.r ?_ (join p _ _ (by omega))
          simp [payN, hvN, h17, h37, h53]
        · refine wp_iload_2 d92_56 ?_
          refine wp_iconst d92_57 ic_1 ?_
          refine wp_isubN d92_58 (by omega) ?_
          refine wp_goto d92_59 (by decide) ?_
          refine WP.r ?_ (join (p - 1) _ _ (by omega))
          simp [payN, hvN, h17, h37, h53]
  · subst h17
    refine wp_iload_5 d92_20 ?_
    refine wp_iconst d92_22 ic_2 ?_
    refine wp_icmp_leN d92_23 (by decide) (by omega) (by omega) (fun h23 => ?_) (fun h23 => ?_)
    · refine wp_iload_2 d92_30 ?_
      refine wp_if_leN d92_31 (by decide) (by omega) (fun h31 => ?_) (fun h31 => ?_)
      · refine wp_iload_2 d92_62 ?_
        refine WP.r ?_ (join 0 _ _ (by omega))
        simp [payN, hvN, show ¬ 2 < ki (fi 0) by omega]
      · exact absurd rfl h31
    · refine wp_iconst d92_26 ic_1 ?_
      refine wp_goto d92_27 (by decide) ?_
      refine WP.r ?_ (join 1 _ _ (by omega))
      simp [payN, hvN, h23]


end S05_mo1
