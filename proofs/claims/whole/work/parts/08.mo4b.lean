section S08_mo4b
variable {σ : Sto} {m : Nat} {pm sta rdm st me tr mi slr wa cha bm bc bl bch ask sn ks kw kt km : Int32} {hsh : Int64} {apg ade afo aro ale afi anf anl awh aod abo aof ama asd akr akl akf akd ako : List Int32}

theorem m_tells (kM : KM σ m) {trN stN w v : Nat} {ki sr le fi de : Nat → Nat} {to fo : Nat → Option Nat} (h1 : trN ≤ stN) (h6 : stN ≤ 6) (h5 : w ≤ 5) (hf : PF w fi) (hv : v < w) (hk : ∀ v, v < w → ki v < 5) (hd : ∀ k, k < stN → de k < 100) (hfo : ∀ k, k < trN → ∀ j, fo k = some j → j < 2 ^ 31) (x : Int32) : Ev 1 0 0 95 [.ref m, .int (nI v), .int x] (put σ m (m + 1) (mF m pm sta rdm (nI stN) me (nI trN) mi slr (nI w) cha bm bc bl bch ask sn ks kw kt km hsh) (mA apg (arr 6 de) (arO 6 fo) (arrI 15 (rw3 ki sr to)) (arr 5 le) (arr 5 fi) anf anl awh aod abo aof ama asd akr akl akf akd ako)) (some (.int (r_tells stN trN ki sr le fi de to fo w v x))) (put σ m (m + 1) (mF m pm sta rdm (nI stN) me (nI trN) mi slr (nI w) cha bm bc bl bch ask sn ks kw kt km hsh) (mA apg (arr 6 de) (arO 6 fo) (arrI 15 (rw3 ki sr to)) (arr 5 le) (arr 5 fi) anf anl awh aod abo aof ama asd akr akl akf akd ako)) := by
  have hp := PF_pl hf hv
  refine ev_of (L := [(.ref m), (.int (nI v)), (.int x)]) (by decide) rfl (Nat.le_of_ble_eq_true rfl) ?_
  refine wp_iload_2 d95_0 ?_
  by_cases hx : 0 ≤ x.toInt ∧ x.toInt ≤ 6
  · obtain ⟨j, hj, rfl⟩ : ∃ j : Nat, j ≤ 6 ∧ x = nI j := ⟨x.toInt.toNat, by omega, nI_to hx.1⟩
    rcases (by omega : j = 0 ∨ j = 1 ∨ j = 2 ∨ j = 3 ∨ j = 4 ∨ j = 5 ∨ j = 6) with rfl | rfl | rfl | rfl | rfl | rfl | rfl
    · rw [show r_tells stN trN ki sr le fi de to fo w v (nI 0) = nI (ki v) from rfl]
      refine wp_swin (off := 43) (tgt := 44) d95_1 (by decide) (by decide) rfl (by decide) ?_
      refine wp_aload_0 d95_44 ?_
      refine wp_getP d95_45 (Nat.le_of_ble_eq_true rfl) kM.1 rfl ?_
      refine wp_iconst d95_48 ic_3 ?_
      refine wp_iload_1 d95_49 ?_
      refine wp_imulN d95_50 ?_
      refine wp_iload_2 d95_51 ?_
      refine wp_iaddN d95_52 ?_
      refine wp_aldP d95_53 (kM.2 _ (Nat.le_of_ble_eq_true rfl)) rfl (by omega) (by decide) ?_
      rw [show 3 * v + 0 = 3 * v from rfl, rw_0]
      exact wp_iret d95_54 rfl rfl rfl
    · rw [show r_tells stN trN ki sr le fi de to fo w v (nI 1) = nI (sr v) from rfl]
      refine wp_swin (off := 43) (tgt := 44) d95_1 (by decide) (by decide) rfl (by decide) ?_
      refine wp_aload_0 d95_44 ?_
      refine wp_getP d95_45 (Nat.le_of_ble_eq_true rfl) kM.1 rfl ?_
      refine wp_iconst d95_48 ic_3 ?_
      refine wp_iload_1 d95_49 ?_
      refine wp_imulN d95_50 ?_
      refine wp_iload_2 d95_51 ?_
      refine wp_iaddN d95_52 ?_
      refine wp_aldP d95_53 (kM.2 _ (Nat.le_of_ble_eq_true rfl)) rfl (by omega) (by decide) ?_
      rw [rw_1]
      exact wp_iret d95_54 rfl rfl rfl
    · rw [show r_tells stN trN ki sr le fi de to fo w v (nI 2) = nI (le v) from rfl]
      refine wp_swin (off := 54) (tgt := 55) d95_1 (by decide) (by decide) rfl (by decide) ?_
      refine wp_aload_0 d95_55 ?_
      refine wp_getP d95_56 (Nat.le_of_ble_eq_true rfl) kM.1 rfl ?_
      refine wp_iload_1 d95_59 ?_
      refine wp_aldP d95_60 (kM.2 _ (Nat.le_of_ble_eq_true rfl)) rfl (by omega) (by decide) ?_
      exact wp_iret d95_61 rfl rfl rfl
    · rw [show r_tells stN trN ki sr le fi de to fo w v (nI 3) = nI (pl w fi v) from rfl]
      refine wp_swin (off := 61) (tgt := 62) d95_1 (by decide) (by decide) rfl (by decide) ?_
      refine wp_aload_0 d95_62 ?_
      refine wp_iload_1 d95_63 ?_
      refine wp_V1r d95_64 kM.1 ((m_placeOf kM h5 hf hv)) (Nat.le_of_ble_eq_true rfl) (Nat.le_of_ble_eq_true rfl) ?_
      exact wp_iret d95_67 rfl rfl rfl
    · rw [show r_tells stN trN ki sr le fi de to fo w v (nI 4) = nI (frN fo v trN) from rfl]
      refine wp_swin (off := 67) (tgt := 68) d95_1 (by decide) (by decide) rfl (by decide) ?_
      refine wp_aload_0 d95_68 ?_
      refine wp_iload_1 d95_69 ?_
      refine wp_V1r d95_70 kM.1 ((m_firstsOf kM (by omega) (by omega) hfo)) (Nat.le_of_ble_eq_true rfl) (Nat.le_of_ble_eq_true rfl) ?_
      exact wp_iret d95_73 rfl rfl rfl
    · rw [show r_tells stN trN ki sr le fi de to fo w v (nI 5) = (if trN = stN then -1 else nI (payN ki fi (pl w fi v) (de trN))) from rfl]
      refine wp_swin (off := 73) (tgt := 74) d95_1 (by decide) (by decide) rfl (by decide) ?_
      refine wp_aload_0 d95_74 ?_
      refine wp_getP d95_75 (Nat.le_of_ble_eq_true rfl) kM.1 rfl ?_
      refine wp_aload_0 d95_78 ?_
      refine wp_getP d95_79 (Nat.le_of_ble_eq_true rfl) kM.1 rfl ?_
      refine wp_icmp_neN d95_82 (by decide) (by omega) (by omega) (fun h82 => ?_) (fun h82 => ?_)
      · rw [if_neg h82]
        have b1 := hd trN (by omega)
        have b2 := hf.1 (pl w fi v) hp.1
        refine wp_aload_0 d95_89 ?_
        refine wp_aload_0 d95_90 ?_
        refine wp_getP d95_91 (Nat.le_of_ble_eq_true rfl) kM.1 rfl ?_
        refine wp_aload_0 d95_94 ?_
        refine wp_iload_1 d95_95 ?_
        refine wp_V1r d95_96 kM.1 ((m_placeOf kM h5 hf hv)) (Nat.le_of_ble_eq_true rfl) (Nat.le_of_ble_eq_true rfl) ?_
        refine wp_aload_0 d95_99 ?_
        refine wp_getP d95_100 (Nat.le_of_ble_eq_true rfl) kM.1 rfl ?_
        refine wp_aload_0 d95_103 ?_
        refine wp_getP d95_104 (Nat.le_of_ble_eq_true rfl) kM.1 rfl ?_
        refine wp_aldP d95_107 (kM.2 _ (Nat.le_of_ble_eq_true rfl)) rfl (by omega) (by decide) ?_
        refine wp_V3r d95_108 kM.1 ((m_paysAtF kM (by omega) (by omega) (fun z => by have := hf.1 (pl w fi v - 1) (by omega); omega) (hk _ b2) (fun z => hk _ (hf.1 (pl w fi v - 1) (by omega))) b1)) (Nat.le_of_ble_eq_true rfl) (Nat.le_of_ble_eq_true rfl) ?_
        exact wp_iret d95_111 rfl rfl rfl
      · rw [if_pos h82]
        refine wp_iconst d95_85 ic_m1 ?_
        refine wp_goto d95_86 (by decide) ?_
        exact wp_iret d95_111 rfl rfl rfl
    · rw [show r_tells stN trN ki sr le fi de to fo w v (nI 6) = eo (to v) from rfl]
      refine wp_swin (off := 111) (tgt := 112) d95_1 (by decide) (by decide) rfl (by decide) ?_
      refine wp_aload_0 d95_112 ?_
      refine wp_getP d95_113 (Nat.le_of_ble_eq_true rfl) kM.1 rfl ?_
      refine wp_iconst d95_116 ic_3 ?_
      refine wp_iload_1 d95_117 ?_
      refine wp_imulN d95_118 ?_
      refine wp_iconst d95_119 ic_2 ?_
      refine wp_iaddN d95_120 ?_
      refine wp_aldP d95_121 (kM.2 _ (Nat.le_of_ble_eq_true rfl)) rfl (by omega) (by decide) ?_
      rw [rw_2]
      exact wp_iret d95_122 rfl rfl rfl
  · rw [show r_tells stN trN ki sr le fi de to fo w v x = -102 by unfold r_tells; split <;> first | omega | rfl]
    refine wp_swout (tgt := 123) d95_1 (by omega) (by decide) ?_
    refine wp_bipush d95_123 bi_m102 ?_
    exact wp_iret d95_125 rfl rfl rfl
theorem m_about (kM : KM σ m) {trN stN w : Nat} {ki sr le fi de : Nat → Nat} {to fo : Nat → Option Nat} (h1 : trN ≤ stN) (h6 : stN ≤ 6) (h5 : w ≤ 5) (hf : PF w fi) (hk : ∀ v, v < w → ki v < 5) (hd : ∀ k, k < stN → de k < 100) (hfo : ∀ k, k < trN → ∀ j, fo k = some j → j < 2 ^ 31) (x y : Int32) : Ev 2 0 0 96 [.ref m, .int x, .int y] (put σ m (m + 1) (mF m pm sta rdm (nI stN) me (nI trN) mi slr (nI w) cha bm bc bl bch ask sn ks kw kt km hsh) (mA apg (arr 6 de) (arO 6 fo) (arrI 15 (rw3 ki sr to)) (arr 5 le) (arr 5 fi) anf anl awh aod abo aof ama asd akr akl akf akd ako)) (some (.int (if inB x 0 ((w : Int) - 1) then r_tells stN trN ki sr le fi de to fo w x.toInt.toNat y else -101))) (put σ m (m + 1) (mF m pm sta rdm (nI stN) me (nI trN) mi slr (nI w) cha bm bc bl bch ask sn ks kw kt km hsh) (mA apg (arr 6 de) (arO 6 fo) (arrI 15 (rw3 ki sr to)) (arr 5 le) (arr 5 fi) anf anl awh aod abo aof ama asd akr akl akf akd ako)) := by
  refine ev_of (L := [(.ref m), (.int x), (.int y)]) (by decide) rfl (Nat.le_of_ble_eq_true rfl) ?_
  refine wp_aload_0 d96_0 ?_
  refine wp_iload_1 d96_1 ?_
  refine wp_V1r d96_2 kM.1 ((m_isWalker kM h5 x)) (Nat.le_of_ble_eq_true rfl) (Nat.le_of_ble_eq_true rfl) ?_
  refine wp_if_eqB d96_5 (by decide) (fun h5 => ?_) (fun h5 => ?_)
  · rw [h5, if_neg (by decide)]
    refine wp_bipush d96_17 bi_m101 ?_
    exact wp_iret d96_19 rfl rfl rfl
  · rw [h5, if_pos rfl]
    rw [inB_t] at h5
    obtain ⟨j, hj, rfl⟩ : ∃ j : Nat, j < w ∧ x = nI j := ⟨x.toInt.toNat, by omega, nI_to h5.1⟩
    rw [show (nI j).toInt.toNat = j by rw [nI_toInt (by omega)]; rfl]
    refine wp_aload_0 d96_8 ?_
    refine wp_iload_1 d96_9 ?_
    refine wp_iload_2 d96_10 ?_
    refine wp_V2r d96_11 kM.1 ((m_tells kM h1 h6 (by omega) hf hj hk hd hfo y)) (Nat.le_of_ble_eq_true rfl) (Nat.le_of_ble_eq_true rfl) ?_
    refine wp_goto d96_14 (by decide) ?_
    exact wp_iret d96_19 rfl rfl rfl
theorem m_as (kM : KM σ m) {w : Nat} {ki sr : Nat → Nat} {to : Nat → Option Nat} (h5 : w ≤ 5) (hk : ∀ v, v < w → ki v < 5) (x y : Int32) : Ev 2 0 0 97 [.ref m, .int x, .int y] (put σ m (m + 1) (mF m pm sta rdm st me tr mi slr (nI w) cha bm bc bl bch ask sn ks kw kt km hsh) (mA apg ade afo (arrI 15 (rw3 ki sr to)) ale afi anf anl awh aod abo aof ama asd akr akl akf akd ako)) (some (.int (if inB x 0 ((w : Int) - 1) then r_as ki x.toInt.toNat y else -101))) (put σ m (m + 1) (mF m pm sta rdm st me tr mi slr (nI w) cha bm bc bl bch ask sn ks kw kt km hsh) (mA apg ade afo (arrI 15 (rw3 ki sr to)) ale afi anf anl awh aod abo aof ama asd akr akl akf akd ako)) := by
  refine ev_of (L := [(.ref m), (.int x), (.int y), .null, .null]) (by decide) rfl (Nat.le_of_ble_eq_true rfl) ?_
  refine wp_aload_0 d97_0 ?_
  refine wp_iload_1 d97_1 ?_
  refine wp_V1r d97_2 kM.1 ((m_isWalker kM h5 x)) (Nat.le_of_ble_eq_true rfl) (Nat.le_of_ble_eq_true rfl) ?_
  refine wp_if_neB d97_5 (by decide) (fun h5 => ?_) (fun h5 => ?_)
  · rw [h5, if_pos rfl]
    rw [inB_t] at h5
    obtain ⟨v, hv, rfl⟩ : ∃ j : Nat, j < w ∧ x = nI j := ⟨x.toInt.toNat, by omega, nI_to h5.1⟩
    rw [show (nI v).toInt.toNat = v by rw [nI_toInt (by omega)]; rfl]
    unfold r_as
    refine wp_iload_2 d97_11 ?_
    refine wp_i2l d97_12 ?_
    refine wp_lconst d97_13 (v := lN 0) rfl ?_
    refine wp_ldc2 d97_14 (by decide) rfl lk_4 ?_
    refine wp_S3r d97_17 rfl ((m_in y (a := 0) (b := 4) (by decide) (by decide))) (Nat.le_of_ble_eq_true rfl) (Nat.le_of_ble_eq_true rfl) ?_
    refine wp_if_neB d97_20 (by decide) (fun h20 => ?_) (fun h20 => ?_)
    · rw [h20, if_pos rfl]
      rw [inB_t] at h20
      obtain ⟨j, hj, rfl⟩ : ∃ j : Nat, j ≤ 4 ∧ y = nI j := ⟨y.toInt.toNat, by omega, nI_to h20.1⟩
      rw [nI_toInt (by omega)]
      have b1 := hk v hv
      have yes : ∀ u3 u4 : Value, u3.category = 1 → ((j : Int) = 0 ∨ (j : Int) = ki v ∨ ((j : Int) = 3 ∧ ki v = 4)) → WP 2 0 0 97 54 [.ref m, .int (nI v), .int (nI j), u3, u4] [] (put σ m (m + 1) (mF m pm sta rdm st me tr mi slr (nI w) cha bm bc bl bch ask sn ks kw kt km hsh) (mA apg ade afo (arrI 15 (rw3 ki sr to)) ale afi anf anl awh aod abo aof ama asd akr akl akf akd ako)) (some (.int (if ((j : Int) = 0 ∨ (j : Int) = ki v ∨ ((j : Int) = 3 ∧ ki v = 4)) then nI v else -1))) (put σ m (m + 1) (mF m pm sta rdm st me tr mi slr (nI w) cha bm bc bl bch ask sn ks kw kt km hsh) (mA apg ade afo (arrI 15 (rw3 ki sr to)) ale afi anf anl awh aod abo aof ama asd akr akl akf akd ako)) := by
        intro u3 u4 hu h
        rw [if_pos h]
        refine wp_iconst d97_54 ic_1 ?_
        refine wp_goto d97_55 (by decide) ?_
        refine wp_istore_4 d97_59 (Nat.le_of_ble_eq_true rfl) hu ?_
        refine wp_iload_4 d97_61 ?_
        refine wp_if_eqN d97_63 (by decide) (by omega) (fun hq => absurd hq (by omega)) (fun h63 => ?_)
        refine wp_iload_1 d97_66 ?_
        refine wp_goto d97_67 (by decide) ?_
        exact wp_iret d97_71 rfl rfl rfl
      have no : ∀ u3 u4 : Value, u3.category = 1 → ¬ ((j : Int) = 0 ∨ (j : Int) = ki v ∨ ((j : Int) = 3 ∧ ki v = 4)) → WP 2 0 0 97 58 [.ref m, .int (nI v), .int (nI j), u3, u4] [] (put σ m (m + 1) (mF m pm sta rdm st me tr mi slr (nI w) cha bm bc bl bch ask sn ks kw kt km hsh) (mA apg ade afo (arrI 15 (rw3 ki sr to)) ale afi anf anl awh aod abo aof ama asd akr akl akf akd ako)) (some (.int (if ((j : Int) = 0 ∨ (j : Int) = ki v ∨ ((j : Int) = 3 ∧ ki v = 4)) then nI v else -1))) (put σ m (m + 1) (mF m pm sta rdm st me tr mi slr (nI w) cha bm bc bl bch ask sn ks kw kt km hsh) (mA apg ade afo (arrI 15 (rw3 ki sr to)) ale afi anf anl awh aod abo aof ama asd akr akl akf akd ako)) := by
        intro u3 u4 hu h
        rw [if_neg h]
        refine wp_iconst d97_58 ic_0 ?_
        refine wp_istore_4 d97_59 (Nat.le_of_ble_eq_true rfl) hu ?_
        refine wp_iload_4 d97_61 ?_
        refine wp_if_eqN d97_63 (by decide) (by omega) (fun h63 => ?_) (fun hq => absurd hq (by omega))
        refine wp_iconst d97_70 ic_m1 ?_
        exact wp_iret d97_71 rfl rfl rfl
      refine wp_aload_0 d97_26 ?_
      refine wp_getP d97_27 (Nat.le_of_ble_eq_true rfl) kM.1 rfl ?_
      refine wp_iconst d97_30 ic_3 ?_
      refine wp_iload_1 d97_31 ?_
      refine wp_imulN d97_32 ?_
      refine wp_aldP d97_33 (kM.2 _ (Nat.le_of_ble_eq_true rfl)) rfl (by omega) (by decide) ?_
      rw [rw_0]
      refine wp_istore_3 d97_34 (Nat.le_of_ble_eq_true rfl) rfl ?_
      refine wp_iload_2 d97_35 ?_
      refine wp_if_eqN d97_36 (by decide) (by omega) (fun h36 => ?_) (fun h36 => ?_)
      · exact yes _ _ rfl (by omega)
      · refine wp_iload_2 d97_39 ?_
        refine wp_iload_3 d97_40 ?_
        refine wp_icmp_eqN d97_41 (by decide) (by omega) (by omega) (fun h41 => ?_) (fun h41 => ?_)
        · exact yes _ _ rfl (by omega)
        · refine wp_iload_2 d97_44 ?_
          refine wp_iconst d97_45 ic_3 ?_
          refine wp_icmp_neN d97_46 (by decide) (by omega) (by omega) (fun h46 => ?_) (fun h46 => ?_)
          · exact no _ _ rfl (by omega)
          · refine wp_iload_3 d97_49 ?_
            refine wp_iconst d97_50 ic_4 ?_
            refine wp_icmp_neN d97_51 (by decide) (by omega) (by omega) (fun h51 => ?_) (fun h51 => ?_)
            · exact no _ _ rfl (by omega)
            · exact yes _ _ rfl (by omega)
    · rw [h20, if_neg (by decide)]
      refine wp_bipush d97_23 bi_m102 ?_
      exact wp_iret d97_25 rfl rfl rfl
  · rw [h5, if_neg (by decide)]
    refine wp_bipush d97_8 bi_m101 ?_
    exact wp_iret d97_10 rfl rfl rfl
theorem m_walker (kM : KM σ m) {stN w : Nat} {ki sr le fi : Nat → Nat} {to : Nat → Option Nat} (h6 : stN ≤ 6) (h5 : w ≤ 5) (x y : Int32) : Ev 2 0 0 91 [.ref m, .int x, .int y] (put σ m (m + 1) (mF m pm sta rdm (nI stN) me tr mi slr (nI w) cha bm bc bl bch ask sn ks kw kt km hsh) (mA apg ade afo (arrI 15 (rw3 ki sr to)) (arr 5 le) (arr 5 fi) anf anl awh aod abo aof ama asd akr akl akf akd ako)) (some (.int (r_walker stN w x y))) (put σ m (m + 1) (mF m pm sta rdm (nI stN) me tr mi slr (nI (if okW stN w x y then w + 1 else w)) cha bm bc bl bch ask sn ks kw kt km hsh) (mA apg ade afo (arrI 15 (rw3 (if okW stN w x y then up ki w x.toInt.toNat else ki) (if okW stN w x y then up sr w y.toInt.toNat else sr) (if okW stN w x y then up to w none else to))) (arr 5 (if okW stN w x y then up le w y.toInt.toNat else le)) (arr 5 (if okW stN w x y then up fi w w else fi)) anf anl awh aod abo aof ama asd akr akl akf akd ako)) := by
  refine ev_of (L := [(.ref m), (.int x), (.int y)]) (by decide) rfl (Nat.le_of_ble_eq_true rfl) ?_
  refine wp_iload_1 d91_0 ?_
  refine wp_i2l d91_1 ?_
  refine wp_lconst d91_2 (v := lN 0) rfl ?_
  refine wp_ldc2 d91_3 (by decide) rfl lk_4 ?_
  refine wp_S3r d91_6 rfl ((m_in x (a := 0) (b := 4) (by decide) (by decide))) (Nat.le_of_ble_eq_true rfl) (Nat.le_of_ble_eq_true rfl) ?_
  have out : inB x 0 4 = false ∨ inB y 1 99 = false → WP 2 0 0 91 24 [.ref m, .int x, .int y] [] (put σ m (m + 1) (mF m pm sta rdm (nI stN) me tr mi slr (nI w) cha bm bc bl bch ask sn ks kw kt km hsh) (mA apg ade afo (arrI 15 (rw3 ki sr to)) (arr 5 le) (arr 5 fi) anf anl awh aod abo aof ama asd akr akl akf akd ako)) (some (.int (r_walker stN w x y))) (put σ m (m + 1) (mF m pm sta rdm (nI stN) me tr mi slr (nI (if okW stN w x y then w + 1 else w)) cha bm bc bl bch ask sn ks kw kt km hsh) (mA apg ade afo (arrI 15 (rw3 (if okW stN w x y then up ki w x.toInt.toNat else ki) (if okW stN w x y then up sr w y.toInt.toNat else sr) (if okW stN w x y then up to w none else to))) (arr 5 (if okW stN w x y then up le w y.toInt.toNat else le)) (arr 5 (if okW stN w x y then up fi w w else fi)) anf anl awh aod abo aof ama asd akr akl akf akd ako)) := by
    intro h
    rw [show okW stN w x y = false by rcases h with h | h <;> simp [okW, h], show r_walker stN w x y = -102 by rcases h with h | h <;> simp [r_walker, h]]
    refine wp_bipush d91_24 bi_m102 ?_
    exact wp_iret d91_26 rfl rfl rfl
  refine wp_if_eqB d91_9 (by decide) (fun h9 => ?_) (fun h9 => ?_)
  · exact out (Or.inl h9)
  · refine wp_iload_2 d91_12 ?_
    refine wp_i2l d91_13 ?_
    refine wp_lconst d91_14 (v := lN 1) rfl ?_
    refine wp_ldc2 d91_15 (by decide) rfl lk_99 ?_
    refine wp_S3r d91_18 rfl ((m_in y (a := 1) (b := 99) (by decide) (by decide))) (Nat.le_of_ble_eq_true rfl) (Nat.le_of_ble_eq_true rfl) ?_
    refine wp_if_neB d91_21 (by decide) (fun h21 => ?_) (fun h21 => ?_)
    · have hx := inB_t.mp h9
      have hy := inB_t.mp h21
      refine wp_aload_0 d91_27 ?_
      refine wp_V0r d91_28 kM.1 ((m_lacks kM h6)) (Nat.le_of_ble_eq_true rfl) (Nat.le_of_ble_eq_true rfl) ?_
      refine wp_if_eqB d91_31 (by decide) (fun h31 => ?_) (fun h31 => ?_)
      · have h31 : ¬ stN = 0 := by simpa using h31
        refine wp_aload_0 d91_37 ?_
        refine wp_getP d91_38 (Nat.le_of_ble_eq_true rfl) kM.1 rfl ?_
        refine wp_iconst d91_41 ic_5 ?_
        refine wp_icmp_neN d91_42 (by decide) (by omega) (by omega) (fun h42 => ?_) (fun h42 => ?_)
        · rw [show okW stN w x y = true by simp [okW, h9, h21, h31]; omega, show r_walker stN w x y = nI w by simp [r_walker, h9, h21, h31, h42]]
          obtain ⟨a, ha, rfl⟩ : ∃ j : Nat, j ≤ 4 ∧ x = nI j := ⟨x.toInt.toNat, by omega, nI_to (by omega)⟩
          obtain ⟨b, hb, rfl⟩ : ∃ j : Nat, j ≤ 99 ∧ y = nI j := ⟨y.toInt.toNat, by omega, nI_to (by omega)⟩
          rw [show (nI a).toInt.toNat = a by rw [nI_toInt (by omega)]; rfl, show (nI b).toInt.toNat = b by rw [nI_toInt (by omega)]; rfl]
          refine wp_aload_0 d91_48 ?_
          refine wp_getP d91_49 (Nat.le_of_ble_eq_true rfl) kM.1 rfl ?_
          refine wp_iconst d91_52 ic_3 ?_
          refine wp_aload_0 d91_53 ?_
          refine wp_getP d91_54 (Nat.le_of_ble_eq_true rfl) kM.1 rfl ?_
          refine wp_imulN d91_57 ?_
          refine wp_iload_1 d91_58 ?_
          refine wp_astP d91_59 (kM.2 _ (Nat.le_of_ble_eq_true rfl)) rfl (by omega) (by decide) ?_
          rw [rw_u0]
          refine wp_aload_0 d91_60 ?_
          refine wp_getP d91_61 (Nat.le_of_ble_eq_true rfl) kM.1 rfl ?_
          refine wp_iconst d91_64 ic_3 ?_
          refine wp_aload_0 d91_65 ?_
          refine wp_getP d91_66 (Nat.le_of_ble_eq_true rfl) kM.1 rfl ?_
          refine wp_imulN d91_69 ?_
          refine wp_iconst d91_70 ic_1 ?_
          refine wp_iaddN d91_71 ?_
          refine wp_iload_2 d91_72 ?_
          refine wp_astP d91_73 (kM.2 _ (Nat.le_of_ble_eq_true rfl)) rfl (by omega) (by decide) ?_
          rw [rw_u1]
          refine wp_aload_0 d91_74 ?_
          refine wp_getP d91_75 (Nat.le_of_ble_eq_true rfl) kM.1 rfl ?_
          refine wp_iconst d91_78 ic_3 ?_
          refine wp_aload_0 d91_79 ?_
          refine wp_getP d91_80 (Nat.le_of_ble_eq_true rfl) kM.1 rfl ?_
          refine wp_imulN d91_83 ?_
          refine wp_iconst d91_84 ic_2 ?_
          refine wp_iaddN d91_85 ?_
          refine wp_iconst d91_86 ic_m1 ?_
          refine wp_astP d91_87 (kM.2 _ (Nat.le_of_ble_eq_true rfl)) rfl (by omega) (by decide) ?_
          rw [rw_u2]
          refine wp_aload_0 d91_88 ?_
          refine wp_getP d91_89 (Nat.le_of_ble_eq_true rfl) kM.1 rfl ?_
          refine wp_aload_0 d91_92 ?_
          refine wp_getP d91_93 (Nat.le_of_ble_eq_true rfl) kM.1 rfl ?_
          refine wp_iload_2 d91_96 ?_
          refine wp_astN d91_97 (kM.2 _ (Nat.le_of_ble_eq_true rfl)) rfl (by omega) (by decide) ?_
          refine wp_aload_0 d91_98 ?_
          refine wp_getP d91_99 (Nat.le_of_ble_eq_true rfl) kM.1 rfl ?_
          refine wp_aload_0 d91_102 ?_
          refine wp_getP d91_103 (Nat.le_of_ble_eq_true rfl) kM.1 rfl ?_
          refine wp_aload_0 d91_106 ?_
          refine wp_getP d91_107 (Nat.le_of_ble_eq_true rfl) kM.1 rfl ?_
          refine wp_astN d91_110 (kM.2 _ (Nat.le_of_ble_eq_true rfl)) rfl (by omega) (by decide) ?_
          refine wp_aload_0 d91_111 ?_
          refine wp_dup d91_112 rfl ?_
          refine wp_getP d91_113 (Nat.le_of_ble_eq_true rfl) kM.1 rfl ?_
          refine wp_iconst d91_116 ic_1 ?_
          refine wp_iaddN d91_117 ?_
          refine wp_putIP d91_118 kM.1 ?_
          refine wp_aload_0 d91_121 ?_
          refine wp_getP d91_122 (Nat.le_of_ble_eq_true rfl) kM.1 rfl ?_
          refine wp_iconst d91_125 ic_1 ?_
          refine wp_isubN d91_126 (by omega) ?_
          rw [Nat.add_sub_cancel]
          exact wp_iret d91_127 rfl rfl rfl
        · subst h42
          rw [show okW stN 5 x y = false by simp [okW], show r_walker stN 5 x y = -104 by simp [r_walker, h9, h21, h31]]
          refine wp_bipush d91_45 bi_m104 ?_
          exact wp_iret d91_47 rfl rfl rfl
      · have h31 : stN = 0 := by simpa using h31
        rw [show okW stN w x y = false by simp [okW, h31], show r_walker stN w x y = -103 by simp [r_walker, h9, h21, h31]]
        refine wp_bipush d91_34 bi_m103 ?_
        exact wp_iret d91_36 rfl rfl rfl
    · exact out (Or.inr h21)
theorem m_slope (kM : KM σ m) {pmN slN : Nat} {pg de : Nat → Nat} {fo : Nat → Option Nat} (hpm : pmN ≤ 10) (hpg : ∀ k, k < pmN → pg k < 1000) (h3 : (flt pg pmN 0 0 0).1 = pmN → (flt pg pmN 0 0 0).2.1 = 3 → (flt pg pmN 0 0 0).2.2 + 2 = pmN ∧ (flt pg pmN 0 0 0).2.2 ≤ 6 ∧ (∀ k, k < (flt pg pmN 0 0 0).2.2 → 48 ≤ pg k) ∧ 48 ≤ pg (pmN - 1)) (hb : (flt pg pmN 0 0 0).1 ≤ pmN ∧ (flt pg pmN 0 0 0).2.1 ≤ 100) : Ev 4 0 0 86 [.ref m] (put σ m (m + 1) (mF m (nI pmN) sta rdm st me tr mi (nI slN) wa cha bm bc bl bch ask sn ks kw kt km hsh) (mA (arr 10 pg) (arr 6 de) (arO 6 fo) aro ale afi anf anl awh aod abo aof ama asd akr akl akf akd ako)) (some (.int (if okS pg pmN then nI (pmN - 2) else -103))) (put σ m (m + 1) (mF m (nI (if okS pg pmN then 0 else pmN)) (nI (flt pg pmN 0 0 0).2.1) (nI (flt pg pmN 0 0 0).2.2) (if okS pg pmN then nI (pmN - 2) else st) (if okS pg pmN then nI (pg (pmN - 1) - 48) else me) (if okS pg pmN then nI 0 else tr) (if okS pg pmN then nI 0 else mi) (nI (if okS pg pmN then slN + 1 else slN)) (if okS pg pmN then nI 0 else wa) cha bm bc bl bch ask sn ks kw kt km hsh) (mA (arr 10 pg) (arr 6 (if okS pg pmN then (fun k => if k < pmN - 2 then pg k - 48 else 0) else de)) (arO 6 (if okS pg pmN then (fun _ => none) else fo)) aro ale afi anf anl awh aod abo aof ama asd akr akl akf akd ako)) := by
  have bad : okS pg pmN = false → ∀ u, WP 4 0 0 86 19 [.ref m, u] [] (put σ m (m + 1) (mF m (nI pmN) (nI (flt pg pmN 0 0 0).2.1) (nI (flt pg pmN 0 0 0).2.2) st me tr mi (nI slN) wa cha bm bc bl bch ask sn ks kw kt km hsh) (mA (arr 10 pg) (arr 6 de) (arO 6 fo) aro ale afi anf anl awh aod abo aof ama asd akr akl akf akd ako)) (some (.int (if okS pg pmN then nI (pmN - 2) else -103))) (put σ m (m + 1) (mF m (nI (if okS pg pmN then 0 else pmN)) (nI (flt pg pmN 0 0 0).2.1) (nI (flt pg pmN 0 0 0).2.2) (if okS pg pmN then nI (pmN - 2) else st) (if okS pg pmN then nI (pg (pmN - 1) - 48) else me) (if okS pg pmN then nI 0 else tr) (if okS pg pmN then nI 0 else mi) (nI (if okS pg pmN then slN + 1 else slN)) (if okS pg pmN then nI 0 else wa) cha bm bc bl bch ask sn ks kw kt km hsh) (mA (arr 10 pg) (arr 6 (if okS pg pmN then (fun k => if k < pmN - 2 then pg k - 48 else 0) else de)) (arO 6 (if okS pg pmN then (fun _ => none) else fo)) aro ale afi anf anl awh aod abo aof ama asd akr akl akf akd ako)) := by
    intro h u
    rw [h]
    refine wp_bipush d86_19 bi_m103 ?_
    exact wp_iret d86_21 rfl rfl rfl
  refine ev_of (L := [(.ref m), .null]) (by decide) rfl (Nat.le_of_ble_eq_true rfl) ?_
  refine wp_aload_0 d86_0 ?_
  refine wp_V0r d86_1 kM.1 ((m_faultOf kM hpm hpg)) (Nat.le_of_ble_eq_true rfl) (Nat.le_of_ble_eq_true rfl) ?_
  refine wp_aload_0 d86_4 ?_
  refine wp_getP d86_5 (Nat.le_of_ble_eq_true rfl) kM.1 rfl ?_
  refine wp_icmp_ltN d86_8 (by decide) (by omega) (by omega) (fun h8 => ?_) (fun h8 => ?_)
  · exact bad (by simp [okS]; omega) _
  · refine wp_aload_0 d86_11 ?_
    refine wp_getP d86_12 (Nat.le_of_ble_eq_true rfl) kM.1 rfl ?_
    refine wp_iconst d86_15 ic_3 ?_
    have e1 : (flt pg pmN 0 0 0).1 = pmN := by omega
    refine wp_icmp_eqN d86_16 (by decide) (by omega) (by omega) (fun h16 => ?_) (fun h16 => ?_)
    · have ok : okS pg pmN = true := by simp [okS, e1, h16]
      obtain ⟨f1, f2, f3, f4⟩ := h3 e1 h16
      rw [ok]
      simp only [if_true]
      have loop : ∀ (n k : Nat) (f1' : Nat → Nat) (f2' : Nat → Option Nat), k + n = 6 → (∀ j, j < k → f1' j = if j < pmN - 2 then pg j - 48 else 0) → (∀ j, j < k → f2' j = none) → WP 4 0 0 86 32 [.ref m, .int (nI k)] [] (put σ m (m + 1) (mF m (nI pmN) (nI (flt pg pmN 0 0 0).2.1) (nI (flt pg pmN 0 0 0).2.2) (nI (pmN - 2)) me tr mi (nI slN) wa cha bm bc bl bch ask sn ks kw kt km hsh) (mA (arr 10 pg) (arr 6 f1') (arO 6 f2') aro ale afi anf anl awh aod abo aof ama asd akr akl akf akd ako)) (some (.int (nI (pmN - 2)))) (put σ m (m + 1) (mF m (nI 0) (nI (flt pg pmN 0 0 0).2.1) (nI (flt pg pmN 0 0 0).2.2) (nI (pmN - 2)) (nI (pg (pmN - 1) - 48)) (nI 0) (nI 0) (nI (slN + 1)) (nI 0) cha bm bc bl bch ask sn ks kw kt km hsh) (mA (arr 10 pg) (arr 6 (fun k => if k < pmN - 2 then pg k - 48 else 0)) (arO 6 (fun _ => none)) aro ale afi anf anl awh aod abo aof ama asd akr akl akf akd ako)) := by
        intro n
        induction n with
        | zero =>
          intro k f1' f2' hk' g1 g2
          rw [arr_ext (f := f1') (g := fun k => if k < pmN - 2 then pg k - 48 else 0) (fun j hj => g1 j (by omega)), arO_ext (f := f2') (g := fun _ => none) (fun j hj => g2 j (by omega))]
          refine wp_iload_1 d86_32 ?_
          refine wp_bipush d86_33 bi_6 ?_
          refine wp_icmp_geN d86_35 (by decide) (by omega) (by omega) (fun h35 => ?_) (fun hq => absurd hq (by omega))
          refine wp_aload_0 d86_78 ?_
          refine wp_aload_0 d86_79 ?_
          refine wp_getP d86_80 (Nat.le_of_ble_eq_true rfl) kM.1 rfl ?_
          refine wp_aload_0 d86_83 ?_
          refine wp_getP d86_84 (Nat.le_of_ble_eq_true rfl) kM.1 rfl ?_
          refine wp_iconst d86_87 ic_1 ?_
          refine wp_isubN d86_88 (by omega) ?_
          refine wp_aldP d86_89 (kM.2 _ (Nat.le_of_ble_eq_true rfl)) rfl (by omega) (by decide) ?_
          refine wp_bipush d86_90 bi_48 ?_
          refine wp_isubN d86_92 (by omega) ?_
          refine wp_putIP d86_93 kM.1 ?_
          refine wp_aload_0 d86_96 ?_
          refine wp_iconst d86_97 ic_0 ?_
          refine wp_putIP d86_98 kM.1 ?_
          refine wp_aload_0 d86_101 ?_
          refine wp_iconst d86_102 ic_0 ?_
          refine wp_putIP d86_103 kM.1 ?_
          refine wp_aload_0 d86_106 ?_
          refine wp_iconst d86_107 ic_0 ?_
          refine wp_putIP d86_108 kM.1 ?_
          refine wp_aload_0 d86_111 ?_
          refine wp_dup d86_112 rfl ?_
          refine wp_getP d86_113 (Nat.le_of_ble_eq_true rfl) kM.1 rfl ?_
          refine wp_iconst d86_116 ic_1 ?_
          refine wp_iaddN d86_117 ?_
          refine wp_putIP d86_118 kM.1 ?_
          refine wp_aload_0 d86_121 ?_
          refine wp_iconst d86_122 ic_0 ?_
          refine wp_putIP d86_123 kM.1 ?_
          refine wp_aload_0 d86_126 ?_
          refine wp_getP d86_127 (Nat.le_of_ble_eq_true rfl) kM.1 rfl ?_
          exact wp_iret d86_130 rfl rfl rfl
        | succ n ih =>
          intro k f1' f2' hk' g1 g2
          refine wp_iload_1 d86_32 ?_
          refine wp_bipush d86_33 bi_6 ?_
          refine wp_icmp_geN d86_35 (by decide) (by omega) (by omega) (fun hq => absurd hq (by omega)) (fun h35 => ?_)
          refine wp_aload_0 d86_38 ?_
          refine wp_getP d86_39 (Nat.le_of_ble_eq_true rfl) kM.1 rfl ?_
          refine wp_iload_1 d86_42 ?_
          refine wp_iload_1 d86_43 ?_
          refine wp_aload_0 d86_44 ?_
          refine wp_getP d86_45 (Nat.le_of_ble_eq_true rfl) kM.1 rfl ?_
          refine wp_icmp_geN d86_48 (by decide) (by omega) (by omega) (fun h48 => ?_) (fun h48 => ?_)
          · refine wp_iconst d86_63 ic_0 ?_
            refine wp_astN d86_64 (kM.2 _ (Nat.le_of_ble_eq_true rfl)) rfl (by omega) (by decide) ?_
            refine wp_aload_0 d86_65 ?_
            refine wp_getP d86_66 (Nat.le_of_ble_eq_true rfl) kM.1 rfl ?_
            refine wp_iload_1 d86_69 ?_
            refine wp_iconst d86_70 ic_m1 ?_
            refine wp_astO d86_71 (kM.2 _ (Nat.le_of_ble_eq_true rfl)) rfl (by omega) (by decide) ?_
            refine wp_iinc_1 d86_72 (Nat.le_of_ble_eq_true rfl) rfl (inc1 _) ?_
            refine wp_goto d86_75 (by decide) ?_
            refine ih (k + 1) _ _ (by omega) (fun j hj => ?_) (fun j hj => ?_)
            · unfold up; grind
            · unfold up; grind
          · have := f3 k (by omega)
            refine wp_aload_0 d86_51 ?_
            refine wp_getP d86_52 (Nat.le_of_ble_eq_true rfl) kM.1 rfl ?_
            refine wp_iload_1 d86_55 ?_
            refine wp_aldP d86_56 (kM.2 _ (Nat.le_of_ble_eq_true rfl)) rfl (by omega) (by decide) ?_
            refine wp_bipush d86_57 bi_48 ?_
            refine wp_isubN d86_59 (by omega) ?_
            refine wp_goto d86_60 (by decide) ?_
            refine wp_astN d86_64 (kM.2 _ (Nat.le_of_ble_eq_true rfl)) rfl (by omega) (by decide) ?_
            refine wp_aload_0 d86_65 ?_
            refine wp_getP d86_66 (Nat.le_of_ble_eq_true rfl) kM.1 rfl ?_
            refine wp_iload_1 d86_69 ?_
            refine wp_iconst d86_70 ic_m1 ?_
            refine wp_astO d86_71 (kM.2 _ (Nat.le_of_ble_eq_true rfl)) rfl (by omega) (by decide) ?_
            refine wp_iinc_1 d86_72 (Nat.le_of_ble_eq_true rfl) rfl (inc1 _) ?_
            refine wp_goto d86_75 (by decide) ?_
            refine ih (k + 1) _ _ (by omega) (fun j hj => ?_) (fun j hj => ?_)
            · unfold up; grind
            · unfold up; grind
      refine wp_aload_0 d86_22 ?_
      refine wp_aload_0 d86_23 ?_
      refine wp_getP d86_24 (Nat.le_of_ble_eq_true rfl) kM.1 rfl ?_
      refine wp_putIP d86_27 kM.1 ?_
      refine wp_iconst d86_30 ic_0 ?_
      refine wp_istore_1 d86_31 (Nat.le_of_ble_eq_true rfl) rfl ?_
      have := loop 6 0 de fo rfl (fun j hj => by omega) (fun j hj => by omega)
      rw [show pmN - 2 = (flt pg pmN 0 0 0).2.2 by omega] at this ⊢
      exact this
    · exact bad (by simp [okS, h16]) _
theorem m_tread (kM : KM σ m) {trN stN w : Nat} {ki sr le fi de nf nl : Nat → Nat} {to fo : Nat → Option Nat} (h1 : trN ≤ stN) (h6 : stN ≤ 6) (h5 : w ≤ 5) (hf : PF w fi) (hk : ∀ v, v < w → ki v < 5) (hl : ∀ v, v < w → le v < 1000) (hd : ∀ k, k < stN → de k < 100) (hfo : ∀ k, k < trN → ∀ j, fo k = some j → j < 2 ^ 31) : ∃ nf' nl' : Nat → Nat, Ev 2 0 0 104 [.ref m] (put σ m (m + 1) (mF m pm sta rdm (nI stN) me (nI trN) mi slr (nI w) cha bm bc bl bch ask sn ks kw kt km hsh) (mA apg (arr 6 de) (arO 6 fo) (arrI 15 (rw3 ki sr to)) (arr 5 le) (arr 5 fi) (arr 5 nf) (arr 5 nl) awh aod abo aof ama asd akr akl akf akd ako)) (some (.int (if okT w stN trN ki fi le de then nI (trN + 1) else -103))) (put σ m (m + 1) (mF m pm sta rdm (nI stN) me (nI (if okT w stN trN ki fi le de then trN + 1 else trN)) (if okT w stN trN ki fi le de then miT ki fi trN de fo mi else mi) slr (nI w) cha bm bc bl bch ask sn ks kw kt km hsh) (mA apg (arr 6 de) (arO 6 (if okT w stN trN ki fi le de then up fo trN (some (fi 0)) else fo)) (arrI 15 (rw3 ki sr to)) (arr 5 (if okT w stN trN ki fi le de then trS ki fi (de trN) le w else le)) (arr 5 fi) (arr 5 nf') (arr 5 nl') awh aod abo aof ama asd akr akl akf akd ako)) := by
  by_cases hw0 : w = 0
  · refine ⟨nf, nl, ?_⟩
    rw [show okT w stN trN ki fi le de = false by simp [okT, hw0]]
    subst hw0
    refine ev_of (L := [(.ref m), .null, .null]) (by decide) rfl (Nat.le_of_ble_eq_true rfl) ?_
    refine wp_aload_0 d104_0 ?_
    refine wp_getP d104_1 (Nat.le_of_ble_eq_true rfl) kM.1 rfl ?_
    refine wp_if_eqN d104_4 (by decide) (by omega) (fun h4 => ?_) (fun hq => absurd hq (by omega))
    refine wp_bipush d104_18 bi_m103 ?_
    exact wp_iret d104_20 rfl rfl rfl
  by_cases hts : trN = stN
  · refine ⟨nf, nl, ?_⟩
    rw [show okT w stN trN ki fi le de = false by simp [okT, hts]]
    refine ev_of (L := [(.ref m), .null, .null]) (by decide) rfl (Nat.le_of_ble_eq_true rfl) ?_
    refine wp_aload_0 d104_0 ?_
    refine wp_getP d104_1 (Nat.le_of_ble_eq_true rfl) kM.1 rfl ?_
    refine wp_if_eqN d104_4 (by decide) (by omega) (fun hq => absurd hq (by omega)) (fun h4 => ?_)
    refine wp_aload_0 d104_7 ?_
    refine wp_getP d104_8 (Nat.le_of_ble_eq_true rfl) kM.1 rfl ?_
    refine wp_aload_0 d104_11 ?_
    refine wp_getP d104_12 (Nat.le_of_ble_eq_true rfl) kM.1 rfl ?_
    refine wp_icmp_neN d104_15 (by decide) (by omega) (by omega) (fun hq => absurd hq (by omega)) (fun h15 => ?_)
    refine wp_bipush d104_18 bi_m103 ?_
    exact wp_iret d104_20 rfl rfl rfl
  have hdt := hd trN (by omega)
  by_cases hc : canN ki fi le (de trN) w = true
  · refine ⟨fi, trS ki fi (de trN) le w, ?_⟩
    rw [show okT w stN trN ki fi le de = true by simp [okT, hw0, hts, hc]]
    simp only [if_true]
    have b0 := hf.1 0 (by omega)
    have b1 := hk (fi 0) b0
    have fin : ∀ (x : Int32) (p : Bool), x = bi p → p = prd ki fi trN fo → ∀ u, WP 2 0 0 104 104 [.ref m, .int (nI (de trN)), u] [.int x] (put σ m (m + 1) (mF m pm sta rdm (nI stN) me (nI trN) mi slr (nI w) cha bm bc bl bch ask sn ks kw kt km hsh) (mA apg (arr 6 de) (arO 6 fo) (arrI 15 (rw3 ki sr to)) (arr 5 (trS ki fi (de trN) le w)) (arr 5 fi) (arr 5 fi) (arr 5 (trS ki fi (de trN) le w)) awh aod abo aof ama asd akr akl akf akd ako)) (some (.int (nI (trN + 1)))) (put σ m (m + 1) (mF m pm sta rdm (nI stN) me (nI (trN + 1)) (miT ki fi trN de fo mi) slr (nI w) cha bm bc bl bch ask sn ks kw kt km hsh) (mA apg (arr 6 de) (arO 6 (up fo trN (some (fi 0)))) (arrI 15 (rw3 ki sr to)) (arr 5 (trS ki fi (de trN) le w)) (arr 5 fi) (arr 5 fi) (arr 5 (trS ki fi (de trN) le w)) awh aod abo aof ama asd akr akl akf akd ako)) := by
      intro x p hx hp u
      subst hx
      have tail : ∀ y : Nat, y = (if prd ki fi trN fo then 2 else 0) → WP 2 0 0 104 124 [.ref m, .int (nI (de trN)), .int (bi p)] [.int (nI y), .int (nI (2 + de trN / 3)), .int mi, .ref m] (put σ m (m + 1) (mF m pm sta rdm (nI stN) me (nI trN) mi slr (nI w) cha bm bc bl bch ask sn ks kw kt km hsh) (mA apg (arr 6 de) (arO 6 fo) (arrI 15 (rw3 ki sr to)) (arr 5 (trS ki fi (de trN) le w)) (arr 5 fi) (arr 5 fi) (arr 5 (trS ki fi (de trN) le w)) awh aod abo aof ama asd akr akl akf akd ako)) (some (.int (nI (trN + 1)))) (put σ m (m + 1) (mF m pm sta rdm (nI stN) me (nI (trN + 1)) (miT ki fi trN de fo mi) slr (nI w) cha bm bc bl bch ask sn ks kw kt km hsh) (mA apg (arr 6 de) (arO 6 (up fo trN (some (fi 0)))) (arrI 15 (rw3 ki sr to)) (arr 5 (trS ki fi (de trN) le w)) (arr 5 fi) (arr 5 fi) (arr 5 (trS ki fi (de trN) le w)) awh aod abo aof ama asd akr akl akf akd ako)) := by
        intro y hy
        unfold miT
        rw [← hy]
        refine wp_iaddN d104_124 ?_
        refine wp_iadd d104_125 ?_
        refine wp_putIP d104_126 kM.1 ?_
        refine wp_aload_0 d104_129 ?_
        refine wp_getP d104_130 (Nat.le_of_ble_eq_true rfl) kM.1 rfl ?_
        refine wp_aload_0 d104_133 ?_
        refine wp_getP d104_134 (Nat.le_of_ble_eq_true rfl) kM.1 rfl ?_
        refine wp_aload_0 d104_137 ?_
        refine wp_getP d104_138 (Nat.le_of_ble_eq_true rfl) kM.1 rfl ?_
        refine wp_iconst d104_141 ic_0 ?_
        refine wp_aldP d104_142 (kM.2 _ (Nat.le_of_ble_eq_true rfl)) rfl (by omega) (by decide) ?_
        refine wp_astO (x := some (fi 0)) d104_143 (kM.2 _ (Nat.le_of_ble_eq_true rfl)) rfl (by omega) (by decide) ?_
        refine wp_aload_0 d104_144 ?_
        refine wp_dup d104_145 rfl ?_
        refine wp_getP d104_146 (Nat.le_of_ble_eq_true rfl) kM.1 rfl ?_
        refine wp_iconst d104_149 ic_1 ?_
        refine wp_iaddN d104_150 ?_
        refine wp_putIP d104_151 kM.1 ?_
        refine wp_aload_0 d104_154 ?_
        refine wp_getP d104_155 (Nat.le_of_ble_eq_true rfl) kM.1 rfl ?_
        exact wp_iret d104_158 rfl rfl rfl
      refine wp_istore_2 d104_104 (Nat.le_of_ble_eq_true rfl) rfl ?_
      refine wp_aload_0 d104_105 ?_
      refine wp_dup d104_106 rfl ?_
      refine wp_getP d104_107 (Nat.le_of_ble_eq_true rfl) kM.1 rfl ?_
      refine wp_iconst d104_110 ic_2 ?_
      refine wp_iload_1 d104_111 ?_
      refine wp_iconst d104_112 ic_3 ?_
      refine wp_idivN d104_113 (by omega) (by omega) (by omega) ?_
      refine wp_iaddN d104_114 ?_
      refine wp_iload_2 d104_115 ?_
      refine wp_if_eqB d104_116 (by decide) (fun h116 => ?_) (fun h116 => ?_)
      · refine wp_iconst d104_123 ic_0 ?_
        exact tail 0 (by rw [← hp, h116]; rfl)
      · refine wp_iconst d104_119 ic_2 ?_
        refine wp_goto d104_120 (by decide) ?_
        exact tail 2 (by rw [← hp, h116]; rfl)
    refine ev_of (L := [(.ref m), .null, .null]) (by decide) rfl (Nat.le_of_ble_eq_true rfl) ?_
    refine wp_aload_0 d104_0 ?_
    refine wp_getP d104_1 (Nat.le_of_ble_eq_true rfl) kM.1 rfl ?_
    refine wp_if_eqN d104_4 (by decide) (by omega) (fun hq => absurd hq (by omega)) (fun h4 => ?_)
    refine wp_aload_0 d104_7 ?_
    refine wp_getP d104_8 (Nat.le_of_ble_eq_true rfl) kM.1 rfl ?_
    refine wp_aload_0 d104_11 ?_
    refine wp_getP d104_12 (Nat.le_of_ble_eq_true rfl) kM.1 rfl ?_
    refine wp_icmp_neN d104_15 (by decide) (by omega) (by omega) (fun h15 => ?_) (fun hq => absurd hq (by omega))
    refine wp_aload_0 d104_21 ?_
    refine wp_V0v d104_22 kM.1 ((m_asItIs kM)) (Nat.le_of_ble_eq_true rfl) (Nat.le_of_ble_eq_true rfl) ?_
    refine wp_aload_0 d104_25 ?_
    refine wp_getP d104_26 (Nat.le_of_ble_eq_true rfl) kM.1 rfl ?_
    refine wp_aload_0 d104_29 ?_
    refine wp_getP d104_30 (Nat.le_of_ble_eq_true rfl) kM.1 rfl ?_
    refine wp_aldP d104_33 (kM.2 _ (Nat.le_of_ble_eq_true rfl)) rfl (by omega) (by decide) ?_
    refine wp_istore_1 d104_34 (Nat.le_of_ble_eq_true rfl) rfl ?_
    refine wp_aload_0 d104_35 ?_
    refine wp_iload_1 d104_36 ?_
    refine wp_V1r d104_37 kM.1 ((m_canTread kM h5 hf.1 hk hl hdt)) (Nat.le_of_ble_eq_true rfl) (Nat.le_of_ble_eq_true rfl) ?_
    refine wp_if_neB d104_40 (by decide) (fun h40 => ?_) (fun hq => absurd hq (fun hq => absurd (hq.symm.trans hc) (by decide)))
    refine wp_aload_0 d104_46 ?_
    refine wp_iload_1 d104_47 ?_
    refine wp_V1v d104_48 kM.1 ((m_treads kM h5 hf hk hc hdt)) (Nat.le_of_ble_eq_true rfl) (Nat.le_of_ble_eq_true rfl) ?_
    refine wp_aload_0 d104_51 ?_
    refine wp_V0v d104_52 kM.1 ((m_layNow kM)) (Nat.le_of_ble_eq_true rfl) (Nat.le_of_ble_eq_true rfl) ?_
    refine wp_aload_0 d104_55 ?_
    refine wp_getP d104_56 (Nat.le_of_ble_eq_true rfl) kM.1 rfl ?_
    refine wp_iconst d104_59 ic_3 ?_
    refine wp_aload_0 d104_60 ?_
    refine wp_getP d104_61 (Nat.le_of_ble_eq_true rfl) kM.1 rfl ?_
    refine wp_iconst d104_64 ic_0 ?_
    refine wp_aldP d104_65 (kM.2 _ (Nat.le_of_ble_eq_true rfl)) rfl (by omega) (by decide) ?_
    refine wp_imulN d104_66 ?_
    refine wp_aldP d104_67 (kM.2 _ (Nat.le_of_ble_eq_true rfl)) rfl (by omega) (by decide) ?_
    rw [rw_0]
    refine wp_iconst d104_68 ic_2 ?_
    refine wp_icmp_neN d104_69 (by decide) (by omega) (by omega) (fun h69 => ?_) (fun h69 => ?_)
    · refine wp_iconst d104_103 ic_0 ?_
      exact fin _ false rfl (by simp [prd, h69]) _
    · refine wp_aload_0 d104_72 ?_
      refine wp_getP d104_73 (Nat.le_of_ble_eq_true rfl) kM.1 rfl ?_
      refine wp_if_leN d104_76 (by decide) (by omega) (fun h76 => ?_) (fun h76 => ?_)
      · refine wp_iconst d104_103 ic_0 ?_
        exact fin _ false rfl (by simp [prd, h76]) _
      · refine wp_aload_0 d104_79 ?_
        refine wp_getP d104_80 (Nat.le_of_ble_eq_true rfl) kM.1 rfl ?_
        refine wp_aload_0 d104_83 ?_
        refine wp_getP d104_84 (Nat.le_of_ble_eq_true rfl) kM.1 rfl ?_
        refine wp_iconst d104_87 ic_1 ?_
        refine wp_isubN d104_88 (by omega) ?_
        refine wp_aldP d104_89 (kM.2 _ (Nat.le_of_ble_eq_true rfl)) rfl (by omega) (by decide) ?_
        refine wp_aload_0 d104_90 ?_
        refine wp_getP d104_91 (Nat.le_of_ble_eq_true rfl) kM.1 rfl ?_
        refine wp_iconst d104_94 ic_0 ?_
        refine wp_aldP d104_95 (kM.2 _ (Nat.le_of_ble_eq_true rfl)) rfl (by omega) (by decide) ?_
        have hbo := hfo (trN - 1) (by omega)
        refine wp_icmp_ne d104_96 (by decide) (fun h96 => ?_) (fun h96 => ?_)
        · refine wp_iconst d104_103 ic_0 ?_
          exact fin _ false rfl (by simp [prd, h69]; intro _ z; exact h96 ((eo_some (by omega) hbo).mpr z)) _
        · refine wp_iconst d104_99 ic_1 ?_
          refine wp_goto d104_100 (by decide) ?_
          have z := (eo_some (by omega) hbo).mp h96
          exact fin _ true rfl (by simp [prd, h69, z]; omega) _
  · refine ⟨fi, le, ?_⟩
    have hc' : canN ki fi le (de trN) w = false := by simpa using hc
    rw [show okT w stN trN ki fi le de = false by simp [okT, hc']]
    refine ev_of (L := [(.ref m), .null, .null]) (by decide) rfl (Nat.le_of_ble_eq_true rfl) ?_
    refine wp_aload_0 d104_0 ?_
    refine wp_getP d104_1 (Nat.le_of_ble_eq_true rfl) kM.1 rfl ?_
    refine wp_if_eqN d104_4 (by decide) (by omega) (fun hq => absurd hq (by omega)) (fun h4 => ?_)
    refine wp_aload_0 d104_7 ?_
    refine wp_getP d104_8 (Nat.le_of_ble_eq_true rfl) kM.1 rfl ?_
    refine wp_aload_0 d104_11 ?_
    refine wp_getP d104_12 (Nat.le_of_ble_eq_true rfl) kM.1 rfl ?_
    refine wp_icmp_neN d104_15 (by decide) (by omega) (by omega) (fun h15 => ?_) (fun hq => absurd hq (by omega))
    refine wp_aload_0 d104_21 ?_
    refine wp_V0v d104_22 kM.1 ((m_asItIs kM)) (Nat.le_of_ble_eq_true rfl) (Nat.le_of_ble_eq_true rfl) ?_
    refine wp_aload_0 d104_25 ?_
    refine wp_getP d104_26 (Nat.le_of_ble_eq_true rfl) kM.1 rfl ?_
    refine wp_aload_0 d104_29 ?_
    refine wp_getP d104_30 (Nat.le_of_ble_eq_true rfl) kM.1 rfl ?_
    refine wp_aldP d104_33 (kM.2 _ (Nat.le_of_ble_eq_true rfl)) rfl (by omega) (by decide) ?_
    refine wp_istore_1 d104_34 (Nat.le_of_ble_eq_true rfl) rfl ?_
    refine wp_aload_0 d104_35 ?_
    refine wp_iload_1 d104_36 ?_
    refine wp_V1r d104_37 kM.1 ((m_canTread kM h5 hf.1 hk hl hdt)) (Nat.le_of_ble_eq_true rfl) (Nat.le_of_ble_eq_true rfl) ?_
    refine wp_if_neB d104_40 (by decide) (fun hq => absurd hq (fun hq => hc hq)) (fun h40 => ?_)
    refine wp_bipush d104_43 bi_m103 ?_
    exact wp_iret d104_45 rfl rfl rfl
theorem m_change (kM : KM σ m) {w : Nat} {le fi nf nl : Nat → Nat} (h5 : w ≤ 5) (hf : PF w fi) : ∃ nf' nl' : Nat → Nat, Ev 1 0 0 105 [.ref m] (put σ m (m + 1) (mF m pm sta rdm st me tr mi slr (nI w) cha bm bc bl bch ask sn ks kw kt km hsh) (mA apg ade afo aro (arr 5 le) (arr 5 fi) (arr 5 nf) (arr 5 nl) awh aod abo aof ama asd akr akl akf akd ako)) (some (.int (if w = 0 then -103 else nI (rot w fi 0)))) (put σ m (m + 1) (mF m pm sta rdm st me tr (if w = 0 then mi else mi + nI 1) slr (nI w) cha bm bc bl bch ask sn ks kw kt km hsh) (mA apg ade afo aro (arr 5 le) (arr 5 (if w = 0 then fi else rot w fi)) (arr 5 nf') (arr 5 nl') awh aod abo aof ama asd akr akl akf akd ako)) := by
  by_cases hw0 : w = 0
  · refine ⟨nf, nl, ?_⟩
    simp only [hw0, if_true]
    refine ev_of (L := [(.ref m)]) (by decide) rfl (Nat.le_of_ble_eq_true rfl) ?_
    refine wp_aload_0 d105_0 ?_
    refine wp_getP d105_1 (Nat.le_of_ble_eq_true rfl) kM.1 rfl ?_
    refine wp_if_neN d105_4 (by decide) (by omega) (fun hq => absurd hq (by omega)) (fun h4 => ?_)
    refine wp_bipush d105_7 bi_m103 ?_
    exact wp_iret d105_9 rfl rfl rfl
  · refine ⟨rot w fi, le, ?_⟩
    simp only [hw0, if_false]
    refine ev_of (L := [(.ref m)]) (by decide) rfl (Nat.le_of_ble_eq_true rfl) ?_
    refine wp_aload_0 d105_0 ?_
    refine wp_getP d105_1 (Nat.le_of_ble_eq_true rfl) kM.1 rfl ?_
    refine wp_if_neN d105_4 (by decide) (by omega) (fun h4 => ?_) (fun hq => absurd hq (by omega))
    refine wp_aload_0 d105_10 ?_
    refine wp_V0v d105_11 kM.1 ((m_asItIs kM)) (Nat.le_of_ble_eq_true rfl) (Nat.le_of_ble_eq_true rfl) ?_
    refine wp_aload_0 d105_14 ?_
    refine wp_V0v d105_15 kM.1 ((m_turns kM (by omega) h5)) (Nat.le_of_ble_eq_true rfl) (Nat.le_of_ble_eq_true rfl) ?_
    refine wp_aload_0 d105_18 ?_
    refine wp_V0v d105_19 kM.1 ((m_layNow kM)) (Nat.le_of_ble_eq_true rfl) (Nat.le_of_ble_eq_true rfl) ?_
    refine wp_aload_0 d105_22 ?_
    refine wp_dup d105_23 rfl ?_
    refine wp_getP d105_24 (Nat.le_of_ble_eq_true rfl) kM.1 rfl ?_
    refine wp_iconst d105_27 ic_1 ?_
    refine wp_iadd d105_28 ?_
    refine wp_putIP d105_29 kM.1 ?_
    refine wp_aload_0 d105_32 ?_
    refine wp_getP d105_33 (Nat.le_of_ble_eq_true rfl) kM.1 rfl ?_
    refine wp_iconst d105_36 ic_0 ?_
    refine wp_aldP d105_37 (kM.2 _ (Nat.le_of_ble_eq_true rfl)) rfl (by omega) (by decide) ?_
    exact wp_iret d105_38 rfl rfl rfl
theorem m_rest (kM : KM σ m) {w : Nat} {ki sr le fi nf nl : Nat → Nat} {to : Nat → Option Nat} (h5 : w ≤ 5) (hl : ∀ v, v < w → le v < 1000) (hs : ∀ v, v < w → sr v < 1000) : ∃ nf' nl' : Nat → Nat, Ev 1 0 0 107 [.ref m] (put σ m (m + 1) (mF m pm sta rdm st me tr mi slr (nI w) cha bm bc bl bch ask sn ks kw kt km hsh) (mA apg ade afo (arrI 15 (rw3 ki sr to)) (arr 5 le) (arr 5 fi) (arr 5 nf) (arr 5 nl) awh aod abo aof ama asd akr akl akf akd ako)) (some (.int (if w = 0 then -103 else nI (rcN sr le w)))) (put σ m (m + 1) (mF m pm sta rdm st me tr (if w = 0 then mi else mi + nI 5) slr (nI w) cha bm bc bl bch ask sn ks kw kt km hsh) (mA apg ade afo (arrI 15 (rw3 ki sr to)) (arr 5 (if w = 0 then le else rsN w sr le)) (arr 5 fi) (arr 5 nf') (arr 5 nl') awh aod abo aof ama asd akr akl akf akd ako)) := by
  by_cases hw0 : w = 0
  · refine ⟨nf, nl, ?_⟩
    simp only [hw0, if_true]
    refine ev_of (L := [(.ref m), .null]) (by decide) rfl (Nat.le_of_ble_eq_true rfl) ?_
    refine wp_aload_0 d107_0 ?_
    refine wp_getP d107_1 (Nat.le_of_ble_eq_true rfl) kM.1 rfl ?_
    refine wp_if_neN d107_4 (by decide) (by omega) (fun hq => absurd hq (by omega)) (fun h4 => ?_)
    refine wp_bipush d107_7 bi_m103 ?_
    exact wp_iret d107_9 rfl rfl rfl
  · refine ⟨fi, rsN w sr le, ?_⟩
    simp only [hw0, if_false]
    refine ev_of (L := [(.ref m), .null]) (by decide) rfl (Nat.le_of_ble_eq_true rfl) ?_
    refine wp_aload_0 d107_0 ?_
    refine wp_getP d107_1 (Nat.le_of_ble_eq_true rfl) kM.1 rfl ?_
    refine wp_if_neN d107_4 (by decide) (by omega) (fun h4 => ?_) (fun hq => absurd hq (by omega))
    refine wp_aload_0 d107_10 ?_
    refine wp_V0v d107_11 kM.1 ((m_asItIs kM)) (Nat.le_of_ble_eq_true rfl) (Nat.le_of_ble_eq_true rfl) ?_
    refine wp_aload_0 d107_14 ?_
    refine wp_V0r d107_15 kM.1 ((m_restsNow kM h5 hl hs)) (Nat.le_of_ble_eq_true rfl) (Nat.le_of_ble_eq_true rfl) ?_
    refine wp_istore_1 d107_18 (Nat.le_of_ble_eq_true rfl) rfl ?_
    refine wp_aload_0 d107_19 ?_
    refine wp_V0v d107_20 kM.1 ((m_layNow kM)) (Nat.le_of_ble_eq_true rfl) (Nat.le_of_ble_eq_true rfl) ?_
    refine wp_aload_0 d107_23 ?_
    refine wp_dup d107_24 rfl ?_
    refine wp_getP d107_25 (Nat.le_of_ble_eq_true rfl) kM.1 rfl ?_
    refine wp_iconst d107_28 ic_5 ?_
    refine wp_iadd d107_29 ?_
    refine wp_putIP d107_30 kM.1 ?_
    refine wp_iload_1 d107_33 ?_
    exact wp_iret d107_34 rfl rfl rfl

end S08_mo4b
