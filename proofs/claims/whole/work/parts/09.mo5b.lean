section S09_mo5b
variable {σ : Sto} {m : Nat} {pm sta rdm st me tr mi slr wa cha bm bc bl bch ask sn ks kw kt km : Int32} {hsh : Int64} {apg ade afo aro ale afi anf anl awh aod abo aof ama asd akr akl akf akd ako : List Int32}

theorem m_layBest (kM : KM σ m) {trN stN w ch0 : Nat} {ki sr fi le de wh nf nl : Nat → Nat} {to : Nat → Option Nat} (h1 : trN ≤ stN) (h6 : stN ≤ 6) (hw : 1 ≤ w) (hw5 : w ≤ 5) (hf : PF w fi) (hk : ∀ v, v < w → ki v < 5) (hl : ∀ v, v < w → le v < 1000) (hd : ∀ k, k < stN → de k < 100) : ∃ (wh' nf' nl' : Nat → Nat) (ch' : Nat), Ev 3 0 0 114 [.ref m] (put σ m (m + 1) (mF m pm sta rdm (nI stN) me (nI trN) mi slr (nI w) (nI ch0) bm bc bl bch ask sn ks kw kt km hsh) (mA apg (arr 6 de) afo (arrI 15 (rw3 ki sr to)) (arr 5 le) (arr 5 fi) (arr 5 nf) (arr 5 nl) (arr 6 wh) aod abo aof ama asd akr akl akf akd ako)) none (put σ m (m + 1) (mF m pm sta rdm (nI stN) me (nI trN) mi slr (nI w) (nI ch') bm (eo (o1 (bestF w ki fi de le trN stN (w ^ (stN - trN))))) (eo (o2 (bestF w ki fi de le trN stN (w ^ (stN - trN))))) (eo (o3 (bestF w ki fi de le trN stN (w ^ (stN - trN))))) ask sn ks kw kt km hsh) (mA apg (arr 6 de) afo (arrI 15 (rw3 ki sr to)) (arr 5 le) (arr 5 fi) (arr 5 nf') (arr 5 nl') (arr 6 wh') aod abo aof ama asd akr akl akf akd ako)) := by
  have hpw : w ^ (stN - trN) ≤ 5 ^ 6 := Nat.le_trans (Nat.pow_le_pow_left hw5 _) (Nat.pow_le_pow_right (by decide) (by omega))
  have h56 : (5 : Nat) ^ 6 = 15625 := rfl
  have hbl : (stN - trN) * w ≤ 30 := Nat.le_trans (Nat.mul_le_mul (show stN - trN ≤ 6 by omega) hw5) (by decide)
  have loop : ∀ (n c : Nat) (wh nf nl : Nat → Nat) (ch : Nat) (u2 u3 : Value), c + n = w ^ (stN - trN) → u2.category = 1 → ∃ (wh' nf' nl' : Nat → Nat) (ch' : Nat), WP 3 0 0 114 17 [.ref m, .int (nI c), u2, u3] [] (put σ m (m + 1) (mF m pm sta rdm (nI stN) me (nI trN) mi slr (nI w) (nI ch) bm (eo (o1 (bestF w ki fi de le trN stN c))) (eo (o2 (bestF w ki fi de le trN stN c))) (eo (o3 (bestF w ki fi de le trN stN c))) ask sn ks kw kt km hsh) (mA apg (arr 6 de) afo (arrI 15 (rw3 ki sr to)) (arr 5 le) (arr 5 fi) (arr 5 nf) (arr 5 nl) (arr 6 wh) aod abo aof ama asd akr akl akf akd ako)) none (put σ m (m + 1) (mF m pm sta rdm (nI stN) me (nI trN) mi slr (nI w) (nI ch') bm (eo (o1 (bestF w ki fi de le trN stN (w ^ (stN - trN))))) (eo (o2 (bestF w ki fi de le trN stN (w ^ (stN - trN))))) (eo (o3 (bestF w ki fi de le trN stN (w ^ (stN - trN))))) ask sn ks kw kt km hsh) (mA apg (arr 6 de) afo (arrI 15 (rw3 ki sr to)) (arr 5 le) (arr 5 fi) (arr 5 nf') (arr 5 nl') (arr 6 wh') aod abo aof ama asd akr akl akf akd ako)) := by
    intro n
    induction n with
    | zero =>
      intro c wh nf nl ch u2 u3 hc hu
      refine ⟨wh, nf, nl, ch, ?_⟩
      have e : w ^ (stN - trN) = c := by omega
      refine wp_iload_1 d114_17 ?_
      refine wp_aload_0 d114_18 ?_
      refine wp_V0r d114_19 kM.1 ((m_ways kM h1 h6)) (Nat.le_of_ble_eq_true rfl) (Nat.le_of_ble_eq_true rfl) ?_
      rw [e]
      refine wp_icmp_geN d114_22 (by decide) (by omega) (by omega) (fun h22 => ?_) (fun hq => absurd hq (by omega))
      exact wp_vret d114_140 rfl rfl rfl
    | succ n ih =>
      intro c wh nf nl ch u2 u3 hc hu
      have hwl : ∀ k, trN ≤ k → k < stN → whN w trN stN c wh k < w := fun k a b => whN_lt (by omega) a b
      have eg : gb w ki fi de (whN w trN stN c wh) (stN - trN) trN 0 le 0 = gbC w ki fi de le trN stN c := gb_congr _ _ _ _ _ (fun i a b => by unfold whC whN; rw [if_pos (by omega), if_pos (by omega)])
      have hby := m_goesBy kM (σ := σ) (m := m) (nf := nf) (nl := nl) (wh := whN w trN stN c wh) (sr := sr) (to := to) (cha := nI ch) (bc := eo (o1 (bestF w ki fi de le trN stN c))) (bl := eo (o2 (bestF w ki fi de le trN stN c))) (bch := eo (o3 (bestF w ki fi de le trN stN c))) (pm := pm) (sta := sta) (rdm := rdm) (me := me) (mi := mi) (slr := slr) (bm := bm) (ask := ask) (sn := sn) (ks := ks) (kw := kw) (kt := kt) (km := km) (hsh := hsh) (apg := apg) (afo := afo) (aod := aod) (abo := abo) (aof := aof) (ama := ama) (asd := asd) (akr := akr) (akl := akl) (akf := akf) (akd := akd) (ako := ako) h1 h6 hw hw5 hf hk hl hd hwl
      rw [eg] at hby
      have hgl : ∀ v, v < w → (gbC w ki fi de le trN stN c).2.2.1 v < 1000 := fun v hv => Nat.lt_of_le_of_lt (gb_le _ _ _ _ _ v) (hl v hv)
      have hgc : (gbC w ki fi de le trN stN c).2.2.2 ≤ 30 := by
        have := gb_ch (ki := ki) (fi := fi) (de := de) (wh := whC w trN stN c) (show 0 < w by omega) (stN - trN) trN 0 le 0
        exact Nat.le_trans this (by omega)
      have hmn := mnN_le (gbC w ki fi de le trN stN c).2.2.1 100 w
      by_cases hg : (gbC w ki fi de le trN stN c).1 = true
      · generalize hv : mnN (gbC w ki fi de le trN stN c).2.2.1 100 w = v at *
        generalize hcc : (gbC w ki fi de le trN stN c).2.2.2 = cc at *
        by_cases hb : btr (bestF w ki fi de le trN stN c) v cc = true
        · have eb : bestF w ki fi de le trN stN (c + 1) = some (c, v, cc) := by rw [bestF, hv, hcc, hg, hb]; rfl
          obtain ⟨wh', nf', nl', ch', K⟩ := ih (c + 1) (whN w trN stN c wh) (rotk w fi (gbC w ki fi de le trN stN c).2.1) (gbC w ki fi de le trN stN c).2.2.1 cc (.int (nI v)) (.int (nI 1)) (by omega) rfl
          refine ⟨wh', nf', nl', ch', ?_⟩
          rw [eb] at K
          have yes : ∀ b : Option (Nat × Nat × Nat), WP 3 0 0 114 77 [.ref m, .int (nI c), .int (nI v), u3] [] (put σ m (m + 1) (mF m pm sta rdm (nI stN) me (nI trN) mi slr (nI w) (nI cc) bm (eo (o1 b)) (eo (o2 b)) (eo (o3 b)) ask sn ks kw kt km hsh) (mA apg (arr 6 de) afo (arrI 15 (rw3 ki sr to)) (arr 5 le) (arr 5 fi) (arr 5 (rotk w fi (gbC w ki fi de le trN stN c).2.1)) (arr 5 (gbC w ki fi de le trN stN c).2.2.1) (arr 6 (whN w trN stN c wh)) aod abo aof ama asd akr akl akf akd ako)) none (put σ m (m + 1) (mF m pm sta rdm (nI stN) me (nI trN) mi slr (nI w) (nI ch') bm (eo (o1 (bestF w ki fi de le trN stN (w ^ (stN - trN))))) (eo (o2 (bestF w ki fi de le trN stN (w ^ (stN - trN))))) (eo (o3 (bestF w ki fi de le trN stN (w ^ (stN - trN))))) ask sn ks kw kt km hsh) (mA apg (arr 6 de) afo (arrI 15 (rw3 ki sr to)) (arr 5 le) (arr 5 fi) (arr 5 nf') (arr 5 nl') (arr 6 wh') aod abo aof ama asd akr akl akf akd ako)) := by
            intro b
            refine wp_iconst d114_77 ic_1 ?_
            refine wp_goto d114_78 (by decide) ?_
            refine wp_istore_3 d114_82 (Nat.le_of_ble_eq_true rfl) rfl ?_
            refine wp_aload_0 d114_83 ?_
            refine wp_iload_3 d114_84 ?_
            refine wp_if_eqN d114_85 (by decide) (by omega) (fun hq => absurd hq (by omega)) (fun h85 => ?_)
            refine wp_aload_0 d114_88 ?_
            refine wp_getP d114_89 (Nat.le_of_ble_eq_true rfl) kM.1 rfl ?_
            refine wp_goto d114_92 (by decide) ?_
            refine wp_putIP d114_99 kM.1 ?_
            refine wp_aload_0 d114_102 ?_
            refine wp_iload_3 d114_103 ?_
            refine wp_if_eqN d114_104 (by decide) (by omega) (fun hq => absurd hq (by omega)) (fun h104 => ?_)
            refine wp_iload_2 d114_107 ?_
            refine wp_goto d114_108 (by decide) ?_
            refine wp_putIP d114_115 kM.1 ?_
            refine wp_aload_0 d114_118 ?_
            refine wp_iload_3 d114_119 ?_
            refine wp_if_eqN d114_120 (by decide) (by omega) (fun hq => absurd hq (by omega)) (fun h120 => ?_)
            refine wp_iload_1 d114_123 ?_
            refine wp_goto d114_124 (by decide) ?_
            refine wp_putIP d114_131 kM.1 ?_
            refine wp_iinc_1 d114_134 (Nat.le_of_ble_eq_true rfl) rfl (inc1 _) ?_
            refine wp_goto d114_137 (by decide) ?_
            exact K
          refine wp_iload_1 d114_17 ?_
          refine wp_aload_0 d114_18 ?_
          refine wp_V0r d114_19 kM.1 ((m_ways kM h1 h6)) (Nat.le_of_ble_eq_true rfl) (Nat.le_of_ble_eq_true rfl) ?_
          refine wp_icmp_geN d114_22 (by decide) (by omega) (by omega) (fun hq => absurd hq (by omega)) (fun h22 => ?_)
          refine wp_aload_0 d114_25 ?_
          refine wp_iload_1 d114_26 ?_
          refine wp_V1v d114_27 kM.1 ((m_layWho kM h1 h6 hw hw5 (by omega))) (Nat.le_of_ble_eq_true rfl) (Nat.le_of_ble_eq_true rfl) ?_
          refine wp_aload_0 d114_30 ?_
          refine wp_V0r d114_31 kM.1 ((hby)) (Nat.le_of_ble_eq_true rfl) (Nat.le_of_ble_eq_true rfl) ?_
          refine wp_if_eqB d114_34 (by decide) (fun hq => absurd hq (fun hq => absurd (hg.symm.trans hq) (by decide))) (fun h34 => ?_)
          refine wp_aload_0 d114_37 ?_
          refine wp_V0r d114_38 kM.1 ((m_leastLeft kM hw5 hgl)) (Nat.le_of_ble_eq_true rfl) (Nat.le_of_ble_eq_true rfl) ?_
          rw [hv]
          refine wp_istore_2 d114_41 (Nat.le_of_ble_eq_true rfl) rfl ?_
          revert hb
          cases hbb : bestF w ki fi de le trN stN c with
          | none =>
            intro hb
            refine wp_aload_0 d114_42 ?_
            refine wp_getP d114_43 (Nat.le_of_ble_eq_true rfl) kM.1 rfl ?_
            refine wp_iconst d114_46 ic_m1 ?_
            refine wp_icmp_eq d114_47 (by decide) (fun h47 => ?_) (fun hq => absurd hq (fun hq => hq rfl))
            exact yes none
          | some q =>
            obtain ⟨c0, l0, x0⟩ := q
            intro hb
            have hq := bestF_b (show 0 < w by omega) c c0 l0 x0 hbb
            simp only [btr, Bool.or_eq_true, Bool.and_eq_true, decide_eq_true_eq] at hb
            refine wp_aload_0 d114_42 ?_
            refine wp_getP d114_43 (Nat.le_of_ble_eq_true rfl) kM.1 rfl ?_
            refine wp_iconst d114_46 ic_m1 ?_
            refine wp_icmp_eq d114_47 (by decide) (fun hq => absurd hq (nI_m1 (by omega))) (fun _ => ?_)
            refine wp_iload_2 d114_50 ?_
            refine wp_aload_0 d114_51 ?_
            refine wp_getP d114_52 (Nat.le_of_ble_eq_true rfl) kM.1 rfl ?_
            refine wp_icmp_gtN d114_55 (by decide) (by omega) (by omega) (fun _ => yes (some (c0, l0, x0))) (fun h55 => ?_)
            refine wp_iload_2 d114_58 ?_
            refine wp_aload_0 d114_59 ?_
            refine wp_getP d114_60 (Nat.le_of_ble_eq_true rfl) kM.1 rfl ?_
            refine wp_icmp_neN d114_63 (by decide) (by omega) (by omega) (fun h => absurd h (by omega)) (fun h63 => ?_)
            refine wp_aload_0 d114_66 ?_
            refine wp_getP d114_67 (Nat.le_of_ble_eq_true rfl) kM.1 rfl ?_
            refine wp_aload_0 d114_70 ?_
            refine wp_getP d114_71 (Nat.le_of_ble_eq_true rfl) kM.1 rfl ?_
            refine wp_icmp_geN d114_74 (by decide) (by omega) (by omega) (fun h => absurd h (by omega)) (fun h63 => ?_)
            exact yes (some (c0, l0, x0))
        · have eb : bestF w ki fi de le trN stN (c + 1) = bestF w ki fi de le trN stN c := by rw [bestF, hv, hcc, hg]; simp [hb]
          obtain ⟨wh', nf', nl', ch', K⟩ := ih (c + 1) (whN w trN stN c wh) (rotk w fi (gbC w ki fi de le trN stN c).2.1) (gbC w ki fi de le trN stN c).2.2.1 cc (.int (nI v)) (.int (nI 0)) (by omega) rfl
          refine ⟨wh', nf', nl', ch', ?_⟩
          rw [eb] at K
          revert hb K
          cases hbb : bestF w ki fi de le trN stN c with
          | none =>
            intro hb
            exact absurd rfl hb
          | some q =>
            obtain ⟨c0, l0, x0⟩ := q
            intro hb K
            have hq := bestF_b (show 0 < w by omega) c c0 l0 x0 hbb
            simp only [btr, Bool.or_eq_true, Bool.and_eq_true, decide_eq_true_eq] at hb
            rw [hbb] at hby
            have no : WP 3 0 0 114 81 [.ref m, .int (nI c), .int (nI v), u3] [] (put σ m (m + 1) (mF m pm sta rdm (nI stN) me (nI trN) mi slr (nI w) (nI cc) bm (eo (o1 (some (c0, l0, x0)))) (eo (o2 (some (c0, l0, x0)))) (eo (o3 (some (c0, l0, x0)))) ask sn ks kw kt km hsh) (mA apg (arr 6 de) afo (arrI 15 (rw3 ki sr to)) (arr 5 le) (arr 5 fi) (arr 5 (rotk w fi (gbC w ki fi de le trN stN c).2.1)) (arr 5 (gbC w ki fi de le trN stN c).2.2.1) (arr 6 (whN w trN stN c wh)) aod abo aof ama asd akr akl akf akd ako)) none (put σ m (m + 1) (mF m pm sta rdm (nI stN) me (nI trN) mi slr (nI w) (nI ch') bm (eo (o1 (bestF w ki fi de le trN stN (w ^ (stN - trN))))) (eo (o2 (bestF w ki fi de le trN stN (w ^ (stN - trN))))) (eo (o3 (bestF w ki fi de le trN stN (w ^ (stN - trN))))) ask sn ks kw kt km hsh) (mA apg (arr 6 de) afo (arrI 15 (rw3 ki sr to)) (arr 5 le) (arr 5 fi) (arr 5 nf') (arr 5 nl') (arr 6 wh') aod abo aof ama asd akr akl akf akd ako)) := by
              refine wp_iconst d114_81 ic_0 ?_
              refine wp_istore_3 d114_82 (Nat.le_of_ble_eq_true rfl) rfl ?_
              refine wp_aload_0 d114_83 ?_
              refine wp_iload_3 d114_84 ?_
              refine wp_if_eqN d114_85 (by decide) (by omega) (fun h85 => ?_) (fun hq => absurd hq (by omega))
              refine wp_aload_0 d114_95 ?_
              refine wp_getP d114_96 (Nat.le_of_ble_eq_true rfl) kM.1 rfl ?_
              refine wp_putIP d114_99 kM.1 ?_
              refine wp_aload_0 d114_102 ?_
              refine wp_iload_3 d114_103 ?_
              refine wp_if_eqN d114_104 (by decide) (by omega) (fun h104 => ?_) (fun hq => absurd hq (by omega))
              refine wp_aload_0 d114_111 ?_
              refine wp_getP d114_112 (Nat.le_of_ble_eq_true rfl) kM.1 rfl ?_
              refine wp_putIP d114_115 kM.1 ?_
              refine wp_aload_0 d114_118 ?_
              refine wp_iload_3 d114_119 ?_
              refine wp_if_eqN d114_120 (by decide) (by omega) (fun h120 => ?_) (fun hq => absurd hq (by omega))
              refine wp_aload_0 d114_127 ?_
              refine wp_getP d114_128 (Nat.le_of_ble_eq_true rfl) kM.1 rfl ?_
              refine wp_putIP d114_131 kM.1 ?_
              refine wp_iinc_1 d114_134 (Nat.le_of_ble_eq_true rfl) rfl (inc1 _) ?_
              refine wp_goto d114_137 (by decide) ?_
              exact K
            refine wp_iload_1 d114_17 ?_
            refine wp_aload_0 d114_18 ?_
            refine wp_V0r d114_19 kM.1 ((m_ways kM h1 h6)) (Nat.le_of_ble_eq_true rfl) (Nat.le_of_ble_eq_true rfl) ?_
            refine wp_icmp_geN d114_22 (by decide) (by omega) (by omega) (fun hq => absurd hq (by omega)) (fun h22 => ?_)
            refine wp_aload_0 d114_25 ?_
            refine wp_iload_1 d114_26 ?_
            refine wp_V1v d114_27 kM.1 ((m_layWho kM h1 h6 hw hw5 (by omega))) (Nat.le_of_ble_eq_true rfl) (Nat.le_of_ble_eq_true rfl) ?_
            refine wp_aload_0 d114_30 ?_
            refine wp_V0r d114_31 kM.1 ((hby)) (Nat.le_of_ble_eq_true rfl) (Nat.le_of_ble_eq_true rfl) ?_
            refine wp_if_eqB d114_34 (by decide) (fun hq => absurd hq (fun hq => absurd (hg.symm.trans hq) (by decide))) (fun h34 => ?_)
            refine wp_aload_0 d114_37 ?_
            refine wp_V0r d114_38 kM.1 ((m_leastLeft kM hw5 hgl)) (Nat.le_of_ble_eq_true rfl) (Nat.le_of_ble_eq_true rfl) ?_
            rw [hv]
            refine wp_istore_2 d114_41 (Nat.le_of_ble_eq_true rfl) rfl ?_
            refine wp_aload_0 d114_42 ?_
            refine wp_getP d114_43 (Nat.le_of_ble_eq_true rfl) kM.1 rfl ?_
            refine wp_iconst d114_46 ic_m1 ?_
            refine wp_icmp_eq d114_47 (by decide) (fun hq => absurd hq (nI_m1 (by omega))) (fun _ => ?_)
            refine wp_iload_2 d114_50 ?_
            refine wp_aload_0 d114_51 ?_
            refine wp_getP d114_52 (Nat.le_of_ble_eq_true rfl) kM.1 rfl ?_
            refine wp_icmp_gtN d114_55 (by decide) (by omega) (by omega) (fun h => absurd h (by omega)) (fun h55 => ?_)
            refine wp_iload_2 d114_58 ?_
            refine wp_aload_0 d114_59 ?_
            refine wp_getP d114_60 (Nat.le_of_ble_eq_true rfl) kM.1 rfl ?_
            refine wp_icmp_neN d114_63 (by decide) (by omega) (by omega) (fun h => no) (fun h63 => ?_)
            refine wp_aload_0 d114_66 ?_
            refine wp_getP d114_67 (Nat.le_of_ble_eq_true rfl) kM.1 rfl ?_
            refine wp_aload_0 d114_70 ?_
            refine wp_getP d114_71 (Nat.le_of_ble_eq_true rfl) kM.1 rfl ?_
            refine wp_icmp_geN d114_74 (by decide) (by omega) (by omega) (fun h => no) (fun h63 => absurd h63 (by omega))
      · have hg' : (gbC w ki fi de le trN stN c).1 = false := by simpa using hg
        have eb : bestF w ki fi de le trN stN (c + 1) = bestF w ki fi de le trN stN c := by rw [bestF, hg']; rfl
        obtain ⟨wh', nf', nl', ch', K⟩ := ih (c + 1) (whN w trN stN c wh) (rotk w fi (gbC w ki fi de le trN stN c).2.1) (gbC w ki fi de le trN stN c).2.2.1 (gbC w ki fi de le trN stN c).2.2.2 u2 u3 (by omega) hu
        refine ⟨wh', nf', nl', ch', ?_⟩
        rw [eb] at K
        refine wp_iload_1 d114_17 ?_
        refine wp_aload_0 d114_18 ?_
        refine wp_V0r d114_19 kM.1 ((m_ways kM h1 h6)) (Nat.le_of_ble_eq_true rfl) (Nat.le_of_ble_eq_true rfl) ?_
        refine wp_icmp_geN d114_22 (by decide) (by omega) (by omega) (fun hq => absurd hq (by omega)) (fun h22 => ?_)
        refine wp_aload_0 d114_25 ?_
        refine wp_iload_1 d114_26 ?_
        refine wp_V1v d114_27 kM.1 ((m_layWho kM h1 h6 hw hw5 (by omega))) (Nat.le_of_ble_eq_true rfl) (Nat.le_of_ble_eq_true rfl) ?_
        refine wp_aload_0 d114_30 ?_
        refine wp_V0r d114_31 kM.1 ((hby)) (Nat.le_of_ble_eq_true rfl) (Nat.le_of_ble_eq_true rfl) ?_
        refine wp_if_eqB d114_34 (by decide) (fun h34 => ?_) (fun hq => absurd hq (fun hq => absurd (hq.symm.trans hg') (by decide)))
        refine wp_iinc_1 d114_134 (Nat.le_of_ble_eq_true rfl) rfl (inc1 _) ?_
        refine wp_goto d114_137 (by decide) ?_
        exact K
  obtain ⟨wh', nf', nl', ch', K⟩ := loop (w ^ (stN - trN)) 0 wh nf nl ch0 .null .null (by omega) rfl
  refine ⟨wh', nf', nl', ch', ?_⟩
  refine ev_of (L := [(.ref m), .null, .null, .null]) (by decide) rfl (Nat.le_of_ble_eq_true rfl) ?_
  refine wp_aload_0 d114_0 ?_
  refine wp_iconst d114_1 ic_m1 ?_
  refine wp_putIP d114_2 kM.1 ?_
  refine wp_aload_0 d114_5 ?_
  refine wp_iconst d114_6 ic_m1 ?_
  refine wp_putIP d114_7 kM.1 ?_
  refine wp_aload_0 d114_10 ?_
  refine wp_iconst d114_11 ic_m1 ?_
  refine wp_putIP d114_12 kM.1 ?_
  refine wp_iconst d114_15 ic_0 ?_
  refine wp_istore_1 d114_16 (Nat.le_of_ble_eq_true rfl) rfl ?_
  exact K
theorem m_tellBest (kM : KM σ m) {trN stN w ch0 : Nat} {ki sr fi le de wh nf nl : Nat → Nat} {to : Nat → Option Nat} (h1 : trN ≤ stN) (h6 : stN ≤ 6) (hw : 1 ≤ w) (hw5 : w ≤ 5) (hf : PF w fi) (hk : ∀ v, v < w → ki v < 5) (hl : ∀ v, v < w → le v < 1000) (hd : ∀ k, k < stN → de k < 100) (x : Int32) (hx : (x.toInt = 0 ∨ x.toInt = 1) ∨ (10 ≤ x.toInt ∧ x.toInt ≤ 15)) : ∃ (wh' nf' nl' : Nat → Nat) (ch' : Nat) (bc' bl' bch' : Int32), Ev 4 0 0 115 [.ref m, .int x] (put σ m (m + 1) (mF m pm sta rdm (nI stN) me (nI trN) mi slr (nI w) (nI ch0) bm bc bl bch ask sn ks kw kt km hsh) (mA apg (arr 6 de) afo (arrI 15 (rw3 ki sr to)) (arr 5 le) (arr 5 fi) (arr 5 nf) (arr 5 nl) (arr 6 wh) aod abo aof ama asd akr akl akf akd ako)) (some (.int (r_best w ki fi de le trN stN x))) (put σ m (m + 1) (mF m pm sta rdm (nI stN) me (nI trN) mi slr (nI w) (nI ch') bm (bc') (bl') (bch') ask sn ks kw kt km hsh) (mA apg (arr 6 de) afo (arrI 15 (rw3 ki sr to)) (arr 5 le) (arr 5 fi) (arr 5 nf') (arr 5 nl') (arr 6 wh') aod abo aof ama asd akr akl akf akd ako)) := by
  obtain ⟨wh', nf', nl', ch', K⟩ := m_layBest kM (σ := σ) (m := m) (nf := nf) (nl := nl) (wh := wh) (sr := sr) (to := to) (ch0 := ch0) (bc := bc) (bl := bl) (bch := bch) (pm := pm) (sta := sta) (rdm := rdm) (me := me) (mi := mi) (slr := slr) (bm := bm) (ask := ask) (sn := sn) (ks := ks) (kw := kw) (kt := kt) (km := km) (hsh := hsh) (apg := apg) (afo := afo) (aod := aod) (abo := abo) (aof := aof) (ama := ama) (asd := asd) (akr := akr) (akl := akl) (akf := akf) (akd := akd) (ako := ako) h1 h6 hw hw5 hf hk hl hd
  have hpw : w ^ (stN - trN) ≤ 5 ^ 6 := Nat.le_trans (Nat.pow_le_pow_left hw5 _) (Nat.pow_le_pow_right (by decide) (by omega))
  have h56 : (5 : Nat) ^ 6 = 15625 := rfl
  have hbl : (stN - trN) * w ≤ 30 := Nat.le_trans (Nat.mul_le_mul (show stN - trN ≤ 6 by omega) hw5) (by decide)
  cases hbb : bestF w ki fi de le trN stN (w ^ (stN - trN)) with
  | none =>
    rw [hbb] at K
    refine ⟨wh', nf', nl', ch', eo (o1 none), eo (o2 none), eo (o3 none), ?_⟩
    rw [show r_best w ki fi de le trN stN x = -1 by unfold r_best; rw [hbb]]
    refine ev_of (L := [(.ref m), (.int x)]) (by decide) rfl (Nat.le_of_ble_eq_true rfl) ?_
    refine wp_aload_0 d115_0 ?_
    refine wp_V0v d115_1 kM.1 ((K)) (Nat.le_of_ble_eq_true rfl) (Nat.le_of_ble_eq_true rfl) ?_
    refine wp_aload_0 d115_4 ?_
    refine wp_getP d115_5 (Nat.le_of_ble_eq_true rfl) kM.1 rfl ?_
    refine wp_iconst d115_8 ic_m1 ?_
    refine wp_icmp_eq d115_9 (by decide) (fun h9 => ?_) (fun hq => absurd hq (fun hq => hq rfl))
    refine wp_iload_1 d115_18 ?_
    refine wp_if_ne d115_19 (by decide) (fun h19 => ?_) (fun h19 => ?_)
    · refine wp_iload_1 d115_29 ?_
      refine wp_iconst d115_30 ic_1 ?_
      refine wp_icmp_ne d115_31 (by decide) (fun h31 => ?_) (fun h31 => ?_)
      · refine wp_iconst d115_41 ic_m1 ?_
        exact wp_iret d115_42 rfl rfl rfl
      · refine wp_aload_0 d115_34 ?_
        refine wp_getP d115_35 (Nat.le_of_ble_eq_true rfl) kM.1 rfl ?_
        refine wp_goto d115_38 (by decide) ?_
        exact wp_iret d115_42 rfl rfl rfl
    · refine wp_aload_0 d115_22 ?_
      refine wp_getP d115_23 (Nat.le_of_ble_eq_true rfl) kM.1 rfl ?_
      refine wp_goto d115_26 (by decide) ?_
      exact wp_iret d115_42 rfl rfl rfl
  | some q =>
    obtain ⟨c0, l0, x0⟩ := q
    rw [hbb] at K
    have hq := bestF_b (show 0 < w by omega) _ c0 l0 x0 hbb
    by_cases hx1 : x.toInt = 0 ∨ x.toInt = 1
    · refine ⟨wh', nf', nl', ch', eo (o1 (some (c0, l0, x0))), eo (o2 (some (c0, l0, x0))), eo (o3 (some (c0, l0, x0))), ?_⟩
      rw [show r_best w ki fi de le trN stN x = (if x.toInt = 0 then nI l0 else nI x0) by unfold r_best; rw [hbb]; simp only; grind]
      refine ev_of (L := [(.ref m), (.int x)]) (by decide) rfl (Nat.le_of_ble_eq_true rfl) ?_
      refine wp_aload_0 d115_0 ?_
      refine wp_V0v d115_1 kM.1 ((K)) (Nat.le_of_ble_eq_true rfl) (Nat.le_of_ble_eq_true rfl) ?_
      refine wp_aload_0 d115_4 ?_
      refine wp_getP d115_5 (Nat.le_of_ble_eq_true rfl) kM.1 rfl ?_
      refine wp_iconst d115_8 ic_m1 ?_
      refine wp_icmp_eq d115_9 (by decide) (fun hq => absurd hq (nI_m1 (by omega))) (fun _ => ?_)
      refine wp_iload_1 d115_12 ?_
      refine wp_bipush d115_13 bi_10 ?_
      refine wp_icmp_ge d115_15 (by decide) (fun hq => absurd ((ge_nI (by decide)).mp hq) (by omega)) (fun _ => ?_)
      refine wp_iload_1 d115_18 ?_
      refine wp_if_ne d115_19 (by decide) (fun h19 => ?_) (fun h19 => ?_)
      · rw [if_neg (fun z => h19 (eq_0.mpr z))]
        refine wp_iload_1 d115_29 ?_
        refine wp_iconst d115_30 ic_1 ?_
        refine wp_icmp_ne d115_31 (by decide) (fun hq => absurd ((eq_nI (a := 1) (by decide)).mpr (by rcases hx1 with z | z; exact absurd ((eq_nI (a := 0) (by decide)).mpr z) h19; exact z)) hq) (fun _ => ?_)
        refine wp_aload_0 d115_34 ?_
        refine wp_getP d115_35 (Nat.le_of_ble_eq_true rfl) kM.1 rfl ?_
        refine wp_goto d115_38 (by decide) ?_
        exact wp_iret d115_42 rfl rfl rfl
      · rw [if_pos (eq_0.mp h19)]
        refine wp_aload_0 d115_22 ?_
        refine wp_getP d115_23 (Nat.le_of_ble_eq_true rfl) kM.1 rfl ?_
        refine wp_goto d115_26 (by decide) ?_
        exact wp_iret d115_42 rfl rfl rfl
    · have hx2 : 10 ≤ x.toInt ∧ x.toInt ≤ 15 := by omega
      obtain ⟨y, hy, rfl⟩ : ∃ y : Nat, y ≤ 5 ∧ x = nI (y + 10) := ⟨(x.toInt - 10).toNat, by omega, by rw [show (x.toInt - 10).toNat + 10 = x.toInt.toNat by omega]; exact nI_to (by omega)⟩
      have ex : (nI (y + 10)).toInt = ((y + 10 : Nat) : Int) := nI_toInt (by omega)
      refine ⟨whN w trN stN c0 wh', nf', nl', ch', eo (o1 (some (c0, l0, x0))), eo (o2 (some (c0, l0, x0))), eo (o3 (some (c0, l0, x0))), ?_⟩
      rw [show r_best w ki fi de le trN stN (nI (y + 10)) = (if inB (nI y) trN ((stN : Int) - 1) then nI (whC w trN stN c0 y) else -1) by
        unfold r_best inB
        rw [hbb, ex, nI_toInt (by omega)]
        simp only [decide_eq_true_eq]
        rw [if_neg (by omega), if_neg (by omega), show (((y + 10 : Nat) : Int) - 10) = (y : Int) by omega]
        rfl]
      refine ev_of (L := [(.ref m), (.int (nI (y + 10)))]) (by decide) rfl (Nat.le_of_ble_eq_true rfl) ?_
      refine wp_aload_0 d115_0 ?_
      refine wp_V0v d115_1 kM.1 ((K)) (Nat.le_of_ble_eq_true rfl) (Nat.le_of_ble_eq_true rfl) ?_
      refine wp_aload_0 d115_4 ?_
      refine wp_getP d115_5 (Nat.le_of_ble_eq_true rfl) kM.1 rfl ?_
      refine wp_iconst d115_8 ic_m1 ?_
      refine wp_icmp_eq d115_9 (by decide) (fun hq => absurd hq (nI_m1 (by omega))) (fun _ => ?_)
      refine wp_iload_1 d115_12 ?_
      refine wp_bipush d115_13 bi_10 ?_
      refine wp_icmp_geN d115_15 (by decide) (by omega) (by omega) (fun h15 => ?_) (fun hq => absurd hq (by omega))
      refine wp_aload_0 d115_43 ?_
      refine wp_aload_0 d115_44 ?_
      refine wp_getP d115_45 (Nat.le_of_ble_eq_true rfl) kM.1 rfl ?_
      refine wp_V1v d115_48 kM.1 ((m_layWho kM h1 h6 hw hw5 (by omega))) (Nat.le_of_ble_eq_true rfl) (Nat.le_of_ble_eq_true rfl) ?_
      refine wp_iload_1 d115_51 ?_
      refine wp_bipush d115_52 bi_10 ?_
      refine wp_isubN d115_54 (by omega) ?_
      rw [Nat.add_sub_cancel]
      refine wp_i2l d115_55 ?_
      refine wp_aload_0 d115_56 ?_
      refine wp_getP d115_57 (Nat.le_of_ble_eq_true rfl) kM.1 rfl ?_
      refine wp_i2l d115_60 ?_
      refine wp_aload_0 d115_61 ?_
      refine wp_getP d115_62 (Nat.le_of_ble_eq_true rfl) kM.1 rfl ?_
      refine wp_iconst d115_65 ic_1 ?_
      refine wp_isub d115_66 ?_
      refine wp_i2l d115_67 ?_
      refine wp_S3r d115_68 rfl ((m_in (nI y) (a := trN) (b := (stN : Int) - 1) (by rw [x64, nI_toInt (by omega)]) (pred64 (by omega)))) (Nat.le_of_ble_eq_true rfl) (Nat.le_of_ble_eq_true rfl) ?_
      refine wp_if_eqB d115_71 (by decide) (fun h71 => ?_) (fun h71 => ?_)
      · rw [h71, if_neg (by decide)]
        refine wp_iconst d115_86 ic_m1 ?_
        exact wp_iret d115_87 rfl rfl rfl
      · rw [h71, if_pos rfl]
        have hb := inB_t.mp h71
        rw [nI_toInt (by omega)] at hb
        refine wp_aload_0 d115_74 ?_
        refine wp_getP d115_75 (Nat.le_of_ble_eq_true rfl) kM.1 rfl ?_
        refine wp_iload_1 d115_78 ?_
        refine wp_bipush d115_79 bi_10 ?_
        refine wp_isubN d115_81 (by omega) ?_
        rw [Nat.add_sub_cancel]
        refine wp_aldP d115_82 (kM.2 _ (Nat.le_of_ble_eq_true rfl)) rfl (by omega) (by decide) ?_
        refine wp_goto d115_83 (by decide) ?_
        rw [show whN w trN stN c0 wh' y = whC w trN stN c0 y by unfold whC whN; rw [if_pos (by omega), if_pos (by omega)]]
        exact wp_iret d115_87 rfl rfl rfl

end S09_mo5b
