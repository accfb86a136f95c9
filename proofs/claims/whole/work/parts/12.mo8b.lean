section S12_mo8b
variable {σ : Sto} {m : Nat} {pm sta rdm st me tr mi slr wa cha bm bc bl bch ask sn ks kw kt km : Int32} {hsh : Int64} {apg ade afo aro ale afi anf anl awh aod abo aof ama asd akr akl akf akd ako : List Int32}

theorem m_layFits (kM : KM σ m) {trN stN w ch0 : Nat} {ki sr fi le de wh nf nl ofn mav : Nat → Nat} {to : Nat → Option Nat} (h1 : trN ≤ stN) (h6 : stN ≤ 6) (hw : 1 ≤ w) (hw5 : w ≤ 5) (hf : PF w fi) (hk : ∀ v, v < w → ki v < 5) (hl : ∀ v, v < w → le v < 1000) (hd : ∀ k, k < stN → de k < 100) (hto : ∀ v, v < w → ∀ j, to v = some j → j < 2 ^ 31) : ∃ (wh' nf' nl' of' : Nat → Nat) (ch' : Nat), Ev 3 0 0 125 [.ref m] (put σ m (m + 1) (mF m pm sta rdm (nI stN) me (nI trN) mi slr (nI w) (nI ch0) bm bc bl bch ask sn ks kw kt km hsh) (mA apg (arr 6 de) afo (arrI 15 (rw3 ki sr to)) (arr 5 le) (arr 5 fi) (arr 5 nf) (arr 5 nl) (arr 6 wh) aod abo (arr 5 ofn) (arr 6 mav) asd akr akl akf akd ako)) (some (.int (nI (ftN w ki fi de le to trN stN (w ^ (stN - trN)))))) (put σ m (m + 1) (mF m pm sta rdm (nI stN) me (nI trN) mi slr (nI w) (nI ch') bm bc bl bch ask sn ks kw kt km hsh) (mA apg (arr 6 de) afo (arrI 15 (rw3 ki sr to)) (arr 5 le) (arr 5 fi) (arr 5 nf') (arr 5 nl') (arr 6 wh') aod abo (arr 5 of') (arr 6 (myN w ki fi de le to trN stN (w ^ (stN - trN)))) asd akr akl akf akd ako)) := by
  have hpw : w ^ (stN - trN) ≤ 5 ^ 6 := Nat.le_trans (Nat.pow_le_pow_left hw5 _) (Nat.pow_le_pow_right (by decide) (by omega))
  have h56 : (5 : Nat) ^ 6 = 15625 := rfl
  have loop : ∀ (n c : Nat) (wh nf nl ofn : Nat → Nat) (ch : Nat) (u3 : Value), c + n = w ^ (stN - trN) → ∃ (wh' nf' nl' of' : Nat → Nat) (ch' : Nat), WP 3 0 0 125 25 [.ref m, .int (nI (ftN w ki fi de le to trN stN c)), .int (nI c), u3] [] (put σ m (m + 1) (mF m pm sta rdm (nI stN) me (nI trN) mi slr (nI w) (nI ch) bm bc bl bch ask sn ks kw kt km hsh) (mA apg (arr 6 de) afo (arrI 15 (rw3 ki sr to)) (arr 5 le) (arr 5 fi) (arr 5 nf) (arr 5 nl) (arr 6 wh) aod abo (arr 5 ofn) (arr 6 (myN w ki fi de le to trN stN c)) asd akr akl akf akd ako)) (some (.int (nI (ftN w ki fi de le to trN stN (w ^ (stN - trN)))))) (put σ m (m + 1) (mF m pm sta rdm (nI stN) me (nI trN) mi slr (nI w) (nI ch') bm bc bl bch ask sn ks kw kt km hsh) (mA apg (arr 6 de) afo (arrI 15 (rw3 ki sr to)) (arr 5 le) (arr 5 fi) (arr 5 nf') (arr 5 nl') (arr 6 wh') aod abo (arr 5 of') (arr 6 (myN w ki fi de le to trN stN (w ^ (stN - trN)))) asd akr akl akf akd ako)) := by
    intro n
    induction n with
    | zero =>
      intro c wh nf nl ofn ch u3 hc
      refine ⟨wh, nf, nl, ofn, ch, ?_⟩
      have e : w ^ (stN - trN) = c := by omega
      refine wp_iload_2 d125_25 ?_
      refine wp_aload_0 d125_26 ?_
      refine wp_V0r d125_27 kM.1 ((m_ways kM h1 h6)) (Nat.le_of_ble_eq_true rfl) (Nat.le_of_ble_eq_true rfl) ?_
      rw [e]
      refine wp_icmp_geN d125_30 (by decide) (by omega) (by omega) (fun h30 => ?_) (fun hq => absurd hq (by omega))
      refine wp_iload_1 d125_97 ?_
      exact wp_iret d125_98 rfl rfl rfl
    | succ n ih =>
      intro c wh nf nl ofn ch u3 hc
      have hwl : ∀ k, trN ≤ k → k < stN → whN w trN stN c wh k < w := fun k a b => whN_lt (by omega) a b
      have ewh : ∀ i, trN ≤ i → i < trN + (stN - trN) → whN w trN stN c wh i = whC w trN stN c i := fun i a b => by unfold whC whN; rw [if_pos (by omega), if_pos (by omega)]
      have eg : gb w ki fi de (whN w trN stN c wh) (stN - trN) trN 0 le 0 = gbC w ki fi de le trN stN c := gb_congr _ _ _ _ _ ewh
      have ebk := bok_congr (to := to) ewh w
      obtain ⟨of1, hbk⟩ := m_isBooked kM (wh := whN w trN stN c wh) (ofn := ofn) (ki := ki) (cha := nI ch) (ade := arr 6 de) (afi := arr 5 fi) (ale := arr 5 le) (anf := arr 5 nf) (anl := arr 5 nl) (ama := arr 6 (myN w ki fi de le to trN stN c)) (ask := ask) (σ := σ) (m := m) (sr := sr) (to := to) (pm := pm) (sta := sta) (rdm := rdm) (me := me) (mi := mi) (slr := slr) (bm := bm) (bc := bc) (bl := bl) (bch := bch) (sn := sn) (ks := ks) (kw := kw) (kt := kt) (km := km) (hsh := hsh) (apg := apg) (afo := afo) (asd := asd) (akr := akr) (akl := akl) (akf := akf) (akd := akd) (ako := ako) (aod := aod) (abo := abo) h1 h6 hw5 hwl hto
      have hby := m_goesBy kM (nf := nf) (nl := nl) (wh := whN w trN stN c wh) (cha := nI ch) (ask := ask) (aof := arr 5 of1) (ama := arr 6 (myN w ki fi de le to trN stN c)) (σ := σ) (m := m) (sr := sr) (to := to) (pm := pm) (sta := sta) (rdm := rdm) (me := me) (mi := mi) (slr := slr) (bm := bm) (bc := bc) (bl := bl) (bch := bch) (sn := sn) (ks := ks) (kw := kw) (kt := kt) (km := km) (hsh := hsh) (apg := apg) (afo := afo) (asd := asd) (akr := akr) (akl := akl) (akf := akf) (akd := akd) (ako := ako) (aod := aod) (abo := abo) h1 h6 hw hw5 hf hk hl hd hwl
      rw [ebk] at hbk
      rw [eg] at hby
      have hnot : fitC w ki fi de le to trN stN c = false → ftN w ki fi de le to trN stN (c + 1) = ftN w ki fi de le to trN stN c ∧ myN w ki fi de le to trN stN (c + 1) = myN w ki fi de le to trN stN c := by
        intro z
        refine ⟨by simp [ftN, z], ?_⟩
        funext k
        simp [myN, z]
      by_cases hb : bok to (whC w trN stN c) trN (stN - trN) w = true
      · by_cases hg : (gbC w ki fi de le trN stN c).1 = true
        · have hfit : fitC w ki fi de le to trN stN c = true := by simp only [fitC, hb, hg, Bool.and_self]
          have ef : ftN w ki fi de le to trN stN (c + 1) = ftN w ki fi de le to trN stN c + 1 := by simp [ftN, hfit]
          obtain ⟨wh', nf', nl', of', ch', K⟩ := ih (c + 1) (whN w trN stN c wh) (rotk w fi (gbC w ki fi de le trN stN c).2.1) (gbC w ki fi de le trN stN c).2.2.1 of1 (gbC w ki fi de le trN stN c).2.2.2 (.int (nI stN)) (by omega)
          refine ⟨wh', nf', nl', of', ch', ?_⟩
          rw [ef] at K
          have inner : ∀ (i k : Nat) (f : Nat → Nat), trN + k + i = stN → (∀ j, f j = if trN ≤ j ∧ j < trN + k then myN w ki fi de le to trN stN c j ||| 2 ^ whC w trN stN c j else myN w ki fi de le to trN stN c j) → WP 3 0 0 125 60 [.ref m, .int (nI (ftN w ki fi de le to trN stN c + 1)), .int (nI c), .int (nI (trN + k))] [] (put σ m (m + 1) (mF m pm sta rdm (nI stN) me (nI trN) mi slr (nI w) (nI (gbC w ki fi de le trN stN c).2.2.2) bm bc bl bch ask sn ks kw kt km hsh) (mA apg (arr 6 de) afo (arrI 15 (rw3 ki sr to)) (arr 5 le) (arr 5 fi) (arr 5 (rotk w fi (gbC w ki fi de le trN stN c).2.1)) (arr 5 (gbC w ki fi de le trN stN c).2.2.1) (arr 6 (whN w trN stN c wh)) aod abo (arr 5 of1) (arr 6 f) asd akr akl akf akd ako)) (some (.int (nI (ftN w ki fi de le to trN stN (w ^ (stN - trN)))))) (put σ m (m + 1) (mF m pm sta rdm (nI stN) me (nI trN) mi slr (nI w) (nI ch') bm bc bl bch ask sn ks kw kt km hsh) (mA apg (arr 6 de) afo (arrI 15 (rw3 ki sr to)) (arr 5 le) (arr 5 fi) (arr 5 nf') (arr 5 nl') (arr 6 wh') aod abo (arr 5 of') (arr 6 (myN w ki fi de le to trN stN (w ^ (stN - trN)))) asd akr akl akf akd ako)) := by
            intro i
            induction i with
            | zero =>
              intro k f hk' hf'
              have e : trN + k = stN := by omega
              have e2 : f = myN w ki fi de le to trN stN (c + 1) := by
                funext j
                rw [hf', e]
                simp only [myN, hfit, true_and]
              rw [e, e2]
              refine wp_iload_3 d125_60 ?_
              refine wp_aload_0 d125_61 ?_
              refine wp_getP d125_62 (Nat.le_of_ble_eq_true rfl) kM.1 rfl ?_
              refine wp_icmp_geN d125_65 (by decide) (by omega) (by omega) (fun h65 => ?_) (fun hq => absurd hq (by omega))
              refine wp_iinc_2 d125_91 (Nat.le_of_ble_eq_true rfl) rfl (inc1 _) ?_
              refine wp_goto d125_94 (by decide) ?_
              exact K
            | succ i ih2 =>
              intro k f hk' hf'
              have hv := hwl (trN + k) (by omega) (by omega)
              have hv' := ewh (trN + k) (by omega) (by omega)
              have hpo : 2 ^ whN w trN stN c wh (trN + k) ≤ 2 ^ 5 := Nat.pow_le_pow_right (by decide) (by omega)
              have h32 : (2 : Nat) ^ 5 = 32 := rfl
              refine wp_iload_3 d125_60 ?_
              refine wp_aload_0 d125_61 ?_
              refine wp_getP d125_62 (Nat.le_of_ble_eq_true rfl) kM.1 rfl ?_
              refine wp_icmp_geN d125_65 (by decide) (by omega) (by omega) (fun hq => absurd hq (by omega)) (fun h65 => ?_)
              refine wp_aload_0 d125_68 ?_
              refine wp_getP d125_69 (Nat.le_of_ble_eq_true rfl) kM.1 rfl ?_
              refine wp_iload_3 d125_72 ?_
              refine wp_dup2 d125_73 rfl rfl ?_
              refine wp_aldP d125_74 (kM.2 _ (Nat.le_of_ble_eq_true rfl)) rfl (by omega) (by decide) ?_
              refine wp_iconst d125_75 ic_1 ?_
              refine wp_aload_0 d125_76 ?_
              refine wp_getP d125_77 (Nat.le_of_ble_eq_true rfl) kM.1 rfl ?_
              refine wp_iload_3 d125_80 ?_
              refine wp_aldP d125_81 (kM.2 _ (Nat.le_of_ble_eq_true rfl)) rfl (by omega) (by decide) ?_
              refine wp_ishlN d125_82 (by omega) (by omega) ?_
              refine wp_ior d125_83 ?_
              rw [nI_or, Nat.one_mul]
              refine wp_astN d125_84 (kM.2 _ (Nat.le_of_ble_eq_true rfl)) rfl (by omega) (by decide) ?_
              refine wp_iinc_3 d125_85 (Nat.le_of_ble_eq_true rfl) rfl (inc1 _) ?_
              refine wp_goto d125_88 (by decide) ?_
              refine ih2 (k + 1) _ (by omega) (fun j => ?_)
              unfold up
              rw [hv']
              have e1 := hf' j
              have e2 := hf' (trN + k)
              rw [if_neg (by omega)] at e2
              by_cases hj : j = trN + k
              · subst hj
                rw [if_pos rfl, if_pos (by omega), e2]
              · rw [if_neg hj, e1]
                by_cases h2 : trN ≤ j ∧ j < trN + k
                · rw [if_pos h2, if_pos (by omega)]
                · rw [if_neg h2, if_neg (by omega)]
          refine wp_iload_2 d125_25 ?_
          refine wp_aload_0 d125_26 ?_
          refine wp_V0r d125_27 kM.1 ((m_ways kM h1 h6)) (Nat.le_of_ble_eq_true rfl) (Nat.le_of_ble_eq_true rfl) ?_
          refine wp_icmp_geN d125_30 (by decide) (by omega) (by omega) (fun hq => absurd hq (by omega)) (fun h30 => ?_)
          refine wp_aload_0 d125_33 ?_
          refine wp_iload_2 d125_34 ?_
          refine wp_V1v d125_35 kM.1 ((m_layWho kM h1 h6 hw hw5 (by omega))) (Nat.le_of_ble_eq_true rfl) (Nat.le_of_ble_eq_true rfl) ?_
          refine wp_aload_0 d125_38 ?_
          refine wp_V0r d125_39 kM.1 ((hbk)) (Nat.le_of_ble_eq_true rfl) (Nat.le_of_ble_eq_true rfl) ?_
          refine wp_if_eqB d125_42 (by decide) (fun hq => absurd hq (fun hq => absurd (hb.symm.trans hq) (by decide))) (fun h42 => ?_)
          refine wp_aload_0 d125_45 ?_
          refine wp_V0r d125_46 kM.1 ((hby)) (Nat.le_of_ble_eq_true rfl) (Nat.le_of_ble_eq_true rfl) ?_
          refine wp_if_eqB d125_49 (by decide) (fun hq => absurd hq (fun hq => absurd (hg.symm.trans hq) (by decide))) (fun h49 => ?_)
          refine wp_iinc_1 d125_52 (Nat.le_of_ble_eq_true rfl) rfl (inc1 _) ?_
          refine wp_aload_0 d125_55 ?_
          refine wp_getP d125_56 (Nat.le_of_ble_eq_true rfl) kM.1 rfl ?_
          refine wp_istore_3 d125_59 (Nat.le_of_ble_eq_true rfl) rfl ?_
          exact inner (stN - trN) 0 _ (by omega) (fun j => by rw [if_neg (by omega)])
        · have hg' : (gbC w ki fi de le trN stN c).1 = false := by simpa using hg
          obtain ⟨e1, e2⟩ := hnot (by simp only [fitC, hg', Bool.and_false])
          obtain ⟨wh', nf', nl', of', ch', K⟩ := ih (c + 1) (whN w trN stN c wh) (rotk w fi (gbC w ki fi de le trN stN c).2.1) (gbC w ki fi de le trN stN c).2.2.1 of1 (gbC w ki fi de le trN stN c).2.2.2 u3 (by omega)
          refine ⟨wh', nf', nl', of', ch', ?_⟩
          rw [e1, e2] at K
          refine wp_iload_2 d125_25 ?_
          refine wp_aload_0 d125_26 ?_
          refine wp_V0r d125_27 kM.1 ((m_ways kM h1 h6)) (Nat.le_of_ble_eq_true rfl) (Nat.le_of_ble_eq_true rfl) ?_
          refine wp_icmp_geN d125_30 (by decide) (by omega) (by omega) (fun hq => absurd hq (by omega)) (fun h30 => ?_)
          refine wp_aload_0 d125_33 ?_
          refine wp_iload_2 d125_34 ?_
          refine wp_V1v d125_35 kM.1 ((m_layWho kM h1 h6 hw hw5 (by omega))) (Nat.le_of_ble_eq_true rfl) (Nat.le_of_ble_eq_true rfl) ?_
          refine wp_aload_0 d125_38 ?_
          refine wp_V0r d125_39 kM.1 ((hbk)) (Nat.le_of_ble_eq_true rfl) (Nat.le_of_ble_eq_true rfl) ?_
          refine wp_if_eqB d125_42 (by decide) (fun hq => absurd hq (fun hq => absurd (hb.symm.trans hq) (by decide))) (fun h42 => ?_)
          refine wp_aload_0 d125_45 ?_
          refine wp_V0r d125_46 kM.1 ((hby)) (Nat.le_of_ble_eq_true rfl) (Nat.le_of_ble_eq_true rfl) ?_
          refine wp_if_eqB d125_49 (by decide) (fun h49 => ?_) (fun hq => absurd hq (fun hq => absurd (hq.symm.trans hg') (by decide)))
          refine wp_iinc_2 d125_91 (Nat.le_of_ble_eq_true rfl) rfl (inc1 _) ?_
          refine wp_goto d125_94 (by decide) ?_
          exact K
      · have hb' : bok to (whC w trN stN c) trN (stN - trN) w = false := by simpa using hb
        obtain ⟨e1, e2⟩ := hnot (by simp only [fitC, hb', Bool.false_and])
        obtain ⟨wh', nf', nl', of', ch', K⟩ := ih (c + 1) (whN w trN stN c wh) nf nl of1 ch u3 (by omega)
        refine ⟨wh', nf', nl', of', ch', ?_⟩
        rw [e1, e2] at K
        refine wp_iload_2 d125_25 ?_
        refine wp_aload_0 d125_26 ?_
        refine wp_V0r d125_27 kM.1 ((m_ways kM h1 h6)) (Nat.le_of_ble_eq_true rfl) (Nat.le_of_ble_eq_true rfl) ?_
        refine wp_icmp_geN d125_30 (by decide) (by omega) (by omega) (fun hq => absurd hq (by omega)) (fun h30 => ?_)
        refine wp_aload_0 d125_33 ?_
        refine wp_iload_2 d125_34 ?_
        refine wp_V1v d125_35 kM.1 ((m_layWho kM h1 h6 hw hw5 (by omega))) (Nat.le_of_ble_eq_true rfl) (Nat.le_of_ble_eq_true rfl) ?_
        refine wp_aload_0 d125_38 ?_
        refine wp_V0r d125_39 kM.1 ((hbk)) (Nat.le_of_ble_eq_true rfl) (Nat.le_of_ble_eq_true rfl) ?_
        refine wp_if_eqB d125_42 (by decide) (fun h42 => ?_) (fun hq => absurd hq (fun hq => absurd (hq.symm.trans hb') (by decide)))
        refine wp_iinc_2 d125_91 (Nat.le_of_ble_eq_true rfl) rfl (inc1 _) ?_
        refine wp_goto d125_94 (by decide) ?_
        exact K
  obtain ⟨wh', nf', nl', of', ch', K⟩ := loop (w ^ (stN - trN)) 0 wh nf nl ofn ch0 .null (by omega)
  refine ⟨wh', nf', nl', of', ch', ?_⟩
  have clr : ∀ (n k : Nat) (f : Nat → Nat), k + n = 6 → (∀ j, j < k → f j = 0) → WP 3 0 0 125 2 [.ref m, .int (nI k), .null, .null] [] (put σ m (m + 1) (mF m pm sta rdm (nI stN) me (nI trN) mi slr (nI w) (nI ch0) bm bc bl bch ask sn ks kw kt km hsh) (mA apg (arr 6 de) afo (arrI 15 (rw3 ki sr to)) (arr 5 le) (arr 5 fi) (arr 5 nf) (arr 5 nl) (arr 6 wh) aod abo (arr 5 ofn) (arr 6 f) asd akr akl akf akd ako)) (some (.int (nI (ftN w ki fi de le to trN stN (w ^ (stN - trN)))))) (put σ m (m + 1) (mF m pm sta rdm (nI stN) me (nI trN) mi slr (nI w) (nI ch') bm bc bl bch ask sn ks kw kt km hsh) (mA apg (arr 6 de) afo (arrI 15 (rw3 ki sr to)) (arr 5 le) (arr 5 fi) (arr 5 nf') (arr 5 nl') (arr 6 wh') aod abo (arr 5 of') (arr 6 (myN w ki fi de le to trN stN (w ^ (stN - trN)))) asd akr akl akf akd ako)) := by
    intro n
    induction n with
    | zero =>
      intro k f hk' hf'
      rw [arr_ext (f := f) (g := myN w ki fi de le to trN stN 0) (fun j hj => hf' j (by omega))]
      refine wp_iload_1 d125_2 ?_
      refine wp_bipush d125_3 bi_6 ?_
      refine wp_icmp_geN d125_5 (by decide) (by omega) (by omega) (fun h5 => ?_) (fun hq => absurd hq (by omega))
      refine wp_iconst d125_21 ic_0 ?_
      refine wp_istore_1 d125_22 (Nat.le_of_ble_eq_true rfl) rfl ?_
      refine wp_iconst d125_23 ic_0 ?_
      refine wp_istore_2 d125_24 (Nat.le_of_ble_eq_true rfl) rfl ?_
      exact K
    | succ n ih =>
      intro k f hk' hf'
      refine wp_iload_1 d125_2 ?_
      refine wp_bipush d125_3 bi_6 ?_
      refine wp_icmp_geN d125_5 (by decide) (by omega) (by omega) (fun hq => absurd hq (by omega)) (fun h5 => ?_)
      refine wp_aload_0 d125_8 ?_
      refine wp_getP d125_9 (Nat.le_of_ble_eq_true rfl) kM.1 rfl ?_
      refine wp_iload_1 d125_12 ?_
      refine wp_iconst d125_13 ic_0 ?_
      refine wp_astN d125_14 (kM.2 _ (Nat.le_of_ble_eq_true rfl)) rfl (by omega) (by decide) ?_
      refine wp_iinc_1 d125_15 (Nat.le_of_ble_eq_true rfl) rfl (inc1 _) ?_
      refine wp_goto d125_18 (by decide) ?_
      exact ih (k + 1) _ (by omega) (fun j hj => by unfold up; grind)
  refine ev_of (L := [(.ref m), .null, .null, .null]) (by decide) rfl (Nat.le_of_ble_eq_true rfl) ?_
  refine wp_iconst d125_0 ic_0 ?_
  refine wp_istore_1 d125_1 (Nat.le_of_ble_eq_true rfl) rfl ?_
  exact clr 6 0 mav rfl (fun j hj => by omega)
theorem m_fits (kM : KM σ m) {trN stN w ch0 asN : Nat} {ki sr fi le de wh nf nl ofn mav : Nat → Nat} {to : Nat → Option Nat} (h1 : trN ≤ stN) (h6 : stN ≤ 6) (hw5 : w ≤ 5) (hf : PF w fi) (hk : ∀ v, v < w → ki v < 5) (hl : ∀ v, v < w → le v < 1000) (hd : ∀ k, k < stN → de k < 100) (hto : ∀ v, v < w → ∀ j, to v = some j → j < 2 ^ 31) (has : asN ≤ 40) : ∃ (wh' nf' nl' of' ma' : Nat → Nat) (ch' : Nat), Ev 4 0 0 126 [.ref m] (put σ m (m + 1) (mF m pm sta rdm (nI stN) me (nI trN) mi slr (nI w) (nI ch0) bm bc bl bch (nI asN) sn ks kw kt km hsh) (mA apg (arr 6 de) afo (arrI 15 (rw3 ki sr to)) (arr 5 le) (arr 5 fi) (arr 5 nf) (arr 5 nl) (arr 6 wh) aod abo (arr 5 ofn) (arr 6 mav) asd akr akl akf akd ako)) (some (.int (if w = 0 ∨ asN = 40 then -103 else nI (ftN w ki fi de le to trN stN (w ^ (stN - trN)))))) (put σ m (m + 1) (mF m pm sta rdm (nI stN) me (nI trN) mi slr (nI w) (nI ch') bm bc bl bch (nI (if w = 0 ∨ asN = 40 then asN else asN + 1)) sn ks kw kt km hsh) (mA apg (arr 6 de) afo (arrI 15 (rw3 ki sr to)) (arr 5 le) (arr 5 fi) (arr 5 nf') (arr 5 nl') (arr 6 wh') aod abo (arr 5 of') (arr 6 ma') asd akr akl akf akd ako)) := by
  by_cases hs : w = 0 ∨ asN = 40
  · refine ⟨wh, nf, nl, ofn, mav, ch0, ?_⟩
    rw [if_pos hs, if_pos hs]
    refine ev_of (L := [(.ref m)]) (by decide) rfl (Nat.le_of_ble_eq_true rfl) ?_
    refine wp_aload_0 d126_0 ?_
    refine wp_getP d126_1 (Nat.le_of_ble_eq_true rfl) kM.1 rfl ?_
    refine wp_if_eqN d126_4 (by decide) (by omega) (fun h4 => ?_) (fun h4 => ?_)
    · refine wp_bipush d126_16 bi_m103 ?_
      exact wp_iret d126_18 rfl rfl rfl
    · refine wp_aload_0 d126_7 ?_
      refine wp_getP d126_8 (Nat.le_of_ble_eq_true rfl) kM.1 rfl ?_
      refine wp_bipush d126_11 bi_40 ?_
      refine wp_icmp_neN d126_13 (by decide) (by omega) (by omega) (fun hq => absurd hq (by omega)) (fun h13 => ?_)
      refine wp_bipush d126_16 bi_m103 ?_
      exact wp_iret d126_18 rfl rfl rfl
  · obtain ⟨wh', nf', nl', of', ch', K⟩ := m_layFits kM (ch0 := ch0) (wh := wh) (nf := nf) (nl := nl) (ofn := ofn) (mav := mav) (ask := nI (asN + 1)) (σ := σ) (m := m) (sr := sr) (to := to) (pm := pm) (sta := sta) (rdm := rdm) (me := me) (mi := mi) (slr := slr) (bm := bm) (bc := bc) (bl := bl) (bch := bch) (sn := sn) (ks := ks) (kw := kw) (kt := kt) (km := km) (hsh := hsh) (apg := apg) (afo := afo) (asd := asd) (akr := akr) (akl := akl) (akf := akf) (akd := akd) (ako := ako) (aod := aod) (abo := abo) h1 h6 (show 1 ≤ w by omega) hw5 hf hk hl hd hto
    refine ⟨wh', nf', nl', of', myN w ki fi de le to trN stN (w ^ (stN - trN)), ch', ?_⟩
    rw [if_neg hs, if_neg hs]
    refine ev_of (L := [(.ref m)]) (by decide) rfl (Nat.le_of_ble_eq_true rfl) ?_
    refine wp_aload_0 d126_0 ?_
    refine wp_getP d126_1 (Nat.le_of_ble_eq_true rfl) kM.1 rfl ?_
    refine wp_if_eqN d126_4 (by decide) (by omega) (fun hq => absurd hq (by omega)) (fun h4 => ?_)
    refine wp_aload_0 d126_7 ?_
    refine wp_getP d126_8 (Nat.le_of_ble_eq_true rfl) kM.1 rfl ?_
    refine wp_bipush d126_11 bi_40 ?_
    refine wp_icmp_neN d126_13 (by decide) (by omega) (by omega) (fun h13 => ?_) (fun hq => absurd hq (by omega))
    refine wp_aload_0 d126_19 ?_
    refine wp_dup d126_20 rfl ?_
    refine wp_getP d126_21 (Nat.le_of_ble_eq_true rfl) kM.1 rfl ?_
    refine wp_iconst d126_24 ic_1 ?_
    refine wp_iaddN d126_25 ?_
    refine wp_putIP d126_26 kM.1 ?_
    refine wp_aload_0 d126_29 ?_
    refine wp_V0r d126_30 kM.1 ((K)) (Nat.le_of_ble_eq_true rfl) (Nat.le_of_ble_eq_true rfl) ?_
    exact wp_iret d126_33 rfl rfl rfl
theorem m_sure (kM : KM σ m) {trN stN w ch0 asN : Nat} {ki sr fi le de wh nf nl ofn mav : Nat → Nat} {to : Nat → Option Nat} (h1 : trN ≤ stN) (h6 : stN ≤ 6) (hw5 : w ≤ 5) (hf : PF w fi) (hk : ∀ v, v < w → ki v < 5) (hl : ∀ v, v < w → le v < 1000) (hd : ∀ k, k < stN → de k < 100) (hto : ∀ v, v < w → ∀ j, to v = some j → j < 2 ^ 31) (has : asN ≤ 40) (x : Int32) : ∃ (wh' nf' nl' of' ma' : Nat → Nat) (ch' : Nat), Ev 4 0 0 127 [.ref m, .int x] (put σ m (m + 1) (mF m pm sta rdm (nI stN) me (nI trN) mi slr (nI w) (nI ch0) bm bc bl bch (nI asN) sn ks kw kt km hsh) (mA apg (arr 6 de) afo (arrI 15 (rw3 ki sr to)) (arr 5 le) (arr 5 fi) (arr 5 nf) (arr 5 nl) (arr 6 wh) aod abo (arr 5 ofn) (arr 6 mav) asd akr akl akf akd ako)) (some (.int (if inB x trN ((stN : Int) - 1) then (if w = 0 ∨ asN = 40 then -103 else r_sure w ki fi de le to trN stN x.toInt.toNat) else -101))) (put σ m (m + 1) (mF m pm sta rdm (nI stN) me (nI trN) mi slr (nI w) (nI ch') bm bc bl bch (nI (if okSu trN stN w asN x then asN + 1 else asN)) sn ks kw kt km hsh) (mA apg (arr 6 de) afo (arrI 15 (rw3 ki sr to)) (arr 5 le) (arr 5 fi) (arr 5 nf') (arr 5 nl') (arr 6 wh') aod abo (arr 5 of') (arr 6 ma') asd akr akl akf akd ako)) := by
  have hin : Ev 0 0 0 79 [.long x.toInt64, .long (nI trN).toInt64, .long ((nI stN - nI 1).toInt64)] (put σ m (m + 1) (mF m pm sta rdm (nI stN) me (nI trN) mi slr (nI w) (nI ch0) bm bc bl bch (nI asN) sn ks kw kt km hsh) (mA apg (arr 6 de) afo (arrI 15 (rw3 ki sr to)) (arr 5 le) (arr 5 fi) (arr 5 nf) (arr 5 nl) (arr 6 wh) aod abo (arr 5 ofn) (arr 6 mav) asd akr akl akf akd ako)) (some (.int (bi (inB x trN ((stN : Int) - 1))))) (put σ m (m + 1) (mF m pm sta rdm (nI stN) me (nI trN) mi slr (nI w) (nI ch0) bm bc bl bch (nI asN) sn ks kw kt km hsh) (mA apg (arr 6 de) afo (arrI 15 (rw3 ki sr to)) (arr 5 le) (arr 5 fi) (arr 5 nf) (arr 5 nl) (arr 6 wh) aod abo (arr 5 ofn) (arr 6 mav) asd akr akl akf akd ako)) := m_in x (by rw [x64, nI_toInt (by omega)]) (pred64 (by omega))
  by_cases hx : inB x trN ((stN : Int) - 1) = true
  · have hxb := inB_t.mp hx
    rw [if_pos hx]
    by_cases hs : w = 0 ∨ asN = 40
    · refine ⟨wh, nf, nl, ofn, mav, ch0, ?_⟩
      rw [if_pos hs, show okSu trN stN w asN x = false by rcases hs with z | z <;> simp [okSu, z]]
      refine ev_of (L := [(.ref m), (.int x), .null, .null]) (by decide) rfl (Nat.le_of_ble_eq_true rfl) ?_
      refine wp_iload_1 d127_0 ?_
      refine wp_i2l d127_1 ?_
      refine wp_aload_0 d127_2 ?_
      refine wp_getP d127_3 (Nat.le_of_ble_eq_true rfl) kM.1 rfl ?_
      refine wp_i2l d127_6 ?_
      refine wp_aload_0 d127_7 ?_
      refine wp_getP d127_8 (Nat.le_of_ble_eq_true rfl) kM.1 rfl ?_
      refine wp_iconst d127_11 ic_1 ?_
      refine wp_isub d127_12 ?_
      refine wp_i2l d127_13 ?_
      refine wp_S3r d127_14 rfl ((hin)) (Nat.le_of_ble_eq_true rfl) (Nat.le_of_ble_eq_true rfl) ?_
      refine wp_if_neB d127_17 (by decide) (fun h17 => ?_) (fun hq => absurd hq (fun hq => absurd (hq.symm.trans hx) (by decide)))
      refine wp_aload_0 d127_23 ?_
      refine wp_getP d127_24 (Nat.le_of_ble_eq_true rfl) kM.1 rfl ?_
      refine wp_if_eqN d127_27 (by decide) (by omega) (fun h27 => ?_) (fun h27 => ?_)
      · refine wp_bipush d127_39 bi_m103 ?_
        exact wp_iret d127_41 rfl rfl rfl
      · refine wp_aload_0 d127_30 ?_
        refine wp_getP d127_31 (Nat.le_of_ble_eq_true rfl) kM.1 rfl ?_
        refine wp_bipush d127_34 bi_40 ?_
        refine wp_icmp_neN d127_36 (by decide) (by omega) (by omega) (fun hq => absurd hq (by omega)) (fun h36 => ?_)
        refine wp_bipush d127_39 bi_m103 ?_
        exact wp_iret d127_41 rfl rfl rfl
    · obtain ⟨wh', nf', nl', of', ch', K⟩ := m_layFits kM (ch0 := ch0) (wh := wh) (nf := nf) (nl := nl) (ofn := ofn) (mav := mav) (ask := nI (asN + 1)) (σ := σ) (m := m) (sr := sr) (to := to) (pm := pm) (sta := sta) (rdm := rdm) (me := me) (mi := mi) (slr := slr) (bm := bm) (bc := bc) (bl := bl) (bch := bch) (sn := sn) (ks := ks) (kw := kw) (kt := kt) (km := km) (hsh := hsh) (apg := apg) (afo := afo) (asd := asd) (akr := akr) (akl := akl) (akf := akf) (akd := akd) (ako := ako) (aod := aod) (abo := abo) h1 h6 (show 1 ≤ w by omega) hw5 hf hk hl hd hto
      refine ⟨wh', nf', nl', of', myN w ki fi de le to trN stN (w ^ (stN - trN)), ch', ?_⟩
      rw [if_neg hs, show okSu trN stN w asN x = true by simp [okSu, hx]; omega]
      obtain ⟨k, hk', rfl⟩ : ∃ k : Nat, (trN ≤ k ∧ k < stN) ∧ x = nI k := ⟨x.toInt.toNat, by omega, nI_to (by omega)⟩
      rw [show (nI k).toInt.toNat = k by rw [nI_toInt (by omega)]; rfl]
      unfold r_sure
      have hmy := myN_lt (ki := ki) (fi := fi) (de := de) (le := le) (to := to) (tr := trN) (st := stN) (show 0 < w by omega) hw5 (w ^ (stN - trN)) k
      have h32 : (2 : Nat) ^ 5 = 32 := rfl
      have loop : ∀ (n v : Nat) (u2 : Value), v + n = w → u2.category = 1 → WP 4 0 0 127 59 [.ref m, .int (nI k), u2, .int (nI v)] [] (put σ m (m + 1) (mF m pm sta rdm (nI stN) me (nI trN) mi slr (nI w) (nI ch') bm bc bl bch (nI (asN + 1)) sn ks kw kt km hsh) (mA apg (arr 6 de) afo (arrI 15 (rw3 ki sr to)) (arr 5 le) (arr 5 fi) (arr 5 nf') (arr 5 nl') (arr 6 wh') aod abo (arr 5 of') (arr 6 (myN w ki fi de le to trN stN (w ^ (stN - trN)))) asd akr akl akf akd ako)) (some (.int (frB (myN w ki fi de le to trN stN (w ^ (stN - trN)) k) n v))) (put σ m (m + 1) (mF m pm sta rdm (nI stN) me (nI trN) mi slr (nI w) (nI ch') bm bc bl bch (nI (asN + 1)) sn ks kw kt km hsh) (mA apg (arr 6 de) afo (arrI 15 (rw3 ki sr to)) (arr 5 le) (arr 5 fi) (arr 5 nf') (arr 5 nl') (arr 6 wh') aod abo (arr 5 of') (arr 6 (myN w ki fi de le to trN stN (w ^ (stN - trN)))) asd akr akl akf akd ako)) := by
        intro n
        induction n with
        | zero =>
          intro v u2 hv hu
          refine wp_iload_3 d127_59 ?_
          refine wp_aload_0 d127_60 ?_
          refine wp_getP d127_61 (Nat.le_of_ble_eq_true rfl) kM.1 rfl ?_
          refine wp_icmp_geN d127_64 (by decide) (by omega) (by omega) (fun h64 => ?_) (fun hq => absurd hq (by omega))
          refine wp_iconst d127_87 ic_m1 ?_
          exact wp_iret d127_88 rfl rfl rfl
        | succ n ih =>
          intro v u2 hv hu
          have hpo : 2 ^ v ≤ 2 ^ 5 := Nat.pow_le_pow_right (by decide) (by omega)
          refine wp_iload_3 d127_59 ?_
          refine wp_aload_0 d127_60 ?_
          refine wp_getP d127_61 (Nat.le_of_ble_eq_true rfl) kM.1 rfl ?_
          refine wp_icmp_geN d127_64 (by decide) (by omega) (by omega) (fun hq => absurd hq (by omega)) (fun h64 => ?_)
          refine wp_aload_0 d127_67 ?_
          refine wp_getP d127_68 (Nat.le_of_ble_eq_true rfl) kM.1 rfl ?_
          refine wp_iload_1 d127_71 ?_
          refine wp_aldP d127_72 (kM.2 _ (Nat.le_of_ble_eq_true rfl)) rfl (by omega) (by decide) ?_
          refine wp_iconst d127_73 ic_1 ?_
          refine wp_iload_3 d127_74 ?_
          refine wp_ishlN d127_75 (by omega) (by omega) ?_
          rw [Nat.one_mul]
          unfold frB
          refine wp_icmp_neN d127_76 (by decide) (by omega) (by omega) (fun h76 => ?_) (fun h76 => ?_)
          · rw [if_neg h76]
            refine wp_iinc_3 d127_81 (Nat.le_of_ble_eq_true rfl) hu (inc1 _) ?_
            refine wp_goto d127_84 (by decide) ?_
            exact ih (v + 1) u2 (by omega) hu
          · rw [if_pos h76]
            refine wp_iload_3 d127_79 ?_
            exact wp_iret d127_80 rfl rfl rfl
      refine ev_of (L := [(.ref m), (.int (nI k)), .null, .null]) (by decide) rfl (Nat.le_of_ble_eq_true rfl) ?_
      refine wp_iload_1 d127_0 ?_
      refine wp_i2l d127_1 ?_
      refine wp_aload_0 d127_2 ?_
      refine wp_getP d127_3 (Nat.le_of_ble_eq_true rfl) kM.1 rfl ?_
      refine wp_i2l d127_6 ?_
      refine wp_aload_0 d127_7 ?_
      refine wp_getP d127_8 (Nat.le_of_ble_eq_true rfl) kM.1 rfl ?_
      refine wp_iconst d127_11 ic_1 ?_
      refine wp_isub d127_12 ?_
      refine wp_i2l d127_13 ?_
      refine wp_S3r d127_14 rfl ((hin)) (Nat.le_of_ble_eq_true rfl) (Nat.le_of_ble_eq_true rfl) ?_
      refine wp_if_neB d127_17 (by decide) (fun h17 => ?_) (fun hq => absurd hq (fun hq => absurd (hq.symm.trans hx) (by decide)))
      refine wp_aload_0 d127_23 ?_
      refine wp_getP d127_24 (Nat.le_of_ble_eq_true rfl) kM.1 rfl ?_
      refine wp_if_eqN d127_27 (by decide) (by omega) (fun hq => absurd hq (by omega)) (fun h27 => ?_)
      refine wp_aload_0 d127_30 ?_
      refine wp_getP d127_31 (Nat.le_of_ble_eq_true rfl) kM.1 rfl ?_
      refine wp_bipush d127_34 bi_40 ?_
      refine wp_icmp_neN d127_36 (by decide) (by omega) (by omega) (fun h36 => ?_) (fun hq => absurd hq (by omega))
      refine wp_aload_0 d127_42 ?_
      refine wp_dup d127_43 rfl ?_
      refine wp_getP d127_44 (Nat.le_of_ble_eq_true rfl) kM.1 rfl ?_
      refine wp_iconst d127_47 ic_1 ?_
      refine wp_iaddN d127_48 ?_
      refine wp_putIP d127_49 kM.1 ?_
      refine wp_aload_0 d127_52 ?_
      refine wp_V0r d127_53 kM.1 ((K)) (Nat.le_of_ble_eq_true rfl) (Nat.le_of_ble_eq_true rfl) ?_
      refine wp_istore_2 d127_56 (Nat.le_of_ble_eq_true rfl) rfl ?_
      refine wp_iconst d127_57 ic_0 ?_
      refine wp_istore_3 d127_58 (Nat.le_of_ble_eq_true rfl) rfl ?_
      exact loop w 0 _ (by omega) rfl
  · have hx' : inB x trN ((stN : Int) - 1) = false := by simpa using hx
    refine ⟨wh, nf, nl, ofn, mav, ch0, ?_⟩
    rw [if_neg hx, show okSu trN stN w asN x = false by simp [okSu, hx']]
    refine ev_of (L := [(.ref m), (.int x), .null, .null]) (by decide) rfl (Nat.le_of_ble_eq_true rfl) ?_
    refine wp_iload_1 d127_0 ?_
    refine wp_i2l d127_1 ?_
    refine wp_aload_0 d127_2 ?_
    refine wp_getP d127_3 (Nat.le_of_ble_eq_true rfl) kM.1 rfl ?_
    refine wp_i2l d127_6 ?_
    refine wp_aload_0 d127_7 ?_
    refine wp_getP d127_8 (Nat.le_of_ble_eq_true rfl) kM.1 rfl ?_
    refine wp_iconst d127_11 ic_1 ?_
    refine wp_isub d127_12 ?_
    refine wp_i2l d127_13 ?_
    refine wp_S3r d127_14 rfl ((hin)) (Nat.le_of_ble_eq_true rfl) (Nat.le_of_ble_eq_true rfl) ?_
    refine wp_if_neB d127_17 (by decide) (fun hq => absurd hq (fun hq => absurd (hq.symm.trans hx') (by decide))) (fun h17 => ?_)
    refine wp_bipush d127_20 bi_m101 ?_
    exact wp_iret d127_22 rfl rfl rfl
theorem m_draw (kM : KM σ m) {s n : Nat} (hs : s < 2147483648) (hn : 1 ≤ n) (hn9 : n ≤ 9) : Ev 0 0 0 128 [.ref m, .int (nI n)] (put σ m (m + 1) (mF m pm sta rdm st me tr mi slr wa cha bm bc bl bch ask (nI s) ks kw kt km hsh) (mA apg ade afo aro ale afi anf anl awh aod abo aof ama asd akr akl akf akd ako)) (some (.int (nI (nxS s / 65536 % n)))) (put σ m (m + 1) (mF m pm sta rdm st me tr mi slr wa cha bm bc bl bch ask (nI (nxS s)) ks kw kt km hsh) (mA apg ade afo aro ale afi anf anl awh aod abo aof ama asd akr akl akf akd ako)) := by
  have hx := nxS_lt s
  refine ev_of (L := [(.ref m), (.int (nI n))]) (by decide) rfl (Nat.le_of_ble_eq_true rfl) ?_
  refine wp_aload_0 d128_0 ?_
  refine wp_ldc2 d128_1 (by decide) rfl lk_1103515245 ?_
  refine wp_aload_0 d128_4 ?_
  refine wp_getP d128_5 (Nat.le_of_ble_eq_true rfl) kM.1 rfl ?_
  refine wp_i2l d128_8 ?_
  rw [nI_l (by omega)]
  refine wp_lmul d128_9 ?_
  refine wp_ldc2 d128_10 (by decide) rfl lk_12345 ?_
  refine wp_ladd d128_13 ?_
  refine wp_ldc2 d128_14 (by decide) rfl lk_2147483647 ?_
  refine wp_land d128_17 ?_
  refine wp_l2i d128_18 ?_
  rw [lN_mul, lN_add, lN_and, lN_i, and31']
  rw [show (1103515245 * s + 12345) % 2147483648 = nxS s from rfl]
  refine wp_putIP d128_19 kM.1 ?_
  refine wp_aload_0 d128_22 ?_
  refine wp_getP d128_23 (Nat.le_of_ble_eq_true rfl) kM.1 rfl ?_
  refine wp_ldc d128_26 (by decide) rfl ik_65536 ?_
  refine wp_idivN d128_28 (by omega) (by omega) (by omega) ?_
  refine wp_iload_1 d128_29 ?_
  refine wp_iremN d128_30 (by omega) (by omega) (by omega) ?_
  exact wp_iret d128_31 rfl rfl rfl

end S12_mo8b
