section S11_mo7b
variable {σ : Sto} {m : Nat} {pm sta rdm st me tr mi slr wa cha bm bc bl bch ask sn ks kw kt km : Int32} {hsh : Int64} {apg ade afo aro ale afi anf anl awh aod abo aof ama asd akr akl akf akd ako : List Int32}

theorem m_copy {σ : Sto} {a b n : Nat} {f g : Nat → Int32} (hKa : σ.1[a]? = some 100) (hKb : σ.1[b]? = some 100) (hab : a ≠ b) (ha : σ.2.2 a = arrI n f) (hb : σ.2.2 b = arrI n g) (hn : n < 1000) : Ev 0 0 0 129 [.ref a, .ref b] σ none (setA σ b (arrI n f)) := by
  have loop : ∀ (i k : Nat) (h : Nat → Int32), k + i = n → (∀ j, j < k → h j = f j) → WP 0 0 0 129 2 [.ref a, .ref b, .int (nI k)] [] (setA σ b (arrI n h)) none (setA σ b (arrI n f)) := by
    intro i
    induction i with
    | zero =>
      intro k h hk' hh
      rw [arrI_ext (f := h) (g := f) (fun j hj => hh j (by omega))]
      refine wp_iload_2 d129_2 ?_
      refine wp_aload_0 d129_3 ?_
      refine wp_alen d129_4 hKa ?_
      rw [setA_ne σ _ hab, ha, arrI_len]
      refine wp_icmp_geN d129_5 (by decide) (by omega) (by omega) (fun h5 => ?_) (fun hq => absurd hq (by omega))
      exact wp_vret d129_20 rfl rfl rfl
    | succ i ih =>
      intro k h hk' hh
      refine wp_iload_2 d129_2 ?_
      refine wp_aload_0 d129_3 ?_
      refine wp_alen d129_4 hKa ?_
      rw [setA_ne σ _ hab, ha, arrI_len]
      refine wp_icmp_geN d129_5 (by decide) (by omega) (by omega) (fun hq => absurd hq (by omega)) (fun h5 => ?_)
      refine wp_aload_1 d129_8 ?_
      refine wp_iload_2 d129_9 ?_
      refine wp_aload_0 d129_10 ?_
      refine wp_iload_2 d129_11 ?_
      refine wp_iald d129_12 hKa (by rw [setA_ne σ _ hab, ha, arrI_len]; omega) (by rw [setA_ne σ _ hab, ha, arrI_len]; omega) ?_
      rw [setA_ne σ _ hab, ha, arrI_get (by omega)]
      refine wp_iast d129_13 hKb (by rw [setA_at, arrI_len]; omega) (by rw [setA_at, arrI_len]; omega) ?_
      rw [setA_at, setA_setA, arrI_set]
      refine wp_iinc_2 d129_14 (Nat.le_of_ble_eq_true rfl) rfl (inc1 _) ?_
      refine wp_goto d129_17 (by decide) ?_
      exact ih (k + 1) _ (by omega) (fun j hj => by unfold up; grind)
  refine ev_of (L := [(.ref a), (.ref b), .null]) (by decide) rfl (Nat.le_of_ble_eq_true rfl) ?_
  refine wp_iconst d129_0 ic_0 ?_
  refine wp_istore_2 d129_1 (Nat.le_of_ble_eq_true rfl) rfl ?_
  have := loop n 0 g (by omega) (fun j hj => by omega)
  rw [setA_self σ b _ hb] at this
  exact this
theorem m_copyP {σ : Sto} {o q i j n : Nat} {fs : List Value} {as : List (List Int32)} {f g : Nat → Int32} (hKa : σ.1[q + i]? = some 100) (hKb : σ.1[q + j]? = some 100) (hij : i ≠ j) (ha : as[i]? = some (arrI n f)) (hb : as[j]? = some (arrI n g)) (hn : n < 1000) : Ev 0 0 0 129 [.ref (q + i), .ref (q + j)] (put σ o q fs as) none (put σ o q fs (as.set j (arrI n f))) := by
  have := m_copy (σ := put σ o q fs as) hKa hKb (by omega) (put_A ha) (put_A hb) hn
  rw [setA_put (List.getElem?_eq_some_iff.mp hb).1] at this
  exact this
theorem m_setOutLeft (kM : KM σ m) {stN w : Nat} {ki sr de od bo nf nl : Nat → Nat} {to : Nat → Option Nat} (h6 : stN ≤ 6) (hw : 1 ≤ w) (hw5 : w ≤ 5) (hk : ∀ v, v < w → ki v < 5) (hs : ∀ v, v < w → sr v < 1000) (hd : ∀ k, k < stN → de k < 100) : ∃ od' bo' nf' nl' : Nat → Nat, (∀ c l, setG w ki sr de stN (w ^ w) = some (c, l) → ∀ p, p < w → bo' p = odC w c p) ∧ Ev 3 0 0 121 [.ref m] (put σ m (m + 1) (mF m pm sta rdm (nI stN) me tr mi slr (nI w) cha bm bc bl bch ask sn ks kw kt km hsh) (mA apg (arr 6 de) afo (arrI 15 (rw3 ki sr to)) ale afi (arr 5 nf) (arr 5 nl) awh (arr 5 od) (arr 5 bo) aof ama asd akr akl akf akd ako)) (some (.int (eo (p2 (setG w ki sr de stN (w ^ w)))))) (put σ m (m + 1) (mF m pm sta rdm (nI stN) me tr mi slr (nI w) cha bm bc bl bch ask sn ks kw kt km hsh) (mA apg (arr 6 de) afo (arrI 15 (rw3 ki sr to)) ale afi (arr 5 nf') (arr 5 nl') awh (arr 5 od') (arr 5 bo') aof ama asd akr akl akf akd ako)) := by
  have hpw : w ^ w ≤ 5 ^ 5 := Nat.le_trans (Nat.pow_le_pow_left hw5 _) (Nat.pow_le_pow_right (by decide) hw5)
  have h55 : (5 : Nat) ^ 5 = 3125 := rfl
  have loop : ∀ (n c : Nat) (od bo nf nl : Nat → Nat), c + n = w ^ w → (∀ c0 l, setG w ki sr de stN c = some (c0, l) → ∀ p, p < w → bo p = odC w c0 p) → ∃ od' bo' nf' nl' : Nat → Nat, (∀ c l, setG w ki sr de stN (w ^ w) = some (c, l) → ∀ p, p < w → bo' p = odC w c p) ∧ WP 3 0 0 121 29 [.ref m, .int (nI (w ^ w)), .int (eo (p2 (setG w ki sr de stN c))), .int (nI c)] [] (put σ m (m + 1) (mF m pm sta rdm (nI stN) me tr mi slr (nI w) cha bm bc bl bch ask sn ks kw kt km hsh) (mA apg (arr 6 de) afo (arrI 15 (rw3 ki sr to)) ale afi (arr 5 nf) (arr 5 nl) awh (arr 5 od) (arr 5 bo) aof ama asd akr akl akf akd ako)) (some (.int (eo (p2 (setG w ki sr de stN (w ^ w)))))) (put σ m (m + 1) (mF m pm sta rdm (nI stN) me tr mi slr (nI w) cha bm bc bl bch ask sn ks kw kt km hsh) (mA apg (arr 6 de) afo (arrI 15 (rw3 ki sr to)) ale afi (arr 5 nf') (arr 5 nl') awh (arr 5 od') (arr 5 bo') aof ama asd akr akl akf akd ako)) := by
    intro n
    induction n with
    | zero =>
      intro c od bo nf nl hc hbo
      have e : c = w ^ w := by omega
      subst e
      refine ⟨od, bo, nf, nl, hbo, ?_⟩
      refine wp_iload_3 d121_29 ?_
      refine wp_iload_1 d121_30 ?_
      refine wp_icmp_geN d121_31 (by decide) (by omega) (by omega) (fun h31 => ?_) (fun hq => absurd hq (by omega))
      refine wp_iload_2 d121_79 ?_
      exact wp_iret d121_80 rfl rfl rfl
    | succ n ih =>
      intro c od bo nf nl hc hbo
      have hbb := setG_b (w := w) (ki := ki) (sr := sr) (de := de) (st := stN) c
      by_cases hO : isO w c = true
      · have hod : ∀ p, p < w → odN w c od p = odC w c p := fun p hp => odN_C hp
        have hpf : PF w (odN w c od) := by
          apply msk_PF
          rw [msk_congr w (Nat.le_refl _) hod]
          simpa [isO] using hO
        have hsc := soN_congr (w := w) (ki := ki) (de := de) stN 0 (odN w c od) (odC w c) sr hod
        have hso := m_setsOut kM (nf := nf) (nl := nl) (od := odN w c od) (awh := awh) (ale := ale) (afi := afi) (cha := cha) (tr := tr) (ask := ask) (aof := aof) (ama := ama) (abo := arr 5 bo) (σ := σ) (m := m) (sr := sr) (to := to) (pm := pm) (sta := sta) (rdm := rdm) (me := me) (mi := mi) (slr := slr) (bm := bm) (bc := bc) (bl := bl) (bch := bch) (sn := sn) (ks := ks) (kw := kw) (kt := kt) (km := km) (hsh := hsh) (apg := apg) (afo := afo) (asd := asd) (akr := akr) (akl := akl) (akf := akf) (akd := akd) (ako := ako) h6 hw hw5 hpf hk hs hd
        rw [hsc.1] at hso
        have hll : ∀ v, v < w → (soN w ki de stN 0 (odN w c od) sr).2.2 v < 1000 := fun v hv => Nat.lt_of_le_of_lt (soN_le _ _ _ _ v) (hs v hv)
        by_cases hS : (soC w ki sr de stN c).1 = true
        · have hv : mnN (soN w ki de stN 0 (odN w c od) sr).2.2 100 w = mnN (soC w ki sr de stN c).2.2 100 w := by rw [hsc.2]; rfl
          have hmn := mnN_le (soC w ki sr de stN c).2.2 100 w
          generalize mnN (soC w ki sr de stN c).2.2 100 w = v at *
          by_cases hG : gtO (setG w ki sr de stN c) v = true
          · have es : setG w ki sr de stN (c + 1) = some (c, mnN (soC w ki sr de stN c).2.2 100 w) := by
              have : mnN (soC w ki sr de stN c).2.2 100 w = v := by rw [← hv, hsc.2]; rfl
              rw [setG, hO, hS, this, hG]
              rfl
            have hvv : mnN (soC w ki sr de stN c).2.2 100 w = v := by rw [← hv, hsc.2]; rfl
            rw [hvv] at es
            obtain ⟨od', bo', nf', nl', hbo', K⟩ := ih (c + 1) (odN w c od) (odN w c od) (soN w ki de stN 0 (odN w c od) sr).2.1 (soN w ki de stN 0 (odN w c od) sr).2.2 (by omega) (fun c0 l z p hp => by rw [es] at z; cases z; exact hod p hp)
            refine ⟨od', bo', nf', nl', hbo', ?_⟩
            rw [es] at K
            refine wp_iload_3 d121_29 ?_
            refine wp_iload_1 d121_30 ?_
            refine wp_icmp_geN d121_31 (by decide) (by omega) (by omega) (fun hq => absurd hq (by omega)) (fun h31 => ?_)
            refine wp_aload_0 d121_34 ?_
            refine wp_iload_3 d121_35 ?_
            refine wp_V1r d121_36 kM.1 ((m_isOrder kM hw hw5 (by omega))) (Nat.le_of_ble_eq_true rfl) (Nat.le_of_ble_eq_true rfl) ?_
            refine wp_if_eqB d121_39 (by decide) (fun hq => absurd hq (fun hq => absurd (hO.symm.trans hq) (by decide))) (fun h39 => ?_)
            refine wp_aload_0 d121_42 ?_
            refine wp_V0r d121_43 kM.1 ((hso)) (Nat.le_of_ble_eq_true rfl) (Nat.le_of_ble_eq_true rfl) ?_
            refine wp_if_eqB d121_46 (by decide) (fun hq => absurd hq (fun hq => absurd (hS.symm.trans hq) (by decide))) (fun h46 => ?_)
            refine wp_aload_0 d121_49 ?_
            refine wp_V0r d121_50 kM.1 ((m_leastLeft kM hw5 hll)) (Nat.le_of_ble_eq_true rfl) (Nat.le_of_ble_eq_true rfl) ?_
            rw [hv]
            have tail : ∀ y : Int32, WP 3 0 0 121 57 [.ref m, .int (nI (w ^ w)), .int y, .int (nI c)] [] (put σ m (m + 1) (mF m pm sta rdm (nI stN) me tr mi slr (nI w) cha bm bc bl bch ask sn ks kw kt km hsh) (mA apg (arr 6 de) afo (arrI 15 (rw3 ki sr to)) ale afi (arr 5 (soN w ki de stN 0 (odN w c od) sr).2.1) (arr 5 (soN w ki de stN 0 (odN w c od) sr).2.2) awh (arr 5 (odN w c od)) (arr 5 bo) aof ama asd akr akl akf akd ako)) (some (.int (eo (p2 (setG w ki sr de stN (w ^ w)))))) (put σ m (m + 1) (mF m pm sta rdm (nI stN) me tr mi slr (nI w) cha bm bc bl bch ask sn ks kw kt km hsh) (mA apg (arr 6 de) afo (arrI 15 (rw3 ki sr to)) ale afi (arr 5 nf') (arr 5 nl') awh (arr 5 od') (arr 5 bo') aof ama asd akr akl akf akd ako)) := by
              intro y
              refine wp_aload_0 d121_57 ?_
              refine wp_V0r d121_58 kM.1 ((m_leastLeft kM hw5 hll)) (Nat.le_of_ble_eq_true rfl) (Nat.le_of_ble_eq_true rfl) ?_
              rw [hv]
              refine wp_istore_2 d121_61 (Nat.le_of_ble_eq_true rfl) rfl ?_
              refine wp_aload_0 d121_62 ?_
              refine wp_getP d121_63 (Nat.le_of_ble_eq_true rfl) kM.1 rfl ?_
              refine wp_aload_0 d121_66 ?_
              refine wp_getP d121_67 (Nat.le_of_ble_eq_true rfl) kM.1 rfl ?_
              refine wp_S2v d121_70 rfl (m_copyP (i := 9) (j := 10) (kM.2 _ (Nat.le_of_ble_eq_true rfl)) (kM.2 _ (Nat.le_of_ble_eq_true rfl)) (by decide) rfl rfl (by decide)) (Nat.le_of_ble_eq_true rfl) (Nat.le_of_ble_eq_true rfl) ?_
              refine wp_iinc_3 d121_73 (Nat.le_of_ble_eq_true rfl) rfl (inc1 _) ?_
              refine wp_goto d121_76 (by decide) ?_
              exact K
            revert hG hbb
            cases setG w ki sr de stN c with
            | none =>
              intro hbb hG
              refine wp_iload_2 d121_53 ?_
              refine wp_icmp_le d121_54 (by decide) (fun hq => absurd hq ?_) (fun _ => tail _)
              show ¬ nI v ≤ -1
              rw [Int32.le_iff_toInt_le, nI_toInt (by omega), show ((-1 : Int32)).toInt = -1 by decide]
              omega
            | some q =>
              obtain ⟨c0, l0⟩ := q
              intro hbb hG
              have := hbb c0 l0 rfl
              have hG : l0 < v := by simpa [gtO] using hG
              refine wp_iload_2 d121_53 ?_
              exact wp_icmp_leN (x := v) (y := l0) d121_54 (by decide) (by omega) (by omega) (fun hq => absurd hq (by omega)) (fun _ => tail _)
          · have es : setG w ki sr de stN (c + 1) = setG w ki sr de stN c := by
              have : mnN (soC w ki sr de stN c).2.2 100 w = v := by rw [← hv, hsc.2]; rfl
              rw [setG, hO, hS, this]
              simp [hG]
            obtain ⟨od', bo', nf', nl', hbo', K⟩ := ih (c + 1) (odN w c od) bo (soN w ki de stN 0 (odN w c od) sr).2.1 (soN w ki de stN 0 (odN w c od) sr).2.2 (by omega) (by rw [es]; exact hbo)
            refine ⟨od', bo', nf', nl', hbo', ?_⟩
            rw [es] at K
            refine wp_iload_3 d121_29 ?_
            refine wp_iload_1 d121_30 ?_
            refine wp_icmp_geN d121_31 (by decide) (by omega) (by omega) (fun hq => absurd hq (by omega)) (fun h31 => ?_)
            refine wp_aload_0 d121_34 ?_
            refine wp_iload_3 d121_35 ?_
            refine wp_V1r d121_36 kM.1 ((m_isOrder kM hw hw5 (by omega))) (Nat.le_of_ble_eq_true rfl) (Nat.le_of_ble_eq_true rfl) ?_
            refine wp_if_eqB d121_39 (by decide) (fun hq => absurd hq (fun hq => absurd (hO.symm.trans hq) (by decide))) (fun h39 => ?_)
            refine wp_aload_0 d121_42 ?_
            refine wp_V0r d121_43 kM.1 ((hso)) (Nat.le_of_ble_eq_true rfl) (Nat.le_of_ble_eq_true rfl) ?_
            refine wp_if_eqB d121_46 (by decide) (fun hq => absurd hq (fun hq => absurd (hS.symm.trans hq) (by decide))) (fun h46 => ?_)
            refine wp_aload_0 d121_49 ?_
            refine wp_V0r d121_50 kM.1 ((m_leastLeft kM hw5 hll)) (Nat.le_of_ble_eq_true rfl) (Nat.le_of_ble_eq_true rfl) ?_
            rw [hv]
            revert hG hbb K
            cases setG w ki sr de stN c with
            | none =>
              intro hbb hG
              exact absurd rfl hG
            | some q =>
              obtain ⟨c0, l0⟩ := q
              intro hbb hG K
              have := hbb c0 l0 rfl
              have hG : ¬ l0 < v := by simpa [gtO] using hG
              refine wp_iload_2 d121_53 ?_
              refine wp_icmp_leN (x := v) (y := l0) d121_54 (by decide) (by omega) (by omega) (fun _ => ?_) (fun hq => absurd hq (by omega))
              refine wp_iinc_3 d121_73 (Nat.le_of_ble_eq_true rfl) rfl (inc1 _) ?_
              refine wp_goto d121_76 (by decide) ?_
              exact K
        · have hS' : (soC w ki sr de stN c).1 = false := by simpa using hS
          have es : setG w ki sr de stN (c + 1) = setG w ki sr de stN c := by rw [setG, hS']; simp
          obtain ⟨od', bo', nf', nl', hbo', K⟩ := ih (c + 1) (odN w c od) bo (soN w ki de stN 0 (odN w c od) sr).2.1 (soN w ki de stN 0 (odN w c od) sr).2.2 (by omega) (by rw [es]; exact hbo)
          refine ⟨od', bo', nf', nl', hbo', ?_⟩
          rw [es] at K
          refine wp_iload_3 d121_29 ?_
          refine wp_iload_1 d121_30 ?_
          refine wp_icmp_geN d121_31 (by decide) (by omega) (by omega) (fun hq => absurd hq (by omega)) (fun h31 => ?_)
          refine wp_aload_0 d121_34 ?_
          refine wp_iload_3 d121_35 ?_
          refine wp_V1r d121_36 kM.1 ((m_isOrder kM hw hw5 (by omega))) (Nat.le_of_ble_eq_true rfl) (Nat.le_of_ble_eq_true rfl) ?_
          refine wp_if_eqB d121_39 (by decide) (fun hq => absurd hq (fun hq => absurd (hO.symm.trans hq) (by decide))) (fun h39 => ?_)
          refine wp_aload_0 d121_42 ?_
          refine wp_V0r d121_43 kM.1 ((hso)) (Nat.le_of_ble_eq_true rfl) (Nat.le_of_ble_eq_true rfl) ?_
          refine wp_if_eqB d121_46 (by decide) (fun h46 => ?_) (fun hq => absurd hq (fun hq => absurd (hq.symm.trans hS') (by decide)))
          refine wp_iinc_3 d121_73 (Nat.le_of_ble_eq_true rfl) rfl (inc1 _) ?_
          refine wp_goto d121_76 (by decide) ?_
          exact K
      · have hO' : isO w c = false := by simpa using hO
        have es : setG w ki sr de stN (c + 1) = setG w ki sr de stN c := by rw [setG, hO']; simp
        obtain ⟨od', bo', nf', nl', hbo', K⟩ := ih (c + 1) (odN w c od) bo nf nl (by omega) (by rw [es]; exact hbo)
        refine ⟨od', bo', nf', nl', hbo', ?_⟩
        rw [es] at K
        refine wp_iload_3 d121_29 ?_
        refine wp_iload_1 d121_30 ?_
        refine wp_icmp_geN d121_31 (by decide) (by omega) (by omega) (fun hq => absurd hq (by omega)) (fun h31 => ?_)
        refine wp_aload_0 d121_34 ?_
        refine wp_iload_3 d121_35 ?_
        refine wp_V1r d121_36 kM.1 ((m_isOrder kM hw hw5 (by omega))) (Nat.le_of_ble_eq_true rfl) (Nat.le_of_ble_eq_true rfl) ?_
        refine wp_if_eqB d121_39 (by decide) (fun h39 => ?_) (fun hq => absurd hq (fun hq => absurd (hq.symm.trans hO') (by decide)))
        refine wp_iinc_3 d121_73 (Nat.le_of_ble_eq_true rfl) rfl (inc1 _) ?_
        refine wp_goto d121_76 (by decide) ?_
        exact K
  obtain ⟨od', bo', nf', nl', hbo', K⟩ := loop (w ^ w) 0 od bo nf nl (by omega) (fun c0 l z => by cases z)
  refine ⟨od', bo', nf', nl', hbo', ?_⟩
  have cnt : ∀ (n k : Nat), k + n = w → WP 3 0 0 121 4 [.ref m, .int (nI (w ^ k)), .int (nI k), .null] [] (put σ m (m + 1) (mF m pm sta rdm (nI stN) me tr mi slr (nI w) cha bm bc bl bch ask sn ks kw kt km hsh) (mA apg (arr 6 de) afo (arrI 15 (rw3 ki sr to)) ale afi (arr 5 nf) (arr 5 nl) awh (arr 5 od) (arr 5 bo) aof ama asd akr akl akf akd ako)) (some (.int (eo (p2 (setG w ki sr de stN (w ^ w)))))) (put σ m (m + 1) (mF m pm sta rdm (nI stN) me tr mi slr (nI w) cha bm bc bl bch ask sn ks kw kt km hsh) (mA apg (arr 6 de) afo (arrI 15 (rw3 ki sr to)) ale afi (arr 5 nf') (arr 5 nl') awh (arr 5 od') (arr 5 bo') aof ama asd akr akl akf akd ako)) := by
    intro n
    induction n with
    | zero =>
      intro k hk'
      have e : k = w := by omega
      subst e
      refine wp_iload_2 d121_4 ?_
      refine wp_aload_0 d121_5 ?_
      refine wp_getP d121_6 (Nat.le_of_ble_eq_true rfl) kM.1 rfl ?_
      refine wp_icmp_geN d121_9 (by decide) (by omega) (by omega) (fun h9 => ?_) (fun hq => absurd hq (by omega))
      refine wp_iconst d121_25 ic_m1 ?_
      refine wp_istore_2 d121_26 (Nat.le_of_ble_eq_true rfl) rfl ?_
      refine wp_iconst d121_27 ic_0 ?_
      refine wp_istore_3 d121_28 (Nat.le_of_ble_eq_true rfl) rfl ?_
      exact K
    | succ n ih =>
      intro k hk'
      refine wp_iload_2 d121_4 ?_
      refine wp_aload_0 d121_5 ?_
      refine wp_getP d121_6 (Nat.le_of_ble_eq_true rfl) kM.1 rfl ?_
      refine wp_icmp_geN d121_9 (by decide) (by omega) (by omega) (fun hq => absurd hq (by omega)) (fun h9 => ?_)
      refine wp_iload_1 d121_12 ?_
      refine wp_aload_0 d121_13 ?_
      refine wp_getP d121_14 (Nat.le_of_ble_eq_true rfl) kM.1 rfl ?_
      refine wp_imulN d121_17 ?_
      refine wp_istore_1 d121_18 (Nat.le_of_ble_eq_true rfl) rfl ?_
      refine wp_iinc_2 d121_19 (Nat.le_of_ble_eq_true rfl) rfl (inc1 _) ?_
      refine wp_goto d121_22 (by decide) ?_
      exact ih (k + 1) (by omega)
  refine ev_of (L := [(.ref m), .null, .null, .null]) (by decide) rfl (Nat.le_of_ble_eq_true rfl) ?_
  refine wp_iconst d121_0 ic_1 ?_
  refine wp_istore_1 d121_1 (Nat.le_of_ble_eq_true rfl) rfl ?_
  refine wp_iconst d121_2 ic_0 ?_
  refine wp_istore_2 d121_3 (Nat.le_of_ble_eq_true rfl) rfl ?_
  exact cnt w 0 (by omega)
theorem m_setOut (kM : KM σ m) {stN w : Nat} {ki sr de od bo nf nl : Nat → Nat} {to : Nat → Option Nat} (h6 : stN ≤ 6) (hw5 : w ≤ 5) (hk : ∀ v, v < w → ki v < 5) (hs : ∀ v, v < w → sr v < 1000) (hd : ∀ k, k < stN → de k < 100) (x : Int32) : ∃ od' bo' nf' nl' : Nat → Nat, Ev 4 0 0 122 [.ref m, .int x] (put σ m (m + 1) (mF m pm sta rdm (nI stN) me tr mi slr (nI w) cha bm bc bl bch ask sn ks kw kt km hsh) (mA apg (arr 6 de) afo (arrI 15 (rw3 ki sr to)) ale afi (arr 5 nf) (arr 5 nl) awh (arr 5 od) (arr 5 bo) aof ama asd akr akl akf akd ako)) (some (.int (if x.toInt = 0 ∨ inB x 10 14 then (if w = 0 then -103 else r_setOut w ki sr de stN x) else -102))) (put σ m (m + 1) (mF m pm sta rdm (nI stN) me tr mi slr (nI w) cha bm bc bl bch ask sn ks kw kt km hsh) (mA apg (arr 6 de) afo (arrI 15 (rw3 ki sr to)) ale afi (arr 5 nf') (arr 5 nl') awh (arr 5 od') (arr 5 bo') aof ama asd akr akl akf akd ako)) := by
  by_cases hx : x.toInt = 0 ∨ inB x 10 14
  · have pre : ∀ {r : Option Value} {σ' : Sto}, WP 4 0 0 122 21 [.ref m, .int x, .null] [] (put σ m (m + 1) (mF m pm sta rdm (nI stN) me tr mi slr (nI w) cha bm bc bl bch ask sn ks kw kt km hsh) (mA apg (arr 6 de) afo (arrI 15 (rw3 ki sr to)) ale afi (arr 5 nf) (arr 5 nl) awh (arr 5 od) (arr 5 bo) aof ama asd akr akl akf akd ako)) r σ' → Ev 4 0 0 122 [.ref m, .int x] (put σ m (m + 1) (mF m pm sta rdm (nI stN) me tr mi slr (nI w) cha bm bc bl bch ask sn ks kw kt km hsh) (mA apg (arr 6 de) afo (arrI 15 (rw3 ki sr to)) ale afi (arr 5 nf) (arr 5 nl) awh (arr 5 od) (arr 5 bo) aof ama asd akr akl akf akd ako)) r σ' := by
      intro r σ' K
      refine ev_of (L := [(.ref m), (.int x), .null]) (by decide) rfl (Nat.le_of_ble_eq_true rfl) ?_
      refine wp_iload_1 d122_0 ?_
      refine wp_if_eq d122_1 (by decide) (fun h1 => ?_) (fun h1 => ?_)
      · exact K
      · have hx' : inB x 10 14 = true := by rcases hx with z | z; exact absurd (eq_0.mpr z) h1; exact z
        refine wp_iload_1 d122_4 ?_
        refine wp_i2l d122_5 ?_
        refine wp_ldc2 d122_6 (by decide) rfl lk_10 ?_
        refine wp_ldc2 d122_9 (by decide) rfl lk_14 ?_
        refine wp_S3r d122_12 rfl ((m_in x (a := 10) (b := 14) (by decide) (by decide))) (Nat.le_of_ble_eq_true rfl) (Nat.le_of_ble_eq_true rfl) ?_
        refine wp_if_neB d122_15 (by decide) (fun h15 => ?_) (fun hq => absurd hq (fun hq => absurd (hq.symm.trans hx') (by decide)))
        exact K
    rw [if_pos hx]
    by_cases hw0 : w = 0
    · refine ⟨od, bo, nf, nl, ?_⟩
      rw [if_pos hw0]
      refine pre ?_
      subst hw0
      refine wp_aload_0 d122_21 ?_
      refine wp_getP d122_22 (Nat.le_of_ble_eq_true rfl) kM.1 rfl ?_
      refine wp_if_neN d122_25 (by decide) (by omega) (fun hq => absurd hq (by omega)) (fun h25 => ?_)
      refine wp_bipush d122_28 bi_m103 ?_
      exact wp_iret d122_30 rfl rfl rfl
    · rw [if_neg hw0]
      obtain ⟨od', bo', nf', nl', hbo', K⟩ := m_setOutLeft kM (od := od) (bo := bo) (nf := nf) (nl := nl) (awh := awh) (ale := ale) (afi := afi) (cha := cha) (tr := tr) (ask := ask) (aof := aof) (ama := ama) (σ := σ) (m := m) (sr := sr) (to := to) (pm := pm) (sta := sta) (rdm := rdm) (me := me) (mi := mi) (slr := slr) (bm := bm) (bc := bc) (bl := bl) (bch := bch) (sn := sn) (ks := ks) (kw := kw) (kt := kt) (km := km) (hsh := hsh) (apg := apg) (afo := afo) (asd := asd) (akr := akr) (akl := akl) (akf := akf) (akd := akd) (ako := ako) h6 (show 1 ≤ w by omega) hw5 hk hs hd
      refine ⟨od', bo', nf', nl', ?_⟩
      refine pre ?_
      unfold r_setOut
      have hbb := setG_b (w := w) (ki := ki) (sr := sr) (de := de) (st := stN) (w ^ w)
      revert K hbo' hbb
      cases setG w ki sr de stN (w ^ w) with
      | none =>
        intro hbo' K hbb
        refine wp_aload_0 d122_21 ?_
        refine wp_getP d122_22 (Nat.le_of_ble_eq_true rfl) kM.1 rfl ?_
        refine wp_if_neN d122_25 (by decide) (by omega) (fun h25 => ?_) (fun hq => absurd hq (by omega))
        refine wp_aload_0 d122_31 ?_
        refine wp_V0r d122_32 kM.1 ((K)) (Nat.le_of_ble_eq_true rfl) (Nat.le_of_ble_eq_true rfl) ?_
        refine wp_istore_2 d122_35 (Nat.le_of_ble_eq_true rfl) rfl ?_
        refine wp_iload_1 d122_36 ?_
        refine wp_if_ne d122_37 (by decide) (fun h37 => ?_) (fun h37 => ?_)
        · refine wp_iload_2 d122_44 ?_
          refine wp_iconst d122_45 ic_m1 ?_
          refine wp_icmp_eq d122_46 (by decide) (fun h46 => ?_) (fun hq => absurd hq (fun hq => hq rfl))
          refine wp_iconst d122_60 ic_m1 ?_
          refine wp_goto d122_61 (by decide) ?_
          exact wp_iret d122_73 rfl rfl rfl
        · refine wp_iload_2 d122_40 ?_
          refine wp_goto d122_41 (by decide) ?_
          exact wp_iret d122_73 rfl rfl rfl
      | some q =>
        obtain ⟨c0, l0⟩ := q
        intro hbo' K hbb
        have hq := hbb c0 l0 rfl
        simp only
        refine wp_aload_0 d122_21 ?_
        refine wp_getP d122_22 (Nat.le_of_ble_eq_true rfl) kM.1 rfl ?_
        refine wp_if_neN d122_25 (by decide) (by omega) (fun h25 => ?_) (fun hq => absurd hq (by omega))
        refine wp_aload_0 d122_31 ?_
        refine wp_V0r d122_32 kM.1 ((K)) (Nat.le_of_ble_eq_true rfl) (Nat.le_of_ble_eq_true rfl) ?_
        refine wp_istore_2 d122_35 (Nat.le_of_ble_eq_true rfl) rfl ?_
        refine wp_iload_1 d122_36 ?_
        refine wp_if_ne d122_37 (by decide) (fun h37 => ?_) (fun h37 => ?_)
        · have hx0 : ¬ x.toInt = 0 := fun z => h37 (eq_0.mpr z)
          rw [if_neg hx0]
          have hx' := inB_t.mp (show inB x 10 14 = true by rcases hx with z | z; exact absurd z hx0; exact z)
          obtain ⟨y, hy, rfl⟩ : ∃ y : Nat, y ≤ 4 ∧ x = nI (y + 10) := ⟨(x.toInt - 10).toNat, by omega, by rw [show (x.toInt - 10).toNat + 10 = x.toInt.toNat by omega]; exact nI_to (by omega)⟩
          rw [nI_toInt (by omega), show (((y + 10 : Nat) : Int) - 10) = (y : Int) by omega, show (y : Int).toNat = y by omega]
          refine wp_iload_2 d122_44 ?_
          refine wp_iconst d122_45 ic_m1 ?_
          refine wp_icmp_eq d122_46 (by decide) (fun hq => absurd hq (nI_m1 (by omega))) (fun _ => ?_)
          refine wp_iload_1 d122_49 ?_
          refine wp_bipush d122_50 bi_10 ?_
          refine wp_isubN d122_52 (by omega) ?_
          rw [Nat.add_sub_cancel]
          refine wp_aload_0 d122_53 ?_
          refine wp_getP d122_54 (Nat.le_of_ble_eq_true rfl) kM.1 rfl ?_
          refine wp_icmp_ltN d122_57 (by decide) (by omega) (by omega) (fun h57 => ?_) (fun h57 => ?_)
          · rw [if_pos (by omega)]
            refine wp_aload_0 d122_64 ?_
            refine wp_getP d122_65 (Nat.le_of_ble_eq_true rfl) kM.1 rfl ?_
            refine wp_iload_1 d122_68 ?_
            refine wp_bipush d122_69 bi_10 ?_
            refine wp_isubN d122_71 (by omega) ?_
            rw [Nat.add_sub_cancel]
            refine wp_aldP d122_72 (kM.2 _ (Nat.le_of_ble_eq_true rfl)) rfl (by omega) (by decide) ?_
            rw [hbo' c0 l0 rfl y h57]
            exact wp_iret d122_73 rfl rfl rfl
          · rw [if_neg (by omega)]
            refine wp_iconst d122_60 ic_m1 ?_
            refine wp_goto d122_61 (by decide) ?_
            exact wp_iret d122_73 rfl rfl rfl
        · rw [if_pos (eq_0.mp h37)]
          refine wp_iload_2 d122_40 ?_
          refine wp_goto d122_41 (by decide) ?_
          exact wp_iret d122_73 rfl rfl rfl
  · refine ⟨od, bo, nf, nl, ?_⟩
    rw [if_neg hx]
    have hx1 : ¬ x.toInt = 0 := fun z => hx (Or.inl z)
    have hx2 : inB x 10 14 = false := by
      cases h : inB x 10 14
      · rfl
      · exact absurd (Or.inr h) hx
    refine ev_of (L := [(.ref m), (.int x), .null]) (by decide) rfl (Nat.le_of_ble_eq_true rfl) ?_
    refine wp_iload_1 d122_0 ?_
    refine wp_if_eq d122_1 (by decide) (fun hq => absurd hq (fun z => hx1 (eq_0.mp z))) (fun h1 => ?_)
    refine wp_iload_1 d122_4 ?_
    refine wp_i2l d122_5 ?_
    refine wp_ldc2 d122_6 (by decide) rfl lk_10 ?_
    refine wp_ldc2 d122_9 (by decide) rfl lk_14 ?_
    refine wp_S3r d122_12 rfl ((m_in x (a := 10) (b := 14) (by decide) (by decide))) (Nat.le_of_ble_eq_true rfl) (Nat.le_of_ble_eq_true rfl) ?_
    refine wp_if_neB d122_15 (by decide) (fun hq => absurd hq (fun hq => absurd (hq.symm.trans hx2) (by decide))) (fun h15 => ?_)
    refine wp_bipush d122_18 bi_m102 ?_
    exact wp_iret d122_20 rfl rfl rfl
theorem m_tell (kM : KM σ m) {w : Nat} {ki sr : Nat → Nat} {to : Nat → Option Nat} (h5 : w ≤ 5) (x y : Int32) : Ev 2 0 0 123 [.ref m, .int x, .int y] (put σ m (m + 1) (mF m pm sta rdm st me tr mi slr (nI w) cha bm bc bl bch ask sn ks kw kt km hsh) (mA apg ade afo (arrI 15 (rw3 ki sr to)) ale afi anf anl awh aod abo aof ama asd akr akl akf akd ako)) (some (.int (if inB x 0 ((w : Int) - 1) then (if inB y (-1) 6 then eo (to x.toInt.toNat) else -102) else -101))) (put σ m (m + 1) (mF m pm sta rdm st me tr mi slr (nI w) cha bm bc bl bch ask sn ks kw kt km hsh) (mA apg ade afo (arrI 15 (rw3 ki sr (if okTl w x y then up to x.toInt.toNat (tlO y) else to))) ale afi anf anl awh aod abo aof ama asd akr akl akf akd ako)) := by
  refine ev_of (L := [(.ref m), (.int x), (.int y), .null]) (by decide) rfl (Nat.le_of_ble_eq_true rfl) ?_
  refine wp_aload_0 d123_0 ?_
  refine wp_iload_1 d123_1 ?_
  refine wp_V1r d123_2 kM.1 ((m_isWalker kM h5 x)) (Nat.le_of_ble_eq_true rfl) (Nat.le_of_ble_eq_true rfl) ?_
  refine wp_if_neB d123_5 (by decide) (fun h5 => ?_) (fun h5 => ?_)
  · have h5' := h5
    rw [h5, if_pos rfl]
    rw [inB_t] at h5
    obtain ⟨v, hv, rfl⟩ : ∃ j : Nat, j < w ∧ x = nI j := ⟨x.toInt.toNat, by omega, nI_to h5.1⟩
    rw [show (nI v).toInt.toNat = v by rw [nI_toInt (by omega)]; rfl]
    refine wp_iload_2 d123_11 ?_
    refine wp_i2l d123_12 ?_
    refine wp_ldc2 d123_13 (by decide) rfl lk_m1 ?_
    refine wp_ldc2 d123_16 (by decide) rfl lk_6 ?_
    refine wp_S3r d123_19 rfl ((m_in y (a := -1) (b := 6) (by decide) (by decide))) (Nat.le_of_ble_eq_true rfl) (Nat.le_of_ble_eq_true rfl) ?_
    refine wp_if_neB d123_22 (by decide) (fun h22 => ?_) (fun h22 => ?_)
    · rw [h22, if_pos rfl, show okTl w (nI v) y = true by simp [okTl, h5', h22]]
      refine wp_aload_0 d123_28 ?_
      refine wp_getP d123_29 (Nat.le_of_ble_eq_true rfl) kM.1 rfl ?_
      refine wp_iconst d123_32 ic_3 ?_
      refine wp_iload_1 d123_33 ?_
      refine wp_imulN d123_34 ?_
      refine wp_iconst d123_35 ic_2 ?_
      refine wp_iaddN d123_36 ?_
      refine wp_aldP d123_37 (kM.2 _ (Nat.le_of_ble_eq_true rfl)) rfl (by omega) (by decide) ?_
      rw [rw_2]
      refine wp_istore_3 d123_38 (Nat.le_of_ble_eq_true rfl) rfl ?_
      refine wp_aload_0 d123_39 ?_
      refine wp_getP d123_40 (Nat.le_of_ble_eq_true rfl) kM.1 rfl ?_
      refine wp_iconst d123_43 ic_3 ?_
      refine wp_iload_1 d123_44 ?_
      refine wp_imulN d123_45 ?_
      refine wp_iconst d123_46 ic_2 ?_
      refine wp_iaddN d123_47 ?_
      refine wp_iload_2 d123_48 ?_
      have e := tlO_eo h22
      generalize tlO y = z at e ⊢
      subst e
      refine wp_astP d123_49 (kM.2 _ (Nat.le_of_ble_eq_true rfl)) rfl (by omega) (by decide) ?_
      rw [rw_u2]
      refine wp_iload_3 d123_50 ?_
      exact wp_iret d123_51 rfl rfl rfl
    · rw [h22, if_neg (by decide), show okTl w (nI v) y = false by simp [okTl, h22]]
      refine wp_bipush d123_25 bi_m102 ?_
      exact wp_iret d123_27 rfl rfl rfl
  · rw [h5, if_neg (by decide), show okTl w x y = false by simp [okTl, h5]]
    refine wp_bipush d123_8 bi_m101 ?_
    exact wp_iret d123_10 rfl rfl rfl
theorem m_isBooked (kM : KM σ m) {trN stN w : Nat} {ki sr wh ofn : Nat → Nat} {to : Nat → Option Nat} (h1 : trN ≤ stN) (h6 : stN ≤ 6) (hw5 : w ≤ 5) (hwh : ∀ k, trN ≤ k → k < stN → wh k < w) (hto : ∀ v, v < w → ∀ j, to v = some j → j < 2 ^ 31) : ∃ of' : Nat → Nat, Ev 0 0 0 124 [.ref m] (put σ m (m + 1) (mF m pm sta rdm (nI stN) me (nI trN) mi slr (nI w) cha bm bc bl bch ask sn ks kw kt km hsh) (mA apg ade afo (arrI 15 (rw3 ki sr to)) ale afi anf anl (arr 6 wh) aod abo (arr 5 ofn) ama asd akr akl akf akd ako)) (some (.int (bi (bok to wh trN (stN - trN) w)))) (put σ m (m + 1) (mF m pm sta rdm (nI stN) me (nI trN) mi slr (nI w) cha bm bc bl bch ask sn ks kw kt km hsh) (mA apg ade afo (arrI 15 (rw3 ki sr to)) ale afi anf anl (arr 6 wh) aod abo (arr 5 of') ama asd akr akl akf akd ako)) := by
  have l3 : ∀ (n k : Nat) (f : Nat → Nat) (x : Int32), k + n = w → (∀ v, v < 5 → f v = cntN wh v trN (stN - trN)) → x = bi (bok to wh trN (stN - trN) k) → WP 0 0 0 124 58 [.ref m, .int x, .int (nI k)] [] (put σ m (m + 1) (mF m pm sta rdm (nI stN) me (nI trN) mi slr (nI w) cha bm bc bl bch ask sn ks kw kt km hsh) (mA apg ade afo (arrI 15 (rw3 ki sr to)) ale afi anf anl (arr 6 wh) aod abo (arr 5 f) ama asd akr akl akf akd ako)) (some (.int (bi (bok to wh trN (stN - trN) w)))) (put σ m (m + 1) (mF m pm sta rdm (nI stN) me (nI trN) mi slr (nI w) cha bm bc bl bch ask sn ks kw kt km hsh) (mA apg ade afo (arrI 15 (rw3 ki sr to)) ale afi anf anl (arr 6 wh) aod abo (arr 5 f) ama asd akr akl akf akd ako)) := by
    intro n
    induction n with
    | zero =>
      intro k f x hk' hf hx
      have e : k = w := by omega
      subst e
      subst hx
      refine wp_iload_2 d124_58 ?_
      refine wp_aload_0 d124_59 ?_
      refine wp_getP d124_60 (Nat.le_of_ble_eq_true rfl) kM.1 rfl ?_
      refine wp_icmp_geN d124_63 (by decide) (by omega) (by omega) (fun h63 => ?_) (fun hq => absurd hq (by omega))
      refine wp_iload_1 d124_115 ?_
      exact wp_zret d124_116 rfl (by first | exact nI_01 | exact nI_11 | exact bi_01 _) rfl rfl
    | succ n ih =>
      intro k f x hk' hf hx
      subst hx
      have hb := hto k (by omega)
      have hc := cntN_le wh k trN (stN - trN)
      refine wp_iload_2 d124_58 ?_
      refine wp_aload_0 d124_59 ?_
      refine wp_getP d124_60 (Nat.le_of_ble_eq_true rfl) kM.1 rfl ?_
      refine wp_icmp_geN d124_63 (by decide) (by omega) (by omega) (fun hq => absurd hq (by omega)) (fun h63 => ?_)
      refine wp_iload_1 d124_66 ?_
      refine wp_if_eqB d124_67 (by decide) (fun h67 => ?_) (fun h67 => ?_)
      · refine wp_iconst d124_107 ic_0 ?_
        refine wp_istore_1 d124_108 (Nat.le_of_ble_eq_true rfl) rfl ?_
        refine wp_iinc_2 d124_109 (Nat.le_of_ble_eq_true rfl) rfl (inc1 _) ?_
        refine wp_goto d124_112 (by decide) ?_
        exact ih (k + 1) f _ (by omega) hf (by simp [bok, h67]; rfl)
      · refine wp_aload_0 d124_70 ?_
        refine wp_getP d124_71 (Nat.le_of_ble_eq_true rfl) kM.1 rfl ?_
        refine wp_iconst d124_74 ic_3 ?_
        refine wp_iload_2 d124_75 ?_
        refine wp_imulN d124_76 ?_
        refine wp_iconst d124_77 ic_2 ?_
        refine wp_iaddN d124_78 ?_
        refine wp_aldP d124_79 (kM.2 _ (Nat.le_of_ble_eq_true rfl)) rfl (by omega) (by decide) ?_
        rw [rw_2]
        refine wp_iconst d124_80 ic_m1 ?_
        refine wp_icmp_eq d124_81 (by decide) (fun h81 => ?_) (fun h81 => ?_)
        · have e : to k = none := (eo_none hb).mp h81
          refine wp_iconst d124_103 ic_1 ?_
          refine wp_goto d124_104 (by decide) ?_
          refine wp_istore_1 d124_108 (Nat.le_of_ble_eq_true rfl) rfl ?_
          refine wp_iinc_2 d124_109 (Nat.le_of_ble_eq_true rfl) rfl (inc1 _) ?_
          refine wp_goto d124_112 (by decide) ?_
          exact ih (k + 1) f _ (by omega) hf (by simp [bok, h67, e]; rfl)
        · have e : ¬ to k = none := fun z => h81 ((eo_none hb).mpr z)
          refine wp_aload_0 d124_84 ?_
          refine wp_getP d124_85 (Nat.le_of_ble_eq_true rfl) kM.1 rfl ?_
          refine wp_iconst d124_88 ic_3 ?_
          refine wp_iload_2 d124_89 ?_
          refine wp_imulN d124_90 ?_
          refine wp_iconst d124_91 ic_2 ?_
          refine wp_iaddN d124_92 ?_
          refine wp_aldP d124_93 (kM.2 _ (Nat.le_of_ble_eq_true rfl)) rfl (by omega) (by decide) ?_
          rw [rw_2]
          refine wp_aload_0 d124_94 ?_
          refine wp_getP d124_95 (Nat.le_of_ble_eq_true rfl) kM.1 rfl ?_
          refine wp_iload_2 d124_98 ?_
          refine wp_aldP d124_99 (kM.2 _ (Nat.le_of_ble_eq_true rfl)) rfl (by omega) (by decide) ?_
          rw [hf k (by omega)]
          refine wp_icmp_ne d124_100 (by decide) (fun h => ?_) (fun h => ?_)
          · have e2 : ¬ to k = some (cntN wh k trN (stN - trN)) := fun z => h ((eo_some (by omega) hb).mpr z)
            refine wp_iconst d124_107 ic_0 ?_
            refine wp_istore_1 d124_108 (Nat.le_of_ble_eq_true rfl) rfl ?_
            refine wp_iinc_2 d124_109 (Nat.le_of_ble_eq_true rfl) rfl (inc1 _) ?_
            refine wp_goto d124_112 (by decide) ?_
            exact ih (k + 1) f _ (by omega) hf (by simp [bok, e, e2]; rfl)
          · have e2 : to k = some (cntN wh k trN (stN - trN)) := (eo_some (by omega) hb).mp h
            refine wp_iconst d124_103 ic_1 ?_
            refine wp_goto d124_104 (by decide) ?_
            refine wp_istore_1 d124_108 (Nat.le_of_ble_eq_true rfl) rfl ?_
            refine wp_iinc_2 d124_109 (Nat.le_of_ble_eq_true rfl) rfl (inc1 _) ?_
            refine wp_goto d124_112 (by decide) ?_
            exact ih (k + 1) f _ (by omega) hf (by simp [bok, h67, e2]; rfl)
  have l2 : ∀ (n k : Nat) (f : Nat → Nat), trN + k + n = stN → (∀ v, v < 5 → f v = cntN wh v trN k) → ∃ of' : Nat → Nat, WP 0 0 0 124 25 [.ref m, .int (nI (trN + k)), .null] [] (put σ m (m + 1) (mF m pm sta rdm (nI stN) me (nI trN) mi slr (nI w) cha bm bc bl bch ask sn ks kw kt km hsh) (mA apg ade afo (arrI 15 (rw3 ki sr to)) ale afi anf anl (arr 6 wh) aod abo (arr 5 f) ama asd akr akl akf akd ako)) (some (.int (bi (bok to wh trN (stN - trN) w)))) (put σ m (m + 1) (mF m pm sta rdm (nI stN) me (nI trN) mi slr (nI w) cha bm bc bl bch ask sn ks kw kt km hsh) (mA apg ade afo (arrI 15 (rw3 ki sr to)) ale afi anf anl (arr 6 wh) aod abo (arr 5 of') ama asd akr akl akf akd ako)) := by
    intro n
    induction n with
    | zero =>
      intro k f hk' hf
      refine ⟨f, ?_⟩
      rw [show k = stN - trN by omega] at hf
      refine wp_iload_1 d124_25 ?_
      refine wp_aload_0 d124_26 ?_
      refine wp_getP d124_27 (Nat.le_of_ble_eq_true rfl) kM.1 rfl ?_
      refine wp_icmp_geN d124_30 (by decide) (by omega) (by omega) (fun h30 => ?_) (fun hq => absurd hq (by omega))
      refine wp_iconst d124_54 ic_1 ?_
      refine wp_istore_1 d124_55 (Nat.le_of_ble_eq_true rfl) rfl ?_
      refine wp_iconst d124_56 ic_0 ?_
      refine wp_istore_2 d124_57 (Nat.le_of_ble_eq_true rfl) rfl ?_
      exact l3 w 0 f _ (by omega) hf rfl
    | succ n ih =>
      intro k f hk' hf
      have hb := hwh (trN + k) (by omega) (by omega)
      obtain ⟨of', K⟩ := ih (k + 1) (up f (wh (trN + k)) (f (wh (trN + k)) + 1)) (by omega) (fun v hv => by
        unfold up cntN
        have e1 := hf v hv
        have e2 := hf (wh (trN + k)) (by omega)
        grind)
      refine ⟨of', ?_⟩
      refine wp_iload_1 d124_25 ?_
      refine wp_aload_0 d124_26 ?_
      refine wp_getP d124_27 (Nat.le_of_ble_eq_true rfl) kM.1 rfl ?_
      refine wp_icmp_geN d124_30 (by decide) (by omega) (by omega) (fun hq => absurd hq (by omega)) (fun h30 => ?_)
      refine wp_aload_0 d124_33 ?_
      refine wp_getP d124_34 (Nat.le_of_ble_eq_true rfl) kM.1 rfl ?_
      refine wp_aload_0 d124_37 ?_
      refine wp_getP d124_38 (Nat.le_of_ble_eq_true rfl) kM.1 rfl ?_
      refine wp_iload_1 d124_41 ?_
      refine wp_aldP d124_42 (kM.2 _ (Nat.le_of_ble_eq_true rfl)) rfl (by omega) (by decide) ?_
      refine wp_dup2 d124_43 rfl rfl ?_
      refine wp_aldP d124_44 (kM.2 _ (Nat.le_of_ble_eq_true rfl)) rfl (by omega) (by decide) ?_
      refine wp_iconst d124_45 ic_1 ?_
      refine wp_iaddN d124_46 ?_
      refine wp_astN d124_47 (kM.2 _ (Nat.le_of_ble_eq_true rfl)) rfl (by omega) (by decide) ?_
      refine wp_iinc_1 d124_48 (Nat.le_of_ble_eq_true rfl) rfl (inc1 _) ?_
      refine wp_goto d124_51 (by decide) ?_
      exact K
  have l1 : ∀ (n k : Nat) (f : Nat → Nat), k + n = 5 → (∀ v, v < k → f v = 0) → ∃ of' : Nat → Nat, WP 0 0 0 124 2 [.ref m, .int (nI k), .null] [] (put σ m (m + 1) (mF m pm sta rdm (nI stN) me (nI trN) mi slr (nI w) cha bm bc bl bch ask sn ks kw kt km hsh) (mA apg ade afo (arrI 15 (rw3 ki sr to)) ale afi anf anl (arr 6 wh) aod abo (arr 5 f) ama asd akr akl akf akd ako)) (some (.int (bi (bok to wh trN (stN - trN) w)))) (put σ m (m + 1) (mF m pm sta rdm (nI stN) me (nI trN) mi slr (nI w) cha bm bc bl bch ask sn ks kw kt km hsh) (mA apg ade afo (arrI 15 (rw3 ki sr to)) ale afi anf anl (arr 6 wh) aod abo (arr 5 of') ama asd akr akl akf akd ako)) := by
    intro n
    induction n with
    | zero =>
      intro k f hk' hf
      obtain ⟨of', K⟩ := l2 (stN - trN) 0 f (by omega) (fun v hv => hf v (by omega))
      refine ⟨of', ?_⟩
      refine wp_iload_1 d124_2 ?_
      refine wp_iconst d124_3 ic_5 ?_
      refine wp_icmp_geN d124_4 (by decide) (by omega) (by omega) (fun h4 => ?_) (fun hq => absurd hq (by omega))
      refine wp_aload_0 d124_20 ?_
      refine wp_getP d124_21 (Nat.le_of_ble_eq_true rfl) kM.1 rfl ?_
      refine wp_istore_1 d124_24 (Nat.le_of_ble_eq_true rfl) rfl ?_
      exact K
    | succ n ih =>
      intro k f hk' hf
      obtain ⟨of', K⟩ := ih (k + 1) (up f k 0) (by omega) (fun v hv => by unfold up; grind)
      refine ⟨of', ?_⟩
      refine wp_iload_1 d124_2 ?_
      refine wp_iconst d124_3 ic_5 ?_
      refine wp_icmp_geN d124_4 (by decide) (by omega) (by omega) (fun hq => absurd hq (by omega)) (fun h4 => ?_)
      refine wp_aload_0 d124_7 ?_
      refine wp_getP d124_8 (Nat.le_of_ble_eq_true rfl) kM.1 rfl ?_
      refine wp_iload_1 d124_11 ?_
      refine wp_iconst d124_12 ic_0 ?_
      refine wp_astN d124_13 (kM.2 _ (Nat.le_of_ble_eq_true rfl)) rfl (by omega) (by decide) ?_
      refine wp_iinc_1 d124_14 (Nat.le_of_ble_eq_true rfl) rfl (inc1 _) ?_
      refine wp_goto d124_17 (by decide) ?_
      exact K
  obtain ⟨of', K⟩ := l1 5 0 ofn rfl (fun v hv => by omega)
  refine ⟨of', ?_⟩
  refine ev_of (L := [(.ref m), .null, .null]) (by decide) rfl (Nat.le_of_ble_eq_true rfl) ?_
  refine wp_iconst d124_0 ic_0 ?_
  refine wp_istore_1 d124_1 (Nat.le_of_ble_eq_true rfl) rfl ?_
  exact K

end S11_mo7b
