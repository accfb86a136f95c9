section S14_mo10
variable {σ : Sto} {m : Nat} {pm sta rdm st me tr mi slr wa cha bm bc bl bch ask sn ks kw kt km : Int32} {hsh : Int64} {apg ade afo aro ale afi anf anl awh aod abo aof ama asd akr akl akf akd ako : List Int32}

theorem m_digest (kM : KM σ m) {trN stN w meN pmN slN bmN asN : Nat} {ki sr fi le de nf nl od bo pg : Nat → Nat} {to fo : Nat → Option Nat} (h1 : trN ≤ stN) (h6 : stN ≤ 6) (hw5 : w ≤ 5) (hf : PF w fi) (hk : ∀ v, v < w → ki v < 5) (hl : ∀ v, v < w → le v < 1000) (hs : ∀ v, v < w → sr v < 1000) (hd : ∀ k, k < stN → de k < 100) (hfo : ∀ k, k < trN → ∀ j, fo k = some j → j < 2 ^ 31) (hto : ∀ v, v < w → ∀ j, to v = some j → j < 2 ^ 31) (hpm : pmN ≤ 10) : ∃ (nf' nl' od' bo' : Nat → Nat) (hs' : Int64), Ev 4 0 0 136 [.ref m] (put σ m (m + 1) (mF m (nI pmN) sta rdm (nI stN) (nI meN) (nI trN) mi (nI slN) (nI w) cha (nI bmN) bc bl bch (nI asN) sn ks kw kt km hsh) (mA (arr 10 pg) (arr 6 de) (arO 6 fo) (arrI 15 (rw3 ki sr to)) (arr 5 le) (arr 5 fi) (arr 5 nf) (arr 5 nl) awh (arr 5 od) (arr 5 bo) aof ama asd akr akl akf akd ako)) (some (.long (r_digest stN meN w trN mi ki sr le fi de to fo pg pmN slN bmN asN))) (put σ m (m + 1) (mF m (nI pmN) sta rdm (nI stN) (nI meN) (nI trN) mi (nI slN) (nI w) cha (nI bmN) bc bl bch (nI asN) sn ks kw kt km (hs')) (mA (arr 10 pg) (arr 6 de) (arO 6 fo) (arrI 15 (rw3 ki sr to)) (arr 5 le) (arr 5 fi) (arr 5 nf') (arr 5 nl') awh (arr 5 od') (arr 5 bo') aof ama asd akr akl akf akd ako)) := by
  have p5 : ∀ (nf nl od bo : Nat → Nat) (n k : Nat) (h : Int64) (u2 : Value), k + n = 11 → WP 4 0 0 136 161 [.ref m, .int (nI k), u2] [] (put σ m (m + 1) (mF m (nI pmN) sta rdm (nI stN) (nI meN) (nI trN) mi (nI slN) (nI w) cha (nI bmN) bc bl bch (nI asN) sn ks kw kt km (sayF (fun q => r_count stN meN w trN mi le to pmN slN bmN asN (nI q)) k h)) (mA (arr 10 pg) (arr 6 de) (arO 6 fo) (arrI 15 (rw3 ki sr to)) (arr 5 le) (arr 5 fi) (arr 5 nf) (arr 5 nl) awh (arr 5 od) (arr 5 bo) aof ama asd akr akl akf akd ako)) (some (.long (sayF (fun q => r_count stN meN w trN mi le to pmN slN bmN asN (nI q)) 11 h))) (put σ m (m + 1) (mF m (nI pmN) sta rdm (nI stN) (nI meN) (nI trN) mi (nI slN) (nI w) cha (nI bmN) bc bl bch (nI asN) sn ks kw kt km (sayF (fun q => r_count stN meN w trN mi le to pmN slN bmN asN (nI q)) 11 h)) (mA (arr 10 pg) (arr 6 de) (arO 6 fo) (arrI 15 (rw3 ki sr to)) (arr 5 le) (arr 5 fi) (arr 5 nf) (arr 5 nl) awh (arr 5 od) (arr 5 bo) aof ama asd akr akl akf akd ako)) := by
    intro nf nl od bo n
    induction n with
    | zero =>
      intro k h u2 hk'
      have e : k = 11 := by omega
      subst e
      refine wp_iload_1 d136_161 ?_
      refine wp_bipush d136_162 bi_11 ?_
      refine wp_icmp_geN d136_164 (by decide) (by omega) (by omega) (fun h164 => ?_) (fun hq => absurd hq (by omega))
      refine wp_aload_0 d136_183 ?_
      refine wp_getP d136_184 (Nat.le_of_ble_eq_true rfl) kM.1 rfl ?_
      exact wp_lret d136_187 rfl rfl rfl
    | succ n ih =>
      intro k h u2 hk'
      refine wp_iload_1 d136_161 ?_
      refine wp_bipush d136_162 bi_11 ?_
      refine wp_icmp_geN d136_164 (by decide) (by omega) (by omega) (fun hq => absurd hq (by omega)) (fun h164 => ?_)
      refine wp_aload_0 d136_167 ?_
      refine wp_aload_0 d136_168 ?_
      refine wp_iload_1 d136_169 ?_
      refine wp_V1r d136_170 kM.1 ((m_countOf kM hw5 hto (nI k))) (Nat.le_of_ble_eq_true rfl) (Nat.le_of_ble_eq_true rfl) ?_
      refine wp_i2l d136_173 ?_
      refine wp_V1v d136_174 kM.1 ((m_say kM _)) (Nat.le_of_ble_eq_true rfl) (Nat.le_of_ble_eq_true rfl) ?_
      refine wp_iinc_1 d136_177 (Nat.le_of_ble_eq_true rfl) rfl (inc1 _) ?_
      refine wp_goto d136_180 (by decide) ?_
      exact ih (k + 1) h u2 (by omega)
  have p4 : ∀ (nf nl od bo : Nat → Nat) (n k : Nat) (h : Int64) (u2 : Value), k + n = pmN → WP 4 0 0 136 134 [.ref m, .int (nI k), u2] [] (put σ m (m + 1) (mF m (nI pmN) sta rdm (nI stN) (nI meN) (nI trN) mi (nI slN) (nI w) cha (nI bmN) bc bl bch (nI asN) sn ks kw kt km (sayF (fun k => nI (pg k)) k h)) (mA (arr 10 pg) (arr 6 de) (arO 6 fo) (arrI 15 (rw3 ki sr to)) (arr 5 le) (arr 5 fi) (arr 5 nf) (arr 5 nl) awh (arr 5 od) (arr 5 bo) aof ama asd akr akl akf akd ako)) (some (.long (sayF (fun q => r_count stN meN w trN mi le to pmN slN bmN asN (nI q)) 11 (sayF (fun k => nI (pg k)) pmN h)))) (put σ m (m + 1) (mF m (nI pmN) sta rdm (nI stN) (nI meN) (nI trN) mi (nI slN) (nI w) cha (nI bmN) bc bl bch (nI asN) sn ks kw kt km (sayF (fun q => r_count stN meN w trN mi le to pmN slN bmN asN (nI q)) 11 (sayF (fun k => nI (pg k)) pmN h))) (mA (arr 10 pg) (arr 6 de) (arO 6 fo) (arrI 15 (rw3 ki sr to)) (arr 5 le) (arr 5 fi) (arr 5 nf) (arr 5 nl) awh (arr 5 od) (arr 5 bo) aof ama asd akr akl akf akd ako)) := by
    intro nf nl od bo n
    induction n with
    | zero =>
      intro k h u2 hk'
      have e : k = pmN := by omega
      subst e
      refine wp_iload_1 d136_134 ?_
      refine wp_aload_0 d136_135 ?_
      refine wp_getP d136_136 (Nat.le_of_ble_eq_true rfl) kM.1 rfl ?_
      refine wp_icmp_geN d136_139 (by decide) (by omega) (by omega) (fun h139 => ?_) (fun hq => absurd hq (by omega))
      refine wp_iconst d136_159 ic_0 ?_
      refine wp_istore_1 d136_160 (Nat.le_of_ble_eq_true rfl) rfl ?_
      exact p5 nf nl od bo 11 0 _ u2 rfl
    | succ n ih =>
      intro k h u2 hk'
      refine wp_iload_1 d136_134 ?_
      refine wp_aload_0 d136_135 ?_
      refine wp_getP d136_136 (Nat.le_of_ble_eq_true rfl) kM.1 rfl ?_
      refine wp_icmp_geN d136_139 (by decide) (by omega) (by omega) (fun hq => absurd hq (by omega)) (fun h139 => ?_)
      refine wp_aload_0 d136_142 ?_
      refine wp_aload_0 d136_143 ?_
      refine wp_getP d136_144 (Nat.le_of_ble_eq_true rfl) kM.1 rfl ?_
      refine wp_iload_1 d136_147 ?_
      refine wp_aldP d136_148 (kM.2 _ (Nat.le_of_ble_eq_true rfl)) rfl (by omega) (by decide) ?_
      refine wp_i2l d136_149 ?_
      refine wp_V1v d136_150 kM.1 ((m_say kM _)) (Nat.le_of_ble_eq_true rfl) (Nat.le_of_ble_eq_true rfl) ?_
      refine wp_iinc_1 d136_153 (Nat.le_of_ble_eq_true rfl) rfl (inc1 _) ?_
      refine wp_goto d136_156 (by decide) ?_
      exact ih (k + 1) h u2 (by omega)
  have p3 : ∀ (u1 u2 : Value), ∃ (nf' nl' od' bo' : Nat → Nat) (hs' : Int64), WP 4 0 0 136 86 [.ref m, u1, u2] [] (put σ m (m + 1) (mF m (nI pmN) sta rdm (nI stN) (nI meN) (nI trN) mi (nI slN) (nI w) cha (nI bmN) bc bl bch (nI asN) sn ks kw kt km (sayG (fun v q => r_tells stN trN ki sr le fi de to fo w v (nI q)) w (sayD de fo stN (lN 787)))) (mA (arr 10 pg) (arr 6 de) (arO 6 fo) (arrI 15 (rw3 ki sr to)) (arr 5 le) (arr 5 fi) (arr 5 nf) (arr 5 nl) awh (arr 5 od) (arr 5 bo) aof ama asd akr akl akf akd ako)) (some (.long (r_digest stN meN w trN mi ki sr le fi de to fo pg pmN slN bmN asN))) (put σ m (m + 1) (mF m (nI pmN) sta rdm (nI stN) (nI meN) (nI trN) mi (nI slN) (nI w) cha (nI bmN) bc bl bch (nI asN) sn ks kw kt km (hs')) (mA (arr 10 pg) (arr 6 de) (arO 6 fo) (arrI 15 (rw3 ki sr to)) (arr 5 le) (arr 5 fi) (arr 5 nf') (arr 5 nl') awh (arr 5 od') (arr 5 bo') aof ama asd akr akl akf akd ako)) := by
    intro u1 u2
    unfold r_digest
    by_cases hw0 : w = 0
    · rw [if_pos hw0]
      refine ⟨nf, nl, od, bo, sayF (fun q => r_count stN meN w trN mi le to pmN slN bmN asN (nI q)) 11 (sayF (fun k => nI (pg k)) pmN (sayG (fun v q => r_tells stN trN ki sr le fi de to fo w v (nI q)) w (sayD de fo stN (lN 787)))), ?_⟩
      refine wp_aload_0 d136_86 ?_
      refine wp_getP d136_87 (Nat.le_of_ble_eq_true rfl) kM.1 rfl ?_
      refine wp_if_leN d136_90 (by decide) (by omega) (fun h90 => ?_) (fun hq => absurd hq (by omega))
      refine wp_iconst d136_132 ic_0 ?_
      refine wp_istore_1 d136_133 (Nat.le_of_ble_eq_true rfl) rfl ?_
      exact p4 nf nl od bo pmN 0 _ u2 (by omega)
    · rw [if_neg hw0]
      have hw : 1 ≤ w := by omega
      obtain ⟨nf1, nl1, K1⟩ := m_farOf kM (nf := nf) (nl := nl) (aod := arr 5 od) (abo := arr 5 bo) (hsh := sayG (fun v q => r_tells stN trN ki sr le fi de to fo w v (nI q)) w (sayD de fo stN (lN 787))) (σ := σ) (m := m) (sr := sr) (to := to) (pm := nI pmN) (sta := sta) (rdm := rdm) (me := nI meN) (mi := mi) (slr := nI slN) (bm := nI bmN) (bc := bc) (bl := bl) (bch := bch) (sn := sn) (ks := ks) (kw := kw) (kt := kt) (km := km) (apg := arr 10 pg) (afo := arO 6 fo) (asd := asd) (akr := akr) (akl := akl) (akf := akf) (akd := akd) (ako := ako) (awh := awh) (aof := aof) (ama := ama) (ask := nI asN) (cha := cha) (by' := 1) h1 h6 hw hw5 hf hk hl hd (by decide) (by decide)
      obtain ⟨nf2, nl2, K2⟩ := m_farOf kM (nf := nf1) (nl := nl1) (aod := arr 5 od) (abo := arr 5 bo) (hsh := sayN (sayG (fun v q => r_tells stN trN ki sr le fi de to fo w v (nI q)) w (sayD de fo stN (lN 787))) (nI (faN w ki de trN 1 (stN - trN) 0 fi le))) (σ := σ) (m := m) (sr := sr) (to := to) (pm := nI pmN) (sta := sta) (rdm := rdm) (me := nI meN) (mi := mi) (slr := nI slN) (bm := nI bmN) (bc := bc) (bl := bl) (bch := bch) (sn := sn) (ks := ks) (kw := kw) (kt := kt) (km := km) (apg := arr 10 pg) (afo := arO 6 fo) (asd := asd) (akr := akr) (akl := akl) (akf := akf) (akd := akd) (ako := ako) (awh := awh) (aof := aof) (ama := ama) (ask := nI asN) (cha := cha) (by' := 2) h1 h6 hw hw5 hf hk hl hd (by decide) (by decide)
      obtain ⟨nf3, nl3, K3⟩ := m_farOf kM (nf := nf2) (nl := nl2) (aod := arr 5 od) (abo := arr 5 bo) (hsh := sayN (sayN (sayG (fun v q => r_tells stN trN ki sr le fi de to fo w v (nI q)) w (sayD de fo stN (lN 787))) (nI (faN w ki de trN 1 (stN - trN) 0 fi le))) (nI (faN w ki de trN 2 (stN - trN) 0 fi le))) (σ := σ) (m := m) (sr := sr) (to := to) (pm := nI pmN) (sta := sta) (rdm := rdm) (me := nI meN) (mi := mi) (slr := nI slN) (bm := nI bmN) (bc := bc) (bl := bl) (bch := bch) (sn := sn) (ks := ks) (kw := kw) (kt := kt) (km := km) (apg := arr 10 pg) (afo := arO 6 fo) (asd := asd) (akr := akr) (akl := akl) (akf := akf) (akd := akd) (ako := ako) (awh := awh) (aof := aof) (ama := ama) (ask := nI asN) (cha := cha) (by' := 3) h1 h6 hw hw5 hf hk hl hd (by decide) (by decide)
      obtain ⟨od4, bo4, nf4, nl4, -, K4⟩ := m_setOutLeft kM (nf := nf3) (nl := nl3) (od := od) (bo := bo) (tr := nI trN) (ale := arr 5 le) (afi := arr 5 fi) (hsh := sayN (sayN (sayN (sayG (fun v q => r_tells stN trN ki sr le fi de to fo w v (nI q)) w (sayD de fo stN (lN 787))) (nI (faN w ki de trN 1 (stN - trN) 0 fi le))) (nI (faN w ki de trN 2 (stN - trN) 0 fi le))) (nI (faN w ki de trN 3 (stN - trN) 0 fi le))) (σ := σ) (m := m) (sr := sr) (to := to) (pm := nI pmN) (sta := sta) (rdm := rdm) (me := nI meN) (mi := mi) (slr := nI slN) (bm := nI bmN) (bc := bc) (bl := bl) (bch := bch) (sn := sn) (ks := ks) (kw := kw) (kt := kt) (km := km) (apg := arr 10 pg) (afo := arO 6 fo) (asd := asd) (akr := akr) (akl := akl) (akf := akf) (akd := akd) (ako := ako) (awh := awh) (aof := aof) (ama := ama) (ask := nI asN) (cha := cha) h6 hw hw5 hk hs hd
      refine ⟨nf4, nl4, od4, bo4, sayF (fun q => r_count stN meN w trN mi le to pmN slN bmN asN (nI q)) 11 (sayF (fun k => nI (pg k)) pmN (sayN (sayN (sayN (sayN (sayG (fun v q => r_tells stN trN ki sr le fi de to fo w v (nI q)) w (sayD de fo stN (lN 787))) (nI (faN w ki de trN 1 (stN - trN) 0 fi le))) (nI (faN w ki de trN 2 (stN - trN) 0 fi le))) (nI (faN w ki de trN 3 (stN - trN) 0 fi le))) (eo (p2 (setG w ki sr de stN (w ^ w)))))), ?_⟩
      refine wp_aload_0 d136_86 ?_
      refine wp_getP d136_87 (Nat.le_of_ble_eq_true rfl) kM.1 rfl ?_
      refine wp_if_leN d136_90 (by decide) (by omega) (fun hq => absurd hq (by omega)) (fun h90 => ?_)
      refine wp_aload_0 d136_93 ?_
      refine wp_aload_0 d136_94 ?_
      refine wp_iconst d136_95 ic_1 ?_
      refine wp_V1r d136_96 kM.1 ((K1)) (Nat.le_of_ble_eq_true rfl) (Nat.le_of_ble_eq_true rfl) ?_
      refine wp_i2l d136_99 ?_
      refine wp_V1v d136_100 kM.1 ((m_say kM _)) (Nat.le_of_ble_eq_true rfl) (Nat.le_of_ble_eq_true rfl) ?_
      refine wp_aload_0 d136_103 ?_
      refine wp_aload_0 d136_104 ?_
      refine wp_iconst d136_105 ic_2 ?_
      refine wp_V1r d136_106 kM.1 ((K2)) (Nat.le_of_ble_eq_true rfl) (Nat.le_of_ble_eq_true rfl) ?_
      refine wp_i2l d136_109 ?_
      refine wp_V1v d136_110 kM.1 ((m_say kM _)) (Nat.le_of_ble_eq_true rfl) (Nat.le_of_ble_eq_true rfl) ?_
      refine wp_aload_0 d136_113 ?_
      refine wp_aload_0 d136_114 ?_
      refine wp_iconst d136_115 ic_3 ?_
      refine wp_V1r d136_116 kM.1 ((K3)) (Nat.le_of_ble_eq_true rfl) (Nat.le_of_ble_eq_true rfl) ?_
      refine wp_i2l d136_119 ?_
      refine wp_V1v d136_120 kM.1 ((m_say kM _)) (Nat.le_of_ble_eq_true rfl) (Nat.le_of_ble_eq_true rfl) ?_
      refine wp_aload_0 d136_123 ?_
      refine wp_aload_0 d136_124 ?_
      refine wp_V0r d136_125 kM.1 ((K4)) (Nat.le_of_ble_eq_true rfl) (Nat.le_of_ble_eq_true rfl) ?_
      refine wp_i2l d136_128 ?_
      refine wp_V1v d136_129 kM.1 ((m_say kM _)) (Nat.le_of_ble_eq_true rfl) (Nat.le_of_ble_eq_true rfl) ?_
      refine wp_iconst d136_132 ic_0 ?_
      refine wp_istore_1 d136_133 (Nat.le_of_ble_eq_true rfl) rfl ?_
      exact p4 nf4 nl4 od4 bo4 pmN 0 _ u2 (by omega)
  have p2' : ∀ (n v : Nat) (u2 : Value), v + n = w → ∃ (nf' nl' od' bo' : Nat → Nat) (hs' : Int64), WP 4 0 0 136 47 [.ref m, .int (nI v), u2] [] (put σ m (m + 1) (mF m (nI pmN) sta rdm (nI stN) (nI meN) (nI trN) mi (nI slN) (nI w) cha (nI bmN) bc bl bch (nI asN) sn ks kw kt km (sayG (fun v q => r_tells stN trN ki sr le fi de to fo w v (nI q)) v (sayD de fo stN (lN 787)))) (mA (arr 10 pg) (arr 6 de) (arO 6 fo) (arrI 15 (rw3 ki sr to)) (arr 5 le) (arr 5 fi) (arr 5 nf) (arr 5 nl) awh (arr 5 od) (arr 5 bo) aof ama asd akr akl akf akd ako)) (some (.long (r_digest stN meN w trN mi ki sr le fi de to fo pg pmN slN bmN asN))) (put σ m (m + 1) (mF m (nI pmN) sta rdm (nI stN) (nI meN) (nI trN) mi (nI slN) (nI w) cha (nI bmN) bc bl bch (nI asN) sn ks kw kt km (hs')) (mA (arr 10 pg) (arr 6 de) (arO 6 fo) (arrI 15 (rw3 ki sr to)) (arr 5 le) (arr 5 fi) (arr 5 nf') (arr 5 nl') awh (arr 5 od') (arr 5 bo') aof ama asd akr akl akf akd ako)) := by
    intro n
    induction n with
    | zero =>
      intro v u2 hv
      have e : v = w := by omega
      subst e
      obtain ⟨nf', nl', od', bo', hs', K⟩ := p3 (.int (nI v)) u2
      refine ⟨nf', nl', od', bo', hs', ?_⟩
      refine wp_iload_1 d136_47 ?_
      refine wp_aload_0 d136_48 ?_
      refine wp_getP d136_49 (Nat.le_of_ble_eq_true rfl) kM.1 rfl ?_
      refine wp_icmp_geN d136_52 (by decide) (by omega) (by omega) (fun h52 => ?_) (fun hq => absurd hq (by omega))
      exact K
    | succ n ih =>
      intro v u2 hv
      obtain ⟨nf', nl', od', bo', hs', K⟩ := ih (v + 1) (.int (nI 7)) (by omega)
      refine ⟨nf', nl', od', bo', hs', ?_⟩
      have inner : ∀ (i q : Nat), q + i = 7 → WP 4 0 0 136 57 [.ref m, .int (nI v), .int (nI q)] [] (put σ m (m + 1) (mF m (nI pmN) sta rdm (nI stN) (nI meN) (nI trN) mi (nI slN) (nI w) cha (nI bmN) bc bl bch (nI asN) sn ks kw kt km (sayF ((fun v q => r_tells stN trN ki sr le fi de to fo w v (nI q)) v) q (sayG (fun v q => r_tells stN trN ki sr le fi de to fo w v (nI q)) v (sayD de fo stN (lN 787))))) (mA (arr 10 pg) (arr 6 de) (arO 6 fo) (arrI 15 (rw3 ki sr to)) (arr 5 le) (arr 5 fi) (arr 5 nf) (arr 5 nl) awh (arr 5 od) (arr 5 bo) aof ama asd akr akl akf akd ako)) (some (.long (r_digest stN meN w trN mi ki sr le fi de to fo pg pmN slN bmN asN))) (put σ m (m + 1) (mF m (nI pmN) sta rdm (nI stN) (nI meN) (nI trN) mi (nI slN) (nI w) cha (nI bmN) bc bl bch (nI asN) sn ks kw kt km (hs')) (mA (arr 10 pg) (arr 6 de) (arO 6 fo) (arrI 15 (rw3 ki sr to)) (arr 5 le) (arr 5 fi) (arr 5 nf') (arr 5 nl') awh (arr 5 od') (arr 5 bo') aof ama asd akr akl akf akd ako)) := by
        intro i
        induction i with
        | zero =>
          intro q hq
          have e : q = 7 := by omega
          subst e
          refine wp_iload_2 d136_57 ?_
          refine wp_bipush d136_58 bi_7 ?_
          refine wp_icmp_geN d136_60 (by decide) (by omega) (by omega) (fun h60 => ?_) (fun hq => absurd hq (by omega))
          refine wp_iinc_1 d136_80 (Nat.le_of_ble_eq_true rfl) rfl (inc1 _) ?_
          refine wp_goto d136_83 (by decide) ?_
          exact K
        | succ i ih2 =>
          intro q hq
          refine wp_iload_2 d136_57 ?_
          refine wp_bipush d136_58 bi_7 ?_
          refine wp_icmp_geN d136_60 (by decide) (by omega) (by omega) (fun hq => absurd hq (by omega)) (fun h60 => ?_)
          refine wp_aload_0 d136_63 ?_
          refine wp_aload_0 d136_64 ?_
          refine wp_iload_1 d136_65 ?_
          refine wp_iload_2 d136_66 ?_
          refine wp_V2r d136_67 kM.1 ((m_tells kM h1 h6 hw5 hf (by omega) hk hd hfo (nI q))) (Nat.le_of_ble_eq_true rfl) (Nat.le_of_ble_eq_true rfl) ?_
          refine wp_i2l d136_70 ?_
          refine wp_V1v d136_71 kM.1 ((m_say kM _)) (Nat.le_of_ble_eq_true rfl) (Nat.le_of_ble_eq_true rfl) ?_
          refine wp_iinc_2 d136_74 (Nat.le_of_ble_eq_true rfl) rfl (inc1 _) ?_
          refine wp_goto d136_77 (by decide) ?_
          exact ih2 (q + 1) (by omega)
      refine wp_iload_1 d136_47 ?_
      refine wp_aload_0 d136_48 ?_
      refine wp_getP d136_49 (Nat.le_of_ble_eq_true rfl) kM.1 rfl ?_
      refine wp_icmp_geN d136_52 (by decide) (by omega) (by omega) (fun hq => absurd hq (by omega)) (fun h52 => ?_)
      refine wp_iconst d136_55 ic_0 ?_
      refine wp_istore_2 d136_56 (Nat.le_of_ble_eq_true rfl) rfl ?_
      exact inner 7 0 rfl
  obtain ⟨nf', nl', od', bo', hs', K⟩ := p2' w 0 .null (by omega)
  refine ⟨nf', nl', od', bo', hs', ?_⟩
  have p1 : ∀ (n k : Nat), k + n = stN → WP 4 0 0 136 9 [.ref m, .int (nI k), .null] [] (put σ m (m + 1) (mF m (nI pmN) sta rdm (nI stN) (nI meN) (nI trN) mi (nI slN) (nI w) cha (nI bmN) bc bl bch (nI asN) sn ks kw kt km (sayD de fo k (lN 787))) (mA (arr 10 pg) (arr 6 de) (arO 6 fo) (arrI 15 (rw3 ki sr to)) (arr 5 le) (arr 5 fi) (arr 5 nf) (arr 5 nl) awh (arr 5 od) (arr 5 bo) aof ama asd akr akl akf akd ako)) (some (.long (r_digest stN meN w trN mi ki sr le fi de to fo pg pmN slN bmN asN))) (put σ m (m + 1) (mF m (nI pmN) sta rdm (nI stN) (nI meN) (nI trN) mi (nI slN) (nI w) cha (nI bmN) bc bl bch (nI asN) sn ks kw kt km (hs')) (mA (arr 10 pg) (arr 6 de) (arO 6 fo) (arrI 15 (rw3 ki sr to)) (arr 5 le) (arr 5 fi) (arr 5 nf') (arr 5 nl') awh (arr 5 od') (arr 5 bo') aof ama asd akr akl akf akd ako)) := by
    intro n
    induction n with
    | zero =>
      intro k hk'
      have e : k = stN := by omega
      subst e
      refine wp_iload_1 d136_9 ?_
      refine wp_aload_0 d136_10 ?_
      refine wp_getP d136_11 (Nat.le_of_ble_eq_true rfl) kM.1 rfl ?_
      refine wp_icmp_geN d136_14 (by decide) (by omega) (by omega) (fun h14 => ?_) (fun hq => absurd hq (by omega))
      refine wp_iconst d136_45 ic_0 ?_
      refine wp_istore_1 d136_46 (Nat.le_of_ble_eq_true rfl) rfl ?_
      exact K
    | succ n ih =>
      intro k hk'
      refine wp_iload_1 d136_9 ?_
      refine wp_aload_0 d136_10 ?_
      refine wp_getP d136_11 (Nat.le_of_ble_eq_true rfl) kM.1 rfl ?_
      refine wp_icmp_geN d136_14 (by decide) (by omega) (by omega) (fun hq => absurd hq (by omega)) (fun h14 => ?_)
      refine wp_aload_0 d136_17 ?_
      refine wp_aload_0 d136_18 ?_
      refine wp_getP d136_19 (Nat.le_of_ble_eq_true rfl) kM.1 rfl ?_
      refine wp_iload_1 d136_22 ?_
      refine wp_aldP d136_23 (kM.2 _ (Nat.le_of_ble_eq_true rfl)) rfl (by omega) (by decide) ?_
      refine wp_i2l d136_24 ?_
      refine wp_V1v d136_25 kM.1 ((m_say kM _)) (Nat.le_of_ble_eq_true rfl) (Nat.le_of_ble_eq_true rfl) ?_
      refine wp_aload_0 d136_28 ?_
      refine wp_aload_0 d136_29 ?_
      refine wp_getP d136_30 (Nat.le_of_ble_eq_true rfl) kM.1 rfl ?_
      refine wp_iload_1 d136_33 ?_
      refine wp_aldP d136_34 (kM.2 _ (Nat.le_of_ble_eq_true rfl)) rfl (by omega) (by decide) ?_
      refine wp_i2l d136_35 ?_
      refine wp_V1v d136_36 kM.1 ((m_say kM _)) (Nat.le_of_ble_eq_true rfl) (Nat.le_of_ble_eq_true rfl) ?_
      refine wp_iinc_1 d136_39 (Nat.le_of_ble_eq_true rfl) rfl (inc1 _) ?_
      refine wp_goto d136_42 (by decide) ?_
      exact ih (k + 1) (by omega)
  refine ev_of (L := [(.ref m), .null, .null]) (by decide) rfl (Nat.le_of_ble_eq_true rfl) ?_
  refine wp_aload_0 d136_0 ?_
  refine wp_ldc2 d136_1 (by decide) rfl lk_787 ?_
  refine wp_putLP d136_4 kM.1 ?_
  refine wp_iconst d136_7 ic_0 ?_
  refine wp_istore_1 d136_8 (Nat.le_of_ble_eq_true rfl) rfl ?_
  exact p1 stN 0 (by omega)

end S14_mo10
