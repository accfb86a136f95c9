section S13_mo9b
variable {σ : Sto} {m : Nat} {pm sta rdm st me tr mi slr wa cha bm bc bl bch ask sn ks kw kt km : Int32} {hsh : Int64} {apg ade afo aro ale afi anf anl awh aod abo aof ama asd akr akl akf akd ako : List Int32}

theorem m_days (kM : KM σ m) {trN stN w : Nat} {ki sr fi le de nf nl sd : Nat → Nat} {to : Nat → Option Nat} (h1 : trN ≤ stN) (h6 : stN ≤ 6) (hw5 : w ≤ 5) (hf : PF w fi) (hk : ∀ v, v < w → ki v < 5) (hl : ∀ v, v < w → le v < 1000) (hs : ∀ v, v < w → sr v < 1000) (hd : ∀ k, k < stN → de k < 100) (x y z : Int32) : ∃ (nf' nl' sd' : Nat → Nat) (sn' : Int32), Ev 2 0 0 130 [.ref m, .int x, .int y, .int z] (put σ m (m + 1) (mF m pm sta rdm (nI stN) me (nI trN) mi slr (nI w) cha bm bc bl bch ask sn ks kw kt km hsh) (mA apg (arr 6 de) afo (arrI 15 (rw3 ki sr to)) (arr 5 le) (arr 5 fi) (arr 5 nf) (arr 5 nl) awh aod abo aof ama (arr 6 sd) akr akl akf akd ako)) (some (.int (if okD x y z then (if w = 0 then -103 else r_days w (dyN w stN ki sr x.toInt.toNat (y.toInt.toNat, trN, fi, le, de)) z) else -102))) (put σ m (m + 1) (mF m pm sta rdm (nI stN) me (nI trN) mi slr (nI w) cha bm bc bl bch ask (sn') ks kw kt km hsh) (mA apg (arr 6 de) afo (arrI 15 (rw3 ki sr to)) (arr 5 le) (arr 5 fi) (arr 5 nf') (arr 5 nl') awh aod abo aof ama (arr 6 sd') akr akl akf akd ako)) := by
  by_cases hok : okD x y z = true
  · rw [if_pos hok]
    simp only [okD, Bool.and_eq_true, decide_eq_true_eq] at hok
    obtain ⟨⟨hx, hy⟩, hz⟩ := hok
    have hxb := inB_t.mp hx
    have hzb := inB_t.mp hz
    have pre : ∀ {r : Option Value} {σ' : Sto}, WP 2 0 0 130 31 [.ref m, .int x, .int y, .int z, .null, .null, .null, .null, .null] [] (put σ m (m + 1) (mF m pm sta rdm (nI stN) me (nI trN) mi slr (nI w) cha bm bc bl bch ask sn ks kw kt km hsh) (mA apg (arr 6 de) afo (arrI 15 (rw3 ki sr to)) (arr 5 le) (arr 5 fi) (arr 5 nf) (arr 5 nl) awh aod abo aof ama (arr 6 sd) akr akl akf akd ako)) r σ' → Ev 2 0 0 130 [.ref m, .int x, .int y, .int z] (put σ m (m + 1) (mF m pm sta rdm (nI stN) me (nI trN) mi slr (nI w) cha bm bc bl bch ask sn ks kw kt km hsh) (mA apg (arr 6 de) afo (arrI 15 (rw3 ki sr to)) (arr 5 le) (arr 5 fi) (arr 5 nf) (arr 5 nl) awh aod abo aof ama (arr 6 sd) akr akl akf akd ako)) r σ' := by
      intro r σ' K
      refine ev_of (L := [(.ref m), (.int x), (.int y), (.int z), .null, .null, .null, .null, .null]) (by decide) rfl (Nat.le_of_ble_eq_true rfl) ?_
      refine wp_iload_1 d130_0 ?_
      refine wp_i2l d130_1 ?_
      refine wp_lconst d130_2 (v := lN 1) rfl ?_
      refine wp_ldc2 d130_3 (by decide) rfl lk_60 ?_
      refine wp_S3r d130_6 rfl ((m_in x (a := 1) (b := 60) (by decide) (by decide))) (Nat.le_of_ble_eq_true rfl) (Nat.le_of_ble_eq_true rfl) ?_
      refine wp_if_eqB d130_9 (by decide) (fun hq => absurd hq (fun hq => absurd (hx.symm.trans hq) (by decide))) (fun h9 => ?_)
      refine wp_iload_2 d130_12 ?_
      refine wp_if_lt d130_13 (by decide) (fun hq => absurd hq (fun hq => by have := (lt_nI (a := 0) (by decide)).mp hq; omega)) (fun h13 => ?_)
      refine wp_iload_3 d130_16 ?_
      refine wp_i2l d130_17 ?_
      refine wp_lconst d130_18 (v := lN 0) rfl ?_
      refine wp_ldc2 d130_19 (by decide) rfl lk_2 ?_
      refine wp_S3r d130_22 rfl ((m_in z (a := 0) (b := 2) (by decide) (by decide))) (Nat.le_of_ble_eq_true rfl) (Nat.le_of_ble_eq_true rfl) ?_
      refine wp_if_neB d130_25 (by decide) (fun h25 => ?_) (fun hq => absurd hq (fun hq => absurd (hq.symm.trans hz) (by decide)))
      exact K
    by_cases hw0 : w = 0
    · refine ⟨nf, nl, sd, sn, ?_⟩
      rw [if_pos hw0]
      refine pre ?_
      subst hw0
      refine wp_aload_0 d130_31 ?_
      refine wp_getP d130_32 (Nat.le_of_ble_eq_true rfl) kM.1 rfl ?_
      refine wp_if_neN d130_35 (by decide) (by omega) (fun hq => absurd hq (by omega)) (fun h35 => ?_)
      refine wp_bipush d130_38 bi_m103 ?_
      exact wp_iret d130_40 rfl rfl rfl
    · rw [if_neg hw0]
      obtain ⟨t, ht, rfl⟩ : ∃ t : Nat, (1 ≤ t ∧ t ≤ 60) ∧ x = nI t := ⟨x.toInt.toNat, by omega, nI_to (by omega)⟩
      obtain ⟨s0, hs0, rfl⟩ : ∃ s0 : Nat, s0 < 2147483648 ∧ y = nI s0 := ⟨y.toInt.toNat, by have := y.toInt_lt; omega, nI_to hy⟩
      rw [show (nI t).toInt.toNat = t by rw [nI_toInt (by omega)]; rfl, show (nI s0).toInt.toNat = s0 by rw [nI_toInt (by omega)]; rfl]
      have fin : ∀ (D : DS) (u5 u6 u7 u8 : Value), (∀ v, v < w → D.2.2.2.1 v < 1000) → WP 2 0 0 130 232 [.ref m, .int (nI t), .int (nI s0), .int z, .int (nI D.2.1), u5, u6, u7, u8] [] (put σ m (m + 1) (mF m pm sta rdm (nI stN) me (nI trN) mi slr (nI w) cha bm bc bl bch ask (nI D.1) ks kw kt km hsh) (mA apg (arr 6 D.2.2.2.2) afo (arrI 15 (rw3 ki sr to)) (arr 5 le) (arr 5 fi) (arr 5 D.2.2.1) (arr 5 D.2.2.2.1) awh aod abo aof ama (arr 6 de) akr akl akf akd ako)) (some (.int (r_days w D z))) (put σ m (m + 1) (mF m pm sta rdm (nI stN) me (nI trN) mi slr (nI w) cha bm bc bl bch ask (nI D.1) ks kw kt km hsh) (mA apg (arr 6 de) afo (arrI 15 (rw3 ki sr to)) (arr 5 le) (arr 5 fi) (arr 5 D.2.2.1) (arr 5 D.2.2.2.1) awh aod abo aof ama (arr 6 de) akr akl akf akd ako)) := by
        intro D u5 u6 u7 u8 hD
        have sumL : ∀ (n k : Nat), k + n = w → WP 2 0 0 130 238 [.ref m, .int (nI t), .int (nI s0), .int z, .int (nI D.2.1), .int (nI (smN D.2.2.2.1 0 k)), .int (nI k), u7, u8] [] (put σ m (m + 1) (mF m pm sta rdm (nI stN) me (nI trN) mi slr (nI w) cha bm bc bl bch ask (nI D.1) ks kw kt km hsh) (mA apg (arr 6 D.2.2.2.2) afo (arrI 15 (rw3 ki sr to)) (arr 5 le) (arr 5 fi) (arr 5 D.2.2.1) (arr 5 D.2.2.2.1) awh aod abo aof ama (arr 6 de) akr akl akf akd ako)) (some (.int (r_days w D z))) (put σ m (m + 1) (mF m pm sta rdm (nI stN) me (nI trN) mi slr (nI w) cha bm bc bl bch ask (nI D.1) ks kw kt km hsh) (mA apg (arr 6 de) afo (arrI 15 (rw3 ki sr to)) (arr 5 le) (arr 5 fi) (arr 5 D.2.2.1) (arr 5 D.2.2.2.1) awh aod abo aof ama (arr 6 de) akr akl akf akd ako)) := by
          intro n
          induction n with
          | zero =>
            intro k hk'
            have e : k = w := by omega
            subst e
            refine wp_iload_6 d130_238 ?_
            refine wp_aload_0 d130_240 ?_
            refine wp_getP d130_241 (Nat.le_of_ble_eq_true rfl) kM.1 rfl ?_
            refine wp_icmp_geN d130_244 (by decide) (by omega) (by omega) (fun h244 => ?_) (fun hq => absurd hq (by omega))
            refine wp_aload_0 d130_265 ?_
            refine wp_getP d130_266 (Nat.le_of_ble_eq_true rfl) kM.1 rfl ?_
            refine wp_aload_0 d130_269 ?_
            refine wp_getP d130_270 (Nat.le_of_ble_eq_true rfl) kM.1 rfl ?_
            refine wp_S2v d130_273 rfl (m_copyP (i := 13) (j := 1) (kM.2 _ (Nat.le_of_ble_eq_true rfl)) (kM.2 _ (Nat.le_of_ble_eq_true rfl)) (by decide) rfl rfl (by decide)) (Nat.le_of_ble_eq_true rfl) (Nat.le_of_ble_eq_true rfl) ?_
            unfold r_days
            refine wp_iload_3 d130_276 ?_
            refine wp_if_ne d130_277 (by decide) (fun h277 => ?_) (fun h277 => ?_)
            · rw [if_neg (fun q => h277 (eq_0.mpr q))]
              refine wp_iload_3 d130_285 ?_
              refine wp_iconst d130_286 ic_1 ?_
              refine wp_icmp_ne d130_287 (by decide) (fun h287 => ?_) (fun h287 => ?_)
              · rw [if_neg (fun q => h287 (eq_1.mpr q))]
                refine wp_aload_0 d130_295 ?_
                refine wp_getP d130_296 (Nat.le_of_ble_eq_true rfl) kM.1 rfl ?_
                exact wp_iret d130_299 rfl rfl rfl
              · rw [if_pos (eq_1.mp h287)]
                refine wp_iload_5 d130_290 ?_
                refine wp_goto d130_292 (by decide) ?_
                exact wp_iret d130_299 rfl rfl rfl
            · rw [if_pos (eq_0.mp h277)]
              refine wp_iload_4 d130_280 ?_
              refine wp_goto d130_282 (by decide) ?_
              exact wp_iret d130_299 rfl rfl rfl
          | succ n ih =>
            intro k hk'
            refine wp_iload_6 d130_238 ?_
            refine wp_aload_0 d130_240 ?_
            refine wp_getP d130_241 (Nat.le_of_ble_eq_true rfl) kM.1 rfl ?_
            refine wp_icmp_geN d130_244 (by decide) (by omega) (by omega) (fun hq => absurd hq (by omega)) (fun h244 => ?_)
            refine wp_iload_5 d130_247 ?_
            refine wp_aload_0 d130_249 ?_
            refine wp_getP d130_250 (Nat.le_of_ble_eq_true rfl) kM.1 rfl ?_
            refine wp_iload_6 d130_253 ?_
            refine wp_aldP d130_255 (kM.2 _ (Nat.le_of_ble_eq_true rfl)) rfl (by omega) (by decide) ?_
            refine wp_iaddN d130_256 ?_
            refine wp_istore_5 d130_257 (Nat.le_of_ble_eq_true rfl) rfl ?_
            refine wp_iinc_6 d130_259 (Nat.le_of_ble_eq_true rfl) rfl (inc1 _) ?_
            refine wp_goto d130_262 (by decide) ?_
            have := ih (k + 1) (by omega)
            rw [show smN D.2.2.2.1 0 (k + 1) = smN D.2.2.2.1 0 k + D.2.2.2.1 k by simp [smN]] at this
            exact this
        refine wp_iconst d130_232 ic_0 ?_
        refine wp_istore_5 d130_233 (Nat.le_of_ble_eq_true rfl) rfl ?_
        refine wp_iconst d130_235 ic_0 ?_
        refine wp_istore_6 d130_236 (Nat.le_of_ble_eq_true rfl) rfl ?_
        exact sumL w 0 (by omega)
      have deep : ∀ (i c k s dp : Nat) (f l2 d2 : Nat → Nat) (u5 u6 : Value) (r : Option Value) (σ' : Sto), c + i = stN → k ≤ c → dp < 9 → (∀ j, j < stN → d2 j < 100) → WP 2 0 0 130 226 [.ref m, .int (nI t), .int (nI s0), .int z, .int (nI k), u5, u6, .int (nI dp), .int (nI stN)] [] (put σ m (m + 1) (mF m pm sta rdm (nI stN) me (nI trN) mi slr (nI w) cha bm bc bl bch ask (nI s) ks kw kt km hsh) (mA apg (arr 6 (snN k stN dp d2)) afo (arrI 15 (rw3 ki sr to)) (arr 5 le) (arr 5 fi) (arr 5 f) (arr 5 l2) awh aod abo aof ama (arr 6 de) akr akl akf akd ako)) r σ' → WP 2 0 0 130 174 [.ref m, .int (nI t), .int (nI s0), .int z, .int (nI k), u5, u6, .int (nI dp), .int (nI c)] [] (put σ m (m + 1) (mF m pm sta rdm (nI stN) me (nI trN) mi slr (nI w) cha bm bc bl bch ask (nI s) ks kw kt km hsh) (mA apg (arr 6 (snP k stN dp c d2)) afo (arrI 15 (rw3 ki sr to)) (arr 5 le) (arr 5 fi) (arr 5 f) (arr 5 l2) awh aod abo aof ama (arr 6 de) akr akl akf akd ako)) r σ' := by
        intro i
        induction i with
        | zero =>
          intro c k s dp f l2 d2 u5 u6 r σ' hc hkc hdp hd2 K
          have e : c = stN := by omega
          subst e
          rw [show snP k c dp c d2 = snN k c dp d2 from rfl]
          refine wp_iload_8 d130_174 ?_
          refine wp_aload_0 d130_176 ?_
          refine wp_getP d130_177 (Nat.le_of_ble_eq_true rfl) kM.1 rfl ?_
          refine wp_icmp_geN d130_180 (by decide) (by omega) (by omega) (fun h180 => ?_) (fun hq => absurd hq (by omega))
          exact K
        | succ i ih =>
          intro c k s dp f l2 d2 u5 u6 r σ' hc hkc hdp hd2 K
          have b1 := hd2 c (by omega)
          have b2 : snP k stN dp c d2 c = d2 c := by unfold snP; rw [if_neg (by omega)]
          refine wp_iload_8 d130_174 ?_
          refine wp_aload_0 d130_176 ?_
          refine wp_getP d130_177 (Nat.le_of_ble_eq_true rfl) kM.1 rfl ?_
          refine wp_icmp_geN d130_180 (by decide) (by omega) (by omega) (fun hq => absurd hq (by omega)) (fun h180 => ?_)
          refine wp_aload_0 d130_183 ?_
          refine wp_getP d130_184 (Nat.le_of_ble_eq_true rfl) kM.1 rfl ?_
          refine wp_iload_8 d130_187 ?_
          refine wp_aload_0 d130_189 ?_
          refine wp_getP d130_190 (Nat.le_of_ble_eq_true rfl) kM.1 rfl ?_
          refine wp_iload_8 d130_193 ?_
          refine wp_aldP d130_195 (kM.2 _ (Nat.le_of_ble_eq_true rfl)) rfl (by omega) (by decide) ?_
          rw [b2]
          refine wp_iload_7 d130_196 ?_
          refine wp_iaddN d130_198 ?_
          refine wp_bipush d130_199 bi_9 ?_
          refine wp_icmp_leN d130_201 (by decide) (by omega) (by omega) (fun h201 => ?_) (fun h201 => ?_)
          · refine wp_aload_0 d130_209 ?_
            refine wp_getP d130_210 (Nat.le_of_ble_eq_true rfl) kM.1 rfl ?_
            refine wp_iload_8 d130_213 ?_
            refine wp_aldP d130_215 (kM.2 _ (Nat.le_of_ble_eq_true rfl)) rfl (by omega) (by decide) ?_
            rw [b2]
            refine wp_iload_7 d130_216 ?_
            refine wp_iaddN d130_218 ?_
            refine wp_astN d130_219 (kM.2 _ (Nat.le_of_ble_eq_true rfl)) rfl (by omega) (by decide) ?_
            refine wp_iinc_8 d130_220 (Nat.le_of_ble_eq_true rfl) rfl (inc1 _) ?_
            refine wp_goto d130_223 (by decide) ?_
            have := ih (c + 1) k s dp f l2 d2 u5 u6 r σ' (by omega) (by omega) hdp hd2 K
            rw [show snP k stN dp (c + 1) d2 = up (snP k stN dp c d2) c (d2 c + dp) by funext j; unfold snP up; grind] at this
            exact this
          · refine wp_bipush d130_204 bi_9 ?_
            refine wp_goto d130_206 (by decide) ?_
            refine wp_astN d130_219 (kM.2 _ (Nat.le_of_ble_eq_true rfl)) rfl (by omega) (by decide) ?_
            refine wp_iinc_8 d130_220 (Nat.le_of_ble_eq_true rfl) rfl (inc1 _) ?_
            refine wp_goto d130_223 (by decide) ?_
            have := ih (c + 1) k s dp f l2 d2 u5 u6 r σ' (by omega) (by omega) hdp hd2 K
            rw [show snP k stN dp (c + 1) d2 = up (snP k stN dp c d2) c 9 by funext j; unfold snP up; grind] at this
            exact this
      have loop : ∀ (n c s k : Nat) (f l2 d2 : Nat → Nat) (u6 u7 u8 : Value), c + n = t → s < 2147483648 → k ≤ stN → PF w f → (∀ v, v < w → l2 v < 1000) → (∀ j, j < stN → d2 j < 100) → ∃ (nf' nl' : Nat → Nat) (sn' : Int32), WP 2 0 0 130 70 [.ref m, .int (nI t), .int (nI s0), .int z, .int (nI k), .int (nI c), u6, u7, u8] [] (put σ m (m + 1) (mF m pm sta rdm (nI stN) me (nI trN) mi slr (nI w) cha bm bc bl bch ask (nI s) ks kw kt km hsh) (mA apg (arr 6 d2) afo (arrI 15 (rw3 ki sr to)) (arr 5 le) (arr 5 fi) (arr 5 f) (arr 5 l2) awh aod abo aof ama (arr 6 de) akr akl akf akd ako)) (some (.int (r_days w (dyN w stN ki sr n (s, k, f, l2, d2)) z))) (put σ m (m + 1) (mF m pm sta rdm (nI stN) me (nI trN) mi slr (nI w) cha bm bc bl bch ask (sn') ks kw kt km hsh) (mA apg (arr 6 de) afo (arrI 15 (rw3 ki sr to)) (arr 5 le) (arr 5 fi) (arr 5 nf') (arr 5 nl') awh aod abo aof ama (arr 6 de) akr akl akf akd ako)) := by
        intro n
        induction n with
        | zero =>
          intro c s k f l2 d2 u6 u7 u8 hc hs' hk' hpf hl2 hd2
          refine ⟨f, l2, nI s, ?_⟩
          refine wp_iload_5 d130_70 ?_
          refine wp_iload_1 d130_72 ?_
          refine wp_icmp_geN d130_73 (by decide) (by omega) (by omega) (fun h73 => ?_) (fun hq => absurd hq (by omega))
          exact fin (s, k, f, l2, d2) _ _ _ _ hl2
        | succ n ih =>
          intro c s k f l2 d2 u6 u7 u8 hc hs' hk' hpf hl2 hd2
          have hx1 := nxS_lt s
          have hx2 := nxS_lt (nxS s)
          have hm5 : nxS s / 65536 % 5 < 5 := Nat.mod_lt _ (by decide)
          have hm3 : nxS (nxS s) / 65536 % 3 < 3 := Nat.mod_lt _ (by decide)
          have eD : dyN w stN ki sr (n + 1) (s, k, f, l2, d2) = dyN w stN ki sr n (dy1 w stN ki sr (s, k, f, l2, d2)) := rfl
          rw [eD]
          unfold dy1
          simp only
          generalize hq5 : nxS s / 65536 % 5 = q5 at *
          generalize hq3 : nxS (nxS s) / 65536 % 3 = q3 at *
          by_cases c2 : q5 < 2
          · rw [if_pos c2]
            by_cases cc : k < stN ∧ canN ki f l2 (d2 k) w = true
            · rw [if_pos cc]
              obtain ⟨nf', nl', sn', K⟩ := ih (c + 1) (nxS s) (k + 1) f (trS ki f (d2 k) l2 w) d2 (.int (nI q5)) u7 u8 (by omega) hx1 (by omega) hpf (fun v hv => Nat.lt_of_le_of_lt trS_le (hl2 v hv)) hd2
              refine ⟨nf', nl', sn', ?_⟩
              have hdk := hd2 k (by omega)
              refine wp_iload_5 d130_70 ?_
              refine wp_iload_1 d130_72 ?_
              refine wp_icmp_geN d130_73 (by decide) (by omega) (by omega) (fun hq => absurd hq (by omega)) (fun h73 => ?_)
              refine wp_aload_0 d130_76 ?_
              refine wp_iconst d130_77 ic_5 ?_
              refine wp_V1r d130_78 kM.1 ((m_draw kM hs' (by decide) (by decide))) (Nat.le_of_ble_eq_true rfl) (Nat.le_of_ble_eq_true rfl) ?_
              rw [hq5]
              refine wp_istore_6 d130_81 (Nat.le_of_ble_eq_true rfl) rfl ?_
              refine wp_iload_6 d130_83 ?_
              refine wp_iconst d130_85 ic_2 ?_
              refine wp_icmp_geN d130_86 (by decide) (by omega) (by omega) (fun hq => absurd hq (by omega)) (fun h86 => ?_)
              refine wp_iload_4 d130_89 ?_
              refine wp_aload_0 d130_91 ?_
              refine wp_getP d130_92 (Nat.le_of_ble_eq_true rfl) kM.1 rfl ?_
              refine wp_icmp_geN d130_95 (by decide) (by omega) (by omega) (fun hq => absurd hq (by omega)) (fun h95 => ?_)
              refine wp_aload_0 d130_98 ?_
              refine wp_aload_0 d130_99 ?_
              refine wp_getP d130_100 (Nat.le_of_ble_eq_true rfl) kM.1 rfl ?_
              refine wp_iload_4 d130_103 ?_
              refine wp_aldP d130_105 (kM.2 _ (Nat.le_of_ble_eq_true rfl)) rfl (by omega) (by decide) ?_
              refine wp_V1r d130_106 kM.1 ((m_canTread kM hw5 hpf.1 hk hl2 hdk)) (Nat.le_of_ble_eq_true rfl) (Nat.le_of_ble_eq_true rfl) ?_
              refine wp_if_eqB d130_109 (by decide) (fun hq => absurd hq (fun hq => absurd (cc.2.symm.trans hq) (by decide))) (fun h109 => ?_)
              refine wp_aload_0 d130_112 ?_
              refine wp_aload_0 d130_113 ?_
              refine wp_getP d130_114 (Nat.le_of_ble_eq_true rfl) kM.1 rfl ?_
              refine wp_iload_4 d130_117 ?_
              refine wp_aldP d130_119 (kM.2 _ (Nat.le_of_ble_eq_true rfl)) rfl (by omega) (by decide) ?_
              refine wp_V1v d130_120 kM.1 ((m_treads kM hw5 hpf hk cc.2 hdk)) (Nat.le_of_ble_eq_true rfl) (Nat.le_of_ble_eq_true rfl) ?_
              refine wp_iinc_4 d130_123 (Nat.le_of_ble_eq_true rfl) rfl (inc1 _) ?_
              refine wp_goto d130_126 (by decide) ?_
              refine wp_iinc_5 d130_226 (Nat.le_of_ble_eq_true rfl) rfl (inc1 _) ?_
              refine wp_goto d130_229 (by decide) ?_
              exact K
            · rw [if_neg cc]
              obtain ⟨nf', nl', sn', K⟩ := ih (c + 1) (nxS s) k f l2 d2 (.int (nI q5)) u7 u8 (by omega) hx1 (by omega) hpf hl2 hd2
              refine ⟨nf', nl', sn', ?_⟩
              have rest : WP 2 0 0 130 129 [.ref m, .int (nI t), .int (nI s0), .int z, .int (nI k), .int (nI c), .int (nI q5), u7, u8] [] (put σ m (m + 1) (mF m pm sta rdm (nI stN) me (nI trN) mi slr (nI w) cha bm bc bl bch ask (nI (nxS s)) ks kw kt km hsh) (mA apg (arr 6 d2) afo (arrI 15 (rw3 ki sr to)) (arr 5 le) (arr 5 fi) (arr 5 f) (arr 5 l2) awh aod abo aof ama (arr 6 de) akr akl akf akd ako)) (some (.int (r_days w (dyN w stN ki sr n (nxS s, k, f, l2, d2)) z))) (put σ m (m + 1) (mF m pm sta rdm (nI stN) me (nI trN) mi slr (nI w) cha bm bc bl bch ask (sn') ks kw kt km hsh) (mA apg (arr 6 de) afo (arrI 15 (rw3 ki sr to)) (arr 5 le) (arr 5 fi) (arr 5 nf') (arr 5 nl') awh aod abo aof ama (arr 6 de) akr akl akf akd ako)) := by
                refine wp_iload_6 d130_129 ?_
                refine wp_iconst d130_131 ic_2 ?_
                refine wp_icmp_neN d130_132 (by decide) (by omega) (by omega) (fun h132 => ?_) (fun hq => absurd hq (by omega))
                refine wp_iload_6 d130_142 ?_
                refine wp_iconst d130_144 ic_3 ?_
                refine wp_icmp_neN d130_145 (by decide) (by omega) (by omega) (fun h145 => ?_) (fun hq => absurd hq (by omega))
                refine wp_iload_6 d130_157 ?_
                refine wp_iconst d130_159 ic_4 ?_
                refine wp_icmp_neN d130_160 (by decide) (by omega) (by omega) (fun h160 => ?_) (fun hq => absurd hq (by omega))
                refine wp_iinc_5 d130_226 (Nat.le_of_ble_eq_true rfl) rfl (inc1 _) ?_
                refine wp_goto d130_229 (by decide) ?_
                exact K
              refine wp_iload_5 d130_70 ?_
              refine wp_iload_1 d130_72 ?_
              refine wp_icmp_geN d130_73 (by decide) (by omega) (by omega) (fun hq => absurd hq (by omega)) (fun h73 => ?_)
              refine wp_aload_0 d130_76 ?_
              refine wp_iconst d130_77 ic_5 ?_
              refine wp_V1r d130_78 kM.1 ((m_draw kM hs' (by decide) (by decide))) (Nat.le_of_ble_eq_true rfl) (Nat.le_of_ble_eq_true rfl) ?_
              rw [hq5]
              refine wp_istore_6 d130_81 (Nat.le_of_ble_eq_true rfl) rfl ?_
              refine wp_iload_6 d130_83 ?_
              refine wp_iconst d130_85 ic_2 ?_
              refine wp_icmp_geN d130_86 (by decide) (by omega) (by omega) (fun hq => absurd hq (by omega)) (fun h86 => ?_)
              refine wp_iload_4 d130_89 ?_
              refine wp_aload_0 d130_91 ?_
              refine wp_getP d130_92 (Nat.le_of_ble_eq_true rfl) kM.1 rfl ?_
              refine wp_icmp_geN d130_95 (by decide) (by omega) (by omega) (fun h95 => ?_) (fun h95 => ?_)
              · exact rest
              · have hdk := hd2 k (by omega)
                refine wp_aload_0 d130_98 ?_
                refine wp_aload_0 d130_99 ?_
                refine wp_getP d130_100 (Nat.le_of_ble_eq_true rfl) kM.1 rfl ?_
                refine wp_iload_4 d130_103 ?_
                refine wp_aldP d130_105 (kM.2 _ (Nat.le_of_ble_eq_true rfl)) rfl (by omega) (by decide) ?_
                refine wp_V1r d130_106 kM.1 ((m_canTread kM hw5 hpf.1 hk hl2 hdk)) (Nat.le_of_ble_eq_true rfl) (Nat.le_of_ble_eq_true rfl) ?_
                refine wp_if_eqB d130_109 (by decide) (fun h109 => ?_) (fun h109 => ?_)
                · exact rest
                · exact absurd ⟨h95, h109⟩ cc
          · rw [if_neg c2]
            by_cases c3 : q5 = 2
            · rw [if_pos c3]
              obtain ⟨nf', nl', sn', K⟩ := ih (c + 1) (nxS s) k (rot w f) l2 d2 (.int (nI q5)) u7 u8 (by omega) hx1 (by omega) (PF_rot hpf) hl2 hd2
              refine ⟨nf', nl', sn', ?_⟩
              refine wp_iload_5 d130_70 ?_
              refine wp_iload_1 d130_72 ?_
              refine wp_icmp_geN d130_73 (by decide) (by omega) (by omega) (fun hq => absurd hq (by omega)) (fun h73 => ?_)
              refine wp_aload_0 d130_76 ?_
              refine wp_iconst d130_77 ic_5 ?_
              refine wp_V1r d130_78 kM.1 ((m_draw kM hs' (by decide) (by decide))) (Nat.le_of_ble_eq_true rfl) (Nat.le_of_ble_eq_true rfl) ?_
              rw [hq5]
              refine wp_istore_6 d130_81 (Nat.le_of_ble_eq_true rfl) rfl ?_
              refine wp_iload_6 d130_83 ?_
              refine wp_iconst d130_85 ic_2 ?_
              refine wp_icmp_geN d130_86 (by decide) (by omega) (by omega) (fun h86 => ?_) (fun hq => absurd hq (by omega))
              refine wp_iload_6 d130_129 ?_
              refine wp_iconst d130_131 ic_2 ?_
              refine wp_icmp_neN d130_132 (by decide) (by omega) (by omega) (fun hq => absurd hq (by omega)) (fun h132 => ?_)
              refine wp_aload_0 d130_135 ?_
              refine wp_V0v d130_136 kM.1 ((m_turns kM (by omega) hw5)) (Nat.le_of_ble_eq_true rfl) (Nat.le_of_ble_eq_true rfl) ?_
              refine wp_goto d130_139 (by decide) ?_
              refine wp_iinc_5 d130_226 (Nat.le_of_ble_eq_true rfl) rfl (inc1 _) ?_
              refine wp_goto d130_229 (by decide) ?_
              exact K
            · rw [if_neg c3]
              by_cases c4 : q5 = 3
              · rw [if_pos c4]
                obtain ⟨nf', nl', sn', K⟩ := ih (c + 1) (nxS s) k f (rsN w sr l2) d2 (.int (nI q5)) (.int (nI (rcN sr l2 w))) u8 (by omega) hx1 (by omega) hpf (rsN_lt hs hl2) hd2
                refine ⟨nf', nl', sn', ?_⟩
                refine wp_iload_5 d130_70 ?_
                refine wp_iload_1 d130_72 ?_
                refine wp_icmp_geN d130_73 (by decide) (by omega) (by omega) (fun hq => absurd hq (by omega)) (fun h73 => ?_)
                refine wp_aload_0 d130_76 ?_
                refine wp_iconst d130_77 ic_5 ?_
                refine wp_V1r d130_78 kM.1 ((m_draw kM hs' (by decide) (by decide))) (Nat.le_of_ble_eq_true rfl) (Nat.le_of_ble_eq_true rfl) ?_
                rw [hq5]
                refine wp_istore_6 d130_81 (Nat.le_of_ble_eq_true rfl) rfl ?_
                refine wp_iload_6 d130_83 ?_
                refine wp_iconst d130_85 ic_2 ?_
                refine wp_icmp_geN d130_86 (by decide) (by omega) (by omega) (fun h86 => ?_) (fun hq => absurd hq (by omega))
                refine wp_iload_6 d130_129 ?_
                refine wp_iconst d130_131 ic_2 ?_
                refine wp_icmp_neN d130_132 (by decide) (by omega) (by omega) (fun h132 => ?_) (fun hq => absurd hq (by omega))
                refine wp_iload_6 d130_142 ?_
                refine wp_iconst d130_144 ic_3 ?_
                refine wp_icmp_neN d130_145 (by decide) (by omega) (by omega) (fun hq => absurd hq (by omega)) (fun h145 => ?_)
                refine wp_aload_0 d130_148 ?_
                refine wp_V0r d130_149 kM.1 ((m_restsNow kM hw5 hl2 hs)) (Nat.le_of_ble_eq_true rfl) (Nat.le_of_ble_eq_true rfl) ?_
                refine wp_istore_7 d130_152 (Nat.le_of_ble_eq_true rfl) rfl ?_
                refine wp_goto d130_154 (by decide) ?_
                refine wp_iinc_5 d130_226 (Nat.le_of_ble_eq_true rfl) rfl (inc1 _) ?_
                refine wp_goto d130_229 (by decide) ?_
                exact K
              · rw [if_neg c4]
                obtain ⟨nf', nl', sn', K⟩ := ih (c + 1) (nxS (nxS s)) k f l2 (snN k stN q3 d2) (.int (nI q5)) (.int (nI q3)) (.int (nI stN)) (by omega) hx2 (by omega) hpf hl2 (snN_lt hd2)
                refine ⟨nf', nl', sn', ?_⟩
                refine wp_iload_5 d130_70 ?_
                refine wp_iload_1 d130_72 ?_
                refine wp_icmp_geN d130_73 (by decide) (by omega) (by omega) (fun hq => absurd hq (by omega)) (fun h73 => ?_)
                refine wp_aload_0 d130_76 ?_
                refine wp_iconst d130_77 ic_5 ?_
                refine wp_V1r d130_78 kM.1 ((m_draw kM hs' (by decide) (by decide))) (Nat.le_of_ble_eq_true rfl) (Nat.le_of_ble_eq_true rfl) ?_
                rw [hq5]
                refine wp_istore_6 d130_81 (Nat.le_of_ble_eq_true rfl) rfl ?_
                refine wp_iload_6 d130_83 ?_
                refine wp_iconst d130_85 ic_2 ?_
                refine wp_icmp_geN d130_86 (by decide) (by omega) (by omega) (fun h86 => ?_) (fun hq => absurd hq (by omega))
                refine wp_iload_6 d130_129 ?_
                refine wp_iconst d130_131 ic_2 ?_
                refine wp_icmp_neN d130_132 (by decide) (by omega) (by omega) (fun h132 => ?_) (fun hq => absurd hq (by omega))
                refine wp_iload_6 d130_142 ?_
                refine wp_iconst d130_144 ic_3 ?_
                refine wp_icmp_neN d130_145 (by decide) (by omega) (by omega) (fun h145 => ?_) (fun hq => absurd hq (by omega))
                refine wp_iload_6 d130_157 ?_
                refine wp_iconst d130_159 ic_4 ?_
                refine wp_icmp_neN d130_160 (by decide) (by omega) (by omega) (fun hq => absurd hq (by omega)) (fun h160 => ?_)
                refine wp_aload_0 d130_163 ?_
                refine wp_iconst d130_164 ic_3 ?_
                refine wp_V1r d130_165 kM.1 ((m_draw kM hx1 (by decide) (by decide))) (Nat.le_of_ble_eq_true rfl) (Nat.le_of_ble_eq_true rfl) ?_
                rw [hq3]
                refine wp_istore_7 d130_168 (Nat.le_of_ble_eq_true rfl) rfl ?_
                refine wp_iload_4 d130_170 ?_
                refine wp_istore_8 d130_172 (Nat.le_of_ble_eq_true rfl) rfl ?_
                have e0 : snP k stN q3 k d2 = d2 := by funext j; unfold snP; rw [if_neg (by omega)]
                have key := fun (r : Option Value) (σ' : Sto) => deep (stN - k) k k (nxS (nxS s)) q3 f l2 d2 (.int (nI c)) (.int (nI q5)) r σ' (by omega) (by omega) (by omega) hd2
                simp only [e0] at key
                refine key _ _ ?_
                refine wp_iinc_5 d130_226 (Nat.le_of_ble_eq_true rfl) rfl (inc1 _) ?_
                refine wp_goto d130_229 (by decide) ?_
                exact K
      obtain ⟨nf', nl', sn', K⟩ := loop t 0 s0 trN fi le de .null .null .null (by omega) hs0 h1 hf hl hd
      refine ⟨nf', nl', de, sn', ?_⟩
      refine pre ?_
      refine wp_aload_0 d130_31 ?_
      refine wp_getP d130_32 (Nat.le_of_ble_eq_true rfl) kM.1 rfl ?_
      refine wp_if_neN d130_35 (by decide) (by omega) (fun h35 => ?_) (fun hq => absurd hq (by omega))
      refine wp_aload_0 d130_41 ?_
      refine wp_getP d130_42 (Nat.le_of_ble_eq_true rfl) kM.1 rfl ?_
      refine wp_aload_0 d130_45 ?_
      refine wp_getP d130_46 (Nat.le_of_ble_eq_true rfl) kM.1 rfl ?_
      refine wp_S2v d130_49 rfl (m_copyP (i := 1) (j := 13) (kM.2 _ (Nat.le_of_ble_eq_true rfl)) (kM.2 _ (Nat.le_of_ble_eq_true rfl)) (by decide) rfl rfl (by decide)) (Nat.le_of_ble_eq_true rfl) (Nat.le_of_ble_eq_true rfl) ?_
      refine wp_aload_0 d130_52 ?_
      refine wp_V0v d130_53 kM.1 ((m_asItIs kM)) (Nat.le_of_ble_eq_true rfl) (Nat.le_of_ble_eq_true rfl) ?_
      refine wp_aload_0 d130_56 ?_
      refine wp_iload_2 d130_57 ?_
      refine wp_putIP d130_58 kM.1 ?_
      refine wp_aload_0 d130_61 ?_
      refine wp_getP d130_62 (Nat.le_of_ble_eq_true rfl) kM.1 rfl ?_
      refine wp_istore_4 d130_65 (Nat.le_of_ble_eq_true rfl) rfl ?_
      refine wp_iconst d130_67 ic_0 ?_
      refine wp_istore_5 d130_68 (Nat.le_of_ble_eq_true rfl) rfl ?_
      exact K
  · refine ⟨nf, nl, sd, sn, ?_⟩
    rw [if_neg hok]
    have out : WP 2 0 0 130 28 [.ref m, .int x, .int y, .int z, .null, .null, .null, .null, .null] [] (put σ m (m + 1) (mF m pm sta rdm (nI stN) me (nI trN) mi slr (nI w) cha bm bc bl bch ask sn ks kw kt km hsh) (mA apg (arr 6 de) afo (arrI 15 (rw3 ki sr to)) (arr 5 le) (arr 5 fi) (arr 5 nf) (arr 5 nl) awh aod abo aof ama (arr 6 sd) akr akl akf akd ako)) (some (.int (-102))) (put σ m (m + 1) (mF m pm sta rdm (nI stN) me (nI trN) mi slr (nI w) cha bm bc bl bch ask sn ks kw kt km hsh) (mA apg (arr 6 de) afo (arrI 15 (rw3 ki sr to)) (arr 5 le) (arr 5 fi) (arr 5 nf) (arr 5 nl) awh aod abo aof ama (arr 6 sd) akr akl akf akd ako)) := by
      refine wp_bipush d130_28 bi_m102 ?_
      exact wp_iret d130_30 rfl rfl rfl
    refine ev_of (L := [(.ref m), (.int x), (.int y), (.int z), .null, .null, .null, .null, .null]) (by decide) rfl (Nat.le_of_ble_eq_true rfl) ?_
    refine wp_iload_1 d130_0 ?_
    refine wp_i2l d130_1 ?_
    refine wp_lconst d130_2 (v := lN 1) rfl ?_
    refine wp_ldc2 d130_3 (by decide) rfl lk_60 ?_
    refine wp_S3r d130_6 rfl ((m_in x (a := 1) (b := 60) (by decide) (by decide))) (Nat.le_of_ble_eq_true rfl) (Nat.le_of_ble_eq_true rfl) ?_
    refine wp_if_eqB d130_9 (by decide) (fun h9 => ?_) (fun h9 => ?_)
    · exact out
    · refine wp_iload_2 d130_12 ?_
      refine wp_if_lt d130_13 (by decide) (fun h13 => ?_) (fun h13 => ?_)
      · exact out
      · refine wp_iload_3 d130_16 ?_
        refine wp_i2l d130_17 ?_
        refine wp_lconst d130_18 (v := lN 0) rfl ?_
        refine wp_ldc2 d130_19 (by decide) rfl lk_2 ?_
        refine wp_S3r d130_22 rfl ((m_in z (a := 0) (b := 2) (by decide) (by decide))) (Nat.le_of_ble_eq_true rfl) (Nat.le_of_ble_eq_true rfl) ?_
        refine wp_if_neB d130_25 (by decide) (fun h25 => ?_) (fun h25 => ?_)
        · exfalso
          have : 0 ≤ y.toInt := by have := mt (lt_nI (x := y) (a := 0) (by decide)).mpr h13; omega
          simp [okD, h9, h25, this] at hok
        · exact out
theorem m_image (kM : KM σ m) {stN : Nat} (h6 : stN ≤ 6) {ro kro : Nat → Int32} {le fi de kl kf kd : Nat → Nat} {fo ko : Nat → Option Nat} : Ev 1 0 0 131 [.ref m] (put σ m (m + 1) (mF m pm sta rdm (nI stN) me tr mi slr wa cha bm bc bl bch ask sn ks kw kt km hsh) (mA apg (arr 6 de) (arO 6 fo) (arrI 15 ro) (arr 5 le) (arr 5 fi) anf anl awh aod abo aof ama asd (arrI 15 kro) (arr 5 kl) (arr 5 kf) (arr 6 kd) (arO 6 ko))) (some (.int (if stN = 0 then -103 else tr))) (put σ m (m + 1) (mF m pm sta rdm (nI stN) me tr mi slr wa cha bm bc bl bch ask sn (if stN = 0 then ks else slr) (if stN = 0 then kw else wa) (if stN = 0 then kt else tr) (if stN = 0 then km else mi) hsh) (mA apg (arr 6 de) (arO 6 fo) (arrI 15 ro) (arr 5 le) (arr 5 fi) anf anl awh aod abo aof ama asd (arrI 15 (if stN = 0 then kro else ro)) (arr 5 (if stN = 0 then kl else le)) (arr 5 (if stN = 0 then kf else fi)) (arr 6 (if stN = 0 then kd else de)) (arO 6 (if stN = 0 then ko else fo)))) := by
  refine ev_of (L := [(.ref m)]) (by decide) rfl (Nat.le_of_ble_eq_true rfl) ?_
  refine wp_aload_0 d131_0 ?_
  refine wp_V0r d131_1 kM.1 ((m_lacks kM h6)) (Nat.le_of_ble_eq_true rfl) (Nat.le_of_ble_eq_true rfl) ?_
  refine wp_if_eqB d131_4 (by decide) (fun h4 => ?_) (fun h4 => ?_)
  · have h0 : ¬ stN = 0 := by simpa using h4
    simp only [h0, if_false]
    refine wp_aload_0 d131_10 ?_
    refine wp_getP d131_11 (Nat.le_of_ble_eq_true rfl) kM.1 rfl ?_
    refine wp_aload_0 d131_14 ?_
    refine wp_getP d131_15 (Nat.le_of_ble_eq_true rfl) kM.1 rfl ?_
    refine wp_S2v d131_18 rfl ((m_copyP (i := 3) (j := 14) (kM.2 _ (Nat.le_of_ble_eq_true rfl)) (kM.2 _ (Nat.le_of_ble_eq_true rfl)) (by decide) rfl rfl (by decide))) (Nat.le_of_ble_eq_true rfl) (Nat.le_of_ble_eq_true rfl) ?_
    refine wp_aload_0 d131_21 ?_
    refine wp_getP d131_22 (Nat.le_of_ble_eq_true rfl) kM.1 rfl ?_
    refine wp_aload_0 d131_25 ?_
    refine wp_getP d131_26 (Nat.le_of_ble_eq_true rfl) kM.1 rfl ?_
    refine wp_S2v d131_29 rfl ((m_copyP (i := 4) (j := 15) (kM.2 _ (Nat.le_of_ble_eq_true rfl)) (kM.2 _ (Nat.le_of_ble_eq_true rfl)) (by decide) rfl rfl (by decide))) (Nat.le_of_ble_eq_true rfl) (Nat.le_of_ble_eq_true rfl) ?_
    refine wp_aload_0 d131_32 ?_
    refine wp_getP d131_33 (Nat.le_of_ble_eq_true rfl) kM.1 rfl ?_
    refine wp_aload_0 d131_36 ?_
    refine wp_getP d131_37 (Nat.le_of_ble_eq_true rfl) kM.1 rfl ?_
    refine wp_S2v d131_40 rfl ((m_copyP (i := 5) (j := 16) (kM.2 _ (Nat.le_of_ble_eq_true rfl)) (kM.2 _ (Nat.le_of_ble_eq_true rfl)) (by decide) rfl rfl (by decide))) (Nat.le_of_ble_eq_true rfl) (Nat.le_of_ble_eq_true rfl) ?_
    refine wp_aload_0 d131_43 ?_
    refine wp_getP d131_44 (Nat.le_of_ble_eq_true rfl) kM.1 rfl ?_
    refine wp_aload_0 d131_47 ?_
    refine wp_getP d131_48 (Nat.le_of_ble_eq_true rfl) kM.1 rfl ?_
    refine wp_S2v d131_51 rfl ((m_copyP (i := 1) (j := 17) (kM.2 _ (Nat.le_of_ble_eq_true rfl)) (kM.2 _ (Nat.le_of_ble_eq_true rfl)) (by decide) rfl rfl (by decide))) (Nat.le_of_ble_eq_true rfl) (Nat.le_of_ble_eq_true rfl) ?_
    refine wp_aload_0 d131_54 ?_
    refine wp_getP d131_55 (Nat.le_of_ble_eq_true rfl) kM.1 rfl ?_
    refine wp_aload_0 d131_58 ?_
    refine wp_getP d131_59 (Nat.le_of_ble_eq_true rfl) kM.1 rfl ?_
    refine wp_S2v d131_62 rfl ((m_copyP (i := 2) (j := 18) (kM.2 _ (Nat.le_of_ble_eq_true rfl)) (kM.2 _ (Nat.le_of_ble_eq_true rfl)) (by decide) rfl rfl (by decide))) (Nat.le_of_ble_eq_true rfl) (Nat.le_of_ble_eq_true rfl) ?_
    refine wp_aload_0 d131_65 ?_
    refine wp_aload_0 d131_66 ?_
    refine wp_getP d131_67 (Nat.le_of_ble_eq_true rfl) kM.1 rfl ?_
    refine wp_putIP d131_70 kM.1 ?_
    refine wp_aload_0 d131_73 ?_
    refine wp_aload_0 d131_74 ?_
    refine wp_getP d131_75 (Nat.le_of_ble_eq_true rfl) kM.1 rfl ?_
    refine wp_putIP d131_78 kM.1 ?_
    refine wp_aload_0 d131_81 ?_
    refine wp_aload_0 d131_82 ?_
    refine wp_getP d131_83 (Nat.le_of_ble_eq_true rfl) kM.1 rfl ?_
    refine wp_putIP d131_86 kM.1 ?_
    refine wp_aload_0 d131_89 ?_
    refine wp_aload_0 d131_90 ?_
    refine wp_getP d131_91 (Nat.le_of_ble_eq_true rfl) kM.1 rfl ?_
    refine wp_putIP d131_94 kM.1 ?_
    refine wp_aload_0 d131_97 ?_
    refine wp_getP d131_98 (Nat.le_of_ble_eq_true rfl) kM.1 rfl ?_
    exact wp_iret d131_101 rfl rfl rfl
  · have h0 : stN = 0 := by simpa using h4
    simp only [h0, if_true]
    refine wp_bipush d131_7 bi_m103 ?_
    exact wp_iret d131_9 rfl rfl rfl
theorem m_restore (kM : KM σ m) {ro kro : Nat → Int32} {le fi de kl kf kd : Nat → Nat} {fo ko : Nat → Option Nat} : Ev 1 0 0 132 [.ref m] (put σ m (m + 1) (mF m pm sta rdm st me tr mi slr wa cha bm bc bl bch ask sn ks kw kt km hsh) (mA apg (arr 6 de) (arO 6 fo) (arrI 15 ro) (arr 5 le) (arr 5 fi) anf anl awh aod abo aof ama asd (arrI 15 kro) (arr 5 kl) (arr 5 kf) (arr 6 kd) (arO 6 ko))) (some (.int (if ks = slr then kt else -103))) (put σ m (m + 1) (mF m pm sta rdm st me (if ks = slr then kt else tr) (if ks = slr then km else mi) slr (if ks = slr then kw else wa) cha bm bc bl bch ask sn ks kw kt km hsh) (mA apg (arr 6 (if ks = slr then kd else de)) (arO 6 (if ks = slr then ko else fo)) (arrI 15 (if ks = slr then kro else ro)) (arr 5 (if ks = slr then kl else le)) (arr 5 (if ks = slr then kf else fi)) anf anl awh aod abo aof ama asd (arrI 15 kro) (arr 5 kl) (arr 5 kf) (arr 6 kd) (arO 6 ko))) := by
  refine ev_of (L := [(.ref m)]) (by decide) rfl (Nat.le_of_ble_eq_true rfl) ?_
  refine wp_aload_0 d132_0 ?_
  refine wp_getP d132_1 (Nat.le_of_ble_eq_true rfl) kM.1 rfl ?_
  refine wp_aload_0 d132_4 ?_
  refine wp_getP d132_5 (Nat.le_of_ble_eq_true rfl) kM.1 rfl ?_
  refine wp_icmp_eq d132_8 (by decide) (fun h8 => ?_) (fun h8 => ?_)
  · simp only [h8, if_true]
    refine wp_aload_0 d132_14 ?_
    refine wp_getP d132_15 (Nat.le_of_ble_eq_true rfl) kM.1 rfl ?_
    refine wp_aload_0 d132_18 ?_
    refine wp_getP d132_19 (Nat.le_of_ble_eq_true rfl) kM.1 rfl ?_
    refine wp_S2v d132_22 rfl ((m_copyP (i := 14) (j := 3) (kM.2 _ (Nat.le_of_ble_eq_true rfl)) (kM.2 _ (Nat.le_of_ble_eq_true rfl)) (by decide) rfl rfl (by decide))) (Nat.le_of_ble_eq_true rfl) (Nat.le_of_ble_eq_true rfl) ?_
    refine wp_aload_0 d132_25 ?_
    refine wp_getP d132_26 (Nat.le_of_ble_eq_true rfl) kM.1 rfl ?_
    refine wp_aload_0 d132_29 ?_
    refine wp_getP d132_30 (Nat.le_of_ble_eq_true rfl) kM.1 rfl ?_
    refine wp_S2v d132_33 rfl ((m_copyP (i := 15) (j := 4) (kM.2 _ (Nat.le_of_ble_eq_true rfl)) (kM.2 _ (Nat.le_of_ble_eq_true rfl)) (by decide) rfl rfl (by decide))) (Nat.le_of_ble_eq_true rfl) (Nat.le_of_ble_eq_true rfl) ?_
    refine wp_aload_0 d132_36 ?_
    refine wp_getP d132_37 (Nat.le_of_ble_eq_true rfl) kM.1 rfl ?_
    refine wp_aload_0 d132_40 ?_
    refine wp_getP d132_41 (Nat.le_of_ble_eq_true rfl) kM.1 rfl ?_
    refine wp_S2v d132_44 rfl ((m_copyP (i := 16) (j := 5) (kM.2 _ (Nat.le_of_ble_eq_true rfl)) (kM.2 _ (Nat.le_of_ble_eq_true rfl)) (by decide) rfl rfl (by decide))) (Nat.le_of_ble_eq_true rfl) (Nat.le_of_ble_eq_true rfl) ?_
    refine wp_aload_0 d132_47 ?_
    refine wp_getP d132_48 (Nat.le_of_ble_eq_true rfl) kM.1 rfl ?_
    refine wp_aload_0 d132_51 ?_
    refine wp_getP d132_52 (Nat.le_of_ble_eq_true rfl) kM.1 rfl ?_
    refine wp_S2v d132_55 rfl ((m_copyP (i := 17) (j := 1) (kM.2 _ (Nat.le_of_ble_eq_true rfl)) (kM.2 _ (Nat.le_of_ble_eq_true rfl)) (by decide) rfl rfl (by decide))) (Nat.le_of_ble_eq_true rfl) (Nat.le_of_ble_eq_true rfl) ?_
    refine wp_aload_0 d132_58 ?_
    refine wp_getP d132_59 (Nat.le_of_ble_eq_true rfl) kM.1 rfl ?_
    refine wp_aload_0 d132_62 ?_
    refine wp_getP d132_63 (Nat.le_of_ble_eq_true rfl) kM.1 rfl ?_
    refine wp_S2v d132_66 rfl ((m_copyP (i := 18) (j := 2) (kM.2 _ (Nat.le_of_ble_eq_true rfl)) (kM.2 _ (Nat.le_of_ble_eq_true rfl)) (by decide) rfl rfl (by decide))) (Nat.le_of_ble_eq_true rfl) (Nat.le_of_ble_eq_true rfl) ?_
    refine wp_aload_0 d132_69 ?_
    refine wp_aload_0 d132_70 ?_
    refine wp_getP d132_71 (Nat.le_of_ble_eq_true rfl) kM.1 rfl ?_
    refine wp_putIP d132_74 kM.1 ?_
    refine wp_aload_0 d132_77 ?_
    refine wp_aload_0 d132_78 ?_
    refine wp_getP d132_79 (Nat.le_of_ble_eq_true rfl) kM.1 rfl ?_
    refine wp_putIP d132_82 kM.1 ?_
    refine wp_aload_0 d132_85 ?_
    refine wp_aload_0 d132_86 ?_
    refine wp_getP d132_87 (Nat.le_of_ble_eq_true rfl) kM.1 rfl ?_
    refine wp_putIP d132_90 kM.1 ?_
    refine wp_aload_0 d132_93 ?_
    refine wp_getP d132_94 (Nat.le_of_ble_eq_true rfl) kM.1 rfl ?_
    exact wp_iret d132_97 rfl rfl rfl
  · simp only [h8, if_false]
    refine wp_bipush d132_11 bi_m103 ?_
    exact wp_iret d132_13 rfl rfl rfl
theorem m_countOf (kM : KM σ m) {stN meN w trN pmN slN bmN asN : Nat} {ki sr le : Nat → Nat} {to : Nat → Option Nat} (h5 : w ≤ 5) (hto : ∀ v, v < w → ∀ j, to v = some j → j < 2 ^ 31) (x : Int32) : Ev 0 0 0 133 [.ref m, .int x] (put σ m (m + 1) (mF m (nI pmN) sta rdm (nI stN) (nI meN) (nI trN) mi (nI slN) (nI w) cha (nI bmN) bc bl bch (nI asN) sn ks kw kt km hsh) (mA apg ade afo (arrI 15 (rw3 ki sr to)) (arr 5 le) afi anf anl awh aod abo aof ama asd akr akl akf akd ako)) (some (.int (r_count stN meN w trN mi le to pmN slN bmN asN x))) (put σ m (m + 1) (mF m (nI pmN) sta rdm (nI stN) (nI meN) (nI trN) mi (nI slN) (nI w) cha (nI bmN) bc bl bch (nI asN) sn ks kw kt km hsh) (mA apg ade afo (arrI 15 (rw3 ki sr to)) (arr 5 le) afi anf anl awh aod abo aof ama asd akr akl akf akd ako)) := by
  have loop : ∀ (n k : Nat), k + n = w → WP 0 0 0 133 7 [.ref m, .int x, .int (nI (smN le 0 k)), .int (nI (bkN to k)), .int (nI k)] [] (put σ m (m + 1) (mF m (nI pmN) sta rdm (nI stN) (nI meN) (nI trN) mi (nI slN) (nI w) cha (nI bmN) bc bl bch (nI asN) sn ks kw kt km hsh) (mA apg ade afo (arrI 15 (rw3 ki sr to)) (arr 5 le) afi anf anl awh aod abo aof ama asd akr akl akf akd ako)) (some (.int (r_count stN meN w trN mi le to pmN slN bmN asN x))) (put σ m (m + 1) (mF m (nI pmN) sta rdm (nI stN) (nI meN) (nI trN) mi (nI slN) (nI w) cha (nI bmN) bc bl bch (nI asN) sn ks kw kt km hsh) (mA apg ade afo (arrI 15 (rw3 ki sr to)) (arr 5 le) afi anf anl awh aod abo aof ama asd akr akl akf akd ako)) := by
    intro n
    induction n with
    | zero =>
      intro k hk'
      have e : k = w := by omega
      subst e
      refine wp_iload_4 d133_7 ?_
      refine wp_aload_0 d133_9 ?_
      refine wp_getP d133_10 (Nat.le_of_ble_eq_true rfl) kM.1 rfl ?_
      refine wp_icmp_geN d133_13 (by decide) (by omega) (by omega) (fun h13 => ?_) (fun hq => absurd hq (by omega))
      refine wp_iload_1 d133_55 ?_
      by_cases hx : 0 ≤ x.toInt ∧ x.toInt ≤ 10
      · obtain ⟨j, hj, rfl⟩ : ∃ j : Nat, j ≤ 10 ∧ x = nI j := ⟨x.toInt.toNat, by omega, nI_to hx.1⟩
        rcases (by omega : j = 0 ∨ j = 1 ∨ j = 2 ∨ j = 3 ∨ j = 4 ∨ j = 5 ∨ j = 6 ∨ j = 7 ∨ j = 8 ∨ j = 9 ∨ j = 10) with rfl | rfl | rfl | rfl | rfl | rfl | rfl | rfl | rfl | rfl | rfl
        · refine wp_swin (off := 60) (tgt := 116) d133_56 (by decide) (by decide) rfl (by decide) ?_
          refine wp_aload_0 d133_116 ?_
          refine wp_getP d133_117 (Nat.le_of_ble_eq_true rfl) kM.1 rfl ?_
          exact wp_iret d133_120 rfl rfl rfl
        · refine wp_swin (off := 65) (tgt := 121) d133_56 (by decide) (by decide) rfl (by decide) ?_
          refine wp_aload_0 d133_121 ?_
          refine wp_getP d133_122 (Nat.le_of_ble_eq_true rfl) kM.1 rfl ?_
          exact wp_iret d133_125 rfl rfl rfl
        · refine wp_swin (off := 70) (tgt := 126) d133_56 (by decide) (by decide) rfl (by decide) ?_
          refine wp_aload_0 d133_126 ?_
          refine wp_getP d133_127 (Nat.le_of_ble_eq_true rfl) kM.1 rfl ?_
          exact wp_iret d133_130 rfl rfl rfl
        · refine wp_swin (off := 75) (tgt := 131) d133_56 (by decide) (by decide) rfl (by decide) ?_
          refine wp_aload_0 d133_131 ?_
          refine wp_getP d133_132 (Nat.le_of_ble_eq_true rfl) kM.1 rfl ?_
          exact wp_iret d133_135 rfl rfl rfl
        · refine wp_swin (off := 80) (tgt := 136) d133_56 (by decide) (by decide) rfl (by decide) ?_
          refine wp_aload_0 d133_136 ?_
          refine wp_getP d133_137 (Nat.le_of_ble_eq_true rfl) kM.1 rfl ?_
          exact wp_iret d133_140 rfl rfl rfl
        · refine wp_swin (off := 85) (tgt := 141) d133_56 (by decide) (by decide) rfl (by decide) ?_
          refine wp_iload_2 d133_141 ?_
          exact wp_iret d133_142 rfl rfl rfl
        · refine wp_swin (off := 87) (tgt := 143) d133_56 (by decide) (by decide) rfl (by decide) ?_
          refine wp_iload_3 d133_143 ?_
          exact wp_iret d133_144 rfl rfl rfl
        · refine wp_swin (off := 89) (tgt := 145) d133_56 (by decide) (by decide) rfl (by decide) ?_
          refine wp_aload_0 d133_145 ?_
          refine wp_getP d133_146 (Nat.le_of_ble_eq_true rfl) kM.1 rfl ?_
          exact wp_iret d133_149 rfl rfl rfl
        · refine wp_swin (off := 94) (tgt := 150) d133_56 (by decide) (by decide) rfl (by decide) ?_
          refine wp_aload_0 d133_150 ?_
          refine wp_getP d133_151 (Nat.le_of_ble_eq_true rfl) kM.1 rfl ?_
          exact wp_iret d133_154 rfl rfl rfl
        · refine wp_swin (off := 99) (tgt := 155) d133_56 (by decide) (by decide) rfl (by decide) ?_
          refine wp_aload_0 d133_155 ?_
          refine wp_getP d133_156 (Nat.le_of_ble_eq_true rfl) kM.1 rfl ?_
          exact wp_iret d133_159 rfl rfl rfl
        · refine wp_swin (off := 104) (tgt := 160) d133_56 (by decide) (by decide) rfl (by decide) ?_
          refine wp_aload_0 d133_160 ?_
          refine wp_getP d133_161 (Nat.le_of_ble_eq_true rfl) kM.1 rfl ?_
          exact wp_iret d133_164 rfl rfl rfl
      · rw [show r_count stN meN k trN mi le to pmN slN bmN asN x = -102 by unfold r_count; split <;> first | omega | rfl]
        refine wp_swout (tgt := 165) d133_56 (by omega) (by decide) ?_
        refine wp_bipush d133_165 bi_m102 ?_
        exact wp_iret d133_167 rfl rfl rfl
    | succ n ih =>
      intro k hk'
      have hb := hto k (by omega)
      refine wp_iload_4 d133_7 ?_
      refine wp_aload_0 d133_9 ?_
      refine wp_getP d133_10 (Nat.le_of_ble_eq_true rfl) kM.1 rfl ?_
      refine wp_icmp_geN d133_13 (by decide) (by omega) (by omega) (fun hq => absurd hq (by omega)) (fun h13 => ?_)
      refine wp_iload_2 d133_16 ?_
      refine wp_aload_0 d133_17 ?_
      refine wp_getP d133_18 (Nat.le_of_ble_eq_true rfl) kM.1 rfl ?_
      refine wp_iload_4 d133_21 ?_
      refine wp_aldP d133_23 (kM.2 _ (Nat.le_of_ble_eq_true rfl)) rfl (by omega) (by decide) ?_
      refine wp_iaddN d133_24 ?_
      refine wp_istore_2 d133_25 (Nat.le_of_ble_eq_true rfl) rfl ?_
      refine wp_iload_3 d133_26 ?_
      refine wp_aload_0 d133_27 ?_
      refine wp_getP d133_28 (Nat.le_of_ble_eq_true rfl) kM.1 rfl ?_
      refine wp_iconst d133_31 ic_3 ?_
      refine wp_iload_4 d133_32 ?_
      refine wp_imulN d133_34 ?_
      refine wp_iconst d133_35 ic_2 ?_
      refine wp_iaddN d133_36 ?_
      refine wp_aldP d133_37 (kM.2 _ (Nat.le_of_ble_eq_true rfl)) rfl (by omega) (by decide) ?_
      rw [rw_2]
      refine wp_iconst d133_38 ic_m1 ?_
      have K := ih (k + 1) (by omega)
      rw [show smN le 0 (k + 1) = smN le 0 k + le k by simp [smN]] at K
      refine wp_icmp_ne d133_39 (by decide) (fun h => ?_) (fun h => ?_)
      · have e : ¬ to k = none := fun z => h ((eo_none hb).mpr z)
        rw [show bkN to (k + 1) = bkN to k + 1 by simp [bkN, e]] at K
        refine wp_iconst d133_46 ic_1 ?_
        refine wp_iaddN d133_47 ?_
        refine wp_istore_3 d133_48 (Nat.le_of_ble_eq_true rfl) rfl ?_
        refine wp_iinc_4 d133_49 (Nat.le_of_ble_eq_true rfl) rfl (inc1 _) ?_
        refine wp_goto d133_52 (by decide) ?_
        exact K
      · have e : to k = none := (eo_none hb).mp h
        rw [show bkN to (k + 1) = bkN to k + 0 by simp [bkN, e]] at K
        refine wp_iconst d133_42 ic_0 ?_
        refine wp_goto d133_43 (by decide) ?_
        refine wp_iaddN d133_47 ?_
        refine wp_istore_3 d133_48 (Nat.le_of_ble_eq_true rfl) rfl ?_
        refine wp_iinc_4 d133_49 (Nat.le_of_ble_eq_true rfl) rfl (inc1 _) ?_
        refine wp_goto d133_52 (by decide) ?_
        exact K
  refine ev_of (L := [(.ref m), (.int x), .null, .null, .null]) (by decide) rfl (Nat.le_of_ble_eq_true rfl) ?_
  refine wp_iconst d133_0 ic_0 ?_
  refine wp_istore_2 d133_1 (Nat.le_of_ble_eq_true rfl) rfl ?_
  refine wp_iconst d133_2 ic_0 ?_
  refine wp_istore_3 d133_3 (Nat.le_of_ble_eq_true rfl) rfl ?_
  refine wp_iconst d133_4 ic_0 ?_
  refine wp_istore_4 d133_5 (Nat.le_of_ble_eq_true rfl) rfl ?_
  exact loop w 0 (by omega)
theorem m_count (kM : KM σ m) {stN meN w trN pmN slN bmN asN : Nat} {ki sr le : Nat → Nat} {to : Nat → Option Nat} (h5 : w ≤ 5) (hto : ∀ v, v < w → ∀ j, to v = some j → j < 2 ^ 31) (x : Int32) : Ev 1 0 0 134 [.ref m, .int x] (put σ m (m + 1) (mF m (nI pmN) sta rdm (nI stN) (nI meN) (nI trN) mi (nI slN) (nI w) cha (nI bmN) bc bl bch (nI asN) sn ks kw kt km hsh) (mA apg ade afo (arrI 15 (rw3 ki sr to)) (arr 5 le) afi anf anl awh aod abo aof ama asd akr akl akf akd ako)) (some (.int (r_count stN meN w trN mi le to pmN slN bmN asN x))) (put σ m (m + 1) (mF m (nI pmN) sta rdm (nI stN) (nI meN) (nI trN) mi (nI slN) (nI w) cha (nI bmN) bc bl bch (nI asN) sn ks kw kt km hsh) (mA apg ade afo (arrI 15 (rw3 ki sr to)) (arr 5 le) afi anf anl awh aod abo aof ama asd akr akl akf akd ako)) := by
  refine ev_of (L := [(.ref m), (.int x)]) (by decide) rfl (Nat.le_of_ble_eq_true rfl) ?_
  refine wp_aload_0 d134_0 ?_
  refine wp_iload_1 d134_1 ?_
  refine wp_V1r d134_2 kM.1 ((m_countOf kM h5 hto x)) (Nat.le_of_ble_eq_true rfl) (Nat.le_of_ble_eq_true rfl) ?_
  exact wp_iret d134_5 rfl rfl rfl
theorem m_say (kM : KM σ m) (x : Int32) : Ev 0 0 0 135 [.ref m, .long x.toInt64] (put σ m (m + 1) (mF m pm sta rdm st me tr mi slr wa cha bm bc bl bch ask sn ks kw kt km hsh) (mA apg ade afo aro ale afi anf anl awh aod abo aof ama asd akr akl akf akd ako)) none (put σ m (m + 1) (mF m pm sta rdm st me tr mi slr wa cha bm bc bl bch ask sn ks kw kt km (sayN hsh x)) (mA apg ade afo aro ale afi anf anl awh aod abo aof ama asd akr akl akf akd ako)) := by
  refine ev_of (L := [(.ref m), (.long x.toInt64), .null]) (by decide) rfl (Nat.le_of_ble_eq_true rfl) ?_
  refine wp_aload_0 d135_0 ?_
  refine wp_ldc2 d135_1 (by decide) rfl lk_31 ?_
  refine wp_aload_0 d135_4 ?_
  refine wp_getP d135_5 (Nat.le_of_ble_eq_true rfl) kM.1 rfl ?_
  refine wp_lmul d135_8 ?_
  refine wp_lload_1 d135_9 ?_
  refine wp_ladd d135_10 ?_
  refine wp_putLP d135_11 kM.1 ?_
  exact wp_vret d135_14 rfl rfl rfl

end S13_mo9b
