section S22_wy1
variable {σ : Sto} {y t u : Nat} {wwa wfr wst st me tr wa mi : Int32} {apy ala apl ade afo aki asr ale ato afi adu : List Int32}

theorem w_row {a b : Nat} : Ev 0 0 0 46 [.int (nI a), .int (nI b)] σ (some (.int (nI ((a * 5 + b) * 5)))) σ := by
  refine ev_of (L := [(.int (nI a)), (.int (nI b))]) (by decide) rfl (Nat.le_of_ble_eq_true rfl) ?_
  refine wp_iload_0 d46_0 ?_
  refine wp_iconst d46_1 ic_5 ?_
  refine wp_imulN d46_2 ?_
  refine wp_iload_1 d46_3 ?_
  refine wp_iaddN d46_4 ?_
  refine wp_iconst d46_5 ic_5 ?_
  refine wp_imulN d46_6 ?_
  exact wp_iret d46_7 rfl rfl rfl
theorem w_stretch (kW : KW σ y) (kT : KT σ (y + 1)) {w s : Nat} {ki F de py : Nat → Nat} (hw : 1 ≤ w) (hw5 : w ≤ 5) (hs : s < 6) (hF : PF w F) (hk : ∀ v, v < w → ki v < 5) (hd : de s < 100) (hT : Hs σ (y + 1) (y + 1 + 1) (trF (y + 1) st me tr (nI w) mi) (trA (arr 6 de) afo (arr 5 ki) asr ale ato (arr 5 F) adu)) : Ev 1 0 0 45 [.ref y, .int (nI s)] (put σ y (y + 10) (wyF y (nI w) (wfr) (wst)) (wyA (arr 150 py) (ala) (apl))) none (put σ y (y + 10) (wyF y (nI w) (wfr) (wst)) (wyA (arr 150 (pyF py ki F ((s * 5 + F 0) * 5) (de s) w)) (ala) (apl))) := by
  have gF : ∀ {fs : List Value} {as : List (List Int32)}, (put σ y (y + 10) fs as).2.1 (y + 1) = trF (y + 1) st me tr (nI w) mi := fun {_ _} => (put_F_ne (by omega)).trans hT.1
  have gA : ∀ {fs : List Value} {as : List (List Int32)} (k : Nat) (l : List Int32), (trA (arr 6 de) afo (arr 5 ki) asr ale ato (arr 5 F) adu)[k]? = some l → (put σ y (y + 10) fs as).2.2 (y + 1 + 1 + k) = l := by
    intro fs as k l hk
    have : k < 8 := (List.getElem?_eq_some_iff.mp hk).1
    rw [put_A_ne (by omega)]
    exact hT.2 k l hk
  have gH : ∀ {fs : List Value} {as : List (List Int32)}, Hs (put σ y (y + 10) fs as) (y + 1) (y + 1 + 1) (trF (y + 1) st me tr (nI w) mi) (trA (arr 6 de) afo (arr 5 ki) asr ale ato (arr 5 F) adu) := fun {fs as} => ⟨gF, gA⟩
  have b0 := hF.1 0 (by omega)
  have loop : ∀ (n k : Nat), k + n = w → WP 1 0 0 45 16 [.ref y, .int (nI s), .int (nI ((s * 5 + F 0) * 5)), .int (nI k)] [] (put σ y (y + 10) (wyF y (nI w) (wfr) (wst)) (wyA (arr 150 (pyF py ki F ((s * 5 + F 0) * 5) (de s) k)) (ala) (apl))) none (put σ y (y + 10) (wyF y (nI w) (wfr) (wst)) (wyA (arr 150 (pyF py ki F ((s * 5 + F 0) * 5) (de s) w)) (ala) (apl))) := by
    intro n
    induction n with
    | zero =>
      intro k hk'
      have e : k = w := by omega
      subst e
      refine wp_iload_3 d45_16 ?_
      refine wp_aload_0 d45_17 ?_
      refine wp_getP d45_18 (Nat.le_of_ble_eq_true rfl) kW.1 rfl ?_
      refine wp_icmp_geN d45_21 (by decide) (by omega) (by omega) (fun h21 => ?_) (fun hq => absurd hq (by omega))
      exact wp_vret d45_63 rfl rfl rfl
    | succ n ih =>
      intro k hk'
      have b1 := hF.1 k (by omega)
      have b2 := hk (F k) (by omega)
      have b4 : k ≠ 0 → F (k - 1) < 5 := fun z => by have := hF.1 (k - 1) (by omega); omega
      have b5 : k ≠ 0 → ki (F (k - 1)) < 5 := fun z => hk _ (hF.1 (k - 1) (by omega))
      refine wp_iload_3 d45_16 ?_
      refine wp_aload_0 d45_17 ?_
      refine wp_getP d45_18 (Nat.le_of_ble_eq_true rfl) kW.1 rfl ?_
      refine wp_icmp_geN d45_21 (by decide) (by omega) (by omega) (fun hq => absurd hq (by omega)) (fun h21 => ?_)
      refine wp_aload_0 d45_24 ?_
      refine wp_getP d45_25 (Nat.le_of_ble_eq_true rfl) kW.1 rfl ?_
      refine wp_iload_2 d45_28 ?_
      refine wp_aload_0 d45_29 ?_
      refine wp_getP d45_30 (Nat.le_of_ble_eq_true rfl) kW.1 rfl ?_
      refine wp_get d45_33 (by decide) kT.1 gF rfl ?_
      refine wp_iload_3 d45_36 ?_
      refine wp_aldG d45_37 (kT.2 6 (by decide)) (gA 6 _ rfl) (by omega) (by decide) ?_
      refine wp_iaddN d45_38 ?_
      refine wp_aload_0 d45_39 ?_
      refine wp_getP d45_40 (Nat.le_of_ble_eq_true rfl) kW.1 rfl ?_
      refine wp_iload_3 d45_43 ?_
      refine wp_aload_0 d45_44 ?_
      refine wp_getP d45_45 (Nat.le_of_ble_eq_true rfl) kW.1 rfl ?_
      refine wp_get d45_48 (by decide) kT.1 gF rfl ?_
      refine wp_iload_1 d45_51 ?_
      refine wp_aldG d45_52 (kT.2 0 (by decide)) (gA 0 _ rfl) (by omega) (by decide) ?_
      refine wp_V2r d45_53 kT.1 (Ev_rd gH (t_payAt (σ := put σ y (y + 10) _ _) kT (by omega) (by omega) b4 b2 b5 hd)) (Nat.le_of_ble_eq_true rfl) (Nat.le_of_ble_eq_true rfl) ?_
      refine wp_astN d45_56 (kW.2 _ (Nat.le_of_ble_eq_true rfl)) rfl (by omega) (by decide) ?_
      refine wp_iinc_3 d45_57 (Nat.le_of_ble_eq_true rfl) rfl (inc1 _) ?_
      refine wp_goto d45_60 (by decide) ?_
      exact ih (k + 1) (by omega)
  refine ev_of (L := [(.ref y), (.int (nI s)), .null, .null]) (by decide) rfl (Nat.le_of_ble_eq_true rfl) ?_
  refine wp_iload_1 d45_0 ?_
  refine wp_aload_0 d45_1 ?_
  refine wp_getP d45_2 (Nat.le_of_ble_eq_true rfl) kW.1 rfl ?_
  refine wp_get d45_5 (by decide) kT.1 gF rfl ?_
  refine wp_iconst d45_8 ic_0 ?_
  refine wp_aldG d45_9 (kT.2 6 (by decide)) (gA 6 _ rfl) (by omega) (by decide) ?_
  refine wp_S2r d45_10 rfl ((w_row)) (Nat.le_of_ble_eq_true rfl) (Nat.le_of_ble_eq_true rfl) ?_
  refine wp_istore_2 d45_13 (Nat.le_of_ble_eq_true rfl) rfl ?_
  refine wp_iconst d45_14 ic_0 ?_
  refine wp_istore_3 d45_15 (Nat.le_of_ble_eq_true rfl) rfl ?_
  exact loop w 0 (by omega)
theorem w_layOut (kW : KW σ y) (kT : KT σ (y + 1)) (kU : KT σ u) {w trN stN : Nat} {me2 mi2 : Int32} {adu2 : List Int32} {ki sr le fi de d0 k0 s0 l0 f0 py la pc : Nat → Nat} {fo to o0 t0 : Nat → Option Nat} (hap : u + 9 ≤ y ∨ y + 13 ≤ u) (h1 : trN ≤ stN) (h6 : stN ≤ 6) (hw : 1 ≤ w) (hw5 : w ≤ 5) (hf : PF w fi) (hk : ∀ v, v < w → ki v < 5) (hd : ∀ k, k < stN → de k < 100) (hu : Hs σ u (u + 1) (trF u (nI stN) me2 (nI trN) (nI w) mi2) (trA (arr 6 de) (arO 6 fo) (arr 5 ki) (arr 5 sr) (arr 5 le) (arO 5 to) (arr 5 fi) adu2)) : ∃ (F' py' la' pc' : Nat → Nat) (mi' : Int32), WT w trN stN ki fi de py' ∧ (∀ v, v < w → la' (trN * 5 + v) = le v) ∧ (∀ v, v < w → pc' v = pl w fi v) ∧ Ev 2 0 0 44 [.ref y, .ref u] (put (put σ (y + 1) (y + 1 + 1) (trF (y + 1) st me tr wa mi) (trA (arr 6 d0) (arO 6 o0) (arr 5 k0) (arr 5 s0) (arr 5 l0) (arO 5 t0) (arr 5 f0) adu)) y (y + 10) (wyF y (wwa) (wfr) (wst)) (wyA (arr 150 py) (arr 35 la) (arr 5 pc))) none (put (put σ (y + 1) (y + 1 + 1) (trF (y + 1) (nI stN) me2 (nI trN) (nI w) (mi')) (trA (arr 6 de) (arO 6 fo) (arr 5 ki) (arr 5 sr) (arr 5 le) (arO 5 to) (arr 5 (F')) adu)) y (y + 10) (wyF y (nI w) (nI trN) (nI stN)) (wyA (arr 150 py') (arr 35 la') (arr 5 pc'))) := by
  have hu1 : u ≠ y := by omega
  have hu2 : u ≠ y + 1 := by omega
  have gFu : ∀ {fs1 fs2 : List Value} {as1 as2 : List (List Int32)}, (put (put σ (y + 1) (y + 1 + 1) fs1 as1) y (y + 10) fs2 as2).2.1 u = trF u (nI stN) me2 (nI trN) (nI w) mi2 := fun {_ _ _ _} => (put_F_ne hu1).trans ((put_F_ne hu2).trans hu.1)
  have gAu : ∀ {fs1 fs2 : List Value} {as1 as2 : List (List Int32)} (k : Nat) (l : List Int32), as1.length = 8 → as2.length = 3 → (trA (arr 6 de) (arO 6 fo) (arr 5 ki) (arr 5 sr) (arr 5 le) (arO 5 to) (arr 5 fi) adu2)[k]? = some l → (put (put σ (y + 1) (y + 1 + 1) fs1 as1) y (y + 10) fs2 as2).2.2 (u + 1 + k) = l := by
    intro fs1 fs2 as1 as2 k l h8 h3 hk
    have : k < 8 := (List.getElem?_eq_some_iff.mp hk).1
    rw [put_A_ne (by omega), put_A_ne (by omega)]
    exact hu.2 k l hk
  -- the turns
  have turns : ∀ (n j : Nat) (py : Nat → Nat) (mi3 : Int32) (u3 : Value) (la pc : Nat → Nat), j + n = w → (∀ s, trN ≤ s → s < stN → ∀ i, i < j → ∀ p, p < w → py ((s * 5 + rotk w fi i 0) * 5 + rotk w fi i p) = payN ki (rotk w fi i) p (de s)) → ∃ (F' py' : Nat → Nat) (mi' : Int32), WT w trN stN ki fi de py' ∧ WP 2 0 0 44 97 [.ref y, .ref u, .int (nI j), u3] [] (put (put σ (y + 1) (y + 1 + 1) (trF (y + 1) (nI stN) me2 (nI trN) (nI w) (mi3)) (trA (arr 6 de) (arO 6 fo) (arr 5 ki) (arr 5 sr) (arr 5 le) (arO 5 to) (arr 5 (rotk w fi j)) adu)) y (y + 10) (wyF y (nI w) (nI trN) (nI stN)) (wyA (arr 150 py) (arr 35 la) (arr 5 pc))) none (put (put σ (y + 1) (y + 1 + 1) (trF (y + 1) (nI stN) me2 (nI trN) (nI w) (mi')) (trA (arr 6 de) (arO 6 fo) (arr 5 ki) (arr 5 sr) (arr 5 le) (arO 5 to) (arr 5 (F')) adu)) y (y + 10) (wyF y (nI w) (nI trN) (nI stN)) (wyA (arr 150 py') (arr 35 la) (arr 5 pc))) := by
    intro n
    induction n with
    | zero =>
      intro j py mi3 u3 la pc hj hpy
      have e : j = w := by omega
      subst e
      refine ⟨rotk j fi j, py, mi3, fun s a b i hi p hp => hpy s a b i hi p hp, ?_⟩
      refine wp_iload_2 d44_97 ?_
      refine wp_aload_0 d44_98 ?_
      refine wp_getP d44_99 (Nat.le_of_ble_eq_true rfl) kW.1 rfl ?_
      refine wp_icmp_geN d44_102 (by decide) (by omega) (by omega) (fun h102 => ?_) (fun hq => absurd hq (by omega))
      exact wp_vret d44_142 rfl rfl rfl
    | succ n ih =>
      intro j py mi3 u3 la pc hj hpy
      have hpf := PF_rotk hf j
      have inner : ∀ (i s : Nat) (py : Nat → Nat), s + i = stN → trN ≤ s → (∀ s0, trN ≤ s0 → s0 < stN → ∀ i, (i < j ∨ (i = j ∧ s0 < s)) → ∀ p, p < w → py ((s0 * 5 + rotk w fi i 0) * 5 + rotk w fi i p) = payN ki (rotk w fi i) p (de s0)) → ∃ py1 : Nat → Nat, (∀ s0, trN ≤ s0 → s0 < stN → ∀ i, i < j + 1 → ∀ p, p < w → py1 ((s0 * 5 + rotk w fi i 0) * 5 + rotk w fi i p) = payN ki (rotk w fi i) p (de s0)) ∧ ∀ (r : Option Value) (σ' : Sto), WP 2 0 0 44 129 [.ref y, .ref u, .int (nI j), .int (nI stN)] [] (put (put σ (y + 1) (y + 1 + 1) (trF (y + 1) (nI stN) me2 (nI trN) (nI w) (mi3)) (trA (arr 6 de) (arO 6 fo) (arr 5 ki) (arr 5 sr) (arr 5 le) (arO 5 to) (arr 5 (rotk w fi j)) adu)) y (y + 10) (wyF y (nI w) (nI trN) (nI stN)) (wyA (arr 150 py1) (arr 35 la) (arr 5 pc))) r σ' → WP 2 0 0 44 110 [.ref y, .ref u, .int (nI j), .int (nI s)] [] (put (put σ (y + 1) (y + 1 + 1) (trF (y + 1) (nI stN) me2 (nI trN) (nI w) (mi3)) (trA (arr 6 de) (arO 6 fo) (arr 5 ki) (arr 5 sr) (arr 5 le) (arO 5 to) (arr 5 (rotk w fi j)) adu)) y (y + 10) (wyF y (nI w) (nI trN) (nI stN)) (wyA (arr 150 py) (arr 35 la) (arr 5 pc))) r σ' := by
        intro i
        induction i with
        | zero =>
          intro s py hs hts hp
          have e : s = stN := by omega
          subst e
          refine ⟨py, fun s0 a b i hi p hp' => hp s0 a b i (by omega) p hp', fun r σ' K => ?_⟩
          refine wp_iload_3 d44_110 ?_
          refine wp_aload_0 d44_111 ?_
          refine wp_getP d44_112 (Nat.le_of_ble_eq_true rfl) kW.1 rfl ?_
          refine wp_icmp_geN d44_115 (by decide) (by omega) (by omega) (fun h115 => ?_) (fun hq => absurd hq (by omega))
          exact K
        | succ i ih2 =>
          intro s py hs hts hp
          have hds := hd s (by omega)
          obtain ⟨py1, hpy1, K1⟩ := ih2 (s + 1) (pyF py ki (rotk w fi j) ((s * 5 + rotk w fi j 0) * 5) (de s) w) (by omega) (by omega) (by
            intro s0 a b i hi p hp'
            by_cases e : i = j ∧ s0 = s
            · obtain ⟨rfl, rfl⟩ := e
              exact pyF_in hpf.2.1 hp'
            · rw [pyF_out]
              · exact hp s0 a b i (by omega) p hp'
              · intro p2 hp2 z
                have hpi := PF_rotk hf i
                have c1 := hpi.1 0 (by omega)
                have c2 := hpi.1 p hp'
                have c3 := hpf.1 0 (by omega)
                have c4 := hpf.1 p2 hp2
                have d1 : s0 = s := by omega
                have d2 : rotk w fi i 0 = rotk w fi j 0 := by omega
                have d3 : i < w := by omega
                unfold rotk at d2
                rw [if_pos (by omega), if_pos (by omega), Nat.zero_add, Nat.zero_add, Nat.mod_eq_of_lt d3, Nat.mod_eq_of_lt (show j < w by omega)] at d2
                have := hf.2.1 i j d3 (by omega) d2
                omega)
          refine ⟨py1, hpy1, fun r σ' K => ?_⟩
          have hst := w_stretch (σ := (put σ (y + 1) (y + 1 + 1) (trF (y + 1) (nI stN) me2 (nI trN) (nI w) (mi3)) (trA (arr 6 de) (arO 6 fo) (arr 5 ki) (arr 5 sr) (arr 5 le) (arO 5 to) (arr 5 (rotk w fi j)) adu))) kW kT (s := s) (py := py) (wfr := nI trN) (wst := nI stN) (ala := arr 35 la) (apl := arr 5 pc) hw hw5 (by omega) hpf hk hds Hs_put
          refine wp_iload_3 d44_110 ?_
          refine wp_aload_0 d44_111 ?_
          refine wp_getP d44_112 (Nat.le_of_ble_eq_true rfl) kW.1 rfl ?_
          refine wp_icmp_geN d44_115 (by decide) (by omega) (by omega) (fun hq => absurd hq (by omega)) (fun h115 => ?_)
          refine wp_aload_0 d44_118 ?_
          refine wp_iload_3 d44_119 ?_
          refine wp_V1v d44_120 kW.1 ((hst)) (Nat.le_of_ble_eq_true rfl) (Nat.le_of_ble_eq_true rfl) ?_
          refine wp_iinc_3 d44_123 (Nat.le_of_ble_eq_true rfl) rfl (inc1 _) ?_
          refine wp_goto d44_126 (by decide) ?_
          exact K1 r σ' K
      obtain ⟨py1, hpy1, K1⟩ := inner (stN - trN) trN py (by omega) (by omega) (fun s0 a b i hi p hp' => hpy s0 a b i (by omega) p hp')
      obtain ⟨F', py', mi', hWT, K2⟩ := ih (j + 1) py1 (mi3 + nI 1) (.int (nI stN)) la pc (by omega) hpy1
      refine ⟨F', py', mi', hWT, ?_⟩
      have hch := t_changeFirst (t := y + 1) (σ := put (put σ (y + 1) (y + 1 + 1) (trF (y + 1) (nI stN) me2 (nI trN) (nI w) (mi3)) (trA (arr 6 de) (arO 6 fo) (arr 5 ki) (arr 5 sr) (arr 5 le) (arO 5 to) (arr 5 (rotk w fi j)) adu)) y (y + 10) (wyF y (nI w) (nI trN) (nI stN)) (wyA (arr 150 py1) (arr 35 la) (arr 5 pc))) (st := nI stN) (me := me2) (tr := nI trN) (mi := mi3) (ade := arr 6 de) (afo := arO 6 fo) (aki := arr 5 ki) (asr := arr 5 sr) (ale := arr 5 le) (ato := arO 5 to) (adu := adu) (fi := rotk w fi j) (w := w) kT hw5
      rw [if_neg (by omega), if_neg (by omega), rot_rotk (by omega)] at hch
      have hch2 := Ev_in (by omega) (by simp only [trA, wyA, List.length_cons, List.length_nil]; omega) (by rfl) hch
      refine wp_iload_2 d44_97 ?_
      refine wp_aload_0 d44_98 ?_
      refine wp_getP d44_99 (Nat.le_of_ble_eq_true rfl) kW.1 rfl ?_
      refine wp_icmp_geN d44_102 (by decide) (by omega) (by omega) (fun hq => absurd hq (by omega)) (fun h102 => ?_)
      refine wp_aload_0 d44_105 ?_
      refine wp_getP d44_106 (Nat.le_of_ble_eq_true rfl) kW.1 rfl ?_
      refine wp_istore_3 d44_109 (Nat.le_of_ble_eq_true rfl) rfl ?_
      refine K1 _ _ ?_
      refine wp_aload_0 d44_129 ?_
      refine wp_getP d44_130 (Nat.le_of_ble_eq_true rfl) kW.1 rfl ?_
      refine wp_V0v d44_133 kT.1 (hch2) (Nat.le_of_ble_eq_true rfl) (Nat.le_of_ble_eq_true rfl) ?_
      refine wp_iinc_2 d44_136 (Nat.le_of_ble_eq_true rfl) rfl (inc1 _) ?_
      refine wp_goto d44_139 (by decide) ?_
      exact K2
  -- the places
  have places : ∀ (n k : Nat) (pc la : Nat → Nat), k + n = w → (∀ p, p < k → pc (fi p) = p) → (∀ v, v < w → la (trN * 5 + v) = le v) → ∃ (F' py' la' pc' : Nat → Nat) (mi' : Int32), WT w trN stN ki fi de py' ∧ (∀ v, v < w → la' (trN * 5 + v) = le v) ∧ (∀ v, v < w → pc' v = pl w fi v) ∧ WP 2 0 0 44 69 [.ref y, .ref u, .int (nI k), .null] [] (put (put σ (y + 1) (y + 1 + 1) (trF (y + 1) (nI stN) me2 (nI trN) (nI w) (mi2)) (trA (arr 6 de) (arO 6 fo) (arr 5 ki) (arr 5 sr) (arr 5 le) (arO 5 to) (arr 5 (fi)) adu)) y (y + 10) (wyF y (nI w) (nI trN) (nI stN)) (wyA (arr 150 py) (arr 35 la) (arr 5 pc))) none (put (put σ (y + 1) (y + 1 + 1) (trF (y + 1) (nI stN) me2 (nI trN) (nI w) (mi')) (trA (arr 6 de) (arO 6 fo) (arr 5 ki) (arr 5 sr) (arr 5 le) (arO 5 to) (arr 5 (F')) adu)) y (y + 10) (wyF y (nI w) (nI trN) (nI stN)) (wyA (arr 150 py') (arr 35 la') (arr 5 pc'))) := by
    intro n
    induction n with
    | zero =>
      intro k pc la hk' hpc hla
      have e : k = w := by omega
      subst e
      obtain ⟨F', py', mi', hWT, K⟩ := turns k 0 py mi2 .null la pc (by omega) (fun s a b i hi => by omega)
      rw [rotk_0] at K
      refine ⟨F', py', la, pc, mi', hWT, hla, fun v hv => ?_, ?_⟩
      · obtain ⟨p, hp, rfl⟩ := hf.2.2 v hv
        rw [hpc p hp, pl_eq hf.2.1 hp]
      · refine wp_iload_2 d44_69 ?_
        refine wp_aload_0 d44_70 ?_
        refine wp_getP d44_71 (Nat.le_of_ble_eq_true rfl) kW.1 rfl ?_
        refine wp_icmp_geN d44_74 (by decide) (by omega) (by omega) (fun h74 => ?_) (fun hq => absurd hq (by omega))
        refine wp_iconst d44_95 ic_0 ?_
        refine wp_istore_2 d44_96 (Nat.le_of_ble_eq_true rfl) rfl ?_
        exact K
    | succ n ih =>
      intro k pc la hk' hpc hla
      have b1 := hf.1 k (by omega)
      obtain ⟨F', py', la', pc', mi', hWT, h2, h3, K⟩ := ih (k + 1) (up pc (fi k) k) la (by omega) (fun p hp => by
        unfold up
        by_cases e : fi p = fi k
        · rw [if_pos e]; exact (hf.2.1 p k (by omega) (by omega) e).symm
        · rw [if_neg e]
          refine hpc p ?_
          have : p ≠ k := fun z => e (by rw [z])
          omega) hla
      refine ⟨F', py', la', pc', mi', hWT, h2, h3, ?_⟩
      refine wp_iload_2 d44_69 ?_
      refine wp_aload_0 d44_70 ?_
      refine wp_getP d44_71 (Nat.le_of_ble_eq_true rfl) kW.1 rfl ?_
      refine wp_icmp_geN d44_74 (by decide) (by omega) (by omega) (fun hq => absurd hq (by omega)) (fun h74 => ?_)
      refine wp_aload_0 d44_77 ?_
      refine wp_getP d44_78 (Nat.le_of_ble_eq_true rfl) kW.1 rfl ?_
      refine wp_aload_1 d44_81 ?_
      refine wp_get d44_82 (by decide) kU.1 gFu rfl ?_
      refine wp_iload_2 d44_85 ?_
      refine wp_aldG d44_86 (kU.2 6 (by decide)) (gAu 6 _ rfl rfl rfl) (by omega) (by decide) ?_
      refine wp_iload_2 d44_87 ?_
      refine wp_astN d44_88 (kW.2 _ (Nat.le_of_ble_eq_true rfl)) rfl (by omega) (by decide) ?_
      refine wp_iinc_2 d44_89 (Nat.le_of_ble_eq_true rfl) rfl (inc1 _) ?_
      refine wp_goto d44_92 (by decide) ?_
      exact K
  have lefts : ∀ (n k : Nat) (la : Nat → Nat), k + n = w → (∀ v, v < k → la (trN * 5 + v) = le v) → ∃ (F' py' la' pc' : Nat → Nat) (mi' : Int32), WT w trN stN ki fi de py' ∧ (∀ v, v < w → la' (trN * 5 + v) = le v) ∧ (∀ v, v < w → pc' v = pl w fi v) ∧ WP 2 0 0 44 34 [.ref y, .ref u, .int (nI k), .null] [] (put (put σ (y + 1) (y + 1 + 1) (trF (y + 1) (nI stN) me2 (nI trN) (nI w) (mi2)) (trA (arr 6 de) (arO 6 fo) (arr 5 ki) (arr 5 sr) (arr 5 le) (arO 5 to) (arr 5 (fi)) adu)) y (y + 10) (wyF y (nI w) (nI trN) (nI stN)) (wyA (arr 150 py) (arr 35 la) (arr 5 pc))) none (put (put σ (y + 1) (y + 1 + 1) (trF (y + 1) (nI stN) me2 (nI trN) (nI w) (mi')) (trA (arr 6 de) (arO 6 fo) (arr 5 ki) (arr 5 sr) (arr 5 le) (arO 5 to) (arr 5 (F')) adu)) y (y + 10) (wyF y (nI w) (nI trN) (nI stN)) (wyA (arr 150 py') (arr 35 la') (arr 5 pc'))) := by
    intro n
    induction n with
    | zero =>
      intro k la hk' hla
      have e : k = w := by omega
      subst e
      obtain ⟨F', py', la', pc', mi', hWT, h2, h3, K⟩ := places k 0 pc la (by omega) (fun p hp => by omega) hla
      refine ⟨F', py', la', pc', mi', hWT, h2, h3, ?_⟩
      refine wp_iload_2 d44_34 ?_
      refine wp_aload_0 d44_35 ?_
      refine wp_getP d44_36 (Nat.le_of_ble_eq_true rfl) kW.1 rfl ?_
      refine wp_icmp_geN d44_39 (by decide) (by omega) (by omega) (fun h39 => ?_) (fun hq => absurd hq (by omega))
      refine wp_iconst d44_67 ic_0 ?_
      refine wp_istore_2 d44_68 (Nat.le_of_ble_eq_true rfl) rfl ?_
      exact K
    | succ n ih =>
      intro k la hk' hla
      obtain ⟨F', py', la', pc', mi', hWT, h2, h3, K⟩ := ih (k + 1) (up la (trN * 5 + k) (le k)) (by omega) (fun v hv => by
        unfold up
        by_cases e : trN * 5 + v = trN * 5 + k
        · rw [if_pos e, show v = k by omega]
        · rw [if_neg e]; exact hla v (by omega))
      refine ⟨F', py', la', pc', mi', hWT, h2, h3, ?_⟩
      refine wp_iload_2 d44_34 ?_
      refine wp_aload_0 d44_35 ?_
      refine wp_getP d44_36 (Nat.le_of_ble_eq_true rfl) kW.1 rfl ?_
      refine wp_icmp_geN d44_39 (by decide) (by omega) (by omega) (fun hq => absurd hq (by omega)) (fun h39 => ?_)
      refine wp_aload_0 d44_42 ?_
      refine wp_getP d44_43 (Nat.le_of_ble_eq_true rfl) kW.1 rfl ?_
      refine wp_aload_0 d44_46 ?_
      refine wp_getP d44_47 (Nat.le_of_ble_eq_true rfl) kW.1 rfl ?_
      refine wp_iconst d44_50 ic_5 ?_
      refine wp_imulN d44_51 ?_
      refine wp_iload_2 d44_52 ?_
      refine wp_iaddN d44_53 ?_
      refine wp_aload_1 d44_54 ?_
      refine wp_get d44_55 (by decide) kU.1 gFu rfl ?_
      refine wp_iload_2 d44_58 ?_
      refine wp_aldG d44_59 (kU.2 4 (by decide)) (gAu 4 _ rfl rfl rfl) (by omega) (by decide) ?_
      refine wp_astN d44_60 (kW.2 _ (Nat.le_of_ble_eq_true rfl)) rfl (by omega) (by decide) ?_
      refine wp_iinc_2 d44_61 (Nat.le_of_ble_eq_true rfl) rfl (inc1 _) ?_
      refine wp_goto d44_64 (by decide) ?_
      exact K
  obtain ⟨F', py', la', pc', mi', hWT, h2, h3, K⟩ := lefts w 0 la (by omega) (fun v hv => by omega)
  refine ⟨F', py', la', pc', mi', hWT, h2, h3, ?_⟩
  have hcp := t_copyFrom (t := y + 1) (u := u) (σ := put (put σ (y + 1) (y + 1 + 1) (trF (y + 1) st me tr wa mi) (trA (arr 6 d0) (arO 6 o0) (arr 5 k0) (arr 5 s0) (arr 5 l0) (arO 5 t0) (arr 5 f0) adu)) y (y + 10) (wyF y wwa wfr wst) (wyA (arr 150 py) (arr 35 la) (arr 5 pc))) (st := st) (me := me) (tr := tr) (wa := wa) (mi := mi) (adu := adu) (de := d0) (ki := k0) (sr := s0) (le := l0) (fi := f0) (fo := o0) (to := t0) kT kU hu2 (by omega) ⟨gFu, fun k l hk => gAu k l rfl rfl hk⟩
  have hcp2 := Ev_in (by omega) (by simp only [trA, wyA, List.length_cons, List.length_nil]; omega) (by rfl) hcp
  refine ev_of (L := [(.ref y), (.ref u), .null, .null]) (by decide) rfl (Nat.le_of_ble_eq_true rfl) ?_
  refine wp_aload_0 d44_0 ?_
  refine wp_getP d44_1 (Nat.le_of_ble_eq_true rfl) kW.1 rfl ?_
  refine wp_aload_1 d44_4 ?_
  refine wp_V1v d44_5 kT.1 (hcp2) (Nat.le_of_ble_eq_true rfl) (Nat.le_of_ble_eq_true rfl) ?_
  refine wp_aload_0 d44_8 ?_
  refine wp_aload_1 d44_9 ?_
  refine wp_get d44_10 (by decide) kU.1 gFu rfl ?_
  refine wp_putIP d44_13 kW.1 ?_
  refine wp_aload_0 d44_16 ?_
  refine wp_aload_1 d44_17 ?_
  refine wp_get d44_18 (by decide) kU.1 gFu rfl ?_
  refine wp_putIP d44_21 kW.1 ?_
  refine wp_aload_0 d44_24 ?_
  refine wp_aload_1 d44_25 ?_
  refine wp_get d44_26 (by decide) kU.1 gFu rfl ?_
  refine wp_putIP d44_29 kW.1 ?_
  refine wp_iconst d44_32 ic_0 ?_
  refine wp_istore_2 d44_33 (Nat.le_of_ble_eq_true rfl) rfl ?_
  exact K

end S22_wy1
