section S20_tr1
variable {σ : Sto} {t : Nat} {st me tr wa mi : Int32} {ade afo aki asr ale ato afi adu : List Int32}

theorem t_payAt (kT : KT σ t) {ki fi : Nat → Nat} {p dp : Nat} (hp : p < 5) (hf : fi p < 5) (hf1 : p ≠ 0 → fi (p - 1) < 5) (hk : ki (fi p) < 5) (hk1 : p ≠ 0 → ki (fi (p - 1)) < 5) (hdp : dp < 100) : Ev 0 0 0 33 [.ref t, .int (nI p), .int (nI dp)] (put σ t (t + 1) (trF t st me tr wa mi) (trA ade afo (arr 5 ki) asr ale ato (arr 5 fi) adu)) (some (.int (nI (payN ki fi p dp)))) (put σ t (t + 1) (trF t st me tr wa mi) (trA ade afo (arr 5 ki) asr ale ato (arr 5 fi) adu)) := by
  have join : ∀ (h : Nat), h ≤ 4 → WP 0 0 0 33 62 [.ref t, .int (nI p), .int (nI dp), .int (nI (ki (fi p))), .int (nI h)] [] (put σ t (t + 1) (trF t st me tr wa mi) (trA ade afo (arr 5 ki) asr ale ato (arr 5 fi) adu)) (some (.int (nI ((dp + 2 ^ h - 1) / 2 ^ h)))) (put σ t (t + 1) (trF t st me tr wa mi) (trA ade afo (arr 5 ki) asr ale ato (arr 5 fi) adu)) := by
    intro h hh
    have b1 : 1 ≤ 2 ^ h := Nat.one_le_two_pow
    have b2 : 2 ^ h ≤ 2 ^ 4 := Nat.pow_le_pow_right (by decide) hh
    refine wp_iload_2 d33_62 ?_
    refine wp_iconst d33_63 ic_1 ?_
    refine wp_iload_4 d33_64 ?_
    refine wp_ishlN d33_66 (by omega) (by omega) ?_
    rw [Nat.one_mul]
    refine wp_iaddN d33_67 ?_
    refine wp_iconst d33_68 ic_1 ?_
    refine wp_isubN d33_69 (by omega) ?_
    refine wp_iload_4 d33_70 ?_
    refine wp_ishrN d33_72 (by omega) (by omega) ?_
    exact wp_iret d33_73 rfl rfl rfl
  refine ev_of (L := [(.ref t), (.int (nI p)), (.int (nI dp)), .null, .null]) (by decide) rfl (Nat.le_of_ble_eq_true rfl) ?_
  refine wp_aload_0 d33_0 ?_
  refine wp_getP d33_1 (Nat.le_of_ble_eq_true rfl) kT.1 rfl ?_
  refine wp_aload_0 d33_4 ?_
  refine wp_getP d33_5 (Nat.le_of_ble_eq_true rfl) kT.1 rfl ?_
  refine wp_iload_1 d33_8 ?_
  refine wp_aldP d33_9 (kT.2 _ (Nat.le_of_ble_eq_true rfl)) rfl (by omega) (by decide) ?_
  refine wp_aldP d33_10 (kT.2 _ (Nat.le_of_ble_eq_true rfl)) rfl (by omega) (by decide) ?_
  refine wp_istore_3 d33_11 (Nat.le_of_ble_eq_true rfl) rfl ?_
  refine wp_iload_1 d33_12 ?_
  refine wp_istore_4 d33_13 (Nat.le_of_ble_eq_true rfl) rfl ?_
  refine wp_iload_1 d33_15 ?_
  refine wp_if_neN d33_16 (by decide) (by omega) (fun h16 => ?_) (fun h16 => ?_)
  · have := hf1 h16
    have := hk1 h16
    refine wp_iload_3 d33_35 ?_
    refine wp_iconst d33_36 ic_1 ?_
    refine wp_icmp_neN d33_37 (by decide) (by omega) (by omega) (fun h37 => ?_) (fun h37 => ?_)
    · refine WP.r ?_ (join p (by omega))
      simp [payN, hvN, h16, h37]
    · refine wp_aload_0 d33_40 ?_
      refine wp_getP d33_41 (Nat.le_of_ble_eq_true rfl) kT.1 rfl ?_
      refine wp_aload_0 d33_44 ?_
      refine wp_getP d33_45 (Nat.le_of_ble_eq_true rfl) kT.1 rfl ?_
      refine wp_iload_1 d33_48 ?_
      refine wp_iconst d33_49 ic_1 ?_
      refine wp_isubN d33_50 (by omega) ?_
      refine wp_aldP d33_51 (kT.2 _ (Nat.le_of_ble_eq_true rfl)) rfl (by omega) (by decide) ?_
      refine wp_aldP d33_52 (kT.2 _ (Nat.le_of_ble_eq_true rfl)) rfl (by omega) (by decide) ?_
      refine wp_iconst d33_53 ic_4 ?_
      refine wp_icmp_neN d33_54 (by decide) (by omega) (by omega) (fun h54 => ?_) (fun h54 => ?_)
      · refine WP.r ?_ (join p (by omega))
        simp [payN, hvN, h16, h37, h54]
      · refine wp_iload_1 d33_57 ?_
        refine wp_iconst d33_58 ic_1 ?_
        refine wp_isubN d33_59 (by omega) ?_
        refine wp_istore_4 d33_60 (Nat.le_of_ble_eq_true rfl) rfl ?_
        refine WP.r ?_ (join (p - 1) (by omega))
        simp [payN, hvN, h16, h37, h54]
  · subst h16
    have yes : 2 < ki (fi 0) → WP 0 0 0 33 29 [.ref t, .int (nI 0), .int (nI dp), .int (nI (ki (fi 0))), .int (nI 0)] [] (put σ t (t + 1) (trF t st me tr wa mi) (trA ade afo (arr 5 ki) asr ale ato (arr 5 fi) adu)) (some (.int (nI (payN ki fi 0 dp)))) (put σ t (t + 1) (trF t st me tr wa mi) (trA ade afo (arr 5 ki) asr ale ato (arr 5 fi) adu)) := by
      intro h
      refine wp_iconst d33_29 ic_1 ?_
      refine wp_istore_4 d33_30 (Nat.le_of_ble_eq_true rfl) rfl ?_
      refine wp_goto d33_32 (by decide) ?_
      refine WP.r ?_ (join 1 (by omega))
      simp [payN, hvN, h]
    refine wp_iload_3 d33_19 ?_
    refine wp_iconst d33_20 ic_3 ?_
    refine wp_icmp_eqN d33_21 (by decide) (by omega) (by omega) (fun h21 => ?_) (fun h21 => ?_)
    · exact yes (by omega)
    · refine wp_iload_3 d33_24 ?_
      refine wp_iconst d33_25 ic_4 ?_
      refine wp_icmp_neN d33_26 (by decide) (by omega) (by omega) (fun h26 => ?_) (fun h26 => ?_)
      · refine WP.r ?_ (join 0 (by omega))
        simp [payN, hvN, show ¬ 2 < ki (fi 0) by omega]
      · exact yes (by omega)
theorem t_reckonDues (kT : KT σ t) {trN stN w : Nat} {ki fi le de du : Nat → Nat} (h1 : trN < stN) (h6 : stN ≤ 6) (hf : PF w fi) (hw5 : w ≤ 5) (hk : ∀ v, v < w → ki v < 5) (hl : ∀ v, v < w → le v < 1000) (hd : de trN < 100) : ∃ du' : Nat → Nat, (canN ki fi le (de trN) w = true → ∀ p, p < w → du' (fi p) = payN ki fi p (de trN)) ∧ Ev 1 0 0 35 [.ref t] (put σ t (t + 1) (trF t st me (nI trN) (nI w) mi) (trA (arr 6 de) afo (arr 5 ki) asr (arr 5 le) ato (arr 5 fi) (arr 5 du))) (some (.int (bi (canN ki fi le (de trN) w)))) (put σ t (t + 1) (trF t st me (nI trN) (nI w) mi) (trA (arr 6 de) afo (arr 5 ki) asr (arr 5 le) ato (arr 5 fi) (arr 5 du'))) := by
  have loop : ∀ (n k : Nat) (f : Nat → Nat) (u2 : Value), k + n = w → canN ki fi le (de trN) k = true → (∀ p, p < k → f (fi p) = payN ki fi p (de trN)) → ∃ du' : Nat → Nat, (canN ki fi le (de trN) w = true → ∀ p, p < w → du' (fi p) = payN ki fi p (de trN)) ∧ WP 1 0 0 35 2 [.ref t, .int (nI k), u2] [] (put σ t (t + 1) (trF t st me (nI trN) (nI w) mi) (trA (arr 6 de) afo (arr 5 ki) asr (arr 5 le) ato (arr 5 fi) (arr 5 f))) (some (.int (bi (canN ki fi le (de trN) w)))) (put σ t (t + 1) (trF t st me (nI trN) (nI w) mi) (trA (arr 6 de) afo (arr 5 ki) asr (arr 5 le) ato (arr 5 fi) (arr 5 du'))) := by
    intro n
    induction n with
    | zero =>
      intro k f u2 hk' hc hf'
      have e : k = w := by omega
      subst e
      refine ⟨f, fun _ => hf', ?_⟩
      rw [hc]
      refine wp_iload_1 d35_2 ?_
      refine wp_aload_0 d35_3 ?_
      refine wp_getP d35_4 (Nat.le_of_ble_eq_true rfl) kT.1 rfl ?_
      refine wp_icmp_geN d35_7 (by decide) (by omega) (by omega) (fun h7 => ?_) (fun hq => absurd hq (by omega))
      refine wp_iconst d35_60 ic_1 ?_
      exact wp_zret d35_61 rfl (by first | exact nI_01 | exact nI_11 | exact bi_01 _) rfl rfl
    | succ n ih =>
      intro k f u2 hk' hc hf'
      have b1 := hf.1 k (by omega)
      have b2 := hk (fi k) (by omega)
      have b3 := hl (fi k) (by omega)
      have b4 : k ≠ 0 → fi (k - 1) < 5 := fun z => by have := hf.1 (k - 1) (by omega); omega
      have b5 : k ≠ 0 → ki (fi (k - 1)) < 5 := fun z => hk _ (hf.1 (k - 1) (by omega))
      have b6 := payN_le (ki := ki) (fi := fi) (p := k) (dp := de trN)
      by_cases hc2 : payN ki fi k (de trN) ≤ le (fi k)
      · obtain ⟨du', hdu, K⟩ := ih (k + 1) (up f (fi k) (payN ki fi k (de trN))) (.int (nI (fi k))) (by omega) (by simp [canN, hc, hc2]) (fun p hp => by
          unfold up
          by_cases e : fi p = fi k
          · have := hf.2.1 p k (by omega) (by omega) e
            subst this
            rw [if_pos rfl]
          · rw [if_neg e]
            refine hf' p ?_
            have : p ≠ k := fun z => e (by rw [z])
            omega)
        refine ⟨du', hdu, ?_⟩
        refine wp_iload_1 d35_2 ?_
        refine wp_aload_0 d35_3 ?_
        refine wp_getP d35_4 (Nat.le_of_ble_eq_true rfl) kT.1 rfl ?_
        refine wp_icmp_geN d35_7 (by decide) (by omega) (by omega) (fun hq => absurd hq (by omega)) (fun h7 => ?_)
        refine wp_aload_0 d35_10 ?_
        refine wp_getP d35_11 (Nat.le_of_ble_eq_true rfl) kT.1 rfl ?_
        refine wp_iload_1 d35_14 ?_
        refine wp_aldP d35_15 (kT.2 _ (Nat.le_of_ble_eq_true rfl)) rfl (by omega) (by decide) ?_
        refine wp_istore_2 d35_16 (Nat.le_of_ble_eq_true rfl) rfl ?_
        refine wp_aload_0 d35_17 ?_
        refine wp_getP d35_18 (Nat.le_of_ble_eq_true rfl) kT.1 rfl ?_
        refine wp_iload_2 d35_21 ?_
        refine wp_aload_0 d35_22 ?_
        refine wp_iload_1 d35_23 ?_
        refine wp_aload_0 d35_24 ?_
        refine wp_getP d35_25 (Nat.le_of_ble_eq_true rfl) kT.1 rfl ?_
        refine wp_aload_0 d35_28 ?_
        refine wp_getP d35_29 (Nat.le_of_ble_eq_true rfl) kT.1 rfl ?_
        refine wp_aldP d35_32 (kT.2 _ (Nat.le_of_ble_eq_true rfl)) rfl (by omega) (by decide) ?_
        refine wp_V2r d35_33 kT.1 ((t_payAt kT (by omega) (by omega) b4 b2 b5 hd)) (Nat.le_of_ble_eq_true rfl) (Nat.le_of_ble_eq_true rfl) ?_
        refine wp_astN d35_36 (kT.2 _ (Nat.le_of_ble_eq_true rfl)) rfl (by omega) (by decide) ?_
        refine wp_aload_0 d35_37 ?_
        refine wp_getP d35_38 (Nat.le_of_ble_eq_true rfl) kT.1 rfl ?_
        refine wp_iload_2 d35_41 ?_
        refine wp_aldP d35_42 (kT.2 _ (Nat.le_of_ble_eq_true rfl)) rfl (by omega) (by decide) ?_
        refine wp_aload_0 d35_43 ?_
        refine wp_getP d35_44 (Nat.le_of_ble_eq_true rfl) kT.1 rfl ?_
        refine wp_iload_2 d35_47 ?_
        refine wp_aldP d35_48 (kT.2 _ (Nat.le_of_ble_eq_true rfl)) rfl (by omega) (by decide) ?_
        rw [up_s]
        refine wp_icmp_geN d35_49 (by decide) (by omega) (by omega) (fun h49 => ?_) (fun hq => absurd hq (by omega))
        refine wp_iinc_1 d35_54 (Nat.le_of_ble_eq_true rfl) rfl (inc1 _) ?_
        refine wp_goto d35_57 (by decide) ?_
        exact K
      · refine ⟨up f (fi k) (payN ki fi k (de trN)), fun z => absurd (canN_at z (show k < w by omega)) hc2, ?_⟩
        rw [canN_false (show k < w by omega) hc2]
        refine wp_iload_1 d35_2 ?_
        refine wp_aload_0 d35_3 ?_
        refine wp_getP d35_4 (Nat.le_of_ble_eq_true rfl) kT.1 rfl ?_
        refine wp_icmp_geN d35_7 (by decide) (by omega) (by omega) (fun hq => absurd hq (by omega)) (fun h7 => ?_)
        refine wp_aload_0 d35_10 ?_
        refine wp_getP d35_11 (Nat.le_of_ble_eq_true rfl) kT.1 rfl ?_
        refine wp_iload_1 d35_14 ?_
        refine wp_aldP d35_15 (kT.2 _ (Nat.le_of_ble_eq_true rfl)) rfl (by omega) (by decide) ?_
        refine wp_istore_2 d35_16 (Nat.le_of_ble_eq_true rfl) rfl ?_
        refine wp_aload_0 d35_17 ?_
        refine wp_getP d35_18 (Nat.le_of_ble_eq_true rfl) kT.1 rfl ?_
        refine wp_iload_2 d35_21 ?_
        refine wp_aload_0 d35_22 ?_
        refine wp_iload_1 d35_23 ?_
        refine wp_aload_0 d35_24 ?_
        refine wp_getP d35_25 (Nat.le_of_ble_eq_true rfl) kT.1 rfl ?_
        refine wp_aload_0 d35_28 ?_
        refine wp_getP d35_29 (Nat.le_of_ble_eq_true rfl) kT.1 rfl ?_
        refine wp_aldP d35_32 (kT.2 _ (Nat.le_of_ble_eq_true rfl)) rfl (by omega) (by decide) ?_
        refine wp_V2r d35_33 kT.1 ((t_payAt kT (by omega) (by omega) b4 b2 b5 hd)) (Nat.le_of_ble_eq_true rfl) (Nat.le_of_ble_eq_true rfl) ?_
        refine wp_astN d35_36 (kT.2 _ (Nat.le_of_ble_eq_true rfl)) rfl (by omega) (by decide) ?_
        refine wp_aload_0 d35_37 ?_
        refine wp_getP d35_38 (Nat.le_of_ble_eq_true rfl) kT.1 rfl ?_
        refine wp_iload_2 d35_41 ?_
        refine wp_aldP d35_42 (kT.2 _ (Nat.le_of_ble_eq_true rfl)) rfl (by omega) (by decide) ?_
        refine wp_aload_0 d35_43 ?_
        refine wp_getP d35_44 (Nat.le_of_ble_eq_true rfl) kT.1 rfl ?_
        refine wp_iload_2 d35_47 ?_
        refine wp_aldP d35_48 (kT.2 _ (Nat.le_of_ble_eq_true rfl)) rfl (by omega) (by decide) ?_
        rw [up_s]
        refine wp_icmp_geN d35_49 (by decide) (by omega) (by omega) (fun hq => absurd hq (by omega)) (fun h49 => ?_)
        refine wp_iconst d35_52 ic_0 ?_
        exact wp_zret d35_53 rfl (by first | exact nI_01 | exact nI_11 | exact bi_01 _) rfl rfl
  obtain ⟨du', hdu, K⟩ := loop w 0 du .null (by omega) rfl (fun p hp => by omega)
  refine ⟨du', hdu, ?_⟩
  refine ev_of (L := [(.ref t), .null, .null]) (by decide) rfl (Nat.le_of_ble_eq_true rfl) ?_
  refine wp_iconst d35_0 ic_0 ?_
  refine wp_istore_1 d35_1 (Nat.le_of_ble_eq_true rfl) rfl ?_
  exact K
theorem t_treadNext (kT : KT σ t) {trN stN w : Nat} {ki fi le de du : Nat → Nat} {fo : Nat → Option Nat} (h1 : trN ≤ stN) (h6 : stN ≤ 6) (hf : PF w fi) (hw5 : w ≤ 5) (hk : ∀ v, v < w → ki v < 5) (hl : ∀ v, v < w → le v < 1000) (hd : ∀ k, k < stN → de k < 100) (hfo : ∀ k, k < trN → ∀ j, fo k = some j → j < 2 ^ 31) : ∃ du' : Nat → Nat, Ev 2 0 0 34 [.ref t] (put σ t (t + 1) (trF t (nI stN) me (nI trN) (nI w) mi) (trA (arr 6 de) (arO 6 fo) (arr 5 ki) asr (arr 5 le) ato (arr 5 fi) (arr 5 du))) (some (.int (bi (okT w stN trN ki fi le de)))) (put σ t (t + 1) (trF t (nI stN) me (nI (if okT w stN trN ki fi le de then trN + 1 else trN)) (nI w) (if okT w stN trN ki fi le de then miT ki fi trN de fo mi else mi)) (trA (arr 6 de) (arO 6 (if okT w stN trN ki fi le de then up fo trN (some (fi 0)) else fo)) (arr 5 ki) asr (arr 5 (if okT w stN trN ki fi le de then trS ki fi (de trN) le w else le)) ato (arr 5 fi) (arr 5 du'))) := by
  by_cases hw0 : w = 0
  · refine ⟨du, ?_⟩
    rw [show okT w stN trN ki fi le de = false by simp [okT, hw0]]
    subst hw0
    refine ev_of (L := [(.ref t), .null, .null, .null]) (by decide) rfl (Nat.le_of_ble_eq_true rfl) ?_
    refine wp_aload_0 d34_0 ?_
    refine wp_getP d34_1 (Nat.le_of_ble_eq_true rfl) kT.1 rfl ?_
    refine wp_if_eqN d34_4 (by decide) (by omega) (fun h4 => ?_) (fun hq => absurd hq (by omega))
    refine wp_iconst d34_25 ic_0 ?_
    exact wp_zret d34_26 rfl (by first | exact nI_01 | exact nI_11 | exact bi_01 _) rfl rfl
  by_cases hts : trN = stN
  · refine ⟨du, ?_⟩
    rw [show okT w stN trN ki fi le de = false by simp [okT, hts]]
    refine ev_of (L := [(.ref t), .null, .null, .null]) (by decide) rfl (Nat.le_of_ble_eq_true rfl) ?_
    refine wp_aload_0 d34_0 ?_
    refine wp_getP d34_1 (Nat.le_of_ble_eq_true rfl) kT.1 rfl ?_
    refine wp_if_eqN d34_4 (by decide) (by omega) (fun hq => absurd hq (by omega)) (fun h4 => ?_)
    refine wp_aload_0 d34_7 ?_
    refine wp_getP d34_8 (Nat.le_of_ble_eq_true rfl) kT.1 rfl ?_
    refine wp_aload_0 d34_11 ?_
    refine wp_getP d34_12 (Nat.le_of_ble_eq_true rfl) kT.1 rfl ?_
    refine wp_icmp_geN d34_15 (by decide) (by omega) (by omega) (fun h15 => ?_) (fun hq => absurd hq (by omega))
    refine wp_iconst d34_25 ic_0 ?_
    exact wp_zret d34_26 rfl (by first | exact nI_01 | exact nI_11 | exact bi_01 _) rfl rfl
  have hdt := hd trN (by omega)
  obtain ⟨du', hdu, K⟩ := t_reckonDues kT (du := du) (st := nI stN) (me := me) (mi := mi) (afo := arO 6 fo) (asr := asr) (ato := ato) (stN := stN) (by omega) h6 hf hw5 hk hl hdt
  refine ⟨du', ?_⟩
  by_cases hc : canN ki fi le (de trN) w = true
  · have hdu := hdu hc
    rw [show okT w stN trN ki fi le de = true by simp [okT, hw0, hts, hc]]
    simp only [if_true]
    have b0 := hf.1 0 (by omega)
    have b1 := hk (fi 0) b0
    have hle : ∀ v, v < w → du' v ≤ le v := by
      intro v hv
      obtain ⟨p, hp, rfl⟩ := hf.2.2 v hv
      rw [hdu p hp]
      exact canN_at hc hp
    have tail : ∀ (p : Bool) (u3 : Value) (x : Int32), (decide (0 < trN) && decide (fo (trN - 1) = some (fi 0))) = p → WP 2 0 0 34 93 [.ref t, .int (nI (fi 0)), .int (bi p), u3] [] (put σ t (t + 1) (trF t (nI stN) me (nI trN) (nI w) mi) (trA (arr 6 de) (arO 6 fo) (arr 5 ki) asr (arr 5 (trS ki fi (de trN) le w)) ato (arr 5 fi) (arr 5 du'))) (some (.int (bi true))) (put σ t (t + 1) (trF t (nI stN) me (nI (trN + 1)) (nI w) (miT ki fi trN de fo mi)) (trA (arr 6 de) (arO 6 (up fo trN (some (fi 0)))) (arr 5 ki) asr (arr 5 (trS ki fi (de trN) le w)) ato (arr 5 fi) (arr 5 du'))) := by
      intro p u3 x hp
      have last : ∀ y : Int32, y = miT ki fi trN de fo mi → WP 2 0 0 34 139 [.ref t, .int (nI (fi 0)), .int (bi p), u3] [] (put σ t (t + 1) (trF t (nI stN) me (nI trN) (nI w) (y)) (trA (arr 6 de) (arO 6 fo) (arr 5 ki) asr (arr 5 (trS ki fi (de trN) le w)) ato (arr 5 fi) (arr 5 du'))) (some (.int (bi true))) (put σ t (t + 1) (trF t (nI stN) me (nI (trN + 1)) (nI w) (miT ki fi trN de fo mi)) (trA (arr 6 de) (arO 6 (up fo trN (some (fi 0)))) (arr 5 ki) asr (arr 5 (trS ki fi (de trN) le w)) ato (arr 5 fi) (arr 5 du'))) := by
        intro y hy
        subst hy
        refine wp_aload_0 d34_139 ?_
        refine wp_getP d34_140 (Nat.le_of_ble_eq_true rfl) kT.1 rfl ?_
        refine wp_aload_0 d34_143 ?_
        refine wp_getP d34_144 (Nat.le_of_ble_eq_true rfl) kT.1 rfl ?_
        refine wp_iload_1 d34_147 ?_
        refine wp_astO (x := some (fi 0)) d34_148 (kT.2 _ (Nat.le_of_ble_eq_true rfl)) rfl (by omega) (by decide) ?_
        refine wp_aload_0 d34_149 ?_
        refine wp_dup d34_150 rfl ?_
        refine wp_getP d34_151 (Nat.le_of_ble_eq_true rfl) kT.1 rfl ?_
        refine wp_iconst d34_154 ic_1 ?_
        refine wp_iaddN d34_155 ?_
        refine wp_putIP d34_156 kT.1 ?_
        refine wp_iconst d34_159 ic_1 ?_
        exact wp_zret d34_160 rfl (by first | exact nI_01 | exact nI_11 | exact bi_01 _) rfl rfl
      refine wp_aload_0 d34_93 ?_
      refine wp_dup d34_94 rfl ?_
      refine wp_getP d34_95 (Nat.le_of_ble_eq_true rfl) kT.1 rfl ?_
      refine wp_iconst d34_98 ic_2 ?_
      refine wp_aload_0 d34_99 ?_
      refine wp_getP d34_100 (Nat.le_of_ble_eq_true rfl) kT.1 rfl ?_
      refine wp_aload_0 d34_103 ?_
      refine wp_getP d34_104 (Nat.le_of_ble_eq_true rfl) kT.1 rfl ?_
      refine wp_aldP d34_107 (kT.2 _ (Nat.le_of_ble_eq_true rfl)) rfl (by omega) (by decide) ?_
      refine wp_iconst d34_108 ic_3 ?_
      refine wp_idivN d34_109 (by omega) (by omega) (by omega) ?_
      refine wp_iaddN d34_110 ?_
      refine wp_iadd d34_111 ?_
      refine wp_putIP d34_112 kT.1 ?_
      refine wp_iload_2 d34_115 ?_
      refine wp_if_eqB d34_116 (by decide) (fun h116 => ?_) (fun h116 => ?_)
      · refine last _ ?_
        unfold miT
        rw [show prd ki fi trN fo = false by simp only [prd, Bool.and_assoc, hp, h116, Bool.and_false]]
        rfl
      · refine wp_aload_0 d34_119 ?_
        refine wp_getP d34_120 (Nat.le_of_ble_eq_true rfl) kT.1 rfl ?_
        refine wp_iload_1 d34_123 ?_
        refine wp_aldP d34_124 (kT.2 _ (Nat.le_of_ble_eq_true rfl)) rfl (by omega) (by decide) ?_
        refine wp_iconst d34_125 ic_2 ?_
        refine wp_icmp_neN d34_126 (by decide) (by omega) (by omega) (fun h126 => ?_) (fun h126 => ?_)
        · refine last _ ?_
          unfold miT
          rw [show prd ki fi trN fo = false by simp [prd, h126]]
          rfl
        · refine wp_aload_0 d34_129 ?_
          refine wp_dup d34_130 rfl ?_
          refine wp_getP d34_131 (Nat.le_of_ble_eq_true rfl) kT.1 rfl ?_
          refine wp_iconst d34_134 ic_2 ?_
          refine wp_iadd d34_135 ?_
          refine wp_putIP d34_136 kT.1 ?_
          refine last _ ?_
          unfold miT
          rw [show prd ki fi trN fo = true by simp only [prd, Bool.and_assoc, hp, h116, h126, decide_true, Bool.and_self], Int32.add_assoc, nI_add]
          rfl
    have loop : ∀ (p : Bool) (n k : Nat) (f : Nat → Nat), (decide (0 < trN) && decide (fo (trN - 1) = some (fi 0))) = p → k + n = w → (∀ v, f v = if v < k then le v - du' v else le v) → WP 2 0 0 34 64 [.ref t, .int (nI (fi 0)), .int (bi p), .int (nI k)] [] (put σ t (t + 1) (trF t (nI stN) me (nI trN) (nI w) mi) (trA (arr 6 de) (arO 6 fo) (arr 5 ki) asr (arr 5 f) ato (arr 5 fi) (arr 5 du'))) (some (.int (bi true))) (put σ t (t + 1) (trF t (nI stN) me (nI (trN + 1)) (nI w) (miT ki fi trN de fo mi)) (trA (arr 6 de) (arO 6 (up fo trN (some (fi 0)))) (arr 5 ki) asr (arr 5 (trS ki fi (de trN) le w)) ato (arr 5 fi) (arr 5 du'))) := by
      intro p n
      induction n with
      | zero =>
        intro k f hp hk' hf'
        have e : k = w := by omega
        subst e
        rw [show f = trS ki fi (de trN) le k by funext v; rw [hf', trS_eq hf hdu]]
        refine wp_iload_3 d34_64 ?_
        refine wp_aload_0 d34_65 ?_
        refine wp_getP d34_66 (Nat.le_of_ble_eq_true rfl) kT.1 rfl ?_
        refine wp_icmp_geN d34_69 (by decide) (by omega) (by omega) (fun h69 => ?_) (fun hq => absurd hq (by omega))
        exact tail p _ 0 hp
      | succ n ih =>
        intro k f hp hk' hf'
        have b2 := hle k (by omega)
        have b3 : f k = le k := by rw [hf']; simp
        refine wp_iload_3 d34_64 ?_
        refine wp_aload_0 d34_65 ?_
        refine wp_getP d34_66 (Nat.le_of_ble_eq_true rfl) kT.1 rfl ?_
        refine wp_icmp_geN d34_69 (by decide) (by omega) (by omega) (fun hq => absurd hq (by omega)) (fun h69 => ?_)
        refine wp_aload_0 d34_72 ?_
        refine wp_getP d34_73 (Nat.le_of_ble_eq_true rfl) kT.1 rfl ?_
        refine wp_iload_3 d34_76 ?_
        refine wp_dup2 d34_77 rfl rfl ?_
        refine wp_aldP d34_78 (kT.2 _ (Nat.le_of_ble_eq_true rfl)) rfl (by omega) (by decide) ?_
        refine wp_aload_0 d34_79 ?_
        refine wp_getP d34_80 (Nat.le_of_ble_eq_true rfl) kT.1 rfl ?_
        refine wp_iload_3 d34_83 ?_
        refine wp_aldP d34_84 (kT.2 _ (Nat.le_of_ble_eq_true rfl)) rfl (by omega) (by decide) ?_
        refine wp_isubN d34_85 (by omega) ?_
        refine wp_astN d34_86 (kT.2 _ (Nat.le_of_ble_eq_true rfl)) rfl (by omega) (by decide) ?_
        refine wp_iinc_3 d34_87 (Nat.le_of_ble_eq_true rfl) rfl (inc1 _) ?_
        refine wp_goto d34_90 (by decide) ?_
        refine ih (k + 1) _ hp (by omega) (fun v => ?_)
        unfold up
        rw [hf' v, b3]
        grind
    refine ev_of (L := [(.ref t), .null, .null, .null]) (by decide) rfl (Nat.le_of_ble_eq_true rfl) ?_
    refine wp_aload_0 d34_0 ?_
    refine wp_getP d34_1 (Nat.le_of_ble_eq_true rfl) kT.1 rfl ?_
    refine wp_if_eqN d34_4 (by decide) (by omega) (fun hq => absurd hq (by omega)) (fun h4 => ?_)
    refine wp_aload_0 d34_7 ?_
    refine wp_getP d34_8 (Nat.le_of_ble_eq_true rfl) kT.1 rfl ?_
    refine wp_aload_0 d34_11 ?_
    refine wp_getP d34_12 (Nat.le_of_ble_eq_true rfl) kT.1 rfl ?_
    refine wp_icmp_geN d34_15 (by decide) (by omega) (by omega) (fun hq => absurd hq (by omega)) (fun h15 => ?_)
    refine wp_aload_0 d34_18 ?_
    refine wp_V0r d34_19 kT.1 ((K)) (Nat.le_of_ble_eq_true rfl) (Nat.le_of_ble_eq_true rfl) ?_
    refine wp_if_neB d34_22 (by decide) (fun h22 => ?_) (fun hq => absurd hq (fun hq => absurd (hq.symm.trans hc) (by decide)))
    refine wp_aload_0 d34_27 ?_
    refine wp_getP d34_28 (Nat.le_of_ble_eq_true rfl) kT.1 rfl ?_
    refine wp_iconst d34_31 ic_0 ?_
    refine wp_aldP d34_32 (kT.2 _ (Nat.le_of_ble_eq_true rfl)) rfl (by omega) (by decide) ?_
    refine wp_istore_1 d34_33 (Nat.le_of_ble_eq_true rfl) rfl ?_
    refine wp_aload_0 d34_34 ?_
    refine wp_getP d34_35 (Nat.le_of_ble_eq_true rfl) kT.1 rfl ?_
    refine wp_if_leN d34_38 (by decide) (by omega) (fun h38 => ?_) (fun h38 => ?_)
    · refine wp_iconst d34_60 ic_0 ?_
      refine wp_istore_2 d34_61 (Nat.le_of_ble_eq_true rfl) rfl ?_
      refine wp_iconst d34_62 ic_0 ?_
      refine wp_istore_3 d34_63 (Nat.le_of_ble_eq_true rfl) rfl ?_
      exact loop false w 0 le (by simp [h38]) (by omega) (fun v => by simp)
    · refine wp_aload_0 d34_41 ?_
      refine wp_getP d34_42 (Nat.le_of_ble_eq_true rfl) kT.1 rfl ?_
      refine wp_aload_0 d34_45 ?_
      refine wp_getP d34_46 (Nat.le_of_ble_eq_true rfl) kT.1 rfl ?_
      refine wp_iconst d34_49 ic_1 ?_
      refine wp_isubN d34_50 (by omega) ?_
      refine wp_aldP d34_51 (kT.2 _ (Nat.le_of_ble_eq_true rfl)) rfl (by omega) (by decide) ?_
      refine wp_iload_1 d34_52 ?_
      have hbo := hfo (trN - 1) (by omega)
      refine wp_icmp_ne d34_53 (by decide) (fun h53 => ?_) (fun h53 => ?_)
      · refine wp_iconst d34_60 ic_0 ?_
        refine wp_istore_2 d34_61 (Nat.le_of_ble_eq_true rfl) rfl ?_
        refine wp_iconst d34_62 ic_0 ?_
        refine wp_istore_3 d34_63 (Nat.le_of_ble_eq_true rfl) rfl ?_
        exact loop false w 0 le (by simp; intro _ z; exact h53 ((eo_some (by omega) hbo).mpr z)) (by omega) (fun v => by simp)
      · refine wp_iconst d34_56 ic_1 ?_
        refine wp_goto d34_57 (by decide) ?_
        refine wp_istore_2 d34_61 (Nat.le_of_ble_eq_true rfl) rfl ?_
        refine wp_iconst d34_62 ic_0 ?_
        refine wp_istore_3 d34_63 (Nat.le_of_ble_eq_true rfl) rfl ?_
        have z := (eo_some (by omega) hbo).mp h53
        exact loop true w 0 le (by simp [z]; omega) (by omega) (fun v => by simp)
  · have hc' : canN ki fi le (de trN) w = false := by simpa using hc
    rw [show okT w stN trN ki fi le de = false by simp [okT, hc']]
    refine ev_of (L := [(.ref t), .null, .null, .null]) (by decide) rfl (Nat.le_of_ble_eq_true rfl) ?_
    refine wp_aload_0 d34_0 ?_
    refine wp_getP d34_1 (Nat.le_of_ble_eq_true rfl) kT.1 rfl ?_
    refine wp_if_eqN d34_4 (by decide) (by omega) (fun hq => absurd hq (by omega)) (fun h4 => ?_)
    refine wp_aload_0 d34_7 ?_
    refine wp_getP d34_8 (Nat.le_of_ble_eq_true rfl) kT.1 rfl ?_
    refine wp_aload_0 d34_11 ?_
    refine wp_getP d34_12 (Nat.le_of_ble_eq_true rfl) kT.1 rfl ?_
    refine wp_icmp_geN d34_15 (by decide) (by omega) (by omega) (fun hq => absurd hq (by omega)) (fun h15 => ?_)
    refine wp_aload_0 d34_18 ?_
    refine wp_V0r d34_19 kT.1 ((K)) (Nat.le_of_ble_eq_true rfl) (Nat.le_of_ble_eq_true rfl) ?_
    refine wp_if_neB d34_22 (by decide) (fun hq => absurd hq (fun hq => hc hq)) (fun h22 => ?_)
    refine wp_iconst d34_25 ic_0 ?_
    exact wp_zret d34_26 rfl (by first | exact nI_01 | exact nI_11 | exact bi_01 _) rfl rfl
theorem t_changeFirst (kT : KT σ t) {w : Nat} {fi : Nat → Nat} (h5 : w ≤ 5) : Ev 0 0 0 36 [.ref t] (put σ t (t + 1) (trF t st me tr (nI w) mi) (trA ade afo aki asr ale ato (arr 5 fi) adu)) none (put σ t (t + 1) (trF t st me tr (nI w) (if w = 0 then mi else mi + nI 1)) (trA ade afo aki asr ale ato (arr 5 (if w = 0 then fi else rot w fi)) adu)) := by
  by_cases hw0 : w = 0
  · rw [if_pos hw0, if_pos hw0]
    subst hw0
    refine ev_of (L := [(.ref t), .null, .null]) (by decide) rfl (Nat.le_of_ble_eq_true rfl) ?_
    refine wp_aload_0 d36_0 ?_
    refine wp_getP d36_1 (Nat.le_of_ble_eq_true rfl) kT.1 rfl ?_
    refine wp_if_neN d36_4 (by decide) (by omega) (fun hq => absurd hq (by omega)) (fun h4 => ?_)
    exact wp_vret d36_7 rfl rfl rfl
  · rw [if_neg hw0, if_neg hw0]
    have loop : ∀ (n k : Nat) (g : Nat → Nat), k + n = w → 1 ≤ k → (∀ j, g j = if j + 1 < k then fi (j + 1) else fi j) → WP 0 0 0 36 17 [.ref t, .int (nI (fi 0)), .int (nI k)] [] (put σ t (t + 1) (trF t st me tr (nI w) mi) (trA ade afo aki asr ale ato (arr 5 g) adu)) none (put σ t (t + 1) (trF t st me tr (nI w) (mi + nI 1)) (trA ade afo aki asr ale ato (arr 5 (rot w fi)) adu)) := by
      intro n
      induction n with
      | zero =>
        intro k g hk hk1 hg
        rw [show rot w fi = up g (w - 1) (fi 0) by funext j; unfold rot up; grind]
        refine wp_iload_2 d36_17 ?_
        refine wp_aload_0 d36_18 ?_
        refine wp_getP d36_19 (Nat.le_of_ble_eq_true rfl) kT.1 rfl ?_
        refine wp_icmp_geN d36_22 (by decide) (by omega) (by omega) (fun h22 => ?_) (fun hq => absurd hq (by omega))
        refine wp_aload_0 d36_45 ?_
        refine wp_getP d36_46 (Nat.le_of_ble_eq_true rfl) kT.1 rfl ?_
        refine wp_aload_0 d36_49 ?_
        refine wp_getP d36_50 (Nat.le_of_ble_eq_true rfl) kT.1 rfl ?_
        refine wp_iconst d36_53 ic_1 ?_
        refine wp_isubN d36_54 (by omega) ?_
        refine wp_iload_1 d36_55 ?_
        refine wp_astN d36_56 (kT.2 _ (Nat.le_of_ble_eq_true rfl)) rfl (by omega) (by decide) ?_
        refine wp_aload_0 d36_57 ?_
        refine wp_dup d36_58 rfl ?_
        refine wp_getP d36_59 (Nat.le_of_ble_eq_true rfl) kT.1 rfl ?_
        refine wp_iconst d36_62 ic_1 ?_
        refine wp_iadd d36_63 ?_
        refine wp_putIP d36_64 kT.1 ?_
        exact wp_vret d36_67 rfl rfl rfl
      | succ n ih =>
        intro k g hk hk1 hg
        refine wp_iload_2 d36_17 ?_
        refine wp_aload_0 d36_18 ?_
        refine wp_getP d36_19 (Nat.le_of_ble_eq_true rfl) kT.1 rfl ?_
        refine wp_icmp_geN d36_22 (by decide) (by omega) (by omega) (fun hq => absurd hq (by omega)) (fun h22 => ?_)
        refine wp_aload_0 d36_25 ?_
        refine wp_getP d36_26 (Nat.le_of_ble_eq_true rfl) kT.1 rfl ?_
        refine wp_iload_2 d36_29 ?_
        refine wp_iconst d36_30 ic_1 ?_
        refine wp_isubN d36_31 (by omega) ?_
        refine wp_aload_0 d36_32 ?_
        refine wp_getP d36_33 (Nat.le_of_ble_eq_true rfl) kT.1 rfl ?_
        refine wp_iload_2 d36_36 ?_
        refine wp_aldP d36_37 (kT.2 _ (Nat.le_of_ble_eq_true rfl)) rfl (by omega) (by decide) ?_
        refine wp_astN d36_38 (kT.2 _ (Nat.le_of_ble_eq_true rfl)) rfl (by omega) (by decide) ?_
        refine wp_iinc_2 d36_39 (Nat.le_of_ble_eq_true rfl) rfl (inc1 _) ?_
        refine wp_goto d36_42 (by decide) ?_
        exact ih (k + 1) _ (by omega) (by omega) (fun j => by unfold up; grind)
    refine ev_of (L := [(.ref t), .null, .null]) (by decide) rfl (Nat.le_of_ble_eq_true rfl) ?_
    refine wp_aload_0 d36_0 ?_
    refine wp_getP d36_1 (Nat.le_of_ble_eq_true rfl) kT.1 rfl ?_
    refine wp_if_neN d36_4 (by decide) (by omega) (fun h4 => ?_) (fun hq => absurd hq (by omega))
    refine wp_aload_0 d36_8 ?_
    refine wp_getP d36_9 (Nat.le_of_ble_eq_true rfl) kT.1 rfl ?_
    refine wp_iconst d36_12 ic_0 ?_
    refine wp_aldP d36_13 (kT.2 _ (Nat.le_of_ble_eq_true rfl)) rfl (by omega) (by decide) ?_
    refine wp_istore_1 d36_14 (Nat.le_of_ble_eq_true rfl) rfl ?_
    refine wp_iconst d36_15 ic_1 ?_
    refine wp_istore_2 d36_16 (Nat.le_of_ble_eq_true rfl) rfl ?_
    exact loop (w - 1) 1 fi (by omega) (by omega) (fun j => by grind)
theorem t_restAll (kT : KT σ t) {w : Nat} {sr le : Nat → Nat} (h5 : w ≤ 5) (hl : ∀ v, v < w → le v < 1000) (hs : ∀ v, v < w → sr v < 1000) : Ev 0 0 0 37 [.ref t] (put σ t (t + 1) (trF t st me tr (nI w) mi) (trA ade afo aki (arr 5 sr) (arr 5 le) ato afi adu)) (some (.int (nI (rcN sr le w)))) (put σ t (t + 1) (trF t st me tr (nI w) (mi + nI 5)) (trA ade afo aki (arr 5 sr) (arr 5 (rsN w sr le)) ato afi adu)) := by
  have loop : ∀ (n k : Nat) (f : Nat → Nat), k + n = w → (∀ v, f v = if v < k ∧ le v < sr v then le v + 1 else le v) → WP 0 0 0 37 4 [.ref t, .int (nI (rcN sr le k)), .int (nI k)] [] (put σ t (t + 1) (trF t st me tr (nI w) mi) (trA ade afo aki (arr 5 sr) (arr 5 f) ato afi adu)) (some (.int (nI (rcN sr le w)))) (put σ t (t + 1) (trF t st me tr (nI w) (mi + nI 5)) (trA ade afo aki (arr 5 sr) (arr 5 (rsN w sr le)) ato afi adu)) := by
    intro n
    induction n with
    | zero =>
      intro k f hk' hf
      have e : k = w := by omega
      subst e
      rw [show rsN k sr le = f by funext v; rw [hf]; rfl]
      refine wp_iload_2 d37_4 ?_
      refine wp_aload_0 d37_5 ?_
      refine wp_getP d37_6 (Nat.le_of_ble_eq_true rfl) kT.1 rfl ?_
      refine wp_icmp_geN d37_9 (by decide) (by omega) (by omega) (fun h9 => ?_) (fun hq => absurd hq (by omega))
      refine wp_aload_0 d37_46 ?_
      refine wp_dup d37_47 rfl ?_
      refine wp_getP d37_48 (Nat.le_of_ble_eq_true rfl) kT.1 rfl ?_
      refine wp_iconst d37_51 ic_5 ?_
      refine wp_iadd d37_52 ?_
      refine wp_putIP d37_53 kT.1 ?_
      refine wp_iload_1 d37_56 ?_
      exact wp_iret d37_57 rfl rfl rfl
    | succ n ih =>
      intro k f hk' hf
      have b1 := hl k (by omega)
      have b2 := hs k (by omega)
      have b3 : f k = le k := by rw [hf]; simp
      refine wp_iload_2 d37_4 ?_
      refine wp_aload_0 d37_5 ?_
      refine wp_getP d37_6 (Nat.le_of_ble_eq_true rfl) kT.1 rfl ?_
      refine wp_icmp_geN d37_9 (by decide) (by omega) (by omega) (fun hq => absurd hq (by omega)) (fun h9 => ?_)
      refine wp_aload_0 d37_12 ?_
      refine wp_getP d37_13 (Nat.le_of_ble_eq_true rfl) kT.1 rfl ?_
      refine wp_iload_2 d37_16 ?_
      refine wp_aldP d37_17 (kT.2 _ (Nat.le_of_ble_eq_true rfl)) rfl (by omega) (by decide) ?_
      rw [b3]
      refine wp_aload_0 d37_18 ?_
      refine wp_getP d37_19 (Nat.le_of_ble_eq_true rfl) kT.1 rfl ?_
      refine wp_iload_2 d37_22 ?_
      refine wp_aldP d37_23 (kT.2 _ (Nat.le_of_ble_eq_true rfl)) rfl (by omega) (by decide) ?_
      refine wp_icmp_geN d37_24 (by decide) (by omega) (by omega) (fun h24 => ?_) (fun h24 => ?_)
      · refine wp_iinc_2 d37_40 (Nat.le_of_ble_eq_true rfl) rfl (inc1 _) ?_
        refine wp_goto d37_43 (by decide) ?_
        rw [show rcN sr le k = rcN sr le (k + 1) by simp [rcN]; omega]
        refine ih (k + 1) _ (by omega) (fun v => ?_)
        rw [hf v]
        grind
      · refine wp_aload_0 d37_27 ?_
        refine wp_getP d37_28 (Nat.le_of_ble_eq_true rfl) kT.1 rfl ?_
        refine wp_iload_2 d37_31 ?_
        refine wp_dup2 d37_32 rfl rfl ?_
        refine wp_aldP d37_33 (kT.2 _ (Nat.le_of_ble_eq_true rfl)) rfl (by omega) (by decide) ?_
        refine wp_iconst d37_34 ic_1 ?_
        refine wp_iaddN d37_35 ?_
        refine wp_astN d37_36 (kT.2 _ (Nat.le_of_ble_eq_true rfl)) rfl (by omega) (by decide) ?_
        refine wp_iinc_1 d37_37 (Nat.le_of_ble_eq_true rfl) rfl (inc1 _) ?_
        refine wp_iinc_2 d37_40 (Nat.le_of_ble_eq_true rfl) rfl (inc1 _) ?_
        refine wp_goto d37_43 (by decide) ?_
        rw [show rcN sr le k + 1 = rcN sr le (k + 1) by simp [rcN]; omega]
        refine ih (k + 1) _ (by omega) (fun v => ?_)
        unfold up
        rw [hf v, hf k]
        grind
  refine ev_of (L := [(.ref t), .null, .null]) (by decide) rfl (Nat.le_of_ble_eq_true rfl) ?_
  refine wp_iconst d37_0 ic_0 ?_
  refine wp_istore_1 d37_1 (Nat.le_of_ble_eq_true rfl) rfl ?_
  refine wp_iconst d37_2 ic_0 ?_
  refine wp_istore_2 d37_3 (Nat.le_of_ble_eq_true rfl) rfl ?_
  exact loop w 0 le (by omega) (fun v => by simp)
theorem t_depthAhead (kT : KT σ t) {trN stN : Nat} {de : Nat → Nat} (h1 : trN ≤ stN) (h6 : stN ≤ 6) : Ev 0 0 0 39 [.ref t] (put σ t (t + 1) (trF t (nI stN) me (nI trN) wa mi) (trA (arr 6 de) afo aki asr ale ato afi adu)) (some (.int (nI (smN de trN (stN - trN))))) (put σ t (t + 1) (trF t (nI stN) me (nI trN) wa mi) (trA (arr 6 de) afo aki asr ale ato afi adu)) := by
  have loop : ∀ (n k : Nat), trN + k + n = stN → WP 0 0 0 39 7 [.ref t, .int (nI (smN de trN k)), .int (nI (trN + k))] [] (put σ t (t + 1) (trF t (nI stN) me (nI trN) wa mi) (trA (arr 6 de) afo aki asr ale ato afi adu)) (some (.int (nI (smN de trN (stN - trN))))) (put σ t (t + 1) (trF t (nI stN) me (nI trN) wa mi) (trA (arr 6 de) afo aki asr ale ato afi adu)) := by
    intro n
    induction n with
    | zero =>
      intro k hk'
      have e : stN - trN = k := by omega
      rw [e]
      refine wp_iload_2 d39_7 ?_
      refine wp_aload_0 d39_8 ?_
      refine wp_getP d39_9 (Nat.le_of_ble_eq_true rfl) kT.1 rfl ?_
      refine wp_icmp_geN d39_12 (by decide) (by omega) (by omega) (fun h12 => ?_) (fun hq => absurd hq (by omega))
      refine wp_iload_1 d39_30 ?_
      exact wp_iret d39_31 rfl rfl rfl
    | succ n ih =>
      intro k hk'
      refine wp_iload_2 d39_7 ?_
      refine wp_aload_0 d39_8 ?_
      refine wp_getP d39_9 (Nat.le_of_ble_eq_true rfl) kT.1 rfl ?_
      refine wp_icmp_geN d39_12 (by decide) (by omega) (by omega) (fun hq => absurd hq (by omega)) (fun h12 => ?_)
      refine wp_iload_1 d39_15 ?_
      refine wp_aload_0 d39_16 ?_
      refine wp_getP d39_17 (Nat.le_of_ble_eq_true rfl) kT.1 rfl ?_
      refine wp_iload_2 d39_20 ?_
      refine wp_aldP d39_21 (kT.2 _ (Nat.le_of_ble_eq_true rfl)) rfl (by omega) (by decide) ?_
      refine wp_iaddN d39_22 ?_
      refine wp_istore_1 d39_23 (Nat.le_of_ble_eq_true rfl) rfl ?_
      refine wp_iinc_2 d39_24 (Nat.le_of_ble_eq_true rfl) rfl (inc1 _) ?_
      refine wp_goto d39_27 (by decide) ?_
      exact ih (k + 1) (by omega)
  refine ev_of (L := [(.ref t), .null, .null]) (by decide) rfl (Nat.le_of_ble_eq_true rfl) ?_
  refine wp_iconst d39_0 ic_0 ?_
  refine wp_istore_1 d39_1 (Nat.le_of_ble_eq_true rfl) rfl ?_
  refine wp_aload_0 d39_2 ?_
  refine wp_getP d39_3 (Nat.le_of_ble_eq_true rfl) kT.1 rfl ?_
  refine wp_istore_2 d39_6 (Nat.le_of_ble_eq_true rfl) rfl ?_
  exact loop (stN - trN) 0 (by omega)
theorem t_leftOfAll (kT : KT σ t) {w : Nat} {le : Nat → Nat} (h5 : w ≤ 5) : Ev 0 0 0 40 [.ref t] (put σ t (t + 1) (trF t st me tr (nI w) mi) (trA ade afo aki asr (arr 5 le) ato afi adu)) (some (.int (nI (smN le 0 w)))) (put σ t (t + 1) (trF t st me tr (nI w) mi) (trA ade afo aki asr (arr 5 le) ato afi adu)) := by
  have loop : ∀ (n k : Nat), k + n = w → WP 0 0 0 40 4 [.ref t, .int (nI (smN le 0 k)), .int (nI k)] [] (put σ t (t + 1) (trF t st me tr (nI w) mi) (trA ade afo aki asr (arr 5 le) ato afi adu)) (some (.int (nI (smN le 0 w)))) (put σ t (t + 1) (trF t st me tr (nI w) mi) (trA ade afo aki asr (arr 5 le) ato afi adu)) := by
    intro n
    induction n with
    | zero =>
      intro k hk'
      have e : k = w := by omega
      subst e
      refine wp_iload_2 d40_4 ?_
      refine wp_aload_0 d40_5 ?_
      refine wp_getP d40_6 (Nat.le_of_ble_eq_true rfl) kT.1 rfl ?_
      refine wp_icmp_geN d40_9 (by decide) (by omega) (by omega) (fun h9 => ?_) (fun hq => absurd hq (by omega))
      refine wp_iload_1 d40_27 ?_
      exact wp_iret d40_28 rfl rfl rfl
    | succ n ih =>
      intro k hk'
      refine wp_iload_2 d40_4 ?_
      refine wp_aload_0 d40_5 ?_
      refine wp_getP d40_6 (Nat.le_of_ble_eq_true rfl) kT.1 rfl ?_
      refine wp_icmp_geN d40_9 (by decide) (by omega) (by omega) (fun hq => absurd hq (by omega)) (fun h9 => ?_)
      refine wp_iload_1 d40_12 ?_
      refine wp_aload_0 d40_13 ?_
      refine wp_getP d40_14 (Nat.le_of_ble_eq_true rfl) kT.1 rfl ?_
      refine wp_iload_2 d40_17 ?_
      refine wp_aldP d40_18 (kT.2 _ (Nat.le_of_ble_eq_true rfl)) rfl (by omega) (by decide) ?_
      refine wp_iaddN d40_19 ?_
      refine wp_istore_1 d40_20 (Nat.le_of_ble_eq_true rfl) rfl ?_
      refine wp_iinc_2 d40_21 (Nat.le_of_ble_eq_true rfl) rfl (inc1 _) ?_
      refine wp_goto d40_24 (by decide) ?_
      have := ih (k + 1) (by omega)
      rw [show smN le 0 (k + 1) = smN le 0 k + le k by simp [smN]] at this
      exact this
  refine ev_of (L := [(.ref t), .null, .null]) (by decide) rfl (Nat.le_of_ble_eq_true rfl) ?_
  refine wp_iconst d40_0 ic_0 ?_
  refine wp_istore_1 d40_1 (Nat.le_of_ble_eq_true rfl) rfl ?_
  refine wp_iconst d40_2 ic_0 ?_
  refine wp_istore_2 d40_3 (Nat.le_of_ble_eq_true rfl) rfl ?_
  exact loop w 0 (by omega)
theorem t_leastLeft (kT : KT σ t) {w : Nat} {le : Nat → Nat} (h5 : w ≤ 5) (hl : ∀ v, v < w → le v < 1000) : Ev 1 0 0 41 [.ref t] (put σ t (t + 1) (trF t st me tr (nI w) mi) (trA ade afo aki asr (arr 5 le) ato afi adu)) (some (.int (nI (mnN le 99 w)))) (put σ t (t + 1) (trF t st me tr (nI w) mi) (trA ade afo aki asr (arr 5 le) ato afi adu)) := by
  have loop : ∀ (n k : Nat), k + n = w → WP 1 0 0 41 5 [.ref t, .int (nI (mnN le 99 k)), .int (nI k)] [] (put σ t (t + 1) (trF t st me tr (nI w) mi) (trA ade afo aki asr (arr 5 le) ato afi adu)) (some (.int (nI (mnN le 99 w)))) (put σ t (t + 1) (trF t st me tr (nI w) mi) (trA ade afo aki asr (arr 5 le) ato afi adu)) := by
    intro n
    induction n with
    | zero =>
      intro k hk'
      have e : k = w := by omega
      subst e
      refine wp_iload_2 d41_5 ?_
      refine wp_aload_0 d41_6 ?_
      refine wp_getP d41_7 (Nat.le_of_ble_eq_true rfl) kT.1 rfl ?_
      refine wp_icmp_geN d41_10 (by decide) (by omega) (by omega) (fun h10 => ?_) (fun hq => absurd hq (by omega))
      refine wp_iload_1 d41_30 ?_
      exact wp_iret d41_31 rfl rfl rfl
    | succ n ih =>
      intro k hk'
      have b1 := hl k (by omega)
      have b2 := mnN_le le 99 k
      refine wp_iload_2 d41_5 ?_
      refine wp_aload_0 d41_6 ?_
      refine wp_getP d41_7 (Nat.le_of_ble_eq_true rfl) kT.1 rfl ?_
      refine wp_icmp_geN d41_10 (by decide) (by omega) (by omega) (fun hq => absurd hq (by omega)) (fun h10 => ?_)
      refine wp_iload_1 d41_13 ?_
      refine wp_aload_0 d41_14 ?_
      refine wp_getP d41_15 (Nat.le_of_ble_eq_true rfl) kT.1 rfl ?_
      refine wp_iload_2 d41_18 ?_
      refine wp_aldP d41_19 (kT.2 _ (Nat.le_of_ble_eq_true rfl)) rfl (by omega) (by decide) ?_
      refine wp_min d41_20 (Nat.le_of_ble_eq_true rfl) (Nat.le_of_ble_eq_true rfl) ?_
      rw [show (if nI (le k) < nI (mnN le 99 k) then nI (le k) else nI (mnN le 99 k)) = nI (mnN le 99 (k + 1)) by
        show _ = nI (if le k < mnN le 99 k then le k else mnN le 99 k)
        by_cases h : le k < mnN le 99 k
        · rw [if_pos ((nI_ltI (by omega) (by omega)).mpr h), if_pos h]
        · rw [if_neg (fun z => h ((nI_ltI (by omega) (by omega)).mp z)), if_neg h]]
      refine wp_istore_1 d41_23 (Nat.le_of_ble_eq_true rfl) rfl ?_
      refine wp_iinc_2 d41_24 (Nat.le_of_ble_eq_true rfl) rfl (inc1 _) ?_
      refine wp_goto d41_27 (by decide) ?_
      exact ih (k + 1) (by omega)
  refine ev_of (L := [(.ref t), .null, .null]) (by decide) rfl (Nat.le_of_ble_eq_true rfl) ?_
  refine wp_bipush d41_0 bi_99 ?_
  refine wp_istore_1 d41_2 (Nat.le_of_ble_eq_true rfl) rfl ?_
  refine wp_iconst d41_3 ic_0 ?_
  refine wp_istore_2 d41_4 (Nat.le_of_ble_eq_true rfl) rfl ?_
  exact loop w 0 (by omega)
theorem t_toldOf (kT : KT σ t) {w : Nat} {to : Nat → Option Nat} (h5 : w ≤ 5) (hto : ∀ v, v < w → ∀ j, to v = some j → j < 2 ^ 31) : Ev 0 0 0 42 [.ref t] (put σ t (t + 1) (trF t st me tr (nI w) mi) (trA ade afo aki asr ale (arO 5 to) afi adu)) (some (.int (nI (bkN to w)))) (put σ t (t + 1) (trF t st me tr (nI w) mi) (trA ade afo aki asr ale (arO 5 to) afi adu)) := by
  have loop : ∀ (n k : Nat), k + n = w → WP 0 0 0 42 4 [.ref t, .int (nI (bkN to k)), .int (nI k)] [] (put σ t (t + 1) (trF t st me tr (nI w) mi) (trA ade afo aki asr ale (arO 5 to) afi adu)) (some (.int (nI (bkN to w)))) (put σ t (t + 1) (trF t st me tr (nI w) mi) (trA ade afo aki asr ale (arO 5 to) afi adu)) := by
    intro n
    induction n with
    | zero =>
      intro k hk'
      have e : k = w := by omega
      subst e
      refine wp_iload_2 d42_4 ?_
      refine wp_aload_0 d42_5 ?_
      refine wp_getP d42_6 (Nat.le_of_ble_eq_true rfl) kT.1 rfl ?_
      refine wp_icmp_geN d42_9 (by decide) (by omega) (by omega) (fun h9 => ?_) (fun hq => absurd hq (by omega))
      refine wp_iload_1 d42_31 ?_
      exact wp_iret d42_32 rfl rfl rfl
    | succ n ih =>
      intro k hk'
      have hb := hto k (by omega)
      have K := ih (k + 1) (by omega)
      refine wp_iload_2 d42_4 ?_
      refine wp_aload_0 d42_5 ?_
      refine wp_getP d42_6 (Nat.le_of_ble_eq_true rfl) kT.1 rfl ?_
      refine wp_icmp_geN d42_9 (by decide) (by omega) (by omega) (fun hq => absurd hq (by omega)) (fun h9 => ?_)
      refine wp_aload_0 d42_12 ?_
      refine wp_getP d42_13 (Nat.le_of_ble_eq_true rfl) kT.1 rfl ?_
      refine wp_iload_2 d42_16 ?_
      refine wp_aldP d42_17 (kT.2 _ (Nat.le_of_ble_eq_true rfl)) rfl (by omega) (by decide) ?_
      refine wp_iconst d42_18 ic_m1 ?_
      refine wp_icmp_eq d42_19 (by decide) (fun h => ?_) (fun h => ?_)
      · have e : to k = none := (eo_none hb).mp h
        rw [show bkN to (k + 1) = bkN to k by simp [bkN, e]] at K
        refine wp_iinc_2 d42_25 (Nat.le_of_ble_eq_true rfl) rfl (inc1 _) ?_
        refine wp_goto d42_28 (by decide) ?_
        exact K
      · have e : ¬ to k = none := fun z => h ((eo_none hb).mpr z)
        rw [show bkN to (k + 1) = bkN to k + 1 by simp [bkN, e]] at K
        refine wp_iinc_1 d42_22 (Nat.le_of_ble_eq_true rfl) rfl (inc1 _) ?_
        refine wp_iinc_2 d42_25 (Nat.le_of_ble_eq_true rfl) rfl (inc1 _) ?_
        refine wp_goto d42_28 (by decide) ?_
        exact K
  refine ev_of (L := [(.ref t), .null, .null]) (by decide) rfl (Nat.le_of_ble_eq_true rfl) ?_
  refine wp_iconst d42_0 ic_0 ?_
  refine wp_istore_1 d42_1 (Nat.le_of_ble_eq_true rfl) rfl ?_
  refine wp_iconst d42_2 ic_0 ?_
  refine wp_istore_2 d42_3 (Nat.le_of_ble_eq_true rfl) rfl ?_
  exact loop w 0 (by omega)
theorem t_placeOf (kT : KT σ t) {w v : Nat} {fi : Nat → Nat} (h5 : w ≤ 5) (hf : PF w fi) (hv : v < w) : Ev 0 0 0 30 [.ref t, .int (nI v)] (put σ t (t + 1) (trF t st me tr (nI w) mi) (trA ade afo aki asr ale ato (arr 5 fi) adu)) (some (.int (nI (pl w fi v)))) (put σ t (t + 1) (trF t st me tr (nI w) mi) (trA ade afo aki asr ale ato (arr 5 fi) adu)) := by
  have hp := PF_pl hf hv
  have loop : ∀ (n k : Nat), k + n = pl w fi v → WP 0 0 0 30 2 [.ref t, .int (nI v), .int (nI k)] [] (put σ t (t + 1) (trF t st me tr (nI w) mi) (trA ade afo aki asr ale ato (arr 5 fi) adu)) (some (.int (nI (pl w fi v)))) (put σ t (t + 1) (trF t st me tr (nI w) mi) (trA ade afo aki asr ale ato (arr 5 fi) adu)) := by
    intro n
    induction n with
    | zero =>
      intro k hk
      have e : k = pl w fi v := by omega
      have := hf.1 k (by omega)
      subst e
      refine wp_iload_2 d30_2 ?_
      refine wp_aload_0 d30_3 ?_
      refine wp_getP d30_4 (Nat.le_of_ble_eq_true rfl) kT.1 rfl ?_
      refine wp_icmp_geN d30_7 (by decide) (by omega) (by omega) (fun hq => absurd hq (by omega)) (fun h7 => ?_)
      refine wp_aload_0 d30_10 ?_
      refine wp_getP d30_11 (Nat.le_of_ble_eq_true rfl) kT.1 rfl ?_
      refine wp_iload_2 d30_14 ?_
      refine wp_aldP d30_15 (kT.2 _ (Nat.le_of_ble_eq_true rfl)) rfl (by omega) (by decide) ?_
      refine wp_iload_1 d30_16 ?_
      refine wp_icmp_neN d30_17 (by decide) (by omega) (by omega) (fun hq => absurd hq (fun hq => hq hp.2)) (fun h17 => ?_)
      refine wp_iload_2 d30_20 ?_
      exact wp_iret d30_21 rfl rfl rfl
    | succ n ih =>
      intro k hk
      have := hf.1 k (by omega)
      refine wp_iload_2 d30_2 ?_
      refine wp_aload_0 d30_3 ?_
      refine wp_getP d30_4 (Nat.le_of_ble_eq_true rfl) kT.1 rfl ?_
      refine wp_icmp_geN d30_7 (by decide) (by omega) (by omega) (fun hq => absurd hq (by omega)) (fun h7 => ?_)
      refine wp_aload_0 d30_10 ?_
      refine wp_getP d30_11 (Nat.le_of_ble_eq_true rfl) kT.1 rfl ?_
      refine wp_iload_2 d30_14 ?_
      refine wp_aldP d30_15 (kT.2 _ (Nat.le_of_ble_eq_true rfl)) rfl (by omega) (by decide) ?_
      refine wp_iload_1 d30_16 ?_
      refine wp_icmp_neN d30_17 (by decide) (by omega) (by omega) (fun h17 => ?_) (fun h17 => ?_)
      · refine wp_iinc_2 d30_22 (Nat.le_of_ble_eq_true rfl) rfl (inc1 _) ?_
        refine wp_goto d30_25 (by decide) ?_
        exact ih (k + 1) (by omega)
      · exfalso
        have := pl_eq hf.2.1 (show k < w by omega)
        rw [h17] at this
        omega
  refine ev_of (L := [(.ref t), (.int (nI v)), .null]) (by decide) rfl (Nat.le_of_ble_eq_true rfl) ?_
  refine wp_iconst d30_0 ic_0 ?_
  refine wp_istore_2 d30_1 (Nat.le_of_ble_eq_true rfl) rfl ?_
  exact loop (pl w fi v) 0 (by omega)
theorem t_timesFirst (kT : KT σ t) {trN v : Nat} {fo : Nat → Option Nat} (h6 : trN ≤ 6) (hv : v < 5) (hfo : ∀ k, k < trN → ∀ j, fo k = some j → j < 2 ^ 31) : Ev 0 0 0 31 [.ref t, .int (nI v)] (put σ t (t + 1) (trF t st me (nI trN) wa mi) (trA ade (arO 6 fo) aki asr ale ato afi adu)) (some (.int (nI (frN fo v trN)))) (put σ t (t + 1) (trF t st me (nI trN) wa mi) (trA ade (arO 6 fo) aki asr ale ato afi adu)) := by
  have loop : ∀ (n k : Nat), k + n = trN → WP 0 0 0 31 4 [.ref t, .int (nI v), .int (nI (frN fo v k)), .int (nI k)] [] (put σ t (t + 1) (trF t st me (nI trN) wa mi) (trA ade (arO 6 fo) aki asr ale ato afi adu)) (some (.int (nI (frN fo v trN)))) (put σ t (t + 1) (trF t st me (nI trN) wa mi) (trA ade (arO 6 fo) aki asr ale ato afi adu)) := by
    intro n
    induction n with
    | zero =>
      intro k hk
      have e : k = trN := by omega
      subst e
      refine wp_iload_3 d31_4 ?_
      refine wp_aload_0 d31_5 ?_
      refine wp_getP d31_6 (Nat.le_of_ble_eq_true rfl) kT.1 rfl ?_
      refine wp_icmp_geN d31_9 (by decide) (by omega) (by omega) (fun h9 => ?_) (fun hq => absurd hq (by omega))
      refine wp_iload_2 d31_31 ?_
      exact wp_iret d31_32 rfl rfl rfl
    | succ n ih =>
      intro k hk
      have hb := hfo k (by omega)
      have K := ih (k + 1) (by omega)
      refine wp_iload_3 d31_4 ?_
      refine wp_aload_0 d31_5 ?_
      refine wp_getP d31_6 (Nat.le_of_ble_eq_true rfl) kT.1 rfl ?_
      refine wp_icmp_geN d31_9 (by decide) (by omega) (by omega) (fun hq => absurd hq (by omega)) (fun h9 => ?_)
      refine wp_aload_0 d31_12 ?_
      refine wp_getP d31_13 (Nat.le_of_ble_eq_true rfl) kT.1 rfl ?_
      refine wp_iload_3 d31_16 ?_
      refine wp_aldP d31_17 (kT.2 _ (Nat.le_of_ble_eq_true rfl)) rfl (by omega) (by decide) ?_
      refine wp_iload_1 d31_18 ?_
      refine wp_icmp_ne d31_19 (by decide) (fun h19 => ?_) (fun h19 => ?_)
      · have e : ¬ fo k = some v := fun z => h19 ((eo_some (by omega) hb).mpr z)
        rw [show frN fo v (k + 1) = frN fo v k by simp [frN, e]] at K
        refine wp_iinc_3 d31_25 (Nat.le_of_ble_eq_true rfl) rfl (inc1 _) ?_
        refine wp_goto d31_28 (by decide) ?_
        exact K
      · have e : fo k = some v := (eo_some (by omega) hb).mp h19
        rw [show frN fo v (k + 1) = frN fo v k + 1 by simp [frN, e]] at K
        refine wp_iinc_2 d31_22 (Nat.le_of_ble_eq_true rfl) rfl (inc1 _) ?_
        refine wp_iinc_3 d31_25 (Nat.le_of_ble_eq_true rfl) rfl (inc1 _) ?_
        refine wp_goto d31_28 (by decide) ?_
        exact K
  refine ev_of (L := [(.ref t), (.int (nI v)), .null, .null]) (by decide) rfl (Nat.le_of_ble_eq_true rfl) ?_
  refine wp_iconst d31_0 ic_0 ?_
  refine wp_istore_2 d31_1 (Nat.le_of_ble_eq_true rfl) rfl ?_
  refine wp_iconst d31_2 ic_0 ?_
  refine wp_istore_3 d31_3 (Nat.le_of_ble_eq_true rfl) rfl ?_
  exact loop trN 0 (by omega)
theorem t_nextPay (kT : KT σ t) {trN stN w v : Nat} {ki fi de : Nat → Nat} (h1 : trN ≤ stN) (h6 : stN ≤ 6) (hf : PF w fi) (hw5 : w ≤ 5) (hk : ∀ v, v < w → ki v < 5) (hv : v < w) (hd : ∀ k, k < stN → de k < 100) : Ev 1 0 0 32 [.ref t, .int (nI v)] (put σ t (t + 1) (trF t (nI stN) me (nI trN) (nI w) mi) (trA (arr 6 de) afo (arr 5 ki) asr ale ato (arr 5 fi) adu)) (some (.int (if trN = stN then -1 else nI (payN ki fi (pl w fi v) (de trN))))) (put σ t (t + 1) (trF t (nI stN) me (nI trN) (nI w) mi) (trA (arr 6 de) afo (arr 5 ki) asr ale ato (arr 5 fi) adu)) := by
  have hp := PF_pl hf hv
  refine ev_of (L := [(.ref t), (.int (nI v)), .null]) (by decide) rfl (Nat.le_of_ble_eq_true rfl) ?_
  refine wp_aload_0 d32_0 ?_
  refine wp_iload_1 d32_1 ?_
  refine wp_V1r d32_2 kT.1 ((t_placeOf kT hw5 hf hv)) (Nat.le_of_ble_eq_true rfl) (Nat.le_of_ble_eq_true rfl) ?_
  refine wp_istore_2 d32_5 (Nat.le_of_ble_eq_true rfl) rfl ?_
  refine wp_aload_0 d32_6 ?_
  refine wp_getP d32_7 (Nat.le_of_ble_eq_true rfl) kT.1 rfl ?_
  refine wp_aload_0 d32_10 ?_
  refine wp_getP d32_11 (Nat.le_of_ble_eq_true rfl) kT.1 rfl ?_
  refine wp_icmp_geN d32_14 (by decide) (by omega) (by omega) (fun h14 => ?_) (fun h14 => ?_)
  · rw [if_pos (by omega)]
    refine wp_iconst d32_39 ic_m1 ?_
    exact wp_iret d32_40 rfl rfl rfl
  · rw [if_neg (by omega)]
    have b1 := hd trN (by omega)
    have b2 := hf.1 (pl w fi v) hp.1
    refine wp_iload_2 d32_17 ?_
    refine wp_iconst d32_18 ic_m1 ?_
    refine wp_icmp_eq d32_19 (by decide) (fun hq => absurd hq (nI_m1 (by omega))) (fun _ => ?_)
    refine wp_aload_0 d32_22 ?_
    refine wp_iload_2 d32_23 ?_
    refine wp_aload_0 d32_24 ?_
    refine wp_getP d32_25 (Nat.le_of_ble_eq_true rfl) kT.1 rfl ?_
    refine wp_aload_0 d32_28 ?_
    refine wp_getP d32_29 (Nat.le_of_ble_eq_true rfl) kT.1 rfl ?_
    refine wp_aldP d32_32 (kT.2 _ (Nat.le_of_ble_eq_true rfl)) rfl (by omega) (by decide) ?_
    refine wp_V2r d32_33 kT.1 ((t_payAt kT (by omega) (by omega) (fun z => by have := hf.1 (pl w fi v - 1) (by omega); omega) (hk _ b2) (fun z => hk _ (hf.1 (pl w fi v - 1) (by omega))) b1)) (Nat.le_of_ble_eq_true rfl) (Nat.le_of_ble_eq_true rfl) ?_
    refine wp_goto d32_36 (by decide) ?_
    exact wp_iret d32_40 rfl rfl rfl
theorem t_hasStretch (kT : KT σ t) {stN : Nat} (h6 : stN ≤ 6) (x : Int32) : Ev 0 0 0 26 [.ref t, .int x] (put σ t (t + 1) (trF t (nI stN) me tr wa mi) (trA ade afo aki asr ale ato afi adu)) (some (.int (bi (inB x 0 ((stN : Int) - 1))))) (put σ t (t + 1) (trF t (nI stN) me tr wa mi) (trA ade afo aki asr ale ato afi adu)) := by
  refine ev_of (L := [(.ref t), (.int x)]) (by decide) rfl (Nat.le_of_ble_eq_true rfl) ?_
  refine wp_iload_1 d26_0 ?_
  refine wp_if_lt d26_1 (by decide) (fun h1 => ?_) (fun h1 => ?_)
  · have := (lt_nI (a := 0) (by decide)).mp h1
    refine wp_iconst d26_16 ic_0 ?_
    exact wp_zret d26_17 rfl nI_01 (by rw [inB_f.mpr (by omega)]; rfl) rfl
  · have := mt (lt_nI (x := x) (a := 0) (by decide)).mpr h1
    refine wp_iload_1 d26_4 ?_
    refine wp_aload_0 d26_5 ?_
    refine wp_getP d26_6 (Nat.le_of_ble_eq_true rfl) kT.1 rfl ?_
    refine wp_icmp_ge d26_9 (by decide) (fun h9 => ?_) (fun h9 => ?_)
    · have := (ge_nI (a := stN) (by omega)).mp h9
      refine wp_iconst d26_16 ic_0 ?_
      exact wp_zret d26_17 rfl nI_01 (by rw [inB_f.mpr (by omega)]; rfl) rfl
    · have := mt (ge_nI (x := x) (a := stN) (by omega)).mpr h9
      refine wp_iconst d26_12 ic_1 ?_
      refine wp_goto d26_13 (by decide) ?_
      exact wp_zret d26_17 rfl nI_11 (by rw [inB_t.mpr (by omega)]; rfl) rfl
theorem t_hasWalker (kT : KT σ t) {w : Nat} (h5 : w ≤ 5) (x : Int32) : Ev 0 0 0 27 [.ref t, .int x] (put σ t (t + 1) (trF t st me tr (nI w) mi) (trA ade afo aki asr ale ato afi adu)) (some (.int (bi (inB x 0 ((w : Int) - 1))))) (put σ t (t + 1) (trF t st me tr (nI w) mi) (trA ade afo aki asr ale ato afi adu)) := by
  refine ev_of (L := [(.ref t), (.int x)]) (by decide) rfl (Nat.le_of_ble_eq_true rfl) ?_
  refine wp_iload_1 d27_0 ?_
  refine wp_if_lt d27_1 (by decide) (fun h1 => ?_) (fun h1 => ?_)
  · have := (lt_nI (a := 0) (by decide)).mp h1
    refine wp_iconst d27_16 ic_0 ?_
    exact wp_zret d27_17 rfl nI_01 (by rw [inB_f.mpr (by omega)]; rfl) rfl
  · have := mt (lt_nI (x := x) (a := 0) (by decide)).mpr h1
    refine wp_iload_1 d27_4 ?_
    refine wp_aload_0 d27_5 ?_
    refine wp_getP d27_6 (Nat.le_of_ble_eq_true rfl) kT.1 rfl ?_
    refine wp_icmp_ge d27_9 (by decide) (fun h9 => ?_) (fun h9 => ?_)
    · have := (ge_nI (a := w) (by omega)).mp h9
      refine wp_iconst d27_16 ic_0 ?_
      exact wp_zret d27_17 rfl nI_01 (by rw [inB_f.mpr (by omega)]; rfl) rfl
    · have := mt (ge_nI (x := x) (a := w) (by omega)).mpr h9
      refine wp_iconst d27_12 ic_1 ?_
      refine wp_goto d27_13 (by decide) ?_
      exact wp_zret d27_17 rfl nI_11 (by rw [inB_t.mpr (by omega)]; rfl) rfl
theorem t_join (kT : KT σ t) {w a b : Nat} {ki sr le fi : Nat → Nat} {to : Nat → Option Nat} (h5 : w < 5) : Ev 0 0 0 28 [.ref t, .int (nI a), .int (nI b)] (put σ t (t + 1) (trF t st me tr (nI w) mi) (trA ade afo (arr 5 ki) (arr 5 sr) (arr 5 le) (arO 5 to) (arr 5 fi) adu)) (some (.int (nI w))) (put σ t (t + 1) (trF t st me tr (nI (w + 1)) mi) (trA ade afo (arr 5 (up ki w a)) (arr 5 (up sr w b)) (arr 5 (up le w b)) (arO 5 (up to w none)) (arr 5 (up fi w w)) adu)) := by
  refine ev_of (L := [(.ref t), (.int (nI a)), (.int (nI b)), .null]) (by decide) rfl (Nat.le_of_ble_eq_true rfl) ?_
  refine wp_aload_0 d28_0 ?_
  refine wp_getP d28_1 (Nat.le_of_ble_eq_true rfl) kT.1 rfl ?_
  refine wp_iconst d28_4 ic_5 ?_
  refine wp_icmp_ltN d28_5 (by decide) (by omega) (by omega) (fun h5 => ?_) (fun hq => absurd hq (by omega))
  refine wp_aload_0 d28_11 ?_
  refine wp_getP d28_12 (Nat.le_of_ble_eq_true rfl) kT.1 rfl ?_
  refine wp_istore_3 d28_15 (Nat.le_of_ble_eq_true rfl) rfl ?_
  refine wp_aload_0 d28_16 ?_
  refine wp_getP d28_17 (Nat.le_of_ble_eq_true rfl) kT.1 rfl ?_
  refine wp_iload_3 d28_20 ?_
  refine wp_iload_1 d28_21 ?_
  refine wp_astN d28_22 (kT.2 _ (Nat.le_of_ble_eq_true rfl)) rfl (by omega) (by decide) ?_
  refine wp_aload_0 d28_23 ?_
  refine wp_getP d28_24 (Nat.le_of_ble_eq_true rfl) kT.1 rfl ?_
  refine wp_iload_3 d28_27 ?_
  refine wp_iload_2 d28_28 ?_
  refine wp_astN d28_29 (kT.2 _ (Nat.le_of_ble_eq_true rfl)) rfl (by omega) (by decide) ?_
  refine wp_aload_0 d28_30 ?_
  refine wp_getP d28_31 (Nat.le_of_ble_eq_true rfl) kT.1 rfl ?_
  refine wp_iload_3 d28_34 ?_
  refine wp_iload_2 d28_35 ?_
  refine wp_astN d28_36 (kT.2 _ (Nat.le_of_ble_eq_true rfl)) rfl (by omega) (by decide) ?_
  refine wp_aload_0 d28_37 ?_
  refine wp_getP d28_38 (Nat.le_of_ble_eq_true rfl) kT.1 rfl ?_
  refine wp_iload_3 d28_41 ?_
  refine wp_iconst d28_42 ic_m1 ?_
  refine wp_astO d28_43 (kT.2 _ (Nat.le_of_ble_eq_true rfl)) rfl (by omega) (by decide) ?_
  refine wp_aload_0 d28_44 ?_
  refine wp_getP d28_45 (Nat.le_of_ble_eq_true rfl) kT.1 rfl ?_
  refine wp_iload_3 d28_48 ?_
  refine wp_iload_3 d28_49 ?_
  refine wp_astN d28_50 (kT.2 _ (Nat.le_of_ble_eq_true rfl)) rfl (by omega) (by decide) ?_
  refine wp_aload_0 d28_51 ?_
  refine wp_dup d28_52 rfl ?_
  refine wp_getP d28_53 (Nat.le_of_ble_eq_true rfl) kT.1 rfl ?_
  refine wp_iconst d28_56 ic_1 ?_
  refine wp_iaddN d28_57 ?_
  refine wp_putIP d28_58 kT.1 ?_
  refine wp_iload_3 d28_61 ?_
  exact wp_iret d28_62 rfl rfl rfl
theorem t_isOfKind (kT : KT σ t) {w v j : Nat} {ki : Nat → Nat} (h5 : w ≤ 5) (hv : v < w) (hk : ∀ v, v < w → ki v < 5) (hj : j ≤ 4) : Ev 0 0 0 29 [.ref t, .int (nI v), .int (nI j)] (put σ t (t + 1) (trF t st me tr wa mi) (trA ade afo (arr 5 ki) asr ale ato afi adu)) (some (.int (bi (decide (j = 0 ∨ j = ki v ∨ (j = 3 ∧ ki v = 4)))))) (put σ t (t + 1) (trF t st me tr wa mi) (trA ade afo (arr 5 ki) asr ale ato afi adu)) := by
  have b1 := hk v hv
  have yes : (j = 0 ∨ j = ki v ∨ (j = 3 ∧ ki v = 4)) → WP 0 0 0 29 29 [.ref t, .int (nI v), .int (nI j)] [] (put σ t (t + 1) (trF t st me tr wa mi) (trA ade afo (arr 5 ki) asr ale ato afi adu)) (some (.int (bi (decide (j = 0 ∨ j = ki v ∨ (j = 3 ∧ ki v = 4)))))) (put σ t (t + 1) (trF t st me tr wa mi) (trA ade afo (arr 5 ki) asr ale ato afi adu)) := by
    intro h
    refine wp_iconst d29_29 ic_1 ?_
    refine wp_goto d29_30 (by decide) ?_
    exact wp_zret d29_34 rfl nI_11 (by rw [decide_eq_true h]; rfl) rfl
  have no : ¬ (j = 0 ∨ j = ki v ∨ (j = 3 ∧ ki v = 4)) → WP 0 0 0 29 33 [.ref t, .int (nI v), .int (nI j)] [] (put σ t (t + 1) (trF t st me tr wa mi) (trA ade afo (arr 5 ki) asr ale ato afi adu)) (some (.int (bi (decide (j = 0 ∨ j = ki v ∨ (j = 3 ∧ ki v = 4)))))) (put σ t (t + 1) (trF t st me tr wa mi) (trA ade afo (arr 5 ki) asr ale ato afi adu)) := by
    intro h
    refine wp_iconst d29_33 ic_0 ?_
    exact wp_zret d29_34 rfl nI_01 (by rw [decide_eq_false h]; rfl) rfl
  refine ev_of (L := [(.ref t), (.int (nI v)), (.int (nI j))]) (by decide) rfl (Nat.le_of_ble_eq_true rfl) ?_
  refine wp_iload_2 d29_0 ?_
  refine wp_if_eqN d29_1 (by decide) (by omega) (fun h1 => ?_) (fun h1 => ?_)
  · exact yes (by omega)
  · refine wp_aload_0 d29_4 ?_
    refine wp_getP d29_5 (Nat.le_of_ble_eq_true rfl) kT.1 rfl ?_
    refine wp_iload_1 d29_8 ?_
    refine wp_aldP d29_9 (kT.2 _ (Nat.le_of_ble_eq_true rfl)) rfl (by omega) (by decide) ?_
    refine wp_iload_2 d29_10 ?_
    refine wp_icmp_eqN d29_11 (by decide) (by omega) (by omega) (fun h11 => ?_) (fun h11 => ?_)
    · exact yes (by omega)
    · refine wp_iload_2 d29_14 ?_
      refine wp_iconst d29_15 ic_3 ?_
      refine wp_icmp_neN d29_16 (by decide) (by omega) (by omega) (fun h16 => ?_) (fun h16 => ?_)
      · exact no (by omega)
      · refine wp_aload_0 d29_19 ?_
        refine wp_getP d29_20 (Nat.le_of_ble_eq_true rfl) kT.1 rfl ?_
        refine wp_iload_1 d29_23 ?_
        refine wp_aldP d29_24 (kT.2 _ (Nat.le_of_ble_eq_true rfl)) rfl (by omega) (by decide) ?_
        refine wp_iconst d29_25 ic_4 ?_
        refine wp_icmp_neN d29_26 (by decide) (by omega) (by omega) (fun h26 => ?_) (fun h26 => ?_)
        · exact no (by omega)
        · exact yes (by omega)

end S20_tr1
