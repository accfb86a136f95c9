section S21_tr2c
variable {σ : Sto} {t p : Nat} {st me tr wa mi : Int32} {ade afo aki asr ale ato afi adu : List Int32}

theorem g_append (kP : KP σ p) {pmN a : Nat} {pg : Nat → Nat} (hpm : pmN < 10) : Ev 0 0 0 12 [.ref p, .int (nI a)] (put σ p (p + 1) (pgF p (nI pmN)) (pgA (arr 10 pg))) none (put σ p (p + 1) (pgF p (nI (pmN + 1))) (pgA (arr 10 (up pg pmN a)))) := by
  refine ev_of (L := [(.ref p), (.int (nI a))]) (by decide) rfl (Nat.le_of_ble_eq_true rfl) ?_
  refine wp_aload_0 d12_0 ?_
  refine wp_getP d12_1 (Nat.le_of_ble_eq_true rfl) kP.1 rfl ?_
  refine wp_bipush d12_4 bi_10 ?_
  refine wp_icmp_ltN d12_6 (by decide) (by omega) (by omega) (fun h6 => ?_) (fun hq => absurd hq (by omega))
  refine wp_aload_0 d12_10 ?_
  refine wp_getP d12_11 (Nat.le_of_ble_eq_true rfl) kP.1 rfl ?_
  refine wp_aload_0 d12_14 ?_
  refine wp_getP d12_15 (Nat.le_of_ble_eq_true rfl) kP.1 rfl ?_
  refine wp_iload_1 d12_18 ?_
  refine wp_astN d12_19 (kP.2 _ (Nat.le_of_ble_eq_true rfl)) rfl (by omega) (by decide) ?_
  refine wp_aload_0 d12_20 ?_
  refine wp_dup d12_21 rfl ?_
  refine wp_getP d12_22 (Nat.le_of_ble_eq_true rfl) kP.1 rfl ?_
  refine wp_iconst d12_25 ic_1 ?_
  refine wp_iaddN d12_26 ?_
  refine wp_putIP d12_27 kP.1 ?_
  exact wp_vret d12_30 rfl rfl rfl
theorem g_places {mk : Option Nat} (hm : ∀ q, mk = some q → q < 100) : Ev 0 0 0 14 [.int (eo mk)] σ (some (.int (nI (plcN mk)))) σ := by
  refine ev_of (L := [(.int (eo mk))]) (by decide) rfl (Nat.le_of_ble_eq_true rfl) ?_
  refine wp_iload_0 d14_0 ?_
  refine wp_iconst d14_1 ic_m1 ?_
  cases mk with
  | none =>
    refine wp_icmp_ne d14_2 (by decide) (fun hq => absurd rfl hq) (fun _ => ?_)
    refine wp_bipush d14_5 bi_6 ?_
    refine wp_goto d14_7 (by decide) ?_
    exact wp_iret d14_13 rfl rfl rfl
  | some q =>
    have := hm q rfl
    refine wp_icmp_ne d14_2 (by decide) (fun _ => ?_) (fun hq => absurd hq (nI_m1 (by omega)))
    show WP 0 0 0 14 10 [.int (nI q)] [] σ _ σ
    refine wp_iload_0 d14_10 ?_
    refine wp_iconst d14_11 ic_2 ?_
    refine wp_iaddN d14_12 ?_
    exact wp_iret d14_13 rfl rfl rfl
theorem g_firstWrong (kP : KP σ p) {pmN : Nat} {pg : Nat → Nat} (hpm : pmN ≤ 10) (hpg : ∀ k, k < pmN → pg k < 1000) : Ev 1 0 0 13 [.ref p] (put σ p (p + 1) (pgF p (nI pmN)) (pgA (arr 10 pg))) (some (.int (nI (flt pg pmN 0 0 0).1))) (put σ p (p + 1) (pgF p (nI pmN)) (pgA (arr 10 pg))) := by
  have loop : ∀ (n k s r : Nat) (mk : Option Nat) (u3 : Value), k + n = pmN → MN k mk s r → WP 1 0 0 13 4 [.ref p, .int (eo mk), .int (nI k), u3] [] (put σ p (p + 1) (pgF p (nI pmN)) (pgA (arr 10 pg))) (some (.int (nI (flt pg n k s r).1))) (put σ p (p + 1) (pgF p (nI pmN)) (pgA (arr 10 pg))) := by
    intro n
    induction n with
    | zero =>
      intro k s r mk u3 hk' hm
      have e : k = pmN := by omega
      rw [show (flt pg 0 k s r).1 = pmN from e]
      refine wp_iload_2 d13_4 ?_
      refine wp_aload_0 d13_5 ?_
      refine wp_getP d13_6 (Nat.le_of_ble_eq_true rfl) kP.1 rfl ?_
      refine wp_icmp_geN d13_9 (by decide) (by omega) (by omega) (fun h9 => ?_) (fun hq => absurd hq (by omega))
      refine wp_aload_0 d13_85 ?_
      refine wp_getP d13_86 (Nat.le_of_ble_eq_true rfl) kP.1 rfl ?_
      exact wp_iret d13_89 rfl rfl rfl
    | succ n ih =>
      intro k s r mk u3 hk' hm
      have hb := hpg k (by omega)
      have hmk : ∀ q, mk = some q → q < 100 := by
        intro q hq
        subst hq
        have : 1 ≤ q ∧ ((k = q + 1 ∧ s = 2) ∨ (k = q + 2 ∧ s = 3)) := hm
        omega
      have ok : ∀ (s' r' : Nat) (mk' : Option Nat) (u : Value), goN s r (pg k) = (true, s', r') → MN (k + 1) mk' s' r' → WP 1 0 0 13 79 [.ref p, .int (eo mk'), .int (nI k), u] [] (put σ p (p + 1) (pgF p (nI pmN)) (pgA (arr 10 pg))) (some (.int (nI (flt pg (n + 1) k s r).1))) (put σ p (p + 1) (pgF p (nI pmN)) (pgA (arr 10 pg))) := by
        intro s' r' mk' u hg hm'
        rw [show flt pg (n + 1) k s r = flt pg n (k + 1) s' r' by simp [flt, hg]]
        refine wp_iinc_2 d13_79 (Nat.le_of_ble_eq_true rfl) rfl (inc1 _) ?_
        refine wp_goto d13_82 (by decide) ?_
        exact ih (k + 1) s' r' mk' u (by omega) hm'
      have bad : ∀ (v : Value) (u : Value), (goN s r (pg k)).1 = false → WP 1 0 0 13 77 [.ref p, v, .int (nI k), u] [] (put σ p (p + 1) (pgF p (nI pmN)) (pgA (arr 10 pg))) (some (.int (nI (flt pg (n + 1) k s r).1))) (put σ p (p + 1) (pgF p (nI pmN)) (pgA (arr 10 pg))) := by
        intro v u hg
        rw [show flt pg (n + 1) k s r = (k, (goN s r (pg k)).2.1, (goN s r (pg k)).2.2) by simp [flt, hg]]
        refine wp_iload_2 d13_77 ?_
        exact wp_iret d13_78 rfl rfl rfl
      have rest : ∀ (b : Bool), b = dgt (pg k) → ¬ (mk = none ∧ pg k = 59 ∧ 0 < k) → WP 1 0 0 13 65 [.ref p, .int (eo mk), .int (nI k), .int (bi b)] [] (put σ p (p + 1) (pgF p (nI pmN)) (pgA (arr 10 pg))) (some (.int (nI (flt pg (n + 1) k s r).1))) (put σ p (p + 1) (pgF p (nI pmN)) (pgA (arr 10 pg))) := by
        intro b hbd hno
        subst hbd
        refine wp_iload_3 d13_65 ?_
        refine wp_if_eqB d13_66 (by decide) (fun hz => bad _ _ ?_) (fun hz => ?_)
        · unfold goN
          rw [hz]
          cases mk with
          | none =>
            have hm : r = k ∧ k ≤ 6 ∧ ((k = 0 ∧ s = 0) ∨ (1 ≤ k ∧ s = 1)) := hm
            by_cases c : s = 0 ∨ (s = 1 ∧ pg k ≠ 59)
            · rw [if_pos c]; simp
            · rw [if_neg c]
              exfalso
              apply hno
              refine ⟨rfl, ?_, ?_⟩
              · by_cases z : pg k = 59
                · exact z
                · exfalso; apply c; right; exact ⟨by omega, z⟩
              · omega
          | some q =>
            have hm : 1 ≤ q ∧ ((k = q + 1 ∧ s = 2) ∨ (k = q + 2 ∧ s = 3)) := hm
            rw [if_neg (by omega)]
            simp
            omega
        · have hz' := dgt_t.mp hz
          refine wp_iload_2 d13_69 ?_
          refine wp_iload_1 d13_70 ?_
          refine wp_S1r d13_71 rfl ((g_places hmk)) (Nat.le_of_ble_eq_true rfl) (Nat.le_of_ble_eq_true rfl) ?_
          cases mk with
          | none =>
            have hm : r = k ∧ k ≤ 6 ∧ ((k = 0 ∧ s = 0) ∨ (1 ≤ k ∧ s = 1)) := hm
            have hc : s = 0 ∨ (s = 1 ∧ pg k ≠ 59) := by omega
            refine wp_icmp_ltN (y := 6) d13_74 (by decide) (by omega) (by omega) (fun h => ?_) (fun h => ?_)
            · have h : k < 6 := h
              refine ok 1 (r + 1) none _ ?_ ⟨by omega, by omega, Or.inr ⟨by omega, rfl⟩⟩
              unfold goN
              rw [if_pos hc, hz]
              simp
              omega
            · have h : 6 ≤ k := h
              refine bad _ _ ?_
              unfold goN
              rw [if_pos hc]
              simp
              intro _
              omega
          | some q =>
            have hm : 1 ≤ q ∧ ((k = q + 1 ∧ s = 2) ∨ (k = q + 2 ∧ s = 3)) := hm
            have hq := hmk q rfl
            refine wp_icmp_ltN (y := q + 2) d13_74 (by decide) (by omega) (by omega) (fun h => ?_) (fun h => ?_)
            · have h : k < q + 2 := h
              have hs : s = 2 := by omega
              refine ok 3 r (some q) _ ?_ ⟨hm.1, Or.inr ⟨by omega, rfl⟩⟩
              unfold goN
              rw [if_neg (by omega), hz, hs]
              rfl
            · have h : q + 2 ≤ k := h
              refine bad _ _ ?_
              unfold goN
              rw [if_neg (by omega)]
              simp
              omega
      have main : ∀ (b : Bool), b = dgt (pg k) → WP 1 0 0 13 40 [.ref p, .int (eo mk), .int (nI k), .int (bi b)] [] (put σ p (p + 1) (pgF p (nI pmN)) (pgA (arr 10 pg))) (some (.int (nI (flt pg (n + 1) k s r).1))) (put σ p (p + 1) (pgF p (nI pmN)) (pgA (arr 10 pg))) := by
        intro b hbd
        refine wp_iload_1 d13_40 ?_
        refine wp_iconst d13_41 ic_m1 ?_
        cases hmn : mk with
        | some q =>
          subst hmn
          have hq := hmk q rfl
          refine wp_icmp_ne d13_42 (by decide) (fun _ => ?_) (fun hq => absurd hq (nI_m1 (by omega)))
          exact rest b hbd (fun z => by cases z.1)
        | none =>
          subst hmn
          refine wp_icmp_ne d13_42 (by decide) (fun hq => absurd rfl hq) (fun _ => ?_)
          refine wp_aload_0 d13_45 ?_
          refine wp_getP d13_46 (Nat.le_of_ble_eq_true rfl) kP.1 rfl ?_
          refine wp_iload_2 d13_49 ?_
          refine wp_aldP d13_50 (kP.2 _ (Nat.le_of_ble_eq_true rfl)) rfl (by omega) (by decide) ?_
          refine wp_bipush d13_51 bi_59 ?_
          refine wp_icmp_neN d13_53 (by decide) (by omega) (by omega) (fun h53 => ?_) (fun h53 => ?_)
          · exact rest b hbd (fun z => h53 z.2.1)
          · refine wp_iload_2 d13_56 ?_
            refine wp_if_leN d13_57 (by decide) (by omega) (fun h57 => ?_) (fun h57 => ?_)
            · exact rest b hbd (fun z => by omega)
            · have hm : r = k ∧ k ≤ 6 ∧ ((k = 0 ∧ s = 0) ∨ (1 ≤ k ∧ s = 1)) := hm
              refine wp_iload_2 d13_60 ?_
              refine wp_istore_1 d13_61 (Nat.le_of_ble_eq_true rfl) rfl ?_
              refine wp_goto d13_62 (by decide) ?_
              refine ok 2 r (some k) _ ?_ ⟨by omega, Or.inl ⟨rfl, rfl⟩⟩
              unfold goN
              rw [if_neg (by omega), show s = 1 by omega]
              rfl
      refine wp_iload_2 d13_4 ?_
      refine wp_aload_0 d13_5 ?_
      refine wp_getP d13_6 (Nat.le_of_ble_eq_true rfl) kP.1 rfl ?_
      refine wp_icmp_geN d13_9 (by decide) (by omega) (by omega) (fun hq => absurd hq (by omega)) (fun h9 => ?_)
      refine wp_aload_0 d13_12 ?_
      refine wp_getP d13_13 (Nat.le_of_ble_eq_true rfl) kP.1 rfl ?_
      refine wp_iload_2 d13_16 ?_
      refine wp_aldP d13_17 (kP.2 _ (Nat.le_of_ble_eq_true rfl)) rfl (by omega) (by decide) ?_
      refine wp_bipush d13_18 bi_48 ?_
      refine wp_icmp_ltN d13_20 (by decide) (by omega) (by omega) (fun h20 => ?_) (fun h20 => ?_)
      · refine wp_iconst d13_38 ic_0 ?_
        refine wp_istore_3 d13_39 (Nat.le_of_ble_eq_true rfl) rfl ?_
        exact main false (by rw [dgt_f.mpr (by omega)])
      · refine wp_aload_0 d13_23 ?_
        refine wp_getP d13_24 (Nat.le_of_ble_eq_true rfl) kP.1 rfl ?_
        refine wp_iload_2 d13_27 ?_
        refine wp_aldP d13_28 (kP.2 _ (Nat.le_of_ble_eq_true rfl)) rfl (by omega) (by decide) ?_
        refine wp_bipush d13_29 bi_57 ?_
        refine wp_icmp_gtN d13_31 (by decide) (by omega) (by omega) (fun h31 => ?_) (fun h31 => ?_)
        · refine wp_iconst d13_38 ic_0 ?_
          refine wp_istore_3 d13_39 (Nat.le_of_ble_eq_true rfl) rfl ?_
          exact main false (by rw [dgt_f.mpr (by omega)])
        · refine wp_iconst d13_34 ic_1 ?_
          refine wp_goto d13_35 (by decide) ?_
          refine wp_istore_3 d13_39 (Nat.le_of_ble_eq_true rfl) rfl ?_
          exact main true (by rw [dgt_t.mpr (by omega)])
  refine ev_of (L := [(.ref p), .null, .null, .null]) (by decide) rfl (Nat.le_of_ble_eq_true rfl) ?_
  refine wp_iconst d13_0 ic_m1 ?_
  refine wp_istore_1 d13_1 (Nat.le_of_ble_eq_true rfl) rfl ?_
  refine wp_iconst d13_2 ic_0 ?_
  refine wp_istore_2 d13_3 (Nat.le_of_ble_eq_true rfl) rfl ?_
  exact loop pmN 0 0 0 none .null (by omega) ⟨rfl, by omega, Or.inl ⟨rfl, rfl⟩⟩
theorem g_isSlope (kP : KP σ p) {pmN : Nat} {pg : Nat → Nat} (hpm : pmN ≤ 10) (hpg : ∀ k, k < pmN → pg k < 1000) : Ev 2 0 0 15 [.ref p] (put σ p (p + 1) (pgF p (nI pmN)) (pgA (arr 10 pg))) (some (.int (bi (okS pg pmN)))) (put σ p (p + 1) (pgF p (nI pmN)) (pgA (arr 10 pg))) := by
  have no : okS pg pmN = false → WP 2 0 0 15 39 [.ref p] [] (put σ p (p + 1) (pgF p (nI pmN)) (pgA (arr 10 pg))) (some (.int (bi (okS pg pmN)))) (put σ p (p + 1) (pgF p (nI pmN)) (pgA (arr 10 pg))) := by
    intro h
    rw [h]
    refine wp_iconst d15_39 ic_0 ?_
    exact wp_zret d15_40 rfl (by first | exact nI_01 | exact nI_11 | exact bi_01 _) rfl rfl
  have hb := flt_b (pg := pg) pmN 0 0 0
  have hbad : ∀ q : Prop, (okS pg pmN = true → q) → ¬ q → okS pg pmN = false := by
    intro q h1 h2
    cases h : okS pg pmN with
    | false => rfl
    | true => exact absurd (h1 h) h2
  refine ev_of (L := [(.ref p)]) (by decide) rfl (Nat.le_of_ble_eq_true rfl) ?_
  refine wp_aload_0 d15_0 ?_
  refine wp_getP d15_1 (Nat.le_of_ble_eq_true rfl) kP.1 rfl ?_
  refine wp_iconst d15_4 ic_3 ?_
  refine wp_icmp_ltN d15_5 (by decide) (by omega) (by omega) (fun h5 => ?_) (fun h5 => ?_)
  · exact no (hbad (3 ≤ pmN) (fun h => by obtain ⟨r, h1, h2, _⟩ := okS_J h; omega) (by omega))
  · have hb2 := hpg (pmN - 2) (by omega)
    refine wp_aload_0 d15_8 ?_
    refine wp_getP d15_9 (Nat.le_of_ble_eq_true rfl) kP.1 rfl ?_
    refine wp_aload_0 d15_12 ?_
    refine wp_getP d15_13 (Nat.le_of_ble_eq_true rfl) kP.1 rfl ?_
    refine wp_iconst d15_16 ic_2 ?_
    refine wp_isubN d15_17 (by omega) ?_
    refine wp_aldP d15_18 (kP.2 _ (Nat.le_of_ble_eq_true rfl)) rfl (by omega) (by decide) ?_
    refine wp_bipush d15_19 bi_59 ?_
    refine wp_icmp_neN d15_21 (by decide) (by omega) (by omega) (fun h21 => ?_) (fun h21 => ?_)
    · exact no (hbad (pg (pmN - 2) = 59) (fun h => by obtain ⟨r, h1, h2, h3, h4, h5, _⟩ := okS_J h; rw [show pmN - 2 = r by omega]; exact h5) h21)
    · refine wp_aload_0 d15_24 ?_
      refine wp_V0r d15_25 kP.1 ((g_firstWrong kP hpm hpg)) (Nat.le_of_ble_eq_true rfl) (Nat.le_of_ble_eq_true rfl) ?_
      refine wp_aload_0 d15_28 ?_
      refine wp_getP d15_29 (Nat.le_of_ble_eq_true rfl) kP.1 rfl ?_
      refine wp_icmp_neN d15_32 (by decide) (by omega) (by omega) (fun h32 => ?_) (fun h32 => ?_)
      · exact no (hbad ((flt pg pmN 0 0 0).1 = pmN) (fun h => by simp only [okS, Bool.and_eq_true, decide_eq_true_eq] at h; exact h.1) h32)
      · have hJ := flt_J pmN 0 0 0 (Or.inl ⟨rfl, rfl, rfl⟩) (by rw [h32]; omega)
        rw [Nat.zero_add] at hJ
        have ok : okS pg pmN = true := by
          simp only [okS, h32, Bool.and_eq_true, decide_eq_true_eq, true_and]
          rcases hJ with ⟨h1, h2, h3⟩ | ⟨h1, h2, h3, h4, h7⟩ | ⟨h1, h2, h3, h4, h7, h8⟩ | ⟨h1, h2, _⟩
          · omega
          · have := dgt_t.mp (h7 (pmN - 2) (by omega))
            omega
          · have := dgt_t.mp (h7 (pmN - 2) (by omega))
            omega
          · exact h1
        rw [ok]
        refine wp_iconst d15_35 ic_1 ?_
        refine wp_goto d15_36 (by decide) ?_
        exact wp_zret d15_40 rfl (by first | exact nI_01 | exact nI_11 | exact bi_01 _) rfl rfl
theorem g_digitAt (kP : KP σ p) {pmN k : Nat} {pg : Nat → Nat} (hpm : pmN ≤ 10) (hk : k < pmN) (h48 : 48 ≤ pg k) : Ev 0 0 0 16 [.ref p, .int (nI k)] (put σ p (p + 1) (pgF p (nI pmN)) (pgA (arr 10 pg))) (some (.int (nI (pg k - 48)))) (put σ p (p + 1) (pgF p (nI pmN)) (pgA (arr 10 pg))) := by
  refine ev_of (L := [(.ref p), (.int (nI k))]) (by decide) rfl (Nat.le_of_ble_eq_true rfl) ?_
  refine wp_iload_1 d16_0 ?_
  refine wp_if_ltN d16_1 (by decide) (by omega) ?_
  refine wp_iload_1 d16_4 ?_
  refine wp_aload_0 d16_5 ?_
  refine wp_getP d16_6 (Nat.le_of_ble_eq_true rfl) kP.1 rfl ?_
  refine wp_icmp_geN d16_9 (by decide) (by omega) (by omega) (fun hq => absurd hq (by omega)) (fun h9 => ?_)
  refine wp_aload_0 d16_12 ?_
  refine wp_getP d16_13 (Nat.le_of_ble_eq_true rfl) kP.1 rfl ?_
  refine wp_iload_1 d16_16 ?_
  refine wp_aldP d16_17 (kP.2 _ (Nat.le_of_ble_eq_true rfl)) rfl (by omega) (by decide) ?_
  refine wp_bipush d16_18 bi_48 ?_
  refine wp_isubN d16_20 (by omega) ?_
  refine wp_goto d16_21 (by decide) ?_
  exact wp_iret d16_25 rfl rfl rfl
theorem t_begin (kT : KT σ t) (kP : KP σ p) (hpt : p ≠ t) (hap : p + 2 ≤ t ∨ t + 9 ≤ p) {pmN : Nat} {pg de : Nat → Nat} {fo : Nat → Option Nat} (hpm : pmN ≤ 10) (hok : okS pg pmN = true) (hp : Hs σ p (p + 1) (pgF p (nI pmN)) (pgA (arr 10 pg))) : Ev 1 0 0 24 [.ref t, .ref p] (put σ t (t + 1) (trF t st me tr wa mi) (trA (arr 6 de) (arO 6 fo) aki asr ale ato afi adu)) none (put σ t (t + 1) (trF t (nI (pmN - 2)) (nI (pg (pmN - 1) - 48)) (nI 0) (nI 0) (nI 0)) (trA (arr 6 (fun k => if k < pmN - 2 then pg k - 48 else de k)) (arO 6 (fun k => if k < pmN - 2 then none else fo k)) aki asr ale ato afi adu)) := by
  obtain ⟨r, q1, q2, q3, q4, q5, q6, -⟩ := okS_J hok
  have gF : ∀ {fs : List Value} {as : List (List Int32)}, (put σ t (t + 1) fs as).2.1 p = pgF p (nI pmN) := fun {_ _} => (put_F_ne hpt).trans hp.1
  have gH : ∀ {fs : List Value} {as : List (List Int32)}, as.length = 8 → Hs (put σ t (t + 1) fs as) p (p + 1) (pgF p (nI pmN)) (pgA (arr 10 pg)) := fun {fs as} hl => Hs_ne hp hpt (by simp only [pgA, List.length_cons, List.length_nil]; omega)
  have dg : ∀ {fs : List Value} {as : List (List Int32)} (k : Nat), as.length = 8 → k < pmN → 48 ≤ pg k → Ev 0 0 0 16 [.ref p, .int (nI k)] (put σ t (t + 1) fs as) (some (.int (nI (pg k - 48)))) (put σ t (t + 1) fs as) := fun {fs as} k hl hk h48 => Ev_rd (gH hl) (g_digitAt (σ := put σ t (t + 1) fs as) kP hpm hk h48)
  have l48 : ∀ k, k < r → 48 ≤ pg k := fun k hk => (dgt_t.mp (q4 k hk)).1
  have l48' : 48 ≤ pg (pmN - 1) := by rw [show pmN - 1 = r + 1 by omega]; exact (dgt_t.mp q6).1
  have loop : ∀ (n k : Nat) (f1 : Nat → Nat) (f2 : Nat → Option Nat), k + n = pmN - 2 → (∀ j, f1 j = if j < k then pg j - 48 else de j) → (∀ j, f2 j = if j < k then none else fo j) → WP 1 0 0 24 46 [.ref t, .ref p, .int (nI k)] [] (put σ t (t + 1) (trF t (nI (pmN - 2)) (nI (pg (pmN - 1) - 48)) (nI 0) (nI 0) (nI 0)) (trA (arr 6 f1) (arO 6 f2) aki asr ale ato afi adu)) none (put σ t (t + 1) (trF t (nI (pmN - 2)) (nI (pg (pmN - 1) - 48)) (nI 0) (nI 0) (nI 0)) (trA (arr 6 (fun k => if k < pmN - 2 then pg k - 48 else de k)) (arO 6 (fun k => if k < pmN - 2 then none else fo k)) aki asr ale ato afi adu)) := by
    intro n
    induction n with
    | zero =>
      intro k f1 f2 hk' g1 g2
      have e : k = pmN - 2 := by omega
      rw [show (fun k => if k < pmN - 2 then pg k - 48 else de k) = f1 by funext j; rw [g1, e], show (fun k => if k < pmN - 2 then none else fo k) = f2 by funext j; rw [g2, e]]
      refine wp_iload_2 d24_46 ?_
      refine wp_aload_0 d24_47 ?_
      refine wp_getP d24_48 (Nat.le_of_ble_eq_true rfl) kT.1 rfl ?_
      refine wp_icmp_geN d24_51 (by decide) (by omega) (by omega) (fun h51 => ?_) (fun hq => absurd hq (by omega))
      exact wp_vret d24_78 rfl rfl rfl
    | succ n ih =>
      intro k f1 f2 hk' g1 g2
      refine wp_iload_2 d24_46 ?_
      refine wp_aload_0 d24_47 ?_
      refine wp_getP d24_48 (Nat.le_of_ble_eq_true rfl) kT.1 rfl ?_
      refine wp_icmp_geN d24_51 (by decide) (by omega) (by omega) (fun hq => absurd hq (by omega)) (fun h51 => ?_)
      refine wp_aload_0 d24_54 ?_
      refine wp_getP d24_55 (Nat.le_of_ble_eq_true rfl) kT.1 rfl ?_
      refine wp_iload_2 d24_58 ?_
      refine wp_aload_1 d24_59 ?_
      refine wp_iload_2 d24_60 ?_
      refine wp_V1r d24_61 kP.1 (dg k rfl (by omega) (l48 k (by omega))) (Nat.le_of_ble_eq_true rfl) (Nat.le_of_ble_eq_true rfl) ?_
      refine wp_astN d24_64 (kT.2 _ (Nat.le_of_ble_eq_true rfl)) rfl (by omega) (by decide) ?_
      refine wp_aload_0 d24_65 ?_
      refine wp_getP d24_66 (Nat.le_of_ble_eq_true rfl) kT.1 rfl ?_
      refine wp_iload_2 d24_69 ?_
      refine wp_iconst d24_70 ic_m1 ?_
      refine wp_astO d24_71 (kT.2 _ (Nat.le_of_ble_eq_true rfl)) rfl (by omega) (by decide) ?_
      refine wp_iinc_2 d24_72 (Nat.le_of_ble_eq_true rfl) rfl (inc1 _) ?_
      refine wp_goto d24_75 (by decide) ?_
      refine ih (k + 1) _ _ (by omega) (fun j => ?_) (fun j => ?_)
      · unfold up; rw [g1 j]; grind
      · unfold up; rw [g2 j]; grind
  refine ev_of (L := [(.ref t), (.ref p), .null]) (by decide) rfl (Nat.le_of_ble_eq_true rfl) ?_
  refine wp_aload_0 d24_0 ?_
  refine wp_aload_1 d24_1 ?_
  refine wp_get d24_2 (by decide) kP.1 gF rfl ?_
  refine wp_iconst d24_5 ic_2 ?_
  refine wp_isubN d24_6 (by omega) ?_
  refine wp_bipush d24_7 bi_6 ?_
  refine wp_min d24_9 (Nat.le_of_ble_eq_true rfl) (Nat.le_of_ble_eq_true rfl) ?_
  rw [show (if nI 6 < nI (pmN - 2) then nI 6 else nI (pmN - 2)) = nI (pmN - 2) by rw [if_neg (fun z => by have := (nI_ltI (by decide) (by omega)).mp z; omega)]]
  refine wp_putIP d24_12 kT.1 ?_
  refine wp_aload_0 d24_15 ?_
  refine wp_aload_1 d24_16 ?_
  refine wp_aload_1 d24_17 ?_
  refine wp_get d24_18 (by decide) kP.1 gF rfl ?_
  refine wp_iconst d24_21 ic_1 ?_
  refine wp_isubN d24_22 (by omega) ?_
  refine wp_V1r d24_23 kP.1 (dg (pmN - 1) rfl (by omega) l48') (Nat.le_of_ble_eq_true rfl) (Nat.le_of_ble_eq_true rfl) ?_
  refine wp_putIP d24_26 kT.1 ?_
  refine wp_aload_0 d24_29 ?_
  refine wp_iconst d24_30 ic_0 ?_
  refine wp_putIP d24_31 kT.1 ?_
  refine wp_aload_0 d24_34 ?_
  refine wp_iconst d24_35 ic_0 ?_
  refine wp_putIP d24_36 kT.1 ?_
  refine wp_aload_0 d24_39 ?_
  refine wp_iconst d24_40 ic_0 ?_
  refine wp_putIP d24_41 kT.1 ?_
  refine wp_iconst d24_44 ic_0 ?_
  refine wp_istore_2 d24_45 (Nat.le_of_ble_eq_true rfl) rfl ?_
  exact loop (pmN - 2) 0 de fo (by omega) (fun j => by simp) (fun j => by simp)

end S21_tr2c
