section S24_be1
variable {σ : Sto} {b w trN stN : Nat} {py pc la : Nat → Nat} {td fr : Nat → Option Nat} {ls cs : Int32}

theorem b_isBeaten (kB : KB σ b) {L C : Nat} {acc : Option (Nat × Nat × Nat)} (hL : L < 1000) (hC : C < 1000) (hb : ∀ c l ch, acc = some (c, l, ch) → l < 1000 ∧ ch < 1000) : Ev 0 0 0 4 [.ref b, .int (nI L), .int (nI C)] (put (put σ (b + 1) (b + 1 + 10) (wyF (b + 1) (nI w) (nI trN) (nI stN)) (wyA (arr 150 py) (arr 35 (la)) (arr 5 pc))) b (b + 14) (bsF b (eo (o2 (acc))) (eo (o3 (acc)))) (bsA (arO 6 (td)) (arO 6 (frO w trN stN (acc))))) (some (.int (bi (!btr acc L C)))) (put (put σ (b + 1) (b + 1 + 10) (wyF (b + 1) (nI w) (nI trN) (nI stN)) (wyA (arr 150 py) (arr 35 (la)) (arr 5 pc))) b (b + 14) (bsF b (eo (o2 (acc))) (eo (o3 (acc)))) (bsA (arO 6 (td)) (arO 6 (frO w trN stN (acc))))) := by
  cases acc with
  | none =>
    have h1 : ¬ nI L < -1 := by rw [Int32.lt_iff_toInt_lt, nI_toInt (by omega), show ((-1 : Int32)).toInt = -1 by decide]; omega
    refine ev_of (L := [(.ref b), (.int (nI L)), (.int (nI C))]) (by decide) rfl (Nat.le_of_ble_eq_true rfl) ?_
    refine wp_iload_1 d4_0 ?_
    refine wp_aload_0 d4_1 ?_
    refine wp_getP d4_2 (Nat.le_of_ble_eq_true rfl) kB.1 rfl ?_
    refine wp_icmp_lt d4_5 (by decide) (fun hq => absurd hq (h1)) (fun h5 => ?_)
    refine wp_iload_1 d4_8 ?_
    refine wp_aload_0 d4_9 ?_
    refine wp_getP d4_10 (Nat.le_of_ble_eq_true rfl) kB.1 rfl ?_
    refine wp_icmp_ne d4_13 (by decide) (fun h13 => ?_) (fun hq => absurd hq (nI_m1 (by omega)))
    refine wp_iconst d4_28 ic_0 ?_
    exact wp_zret d4_29 rfl (by first | exact nI_01 | exact nI_11 | exact bi_01 _) rfl rfl
  | some q =>
    obtain ⟨c, l, ch⟩ := q
    obtain ⟨b1, b2⟩ := hb c l ch rfl
    have yes : (!btr (some (c, l, ch)) L C) = true → WP 0 0 0 4 24 [.ref b, .int (nI L), .int (nI C)] [] (put (put σ (b + 1) (b + 1 + 10) (wyF (b + 1) (nI w) (nI trN) (nI stN)) (wyA (arr 150 py) (arr 35 (la)) (arr 5 pc))) b (b + 14) (bsF b (eo (o2 (some (c, l, ch)))) (eo (o3 (some (c, l, ch))))) (bsA (arO 6 (td)) (arO 6 (frO w trN stN (some (c, l, ch)))))) (some (.int (bi (!btr (some (c, l, ch)) L C)))) (put (put σ (b + 1) (b + 1 + 10) (wyF (b + 1) (nI w) (nI trN) (nI stN)) (wyA (arr 150 py) (arr 35 (la)) (arr 5 pc))) b (b + 14) (bsF b (eo (o2 (some (c, l, ch)))) (eo (o3 (some (c, l, ch))))) (bsA (arO 6 (td)) (arO 6 (frO w trN stN (some (c, l, ch)))))) := by
      intro h
      rw [h]
      refine wp_iconst d4_24 ic_1 ?_
      refine wp_goto d4_25 (by decide) ?_
      exact wp_zret d4_29 rfl (by first | exact nI_01 | exact nI_11 | exact bi_01 _) rfl rfl
    have no : (!btr (some (c, l, ch)) L C) = false → WP 0 0 0 4 28 [.ref b, .int (nI L), .int (nI C)] [] (put (put σ (b + 1) (b + 1 + 10) (wyF (b + 1) (nI w) (nI trN) (nI stN)) (wyA (arr 150 py) (arr 35 (la)) (arr 5 pc))) b (b + 14) (bsF b (eo (o2 (some (c, l, ch)))) (eo (o3 (some (c, l, ch))))) (bsA (arO 6 (td)) (arO 6 (frO w trN stN (some (c, l, ch)))))) (some (.int (bi (!btr (some (c, l, ch)) L C)))) (put (put σ (b + 1) (b + 1 + 10) (wyF (b + 1) (nI w) (nI trN) (nI stN)) (wyA (arr 150 py) (arr 35 (la)) (arr 5 pc))) b (b + 14) (bsF b (eo (o2 (some (c, l, ch)))) (eo (o3 (some (c, l, ch))))) (bsA (arO 6 (td)) (arO 6 (frO w trN stN (some (c, l, ch)))))) := by
      intro h
      rw [h]
      refine wp_iconst d4_28 ic_0 ?_
      exact wp_zret d4_29 rfl (by first | exact nI_01 | exact nI_11 | exact bi_01 _) rfl rfl
    refine ev_of (L := [(.ref b), (.int (nI L)), (.int (nI C))]) (by decide) rfl (Nat.le_of_ble_eq_true rfl) ?_
    refine wp_iload_1 d4_0 ?_
    refine wp_aload_0 d4_1 ?_
    refine wp_getP d4_2 (Nat.le_of_ble_eq_true rfl) kB.1 rfl ?_
    refine wp_icmp_ltN d4_5 (by decide) (by omega) (by omega) (fun h5 => ?_) (fun h5 => ?_)
    · exact yes (by simp [btr]; omega)
    · refine wp_iload_1 d4_8 ?_
      refine wp_aload_0 d4_9 ?_
      refine wp_getP d4_10 (Nat.le_of_ble_eq_true rfl) kB.1 rfl ?_
      refine wp_icmp_neN d4_13 (by decide) (by omega) (by omega) (fun h13 => ?_) (fun h13 => ?_)
      · exact no (by simp [btr]; omega)
      · refine wp_iload_2 d4_16 ?_
        refine wp_aload_0 d4_17 ?_
        refine wp_getP d4_18 (Nat.le_of_ble_eq_true rfl) kB.1 rfl ?_
        refine wp_icmp_ltN d4_21 (by decide) (by omega) (by omega) (fun h21 => ?_) (fun h21 => ?_)
        · exact no (by simp [btr]; omega)
        · exact yes (by simp [btr]; omega)
theorem b_keep (kB : KB σ b) {L C : Nat} : Ev 0 0 0 5 [.ref b, .int (nI L), .int (nI C)] (put (put σ (b + 1) (b + 1 + 10) (wyF (b + 1) (nI w) (nI trN) (nI stN)) (wyA (arr 150 py) (arr 35 (la)) (arr 5 pc))) b (b + 14) (bsF b (ls) (cs)) (bsA (arO 6 (td)) (arO 6 (fr)))) none (put (put σ (b + 1) (b + 1 + 10) (wyF (b + 1) (nI w) (nI trN) (nI stN)) (wyA (arr 150 py) (arr 35 (la)) (arr 5 pc))) b (b + 14) (bsF b (nI L) (nI C)) (bsA (arO 6 (td)) (arO 6 (td)))) := by
  have loop : ∀ (n k : Nat) (g : Nat → Option Nat), k + n = 6 → (∀ j, j < k → g j = td j) → WP 0 0 0 5 12 [.ref b, .int (nI L), .int (nI C), .int (nI k)] [] (put (put σ (b + 1) (b + 1 + 10) (wyF (b + 1) (nI w) (nI trN) (nI stN)) (wyA (arr 150 py) (arr 35 (la)) (arr 5 pc))) b (b + 14) (bsF b (nI L) (nI C)) (bsA (arO 6 (td)) (arO 6 (g)))) none (put (put σ (b + 1) (b + 1 + 10) (wyF (b + 1) (nI w) (nI trN) (nI stN)) (wyA (arr 150 py) (arr 35 (la)) (arr 5 pc))) b (b + 14) (bsF b (nI L) (nI C)) (bsA (arO 6 (td)) (arO 6 (td)))) := by
    intro n
    induction n with
    | zero =>
      intro k g hk' hg
      rw [arO_ext (f := g) (g := td) (fun j hj => hg j (by omega))]
      refine wp_iload_3 d5_12 ?_
      refine wp_bipush d5_13 bi_6 ?_
      refine wp_icmp_geN d5_15 (by decide) (by omega) (by omega) (fun h15 => ?_) (fun hq => absurd hq (by omega))
      exact wp_vret d5_36 rfl rfl rfl
    | succ n ih =>
      intro k g hk' hg
      refine wp_iload_3 d5_12 ?_
      refine wp_bipush d5_13 bi_6 ?_
      refine wp_icmp_geN d5_15 (by decide) (by omega) (by omega) (fun hq => absurd hq (by omega)) (fun h15 => ?_)
      refine wp_aload_0 d5_18 ?_
      refine wp_getP d5_19 (Nat.le_of_ble_eq_true rfl) kB.1 rfl ?_
      refine wp_iload_3 d5_22 ?_
      refine wp_aload_0 d5_23 ?_
      refine wp_getP d5_24 (Nat.le_of_ble_eq_true rfl) kB.1 rfl ?_
      refine wp_iload_3 d5_27 ?_
      refine wp_aldP d5_28 (kB.2 _ (Nat.le_of_ble_eq_true rfl)) rfl (by omega) (by decide) ?_
      refine wp_astO d5_29 (kB.2 _ (Nat.le_of_ble_eq_true rfl)) rfl (by omega) (by decide) ?_
      refine wp_iinc_3 d5_30 (Nat.le_of_ble_eq_true rfl) rfl (inc1 _) ?_
      refine wp_goto d5_33 (by decide) ?_
      exact ih (k + 1) _ (by omega) (fun j hj => by unfold up; grind)
  refine ev_of (L := [(.ref b), (.int (nI L)), (.int (nI C)), .null]) (by decide) rfl (Nat.le_of_ble_eq_true rfl) ?_
  refine wp_aload_0 d5_0 ?_
  refine wp_iload_1 d5_1 ?_
  refine wp_putIP d5_2 kB.1 ?_
  refine wp_aload_0 d5_5 ?_
  refine wp_iload_2 d5_6 ?_
  refine wp_putIP d5_7 kB.1 ?_
  refine wp_iconst d5_10 ic_0 ?_
  refine wp_istore_3 d5_11 (Nat.le_of_ble_eq_true rfl) rfl ?_
  exact loop 6 0 fr rfl (fun j hj => by omega)
theorem b_goOn (kB : KB σ b) (kW : KW σ (b + 1)) {ki fi de le0 : Nat → Nat} (hts : trN ≤ stN) (h6 : stN ≤ 6) (hw : 1 ≤ w) (hw5 : w ≤ 5) (hf : PF w fi) (hk : ∀ v, v < w → ki v < 5) (hl0 : ∀ v, v < w → le0 v ≤ 99) (hd : ∀ k, k < stN → de k < 100) (hpy : WT w trN stN ki fi de py) (hpc : ∀ v, v < w → pc v = pl w fi v) : ∀ (n s c0 f C : Nat) (le la : Nat → Nat) (td : Nat → Option Nat), s + n = stN → trN ≤ s → f < w → C ≤ (s - trN) * w → PS w ki fi de le0 trN stN n s c0 (pl w fi f) le C → (∀ v, v < w → le v ≤ 99) → (∀ v, v < w → la (s * 5 + v) = le v) → (∀ c, c / w ^ n = c0 → ∀ k, trN ≤ k → k < s → td k = some (whC w trN stN c k)) → (∀ k, (k < trN ∨ stN ≤ k) → td k = none) → ∃ (la' : Nat → Nat) (td' : Nat → Option Nat), (∀ j, j < (s + 1) * 5 → la' j = la j) ∧ (∀ k, (k < s ∨ stN ≤ k) → td' k = td k) ∧ Ev (2 * n + 2) 0 0 2 [.ref b, .int (nI s), .int (nI f), .int (nI (mnN le 99 w)), .int (nI C)] (put (put σ (b + 1) (b + 1 + 10) (wyF (b + 1) (nI w) (nI trN) (nI stN)) (wyA (arr 150 py) (arr 35 (la)) (arr 5 pc))) b (b + 14) (bsF b (eo (o2 (bestF w ki fi de le0 trN stN (c0 * w ^ n)))) (eo (o3 (bestF w ki fi de le0 trN stN (c0 * w ^ n))))) (bsA (arO 6 (td)) (arO 6 (frO w trN stN (bestF w ki fi de le0 trN stN (c0 * w ^ n)))))) none (put (put σ (b + 1) (b + 1 + 10) (wyF (b + 1) (nI w) (nI trN) (nI stN)) (wyA (arr 150 py) (arr 35 (la')) (arr 5 pc))) b (b + 14) (bsF b (eo (o2 (bestF w ki fi de le0 trN stN (c0 * w ^ n + w ^ n)))) (eo (o3 (bestF w ki fi de le0 trN stN (c0 * w ^ n + w ^ n))))) (bsA (arO 6 (td')) (arO 6 (frO w trN stN (bestF w ki fi de le0 trN stN (c0 * w ^ n + w ^ n)))))) := by
  have gW : ∀ {fs1 fs2 : List Value} {as1 as2 : List (List Int32)}, (put (put σ (b + 1) (b + 1 + 10) fs1 as1) b (b + 14) fs2 as2).2.1 (b + 1) = fs1 := fun {_ _ _ _} => (put_F_ne (by omega)).trans put_F
  have hbb : ∀ N, ∀ c l ch, bestF w ki fi de le0 trN stN N = some (c, l, ch) → l < 1000 ∧ ch < 1000 := by
    intro N c l ch h
    have := bestF_b (show 0 < w by omega) N c l ch h
    have h30 : (stN - trN) * w ≤ 6 * 5 := Nat.mul_le_mul (by omega) hw5
    omega
  intro n
  induction n with
  | zero =>
    intro s c0 f C le la td hs ht hfw hC hP hl hla htd htn
    have h30 : (s - trN) * w ≤ 6 * 5 := Nat.mul_le_mul (by omega) hw5
    have hL := mnN_le le 99 w
    have hse : s = stN := by omega
    rw [Nat.pow_zero, Nat.mul_one] at *
    have hg : gbC w ki fi de le0 trN stN c0 = (true, pl w fi f, le, C) := hP c0 (by rw [Nat.pow_zero, Nat.div_one])
    have hstep : bestF w ki fi de le0 trN stN (c0 + 1) = if btr (bestF w ki fi de le0 trN stN c0) (mnN le 99 w) C then some (c0, mnN le 99 w, C) else bestF w ki fi de le0 trN stN c0 := by
      rw [bestF, hg]
      simp only [Bool.true_and, mn_99 w hw hl]
    refine ⟨la, td, fun j hj => rfl, fun k hk => rfl, ?_⟩
    by_cases hbt : btr (bestF w ki fi de le0 trN stN c0) (mnN le 99 w) C = true
    · rw [hstep, if_pos hbt]
      have e : frO w trN stN (some (c0, mnN le 99 w, C)) = td := by
        funext k
        unfold frO
        by_cases hk' : trN ≤ k ∧ k < stN
        · simp only [hk', and_self, if_true]
          exact (htd c0 (by rw [Nat.div_one]) k hk'.1 (by omega)).symm
        · simp only [hk', if_false]
          exact (htn k (by omega)).symm
      rw [e]
      refine ev_of (L := [(.ref b), (.int (nI s)), (.int (nI f)), (.int (nI (mnN le 99 w))), (.int (nI C)), .null]) (by decide) rfl (Nat.le_of_ble_eq_true rfl) ?_
      refine wp_aload_0 d2_0 ?_
      refine wp_iload_3 d2_1 ?_
      refine wp_iload_4 d2_2 ?_
      refine wp_V2r d2_4 kB.1 ((b_isBeaten kB (by omega) (by omega) (hbb _))) (Nat.le_of_ble_eq_true rfl) (Nat.le_of_ble_eq_true rfl) ?_
      refine wp_if_eqB d2_7 (by decide) (fun h7 => ?_) (fun hq => absurd hq (fun hq => by rw [hbt] at hq; exact absurd hq (by decide)))
      refine wp_iload_1 d2_11 ?_
      refine wp_aload_0 d2_12 ?_
      refine wp_getP d2_13 (Nat.le_of_ble_eq_true rfl) kB.1 rfl ?_
      refine wp_get d2_16 (by decide) kW.1 gW rfl ?_
      refine wp_icmp_ltN d2_19 (by decide) (by omega) (by omega) (fun hq => absurd hq (by omega)) (fun h19 => ?_)
      refine wp_aload_0 d2_22 ?_
      refine wp_iload_3 d2_23 ?_
      refine wp_iload_4 d2_24 ?_
      refine wp_V2v d2_26 kB.1 ((b_keep kB)) (Nat.le_of_ble_eq_true rfl) (Nat.le_of_ble_eq_true rfl) ?_
      exact wp_vret d2_29 rfl rfl rfl
    · have hbt' : btr (bestF w ki fi de le0 trN stN c0) (mnN le 99 w) C = false := by simpa using hbt
      rw [hstep, if_neg hbt]
      refine ev_of (L := [(.ref b), (.int (nI s)), (.int (nI f)), (.int (nI (mnN le 99 w))), (.int (nI C)), .null]) (by decide) rfl (Nat.le_of_ble_eq_true rfl) ?_
      refine wp_aload_0 d2_0 ?_
      refine wp_iload_3 d2_1 ?_
      refine wp_iload_4 d2_2 ?_
      refine wp_V2r d2_4 kB.1 ((b_isBeaten kB (by omega) (by omega) (hbb _))) (Nat.le_of_ble_eq_true rfl) (Nat.le_of_ble_eq_true rfl) ?_
      refine wp_if_eqB d2_7 (by decide) (fun hq => absurd hq (fun hq => by rw [hbt'] at hq; exact absurd hq (by decide))) (fun h7 => ?_)
      exact wp_vret d2_10 rfl rfl rfl
  | succ n ih =>
    intro s c0 f C le la td hs ht hfw hC hP hl hla htd htn
    have h30 : (s - trN) * w ≤ 6 * 5 := Nat.mul_le_mul (by omega) hw5
    have hL := mnN_le le 99 w
    have hpn : 0 < w ^ n := Nat.pow_pos (by omega)
    by_cases hbt : btr (bestF w ki fi de le0 trN stN (c0 * w ^ (n + 1))) (mnN le 99 w) C = true
    · have stp : ∀ (g C' : Nat) (la : Nat → Nat) (td : Nat → Option Nat), g < w → C' = C + (pl w fi g + w - pl w fi f) % w → (∀ v, v < w → la (s * 5 + v) = le v) → (∀ c, c / w ^ (n + 1) = c0 → ∀ k, trN ≤ k → k < s → td k = some (whC w trN stN c k)) → (∀ k, (k < trN ∨ stN ≤ k) → td k = none) → ∃ (la' : Nat → Nat) (td' : Nat → Option Nat), (∀ j, j < (s + 1) * 5 → la' j = la j) ∧ (∀ k, (k < s ∨ stN ≤ k) → td' k = td k) ∧ Ev (2 * n + 3) 0 0 3 [.ref b, .int (nI s), .int (nI g), .int (nI C')] (put (put σ (b + 1) (b + 1 + 10) (wyF (b + 1) (nI w) (nI trN) (nI stN)) (wyA (arr 150 py) (arr 35 (la)) (arr 5 pc))) b (b + 14) (bsF b (eo (o2 (bestF w ki fi de le0 trN stN ((c0 * w + g) * w ^ n)))) (eo (o3 (bestF w ki fi de le0 trN stN ((c0 * w + g) * w ^ n))))) (bsA (arO 6 (td)) (arO 6 (frO w trN stN (bestF w ki fi de le0 trN stN ((c0 * w + g) * w ^ n)))))) none (put (put σ (b + 1) (b + 1 + 10) (wyF (b + 1) (nI w) (nI trN) (nI stN)) (wyA (arr 150 py) (arr 35 (la')) (arr 5 pc))) b (b + 14) (bsF b (eo (o2 (bestF w ki fi de le0 trN stN ((c0 * w + g) * w ^ n + w ^ n)))) (eo (o3 (bestF w ki fi de le0 trN stN ((c0 * w + g) * w ^ n + w ^ n))))) (bsA (arO 6 (td')) (arO 6 (frO w trN stN (bestF w ki fi de le0 trN stN ((c0 * w + g) * w ^ n + w ^ n)))))) := by
        intro g C' la td hg hC' hla htd htn
        have hds := hd s (by omega)
        obtain ⟨la1, q1, q2, K1⟩ := w_leastBehind (σ := put (put σ (b + 1) (b + 1 + 10) (wyF (b + 1) (nI w) (nI trN) (nI stN)) (wyA (arr 150 py) (arr 35 la) (arr 5 pc))) b (b + 14) (bsF b (eo (o2 (bestF w ki fi de le0 trN stN ((c0 * w + g) * w ^ n)))) (eo (o3 (bestF w ki fi de le0 trN stN ((c0 * w + g) * w ^ n))))) (bsA (arO 6 td) (arO 6 (frO w trN stN (bestF w ki fi de le0 trN stN ((c0 * w + g) * w ^ n)))))) (y := b + 1) (w := w) (trN := trN) (stN := stN) (s := s) (f := g) (la := la) (apl := arr 5 pc) kW ht (by omega) h6 hw5 hg hf (fun v hv => by have := hl v hv; omega) hds hpy hla
        have K1 := Ev_in (by omega) (by simp only [bsA, wyA, List.length_cons, List.length_nil]; omega) (by rfl) K1
        have hmod : (pl w fi g + w - pl w fi f) % w < w := Nat.mod_lt _ (by omega)
        by_cases hc : canN ki (rotk w fi (pl w fi g)) le (de s) w = true
        · have hb99 := mnN_le (trS ki (rotk w fi (pl w fi g)) (de s) le w) 99 w
          rw [show r_lb w ki (rotk w fi (pl w fi g)) le (de s) = some (mnN (trS ki (rotk w fi (pl w fi g)) (de s) le w) 99 w) by rw [r_lb, if_pos hc]] at K1
          obtain ⟨la2, td2, p1, p2, K2⟩ := ih (s + 1) (c0 * w + g) g C' (trS ki (rotk w fi (pl w fi g)) (de s) le w) la1 (up td s (some g)) (by omega) (by omega) hg (by rw [hC', show s + 1 - trN = (s - trN) + 1 by omega, Nat.succ_mul]; omega) (by rw [hC']; exact PS_step (by omega) hP hs ht hg hc) (fun v hv => Nat.le_trans trS_le (hl v hv)) (q2 hc) (fun c h k k1 k2 => by
            obtain ⟨e1, e2⟩ := wh_at (tr := trN) (show 0 < w by omega) hs ht hg h
            unfold up
            by_cases e : k = s
            · rw [if_pos e, e, e2]
            · rw [if_neg e]; exact htd c e1 k k1 (by omega)) (fun k hk' => by rw [up_n _ _ (by omega)]; exact htn k hk')
          refine ⟨la2, td2, fun j hj => by rw [p1 j (by omega)]; exact q1 j hj, fun k hk' => by rw [p2 k (by omega)]; exact up_n _ _ (by omega), ?_⟩
          refine ev_of (L := [(.ref b), (.int (nI s)), (.int (nI g)), (.int (nI C')), .null]) (by decide) rfl (Nat.le_of_ble_eq_true rfl) ?_
          refine wp_aload_0 d3_0 ?_
          refine wp_getP d3_1 (Nat.le_of_ble_eq_true rfl) kB.1 rfl ?_
          refine wp_iload_1 d3_4 ?_
          refine wp_iload_2 d3_5 ?_
          refine wp_V2r d3_6 kW.1 K1 (by omega) (Nat.le_of_ble_eq_true rfl) ?_
          refine wp_istore_4 d3_9 (Nat.le_of_ble_eq_true rfl) rfl ?_
          refine wp_iload_4 d3_11 ?_
          refine wp_iconst d3_13 ic_m1 ?_
          refine wp_icmp_ne d3_14 (by decide) (fun _ => ?_) (fun hq => absurd hq (nI_m1 (by omega)))
          refine wp_aload_0 d3_18 ?_
          refine wp_getP d3_19 (Nat.le_of_ble_eq_true rfl) kB.1 rfl ?_
          refine wp_iload_1 d3_22 ?_
          refine wp_iload_2 d3_23 ?_
          refine wp_astO (x := some g) d3_24 (kB.2 _ (Nat.le_of_ble_eq_true rfl)) rfl (by omega) (by decide) ?_
          refine wp_aload_0 d3_25 ?_
          refine wp_iload_1 d3_26 ?_
          refine wp_iconst d3_27 ic_1 ?_
          refine wp_iaddN d3_28 ?_
          refine wp_iload_2 d3_29 ?_
          refine wp_iload_4 d3_30 ?_
          refine wp_iload_3 d3_32 ?_
          refine wp_V4v d3_33 kB.1 K2 (by omega) (Nat.le_of_ble_eq_true rfl) ?_
          exact wp_vret d3_36 rfl rfl rfl
        · have hc' : canN ki (rotk w fi (pl w fi g)) le (de s) w = false := by simpa using hc
          rw [show r_lb w ki (rotk w fi (pl w fi g)) le (de s) = none by rw [r_lb, hc']; rfl] at K1
          refine ⟨la1, td, q1, fun k hk' => rfl, ?_⟩
          have es : bestF w ki fi de le0 trN stN ((c0 * w + g) * w ^ n + w ^ n) = bestF w ki fi de le0 trN stN ((c0 * w + g) * w ^ n) := best_same (w ^ n) (fun c k1 k2 _ => by rw [PS_fail (by omega) hP hs ht hg hc' c (div_in (by omega) k1 k2)]; rfl)
          rw [es]
          refine ev_of (L := [(.ref b), (.int (nI s)), (.int (nI g)), (.int (nI C')), .null]) (by decide) rfl (Nat.le_of_ble_eq_true rfl) ?_
          refine wp_aload_0 d3_0 ?_
          refine wp_getP d3_1 (Nat.le_of_ble_eq_true rfl) kB.1 rfl ?_
          refine wp_iload_1 d3_4 ?_
          refine wp_iload_2 d3_5 ?_
          refine wp_V2r d3_6 kW.1 K1 (by omega) (Nat.le_of_ble_eq_true rfl) ?_
          refine wp_istore_4 d3_9 (Nat.le_of_ble_eq_true rfl) rfl ?_
          refine wp_iload_4 d3_11 ?_
          refine wp_iconst d3_13 ic_m1 ?_
          refine wp_icmp_ne d3_14 (by decide) (fun hq => absurd hq (fun hq => hq rfl)) (fun h14 => ?_)
          exact wp_vret d3_17 rfl rfl rfl
      have loop : ∀ (i g : Nat) (la : Nat → Nat) (td : Nat → Option Nat), g + i = w → (∀ v, v < w → la (s * 5 + v) = le v) → (∀ c, c / w ^ (n + 1) = c0 → ∀ k, trN ≤ k → k < s → td k = some (whC w trN stN c k)) → (∀ k, (k < trN ∨ stN ≤ k) → td k = none) → ∃ (la' : Nat → Nat) (td' : Nat → Option Nat), (∀ j, j < (s + 1) * 5 → la' j = la j) ∧ (∀ k, (k < s ∨ stN ≤ k) → td' k = td k) ∧ WP (2 * (n + 1) + 2) 0 0 2 33 [.ref b, .int (nI s), .int (nI f), .int (nI (mnN le 99 w)), .int (nI C), .int (nI g)] [] (put (put σ (b + 1) (b + 1 + 10) (wyF (b + 1) (nI w) (nI trN) (nI stN)) (wyA (arr 150 py) (arr 35 (la)) (arr 5 pc))) b (b + 14) (bsF b (eo (o2 (bestF w ki fi de le0 trN stN ((c0 * w + g) * w ^ n)))) (eo (o3 (bestF w ki fi de le0 trN stN ((c0 * w + g) * w ^ n))))) (bsA (arO 6 (td)) (arO 6 (frO w trN stN (bestF w ki fi de le0 trN stN ((c0 * w + g) * w ^ n)))))) none (put (put σ (b + 1) (b + 1 + 10) (wyF (b + 1) (nI w) (nI trN) (nI stN)) (wyA (arr 150 py) (arr 35 (la')) (arr 5 pc))) b (b + 14) (bsF b (eo (o2 (bestF w ki fi de le0 trN stN ((c0 * w + w) * w ^ n)))) (eo (o3 (bestF w ki fi de le0 trN stN ((c0 * w + w) * w ^ n))))) (bsA (arO 6 (td')) (arO 6 (frO w trN stN (bestF w ki fi de le0 trN stN ((c0 * w + w) * w ^ n)))))) := by
        intro i
        induction i with
        | zero =>
          intro g la td hg hla htd htn
          have e : g = w := by omega
          subst e
          refine ⟨la, td, fun j hj => rfl, fun k hk' => rfl, ?_⟩
          refine wp_iload_5 d2_33 ?_
          refine wp_aload_0 d2_35 ?_
          refine wp_getP d2_36 (Nat.le_of_ble_eq_true rfl) kB.1 rfl ?_
          refine wp_get d2_39 (by decide) kW.1 gW rfl ?_
          refine wp_icmp_geN d2_42 (by decide) (by omega) (by omega) (fun h42 => ?_) (fun hq => absurd hq (by omega))
          exact wp_vret d2_71 rfl rfl rfl
        | succ i ih2 =>
          intro g la td hg hla htd htn
          obtain ⟨la1, td1, p1, p2, K1⟩ := stp g (C + (pl w fi g + w - pl w fi f) % w) la td (by omega) rfl hla htd htn
          obtain ⟨la2, td2, r1, r2, K2⟩ := ih2 (g + 1) la1 td1 (by omega) (fun v hv => by rw [p1 _ (by omega)]; exact hla v hv) (fun c h k k1 k2 => by rw [p2 k (by omega)]; exact htd c h k k1 k2) (fun k hk' => by rw [p2 k (by omega)]; exact htn k hk')
          refine ⟨la2, td2, fun j hj => by rw [r1 j hj]; exact p1 j hj, fun k hk' => by rw [r2 k hk']; exact p2 k hk', ?_⟩
          rw [show (c0 * w + g) * w ^ n + w ^ n = (c0 * w + (g + 1)) * w ^ n by rw [← Nat.succ_mul, ← Nat.add_assoc]] at K1
          have hcf := w_changesFrom (σ := put (put σ (b + 1) (b + 1 + 10) (wyF (b + 1) (nI w) (nI trN) (nI stN)) (wyA (arr 150 py) (arr 35 la) (arr 5 pc))) b (b + 14) (bsF b (eo (o2 (bestF w ki fi de le0 trN stN ((c0 * w + g) * w ^ n)))) (eo (o3 (bestF w ki fi de le0 trN stN ((c0 * w + g) * w ^ n))))) (bsA (arO 6 td) (arO 6 (frO w trN stN (bestF w ki fi de le0 trN stN ((c0 * w + g) * w ^ n)))))) (y := b + 1) (wfr := nI trN) (wst := nI stN) (apy := arr 150 py) (ala := arr 35 la) kW hw5 hf hfw (show g < w by omega) hpc
          have hcf := Ev_in (by omega) (by simp only [bsA, wyA, List.length_cons, List.length_nil]; omega) (by rfl) hcf
          refine wp_iload_5 d2_33 ?_
          refine wp_aload_0 d2_35 ?_
          refine wp_getP d2_36 (Nat.le_of_ble_eq_true rfl) kB.1 rfl ?_
          refine wp_get d2_39 (by decide) kW.1 gW rfl ?_
          refine wp_icmp_geN d2_42 (by decide) (by omega) (by omega) (fun hq => absurd hq (by omega)) (fun h42 => ?_)
          refine wp_aload_0 d2_45 ?_
          refine wp_iload_1 d2_46 ?_
          refine wp_iload_5 d2_47 ?_
          refine wp_iload_4 d2_49 ?_
          refine wp_aload_0 d2_51 ?_
          refine wp_getP d2_52 (Nat.le_of_ble_eq_true rfl) kB.1 rfl ?_
          refine wp_iload_2 d2_55 ?_
          refine wp_iload_5 d2_56 ?_
          refine wp_V2r d2_58 kW.1 hcf (by omega) (Nat.le_of_ble_eq_true rfl) ?_
          refine wp_iaddN d2_61 ?_
          refine wp_V3v d2_62 kB.1 K1 (by omega) (Nat.le_of_ble_eq_true rfl) ?_
          refine wp_iinc_5 d2_65 (Nat.le_of_ble_eq_true rfl) rfl (inc1 _) ?_
          refine wp_goto d2_68 (by decide) ?_
          exact K2
      obtain ⟨la', td', p1, p2, K⟩ := loop w 0 la td (by omega) hla htd htn
      refine ⟨la', td', p1, p2, ?_⟩
      rw [show (c0 * w + 0) * w ^ n = c0 * w ^ (n + 1) by rw [Nat.add_zero, Nat.mul_assoc, Nat.mul_comm w (w ^ n), ← Nat.pow_succ]] at K
      rw [show (c0 * w + w) * w ^ n = c0 * w ^ (n + 1) + w ^ (n + 1) by rw [Nat.add_mul, Nat.mul_assoc, Nat.mul_comm w (w ^ n), ← Nat.pow_succ]] at K
      refine ev_of (L := [(.ref b), (.int (nI s)), (.int (nI f)), (.int (nI (mnN le 99 w))), (.int (nI C)), .null]) (by decide) rfl (Nat.le_of_ble_eq_true rfl) ?_
      refine wp_aload_0 d2_0 ?_
      refine wp_iload_3 d2_1 ?_
      refine wp_iload_4 d2_2 ?_
      refine wp_V2r d2_4 kB.1 (b_isBeaten kB (by omega) (by omega) (hbb _)) (by omega) (Nat.le_of_ble_eq_true rfl) ?_
      refine wp_if_eqB d2_7 (by decide) (fun h7 => ?_) (fun hq => absurd hq (fun hq => by rw [hbt] at hq; exact absurd hq (by decide)))
      refine wp_iload_1 d2_11 ?_
      refine wp_aload_0 d2_12 ?_
      refine wp_getP d2_13 (Nat.le_of_ble_eq_true rfl) kB.1 rfl ?_
      refine wp_get d2_16 (by decide) kW.1 gW rfl ?_
      refine wp_icmp_ltN d2_19 (by decide) (by omega) (by omega) (fun h19 => ?_) (fun hq => absurd hq (by omega))
      refine wp_iconst d2_30 ic_0 ?_
      refine wp_istore_5 d2_31 (Nat.le_of_ble_eq_true rfl) rfl ?_
      exact K
    · have hbt' : btr (bestF w ki fi de le0 trN stN (c0 * w ^ (n + 1))) (mnN le 99 w) C = false := by simpa using hbt
      refine ⟨la, td, fun j hj => rfl, fun k hk' => rfl, ?_⟩
      have es : bestF w ki fi de le0 trN stN (c0 * w ^ (n + 1) + w ^ (n + 1)) = bestF w ki fi de le0 trN stN (c0 * w ^ (n + 1)) := best_same (w ^ (n + 1)) (fun c k1 k2 _ => by
        have hg := hP c (div_in (by omega) k1 k2)
        cases hz : ((gbC w ki fi de le0 trN stN c).1 && btr (bestF w ki fi de le0 trN stN (c0 * w ^ (n + 1))) (mnN (gbC w ki fi de le0 trN stN c).2.2.1 100 w) (gbC w ki fi de le0 trN stN c).2.2.2) with
        | false => rfl
        | true =>
          rw [hg] at hz
          simp only [Bool.and_eq_true] at hz
          have := btr_mono hz.2 (v' := mnN le 99 w) (c' := C) (by rw [← mn_99 w hw hl]; exact mnN_mono w (fun v hv => gb_le _ _ _ _ _ v)) (gb_ge _ _ _ _ _)
          exact absurd (this.symm.trans hbt') (by decide))
      rw [es]
      refine ev_of (L := [(.ref b), (.int (nI s)), (.int (nI f)), (.int (nI (mnN le 99 w))), (.int (nI C)), .null]) (by decide) rfl (Nat.le_of_ble_eq_true rfl) ?_
      refine wp_aload_0 d2_0 ?_
      refine wp_iload_3 d2_1 ?_
      refine wp_iload_4 d2_2 ?_
      refine wp_V2r d2_4 kB.1 (b_isBeaten kB (by omega) (by omega) (hbb _)) (by omega) (Nat.le_of_ble_eq_true rfl) ?_
      refine wp_if_eqB d2_7 (by decide) (fun hq => absurd hq (fun hq => by rw [hbt'] at hq; exact absurd hq (by decide))) (fun h7 => ?_)
      exact wp_vret d2_10 rfl rfl rfl

end S24_be1
