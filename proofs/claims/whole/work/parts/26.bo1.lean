section S26_bo1
variable {σ : Sto} {b w trN stN : Nat} {py pc la of' td : Nat → Nat} {to : Nat → Option Nat} {ow fd ag : Int32}

theorem k_note (kK : KK σ b) {x fN : Nat} {a : Option Nat} (hx : x < 1000) (hf : fN < 100000) (ha : ∀ v, a = some v → v < 1000) : Ev 0 0 0 10 [.ref b, .int (nI x)] (put (put σ (b + 1) (b + 1 + 10) (wyF (b + 1) (nI w) (nI trN) (nI stN)) (wyA (arr 150 py) (arr 35 (la)) (arr 5 pc))) b (b + 14) (bkF b (ow) (nI fN) (eo a)) (bkA (arO 5 (to)) (arr 5 (of')) (arr 6 (td)))) none (put (put σ (b + 1) (b + 1 + 10) (wyF (b + 1) (nI w) (nI trN) (nI stN)) (wyA (arr 150 py) (arr 35 (la)) (arr 5 pc))) b (b + 14) (bkF b (ow) (nI fN) (eo (if fN = 0 then some x else if a = some x then a else none))) (bkA (arO 5 (to)) (arr 5 (of')) (arr 6 (td)))) := by
  refine ev_of (L := [(.ref b), (.int (nI x))]) (by decide) rfl (Nat.le_of_ble_eq_true rfl) ?_
  refine wp_aload_0 d10_0 ?_
  refine wp_getP d10_1 (Nat.le_of_ble_eq_true rfl) kK.1 rfl ?_
  refine wp_if_neN d10_4 (by decide) (by omega) (fun h4 => ?_) (fun h4 => ?_)
  · rw [if_neg h4]
    refine wp_aload_0 d10_15 ?_
    refine wp_getP d10_16 (Nat.le_of_ble_eq_true rfl) kK.1 rfl ?_
    refine wp_iload_1 d10_19 ?_
    refine wp_icmp_eq d10_20 (by decide) (fun h => ?_) (fun h => ?_)
    · rw [if_pos ((eo_some (by omega) (fun v hv => by have := ha v hv; omega)).mp h)]
      exact wp_vret d10_28 rfl rfl rfl
    · rw [if_neg (fun z => h ((eo_some (by omega) (fun v hv => by have := ha v hv; omega)).mpr z))]
      refine wp_aload_0 d10_23 ?_
      refine wp_iconst d10_24 ic_m1 ?_
      refine wp_putIP d10_25 kK.1 ?_
      exact wp_vret d10_28 rfl rfl rfl
  · rw [if_pos h4]
    refine wp_aload_0 d10_7 ?_
    refine wp_iload_1 d10_8 ?_
    refine wp_putIP d10_9 kK.1 ?_
    refine wp_goto d10_12 (by decide) ?_
    exact wp_vret d10_28 rfl rfl rfl
theorem k_goOn (kK : KK σ b) (kW : KW σ (b + 1)) {ki fi de le0 : Nat → Nat} (hts : trN ≤ stN) (h6 : stN ≤ 6) (hw : 1 ≤ w) (hw5 : w ≤ 5) (hf : PF w fi) (hk : ∀ v, v < w → ki v < 5) (hl0 : ∀ v, v < w → le0 v < 1000) (hd : ∀ k, k < stN → de k < 100) (hto : ∀ v, v < w → ∀ t, to v = some t → t ≤ 6) (hpy : WT w trN stN ki fi de py) (q : Option Nat) (hq : ∀ k, q = some k → trN ≤ k ∧ k < stN) : ∀ (n s c0 j C : Nat) (le la td of' : Nat → Nat), s + n = stN → trN ≤ s → c0 * w ^ n + w ^ n ≤ 15625 → PS w ki fi de le0 trN stN n s c0 j le C → (∀ v, v < w → le v < 1000) → (∀ v, v < w → la (s * 5 + v) = le v) → (∀ c, c / w ^ n = c0 → (∀ k, trN ≤ k → k < s → td k = whC w trN stN c k) ∧ ∀ v, v < w → of' v = cntN (whC w trN stN c) v trN (s - trN)) → (∀ v, v < w → ∀ t, to v = some t → of' v ≤ t) → ∃ (la' td' : Nat → Nat), (∀ j, j < (s + 1) * 5 → la' j = la j) ∧ (∀ k, k < s → td' k = td k) ∧ Ev (2 * n + 2) 0 0 8 [.ref b, .int (nI s), .int (eo q)] (put (put σ (b + 1) (b + 1 + 10) (wyF (b + 1) (nI w) (nI trN) (nI stN)) (wyA (arr 150 py) (arr 35 (la)) (arr 5 pc))) b (b + 14) (bkF b (nI (owN to of' w)) (nI (ftN w ki fi de le0 to trN stN (c0 * w ^ n))) (eo (agA w ki fi de le0 to trN stN q (c0 * w ^ n)))) (bkA (arO 5 (to)) (arr 5 (of')) (arr 6 (td)))) none (put (put σ (b + 1) (b + 1 + 10) (wyF (b + 1) (nI w) (nI trN) (nI stN)) (wyA (arr 150 py) (arr 35 (la')) (arr 5 pc))) b (b + 14) (bkF b (nI (owN to of' w)) (nI (ftN w ki fi de le0 to trN stN (c0 * w ^ n + w ^ n))) (eo (agA w ki fi de le0 to trN stN q (c0 * w ^ n + w ^ n)))) (bkA (arO 5 (to)) (arr 5 (of')) (arr 6 (td')))) := by
  have gW : ∀ {fs1 fs2 : List Value} {as1 as2 : List (List Int32)}, (put (put σ (b + 1) (b + 1 + 10) fs1 as1) b (b + 14) fs2 as2).2.1 (b + 1) = fs1 := fun {_ _ _ _} => (put_F_ne (by omega)).trans put_F
  have hag : ∀ N v, agA w ki fi de le0 to trN stN q N = some v → v < 1000 := by
    intro N v h
    cases q with
    | none => cases h
    | some k =>
      have := agN_lt (show 0 < w by omega) (hq k rfl).1 (hq k rfl).2 N v h
      omega
  intro n
  induction n with
  | zero =>
    intro s c0 j C le la td of' hs ht hN hP hl hla hpre hof
    have hob := ow_b (of' := of') hto
    have hfb := ftN_le (w := w) (ki := ki) (fi := fi) (de := de) (le := le0) (to := to) (tr := trN) (st := stN) c0
    rw [Nat.pow_zero, Nat.mul_one] at *
    have hpc0 := hpre c0 (by rw [Nat.div_one])
    have hcnt : ∀ v, v < w → of' v = cntN (whC w trN stN c0) v trN (stN - trN) := by rw [show stN - trN = s - trN by omega]; exact hpc0.2
    have hg : gbC w ki fi de le0 trN stN c0 = (true, j, le, C) := hP c0 (by rw [Nat.pow_zero, Nat.div_one])
    refine ⟨la, td, fun j hj => rfl, fun k hk' => rfl, ?_⟩
    by_cases h0 : owN to of' w = 0
    · have hfit : fitC w ki fi de le0 to trN stN c0 = true := by
        have hb : bok to (whC w trN stN c0) trN (stN - trN) w = true := bok_all (fun v hv t htv => by
          have a1 := ow_0 h0 v hv t htv
          have a2 := hof v hv t htv
          rw [← hcnt v hv]
          omega)
        unfold fitC
        rw [hb, hg]
        rfl
      rw [show ftN w ki fi de le0 to trN stN (c0 + 1) = ftN w ki fi de le0 to trN stN c0 + 1 by rw [ftN, if_pos hfit]]
      refine ev_of (L := [(.ref b), (.int (nI s)), (.int (eo q)), .null]) (by decide) rfl (Nat.le_of_ble_eq_true rfl) ?_
      refine wp_aload_0 d8_0 ?_
      refine wp_getP d8_1 (Nat.le_of_ble_eq_true rfl) kK.1 rfl ?_
      refine wp_aload_0 d8_4 ?_
      refine wp_getP d8_5 (Nat.le_of_ble_eq_true rfl) kK.1 rfl ?_
      refine wp_get d8_8 (by decide) kW.1 gW rfl ?_
      refine wp_iload_1 d8_11 ?_
      refine wp_isubN d8_12 (by omega) ?_
      refine wp_icmp_leN d8_13 (by decide) (by omega) (by omega) (fun h13 => ?_) (fun hq => absurd hq (by omega))
      refine wp_iload_1 d8_17 ?_
      refine wp_aload_0 d8_18 ?_
      refine wp_getP d8_19 (Nat.le_of_ble_eq_true rfl) kK.1 rfl ?_
      refine wp_get d8_22 (by decide) kW.1 gW rfl ?_
      refine wp_icmp_ltN d8_25 (by decide) (by omega) (by omega) (fun hq => absurd hq (by omega)) (fun h25 => ?_)
      refine wp_iload_2 d8_28 ?_
      cases q with
      | none =>
        refine wp_if_lt d8_29 (by decide) (fun h29 => ?_) (fun hq => absurd hq (fun hq => hq (by decide)))
        refine wp_aload_0 d8_47 ?_
        refine wp_dup d8_48 rfl ?_
        refine wp_getP d8_49 (Nat.le_of_ble_eq_true rfl) kK.1 rfl ?_
        refine wp_iconst d8_52 ic_1 ?_
        refine wp_iaddN d8_53 ?_
        refine wp_putIP d8_54 kK.1 ?_
        exact wp_vret d8_57 rfl rfl rfl
      | some k =>
        have hk2 := hq k rfl
        have htd := hpc0.1 k hk2.1 (by omega)
        have hx : whC w trN stN c0 k < w := whN_lt (by omega) hk2.1 hk2.2
        show WP _ _ _ _ _ _ (.int (nI k) :: _) _ _ _
        refine wp_if_ltN d8_29 (by decide) (by omega) ?_
        show WP _ _ _ _ _ (_ :: _ :: .int (nI k) :: _) _ _ _ _
        refine wp_iload_2 d8_32 ?_
        refine wp_iload_1 d8_33 ?_
        refine wp_icmp_geN d8_34 (by decide) (by omega) (by omega) (fun hq => absurd hq (by omega)) (fun h34 => ?_)
        refine wp_aload_0 d8_37 ?_
        refine wp_aload_0 d8_38 ?_
        refine wp_getP d8_39 (Nat.le_of_ble_eq_true rfl) kK.1 rfl ?_
        refine wp_iload_2 d8_42 ?_
        refine wp_aldP d8_43 (kK.2 _ (Nat.le_of_ble_eq_true rfl)) rfl (by omega) (by decide) ?_
        rw [htd]
        have hnt := k_note (σ := σ) (w := w) (trN := trN) (stN := stN) (py := py) (la := la) (pc := pc) (b := b) (x := whC w trN stN c0 k) (fN := ftN w ki fi de le0 to trN stN c0) (a := agN w ki fi de le0 to trN stN k c0) (ow := nI (owN to of' w)) (of' := of') (td := td) (to := to) kK (by omega) (by omega) (fun v hv => hag c0 v hv)
        have ea : agA w ki fi de le0 to trN stN (some k) (c0 + 1) = (if ftN w ki fi de le0 to trN stN c0 = 0 then some (whC w trN stN c0 k) else if agN w ki fi de le0 to trN stN k c0 = some (whC w trN stN c0 k) then agN w ki fi de le0 to trN stN k c0 else none) := by
          show agN w ki fi de le0 to trN stN k (c0 + 1) = _
          rw [agN, if_pos hfit]
        rw [ea]
        refine wp_V1v d8_44 kK.1 hnt (by omega) (Nat.le_of_ble_eq_true rfl) ?_
        refine wp_aload_0 d8_47 ?_
        refine wp_dup d8_48 rfl ?_
        refine wp_getP d8_49 (Nat.le_of_ble_eq_true rfl) kK.1 rfl ?_
        refine wp_iconst d8_52 ic_1 ?_
        refine wp_iaddN d8_53 ?_
        refine wp_putIP d8_54 kK.1 ?_
        exact wp_vret d8_57 rfl rfl rfl
    · have hnf : fitC w ki fi de le0 to trN stN c0 = false := by
        cases hz : fitC w ki fi de le0 to trN stN c0 with
        | false => rfl
        | true =>
          exfalso
          simp only [fitC, Bool.and_eq_true] at hz
          have := ow_le (of' := of') (wh := whC w trN stN c0) (s := s) (n := 0) (w := w) (fun v hv t htv => by
            have := bok_at hz.1 hv t htv
            rw [← hcnt v hv] at this
            exact this)
          have := sumC_le (wh := whC w trN stN c0) (a := s) 0 w
          omega
      obtain ⟨e1, e2⟩ := fit_same (w := w) (ki := ki) (fi := fi) (de := de) (le := le0) (to := to) (tr := trN) (st := stN) (a := c0) 1 (fun c k1 k2 => by rw [show c = c0 by omega]; exact hnf)
      rw [e1, e2 q]
      refine ev_of (L := [(.ref b), (.int (nI s)), (.int (eo q)), .null]) (by decide) rfl (Nat.le_of_ble_eq_true rfl) ?_
      refine wp_aload_0 d8_0 ?_
      refine wp_getP d8_1 (Nat.le_of_ble_eq_true rfl) kK.1 rfl ?_
      refine wp_aload_0 d8_4 ?_
      refine wp_getP d8_5 (Nat.le_of_ble_eq_true rfl) kK.1 rfl ?_
      refine wp_get d8_8 (by decide) kW.1 gW rfl ?_
      refine wp_iload_1 d8_11 ?_
      refine wp_isubN d8_12 (by omega) ?_
      refine wp_icmp_leN d8_13 (by decide) (by omega) (by omega) (fun hq => absurd hq (by omega)) (fun h13 => ?_)
      exact wp_vret d8_16 rfl rfl rfl
  | succ n ih =>
    intro s c0 j C le la td of' hs ht hN hP hl hla hpre hof
    have hob := ow_b (of' := of') hto
    have hpn : 0 < w ^ n := Nat.pow_pos (by omega)
    by_cases hgt : n + 1 < owN to of' w
    · obtain ⟨e1, e2⟩ := fit_same (w := w) (ki := ki) (fi := fi) (de := de) (le := le0) (to := to) (tr := trN) (st := stN) (a := c0 * w ^ (n + 1)) (w ^ (n + 1)) (fun c k1 k2 => by
        cases hz : fitC w ki fi de le0 to trN stN c with
        | false => rfl
        | true =>
          exfalso
          simp only [fitC, Bool.and_eq_true] at hz
          have hp2 := (hpre c (div_in (by omega) k1 k2)).2
          have := ow_le (of' := of') (wh := whC w trN stN c) (s := s) (n := n + 1) (w := w) (fun v hv t htv => by
            have := bok_at hz.1 hv t htv
            rw [show stN - trN = (s - trN) + (n + 1) by omega, cnt_split, ← hp2 v hv, show trN + (s - trN) = s by omega] at this
            exact this)
          have := sumC_le (wh := whC w trN stN c) (a := s) (n + 1) w
          omega)
      refine ⟨la, td, fun j hj => rfl, fun k hk' => rfl, ?_⟩
      rw [e1, e2 q]
      refine ev_of (L := [(.ref b), (.int (nI s)), (.int (eo q)), .null]) (by decide) rfl (Nat.le_of_ble_eq_true rfl) ?_
      refine wp_aload_0 d8_0 ?_
      refine wp_getP d8_1 (Nat.le_of_ble_eq_true rfl) kK.1 rfl ?_
      refine wp_aload_0 d8_4 ?_
      refine wp_getP d8_5 (Nat.le_of_ble_eq_true rfl) kK.1 rfl ?_
      refine wp_get d8_8 (by decide) kW.1 gW rfl ?_
      refine wp_iload_1 d8_11 ?_
      refine wp_isubN d8_12 (by omega) ?_
      refine wp_icmp_leN d8_13 (by decide) (by omega) (by omega) (fun hq => absurd hq (by omega)) (fun h13 => ?_)
      exact wp_vret d8_16 rfl rfl rfl
    · have stp : ∀ (g : Nat) (la td : Nat → Nat), g < w → (∀ v, v < w → la (s * 5 + v) = le v) → (∀ c, c / w ^ (n + 1) = c0 → ∀ k, trN ≤ k → k < s → td k = whC w trN stN c k) → ∃ (la' td' : Nat → Nat), (∀ j, j < (s + 1) * 5 → la' j = la j) ∧ (∀ k, k < s → td' k = td k) ∧ Ev (2 * n + 3) 0 0 9 [.ref b, .int (nI s), .int (nI g), .int (eo q)] (put (put σ (b + 1) (b + 1 + 10) (wyF (b + 1) (nI w) (nI trN) (nI stN)) (wyA (arr 150 py) (arr 35 (la)) (arr 5 pc))) b (b + 14) (bkF b (nI (owN to of' w)) (nI (ftN w ki fi de le0 to trN stN ((c0 * w + g) * w ^ n))) (eo (agA w ki fi de le0 to trN stN q ((c0 * w + g) * w ^ n)))) (bkA (arO 5 (to)) (arr 5 (of')) (arr 6 (td)))) none (put (put σ (b + 1) (b + 1 + 10) (wyF (b + 1) (nI w) (nI trN) (nI stN)) (wyA (arr 150 py) (arr 35 (la')) (arr 5 pc))) b (b + 14) (bkF b (nI (owN to of' w)) (nI (ftN w ki fi de le0 to trN stN ((c0 * w + g) * w ^ n + w ^ n))) (eo (agA w ki fi de le0 to trN stN q ((c0 * w + g) * w ^ n + w ^ n)))) (bkA (arO 5 (to)) (arr 5 (of')) (arr 6 (td')))) := by
        intro g la td hg hla htd
        have hds := hd s (by omega)
        have hogb : of' g ≤ 6 := by
          have hc0 : c0 * w ^ (n + 1) / w ^ (n + 1) = c0 := Nat.mul_div_cancel _ (Nat.pow_pos (by omega))
          rw [(hpre (c0 * w ^ (n + 1)) hc0).2 g hg]
          have := cntN_le (whC w trN stN (c0 * w ^ (n + 1))) g trN (s - trN)
          omega
        have hrange : (c0 * w + g) * w ^ n + w ^ n ≤ c0 * w ^ (n + 1) + w ^ (n + 1) := by
          rw [Nat.pow_succ, ← Nat.succ_mul, show c0 * (w ^ n * w) + w ^ n * w = (c0 * w + w) * w ^ n by rw [Nat.add_mul, Nat.mul_assoc, Nat.mul_comm w (w ^ n)]]
          exact Nat.mul_le_mul_right _ (by omega)
        have nofit : (∀ c, c / w ^ n = c0 * w + g → fitC w ki fi de le0 to trN stN c = false) → ftN w ki fi de le0 to trN stN ((c0 * w + g) * w ^ n + w ^ n) = ftN w ki fi de le0 to trN stN ((c0 * w + g) * w ^ n) ∧ agA w ki fi de le0 to trN stN q ((c0 * w + g) * w ^ n + w ^ n) = agA w ki fi de le0 to trN stN q ((c0 * w + g) * w ^ n) := by
          intro h
          obtain ⟨e1, e2⟩ := fit_same (w := w) (ki := ki) (fi := fi) (de := de) (le := le0) (to := to) (tr := trN) (st := stN) (a := (c0 * w + g) * w ^ n) (w ^ n) (fun c k1 k2 => h c (div_in (by omega) k1 k2))
          exact ⟨e1, e2 q⟩
        have hcg : ∀ c, c / w ^ n = c0 * w + g → c / w ^ (n + 1) = c0 ∧ whC w trN stN c s = g := fun c h => wh_at (by omega) hs ht hg h
        have hcnt : ∀ c, c / w ^ n = c0 * w + g → ∀ v, v < w → cntN (whC w trN stN c) v trN (stN - trN) = of' v + (if g = v then 1 else 0) + cntN (whC w trN stN c) v (s + 1) n := by
          intro c h v hv
          obtain ⟨z1, z2⟩ := hcg c h
          rw [show stN - trN = (s - trN) + (1 + n) by omega, cnt_split, ← (hpre c z1).2 v hv, show trN + (s - trN) = s by omega, cnt_0, z2]
          omega
        by_cases heq : to g = some (of' g)
        · obtain ⟨e1, e2⟩ := nofit (fun c h => by
            cases hz : fitC w ki fi de le0 to trN stN c with
            | false => rfl
            | true =>
              exfalso
              simp only [fitC, Bool.and_eq_true] at hz
              have a1 := bok_at hz.1 hg _ heq
              have a2 := hcnt c h g hg
              rw [if_pos rfl] at a2
              omega)
          refine ⟨la, td, fun j hj => rfl, fun k hk' => rfl, ?_⟩
          rw [e1, e2]
          refine ev_of (L := [(.ref b), (.int (nI s)), (.int (nI g)), (.int (eo q)), .null]) (by decide) rfl (Nat.le_of_ble_eq_true rfl) ?_
          refine wp_aload_0 d9_0 ?_
          refine wp_getP d9_1 (Nat.le_of_ble_eq_true rfl) kK.1 rfl ?_
          refine wp_iload_2 d9_4 ?_
          refine wp_aldP d9_5 (kK.2 _ (Nat.le_of_ble_eq_true rfl)) rfl (by omega) (by decide) ?_
          refine wp_aload_0 d9_6 ?_
          refine wp_getP d9_7 (Nat.le_of_ble_eq_true rfl) kK.1 rfl ?_
          refine wp_iload_2 d9_10 ?_
          refine wp_aldP d9_11 (kK.2 _ (Nat.le_of_ble_eq_true rfl)) rfl (by omega) (by decide) ?_
          refine wp_icmp_eq d9_12 (by decide) (fun _ => ?_) (fun hz => absurd (by rw [heq]; rfl) hz)
          exact wp_vret d9_28 rfl rfl rfl
        · have hne : ¬ nI (of' g) = eo (to g) := fun z => heq ((eo_some (by omega) (fun t htv => by have := hto g hg t htv; omega)).mp z.symm)
          obtain ⟨la1, q1, q2, K1⟩ := w_leastBehind (σ := put (put σ (b + 1) (b + 1 + 10) (wyF (b + 1) (nI w) (nI trN) (nI stN)) (wyA (arr 150 py) (arr 35 la) (arr 5 pc))) b (b + 14) (bkF b (nI (owN to of' w)) (nI (ftN w ki fi de le0 to trN stN ((c0 * w + g) * w ^ n))) (eo (agA w ki fi de le0 to trN stN q ((c0 * w + g) * w ^ n)))) (bkA (arO 5 to) (arr 5 of') (arr 6 td))) (y := b + 1) (w := w) (trN := trN) (stN := stN) (s := s) (f := g) (la := la) (apl := arr 5 pc) kW ht (by omega) h6 hw5 hg hf hl hds hpy hla
          have K1 := Ev_in (by omega) (by simp only [bkA, wyA, List.length_cons, List.length_nil]; omega) (by rfl) K1
          by_cases hc : canN ki (rotk w fi (pl w fi g)) le (de s) w = true
          · have hb99 := mnN_le (trS ki (rotk w fi (pl w fi g)) (de s) le w) 99 w
            rw [show r_lb w ki (rotk w fi (pl w fi g)) le (de s) = some (mnN (trS ki (rotk w fi (pl w fi g)) (de s) le w) 99 w) by rw [r_lb, if_pos hc]] at K1
            have hlt : ∀ t, to g = some t → of' g < t := by
              intro t htv
              have a1 := hof g hg t htv
              have a2 : t ≠ of' g := fun z => heq (by rw [htv, z])
              omega
            obtain ⟨la2, td2, p1, p2, K2⟩ := ih (s + 1) (c0 * w + g) (pl w fi g) (C + (pl w fi g + w - j) % w) (trS ki (rotk w fi (pl w fi g)) (de s) le w) la1 (up td s g) (up of' g (of' g + 1)) (by omega) (by omega) (Nat.le_trans hrange hN) (PS_step (by omega) hP hs ht hg hc) (fun v hv => Nat.lt_of_le_of_lt trS_le (hl v hv)) (q2 hc) (fun c h => by
              obtain ⟨z1, z2⟩ := hcg c h
              refine ⟨fun k k1 k2 => ?_, fun v hv => ?_⟩
              · unfold up
                by_cases e : k = s
                · rw [if_pos e, e, z2]
                · rw [if_neg e]; exact htd c z1 k k1 (by omega)
              · rw [show s + 1 - trN = (s - trN) + 1 by omega, cnt_split, ← (hpre c z1).2 v hv, show trN + (s - trN) = s by omega]
                show _ = _ + (0 + (if whC w trN stN c s = v then 1 else 0))
                rw [z2]
                unfold up
                by_cases e : v = g
                · rw [if_pos e, if_pos e.symm, e] <;> (try omega)
                · rw [if_neg e, if_neg (fun z => e z.symm)] <;> (try omega)) (fun v hv t htv => by
              unfold up
              by_cases e : v = g
              · rw [if_pos e]; rw [e] at htv; exact hlt t htv
              · rw [if_neg e]; exact hof v hv t htv)
            refine ⟨la2, td2, fun j hj => by rw [p1 j (by omega)]; exact q1 j hj, fun k hk' => by rw [p2 k (by omega)]; exact up_n _ _ (by omega), ?_⟩
            have how := ow_up (w := w) hg hlt
            have tail : ∀ pb : Nat, pb = (if to g = none then 0 else 1) → ∀ u4 : Value, WP (2 * n + 3) 0 0 9 44 [.ref b, .int (nI s), .int (nI g), .int (eo q), u4] [.int (nI pb)] (put (put σ (b + 1) (b + 1 + 10) (wyF (b + 1) (nI w) (nI trN) (nI stN)) (wyA (arr 150 py) (arr 35 (la1)) (arr 5 pc))) b (b + 14) (bkF b (nI (owN to of' w)) (nI (ftN w ki fi de le0 to trN stN ((c0 * w + g) * w ^ n))) (eo (agA w ki fi de le0 to trN stN q ((c0 * w + g) * w ^ n)))) (bkA (arO 5 (to)) (arr 5 (of')) (arr 6 (td)))) none (put (put σ (b + 1) (b + 1 + 10) (wyF (b + 1) (nI w) (nI trN) (nI stN)) (wyA (arr 150 py) (arr 35 (la2)) (arr 5 pc))) b (b + 14) (bkF b (nI (owN to of' w)) (nI (ftN w ki fi de le0 to trN stN ((c0 * w + g) * w ^ n + w ^ n))) (eo (agA w ki fi de le0 to trN stN q ((c0 * w + g) * w ^ n + w ^ n)))) (bkA (arO 5 (to)) (arr 5 (of')) (arr 6 (td2)))) := by
              intro pb hpb u4
              rw [← hpb] at how
              refine wp_istore_4 d9_44 (Nat.le_of_ble_eq_true rfl) rfl ?_
              refine wp_aload_0 d9_46 ?_
              refine wp_getP d9_47 (Nat.le_of_ble_eq_true rfl) kK.1 rfl ?_
              refine wp_iload_1 d9_50 ?_
              refine wp_iload_2 d9_51 ?_
              refine wp_astN d9_52 (kK.2 _ (Nat.le_of_ble_eq_true rfl)) rfl (by omega) (by decide) ?_
              refine wp_aload_0 d9_53 ?_
              refine wp_getP d9_54 (Nat.le_of_ble_eq_true rfl) kK.1 rfl ?_
              refine wp_iload_2 d9_57 ?_
              refine wp_dup2 d9_58 rfl rfl ?_
              refine wp_aldP d9_59 (kK.2 _ (Nat.le_of_ble_eq_true rfl)) rfl (by omega) (by decide) ?_
              refine wp_iconst d9_60 ic_1 ?_
              refine wp_iaddN d9_61 ?_
              refine wp_astN d9_62 (kK.2 _ (Nat.le_of_ble_eq_true rfl)) rfl (by omega) (by decide) ?_
              refine wp_aload_0 d9_63 ?_
              refine wp_dup d9_64 rfl ?_
              refine wp_getP d9_65 (Nat.le_of_ble_eq_true rfl) kK.1 rfl ?_
              refine wp_iload_4 d9_68 ?_
              refine wp_isubN d9_70 (by omega) ?_
              rw [show owN to of' w - pb = owN to (up of' g (of' g + 1)) w by omega]
              refine wp_putIP d9_71 kK.1 ?_
              refine wp_aload_0 d9_74 ?_
              refine wp_iload_1 d9_75 ?_
              refine wp_iconst d9_76 ic_1 ?_
              refine wp_iaddN d9_77 ?_
              refine wp_iload_3 d9_78 ?_
              refine wp_V2v d9_79 kK.1 K2 (by omega) (Nat.le_of_ble_eq_true rfl) ?_
              refine wp_aload_0 d9_82 ?_
              refine wp_dup d9_83 rfl ?_
              refine wp_getP d9_84 (Nat.le_of_ble_eq_true rfl) kK.1 rfl ?_
              refine wp_iload_4 d9_87 ?_
              refine wp_iaddN d9_89 ?_
              rw [show owN to (up of' g (of' g + 1)) w + pb = owN to of' w by omega]
              refine wp_putIP d9_90 kK.1 ?_
              refine wp_aload_0 d9_93 ?_
              refine wp_getP d9_94 (Nat.le_of_ble_eq_true rfl) kK.1 rfl ?_
              refine wp_iload_2 d9_97 ?_
              refine wp_dup2 d9_98 rfl rfl ?_
              refine wp_aldP d9_99 (kK.2 _ (Nat.le_of_ble_eq_true rfl)) rfl (by omega) (by decide) ?_
              rw [up_s]
              refine wp_iconst d9_100 ic_1 ?_
              refine wp_isubN d9_101 (by omega) ?_
              refine wp_astN d9_102 (kK.2 _ (Nat.le_of_ble_eq_true rfl)) rfl (by omega) (by decide) ?_
              rw [show up (up of' g (of' g + 1)) g (of' g + 1 - 1) = of' by
                funext v
                unfold up
                by_cases e : v = g
                · rw [if_pos e, e]; omega
                · rw [if_neg e, if_neg e]]
              exact wp_vret d9_103 rfl rfl rfl
            refine ev_of (L := [(.ref b), (.int (nI s)), (.int (nI g)), (.int (eo q)), .null]) (by decide) rfl (Nat.le_of_ble_eq_true rfl) ?_
            refine wp_aload_0 d9_0 ?_
            refine wp_getP d9_1 (Nat.le_of_ble_eq_true rfl) kK.1 rfl ?_
            refine wp_iload_2 d9_4 ?_
            refine wp_aldP d9_5 (kK.2 _ (Nat.le_of_ble_eq_true rfl)) rfl (by omega) (by decide) ?_
            refine wp_aload_0 d9_6 ?_
            refine wp_getP d9_7 (Nat.le_of_ble_eq_true rfl) kK.1 rfl ?_
            refine wp_iload_2 d9_10 ?_
            refine wp_aldP d9_11 (kK.2 _ (Nat.le_of_ble_eq_true rfl)) rfl (by omega) (by decide) ?_
            refine wp_icmp_eq d9_12 (by decide) (fun hz => absurd hz hne) (fun _ => ?_)
            refine wp_aload_0 d9_15 ?_
            refine wp_getP d9_16 (Nat.le_of_ble_eq_true rfl) kK.1 rfl ?_
            refine wp_iload_1 d9_19 ?_
            refine wp_iload_2 d9_20 ?_
            refine wp_V2r d9_21 kW.1 K1 (by omega) (Nat.le_of_ble_eq_true rfl) ?_
            refine wp_iconst d9_24 ic_m1 ?_
            refine wp_icmp_ne d9_25 (by decide) (fun _ => ?_) (fun hq => absurd hq (nI_m1 (by omega)))
            refine wp_aload_0 d9_29 ?_
            refine wp_getP d9_30 (Nat.le_of_ble_eq_true rfl) kK.1 rfl ?_
            refine wp_iload_2 d9_33 ?_
            refine wp_aldP d9_34 (kK.2 _ (Nat.le_of_ble_eq_true rfl)) rfl (by omega) (by decide) ?_
            refine wp_iconst d9_35 ic_m1 ?_
            refine wp_icmp_ne d9_36 (by decide) (fun hz => ?_) (fun hz => ?_)
            · have e : ¬ to g = none := fun z => hz ((eo_none (fun t htv => by have := hto g hg t htv; omega)).mpr z)
              refine wp_iconst d9_43 ic_1 ?_
              exact tail 1 (by rw [if_neg e]) _
            · have e : to g = none := (eo_none (fun t htv => by have := hto g hg t htv; omega)).mp hz
              refine wp_iconst d9_39 ic_0 ?_
              refine wp_goto d9_40 (by decide) ?_
              exact tail 0 (by rw [if_pos e]) _
          · have hc' : canN ki (rotk w fi (pl w fi g)) le (de s) w = false := by simpa using hc
            rw [show r_lb w ki (rotk w fi (pl w fi g)) le (de s) = none by rw [r_lb, hc']; rfl] at K1
            obtain ⟨e1, e2⟩ := nofit (fun c h => by
              have := PS_fail (by omega) hP hs ht hg hc' c h
              unfold fitC
              rw [this, Bool.and_false])
            refine ⟨la1, td, q1, fun k hk' => rfl, ?_⟩
            rw [e1, e2]
            refine ev_of (L := [(.ref b), (.int (nI s)), (.int (nI g)), (.int (eo q)), .null]) (by decide) rfl (Nat.le_of_ble_eq_true rfl) ?_
            refine wp_aload_0 d9_0 ?_
            refine wp_getP d9_1 (Nat.le_of_ble_eq_true rfl) kK.1 rfl ?_
            refine wp_iload_2 d9_4 ?_
            refine wp_aldP d9_5 (kK.2 _ (Nat.le_of_ble_eq_true rfl)) rfl (by omega) (by decide) ?_
            refine wp_aload_0 d9_6 ?_
            refine wp_getP d9_7 (Nat.le_of_ble_eq_true rfl) kK.1 rfl ?_
            refine wp_iload_2 d9_10 ?_
            refine wp_aldP d9_11 (kK.2 _ (Nat.le_of_ble_eq_true rfl)) rfl (by omega) (by decide) ?_
            refine wp_icmp_eq d9_12 (by decide) (fun hz => absurd hz hne) (fun _ => ?_)
            refine wp_aload_0 d9_15 ?_
            refine wp_getP d9_16 (Nat.le_of_ble_eq_true rfl) kK.1 rfl ?_
            refine wp_iload_1 d9_19 ?_
            refine wp_iload_2 d9_20 ?_
            refine wp_V2r d9_21 kW.1 K1 (by omega) (Nat.le_of_ble_eq_true rfl) ?_
            refine wp_iconst d9_24 ic_m1 ?_
            refine wp_icmp_ne d9_25 (by decide) (fun hq => absurd hq (fun hq => hq rfl)) (fun h25 => ?_)
            exact wp_vret d9_28 rfl rfl rfl
      have loop : ∀ (i g : Nat) (la td : Nat → Nat), g + i = w → (∀ v, v < w → la (s * 5 + v) = le v) → (∀ c, c / w ^ (n + 1) = c0 → ∀ k, trN ≤ k → k < s → td k = whC w trN stN c k) → ∃ (la' td' : Nat → Nat), (∀ j, j < (s + 1) * 5 → la' j = la j) ∧ (∀ k, k < s → td' k = td k) ∧ WP (2 * (n + 1) + 2) 0 0 8 60 [.ref b, .int (nI s), .int (eo q), .int (nI g)] [] (put (put σ (b + 1) (b + 1 + 10) (wyF (b + 1) (nI w) (nI trN) (nI stN)) (wyA (arr 150 py) (arr 35 (la)) (arr 5 pc))) b (b + 14) (bkF b (nI (owN to of' w)) (nI (ftN w ki fi de le0 to trN stN ((c0 * w + g) * w ^ n))) (eo (agA w ki fi de le0 to trN stN q ((c0 * w + g) * w ^ n)))) (bkA (arO 5 (to)) (arr 5 (of')) (arr 6 (td)))) none (put (put σ (b + 1) (b + 1 + 10) (wyF (b + 1) (nI w) (nI trN) (nI stN)) (wyA (arr 150 py) (arr 35 (la')) (arr 5 pc))) b (b + 14) (bkF b (nI (owN to of' w)) (nI (ftN w ki fi de le0 to trN stN ((c0 * w + w) * w ^ n))) (eo (agA w ki fi de le0 to trN stN q ((c0 * w + w) * w ^ n)))) (bkA (arO 5 (to)) (arr 5 (of')) (arr 6 (td')))) := by
        intro i
        induction i with
        | zero =>
          intro g la td hg hla htd
          have e : g = w := by omega
          subst e
          refine ⟨la, td, fun j hj => rfl, fun k hk' => rfl, ?_⟩
          refine wp_iload_3 d8_60 ?_
          refine wp_aload_0 d8_61 ?_
          refine wp_getP d8_62 (Nat.le_of_ble_eq_true rfl) kK.1 rfl ?_
          refine wp_get d8_65 (by decide) kW.1 gW rfl ?_
          refine wp_icmp_geN d8_68 (by decide) (by omega) (by omega) (fun h68 => ?_) (fun hq => absurd hq (by omega))
          exact wp_vret d8_84 rfl rfl rfl
        | succ i ih2 =>
          intro g la td hg hla htd
          obtain ⟨la1, td1, p1, p2, K1⟩ := stp g la td (by omega) hla htd
          obtain ⟨la2, td2, r1, r2, K2⟩ := ih2 (g + 1) la1 td1 (by omega) (fun v hv => by rw [p1 _ (by omega)]; exact hla v hv) (fun c h k k1 k2 => by rw [p2 k (by omega)]; exact htd c h k k1 k2)
          refine ⟨la2, td2, fun j hj => by rw [r1 j hj]; exact p1 j hj, fun k hk' => by rw [r2 k hk']; exact p2 k hk', ?_⟩
          rw [show (c0 * w + g) * w ^ n + w ^ n = (c0 * w + (g + 1)) * w ^ n by rw [← Nat.succ_mul, ← Nat.add_assoc]] at K1
          refine wp_iload_3 d8_60 ?_
          refine wp_aload_0 d8_61 ?_
          refine wp_getP d8_62 (Nat.le_of_ble_eq_true rfl) kK.1 rfl ?_
          refine wp_get d8_65 (by decide) kW.1 gW rfl ?_
          refine wp_icmp_geN d8_68 (by decide) (by omega) (by omega) (fun hq => absurd hq (by omega)) (fun h68 => ?_)
          refine wp_aload_0 d8_71 ?_
          refine wp_iload_1 d8_72 ?_
          refine wp_iload_3 d8_73 ?_
          refine wp_iload_2 d8_74 ?_
          refine wp_V3v d8_75 kK.1 K1 (by omega) (Nat.le_of_ble_eq_true rfl) ?_
          refine wp_iinc_3 d8_78 (Nat.le_of_ble_eq_true rfl) rfl (inc1 _) ?_
          refine wp_goto d8_81 (by decide) ?_
          exact K2
      obtain ⟨la', td', p1, p2, K⟩ := loop w 0 la td (by omega) hla (fun c h => (hpre c h).1)
      refine ⟨la', td', p1, p2, ?_⟩
      rw [show (c0 * w + 0) * w ^ n = c0 * w ^ (n + 1) by rw [Nat.add_zero, Nat.mul_assoc, Nat.mul_comm w (w ^ n), ← Nat.pow_succ]] at K
      rw [show (c0 * w + w) * w ^ n = c0 * w ^ (n + 1) + w ^ (n + 1) by rw [Nat.add_mul, Nat.mul_assoc, Nat.mul_comm w (w ^ n), ← Nat.pow_succ]] at K
      refine ev_of (L := [(.ref b), (.int (nI s)), (.int (eo q)), .null]) (by decide) rfl (Nat.le_of_ble_eq_true rfl) ?_
      refine wp_aload_0 d8_0 ?_
      refine wp_getP d8_1 (Nat.le_of_ble_eq_true rfl) kK.1 rfl ?_
      refine wp_aload_0 d8_4 ?_
      refine wp_getP d8_5 (Nat.le_of_ble_eq_true rfl) kK.1 rfl ?_
      refine wp_get d8_8 (by decide) kW.1 gW rfl ?_
      refine wp_iload_1 d8_11 ?_
      refine wp_isubN d8_12 (by omega) ?_
      refine wp_icmp_leN d8_13 (by decide) (by omega) (by omega) (fun h13 => ?_) (fun hq => absurd hq (by omega))
      refine wp_iload_1 d8_17 ?_
      refine wp_aload_0 d8_18 ?_
      refine wp_getP d8_19 (Nat.le_of_ble_eq_true rfl) kK.1 rfl ?_
      refine wp_get d8_22 (by decide) kW.1 gW rfl ?_
      refine wp_icmp_ltN d8_25 (by decide) (by omega) (by omega) (fun h25 => ?_) (fun hq => absurd hq (by omega))
      refine wp_iconst d8_58 ic_0 ?_
      refine wp_istore_3 d8_59 (Nat.le_of_ble_eq_true rfl) rfl ?_
      exact K

end S26_bo1
