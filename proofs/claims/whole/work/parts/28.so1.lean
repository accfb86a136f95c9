section S28_so1
variable {σ : Sto} {b w stN tr' : Nat} {me mi ls : Int32} {ki sr de le' fi' du' td : Nat → Nat} {fo' fl : Nat → Option Nat} {pd : Nat → Bool} {ato : List Int32}

theorem o_startAnew (kS : KS σ b) (kT : KT σ (b + 1)) (hw5 : w ≤ 5) : Ev 0 0 0 22 [.ref b] (put (put σ (b + 1) (b + 1 + 1) (trF (b + 1) (nI stN) me (nI (tr')) (nI w) (mi)) (trA (arr 6 de) (arO 6 (fo')) (arr 5 ki) (arr 5 sr) (arr 5 (le')) ato (arr 5 (fi')) (arr 5 (du')))) b (b + 10) (stF b (ls)) (stA (arrI 5 (fun v => bi (pd v))) (arr 5 (td)) (arO 5 (fl)))) none (put (put σ (b + 1) (b + 1 + 1) (trF (b + 1) (nI stN) me (nI (0)) (nI w) (mi)) (trA (arr 6 de) (arO 6 (fo')) (arr 5 ki) (arr 5 sr) (arr 5 (fun v => if v < w then sr v else le' v)) ato (arr 5 (fun v => if v < w then td v else fi' v)) (arr 5 (du')))) b (b + 10) (stF b (ls)) (stA (arrI 5 (fun v => bi (pd v))) (arr 5 (td)) (arO 5 (fl)))) := by
  have gT : ∀ {fs1 fs2 : List Value} {as1 as2 : List (List Int32)}, (put (put σ (b + 1) (b + 1 + 1) fs1 as1) b (b + 10) fs2 as2).2.1 (b + 1) = fs1 := fun {_ _ _ _} => (put_F_ne (by omega)).trans put_F
  have gA : ∀ {fs1 fs2 : List Value} {as1 as2 : List (List Int32)} (k : Nat) (l : List Int32), as1.length = 8 → as1[k]? = some l → (put (put σ (b + 1) (b + 1 + 1) fs1 as1) b (b + 10) fs2 as2).2.2 (b + 1 + 1 + k) = l := by
    intro fs1 fs2 as1 as2 k l h8 hk'
    have : k < as1.length := (List.getElem?_eq_some_iff.mp hk').1
    rw [put_A_ne (by omega)]
    exact put_A hk'
  have iF : ∀ {fs1 fs2 : List Value} {as1 as2 : List (List Int32)} {k : Nat} {v : Value}, setF (put (put σ (b + 1) (b + 1 + 1) fs1 as1) b (b + 10) fs2 as2) (b + 1) k v = put (put σ (b + 1) (b + 1 + 1) (fs1.set k v) as1) b (b + 10) fs2 as2 := by
    intro fs1 fs2 as1 as2 k v
    rw [← setF_put]
    unfold setF put
    refine congrArg (Prod.mk σ.1) (congrArg (fun z => Prod.mk z _) ?_)
    funext i
    by_cases e1 : i = b + 1
    · subst e1; simp
    · by_cases e2 : i = b <;> simp [e1, e2]
  have iA : ∀ {fs1 fs2 : List Value} {as1 as2 : List (List Int32)} {k : Nat} {l : List Int32}, as1.length = 8 → k < 8 → setA (put (put σ (b + 1) (b + 1 + 1) fs1 as1) b (b + 10) fs2 as2) (b + 1 + 1 + k) l = put (put σ (b + 1) (b + 1 + 1) fs1 (as1.set k l)) b (b + 10) fs2 as2 := by
    intro fs1 fs2 as1 as2 k l h8 hk'
    rw [← setA_put (by omega)]
    unfold setA put
    refine congrArg (Prod.mk σ.1) (congrArg (Prod.mk _) ?_)
    funext i
    by_cases e1 : i = b + 1 + 1 + k
    · subst e1
      simp
      omega
    · simp [e1]
  have loop : ∀ (n k : Nat) (g1 g2 : Nat → Nat), k + n = w → (∀ j, g1 j = if j < k then sr j else le' j) → (∀ j, g2 j = if j < k then td j else fi' j) → WP 0 0 0 22 10 [.ref b, .int (nI k)] [] (put (put σ (b + 1) (b + 1 + 1) (trF (b + 1) (nI stN) me (nI (0)) (nI w) (mi)) (trA (arr 6 de) (arO 6 (fo')) (arr 5 ki) (arr 5 sr) (arr 5 (g1)) ato (arr 5 (g2)) (arr 5 (du')))) b (b + 10) (stF b (ls)) (stA (arrI 5 (fun v => bi (pd v))) (arr 5 (td)) (arO 5 (fl)))) none (put (put σ (b + 1) (b + 1 + 1) (trF (b + 1) (nI stN) me (nI (0)) (nI w) (mi)) (trA (arr 6 de) (arO 6 (fo')) (arr 5 ki) (arr 5 sr) (arr 5 (fun v => if v < w then sr v else le' v)) ato (arr 5 (fun v => if v < w then td v else fi' v)) (arr 5 (du')))) b (b + 10) (stF b (ls)) (stA (arrI 5 (fun v => bi (pd v))) (arr 5 (td)) (arO 5 (fl)))) := by
    intro n
    induction n with
    | zero =>
      intro k g1 g2 hk' hg1 hg2
      have e : k = w := by omega
      rw [show (fun v => if v < w then sr v else le' v) = g1 by funext j; rw [hg1, e], show (fun v => if v < w then td v else fi' v) = g2 by funext j; rw [hg2, e]]
      refine wp_iload_1 d22_10 ?_
      refine wp_aload_0 d22_11 ?_
      refine wp_getP d22_12 (Nat.le_of_ble_eq_true rfl) kS.1 rfl ?_
      refine wp_get d22_15 (by decide) kT.1 gT rfl ?_
      refine wp_icmp_geN d22_18 (by decide) (by omega) (by omega) (fun h18 => ?_) (fun hq => absurd hq (by omega))
      exact wp_vret d22_60 rfl rfl rfl
    | succ n ih =>
      intro k g1 g2 hk' hg1 hg2
      refine wp_iload_1 d22_10 ?_
      refine wp_aload_0 d22_11 ?_
      refine wp_getP d22_12 (Nat.le_of_ble_eq_true rfl) kS.1 rfl ?_
      refine wp_get d22_15 (by decide) kT.1 gT rfl ?_
      refine wp_icmp_geN d22_18 (by decide) (by omega) (by omega) (fun hq => absurd hq (by omega)) (fun h18 => ?_)
      refine wp_aload_0 d22_21 ?_
      refine wp_getP d22_22 (Nat.le_of_ble_eq_true rfl) kS.1 rfl ?_
      refine wp_get d22_25 (by decide) kT.1 gT rfl ?_
      refine wp_iload_1 d22_28 ?_
      refine wp_aload_0 d22_29 ?_
      refine wp_getP d22_30 (Nat.le_of_ble_eq_true rfl) kS.1 rfl ?_
      refine wp_get d22_33 (by decide) kT.1 gT rfl ?_
      refine wp_iload_1 d22_36 ?_
      refine wp_aldG d22_37 (kT.2 3 (by decide)) (gA 3 _ rfl rfl) (by omega) (by decide) ?_
      refine wp_iast d22_38 (kT.2 4 (by decide)) (by rw [gA 4 _ rfl rfl, arrI_len]; omega) (by rw [gA 4 _ rfl rfl, arrI_len]; decide) ?_
      rw [gA 4 _ rfl rfl, arrN_set, iA rfl (by decide)]
      refine wp_aload_0 d22_39 ?_
      refine wp_getP d22_40 (Nat.le_of_ble_eq_true rfl) kS.1 rfl ?_
      refine wp_get d22_43 (by decide) kT.1 gT rfl ?_
      refine wp_iload_1 d22_46 ?_
      refine wp_aload_0 d22_47 ?_
      refine wp_getP d22_48 (Nat.le_of_ble_eq_true rfl) kS.1 rfl ?_
      refine wp_iload_1 d22_51 ?_
      refine wp_aldP d22_52 kS.2.1.1 rfl (by omega) (by decide) ?_
      refine wp_iast d22_53 (kT.2 6 (by decide)) (by rw [gA 6 _ rfl rfl, arrI_len]; omega) (by rw [gA 6 _ rfl rfl, arrI_len]; decide) ?_
      rw [gA 6 _ rfl rfl, arrN_set, iA rfl (by decide)]
      refine wp_iinc_1 d22_54 (Nat.le_of_ble_eq_true rfl) rfl (inc1 _) ?_
      refine wp_goto d22_57 (by decide) ?_
      refine ih (k + 1) _ _ (by omega) (fun j => ?_) (fun j => ?_)
      · unfold up
        rw [hg1 j]
        by_cases e : j = k
        · rw [if_pos e, if_pos (by omega), e]
        · rw [if_neg e]
          by_cases e2 : j < k
          · rw [if_pos e2, if_pos (by omega)]
          · rw [if_neg e2, if_neg (by omega)]
      · unfold up
        rw [hg2 j]
        by_cases e : j = k
        · rw [if_pos e, if_pos (by omega), e]
        · rw [if_neg e]
          by_cases e2 : j < k
          · rw [if_pos e2, if_pos (by omega)]
          · rw [if_neg e2, if_neg (by omega)]
  refine ev_of (L := [(.ref b), .null]) (by decide) rfl (Nat.le_of_ble_eq_true rfl) ?_
  refine wp_aload_0 d22_0 ?_
  refine wp_getP d22_1 (Nat.le_of_ble_eq_true rfl) kS.1 rfl ?_
  refine wp_iconst d22_4 ic_0 ?_
  refine wp_putI d22_5 kT.1 ?_
  rw [iF]
  refine wp_iconst d22_8 ic_0 ?_
  refine wp_istore_1 d22_9 (Nat.le_of_ble_eq_true rfl) rfl ?_
  exact loop w 0 le' fi' (by omega) (fun j => by simp) (fun j => by simp)
theorem o_tryFile (kS : KS σ b) (kT : KT σ (b + 1)) {acc : Option (Nat × Nat)} (h6 : stN ≤ 6) (hw : 1 ≤ w) (hw5 : w ≤ 5) (hk : ∀ v, v < w → ki v < 5) (hs : ∀ v, v < w → sr v ≤ 99) (hd : ∀ k, k < stN → de k < 100) (htd : PF w td) (hfo : (∀ k j, fo' k = some j → j < 2 ^ 31)) (hacc : ∀ c l, acc = some (c, l) → l < 1000) : ∀ (c : Nat), (∀ p, p < w → odC w c p = td p) → ∃ (tr1 : Nat) (mi1 : Int32) (fo1 : Nat → Option Nat) (le1 fi1 du1 : Nat → Nat), (∀ k j, fo1 k = some j → j < 2 ^ 31) ∧ Ev 3 0 0 21 [.ref b] (put (put σ (b + 1) (b + 1 + 1) (trF (b + 1) (nI stN) me (nI (tr')) (nI w) (mi)) (trA (arr 6 de) (arO 6 (fo')) (arr 5 ki) (arr 5 sr) (arr 5 (le')) ato (arr 5 (fi')) (arr 5 (du')))) b (b + 10) (stF b (eo (p2 (acc)))) (stA (arrI 5 (fun v => bi (pd v))) (arr 5 (td)) (arO 5 (flO w (acc))))) none (put (put σ (b + 1) (b + 1 + 1) (trF (b + 1) (nI stN) me (nI (tr1)) (nI w) (mi1)) (trA (arr 6 de) (arO 6 (fo1)) (arr 5 ki) (arr 5 sr) (arr 5 (le1)) ato (arr 5 (fi1)) (arr 5 (du1)))) b (b + 10) (stF b (eo (p2 (if (soN w ki de stN 0 td sr).1 && gtO acc (mnN (soN w ki de stN 0 td sr).2.2 100 w) then some (c, mnN (soN w ki de stN 0 td sr).2.2 100 w) else acc)))) (stA (arrI 5 (fun v => bi (pd v))) (arr 5 (td)) (arO 5 (flO w (if (soN w ki de stN 0 td sr).1 && gtO acc (mnN (soN w ki de stN 0 td sr).2.2 100 w) then some (c, mnN (soN w ki de stN 0 td sr).2.2 100 w) else acc))))) := by
  intro c hc
  have gT : ∀ {fs1 fs2 : List Value} {as1 as2 : List (List Int32)}, (put (put σ (b + 1) (b + 1 + 1) fs1 as1) b (b + 10) fs2 as2).2.1 (b + 1) = fs1 := fun {_ _ _ _} => (put_F_ne (by omega)).trans put_F
  have hF0 : PF w (fun v => if v < w then td v else fi' v) := by
    obtain ⟨a1, a2, a3⟩ := htd
    refine ⟨fun p hp => by simp only [hp, if_true]; exact a1 p hp, fun p q hp hq => by simp only [hp, hq, if_true]; exact a2 p q hp hq, fun v hv => ?_⟩
    obtain ⟨p, hp, e⟩ := a3 v hv
    exact ⟨p, hp, by simp only [hp, if_true]; exact e⟩
  have hso1 := soN_congr (w := w) (ki := ki) (de := de) stN 0 (fun v => if v < w then td v else fi' v) td (fun v => if v < w then sr v else le' v) (fun p hp => by simp only [hp, if_true])
  have hso2 := soN_le2 (w := w) (ki := ki) (de := de) stN 0 td (fun v => if v < w then sr v else le' v) sr htd (fun v hv => by simp only [hv, if_true])
  have hS1 : (soN w ki de stN 0 (fun v => if v < w then td v else fi' v) (fun v => if v < w then sr v else le' v)).1 = (soN w ki de stN 0 td sr).1 := hso1.1.trans hso2.1
  have hS2 : ∀ v, v < w → (soN w ki de stN 0 (fun v => if v < w then td v else fi' v) (fun v => if v < w then sr v else le' v)).2.2 v = (soN w ki de stN 0 td sr).2.2 v := fun v hv => by rw [hso1.2]; exact hso2.2 v hv
  have hle99 : ∀ v, v < w → (soN w ki de stN 0 td sr).2.2 v ≤ 99 := fun v hv => Nat.le_trans (soN_le _ _ _ _ v) (hs v hv)
  have hmn : mnN (soN w ki de stN 0 td sr).2.2 100 w = mnN (soN w ki de stN 0 td sr).2.2 99 w := mn_99 w hw hle99
  rw [hmn]
  generalize (soN w ki de stN 0 td sr).1 = ok at *
  have hm99 := mnN_le (soN w ki de stN 0 td sr).2.2 99 w
  have hmc : ∀ L : Nat → Nat, (∀ v, v < w → L v = (soN w ki de stN 0 td sr).2.2 v) → mnN L 99 w = mnN (soN w ki de stN 0 td sr).2.2 99 w := fun L h => mnN_congr w h
  generalize mnN (soN w ki de stN 0 td sr).2.2 99 w = v99 at *
  -- behind the loop
  have fin : ∀ (k : Nat) (mi1 : Int32) (fo1 : Nat → Option Nat) (le1 fi1 du1 : Nat → Nat), k ≤ stN → (ok = true → k = stN ∧ ∀ v, v < w → le1 v = (soN w ki de stN 0 td sr).2.2 v) → (ok = false → k < stN) → (∀ v, v < w → le1 v < 1000) → WP 3 0 0 21 40 [.ref b, .int (nI k)] [] (put (put σ (b + 1) (b + 1 + 1) (trF (b + 1) (nI stN) me (nI (k)) (nI w) (mi1)) (trA (arr 6 de) (arO 6 (fo1)) (arr 5 ki) (arr 5 sr) (arr 5 (le1)) ato (arr 5 (fi1)) (arr 5 (du1)))) b (b + 10) (stF b (eo (p2 (acc)))) (stA (arrI 5 (fun v => bi (pd v))) (arr 5 (td)) (arO 5 (flO w (acc))))) none (put (put σ (b + 1) (b + 1 + 1) (trF (b + 1) (nI stN) me (nI (k)) (nI w) (mi1)) (trA (arr 6 de) (arO 6 (fo1)) (arr 5 ki) (arr 5 sr) (arr 5 (le1)) ato (arr 5 (fi1)) (arr 5 (du1)))) b (b + 10) (stF b (eo (p2 (if ok && gtO acc v99 then some (c, v99) else acc)))) (stA (arrI 5 (fun v => bi (pd v))) (arr 5 (td)) (arO 5 (flO w (if ok && gtO acc v99 then some (c, v99) else acc))))) := by
    intro k mi1 fo1 le1 fi1 du1 hk1 hok hno hl1
    have hll : ∀ {ls : Int32} {fl : Nat → Option Nat}, Ev 1 0 0 41 [.ref (b + 1)] (put (put σ (b + 1) (b + 1 + 1) (trF (b + 1) (nI stN) me (nI (k)) (nI w) (mi1)) (trA (arr 6 de) (arO 6 (fo1)) (arr 5 ki) (arr 5 sr) (arr 5 (le1)) ato (arr 5 (fi1)) (arr 5 (du1)))) b (b + 10) (stF b (ls)) (stA (arrI 5 (fun v => bi (pd v))) (arr 5 (td)) (arO 5 (fl)))) (some (.int (nI (mnN le1 99 w)))) (put (put σ (b + 1) (b + 1 + 1) (trF (b + 1) (nI stN) me (nI (k)) (nI w) (mi1)) (trA (arr 6 de) (arO 6 (fo1)) (arr 5 ki) (arr 5 sr) (arr 5 (le1)) ato (arr 5 (fi1)) (arr 5 (du1)))) b (b + 10) (stF b (ls)) (stA (arrI 5 (fun v => bi (pd v))) (arr 5 (td)) (arO 5 (fl)))) := fun {ls fl} => Ev_in (by omega) (by simp only [trA, stA, List.length_cons, List.length_nil]; omega) (by rfl) (t_leastLeft (σ := (put (put σ (b + 1) (b + 1 + 1) (trF (b + 1) (nI stN) me (nI (k)) (nI w) (mi1)) (trA (arr 6 de) (arO 6 (fo1)) (arr 5 ki) (arr 5 sr) (arr 5 (le1)) ato (arr 5 (fi1)) (arr 5 (du1)))) b (b + 10) (stF b (ls)) (stA (arrI 5 (fun v => bi (pd v))) (arr 5 (td)) (arO 5 (fl))))) (t := b + 1) kT hw5 hl1)
    refine wp_aload_0 d21_40 ?_
    refine wp_getP d21_41 (Nat.le_of_ble_eq_true rfl) kS.1 rfl ?_
    refine wp_get d21_44 (by decide) kT.1 gT rfl ?_
    refine wp_aload_0 d21_47 ?_
    refine wp_getP d21_48 (Nat.le_of_ble_eq_true rfl) kS.1 rfl ?_
    refine wp_get d21_51 (by decide) kT.1 gT rfl ?_
    cases hz : ok with
    | false =>
      have := hno hz
      simp only [Bool.false_and, if_false]
      refine wp_icmp_ltN d21_54 (by decide) (by omega) (by omega) (fun h54 => ?_) (fun hq => absurd hq (by omega))
      exact wp_vret d21_71 rfl rfl rfl
    | true =>
      obtain ⟨e1, e2⟩ := hok hz
      have e3 := hmc le1 e2
      simp only [Bool.true_and]
      refine wp_icmp_ltN d21_54 (by decide) (by omega) (by omega) (fun hq => absurd hq (by omega)) (fun h54 => ?_)
      refine wp_aload_0 d21_57 ?_
      refine wp_getP d21_58 (Nat.le_of_ble_eq_true rfl) kS.1 rfl ?_
      refine wp_V0r d21_61 kT.1 hll (Nat.le_of_ble_eq_true rfl) (Nat.le_of_ble_eq_true rfl) ?_
      rw [e3]
      have yes : gtO acc v99 = true → WP 3 0 0 21 72 [.ref b, .int (nI k)] [] (put (put σ (b + 1) (b + 1 + 1) (trF (b + 1) (nI stN) me (nI (k)) (nI w) (mi1)) (trA (arr 6 de) (arO 6 (fo1)) (arr 5 ki) (arr 5 sr) (arr 5 (le1)) ato (arr 5 (fi1)) (arr 5 (du1)))) b (b + 10) (stF b (eo (p2 (acc)))) (stA (arrI 5 (fun v => bi (pd v))) (arr 5 (td)) (arO 5 (flO w (acc))))) none (put (put σ (b + 1) (b + 1 + 1) (trF (b + 1) (nI stN) me (nI (k)) (nI w) (mi1)) (trA (arr 6 de) (arO 6 (fo1)) (arr 5 ki) (arr 5 sr) (arr 5 (le1)) ato (arr 5 (fi1)) (arr 5 (du1)))) b (b + 10) (stF b (eo (p2 (if gtO acc v99 then some (c, v99) else acc)))) (stA (arrI 5 (fun v => bi (pd v))) (arr 5 (td)) (arO 5 (flO w (if gtO acc v99 then some (c, v99) else acc))))) := by
        intro hg
        rw [if_pos hg]
        have cp : ∀ (n i : Nat) (g : Nat → Option Nat), i + n = w → (∀ j, g j = if j < i then some (td j) else flO w acc j) → WP 3 0 0 21 85 [.ref b, .int (nI i)] [] (put (put σ (b + 1) (b + 1 + 1) (trF (b + 1) (nI stN) me (nI (k)) (nI w) (mi1)) (trA (arr 6 de) (arO 6 (fo1)) (arr 5 ki) (arr 5 sr) (arr 5 (le1)) ato (arr 5 (fi1)) (arr 5 (du1)))) b (b + 10) (stF b (nI v99)) (stA (arrI 5 (fun v => bi (pd v))) (arr 5 (td)) (arO 5 (g)))) none (put (put σ (b + 1) (b + 1 + 1) (trF (b + 1) (nI stN) me (nI (k)) (nI w) (mi1)) (trA (arr 6 de) (arO 6 (fo1)) (arr 5 ki) (arr 5 sr) (arr 5 (le1)) ato (arr 5 (fi1)) (arr 5 (du1)))) b (b + 10) (stF b (eo (p2 (some (c, v99))))) (stA (arrI 5 (fun v => bi (pd v))) (arr 5 (td)) (arO 5 (flO w (some (c, v99)))))) := by
          intro n
          induction n with
          | zero =>
            intro i g hi hg'
            have e : g = flO w (some (c, v99)) := by
              funext j
              rw [hg']
              have ei : i = w := by omega
              subst ei
              show _ = if j < i then some (odC i c j) else none
              by_cases hj : j < i
              · rw [if_pos hj, if_pos hj, hc j hj]
              · rw [if_neg hj, if_neg hj]
                cases acc with
                | none => rfl
                | some q =>
                  obtain ⟨c1, l1⟩ := q
                  show (if j < i then _ else none) = none
                  rw [if_neg hj]
            rw [e]
            refine wp_iload_1 d21_85 ?_
            refine wp_aload_0 d21_86 ?_
            refine wp_getP d21_87 (Nat.le_of_ble_eq_true rfl) kS.1 rfl ?_
            refine wp_get d21_90 (by decide) kT.1 gT rfl ?_
            refine wp_icmp_geN d21_93 (by decide) (by omega) (by omega) (fun h93 => ?_) (fun hq => absurd hq (by omega))
            exact wp_vret d21_114 rfl rfl rfl
          | succ n ih =>
            intro i g hi hg'
            refine wp_iload_1 d21_85 ?_
            refine wp_aload_0 d21_86 ?_
            refine wp_getP d21_87 (Nat.le_of_ble_eq_true rfl) kS.1 rfl ?_
            refine wp_get d21_90 (by decide) kT.1 gT rfl ?_
            refine wp_icmp_geN d21_93 (by decide) (by omega) (by omega) (fun hq => absurd hq (by omega)) (fun h93 => ?_)
            refine wp_aload_0 d21_96 ?_
            refine wp_getP d21_97 (Nat.le_of_ble_eq_true rfl) kS.1 rfl ?_
            refine wp_iload_1 d21_100 ?_
            refine wp_aload_0 d21_101 ?_
            refine wp_getP d21_102 (Nat.le_of_ble_eq_true rfl) kS.1 rfl ?_
            refine wp_iload_1 d21_105 ?_
            refine wp_aldP d21_106 kS.2.1.1 rfl (by omega) (by decide) ?_
            refine wp_astO (x := some (td i)) d21_107 kS.2.1.2 rfl (by omega) (by decide) ?_
            refine wp_iinc_1 d21_108 (Nat.le_of_ble_eq_true rfl) rfl (inc1 _) ?_
            refine wp_goto d21_111 (by decide) ?_
            refine ih (i + 1) _ (by omega) (fun j => ?_)
            unfold up
            rw [hg' j]
            by_cases e : j = i
            · rw [if_pos e, if_pos (by omega), e]
            · rw [if_neg e]
              by_cases e2 : j < i
              · rw [if_pos e2, if_pos (by omega)]
              · rw [if_neg e2, if_neg (by omega)]
        refine wp_aload_0 d21_72 ?_
        refine wp_aload_0 d21_73 ?_
        refine wp_getP d21_74 (Nat.le_of_ble_eq_true rfl) kS.1 rfl ?_
        refine wp_V0r d21_77 kT.1 hll (Nat.le_of_ble_eq_true rfl) (Nat.le_of_ble_eq_true rfl) ?_
        rw [e3]
        refine wp_putIP d21_80 kS.1 ?_
        refine wp_iconst d21_83 ic_0 ?_
        refine wp_istore_1 d21_84 (Nat.le_of_ble_eq_true rfl) rfl ?_
        exact cp w 0 (flO w acc) (by omega) (fun j => by simp)
      refine wp_aload_0 d21_64 ?_
      refine wp_getP d21_65 (Nat.le_of_ble_eq_true rfl) kS.1 rfl ?_
      cases ha : acc with
      | none =>
        rw [ha] at yes
        refine wp_icmp_gt d21_68 (by decide) (fun _ => yes rfl) (fun h => absurd ?_ h)
        show (-1 : Int32) < nI v99
        rw [Int32.lt_iff_toInt_lt, nI_toInt (by omega), show ((-1 : Int32)).toInt = -1 by decide]
        omega
      | some q =>
        obtain ⟨c1, l1⟩ := q
        have := hacc c1 l1 ha
        rw [ha] at yes
        refine wp_icmp_gtN (x := v99) (y := l1) d21_68 (by decide) (by omega) (by omega) (fun h => yes (by simpa [gtO] using h)) (fun h => ?_)
        rw [show gtO (some (c1, l1)) v99 = false by simp [gtO]; omega]
        exact wp_vret d21_71 rfl rfl rfl
  have loop : ∀ (n k : Nat) (mi1 : Int32) (fo1 : Nat → Option Nat) (le1 fi1 du1 : Nat → Nat), k + n = stN → PF w fi1 → (∀ v, v < w → le1 v < 1000) → (∀ i j, fo1 i = some j → j < 2 ^ 31) → (soN w ki de n k fi1 le1).1 = ok → (∀ v, v < w → (soN w ki de n k fi1 le1).2.2 v = (soN w ki de stN 0 td sr).2.2 v) → ∃ (tr2 : Nat) (mi2 : Int32) (fo2 : Nat → Option Nat) (le2 fi2 du2 : Nat → Nat), (∀ k j, fo2 k = some j → j < 2 ^ 31) ∧ WP 3 0 0 21 6 [.ref b, .int (nI k)] [] (put (put σ (b + 1) (b + 1 + 1) (trF (b + 1) (nI stN) me (nI (k)) (nI w) (mi1)) (trA (arr 6 de) (arO 6 (fo1)) (arr 5 ki) (arr 5 sr) (arr 5 (le1)) ato (arr 5 (fi1)) (arr 5 (du1)))) b (b + 10) (stF b (eo (p2 (acc)))) (stA (arrI 5 (fun v => bi (pd v))) (arr 5 (td)) (arO 5 (flO w (acc))))) none (put (put σ (b + 1) (b + 1 + 1) (trF (b + 1) (nI stN) me (nI (tr2)) (nI w) (mi2)) (trA (arr 6 de) (arO 6 (fo2)) (arr 5 ki) (arr 5 sr) (arr 5 (le2)) ato (arr 5 (fi2)) (arr 5 (du2)))) b (b + 10) (stF b (eo (p2 (if ok && gtO acc v99 then some (c, v99) else acc)))) (stA (arrI 5 (fun v => bi (pd v))) (arr 5 (td)) (arO 5 (flO w (if ok && gtO acc v99 then some (c, v99) else acc))))) := by
    intro n
    induction n with
    | zero =>
      intro k mi1 fo1 le1 fi1 du1 hk' hpf hl1 hfo1 e1 e2
      refine ⟨k, mi1, fo1, le1, fi1, du1, hfo1, ?_⟩
      refine wp_iload_1 d21_6 ?_
      refine wp_aload_0 d21_7 ?_
      refine wp_getP d21_8 (Nat.le_of_ble_eq_true rfl) kS.1 rfl ?_
      refine wp_get d21_11 (by decide) kT.1 gT rfl ?_
      refine wp_icmp_geN d21_14 (by decide) (by omega) (by omega) (fun h14 => ?_) (fun hq => absurd hq (by omega))
      exact fin k mi1 fo1 le1 fi1 du1 (by omega) (fun _ => ⟨by omega, e2⟩) (fun z => by simp [soN, z] at e1) hl1
    | succ n ih =>
      intro k mi1 fo1 le1 fi1 du1 hk' hpf hl1 hfo1 e1 e2
      obtain ⟨du2, KT2⟩ := t_treadNext (σ := (put (put σ (b + 1) (b + 1 + 1) (trF (b + 1) (nI stN) me (nI (k)) (nI w) (mi1)) (trA (arr 6 de) (arO 6 (fo1)) (arr 5 ki) (arr 5 sr) (arr 5 (le1)) ato (arr 5 (fi1)) (arr 5 (du1)))) b (b + 10) (stF b (eo (p2 (acc)))) (stA (arrI 5 (fun v => bi (pd v))) (arr 5 (td)) (arO 5 (flO w (acc)))))) (t := b + 1) (trN := k) (stN := stN) (w := w) (ki := ki) (fi := fi1) (le := le1) (de := de) (du := du1) (fo := fo1) (me := me) (mi := mi1) (asr := arr 5 sr) (ato := ato) kT (by omega) h6 hpf hw5 hk hl1 hd (fun i hi j hj => hfo1 i j hj)
      have KT3 := Ev_in (by omega) (by simp only [trA, stA, List.length_cons, List.length_nil]; omega) (by rfl) KT2
      by_cases hcan : canN ki fi1 le1 (de k) w = true
      · have hok : okT w stN k ki fi1 le1 de = true := by simp only [okT, hcan, Bool.and_true, Bool.and_eq_true, decide_eq_true_eq]; omega
        rw [hok] at KT3
        simp only [if_true] at KT3
        have es : soN w ki de (n + 1) k fi1 le1 = soN w ki de n (k + 1) (rot w fi1) (trS ki fi1 (de k) le1 w) := by simp [soN, hcan]
        rw [es] at e1 e2
        obtain ⟨tr2, mi2, fo2, le2, fi2, du3, hfo2, K⟩ := ih (k + 1) (miT ki fi1 k de fo1 mi1 + nI 1) (up fo1 k (some (fi1 0))) (trS ki fi1 (de k) le1 w) (rot w fi1) du2 (by omega) (PF_rot hpf) (fun v hv => Nat.lt_of_le_of_lt trS_le (hl1 v hv)) (fun i j hj => by
          unfold up at hj
          split at hj
          · cases hj; have := hpf.1 0 (by omega); omega
          · exact hfo1 i j hj) e1 e2
        refine ⟨tr2, mi2, fo2, le2, fi2, du3, hfo2, ?_⟩
        have hch := t_changeFirst (t := b + 1) (σ := (put (put σ (b + 1) (b + 1 + 1) (trF (b + 1) (nI stN) me (nI (k + 1)) (nI w) (miT ki fi1 k de fo1 mi1)) (trA (arr 6 de) (arO 6 (up fo1 k (some (fi1 0)))) (arr 5 ki) (arr 5 sr) (arr 5 (trS ki fi1 (de k) le1 w)) ato (arr 5 (fi1)) (arr 5 (du2)))) b (b + 10) (stF b (eo (p2 (acc)))) (stA (arrI 5 (fun v => bi (pd v))) (arr 5 (td)) (arO 5 (flO w (acc)))))) (st := nI stN) (me := me) (tr := nI (k + 1)) (mi := miT ki fi1 k de fo1 mi1) (ade := arr 6 de) (afo := arO 6 (up fo1 k (some (fi1 0)))) (aki := arr 5 ki) (asr := arr 5 sr) (ale := arr 5 (trS ki fi1 (de k) le1 w)) (ato := ato) (adu := arr 5 du2) (fi := fi1) (w := w) kT hw5
        rw [if_neg (by omega), if_neg (by omega)] at hch
        have hch2 := Ev_in (by omega) (by simp only [trA, stA, List.length_cons, List.length_nil]; omega) (by rfl) hch
        refine wp_iload_1 d21_6 ?_
        refine wp_aload_0 d21_7 ?_
        refine wp_getP d21_8 (Nat.le_of_ble_eq_true rfl) kS.1 rfl ?_
        refine wp_get d21_11 (by decide) kT.1 gT rfl ?_
        refine wp_icmp_geN d21_14 (by decide) (by omega) (by omega) (fun hq => absurd hq (by omega)) (fun h14 => ?_)
        refine wp_aload_0 d21_17 ?_
        refine wp_getP d21_18 (Nat.le_of_ble_eq_true rfl) kS.1 rfl ?_
        refine wp_V0r d21_21 kT.1 (KT3) (Nat.le_of_ble_eq_true rfl) (Nat.le_of_ble_eq_true rfl) ?_
        refine wp_if_eqB d21_24 (by decide) (fun hq => absurd hq (by decide)) (fun h24 => ?_)
        refine wp_aload_0 d21_27 ?_
        refine wp_getP d21_28 (Nat.le_of_ble_eq_true rfl) kS.1 rfl ?_
        refine wp_V0v d21_31 kT.1 (hch2) (Nat.le_of_ble_eq_true rfl) (Nat.le_of_ble_eq_true rfl) ?_
        refine wp_iinc_1 d21_34 (Nat.le_of_ble_eq_true rfl) rfl (inc1 _) ?_
        refine wp_goto d21_37 (by decide) ?_
        exact K
      · have hcan' : canN ki fi1 le1 (de k) w = false := by simpa using hcan
        have hok : okT w stN k ki fi1 le1 de = false := by simp only [okT, hcan', Bool.and_false]
        rw [hok] at KT3
        simp only [if_false, Bool.false_eq_true] at KT3
        have es : soN w ki de (n + 1) k fi1 le1 = (false, fi1, le1) := by simp [soN, hcan']
        rw [es] at e1 e2
        refine ⟨k, mi1, fo1, le1, fi1, du2, hfo1, ?_⟩
        refine wp_iload_1 d21_6 ?_
        refine wp_aload_0 d21_7 ?_
        refine wp_getP d21_8 (Nat.le_of_ble_eq_true rfl) kS.1 rfl ?_
        refine wp_get d21_11 (by decide) kT.1 gT rfl ?_
        refine wp_icmp_geN d21_14 (by decide) (by omega) (by omega) (fun hq => absurd hq (by omega)) (fun h14 => ?_)
        refine wp_aload_0 d21_17 ?_
        refine wp_getP d21_18 (Nat.le_of_ble_eq_true rfl) kS.1 rfl ?_
        refine wp_V0r d21_21 kT.1 (KT3) (Nat.le_of_ble_eq_true rfl) (Nat.le_of_ble_eq_true rfl) ?_
        refine wp_if_eqB d21_24 (by decide) (fun h24 => ?_) (fun hq => absurd hq (by decide))
        exact fin k mi1 fo1 le1 fi1 du2 (by omega) (fun z => by simp [z] at e1) (fun _ => by omega) hl1
  obtain ⟨tr2, mi2, fo2, le2, fi2, du2, hfo2, K⟩ := loop stN 0 mi fo' (fun v => if v < w then sr v else le' v) (fun v => if v < w then td v else fi' v) du' (by omega) hF0 (fun v hv => by simp only [hv, if_true]; have := hs v hv; omega) hfo hS1 hS2
  refine ⟨tr2, mi2, fo2, le2, fi2, du2, hfo2, ?_⟩
  refine ev_of (L := [(.ref b), .null]) (by decide) rfl (Nat.le_of_ble_eq_true rfl) ?_
  refine wp_aload_0 d21_0 ?_
  refine wp_V0v d21_1 kS.1 ((o_startAnew kS kT hw5)) (Nat.le_of_ble_eq_true rfl) (Nat.le_of_ble_eq_true rfl) ?_
  refine wp_iconst d21_4 ic_0 ?_
  refine wp_istore_1 d21_5 (Nat.le_of_ble_eq_true rfl) rfl ?_
  exact K

end S28_so1
