section S23_wy2b
variable {σ : Sto} {y t u : Nat} {wwa wfr wst st me tr wa mi : Int32} {apy ala apl ade afo aki asr ale ato afi adu : List Int32}

theorem w_leastBehind (kW : KW σ y) {w trN stN s f : Nat} {ki fi le de py la : Nat → Nat} (hts : trN ≤ s) (hs : s < stN) (h6 : stN ≤ 6) (hw5 : w ≤ 5) (hfw : f < w) (hf : PF w fi) (hl : ∀ v, v < w → le v < 1000) (hd : de s < 100) (hpy : WT w trN stN ki fi de py) (hla : ∀ v, v < w → la (s * 5 + v) = le v) : ∃ la' : Nat → Nat, (∀ j, j < (s + 1) * 5 → la' j = la j) ∧ (canN ki (rotk w fi (pl w fi f)) le (de s) w = true → ∀ v, v < w → la' ((s + 1) * 5 + v) = trS ki (rotk w fi (pl w fi f)) (de s) le w v) ∧ Ev 1 0 0 47 [.ref y, .int (nI s), .int (nI f)] (put σ y (y + 10) (wyF y (nI w) (nI trN) (nI stN)) (wyA (arr 150 py) (arr 35 la) (apl))) (some (.int (eo (r_lb w ki (rotk w fi (pl w fi f)) le (de s))))) (put σ y (y + 10) (wyF y (nI w) (nI trN) (nI stN)) (wyA (arr 150 py) (arr 35 la') (apl))) := by
  have hp := PF_pl hf hfw
  have hF := PF_rotk hf (pl w fi f)
  have hF0 : rotk w fi (pl w fi f) 0 = f := by
    unfold rotk
    rw [if_pos (by omega), Nat.zero_add, Nat.mod_eq_of_lt hp.1]
    exact hp.2
  have hdu : ∀ p, p < w → (fun v => py ((s * 5 + f) * 5 + v)) (rotk w fi (pl w fi f) p) = payN ki (rotk w fi (pl w fi f)) p (de s) := by
    intro p hp'
    have := hpy s hts hs (pl w fi f) hp.1 p hp'
    rw [hF0] at this
    exact this
  generalize rotk w fi (pl w fi f) = F at *
  have hdl : ∀ v, v < w → py ((s * 5 + f) * 5 + v) < 100 := by
    intro v hv
    obtain ⟨p, hp', rfl⟩ := hF.2.2 v hv
    have := hdu p hp'
    simp only at this
    rw [this]
    exact Nat.lt_of_le_of_lt payN_le hd
  have hcan : (∀ v, v < w → py ((s * 5 + f) * 5 + v) ≤ le v) → canN ki F le (de s) w = true := by
    intro h
    apply canN_all
    intro p hp'
    have := hdu p hp'
    simp only at this
    rw [← this]
    exact h _ (hF.1 p hp')
  have hcan' : ∀ v, v < w → ¬ py ((s * 5 + f) * 5 + v) ≤ le v → canN ki F le (de s) w = false := by
    intro v hv h
    obtain ⟨p, hp', rfl⟩ := hF.2.2 v hv
    have := hdu p hp'
    simp only at this
    rw [this] at h
    exact canN_false hp' h
  have etr : ∀ v, v < w → trS ki F (de s) le w v = le v - py ((s * 5 + f) * 5 + v) := by
    intro v hv
    rw [trS_eq (du := fun v => py ((s * 5 + f) * 5 + v)) hF hdu, if_pos hv]
  have loop : ∀ (n k : Nat) (g : Nat → Nat) (u7 : Value), k + n = w → (∀ v, v < k → py ((s * 5 + f) * 5 + v) ≤ le v) → (∀ j, j < (s + 1) * 5 → g j = la j) → (∀ v, v < k → g ((s + 1) * 5 + v) = le v - py ((s * 5 + f) * 5 + v)) → ∃ la' : Nat → Nat, (∀ j, j < (s + 1) * 5 → la' j = la j) ∧ (canN ki F le (de s) w = true → ∀ v, v < w → la' ((s + 1) * 5 + v) = trS ki F (de s) le w v) ∧ WP 1 0 0 47 48 [.ref y, .int (nI s), .int (nI f), .int (nI ((s * 5 + f) * 5)), .int (nI (s * 5)), .int (nI (mnN (trS ki F (de s) le w) 99 k)), .int (nI k), u7] [] (put σ y (y + 10) (wyF y (nI w) (nI trN) (nI stN)) (wyA (arr 150 py) (arr 35 g) (apl))) (some (.int (eo (r_lb w ki F le (de s))))) (put σ y (y + 10) (wyF y (nI w) (nI trN) (nI stN)) (wyA (arr 150 py) (arr 35 la') (apl))) := by
    intro n
    induction n with
    | zero =>
      intro k g u7 hk' hle hg1 hg2
      have e : k = w := by omega
      subst e
      refine ⟨g, hg1, fun _ v hv => by rw [hg2 v hv, etr v hv], ?_⟩
      rw [show r_lb k ki F le (de s) = some (mnN (trS ki F (de s) le k) 99 k) by rw [r_lb, if_pos (hcan hle)]]
      refine wp_iload_6 d47_48 ?_
      refine wp_aload_0 d47_50 ?_
      refine wp_getP d47_51 (Nat.le_of_ble_eq_true rfl) kW.1 rfl ?_
      refine wp_icmp_geN d47_54 (by decide) (by omega) (by omega) (fun h54 => ?_) (fun hq => absurd hq (by omega))
      refine wp_iload_5 d47_115 ?_
      exact wp_iret d47_117 rfl rfl rfl
    | succ n ih =>
      intro k g u7 hk' hle hg1 hg2
      have b1 := hl k (by omega)
      have b2 := hdl k (by omega)
      have b3 : g (s * 5 + k) = le k := by rw [hg1 _ (by omega)]; exact hla k (by omega)
      have b4 := mnN_le (trS ki F (de s) le w) 99 k
      by_cases hc : py ((s * 5 + f) * 5 + k) ≤ le k
      · obtain ⟨la', q1, q2, K⟩ := ih (k + 1) (up g ((s + 1) * 5 + k) (le k - py ((s * 5 + f) * 5 + k))) (.int (nI (le k - py ((s * 5 + f) * 5 + k)))) (by omega) (fun v hv => by
            by_cases e : v = k
            · rw [e]; exact hc
            · exact hle v (by omega)) (fun j hj => by rw [up_n _ _ (by omega)]; exact hg1 j hj) (fun v hv => by
            unfold up
            by_cases e : v = k
            · rw [if_pos (by omega), e]
            · rw [if_neg (by omega)]; exact hg2 v (by omega))
        refine ⟨la', q1, q2, ?_⟩
        refine wp_iload_6 d47_48 ?_
        refine wp_aload_0 d47_50 ?_
        refine wp_getP d47_51 (Nat.le_of_ble_eq_true rfl) kW.1 rfl ?_
        refine wp_icmp_geN d47_54 (by decide) (by omega) (by omega) (fun hq => absurd hq (by omega)) (fun h54 => ?_)
        refine wp_aload_0 d47_57 ?_
        refine wp_getP d47_58 (Nat.le_of_ble_eq_true rfl) kW.1 rfl ?_
        refine wp_iload_4 d47_61 ?_
        refine wp_iload_6 d47_63 ?_
        refine wp_iaddN d47_65 ?_
        refine wp_aldP d47_66 (kW.2 _ (Nat.le_of_ble_eq_true rfl)) rfl (by omega) (by decide) ?_
        rw [b3]
        refine wp_aload_0 d47_67 ?_
        refine wp_getP d47_68 (Nat.le_of_ble_eq_true rfl) kW.1 rfl ?_
        refine wp_iload_3 d47_71 ?_
        refine wp_iload_6 d47_72 ?_
        refine wp_iaddN d47_74 ?_
        refine wp_aldP d47_75 (kW.2 _ (Nat.le_of_ble_eq_true rfl)) rfl (by omega) (by decide) ?_
        refine wp_isubN d47_76 (by omega) ?_
        refine wp_istore_7 d47_77 (Nat.le_of_ble_eq_true rfl) rfl ?_
        refine wp_iload_7 d47_79 ?_
        refine wp_if_ge d47_81 (by decide) (fun _ => ?_) (fun h => absurd (nI_pos' (by omega)) h)
        refine wp_aload_0 d47_86 ?_
        refine wp_getP d47_87 (Nat.le_of_ble_eq_true rfl) kW.1 rfl ?_
        refine wp_iload_4 d47_90 ?_
        refine wp_iconst d47_92 ic_5 ?_
        refine wp_iaddN d47_93 ?_
        refine wp_iload_6 d47_94 ?_
        refine wp_iaddN d47_96 ?_
        refine wp_iload_7 d47_97 ?_
        rw [show s * 5 + 5 + k = (s + 1) * 5 + k by omega]
        refine wp_astN d47_99 (kW.2 _ (Nat.le_of_ble_eq_true rfl)) rfl (by omega) (by decide) ?_
        refine wp_iload_5 d47_100 ?_
        refine wp_iload_7 d47_102 ?_
        refine wp_min d47_104 (Nat.le_of_ble_eq_true rfl) (Nat.le_of_ble_eq_true rfl) ?_
        rw [show (if nI (le k - py ((s * 5 + f) * 5 + k)) < nI (mnN (trS ki F (de s) le w) 99 k) then nI (le k - py ((s * 5 + f) * 5 + k)) else nI (mnN (trS ki F (de s) le w) 99 k)) = nI (mnN (trS ki F (de s) le w) 99 (k + 1)) by
          show _ = nI (if trS ki F (de s) le w k < mnN (trS ki F (de s) le w) 99 k then trS ki F (de s) le w k else mnN (trS ki F (de s) le w) 99 k)
          rw [etr k (by omega)]
          by_cases h : le k - py ((s * 5 + f) * 5 + k) < mnN (trS ki F (de s) le w) 99 k
          · rw [if_pos ((nI_ltI (by omega) (by omega)).mpr h), if_pos h]
          · rw [if_neg (fun z => h ((nI_ltI (by omega) (by omega)).mp z)), if_neg h]]
        refine wp_istore_5 d47_107 (Nat.le_of_ble_eq_true rfl) rfl ?_
        refine wp_iinc_6 d47_109 (Nat.le_of_ble_eq_true rfl) rfl (inc1 _) ?_
        refine wp_goto d47_112 (by decide) ?_
        exact K
      · refine ⟨g, hg1, fun z => absurd (z.symm.trans (hcan' k (by omega) hc)) (by decide), ?_⟩
        rw [show r_lb w ki F le (de s) = none by rw [r_lb, hcan' k (by omega) hc]; rfl]
        refine wp_iload_6 d47_48 ?_
        refine wp_aload_0 d47_50 ?_
        refine wp_getP d47_51 (Nat.le_of_ble_eq_true rfl) kW.1 rfl ?_
        refine wp_icmp_geN d47_54 (by decide) (by omega) (by omega) (fun hq => absurd hq (by omega)) (fun h54 => ?_)
        refine wp_aload_0 d47_57 ?_
        refine wp_getP d47_58 (Nat.le_of_ble_eq_true rfl) kW.1 rfl ?_
        refine wp_iload_4 d47_61 ?_
        refine wp_iload_6 d47_63 ?_
        refine wp_iaddN d47_65 ?_
        refine wp_aldP d47_66 (kW.2 _ (Nat.le_of_ble_eq_true rfl)) rfl (by omega) (by decide) ?_
        rw [b3]
        refine wp_aload_0 d47_67 ?_
        refine wp_getP d47_68 (Nat.le_of_ble_eq_true rfl) kW.1 rfl ?_
        refine wp_iload_3 d47_71 ?_
        refine wp_iload_6 d47_72 ?_
        refine wp_iaddN d47_74 ?_
        refine wp_aldP d47_75 (kW.2 _ (Nat.le_of_ble_eq_true rfl)) rfl (by omega) (by decide) ?_
        refine wp_isub d47_76 ?_
        refine wp_istore_7 d47_77 (Nat.le_of_ble_eq_true rfl) rfl ?_
        refine wp_iload_7 d47_79 ?_
        refine wp_if_ge d47_81 (by decide) (fun h => absurd ((sub_ge (by omega) (by omega)).mp h) hc) (fun _ => ?_)
        refine wp_iconst d47_84 ic_m1 ?_
        exact wp_iret d47_85 rfl rfl rfl
  obtain ⟨la', q1, q2, K⟩ := loop w 0 la .null (by omega) (fun v hv => by omega) (fun j hj => rfl) (fun v hv => by omega)
  refine ⟨la', q1, q2, ?_⟩
  refine ev_of (L := [(.ref y), (.int (nI s)), (.int (nI f)), .null, .null, .null, .null, .null]) (by decide) rfl (Nat.le_of_ble_eq_true rfl) ?_
  refine wp_iload_1 d47_0 ?_
  refine wp_aload_0 d47_1 ?_
  refine wp_getP d47_2 (Nat.le_of_ble_eq_true rfl) kW.1 rfl ?_
  refine wp_icmp_ltN d47_5 (by decide) (by omega) (by omega) (fun hq => absurd hq (by omega)) (fun h5 => ?_)
  refine wp_iload_1 d47_8 ?_
  refine wp_aload_0 d47_9 ?_
  refine wp_getP d47_10 (Nat.le_of_ble_eq_true rfl) kW.1 rfl ?_
  refine wp_icmp_geN d47_13 (by decide) (by omega) (by omega) (fun hq => absurd hq (by omega)) (fun h13 => ?_)
  refine wp_iload_2 d47_16 ?_
  refine wp_if_ltN d47_17 (by decide) (by omega) ?_
  refine wp_iload_2 d47_20 ?_
  refine wp_aload_0 d47_21 ?_
  refine wp_getP d47_22 (Nat.le_of_ble_eq_true rfl) kW.1 rfl ?_
  refine wp_icmp_ltN d47_25 (by decide) (by omega) (by omega) (fun h25 => ?_) (fun hq => absurd hq (by omega))
  refine wp_iload_1 d47_30 ?_
  refine wp_iload_2 d47_31 ?_
  refine wp_S2r d47_32 rfl ((w_row)) (Nat.le_of_ble_eq_true rfl) (Nat.le_of_ble_eq_true rfl) ?_
  refine wp_istore_3 d47_35 (Nat.le_of_ble_eq_true rfl) rfl ?_
  refine wp_iload_1 d47_36 ?_
  refine wp_iconst d47_37 ic_5 ?_
  refine wp_imulN d47_38 ?_
  refine wp_istore_4 d47_39 (Nat.le_of_ble_eq_true rfl) rfl ?_
  refine wp_bipush d47_41 bi_99 ?_
  refine wp_istore_5 d47_43 (Nat.le_of_ble_eq_true rfl) rfl ?_
  refine wp_iconst d47_45 ic_0 ?_
  refine wp_istore_6 d47_46 (Nat.le_of_ble_eq_true rfl) rfl ?_
  exact K
theorem w_changesFrom (kW : KW σ y) {w a b : Nat} {pc fi : Nat → Nat} (hw5 : w ≤ 5) (hf : PF w fi) (ha : a < w) (hb : b < w) (hpc : ∀ v, v < w → pc v = pl w fi v) : Ev 0 0 0 48 [.ref y, .int (nI a), .int (nI b)] (put σ y (y + 10) (wyF y (nI w) (wfr) (wst)) (wyA (apy) (ala) (arr 5 pc))) (some (.int (nI ((pl w fi b + w - pl w fi a) % w)))) (put σ y (y + 10) (wyF y (nI w) (wfr) (wst)) (wyA (apy) (ala) (arr 5 pc))) := by
  have h1 := (PF_pl hf ha).1
  have h2 := (PF_pl hf hb).1
  refine ev_of (L := [(.ref y), (.int (nI a)), (.int (nI b)), .null]) (by decide) rfl (Nat.le_of_ble_eq_true rfl) ?_
  refine wp_aload_0 d48_0 ?_
  refine wp_getP d48_1 (Nat.le_of_ble_eq_true rfl) kW.1 rfl ?_
  refine wp_iload_2 d48_4 ?_
  refine wp_aldP d48_5 (kW.2 _ (Nat.le_of_ble_eq_true rfl)) rfl (by omega) (by decide) ?_
  refine wp_aload_0 d48_6 ?_
  refine wp_getP d48_7 (Nat.le_of_ble_eq_true rfl) kW.1 rfl ?_
  refine wp_iload_1 d48_10 ?_
  refine wp_aldP d48_11 (kW.2 _ (Nat.le_of_ble_eq_true rfl)) rfl (by omega) (by decide) ?_
  rw [hpc a ha, hpc b hb]
  refine wp_isub d48_12 ?_
  refine wp_istore_3 d48_13 (Nat.le_of_ble_eq_true rfl) rfl ?_
  refine wp_iload_3 d48_14 ?_
  refine wp_if_ge d48_15 (by decide) (fun h15 => ?_) (fun h15 => ?_)
  · have h := (sub_ge (by omega) (by omega)).mp h15
    rw [show (pl w fi b + w - pl w fi a) % w = pl w fi b - pl w fi a by rw [show pl w fi b + w - pl w fi a = (pl w fi b - pl w fi a) + w by omega, Nat.add_mod_right, Nat.mod_eq_of_lt (by omega)]]
    rw [pk_sub h]
    refine wp_iload_3 d48_27 ?_
    exact wp_iret d48_28 rfl rfl rfl
  · have h := mt (sub_ge (a := pl w fi b) (b := pl w fi a) (by omega) (by omega)).mpr h15
    rw [show (pl w fi b + w - pl w fi a) % w = pl w fi b + w - pl w fi a from Nat.mod_eq_of_lt (by omega)]
    refine wp_iload_3 d48_18 ?_
    refine wp_aload_0 d48_19 ?_
    refine wp_getP d48_20 (Nat.le_of_ble_eq_true rfl) kW.1 rfl ?_
    refine wp_iadd d48_23 ?_
    refine wp_goto d48_24 (by decide) ?_
    rw [sub_add (by omega)]
    exact wp_iret d48_28 rfl rfl rfl

end S23_wy2b
