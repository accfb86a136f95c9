section S21_tr2b
variable {σ : Sto} {t : Nat} {st me tr wa mi : Int32} {ade afo aki asr ale ato afi adu : List Int32}

theorem t_deepenP (kT : KT σ t) {trN stN dp : Nat} {de : Nat → Nat} (h1 : trN ≤ stN) (h6 : stN ≤ 6) (hd : ∀ k, k < stN → de k < 100) (hdp : dp < 100) : Ev 1 0 0 38 [.ref t, .int (nI dp)] (put σ t (t + 1) (trF t (nI stN) me (nI trN) wa mi) (trA (arr 6 de) afo aki asr ale ato afi adu)) none (put σ t (t + 1) (trF t (nI stN) me (nI trN) wa mi) (trA (arr 6 (snN trN stN dp de)) afo aki asr ale ato afi adu)) := by
  have loop : ∀ (n k : Nat) (f : Nat → Nat), k + n = stN → trN ≤ k → (∀ j, f j = if trN ≤ j ∧ j < k then (if 9 < de j + dp then 9 else de j + dp) else de j) → WP 1 0 0 38 5 [.ref t, .int (nI dp), .int (nI k)] [] (put σ t (t + 1) (trF t (nI stN) me (nI trN) wa mi) (trA (arr 6 f) afo aki asr ale ato afi adu)) none (put σ t (t + 1) (trF t (nI stN) me (nI trN) wa mi) (trA (arr 6 (snN trN stN dp de)) afo aki asr ale ato afi adu)) := by
    intro n
    induction n with
    | zero =>
      intro k f hk' ht hf
      have e : k = stN := by omega
      subst e
      rw [show snN trN k dp de = f by funext j; rw [hf]; rfl]
      refine wp_iload_2 d38_5 ?_
      refine wp_aload_0 d38_6 ?_
      refine wp_getP d38_7 (Nat.le_of_ble_eq_true rfl) kT.1 rfl ?_
      refine wp_icmp_geN d38_10 (by decide) (by omega) (by omega) (fun h10 => ?_) (fun hq => absurd hq (by omega))
      exact wp_vret d38_42 rfl rfl rfl
    | succ n ih =>
      intro k f hk' ht hf
      have b1 := hd k (by omega)
      have b2 : f k = de k := by rw [hf]; simp
      refine wp_iload_2 d38_5 ?_
      refine wp_aload_0 d38_6 ?_
      refine wp_getP d38_7 (Nat.le_of_ble_eq_true rfl) kT.1 rfl ?_
      refine wp_icmp_geN d38_10 (by decide) (by omega) (by omega) (fun hq => absurd hq (by omega)) (fun h10 => ?_)
      refine wp_aload_0 d38_13 ?_
      refine wp_getP d38_14 (Nat.le_of_ble_eq_true rfl) kT.1 rfl ?_
      refine wp_iload_2 d38_17 ?_
      refine wp_iconst d38_18 ic_0 ?_
      refine wp_bipush d38_19 bi_9 ?_
      refine wp_aload_0 d38_21 ?_
      refine wp_getP d38_22 (Nat.le_of_ble_eq_true rfl) kT.1 rfl ?_
      refine wp_iload_2 d38_25 ?_
      refine wp_aldP d38_26 (kT.2 _ (Nat.le_of_ble_eq_true rfl)) rfl (by omega) (by decide) ?_
      rw [b2]
      refine wp_iload_1 d38_27 ?_
      refine wp_iaddN d38_28 ?_
      refine wp_min d38_29 (Nat.le_of_ble_eq_true rfl) (Nat.le_of_ble_eq_true rfl) ?_
      rw [show (if nI (de k + dp) < nI 9 then nI (de k + dp) else nI 9) = nI (if 9 < de k + dp then 9 else de k + dp) by
        by_cases h : de k + dp < 9
        · rw [if_pos ((nI_ltI (by omega) (by omega)).mpr h), if_neg (by omega)]
        · rw [if_neg (fun z => h ((nI_ltI (by omega) (by omega)).mp z))]
          by_cases h2 : 9 < de k + dp
          · rw [if_pos h2]
          · rw [if_neg h2, show de k + dp = 9 by omega]]
      generalize hx : (if 9 < de k + dp then 9 else de k + dp) = x
      have hxl : x ≤ 9 := by rw [← hx]; split <;> omega
      refine wp_max d38_32 (Nat.le_of_ble_eq_true rfl) (Nat.le_of_ble_eq_true rfl) ?_
      rw [show (if nI 0 < nI x then nI x else nI 0) = nI x by
        by_cases h : 0 < x
        · rw [if_pos ((nI_ltI (by omega) (by omega)).mpr h)]
        · rw [if_neg (fun z => h ((nI_ltI (by omega) (by omega)).mp z)), show x = 0 by omega]]
      refine wp_astN d38_35 (kT.2 _ (Nat.le_of_ble_eq_true rfl)) rfl (by omega) (by decide) ?_
      refine wp_iinc_2 d38_36 (Nat.le_of_ble_eq_true rfl) rfl (inc1 _) ?_
      refine wp_goto d38_39 (by decide) ?_
      refine ih (k + 1) _ (by omega) (by omega) (fun j => ?_)
      unfold up
      rw [hf j]
      grind
  refine ev_of (L := [(.ref t), (.int (nI dp)), .null]) (by decide) rfl (Nat.le_of_ble_eq_true rfl) ?_
  refine wp_aload_0 d38_0 ?_
  refine wp_getP d38_1 (Nat.le_of_ble_eq_true rfl) kT.1 rfl ?_
  refine wp_istore_2 d38_4 (Nat.le_of_ble_eq_true rfl) rfl ?_
  exact loop (stN - trN) trN de (by omega) (by omega) (fun j => by grind)
theorem t_deepenM (kT : KT σ t) {trN stN meN : Nat} {de : Nat → Nat} (h1 : trN ≤ stN) (h6 : stN ≤ 6) (hd : ∀ k, k < stN → de k < 10) (hme : meN < 100) : Ev 1 0 0 38 [.ref t, .int (-(nI meN))] (put σ t (t + 1) (trF t (nI stN) me (nI trN) wa mi) (trA (arr 6 de) afo aki asr ale ato afi adu)) none (put σ t (t + 1) (trF t (nI stN) me (nI trN) wa mi) (trA (arr 6 (suN trN stN meN de)) afo aki asr ale ato afi adu)) := by
  have loop : ∀ (n k : Nat) (f : Nat → Nat), k + n = stN → trN ≤ k → (∀ j, f j = if trN ≤ j ∧ j < k then (if de j < meN then 0 else de j - meN) else de j) → WP 1 0 0 38 5 [.ref t, .int (-(nI meN)), .int (nI k)] [] (put σ t (t + 1) (trF t (nI stN) me (nI trN) wa mi) (trA (arr 6 f) afo aki asr ale ato afi adu)) none (put σ t (t + 1) (trF t (nI stN) me (nI trN) wa mi) (trA (arr 6 (suN trN stN meN de)) afo aki asr ale ato afi adu)) := by
    intro n
    induction n with
    | zero =>
      intro k f hk' ht hf
      have e : k = stN := by omega
      subst e
      rw [show suN trN k meN de = f by funext j; rw [hf]; rfl]
      refine wp_iload_2 d38_5 ?_
      refine wp_aload_0 d38_6 ?_
      refine wp_getP d38_7 (Nat.le_of_ble_eq_true rfl) kT.1 rfl ?_
      refine wp_icmp_geN d38_10 (by decide) (by omega) (by omega) (fun h10 => ?_) (fun hq => absurd hq (by omega))
      exact wp_vret d38_42 rfl rfl rfl
    | succ n ih =>
      intro k f hk' ht hf
      have b1 := hd k (by omega)
      have b2 : f k = de k := by rw [hf]; simp
      have b3 := neg_lt (a := de k) (b := meN) (by omega) (by omega)
      refine wp_iload_2 d38_5 ?_
      refine wp_aload_0 d38_6 ?_
      refine wp_getP d38_7 (Nat.le_of_ble_eq_true rfl) kT.1 rfl ?_
      refine wp_icmp_geN d38_10 (by decide) (by omega) (by omega) (fun hq => absurd hq (by omega)) (fun h10 => ?_)
      refine wp_aload_0 d38_13 ?_
      refine wp_getP d38_14 (Nat.le_of_ble_eq_true rfl) kT.1 rfl ?_
      refine wp_iload_2 d38_17 ?_
      refine wp_iconst d38_18 ic_0 ?_
      refine wp_bipush d38_19 bi_9 ?_
      refine wp_aload_0 d38_21 ?_
      refine wp_getP d38_22 (Nat.le_of_ble_eq_true rfl) kT.1 rfl ?_
      refine wp_iload_2 d38_25 ?_
      refine wp_aldP d38_26 (kT.2 _ (Nat.le_of_ble_eq_true rfl)) rfl (by omega) (by decide) ?_
      rw [b2]
      refine wp_iload_1 d38_27 ?_
      refine wp_iadd d38_28 ?_
      refine wp_min d38_29 (Nat.le_of_ble_eq_true rfl) (Nat.le_of_ble_eq_true rfl) ?_
      rw [show (if nI (de k) + -(nI meN) < nI 9 then nI (de k) + -(nI meN) else nI 9) = nI (de k) + -(nI meN) by
        by_cases h : nI (de k) + -(nI meN) < nI 9
        · rw [if_pos h]
        · rw [if_neg h]
          have h9 := mt (lt_nI (a := 9) (by decide)).mpr h
          apply Int32.toInt_inj.mp
          rw [b3, nI_toInt (by decide)]
          rw [b3] at h9
          omega]
      refine wp_max d38_32 (Nat.le_of_ble_eq_true rfl) (Nat.le_of_ble_eq_true rfl) ?_
      rw [show (if nI 0 < nI (de k) + -(nI meN) then nI (de k) + -(nI meN) else nI 0) = nI (if de k < meN then 0 else de k - meN) by
        by_cases h : nI 0 < nI (de k) + -(nI meN)
        · have h9 := (gt_nI (a := 0) (by decide)).mp h
          rw [b3] at h9
          rw [if_pos h, if_neg (by omega), ← Int32.sub_eq_add_neg, pk_sub (by omega)]
        · have h9 := mt (gt_nI (x := nI (de k) + -(nI meN)) (a := 0) (by decide)).mpr h
          rw [b3] at h9
          rw [if_neg h]
          split
          · rfl
          · rw [show de k - meN = 0 by omega]]
      refine wp_astN d38_35 (kT.2 _ (Nat.le_of_ble_eq_true rfl)) rfl (by omega) (by decide) ?_
      refine wp_iinc_2 d38_36 (Nat.le_of_ble_eq_true rfl) rfl (inc1 _) ?_
      refine wp_goto d38_39 (by decide) ?_
      refine ih (k + 1) _ (by omega) (by omega) (fun j => ?_)
      unfold up
      rw [hf j]
      grind
  refine ev_of (L := [(.ref t), (.int (-(nI meN))), .null]) (by decide) rfl (Nat.le_of_ble_eq_true rfl) ?_
  refine wp_aload_0 d38_0 ?_
  refine wp_getP d38_1 (Nat.le_of_ble_eq_true rfl) kT.1 rfl ?_
  refine wp_istore_2 d38_4 (Nat.le_of_ble_eq_true rfl) rfl ?_
  exact loop (stN - trN) trN de (by omega) (by omega) (fun j => by grind)
theorem t_copyFrom (kT : KT σ t) {u : Nat} (kU : KT σ u) (hut : u ≠ t) (hap : u + 9 ≤ t ∨ t + 9 ≤ u) {st2 me2 tr2 wa2 mi2 : Int32} {de ki sr le fi de2 ki2 sr2 le2 fi2 : Nat → Nat} {fo to fo2 to2 : Nat → Option Nat} {adu2 : List Int32} (hu : Hs σ u (u + 1) (trF u st2 me2 tr2 wa2 mi2) (trA (arr 6 de2) (arO 6 fo2) (arr 5 ki2) (arr 5 sr2) (arr 5 le2) (arO 5 to2) (arr 5 fi2) adu2)) : Ev 0 0 0 25 [.ref t, .ref u] (put σ t (t + 1) (trF t st me tr wa mi) (trA (arr 6 de) (arO 6 fo) (arr 5 ki) (arr 5 sr) (arr 5 le) (arO 5 to) (arr 5 fi) adu)) none (put σ t (t + 1) (trF t (st2) (me2) (tr2) (wa2) (mi2)) (trA (arr 6 de2) (arO 6 fo2) (arr 5 ki2) (arr 5 sr2) (arr 5 le2) (arO 5 to2) (arr 5 fi2) adu)) := by
  have gF : ∀ {fs : List Value} {as : List (List Int32)}, (put σ t (t + 1) fs as).2.1 u = trF u st2 me2 tr2 wa2 mi2 := fun {_ _} => (put_F_ne hut).trans hu.1
  have gA : ∀ {fs : List Value} {as : List (List Int32)} (k : Nat) (l : List Int32), as.length = 8 → (trA (arr 6 de2) (arO 6 fo2) (arr 5 ki2) (arr 5 sr2) (arr 5 le2) (arO 5 to2) (arr 5 fi2) adu2)[k]? = some l → (put σ t (t + 1) fs as).2.2 (u + 1 + k) = l := by
    intro fs as k l hl hk
    have : k < 8 := (List.getElem?_eq_some_iff.mp hk).1
    rw [put_A_ne (by omega)]
    exact hu.2 k l hk
  have l2 : ∀ (n k : Nat) (g1 g2 g3 g5 : Nat → Nat) (g4 : Nat → Option Nat), k + n = 5 → (∀ j, j < k → g1 j = ki2 j ∧ g2 j = sr2 j ∧ g3 j = le2 j ∧ g4 j = to2 j ∧ g5 j = fi2 j) → WP 0 0 0 25 80 [.ref t, .ref u, .int (nI k)] [] (put σ t (t + 1) (trF t (st2) (me2) (tr2) (wa2) (mi2)) (trA (arr 6 de2) (arO 6 fo2) (arr 5 g1) (arr 5 g2) (arr 5 g3) (arO 5 g4) (arr 5 g5) adu)) none (put σ t (t + 1) (trF t (st2) (me2) (tr2) (wa2) (mi2)) (trA (arr 6 de2) (arO 6 fo2) (arr 5 ki2) (arr 5 sr2) (arr 5 le2) (arO 5 to2) (arr 5 fi2) adu)) := by
    intro n
    induction n with
    | zero =>
      intro k g1 g2 g3 g5 g4 hk' hg
      rw [arr_ext (f := g1) (g := ki2) (fun j hj => (hg j (by omega)).1), arr_ext (f := g2) (g := sr2) (fun j hj => (hg j (by omega)).2.1), arr_ext (f := g3) (g := le2) (fun j hj => (hg j (by omega)).2.2.1), arO_ext (f := g4) (g := to2) (fun j hj => (hg j (by omega)).2.2.2.1), arr_ext (f := g5) (g := fi2) (fun j hj => (hg j (by omega)).2.2.2.2)]
      refine wp_iload_2 d25_80 ?_
      refine wp_iconst d25_81 ic_5 ?_
      refine wp_icmp_geN d25_82 (by decide) (by omega) (by omega) (fun h82 => ?_) (fun hq => absurd hq (by omega))
      exact wp_vret d25_151 rfl rfl rfl
    | succ n ih =>
      intro k g1 g2 g3 g5 g4 hk' hg
      refine wp_iload_2 d25_80 ?_
      refine wp_iconst d25_81 ic_5 ?_
      refine wp_icmp_geN d25_82 (by decide) (by omega) (by omega) (fun hq => absurd hq (by omega)) (fun h82 => ?_)
      refine wp_aload_0 d25_85 ?_
      refine wp_getP d25_86 (Nat.le_of_ble_eq_true rfl) kT.1 rfl ?_
      refine wp_iload_2 d25_89 ?_
      refine wp_aload_1 d25_90 ?_
      refine wp_get d25_91 (by decide) kU.1 gF rfl ?_
      refine wp_iload_2 d25_94 ?_
      refine wp_aldG d25_95 (kU.2 2 (by decide)) (gA 2 _ rfl rfl) (by omega) (by decide) ?_
      refine wp_astN d25_96 (kT.2 _ (Nat.le_of_ble_eq_true rfl)) rfl (by omega) (by decide) ?_
      refine wp_aload_0 d25_97 ?_
      refine wp_getP d25_98 (Nat.le_of_ble_eq_true rfl) kT.1 rfl ?_
      refine wp_iload_2 d25_101 ?_
      refine wp_aload_1 d25_102 ?_
      refine wp_get d25_103 (by decide) kU.1 gF rfl ?_
      refine wp_iload_2 d25_106 ?_
      refine wp_aldG d25_107 (kU.2 3 (by decide)) (gA 3 _ rfl rfl) (by omega) (by decide) ?_
      refine wp_astN d25_108 (kT.2 _ (Nat.le_of_ble_eq_true rfl)) rfl (by omega) (by decide) ?_
      refine wp_aload_0 d25_109 ?_
      refine wp_getP d25_110 (Nat.le_of_ble_eq_true rfl) kT.1 rfl ?_
      refine wp_iload_2 d25_113 ?_
      refine wp_aload_1 d25_114 ?_
      refine wp_get d25_115 (by decide) kU.1 gF rfl ?_
      refine wp_iload_2 d25_118 ?_
      refine wp_aldG d25_119 (kU.2 4 (by decide)) (gA 4 _ rfl rfl) (by omega) (by decide) ?_
      refine wp_astN d25_120 (kT.2 _ (Nat.le_of_ble_eq_true rfl)) rfl (by omega) (by decide) ?_
      refine wp_aload_0 d25_121 ?_
      refine wp_getP d25_122 (Nat.le_of_ble_eq_true rfl) kT.1 rfl ?_
      refine wp_iload_2 d25_125 ?_
      refine wp_aload_1 d25_126 ?_
      refine wp_get d25_127 (by decide) kU.1 gF rfl ?_
      refine wp_iload_2 d25_130 ?_
      refine wp_aldG d25_131 (kU.2 5 (by decide)) (gA 5 _ rfl rfl) (by omega) (by decide) ?_
      refine wp_astO d25_132 (kT.2 _ (Nat.le_of_ble_eq_true rfl)) rfl (by omega) (by decide) ?_
      refine wp_aload_0 d25_133 ?_
      refine wp_getP d25_134 (Nat.le_of_ble_eq_true rfl) kT.1 rfl ?_
      refine wp_iload_2 d25_137 ?_
      refine wp_aload_1 d25_138 ?_
      refine wp_get d25_139 (by decide) kU.1 gF rfl ?_
      refine wp_iload_2 d25_142 ?_
      refine wp_aldG d25_143 (kU.2 6 (by decide)) (gA 6 _ rfl rfl) (by omega) (by decide) ?_
      refine wp_astN d25_144 (kT.2 _ (Nat.le_of_ble_eq_true rfl)) rfl (by omega) (by decide) ?_
      refine wp_iinc_2 d25_145 (Nat.le_of_ble_eq_true rfl) rfl (inc1 _) ?_
      refine wp_goto d25_148 (by decide) ?_
      refine ih (k + 1) _ _ _ _ _ (by omega) (fun j hj => ?_)
      unfold up
      by_cases e : j = k
      · subst e
        simp
      · simp only [e, if_false]
        exact hg j (by omega)
  have l1 : ∀ (n k : Nat) (g1 : Nat → Nat) (g2 : Nat → Option Nat), k + n = 6 → (∀ j, j < k → g1 j = de2 j ∧ g2 j = fo2 j) → WP 0 0 0 25 42 [.ref t, .ref u, .int (nI k)] [] (put σ t (t + 1) (trF t (st2) (me2) (tr2) (wa2) (mi2)) (trA (arr 6 g1) (arO 6 g2) (arr 5 ki) (arr 5 sr) (arr 5 le) (arO 5 to) (arr 5 fi) adu)) none (put σ t (t + 1) (trF t (st2) (me2) (tr2) (wa2) (mi2)) (trA (arr 6 de2) (arO 6 fo2) (arr 5 ki2) (arr 5 sr2) (arr 5 le2) (arO 5 to2) (arr 5 fi2) adu)) := by
    intro n
    induction n with
    | zero =>
      intro k g1 g2 hk' hg
      rw [arr_ext (f := g1) (g := de2) (fun j hj => (hg j (by omega)).1), arO_ext (f := g2) (g := fo2) (fun j hj => (hg j (by omega)).2)]
      refine wp_iload_2 d25_42 ?_
      refine wp_bipush d25_43 bi_6 ?_
      refine wp_icmp_geN d25_45 (by decide) (by omega) (by omega) (fun h45 => ?_) (fun hq => absurd hq (by omega))
      refine wp_iconst d25_78 ic_0 ?_
      refine wp_istore_2 d25_79 (Nat.le_of_ble_eq_true rfl) rfl ?_
      exact l2 5 0 _ _ _ _ _ rfl (fun j hj => by omega)
    | succ n ih =>
      intro k g1 g2 hk' hg
      refine wp_iload_2 d25_42 ?_
      refine wp_bipush d25_43 bi_6 ?_
      refine wp_icmp_geN d25_45 (by decide) (by omega) (by omega) (fun hq => absurd hq (by omega)) (fun h45 => ?_)
      refine wp_aload_0 d25_48 ?_
      refine wp_getP d25_49 (Nat.le_of_ble_eq_true rfl) kT.1 rfl ?_
      refine wp_iload_2 d25_52 ?_
      refine wp_aload_1 d25_53 ?_
      refine wp_get d25_54 (by decide) kU.1 gF rfl ?_
      refine wp_iload_2 d25_57 ?_
      refine wp_aldG d25_58 (kU.2 0 (by decide)) (gA 0 _ rfl rfl) (by omega) (by decide) ?_
      refine wp_astN d25_59 (kT.2 _ (Nat.le_of_ble_eq_true rfl)) rfl (by omega) (by decide) ?_
      refine wp_aload_0 d25_60 ?_
      refine wp_getP d25_61 (Nat.le_of_ble_eq_true rfl) kT.1 rfl ?_
      refine wp_iload_2 d25_64 ?_
      refine wp_aload_1 d25_65 ?_
      refine wp_get d25_66 (by decide) kU.1 gF rfl ?_
      refine wp_iload_2 d25_69 ?_
      refine wp_aldG d25_70 (kU.2 1 (by decide)) (gA 1 _ rfl rfl) (by omega) (by decide) ?_
      refine wp_astO d25_71 (kT.2 _ (Nat.le_of_ble_eq_true rfl)) rfl (by omega) (by decide) ?_
      refine wp_iinc_2 d25_72 (Nat.le_of_ble_eq_true rfl) rfl (inc1 _) ?_
      refine wp_goto d25_75 (by decide) ?_
      refine ih (k + 1) _ _ (by omega) (fun j hj => ?_)
      unfold up
      by_cases e : j = k
      · subst e
        simp
      · simp only [e, if_false]
        exact hg j (by omega)
  refine ev_of (L := [(.ref t), (.ref u), .null]) (by decide) rfl (Nat.le_of_ble_eq_true rfl) ?_
  refine wp_aload_0 d25_0 ?_
  refine wp_aload_1 d25_1 ?_
  refine wp_get d25_2 (by decide) kU.1 gF rfl ?_
  refine wp_putIP d25_5 kT.1 ?_
  refine wp_aload_0 d25_8 ?_
  refine wp_aload_1 d25_9 ?_
  refine wp_get d25_10 (by decide) kU.1 gF rfl ?_
  refine wp_putIP d25_13 kT.1 ?_
  refine wp_aload_0 d25_16 ?_
  refine wp_aload_1 d25_17 ?_
  refine wp_get d25_18 (by decide) kU.1 gF rfl ?_
  refine wp_putIP d25_21 kT.1 ?_
  refine wp_aload_0 d25_24 ?_
  refine wp_aload_1 d25_25 ?_
  refine wp_get d25_26 (by decide) kU.1 gF rfl ?_
  refine wp_putIP d25_29 kT.1 ?_
  refine wp_aload_0 d25_32 ?_
  refine wp_aload_1 d25_33 ?_
  refine wp_get d25_34 (by decide) kU.1 gF rfl ?_
  refine wp_putIP d25_37 kT.1 ?_
  refine wp_iconst d25_40 ic_0 ?_
  refine wp_istore_2 d25_41 (Nat.le_of_ble_eq_true rfl) rfl ?_
  exact l1 6 0 de fo rfl (fun j hj => by omega)

end S21_tr2b
