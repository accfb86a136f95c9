section S25_be2c
variable {σ : Sto} {b u w trN stN : Nat} {td fr : Nat → Option Nat} {ls cs wwa wfr wst st me tr wa mi : Int32} {adu : List Int32} {d0 k0 s0 l0 f0 py0 la0 pc0 : Nat → Nat} {o0 t0 : Nat → Option Nat}

theorem b_search (kB : KB σ b) (kW : KW σ (b + 1)) (kA : KT σ (b + 1 + 1)) (kU : KT σ u) {me2 mi2 : Int32} {adu2 : List Int32} {ki sr le fi de : Nat → Nat} {fo to : Nat → Option Nat} (hap : u + 9 ≤ b ∨ b + 17 ≤ u) (hts : trN ≤ stN) (h6 : stN ≤ 6) (hw : 1 ≤ w) (hw5 : w ≤ 5) (hf : PF w fi) (hk : ∀ v, v < w → ki v < 5) (hl : ∀ v, v < w → le v ≤ 99) (hd : ∀ k, k < stN → de k < 100) (hu : Hs σ u (u + 1) (trF u (nI stN) me2 (nI trN) (nI w) mi2) (trA (arr 6 de) (arO 6 fo) (arr 5 ki) (arr 5 sr) (arr 5 le) (arO 5 to) (arr 5 fi) adu2)) : ∃ (F' py' la' pc' : Nat → Nat) (mi' : Int32) (td' : Nat → Option Nat), Ev 15 0 0 1 [.ref b, .ref u] (put (put (put σ (b + 1 + 1) (b + 1 + 1 + 1) (trF (b + 1 + 1) st me tr wa mi) (trA (arr 6 d0) (arO 6 o0) (arr 5 k0) (arr 5 s0) (arr 5 l0) (arO 5 t0) (arr 5 f0) adu)) (b + 1) (b + 1 + 10) (wyF (b + 1) wwa wfr wst) (wyA (arr 150 py0) (arr 35 la0) (arr 5 pc0))) b (b + 14) (bsF b ls cs) (bsA (arO 6 td) (arO 6 fr))) none (put (put (put σ (b + 1 + 1) (b + 1 + 1 + 1) (trF (b + 1 + 1) (nI stN) me2 (nI trN) (nI w) mi') (trA (arr 6 de) (arO 6 fo) (arr 5 ki) (arr 5 sr) (arr 5 le) (arO 5 to) (arr 5 F') adu)) (b + 1) (b + 1 + 10) (wyF (b + 1) (nI w) (nI trN) (nI stN)) (wyA (arr 150 py') (arr 35 la') (arr 5 pc'))) b (b + 14) (bsF b (eo (o2 (bestF w ki fi de le trN stN (w ^ (stN - trN))))) (eo (o3 (bestF w ki fi de le trN stN (w ^ (stN - trN)))))) (bsA (arO 6 (td')) (arO 6 (frO w trN stN (bestF w ki fi de le trN stN (w ^ (stN - trN))))))) := by
  obtain ⟨F', py', la', pc', mi', q1, q2, q3, K1⟩ := b_layOut2 (B3 := bsF b ls cs) (B4 := bsA (arO 6 td) (arO 6 fr)) (wwa := wwa) (wfr := wfr) (wst := wst) (st := st) (me := me) (tr := tr) (wa := wa) (mi := mi) (adu := adu) (d0 := d0) (k0 := k0) (s0 := s0) (l0 := l0) (f0 := f0) (o0 := o0) (t0 := t0) (py0 := py0) (la0 := la0) (pc0 := pc0) kW kA kU rfl hap hts h6 hw hw5 hf hk hl hd hu
  have hgo := b_goOn (σ := put σ (b + 1 + 1) (b + 1 + 1 + 1) (trF (b + 1 + 1) (nI stN) me2 (nI trN) (nI w) mi') (trA (arr 6 de) (arO 6 fo) (arr 5 ki) (arr 5 sr) (arr 5 le) (arO 5 to) (arr 5 F') adu)) (b := b) (w := w) (trN := trN) (stN := stN) (py := py') (pc := pc') kB kW hts h6 hw hw5 hf hk hl hd q1 q3 (stN - trN) trN 0 (fi 0) 0 le la' (fun _ => none) (by omega) (Nat.le_refl _) (hf.1 0 (by omega)) (Nat.zero_le _) (by intro c hc; rw [pl_eq hf.2.1 (by omega)]) hl q2 (fun c hc k k1 k2 => by omega) (fun k hk' => rfl)
  obtain ⟨la2, td2, -, -, K2⟩ := hgo
  rw [Nat.zero_mul, Nat.zero_add] at K2
  refine ⟨F', py', la2, pc', mi', td2, ?_⟩
  have gF : ∀ {f1 f2 f3 : List Value} {a1 a2 a3 : List (List Int32)}, (put (put (put σ (b + 1 + 1) (b + 1 + 1 + 1) f1 a1) (b + 1) (b + 1 + 10) f2 a2) b (b + 14) f3 a3).2.1 u = trF u (nI stN) me2 (nI trN) (nI w) mi2 := fun {_ _ _ _ _ _} => (put_F_ne (by omega)).trans ((put_F_ne (by omega)).trans ((put_F_ne (by omega)).trans hu.1))
  have gA : ∀ {f1 f2 f3 : List Value} {a1 a2 a3 : List (List Int32)} (k : Nat) (l : List Int32), a1.length = 8 → a2.length = 3 → a3.length = 2 → (trA (arr 6 de) (arO 6 fo) (arr 5 ki) (arr 5 sr) (arr 5 le) (arO 5 to) (arr 5 fi) adu2)[k]? = some l → (put (put (put σ (b + 1 + 1) (b + 1 + 1 + 1) f1 a1) (b + 1) (b + 1 + 10) f2 a2) b (b + 14) f3 a3).2.2 (u + 1 + k) = l := by
    intro f1 f2 f3 a1 a2 a3 k l e1 e2 e3 hk'
    have : k < 8 := (List.getElem?_eq_some_iff.mp hk').1
    rw [put_A_ne (by omega), put_A_ne (by omega), put_A_ne (by omega)]
    exact hu.2 k l hk'
  have b0 := hf.1 0 (by omega)
  have loop : ∀ (n k : Nat) (g1 g2 : Nat → Option Nat), k + n = 6 → (∀ j, j < k → g1 j = none ∧ g2 j = none) → WP 15 0 0 1 20 [.ref b, .ref u, .int (nI k)] [] (put (put (put σ (b + 1 + 1) (b + 1 + 1 + 1) (trF (b + 1 + 1) (nI stN) me2 (nI trN) (nI w) mi') (trA (arr 6 de) (arO 6 fo) (arr 5 ki) (arr 5 sr) (arr 5 le) (arO 5 to) (arr 5 F') adu)) (b + 1) (b + 1 + 10) (wyF (b + 1) (nI w) (nI trN) (nI stN)) (wyA (arr 150 py') (arr 35 la') (arr 5 pc'))) b (b + 14) (bsF b (eo none) (eo none)) (bsA (arO 6 g1) (arO 6 g2))) none (put (put (put σ (b + 1 + 1) (b + 1 + 1 + 1) (trF (b + 1 + 1) (nI stN) me2 (nI trN) (nI w) mi') (trA (arr 6 de) (arO 6 fo) (arr 5 ki) (arr 5 sr) (arr 5 le) (arO 5 to) (arr 5 F') adu)) (b + 1) (b + 1 + 10) (wyF (b + 1) (nI w) (nI trN) (nI stN)) (wyA (arr 150 py') (arr 35 la2) (arr 5 pc'))) b (b + 14) (bsF b (eo (o2 (bestF w ki fi de le trN stN (w ^ (stN - trN))))) (eo (o3 (bestF w ki fi de le trN stN (w ^ (stN - trN)))))) (bsA (arO 6 (td2)) (arO 6 (frO w trN stN (bestF w ki fi de le trN stN (w ^ (stN - trN))))))) := by
    intro n
    induction n with
    | zero =>
      intro k g1 g2 hk' hg
      rw [arO_ext (f := g1) (g := fun _ => none) (fun j hj => (hg j (by omega)).1), arO_ext (f := g2) (g := fun _ => none) (fun j hj => (hg j (by omega)).2)]
      refine wp_iload_2 d1_20 ?_
      refine wp_bipush d1_21 bi_6 ?_
      refine wp_icmp_geN d1_23 (by decide) (by omega) (by omega) (fun h23 => ?_) (fun hq => absurd hq (by omega))
      refine wp_aload_0 d1_46 ?_
      refine wp_aload_1 d1_47 ?_
      refine wp_get d1_48 (by decide) kU.1 gF rfl ?_
      refine wp_aload_1 d1_51 ?_
      refine wp_get d1_52 (by decide) kU.1 gF rfl ?_
      refine wp_iconst d1_55 ic_0 ?_
      refine wp_aldG d1_56 (kU.2 6 (by decide)) (gA 6 _ rfl rfl rfl rfl) (by omega) (by decide) ?_
      refine wp_aload_1 d1_57 ?_
      refine wp_V0r d1_58 kU.1 (Ev_rd (fs := trF u (nI stN) me2 (nI trN) (nI w) mi2) (as := trA (arr 6 de) (arO 6 fo) (arr 5 ki) (arr 5 sr) (arr 5 le) (arO 5 to) (arr 5 fi) adu2) ⟨gF, fun k l hk' => gA k l rfl rfl rfl hk'⟩ (t_leastLeft (σ := put (put (put σ _ _ _ _) _ _ _ _) _ _ _ _) kU hw5 (fun v hv => by have := hl v hv; omega))) (Nat.le_of_ble_eq_true rfl) (Nat.le_of_ble_eq_true rfl) ?_
      refine wp_iconst d1_61 ic_0 ?_
      refine wp_V4v d1_62 kB.1 K2 (by omega) (Nat.le_of_ble_eq_true rfl) ?_
      exact wp_vret d1_65 rfl rfl rfl
    | succ n ih =>
      intro k g1 g2 hk' hg
      refine wp_iload_2 d1_20 ?_
      refine wp_bipush d1_21 bi_6 ?_
      refine wp_icmp_geN d1_23 (by decide) (by omega) (by omega) (fun hq => absurd hq (by omega)) (fun h23 => ?_)
      refine wp_aload_0 d1_26 ?_
      refine wp_getP d1_27 (Nat.le_of_ble_eq_true rfl) kB.1 rfl ?_
      refine wp_iload_2 d1_30 ?_
      refine wp_iconst d1_31 ic_m1 ?_
      refine wp_astO d1_32 (kB.2 _ (Nat.le_of_ble_eq_true rfl)) rfl (by omega) (by decide) ?_
      refine wp_aload_0 d1_33 ?_
      refine wp_getP d1_34 (Nat.le_of_ble_eq_true rfl) kB.1 rfl ?_
      refine wp_iload_2 d1_37 ?_
      refine wp_iconst d1_38 ic_m1 ?_
      refine wp_astO d1_39 (kB.2 _ (Nat.le_of_ble_eq_true rfl)) rfl (by omega) (by decide) ?_
      refine wp_iinc_2 d1_40 (Nat.le_of_ble_eq_true rfl) rfl (inc1 _) ?_
      refine wp_goto d1_43 (by decide) ?_
      refine ih (k + 1) _ _ (by omega) (fun j hj => ?_)
      unfold up
      by_cases e : j = k
      · rw [if_pos e, if_pos e]; exact ⟨rfl, rfl⟩
      · rw [if_neg e, if_neg e]; exact hg j (by omega)
  refine ev_of (L := [(.ref b), (.ref u), .null]) (by decide) rfl (Nat.le_of_ble_eq_true rfl) ?_
  refine wp_aload_0 d1_0 ?_
  refine wp_getP d1_1 (Nat.le_of_ble_eq_true rfl) kB.1 rfl ?_
  refine wp_aload_1 d1_4 ?_
  refine wp_V1v d1_5 kW.1 (K1) (Nat.le_of_ble_eq_true rfl) (Nat.le_of_ble_eq_true rfl) ?_
  refine wp_aload_0 d1_8 ?_
  refine wp_iconst d1_9 ic_m1 ?_
  refine wp_putIP d1_10 kB.1 ?_
  refine wp_aload_0 d1_13 ?_
  refine wp_iconst d1_14 ic_m1 ?_
  refine wp_putIP d1_15 kB.1 ?_
  refine wp_iconst d1_18 ic_0 ?_
  refine wp_istore_2 d1_19 (Nat.le_of_ble_eq_true rfl) rfl ?_
  exact loop 6 0 td fr rfl (fun j hj => by omega)

end S25_be2c
