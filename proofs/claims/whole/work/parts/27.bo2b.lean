section S27_bo2b
variable {σ : Sto} {b u w trN stN : Nat} {of0 td : Nat → Nat} {to0 : Nat → Option Nat} {ow fd ag wwa wfr wst st me tr wa mi : Int32} {adu : List Int32} {d0 k0 s0 l0 f0 py0 la0 pc0 : Nat → Nat} {o0 t0 : Nat → Option Nat}

theorem k_search (kK : KK σ b) (kW : KW σ (b + 1)) (kA : KT σ (b + 1 + 1)) (kU : KT σ u) {me2 mi2 : Int32} {adu2 : List Int32} {ki sr le fi de : Nat → Nat} {fo to : Nat → Option Nat} (q : Option Nat) (hq : ∀ k, q = some k → trN ≤ k ∧ k < stN) (hap : u + 9 ≤ b ∨ b + 17 ≤ u) (hts : trN ≤ stN) (h6 : stN ≤ 6) (hw : 1 ≤ w) (hw5 : w ≤ 5) (hf : PF w fi) (hk : ∀ v, v < w → ki v < 5) (hl : ∀ v, v < w → le v ≤ 99) (hd : ∀ k, k < stN → de k < 100) (hto : ∀ v, v < w → ∀ t, to v = some t → t ≤ 6) (hu : Hs σ u (u + 1) (trF u (nI stN) me2 (nI trN) (nI w) mi2) (trA (arr 6 de) (arO 6 fo) (arr 5 ki) (arr 5 sr) (arr 5 le) (arO 5 to) (arr 5 fi) adu2)) : ∃ (F' py' la' pc' td' of1 : Nat → Nat) (mi' ow' : Int32) (to1 : Nat → Option Nat), Ev 15 0 0 7 [.ref b, .ref u, .int (eo q)] (put (put (put σ (b + 1 + 1) (b + 1 + 1 + 1) (trF (b + 1 + 1) st me tr wa mi) (trA (arr 6 d0) (arO 6 o0) (arr 5 k0) (arr 5 s0) (arr 5 l0) (arO 5 t0) (arr 5 f0) adu)) (b + 1) (b + 1 + 10) (wyF (b + 1) wwa wfr wst) (wyA (arr 150 py0) (arr 35 la0) (arr 5 pc0))) b (b + 14) (bkF b ow fd ag) (bkA (arO 5 to0) (arr 5 of0) (arr 6 td))) none (put (put (put σ (b + 1 + 1) (b + 1 + 1 + 1) (trF (b + 1 + 1) (nI stN) me2 (nI trN) (nI w) mi') (trA (arr 6 de) (arO 6 fo) (arr 5 ki) (arr 5 sr) (arr 5 le) (arO 5 to) (arr 5 F') adu)) (b + 1) (b + 1 + 10) (wyF (b + 1) (nI w) (nI trN) (nI stN)) (wyA (arr 150 py') (arr 35 la') (arr 5 pc'))) b (b + 14) (bkF b ow' (nI (ftN w ki fi de le to trN stN (w ^ (stN - trN)))) (eo (agA w ki fi de le to trN stN q (w ^ (stN - trN))))) (bkA (arO 5 to1) (arr 5 of1) (arr 6 td'))) := by
  obtain ⟨F', py', la', pc', mi', q1, q2, q3, KL⟩ := b_layOut3 (B3 := bkF b ow fd ag) (B4 := bkA (arO 5 to0) (arr 5 of0) (arr 6 td)) (wwa := wwa) (wfr := wfr) (wst := wst) (st := st) (me := me) (tr := tr) (wa := wa) (mi := mi) (adu := adu) (d0 := d0) (k0 := k0) (s0 := s0) (l0 := l0) (f0 := f0) (o0 := o0) (t0 := t0) (py0 := py0) (la0 := la0) (pc0 := pc0) kW kA kU rfl hap hts h6 hw hw5 hf hk hl hd hu
  have hto' : ∀ v, v < w → to v = (fun v => if v < w then to v else to0 v) v := fun v hv => by simp only [hv, if_true]
  have hpw : w ^ (stN - trN) ≤ 5 ^ 6 := Nat.le_trans (Nat.pow_le_pow_left hw5 _) (Nat.pow_le_pow_right (by decide) (by omega))
  have h56 : (5 : Nat) ^ 6 = 15625 := rfl
  have hgo := k_goOn (σ := put σ (b + 1 + 1) (b + 1 + 1 + 1) (trF (b + 1 + 1) (nI stN) me2 (nI trN) (nI w) mi') (trA (arr 6 de) (arO 6 fo) (arr 5 ki) (arr 5 sr) (arr 5 le) (arO 5 to) (arr 5 F') adu)) (b := b) (w := w) (trN := trN) (stN := stN) (py := py') (pc := pc') (to := (fun v => if v < w then to v else to0 v)) kK kW hts h6 hw hw5 hf hk (fun v hv => by have := hl v hv; omega) hd (fun v hv t htv => hto v hv t (by rw [hto' v hv]; exact htv)) q1 q hq (stN - trN) trN 0 0 0 le la' td (fun v => if v < w then 0 else of0 v) (by omega) (Nat.le_refl _) (by omega) (fun c hc => rfl) (fun v hv => by have := hl v hv; omega) q2 (fun c hc => ⟨fun k k1 k2 => by omega, fun v hv => by simp only [hv, if_true, Nat.sub_self]; rfl⟩) (fun v hv t htv => by simp only [hv, if_true]; omega)
  obtain ⟨la2, td2, -, -, K2⟩ := hgo
  rw [Nat.zero_mul, Nat.zero_add, show agA w ki fi de le (fun v => if v < w then to v else to0 v) trN stN q 0 = none by cases q <;> rfl] at K2
  refine ⟨F', py', la2, pc', td2, (fun v => if v < w then 0 else of0 v), mi', nI (owN (fun v => if v < w then to v else to0 v) (fun v => if v < w then 0 else of0 v) w), (fun v => if v < w then to v else to0 v), ?_⟩
  rw [ftN_to hto', agA_to hto']
  have gF : ∀ {f1 f2 f3 : List Value} {a1 a2 a3 : List (List Int32)}, (put (put (put σ (b + 1 + 1) (b + 1 + 1 + 1) f1 a1) (b + 1) (b + 1 + 10) f2 a2) b (b + 14) f3 a3).2.1 u = trF u (nI stN) me2 (nI trN) (nI w) mi2 := fun {_ _ _ _ _ _} => (put_F_ne (by omega)).trans ((put_F_ne (by omega)).trans ((put_F_ne (by omega)).trans hu.1))
  have gA : ∀ {f1 f2 f3 : List Value} {a1 a2 a3 : List (List Int32)} (k : Nat) (l : List Int32), a1.length = 8 → a2.length = 3 → a3.length = 3 → (trA (arr 6 de) (arO 6 fo) (arr 5 ki) (arr 5 sr) (arr 5 le) (arO 5 to) (arr 5 fi) adu2)[k]? = some l → (put (put (put σ (b + 1 + 1) (b + 1 + 1 + 1) f1 a1) (b + 1) (b + 1 + 10) f2 a2) b (b + 14) f3 a3).2.2 (u + 1 + k) = l := by
    intro f1 f2 f3 a1 a2 a3 k l e1 e2 e3 hk'
    have : k < 8 := (List.getElem?_eq_some_iff.mp hk').1
    rw [put_A_ne (by omega), put_A_ne (by omega), put_A_ne (by omega)]
    exact hu.2 k l hk'
  have loop : ∀ (n k : Nat) (g1 : Nat → Option Nat) (g2 : Nat → Nat), k + n = w → (∀ j, g1 j = if j < k then to j else to0 j) → (∀ j, g2 j = if j < k then 0 else of0 j) → WP 15 0 0 7 25 [.ref b, .ref u, .int (eo q), .int (nI k)] [] (put (put (put σ (b + 1 + 1) (b + 1 + 1 + 1) (trF (b + 1 + 1) (nI stN) me2 (nI trN) (nI w) mi') (trA (arr 6 de) (arO 6 fo) (arr 5 ki) (arr 5 sr) (arr 5 le) (arO 5 to) (arr 5 F') adu)) (b + 1) (b + 1 + 10) (wyF (b + 1) (nI w) (nI trN) (nI stN)) (wyA (arr 150 py') (arr 35 la') (arr 5 pc'))) b (b + 14) (bkF b (nI (owN (fun v => if v < w then to v else to0 v) (fun v => if v < w then 0 else of0 v) k)) (nI 0) (eo none)) (bkA (arO 5 g1) (arr 5 g2) (arr 6 td))) none (put (put (put σ (b + 1 + 1) (b + 1 + 1 + 1) (trF (b + 1 + 1) (nI stN) me2 (nI trN) (nI w) mi') (trA (arr 6 de) (arO 6 fo) (arr 5 ki) (arr 5 sr) (arr 5 le) (arO 5 to) (arr 5 F') adu)) (b + 1) (b + 1 + 10) (wyF (b + 1) (nI w) (nI trN) (nI stN)) (wyA (arr 150 py') (arr 35 la2) (arr 5 pc'))) b (b + 14) (bkF b (nI (owN (fun v => if v < w then to v else to0 v) (fun v => if v < w then 0 else of0 v) w)) (nI (ftN w ki fi de le (fun v => if v < w then to v else to0 v) trN stN (w ^ (stN - trN)))) (eo (agA w ki fi de le (fun v => if v < w then to v else to0 v) trN stN q (w ^ (stN - trN))))) (bkA (arO 5 (fun v => if v < w then to v else to0 v)) (arr 5 (fun v => if v < w then 0 else of0 v)) (arr 6 (td2)))) := by
    intro n
    induction n with
    | zero =>
      intro k g1 g2 hk' hg1 hg2
      have e : k = w := by omega
      rw [show g1 = (fun v => if v < w then to v else to0 v) by funext j; rw [hg1, e], show g2 = (fun v => if v < w then 0 else of0 v) by funext j; rw [hg2, e], e]
      refine wp_iload_3 d7_25 ?_
      refine wp_aload_1 d7_26 ?_
      refine wp_get d7_27 (by decide) kU.1 gF rfl ?_
      refine wp_icmp_geN d7_30 (by decide) (by omega) (by omega) (fun h30 => ?_) (fun hq => absurd hq (by omega))
      refine wp_aload_0 d7_83 ?_
      refine wp_aload_1 d7_84 ?_
      refine wp_get d7_85 (by decide) kU.1 gF rfl ?_
      refine wp_iload_2 d7_88 ?_
      refine wp_V2v d7_89 kK.1 K2 (by omega) (Nat.le_of_ble_eq_true rfl) ?_
      exact wp_vret d7_92 rfl rfl rfl
    | succ n ih =>
      intro k g1 g2 hk' hg1 hg2
      have htk : (fun v => if v < w then to v else to0 v) k = to k := (hto' k (by omega)).symm
      have hofk : (fun v => if v < w then 0 else of0 v) k = 0 := by simp only [show k < w by omega, if_true]
      have K := ih (k + 1) (up g1 k (to k)) (up g2 k 0) (by omega) (fun j => by
        unfold up
        rw [hg1 j]
        by_cases e : j = k
        · rw [if_pos e, if_pos (by omega), e]
        · rw [if_neg e]
          by_cases e2 : j < k
          · rw [if_pos e2, if_pos (by omega)]
          · rw [if_neg e2, if_neg (by omega)]) (fun j => by
        unfold up
        rw [hg2 j]
        by_cases e : j = k
        · rw [if_pos e, if_pos (by omega)]
        · rw [if_neg e]
          by_cases e2 : j < k
          · rw [if_pos e2, if_pos (by omega)]
          · rw [if_neg e2, if_neg (by omega)])
      have eow : owN (fun v => if v < w then to v else to0 v) (fun v => if v < w then 0 else of0 v) (k + 1) = owN (fun v => if v < w then to v else to0 v) (fun v => if v < w then 0 else of0 v) k + (match to k with | none => 0 | some t => t) := by
        show owN (fun v => if v < w then to v else to0 v) (fun v => if v < w then 0 else of0 v) k + (match (fun v => if v < w then to v else to0 v) k with | none => 0 | some t => t - (fun v => if v < w then 0 else of0 v) k) = _
        rw [htk, hofk]
        cases to k <;> rfl
      rw [eow] at K
      refine wp_iload_3 d7_25 ?_
      refine wp_aload_1 d7_26 ?_
      refine wp_get d7_27 (by decide) kU.1 gF rfl ?_
      refine wp_icmp_geN d7_30 (by decide) (by omega) (by omega) (fun hq => absurd hq (by omega)) (fun h30 => ?_)
      refine wp_aload_0 d7_33 ?_
      refine wp_getP d7_34 (Nat.le_of_ble_eq_true rfl) kK.1 rfl ?_
      refine wp_iload_3 d7_37 ?_
      refine wp_aload_1 d7_38 ?_
      refine wp_get d7_39 (by decide) kU.1 gF rfl ?_
      refine wp_iload_3 d7_42 ?_
      refine wp_aldG d7_43 (kU.2 5 (by decide)) (gA 5 _ rfl rfl rfl rfl) (by omega) (by decide) ?_
      refine wp_astO d7_44 (kK.2 _ (Nat.le_of_ble_eq_true rfl)) rfl (by omega) (by decide) ?_
      refine wp_aload_0 d7_45 ?_
      refine wp_getP d7_46 (Nat.le_of_ble_eq_true rfl) kK.1 rfl ?_
      refine wp_iload_3 d7_49 ?_
      refine wp_iconst d7_50 ic_0 ?_
      refine wp_astN d7_51 (kK.2 _ (Nat.le_of_ble_eq_true rfl)) rfl (by omega) (by decide) ?_
      refine wp_aload_0 d7_52 ?_
      refine wp_getP d7_53 (Nat.le_of_ble_eq_true rfl) kK.1 rfl ?_
      refine wp_iload_3 d7_56 ?_
      refine wp_aldP d7_57 (kK.2 _ (Nat.le_of_ble_eq_true rfl)) rfl (by omega) (by decide) ?_
      rw [up_s]
      refine wp_iconst d7_58 ic_m1 ?_
      cases ht : to k with
      | none =>
        rw [ht] at K
        refine wp_icmp_eq d7_59 (by decide) (fun _ => ?_) (fun hz => absurd rfl hz)
        refine wp_iinc_3 d7_77 (Nat.le_of_ble_eq_true rfl) rfl (inc1 _) ?_
        refine wp_goto d7_80 (by decide) ?_
        exact K
      | some tt =>
        have htb := hto k (by omega) tt ht
        rw [ht] at K
        refine wp_icmp_eq d7_59 (by decide) (fun hz => absurd hz (nI_m1 (by omega))) (fun _ => ?_)
        refine wp_aload_0 d7_62 ?_
        refine wp_dup d7_63 rfl ?_
        refine wp_getP d7_64 (Nat.le_of_ble_eq_true rfl) kK.1 rfl ?_
        refine wp_aload_0 d7_67 ?_
        refine wp_getP d7_68 (Nat.le_of_ble_eq_true rfl) kK.1 rfl ?_
        refine wp_iload_3 d7_71 ?_
        refine wp_aldP d7_72 (kK.2 _ (Nat.le_of_ble_eq_true rfl)) rfl (by omega) (by decide) ?_
        rw [up_s]
        refine wp_iaddN d7_73 ?_
        refine wp_putIP d7_74 kK.1 ?_
        refine wp_iinc_3 d7_77 (Nat.le_of_ble_eq_true rfl) rfl (inc1 _) ?_
        refine wp_goto d7_80 (by decide) ?_
        exact K
  refine ev_of (L := [(.ref b), (.ref u), (.int (eo q)), .null]) (by decide) rfl (Nat.le_of_ble_eq_true rfl) ?_
  refine wp_aload_0 d7_0 ?_
  refine wp_getP d7_1 (Nat.le_of_ble_eq_true rfl) kK.1 rfl ?_
  refine wp_aload_1 d7_4 ?_
  refine wp_V1v d7_5 kW.1 (KL) (Nat.le_of_ble_eq_true rfl) (Nat.le_of_ble_eq_true rfl) ?_
  refine wp_aload_0 d7_8 ?_
  refine wp_iconst d7_9 ic_0 ?_
  refine wp_putIP d7_10 kK.1 ?_
  refine wp_aload_0 d7_13 ?_
  refine wp_iconst d7_14 ic_0 ?_
  refine wp_putIP d7_15 kK.1 ?_
  refine wp_aload_0 d7_18 ?_
  refine wp_iconst d7_19 ic_m1 ?_
  refine wp_putIP d7_20 kK.1 ?_
  refine wp_iconst d7_23 ic_0 ?_
  refine wp_istore_3 d7_24 (Nat.le_of_ble_eq_true rfl) rfl ?_
  exact loop w 0 to0 of0 (by omega) (fun j => by simp) (fun j => by simp)

end S27_bo2b
