section S29_so2c
variable {σ : Sto} {b w stN : Nat} {ki sr de : Nat → Nat}

theorem o_search (kS : KS σ b) (kT : KT σ (b + 1)) {u : Nat} (kU : KT σ u) {st0 me0 tr0 wa0 mi0 ls0 me2 mi2 : Int32} {trN : Nat} {d0 k0 s0 l0 f0 td0 du0 le fi : Nat → Nat} {o0 fo t0 to fl0 : Nat → Option Nat} {pd0 : Nat → Bool} {adu2 : List Int32} (hap : u + 9 ≤ b ∨ b + 13 ≤ u) (h6 : stN ≤ 6) (hw : 1 ≤ w) (hw5 : w ≤ 5) (hk : ∀ v, v < w → ki v < 5) (hs : ∀ v, v < w → sr v ≤ 99) (hd : ∀ k, k < stN → de k < 100) (hfo : ∀ k j, fo k = some j → j < 2 ^ 31) (hu : Hs σ u (u + 1) (trF u (nI stN) me2 (nI trN) (nI w) mi2) (trA (arr 6 de) (arO 6 fo) (arr 5 ki) (arr 5 sr) (arr 5 le) (arO 5 to) (arr 5 fi) adu2)) : ∃ (tr1 : Nat) (mi1 : Int32) (fo1 : Nat → Option Nat) (le1 fi1 du1 : Nat → Nat) (td1 : Nat → Nat) (me1 : Int32), Ev 15 0 0 18 [.ref b, .ref u] (put (put σ (b + 1) (b + 1 + 1) (trF (b + 1) st0 me0 tr0 wa0 mi0) (trA (arr 6 d0) (arO 6 o0) (arr 5 k0) (arr 5 s0) (arr 5 l0) (arO 5 t0) (arr 5 f0) (arr 5 du0))) b (b + 10) (stF b ls0) (stA (arrI 5 (fun v => bi (pd0 v))) (arr 5 td0) (arO 5 fl0))) none (put (put σ (b + 1) (b + 1 + 1) (trF (b + 1) (nI stN) me1 (nI (tr1)) (nI w) (mi1)) (trA (arr 6 de) (arO 6 (fo1)) (arr 5 ki) (arr 5 sr) (arr 5 (le1)) (arO 5 to) (arr 5 (fi1)) (arr 5 (du1)))) b (b + 10) (stF b (eo (p2 (setG w ki sr de stN (w ^ w))))) (stA (arrI 5 (fun v => bi ((fun _ => false) v))) (arr 5 (td1)) (arO 5 (flO w (setG w ki sr de stN (w ^ w)))))) := by
  have hcp := t_copyFrom (σ := (put (put σ (b + 1) (b + 1 + 1) (trF (b + 1) st0 me0 tr0 wa0 mi0) (trA (arr 6 d0) (arO 6 o0) (arr 5 k0) (arr 5 s0) (arr 5 l0) (arO 5 t0) (arr 5 f0) (arr 5 du0))) b (b + 10) (stF b ls0) (stA (arrI 5 (fun v => bi (pd0 v))) (arr 5 td0) (arO 5 fl0)))) (t := b + 1) (st := st0) (me := me0) (tr := tr0) (wa := wa0) (mi := mi0) (de := d0) (fo := o0) (ki := k0) (sr := s0) (le := l0) (to := t0) (fi := f0) (adu := arr 5 du0) kT kU (by omega) (by omega) (Hs_ne (Hs_ne hu (by omega) (by simp only [trA, List.length_cons, List.length_nil]; omega)) (by omega) (by simp only [trA, stA, List.length_cons, List.length_nil]; omega))
  have hcp := Ev_in (by omega) (by simp only [trA, stA, List.length_cons, List.length_nil]; omega) (by rfl) hcp
  obtain ⟨tr1, mi1, fo1, le1, fi1, du1, td1, hfo1, ht1, K⟩ := o_fill (b := b) (w := w) (stN := stN) (me := me2) (ki := ki) (sr := sr) (de := de) (ato := arO 5 to) kS kT h6 hw hw5 hk hs hd w 0 0 trN mi2 fo le fi du0 td0 (fun _ => false) (by omega) (fun k hk => by omega) (fun k j hk => by omega) (fun v hv => ⟨fun z => absurd z (by decide), fun ⟨k, k1, _⟩ => by omega⟩) (fun c hc k hk => by omega) hfo
  rw [Nat.zero_mul, Nat.zero_add] at K
  refine ⟨tr1, mi1, fo1, le1, fi1, du1, td1, me2, ?_⟩
  have loop : ∀ (n k : Nat) (g1 : Nat → Bool) (g2 : Nat → Option Nat), k + n = 5 → (∀ j, g1 j = if j < k then false else pd0 j) → (∀ j, g2 j = if j < k then none else fl0 j) → WP 15 0 0 18 15 [.ref b, .ref u, .int (nI k)] [] (put (put σ (b + 1) (b + 1 + 1) (trF (b + 1) (nI stN) me2 (nI (trN)) (nI w) (mi2)) (trA (arr 6 de) (arO 6 (fo)) (arr 5 ki) (arr 5 sr) (arr 5 (le)) (arO 5 to) (arr 5 (fi)) (arr 5 (du0)))) b (b + 10) (stF b (eo none)) (stA (arrI 5 (fun v => bi (g1 v))) (arr 5 (td0)) (arO 5 (g2)))) none (put (put σ (b + 1) (b + 1 + 1) (trF (b + 1) (nI stN) me2 (nI (tr1)) (nI w) (mi1)) (trA (arr 6 de) (arO 6 (fo1)) (arr 5 ki) (arr 5 sr) (arr 5 (le1)) (arO 5 to) (arr 5 (fi1)) (arr 5 (du1)))) b (b + 10) (stF b (eo (p2 (setG w ki sr de stN (w ^ w))))) (stA (arrI 5 (fun v => bi ((fun _ => false) v))) (arr 5 (td1)) (arO 5 (flO w (setG w ki sr de stN (w ^ w)))))) := by
    intro n
    induction n with
    | zero =>
      intro k g1 g2 hk' hg1 hg2
      have e : k = 5 := by omega
      have ea : arrI 5 (fun v => bi (g1 v)) = arrI 5 (fun v => bi ((fun _ => false) v)) := arrI_ext (fun j hj => by rw [hg1, if_pos (by omega)])
      have eb : arO 5 g2 = arO 5 (flO w (setG w ki sr de stN 0)) := arO_ext (fun j hj => by rw [hg2, if_pos (by omega)]; rfl)
      rw [ea, eb]
      refine wp_iload_2 d18_15 ?_
      refine wp_iconst d18_16 ic_5 ?_
      refine wp_icmp_geN d18_17 (by decide) (by omega) (by omega) (fun h17 => ?_) (fun hq => absurd hq (by omega))
      refine wp_aload_0 d18_40 ?_
      refine wp_iconst d18_41 ic_0 ?_
      refine wp_V1v d18_42 kS.1 K (by omega) (Nat.le_of_ble_eq_true rfl) ?_
      exact wp_vret d18_45 rfl rfl rfl
    | succ n ih =>
      intro k g1 g2 hk' hg1 hg2
      refine wp_iload_2 d18_15 ?_
      refine wp_iconst d18_16 ic_5 ?_
      refine wp_icmp_geN d18_17 (by decide) (by omega) (by omega) (fun hq => absurd hq (by omega)) (fun h17 => ?_)
      refine wp_aload_0 d18_20 ?_
      refine wp_getP d18_21 (Nat.le_of_ble_eq_true rfl) kS.1 rfl ?_
      refine wp_iload_2 d18_24 ?_
      refine wp_iconst d18_25 ic_0 ?_
      refine wp_zastP d18_26 kS.2.2 nI_01 rfl (by omega) (by decide) ?_
      rw [show nI 0 = bi false from rfl, up_bi]
      refine wp_aload_0 d18_27 ?_
      refine wp_getP d18_28 (Nat.le_of_ble_eq_true rfl) kS.1 rfl ?_
      refine wp_iload_2 d18_31 ?_
      refine wp_iconst d18_32 ic_m1 ?_
      refine wp_astO (x := none) d18_33 kS.2.1.2 rfl (by omega) (by decide) ?_
      refine wp_iinc_2 d18_34 (Nat.le_of_ble_eq_true rfl) rfl (inc1 _) ?_
      refine wp_goto d18_37 (by decide) ?_
      refine ih (k + 1) _ _ (by omega) (fun j => ?_) (fun j => ?_)
      · unfold up
        rw [hg1 j]
        by_cases e : j = k
        · rw [if_pos e, if_pos (by omega)]
        · rw [if_neg e]
          by_cases e2 : j < k
          · rw [if_pos e2, if_pos (by omega)]
          · rw [if_neg e2, if_neg (by omega)]
      · unfold up
        rw [hg2 j]
        by_cases e : j = k
        · rw [if_pos e, if_pos (by omega)]
        · rw [if_neg e]
          by_cases e2 : j < k
          · rw [if_pos e2, if_pos (by omega)]
          · rw [if_neg e2, if_neg (by omega)]
  refine ev_of (L := [(.ref b), (.ref u), .null]) (by decide) rfl (Nat.le_of_ble_eq_true rfl) ?_
  refine wp_aload_0 d18_0 ?_
  refine wp_getP d18_1 (Nat.le_of_ble_eq_true rfl) kS.1 rfl ?_
  refine wp_aload_1 d18_4 ?_
  refine wp_V1v d18_5 kT.1 (hcp) (Nat.le_of_ble_eq_true rfl) (Nat.le_of_ble_eq_true rfl) ?_
  refine wp_aload_0 d18_8 ?_
  refine wp_iconst d18_9 ic_m1 ?_
  refine wp_putIP d18_10 kS.1 ?_
  refine wp_iconst d18_13 ic_0 ?_
  refine wp_istore_2 d18_14 (Nat.le_of_ble_eq_true rfl) rfl ?_
  exact loop 5 0 pd0 fl0 (by omega) (fun j => by simp) (fun j => by simp)

end S29_so2c
