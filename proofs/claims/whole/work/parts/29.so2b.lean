section S29_so2b
variable {σ : Sto} {b w stN : Nat} {me : Int32} {ki sr de : Nat → Nat} {ato : List Int32}

theorem o_fill (kS : KS σ b) (kT : KT σ (b + 1)) (h6 : stN ≤ 6) (hw : 1 ≤ w) (hw5 : w ≤ 5) (hk : ∀ v, v < w → ki v < 5) (hs : ∀ v, v < w → sr v ≤ 99) (hd : ∀ k, k < stN → de k < 100) : ∀ (n p c0 tr' : Nat) (mi : Int32) (fo' : Nat → Option Nat) (le' fi' du' td : Nat → Nat) (pd : Nat → Bool), p + n = w → (∀ k, k < p → td k < w) → (∀ k j, k < p → j < p → td k = td j → k = j) → (∀ v, v < w → (pd v = true ↔ ∃ k, k < p ∧ td k = v)) → (∀ c, c / w ^ n = c0 → ∀ k, k < p → odC w c k = td k) → (∀ k j, fo' k = some j → j < 2 ^ 31) → ∃ (tr1 : Nat) (mi1 : Int32) (fo1 : Nat → Option Nat) (le1 fi1 du1 : Nat → Nat) (td1 : Nat → Nat), (∀ k j, fo1 k = some j → j < 2 ^ 31) ∧ (∀ k, k < p → td1 k = td k) ∧ Ev (2 * n + 4) 0 0 19 [.ref b, .int (nI p)] (put (put σ (b + 1) (b + 1 + 1) (trF (b + 1) (nI stN) me (nI (tr')) (nI w) (mi)) (trA (arr 6 de) (arO 6 (fo')) (arr 5 ki) (arr 5 sr) (arr 5 (le')) ato (arr 5 (fi')) (arr 5 (du')))) b (b + 10) (stF b (eo (p2 (setG w ki sr de stN (c0 * w ^ n))))) (stA (arrI 5 (fun v => bi (pd v))) (arr 5 (td)) (arO 5 (flO w (setG w ki sr de stN (c0 * w ^ n)))))) none (put (put σ (b + 1) (b + 1 + 1) (trF (b + 1) (nI stN) me (nI (tr1)) (nI w) (mi1)) (trA (arr 6 de) (arO 6 (fo1)) (arr 5 ki) (arr 5 sr) (arr 5 (le1)) ato (arr 5 (fi1)) (arr 5 (du1)))) b (b + 10) (stF b (eo (p2 (setG w ki sr de stN (c0 * w ^ n + w ^ n))))) (stA (arrI 5 (fun v => bi (pd v))) (arr 5 (td1)) (arO 5 (flO w (setG w ki sr de stN (c0 * w ^ n + w ^ n)))))) := by
  intro n
  have gT : ∀ {fs1 fs2 : List Value} {as1 as2 : List (List Int32)}, (put (put σ (b + 1) (b + 1 + 1) fs1 as1) b (b + 10) fs2 as2).2.1 (b + 1) = fs1 := fun {_ _ _ _} => (put_F_ne (by omega)).trans put_F
  induction n with
  | zero =>
    intro p c0 tr' mi fo' le' fi' du' td pd hp h1 h2 h3 h4 hfo
    have ep : p = w := by omega
    subst ep
    have hPF : PF p td := ⟨h1, h2, inj_surj p td h1 (fun k j hk hj => h2 k j hk hj)⟩
    have hc : ∀ k, k < p → odC p c0 k = td k := h4 c0 (by rw [Nat.pow_zero, Nat.div_one])
    have e0 : c0 * p ^ 0 = c0 := by rw [Nat.pow_zero, Nat.mul_one]
    obtain ⟨tr1, mi1, fo1, le1, fi1, du1, hfo1, K⟩ := o_tryFile (pd := pd) (me := me) (mi := mi) (le' := le') (fi' := fi') (du' := du') (ato := ato) (tr' := tr') kS kT (acc := setG p ki sr de stN c0) h6 hw hw5 hk hs hd hPF hfo (fun c l h => by have := (setG_b _ c l h).2; omega) c0 hc
    rw [← setG_leaf hPF hc] at K
    refine ⟨tr1, mi1, fo1, le1, fi1, du1, td, hfo1, fun _ _ => rfl, ?_⟩
    rw [e0, Nat.pow_zero]
    refine ev_of (L := [(.ref b), (.int (nI p)), .null]) (by decide) rfl (Nat.le_of_ble_eq_true rfl) ?_
    refine wp_iload_1 d19_0 ?_
    refine wp_aload_0 d19_1 ?_
    refine wp_getP d19_2 (Nat.le_of_ble_eq_true rfl) kS.1 rfl ?_
    refine wp_get d19_5 (by decide) kT.1 gT rfl ?_
    refine wp_icmp_ltN d19_8 (by decide) (by omega) (by omega) (fun hq => absurd hq (by omega)) (fun h8 => ?_)
    refine wp_aload_0 d19_11 ?_
    refine wp_V0v d19_12 kS.1 ((K)) (Nat.le_of_ble_eq_true rfl) (Nat.le_of_ble_eq_true rfl) ?_
    exact wp_vret d19_15 rfl rfl rfl
  | succ n ih =>
    intro p c0 tr' mi fo' le' fi' du' td pd hp h1 h2 h3 h4 hfo
    -- one step
    have step : ∀ (g tr' : Nat) (mi : Int32) (fo' : Nat → Option Nat) (le' fi' du' td : Nat → Nat), g < w → (∀ k, k < p → td k < w) → (∀ k j, k < p → j < p → td k = td j → k = j) → (∀ v, v < w → (pd v = true ↔ ∃ k, k < p ∧ td k = v)) → (∀ c, c / w ^ (n + 1) = c0 → ∀ k, k < p → odC w c k = td k) → (∀ k j, fo' k = some j → j < 2 ^ 31) → ∃ (tr1 : Nat) (mi1 : Int32) (fo1 : Nat → Option Nat) (le1 fi1 du1 : Nat → Nat) (td1 : Nat → Nat), (∀ k j, fo1 k = some j → j < 2 ^ 31) ∧ (∀ k, k < p → td1 k = td k) ∧ Ev (2 * n + 5) 0 0 20 [.ref b, .int (nI p), .int (nI g)] (put (put σ (b + 1) (b + 1 + 1) (trF (b + 1) (nI stN) me (nI (tr')) (nI w) (mi)) (trA (arr 6 de) (arO 6 (fo')) (arr 5 ki) (arr 5 sr) (arr 5 (le')) ato (arr 5 (fi')) (arr 5 (du')))) b (b + 10) (stF b (eo (p2 (setG w ki sr de stN ((c0 * w + g) * w ^ n))))) (stA (arrI 5 (fun v => bi (pd v))) (arr 5 (td)) (arO 5 (flO w (setG w ki sr de stN ((c0 * w + g) * w ^ n)))))) none (put (put σ (b + 1) (b + 1 + 1) (trF (b + 1) (nI stN) me (nI (tr1)) (nI w) (mi1)) (trA (arr 6 de) (arO 6 (fo1)) (arr 5 ki) (arr 5 sr) (arr 5 (le1)) ato (arr 5 (fi1)) (arr 5 (du1)))) b (b + 10) (stF b (eo (p2 (setG w ki sr de stN ((c0 * w + g) * w ^ n + w ^ n))))) (stA (arrI 5 (fun v => bi (pd v))) (arr 5 (td1)) (arO 5 (flO w (setG w ki sr de stN ((c0 * w + g) * w ^ n + w ^ n)))))) := by
      intro g tr' mi fo' le' fi' du' td hg h1 h2 h3 h4 hfo
      cases hpd : pd g with
      | true =>
        obtain ⟨k, hk1, hk2⟩ := (h3 g hg).mp hpd
        have es := set_same (w := w) (ki := ki) (sr := sr) (de := de) (st := stN) (a := (c0 * w + g) * w ^ n) (w ^ n) (fun c c1 c2 => by
          obtain ⟨e1, e2⟩ := od_at (w := w) (n := n) (p := p) (by omega) hp hg (div_in (by omega) c1 c2)
          exact isO_rep (by omega) hk1 (by rw [e2, h4 c e1 k hk1, hk2]))
        refine ⟨tr', mi, fo', le', fi', du', td, hfo, fun _ _ => rfl, ?_⟩
        rw [es]
        refine ev_of (L := [(.ref b), (.int (nI p)), (.int (nI g))]) (by decide) rfl (Nat.le_of_ble_eq_true rfl) ?_
        refine wp_aload_0 d20_0 ?_
        refine wp_getP d20_1 (Nat.le_of_ble_eq_true rfl) kS.1 rfl ?_
        refine wp_iload_2 d20_4 ?_
        refine wp_zaldP d20_5 kS.2.2 rfl (by omega) (by decide) ?_
        rw [hpd]
        refine wp_if_eqB d20_6 (by decide) (fun hq => absurd hq (by decide)) (fun h6 => ?_)
        exact wp_vret d20_9 rfl rfl rfl
      | false =>
        have hnot : ∀ k, k < p → td k ≠ g := fun k hk1 hk2 => by
          have := (h3 g hg).mpr ⟨k, hk1, hk2⟩
          rw [hpd] at this
          exact absurd this (by decide)
        have upn : ∀ k, k < p → up td p g k = td k := fun k hk1 => up_n _ _ (by omega)
        obtain ⟨tr1, mi1, fo1, le1, fi1, du1, td1, hfo1, ht1, K⟩ := ih (p + 1) (c0 * w + g) tr' mi fo' le' fi' du' (up td p g) (up pd g true) (by omega) (fun k hk1 => by
            by_cases e : k = p
            · rw [e, up_s]; exact hg
            · rw [upn k (by omega)]; exact h1 k (by omega))
          (fun k j hk1 hj1 e => by
            by_cases e1 : k = p <;> by_cases e2 : j = p
            · omega
            · rw [e1, up_s, upn j (by omega)] at e; exact absurd e.symm (hnot j (by omega))
            · rw [e2, up_s, upn k (by omega)] at e; exact absurd e (hnot k (by omega))
            · rw [upn k (by omega), upn j (by omega)] at e; exact h2 k j (by omega) (by omega) e)
          (fun v hv => by
            by_cases e : v = g
            · rw [e, up_s]
              exact ⟨fun _ => ⟨p, by omega, up_s ..⟩, fun _ => rfl⟩
            · rw [up_n _ _ e, h3 v hv]
              constructor
              · rintro ⟨k, k1, k2⟩; exact ⟨k, by omega, by rw [upn k k1]; exact k2⟩
              · rintro ⟨k, k1, k2⟩
                by_cases e2 : k = p
                · rw [e2, up_s] at k2; exact absurd k2.symm e
                · exact ⟨k, by omega, by rw [← upn k (by omega)]; exact k2⟩)
          (fun c hc k hk1 => by
            obtain ⟨e1, e2⟩ := od_at (w := w) (n := n) (p := p) (by omega) hp hg hc
            by_cases e : k = p
            · rw [e, up_s, e2]
            · rw [upn k (by omega)]; exact h4 c e1 k (by omega)) hfo
        refine ⟨tr1, mi1, fo1, le1, fi1, du1, td1, hfo1, fun k hk1 => by rw [ht1 k (by omega)]; exact upn k hk1, ?_⟩
        have eb : up (up pd g true) g false = pd := by rw [up_up, ← hpd, up_same]
        refine ev_of (L := [(.ref b), (.int (nI p)), (.int (nI g))]) (by decide) rfl (Nat.le_of_ble_eq_true rfl) ?_
        refine wp_aload_0 d20_0 ?_
        refine wp_getP d20_1 (Nat.le_of_ble_eq_true rfl) kS.1 rfl ?_
        refine wp_iload_2 d20_4 ?_
        refine wp_zaldP d20_5 kS.2.2 rfl (by omega) (by decide) ?_
        rw [hpd]
        refine wp_if_eqB d20_6 (by decide) (fun h6 => ?_) (fun hq => absurd hq (by decide))
        refine wp_aload_0 d20_10 ?_
        refine wp_getP d20_11 (Nat.le_of_ble_eq_true rfl) kS.1 rfl ?_
        refine wp_iload_2 d20_14 ?_
        refine wp_iconst d20_15 ic_1 ?_
        refine wp_zastP d20_16 kS.2.2 nI_11 rfl (by omega) (by decide) ?_
        rw [show up (fun v => bi (pd v)) g (nI 1) = fun v => bi (up pd g true v) from up_bi (x := true)]
        refine wp_aload_0 d20_17 ?_
        refine wp_getP d20_18 (Nat.le_of_ble_eq_true rfl) kS.1 rfl ?_
        refine wp_iload_1 d20_21 ?_
        refine wp_iload_2 d20_22 ?_
        refine wp_astN d20_23 kS.2.1.1 rfl (by omega) (by decide) ?_
        refine wp_aload_0 d20_24 ?_
        refine wp_iload_1 d20_25 ?_
        refine wp_iconst d20_26 ic_1 ?_
        refine wp_iaddN d20_27 ?_
        refine wp_V1v d20_28 kS.1 K (by omega) (Nat.le_of_ble_eq_true rfl) ?_
        refine wp_aload_0 d20_31 ?_
        refine wp_getP d20_32 (Nat.le_of_ble_eq_true rfl) kS.1 rfl ?_
        refine wp_iload_2 d20_35 ?_
        refine wp_iconst d20_36 ic_0 ?_
        refine wp_zastP d20_37 kS.2.2 nI_01 rfl (by omega) (by decide) ?_
        rw [show up (fun v => bi (up pd g true v)) g (nI 0) = fun v => bi (pd v) by rw [show nI 0 = bi false from rfl, up_bi, eb]]
        exact wp_vret d20_38 rfl rfl rfl
    have loop : ∀ (j g tr' : Nat) (mi : Int32) (fo' : Nat → Option Nat) (le' fi' du' td : Nat → Nat), g + j = w → (∀ k, k < p → td k < w) → (∀ k j, k < p → j < p → td k = td j → k = j) → (∀ v, v < w → (pd v = true ↔ ∃ k, k < p ∧ td k = v)) → (∀ c, c / w ^ (n + 1) = c0 → ∀ k, k < p → odC w c k = td k) → (∀ k j, fo' k = some j → j < 2 ^ 31) → ∃ (tr1 : Nat) (mi1 : Int32) (fo1 : Nat → Option Nat) (le1 fi1 du1 : Nat → Nat) (td1 : Nat → Nat), (∀ k j, fo1 k = some j → j < 2 ^ 31) ∧ (∀ k, k < p → td1 k = td k) ∧ WP (2 * (n + 1) + 4) 0 0 19 18 [.ref b, .int (nI p), .int (nI g)] [] (put (put σ (b + 1) (b + 1 + 1) (trF (b + 1) (nI stN) me (nI (tr')) (nI w) (mi)) (trA (arr 6 de) (arO 6 (fo')) (arr 5 ki) (arr 5 sr) (arr 5 (le')) ato (arr 5 (fi')) (arr 5 (du')))) b (b + 10) (stF b (eo (p2 (setG w ki sr de stN ((c0 * w + g) * w ^ n))))) (stA (arrI 5 (fun v => bi (pd v))) (arr 5 (td)) (arO 5 (flO w (setG w ki sr de stN ((c0 * w + g) * w ^ n)))))) none (put (put σ (b + 1) (b + 1 + 1) (trF (b + 1) (nI stN) me (nI (tr1)) (nI w) (mi1)) (trA (arr 6 de) (arO 6 (fo1)) (arr 5 ki) (arr 5 sr) (arr 5 (le1)) ato (arr 5 (fi1)) (arr 5 (du1)))) b (b + 10) (stF b (eo (p2 (setG w ki sr de stN ((c0 * w + w) * w ^ n))))) (stA (arrI 5 (fun v => bi (pd v))) (arr 5 (td1)) (arO 5 (flO w (setG w ki sr de stN ((c0 * w + w) * w ^ n)))))) := by
      intro j
      induction j with
      | zero =>
        intro g tr' mi fo' le' fi' du' td hj h1 h2 h3 h4 hfo
        refine ⟨tr', mi, fo', le', fi', du', td, hfo, fun _ _ => rfl, ?_⟩
        rw [show g = w by omega]
        refine wp_iload_2 d19_18 ?_
        refine wp_aload_0 d19_19 ?_
        refine wp_getP d19_20 (Nat.le_of_ble_eq_true rfl) kS.1 rfl ?_
        refine wp_get d19_23 (by decide) kT.1 gT rfl ?_
        refine wp_icmp_geN d19_26 (by decide) (by omega) (by omega) (fun h26 => ?_) (fun hq => absurd hq (by omega))
        exact wp_vret d19_41 rfl rfl rfl
      | succ j ih2 =>
        intro g tr' mi fo' le' fi' du' td hj h1 h2 h3 h4 hfo
        obtain ⟨tr1, mi1, fo1, le1, fi1, du1, td1, hfo1, ht1, K1⟩ := step g tr' mi fo' le' fi' du' td (by omega) h1 h2 h3 h4 hfo
        rw [show (c0 * w + g) * w ^ n + w ^ n = (c0 * w + (g + 1)) * w ^ n by rw [← Nat.succ_mul, ← Nat.add_assoc]] at K1
        obtain ⟨tr2, mi2, fo2, le2, fi2, du2, td2, hfo2, ht2, K2⟩ := ih2 (g + 1) tr1 mi1 fo1 le1 fi1 du1 td1 (by omega) (fun k hk1 => by rw [ht1 k hk1]; exact h1 k hk1) (fun k j hk1 hj1 e => by rw [ht1 k hk1, ht1 j hj1] at e; exact h2 k j hk1 hj1 e) (fun v hv => by
          rw [h3 v hv]
          constructor
          · rintro ⟨k, k1, k2⟩; exact ⟨k, k1, by rw [ht1 k k1]; exact k2⟩
          · rintro ⟨k, k1, k2⟩; exact ⟨k, k1, by rw [← ht1 k k1]; exact k2⟩) (fun c hc k hk1 => by rw [ht1 k hk1]; exact h4 c hc k hk1) hfo1
        refine ⟨tr2, mi2, fo2, le2, fi2, du2, td2, hfo2, fun k hk1 => by rw [ht2 k hk1]; exact ht1 k hk1, ?_⟩
        refine wp_iload_2 d19_18 ?_
        refine wp_aload_0 d19_19 ?_
        refine wp_getP d19_20 (Nat.le_of_ble_eq_true rfl) kS.1 rfl ?_
        refine wp_get d19_23 (by decide) kT.1 gT rfl ?_
        refine wp_icmp_geN d19_26 (by decide) (by omega) (by omega) (fun hq => absurd hq (by omega)) (fun h26 => ?_)
        refine wp_aload_0 d19_29 ?_
        refine wp_iload_1 d19_30 ?_
        refine wp_iload_2 d19_31 ?_
        refine wp_V2v d19_32 kS.1 K1 (by omega) (Nat.le_of_ble_eq_true rfl) ?_
        refine wp_iinc_2 d19_35 (Nat.le_of_ble_eq_true rfl) rfl (inc1 _) ?_
        refine wp_goto d19_38 (by decide) ?_
        exact K2
    obtain ⟨tr1, mi1, fo1, le1, fi1, du1, td1, hfo1, ht1, K⟩ := loop w 0 tr' mi fo' le' fi' du' td (by omega) h1 h2 h3 h4 hfo
    rw [show (c0 * w + 0) * w ^ n = c0 * w ^ (n + 1) by rw [Nat.add_zero, Nat.mul_assoc, Nat.mul_comm w (w ^ n), ← Nat.pow_succ]] at K
    rw [show (c0 * w + w) * w ^ n = c0 * w ^ (n + 1) + w ^ (n + 1) by rw [Nat.add_mul, Nat.mul_assoc, Nat.mul_comm w (w ^ n), ← Nat.pow_succ]] at K
    refine ⟨tr1, mi1, fo1, le1, fi1, du1, td1, hfo1, ht1, ?_⟩
    refine ev_of (L := [(.ref b), (.int (nI p)), .null]) (by decide) rfl (Nat.le_of_ble_eq_true rfl) ?_
    refine wp_iload_1 d19_0 ?_
    refine wp_aload_0 d19_1 ?_
    refine wp_getP d19_2 (Nat.le_of_ble_eq_true rfl) kS.1 rfl ?_
    refine wp_get d19_5 (by decide) kT.1 gT rfl ?_
    refine wp_icmp_ltN d19_8 (by decide) (by omega) (by omega) (fun h8 => ?_) (fun hq => absurd hq (by omega))
    refine wp_iconst d19_16 ic_0 ?_
    refine wp_istore_2 d19_17 (Nat.le_of_ble_eq_true rfl) rfl ?_
    exact K

end S29_so2b
