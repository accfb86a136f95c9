section S36_tb7
variable {σ : Sto} {pm : Nat} {pg : Nat → Nat} {N K : Trl} {img : Bool} {sl bd fd : Nat}

theorem c_spend (h : CIv σ pm pg N K img sl bd fd) (g : Gd N) (ew : ¬ N.w = 0) {t s0 : Nat} (ht : t ≤ 60) (hs0 : s0 < 2147483648) {u0 : Nat → Nat} : ∃ (mi' : Int32) (fo' : Nat → Option Nat) (du' : Nat → Nat), Ev 3 0 0 76 [.ref 1, .int (nI t), .int (nI s0)] (put σ 22 (22 + 1) (tF 22 (mkT N.st N.me (N.tr) N.w (N.mi) (N.de) N.ki N.sr (N.le) (N.fi) (N.fo) N.to)) (tA (mkT N.st N.me (N.tr) N.w (N.mi) (N.de) N.ki N.sr (N.le) (N.fi) (N.fo) N.to) (u0))) (some (.int (nI (dyN N.w N.st N.ki N.sr t (s0, N.tr, N.fi, N.le, N.de)).1))) (put σ 22 (22 + 1) (tF 22 (mkT N.st N.me ((dyN N.w N.st N.ki N.sr t (s0, N.tr, N.fi, N.le, N.de)).2.1) N.w (mi') ((dyN N.w N.st N.ki N.sr t (s0, N.tr, N.fi, N.le, N.de)).2.2.2.2) N.ki N.sr ((dyN N.w N.st N.ki N.sr t (s0, N.tr, N.fi, N.le, N.de)).2.2.2.1) ((dyN N.w N.st N.ki N.sr t (s0, N.tr, N.fi, N.le, N.de)).2.2.1) (fo') N.to)) (tA (mkT N.st N.me ((dyN N.w N.st N.ki N.sr t (s0, N.tr, N.fi, N.le, N.de)).2.1) N.w (mi') ((dyN N.w N.st N.ki N.sr t (s0, N.tr, N.fi, N.le, N.de)).2.2.2.2) N.ki N.sr ((dyN N.w N.st N.ki N.sr t (s0, N.tr, N.fi, N.le, N.de)).2.2.2.1) ((dyN N.w N.st N.ki N.sr t (s0, N.tr, N.fi, N.le, N.de)).2.2.1) (fo') N.to) (du'))) := by
  have hw5 := g.w5
  have hs6 := g.s6
  have hts := g.ts
  have gX : ∀ {f : List Value} {a : List (List Int32)}, (put σ 22 (22 + 1) f a).2.1 1 = xF img sl bd fd := fun {_ _} => (put_F_ne (by decide)).trans h.X.1
  have hsr : ∀ v, v < N.w → N.sr v < 1000 := fun v hv => by have := g.sr v hv; omega
  have loop : ∀ (n c s k : Nat) (mi : Int32) (fo : Nat → Option Nat) (f l2 d2 du : Nat → Nat) (u5 : Value), c + n = t → s < 2147483648 → k ≤ N.st → PF N.w f → (∀ v, v < N.w → l2 v < 1000) → (∀ j, j < N.st → d2 j < 100) → (∀ k j, fo k = some j → j < 2 ^ 31) → u5.category = 1 → ∃ (mi' : Int32) (fo' : Nat → Option Nat) (du' : Nat → Nat), WP 3 0 0 76 5 [.ref 1, .int (nI t), .int (nI s0), .int (nI s), .int (nI c), u5] [] (put σ 22 (22 + 1) (tF 22 (mkT N.st N.me (k) N.w (mi) (d2) N.ki N.sr (l2) (f) (fo) N.to)) (tA (mkT N.st N.me (k) N.w (mi) (d2) N.ki N.sr (l2) (f) (fo) N.to) (du))) (some (.int (nI (dyN N.w N.st N.ki N.sr n (s, k, f, l2, d2)).1))) (put σ 22 (22 + 1) (tF 22 (mkT N.st N.me ((dyN N.w N.st N.ki N.sr n (s, k, f, l2, d2)).2.1) N.w (mi') ((dyN N.w N.st N.ki N.sr n (s, k, f, l2, d2)).2.2.2.2) N.ki N.sr ((dyN N.w N.st N.ki N.sr n (s, k, f, l2, d2)).2.2.2.1) ((dyN N.w N.st N.ki N.sr n (s, k, f, l2, d2)).2.2.1) (fo') N.to)) (tA (mkT N.st N.me ((dyN N.w N.st N.ki N.sr n (s, k, f, l2, d2)).2.1) N.w (mi') ((dyN N.w N.st N.ki N.sr n (s, k, f, l2, d2)).2.2.2.2) N.ki N.sr ((dyN N.w N.st N.ki N.sr n (s, k, f, l2, d2)).2.2.2.1) ((dyN N.w N.st N.ki N.sr n (s, k, f, l2, d2)).2.2.1) (fo') N.to) (du'))) := by
    intro n
    induction n with
    | zero =>
      intro c s k mi fo f l2 d2 du u5 hc hs' hk' hpf hl2 hd2 hfo hu5
      refine ⟨mi, fo, du, ?_⟩
      refine wp_iload_4 d76_5 ?_
      refine wp_iload_1 d76_7 ?_
      refine wp_icmp_geN d76_8 (by decide) (by omega) (by omega) (fun h8 => ?_) (fun hq => absurd hq (by omega))
      refine wp_iload_3 d76_98 ?_
      exact wp_iret d76_99 rfl rfl rfl
    | succ n ih =>
      intro c s k mi fo f l2 d2 du u5 hc hs' hk' hpf hl2 hd2 hfo hu5
      have hx1 := nxS_lt s
      have hx2 := nxS_lt (nxS s)
      have hm5 : nxS s / 65536 % 5 < 5 := Nat.mod_lt _ (by decide)
      have hm3 : nxS (nxS s) / 65536 % 3 < 3 := Nat.mod_lt _ (by decide)
      have eD : (dyN N.w N.st N.ki N.sr (n + 1) (s, k, f, l2, d2)) = (dyN N.w N.st N.ki N.sr n (dy1 N.w N.st N.ki N.sr (s, k, f, l2, d2))) := rfl
      rw [eD]
      unfold dy1
      simp only
      have pre : ∀ {r : Option Value} {σ' : Sto}, WP 3 0 0 76 24 [.ref 1, .int (nI t), .int (nI s0), .int (nI (nxS s)), .int (nI c), .int (nI (nxS s / 65536 % 5))] [] (put σ 22 (22 + 1) (tF 22 (mkT N.st N.me (k) N.w (mi) (d2) N.ki N.sr (l2) (f) (fo) N.to)) (tA (mkT N.st N.me (k) N.w (mi) (d2) N.ki N.sr (l2) (f) (fo) N.to) (du))) r σ' → WP 3 0 0 76 5 [.ref 1, .int (nI t), .int (nI s0), .int (nI s), .int (nI c), u5] [] (put σ 22 (22 + 1) (tF 22 (mkT N.st N.me (k) N.w (mi) (d2) N.ki N.sr (l2) (f) (fo) N.to)) (tA (mkT N.st N.me (k) N.w (mi) (d2) N.ki N.sr (l2) (f) (fo) N.to) (du))) r σ' := by
        intro r σ' kk
        refine wp_iload_4 d76_5 ?_
        refine wp_iload_1 d76_7 ?_
        refine wp_icmp_geN d76_8 (by decide) (by omega) (by omega) (fun hq => absurd hq (by omega)) (fun h8 => ?_)
        refine wp_iload_3 d76_11 ?_
        refine wp_S1r d76_12 rfl ((c_nextSeed hs')) (Nat.le_of_ble_eq_true rfl) (Nat.le_of_ble_eq_true rfl) ?_
        refine wp_istore_3 d76_15 (Nat.le_of_ble_eq_true rfl) rfl ?_
        refine wp_iload_3 d76_16 ?_
        refine wp_ldc d76_17 (by decide) rfl ik_65536 ?_
        refine wp_idivN d76_19 (by omega) (by omega) (by omega) ?_
        refine wp_iconst d76_20 ic_5 ?_
        refine wp_iremN d76_21 (by omega) (by omega) (by omega) ?_
        refine wp_istore_5 d76_22 (Nat.le_of_ble_eq_true rfl) rfl ?_
        exact kk
      generalize hq5 : nxS s / 65536 % 5 = q5 at *
      generalize hq3 : nxS (nxS s) / 65536 % 3 = q3 at *
      by_cases c2 : q5 < 2
      · rw [if_pos c2]
        obtain ⟨du1, KT1⟩ := t_treadNext (σ := σ) (t := 22) (trN := k) (stN := N.st) (w := N.w) (ki := N.ki) (fi := f) (le := l2) (de := d2) (fo := fo) (me := nI N.me) (mi := mi) (asr := arr 5 N.sr) (ato := arO 5 N.to) (du := du) h.k.T hk' g.s6 hpf g.w5 g.ki hl2 hd2 (fun k _ j hj => hfo k j hj)
        by_cases cc : k < N.st ∧ canN N.ki f l2 (d2 k) N.w = true
        · rw [if_pos cc]
          have hok : okT N.w N.st k N.ki f l2 d2 = true := by simp [okT, cc.2, ew]; omega
          rw [hok] at KT1
          simp only [if_true] at KT1
          obtain ⟨mi', fo', du', K⟩ := ih (c + 1) (nxS s) (k + 1) (miT N.ki f k d2 fo mi) (up fo k (some (f 0))) f (trS N.ki f (d2 k) l2 N.w) d2 du1 (.int (nI q5)) (by omega) hx1 (by omega) hpf (fun v hv => Nat.lt_of_le_of_lt trS_le (hl2 v hv)) hd2 (fun i j hj => by
            unfold up at hj
            split at hj
            · cases hj; have := hpf.1 0 (by omega); omega
            · exact hfo i j hj) rfl
          refine ⟨mi', fo', du', pre ?_⟩
          refine wp_iload_5 d76_24 ?_
          refine wp_iconst d76_26 ic_1 ?_
          refine wp_icmp_gtN d76_27 (by decide) (by omega) (by omega) (fun hq => absurd hq (by omega)) (fun h27 => ?_)
          refine wp_aload_0 d76_30 ?_
          refine wp_get d76_31 (Nat.le_of_ble_eq_true rfl) h.k.X gX rfl ?_
          refine wp_V0r d76_34 h.k.T.1 (KT1) (Nat.le_of_ble_eq_true rfl) (Nat.le_of_ble_eq_true rfl) ?_
          refine wp_pop d76_37 rfl ?_
          refine wp_goto d76_38 (by decide) ?_
          refine wp_iinc_4 d76_92 (Nat.le_of_ble_eq_true rfl) rfl (inc1 _) ?_
          refine wp_goto d76_95 (by decide) ?_
          exact K
        · rw [if_neg cc]
          have hok : okT N.w N.st k N.ki f l2 d2 = false := by
            cases hz : okT N.w N.st k N.ki f l2 d2 with
            | false => rfl
            | true =>
              simp only [okT, Bool.and_eq_true, decide_eq_true_eq] at hz
              exact absurd ⟨by omega, hz.2⟩ cc
          rw [hok] at KT1
          simp only [if_false, Bool.false_eq_true] at KT1
          obtain ⟨mi', fo', du', K⟩ := ih (c + 1) (nxS s) k mi fo f l2 d2 du1 (.int (nI q5)) (by omega) hx1 (by omega) hpf hl2 hd2 hfo rfl
          refine ⟨mi', fo', du', pre ?_⟩
          refine wp_iload_5 d76_24 ?_
          refine wp_iconst d76_26 ic_1 ?_
          refine wp_icmp_gtN d76_27 (by decide) (by omega) (by omega) (fun hq => absurd hq (by omega)) (fun h27 => ?_)
          refine wp_aload_0 d76_30 ?_
          refine wp_get d76_31 (Nat.le_of_ble_eq_true rfl) h.k.X gX rfl ?_
          refine wp_V0r d76_34 h.k.T.1 (KT1) (Nat.le_of_ble_eq_true rfl) (Nat.le_of_ble_eq_true rfl) ?_
          refine wp_pop d76_37 rfl ?_
          refine wp_goto d76_38 (by decide) ?_
          refine wp_iinc_4 d76_92 (Nat.le_of_ble_eq_true rfl) rfl (inc1 _) ?_
          refine wp_goto d76_95 (by decide) ?_
          exact K
      · rw [if_neg c2]
        by_cases c3 : q5 = 2
        · rw [if_pos c3]
          have hch := t_changeFirst (σ := σ) (t := 22) (st := nI N.st) (me := nI N.me) (tr := nI k) (mi := mi) (ade := arr 6 d2) (afo := arO 6 fo) (aki := arr 5 N.ki) (asr := arr 5 N.sr) (ale := arr 5 l2) (ato := arO 5 N.to) (adu := arr 5 du) (fi := f) (w := N.w) h.k.T g.w5
          rw [if_neg ew, if_neg ew] at hch
          obtain ⟨mi', fo', du', K⟩ := ih (c + 1) (nxS s) k (mi + nI 1) fo (rot N.w f) l2 d2 du (.int (nI q5)) (by omega) hx1 (by omega) (PF_rot hpf) hl2 hd2 hfo rfl
          refine ⟨mi', fo', du', pre ?_⟩
          refine wp_iload_5 d76_24 ?_
          refine wp_iconst d76_26 ic_1 ?_
          refine wp_icmp_gtN d76_27 (by decide) (by omega) (by omega) (fun h27 => ?_) (fun hq => absurd hq (by omega))
          refine wp_iload_5 d76_41 ?_
          refine wp_iconst d76_43 ic_2 ?_
          refine wp_icmp_neN d76_44 (by decide) (by omega) (by omega) (fun hq => absurd hq (by omega)) (fun h44 => ?_)
          refine wp_aload_0 d76_47 ?_
          refine wp_get d76_48 (Nat.le_of_ble_eq_true rfl) h.k.X gX rfl ?_
          refine wp_V0v d76_51 h.k.T.1 (hch) (Nat.le_of_ble_eq_true rfl) (Nat.le_of_ble_eq_true rfl) ?_
          refine wp_goto d76_54 (by decide) ?_
          refine wp_iinc_4 d76_92 (Nat.le_of_ble_eq_true rfl) rfl (inc1 _) ?_
          refine wp_goto d76_95 (by decide) ?_
          exact K
        · rw [if_neg c3]
          by_cases c4 : q5 = 3
          · rw [if_pos c4]
            have hre := t_restAll (σ := σ) (t := 22) (st := nI N.st) (me := nI N.me) (tr := nI k) (mi := mi) (ade := arr 6 d2) (afo := arO 6 fo) (aki := arr 5 N.ki) (ato := arO 5 N.to) (afi := arr 5 f) (adu := arr 5 du) (le := l2) (sr := N.sr) (w := N.w) h.k.T g.w5 hl2 hsr
            obtain ⟨mi', fo', du', K⟩ := ih (c + 1) (nxS s) k (mi + nI 5) fo f (rsN N.w N.sr l2) d2 du (.int (nI q5)) (by omega) hx1 (by omega) hpf (rsN_lt hsr hl2) hd2 hfo rfl
            refine ⟨mi', fo', du', pre ?_⟩
            refine wp_iload_5 d76_24 ?_
            refine wp_iconst d76_26 ic_1 ?_
            refine wp_icmp_gtN d76_27 (by decide) (by omega) (by omega) (fun h27 => ?_) (fun hq => absurd hq (by omega))
            refine wp_iload_5 d76_41 ?_
            refine wp_iconst d76_43 ic_2 ?_
            refine wp_icmp_neN d76_44 (by decide) (by omega) (by omega) (fun h44 => ?_) (fun hq => absurd hq (by omega))
            refine wp_iload_5 d76_57 ?_
            refine wp_iconst d76_59 ic_3 ?_
            refine wp_icmp_neN d76_60 (by decide) (by omega) (by omega) (fun hq => absurd hq (by omega)) (fun h60 => ?_)
            refine wp_aload_0 d76_63 ?_
            refine wp_get d76_64 (Nat.le_of_ble_eq_true rfl) h.k.X gX rfl ?_
            refine wp_V0r d76_67 h.k.T.1 (hre) (Nat.le_of_ble_eq_true rfl) (Nat.le_of_ble_eq_true rfl) ?_
            refine wp_pop d76_70 rfl ?_
            refine wp_goto d76_71 (by decide) ?_
            refine wp_iinc_4 d76_92 (Nat.le_of_ble_eq_true rfl) rfl (inc1 _) ?_
            refine wp_goto d76_95 (by decide) ?_
            exact K
          · rw [if_neg c4]
            have hde := t_deepenP (σ := σ) (t := 22) (me := nI N.me) (wa := nI N.w) (mi := mi) (afo := arO 6 fo) (aki := arr 5 N.ki) (asr := arr 5 N.sr) (ale := arr 5 l2) (ato := arO 5 N.to) (afi := arr 5 f) (adu := arr 5 du) (trN := k) (stN := N.st) (dp := q3) (de := d2) h.k.T hk' g.s6 hd2 (by omega)
            obtain ⟨mi', fo', du', K⟩ := ih (c + 1) (nxS (nxS s)) k mi fo f l2 (snN k N.st q3 d2) du (.int (nI q5)) (by omega) hx2 (by omega) hpf hl2 (snN_lt hd2) hfo rfl
            refine ⟨mi', fo', du', pre ?_⟩
            refine wp_iload_5 d76_24 ?_
            refine wp_iconst d76_26 ic_1 ?_
            refine wp_icmp_gtN d76_27 (by decide) (by omega) (by omega) (fun h27 => ?_) (fun hq => absurd hq (by omega))
            refine wp_iload_5 d76_41 ?_
            refine wp_iconst d76_43 ic_2 ?_
            refine wp_icmp_neN d76_44 (by decide) (by omega) (by omega) (fun h44 => ?_) (fun hq => absurd hq (by omega))
            refine wp_iload_5 d76_57 ?_
            refine wp_iconst d76_59 ic_3 ?_
            refine wp_icmp_neN d76_60 (by decide) (by omega) (by omega) (fun h60 => ?_) (fun hq => absurd hq (by omega))
            refine wp_iload_3 d76_74 ?_
            refine wp_S1r d76_75 rfl ((c_nextSeed hx1)) (Nat.le_of_ble_eq_true rfl) (Nat.le_of_ble_eq_true rfl) ?_
            refine wp_istore_3 d76_78 (Nat.le_of_ble_eq_true rfl) rfl ?_
            refine wp_aload_0 d76_79 ?_
            refine wp_get d76_80 (Nat.le_of_ble_eq_true rfl) h.k.X gX rfl ?_
            refine wp_iload_3 d76_83 ?_
            refine wp_ldc d76_84 (by decide) rfl ik_65536 ?_
            refine wp_idivN d76_86 (by omega) (by omega) (by omega) ?_
            refine wp_iconst d76_87 ic_3 ?_
            refine wp_iremN d76_88 (by omega) (by omega) (by omega) ?_
            rw [hq3]
            refine wp_V1v d76_89 h.k.T.1 (hde) (Nat.le_of_ble_eq_true rfl) (Nat.le_of_ble_eq_true rfl) ?_
            refine wp_iinc_4 d76_92 (Nat.le_of_ble_eq_true rfl) rfl (inc1 _) ?_
            refine wp_goto d76_95 (by decide) ?_
            exact K
  obtain ⟨mi', fo', du', K⟩ := loop t 0 s0 N.tr N.mi N.fo N.fi N.le N.de u0 .null (by omega) hs0 hts g.f (fun v hv => by have := g.le v hv; omega) (fun k hk => by have := g.de k hk; omega) (fun k j hj => by have := g.fo k j hj; omega) rfl
  refine ⟨mi', fo', du', ?_⟩
  refine ev_of (L := [(.ref 1), (.int (nI t)), (.int (nI s0)), .null, .null, .null]) (by decide) rfl (Nat.le_of_ble_eq_true rfl) ?_
  refine wp_iload_2 d76_0 ?_
  refine wp_istore_3 d76_1 (Nat.le_of_ble_eq_true rfl) rfl ?_
  refine wp_iconst d76_2 ic_0 ?_
  refine wp_istore_4 d76_3 (Nat.le_of_ble_eq_true rfl) rfl ?_
  exact K
theorem c_days (h : CIv σ pm pg N K img sl bd fd) (g : Gd N) (x y z : Int32) : ∃ σ', Ev 4 0 0 69 [.ref 1, .int x, .int y, .int z] σ (some (.int (if okD x y z then (if N.w = 0 then -103 else r_days N.w (dyN N.w N.st N.ki N.sr x.toInt.toNat (y.toInt.toNat, N.tr, N.fi, N.le, N.de)) z) else -102))) σ' ∧ Fr σ σ' 1 76 ∧ CIv σ' pm pg N K img sl bd fd := by
  obtain ⟨du, hN⟩ := h.N
  have hw5 := g.w5
  by_cases hok : okD x y z = true
  · rw [if_pos hok]
    simp only [okD, Bool.and_eq_true, decide_eq_true_eq] at hok
    obtain ⟨⟨hx, hy⟩, hz⟩ := hok
    obtain ⟨t, et, ex, -, ht1, ht2⟩ := inN hx (by decide)
    obtain ⟨q, eq, ez, ez2, hq1, hq2⟩ := inN hz (by decide)
    obtain ⟨s0, es, hs0, ey⟩ : ∃ s0 : Nat, y.toInt.toNat = s0 ∧ s0 < 2147483648 ∧ y = nI s0 := ⟨y.toInt.toNat, rfl, by have := y.toInt_lt; omega, nI_to hy⟩
    rw [et, es]
    by_cases ew : N.w = 0
    · rw [if_pos ew]
      refine ⟨σ, ?_, Fr_refl, h⟩
      rw [ex, ey, ez]
      refine ev_of (L := [(.ref 1), (.int (nI t)), (.int (nI s0)), (.int (nI q)), .null]) (by decide) rfl (Nat.le_of_ble_eq_true rfl) ?_
      refine wp_iload_1 d69_0 ?_
      refine wp_iconst d69_1 ic_1 ?_
      refine wp_icmp_ltN d69_2 (by decide) (by omega) (by omega) (fun hq => absurd hq (by omega)) (fun h2 => ?_)
      refine wp_iload_1 d69_5 ?_
      refine wp_bipush d69_6 bi_60 ?_
      refine wp_icmp_gtN d69_8 (by decide) (by omega) (by omega) (fun hq => absurd hq (by omega)) (fun h8 => ?_)
      refine wp_iload_2 d69_11 ?_
      refine wp_if_ltN d69_12 (by decide) (by omega) ?_
      refine wp_iload_3 d69_15 ?_
      refine wp_if_ltN d69_16 (by decide) (by omega) ?_
      refine wp_iload_3 d69_19 ?_
      refine wp_iconst d69_20 ic_2 ?_
      refine wp_icmp_leN d69_21 (by decide) (by omega) (by omega) (fun h21 => ?_) (fun hq => absurd hq (by omega))
      refine wp_aload_0 d69_27 ?_
      refine wp_get d69_28 (Nat.le_of_ble_eq_true rfl) h.k.X h.X.1 rfl ?_
      refine wp_get d69_31 (Nat.le_of_ble_eq_true rfl) h.k.N.1 hN.1 rfl ?_
      refine wp_if_neN d69_34 (by decide) (by omega) (fun hq => absurd hq (by omega)) (fun h34 => ?_)
      refine wp_bipush d69_37 bi_m103 ?_
      exact wp_iret d69_39 rfl rfl rfl
    · rw [if_neg ew]
      obtain ⟨st0, me0, tr0, wa0, mi0, d0, k0, s1, l0, f0, u0, o0, t0, hT⟩ := h.T
      have cp := Ev_at hT (t_copyFrom (σ := σ) (t := 22) (u := 4) h.k.T h.k.N (by decide) (by decide) hN)
      obtain ⟨mi', fo', du', K⟩ := c_spend (u0 := u0) h g ew (t := t) (s0 := s0) (by omega) hs0
      have gX : ∀ {f : List Value} {a : List (List Int32)}, (put σ 22 (22 + 1) f a).2.1 1 = xF img sl bd fd := fun {_ _} => (put_F_ne (by decide)).trans h.X.1
      have gT : ∀ {f : List Value} {a : List (List Int32)}, (put σ 22 (22 + 1) f a).2.1 22 = f := fun {_ _} => put_F
      refine ⟨(put σ 22 (22 + 1) (tF 22 (mkT N.st N.me ((dyN N.w N.st N.ki N.sr t (s0, N.tr, N.fi, N.le, N.de)).2.1) N.w (mi') ((dyN N.w N.st N.ki N.sr t (s0, N.tr, N.fi, N.le, N.de)).2.2.2.2) N.ki N.sr ((dyN N.w N.st N.ki N.sr t (s0, N.tr, N.fi, N.le, N.de)).2.2.2.1) ((dyN N.w N.st N.ki N.sr t (s0, N.tr, N.fi, N.le, N.de)).2.2.1) (fo') N.to)) (tA (mkT N.st N.me ((dyN N.w N.st N.ki N.sr t (s0, N.tr, N.fi, N.le, N.de)).2.1) N.w (mi') ((dyN N.w N.st N.ki N.sr t (s0, N.tr, N.fi, N.le, N.de)).2.2.2.2) N.ki N.sr ((dyN N.w N.st N.ki N.sr t (s0, N.tr, N.fi, N.le, N.de)).2.2.2.1) ((dyN N.w N.st N.ki N.sr t (s0, N.tr, N.fi, N.le, N.de)).2.2.1) (fo') N.to) (du'))), ?_, Fr_all Fr_T9 (by decide) (by decide), CIv_T h Fr_T9 HR_T⟩
      unfold r_days
      rw [ez2, ex, ey, ez]
      refine ev_of (L := [(.ref 1), (.int (nI t)), (.int (nI s0)), (.int (nI q)), .null]) (by decide) rfl (Nat.le_of_ble_eq_true rfl) ?_
      refine wp_iload_1 d69_0 ?_
      refine wp_iconst d69_1 ic_1 ?_
      refine wp_icmp_ltN d69_2 (by decide) (by omega) (by omega) (fun hq => absurd hq (by omega)) (fun h2 => ?_)
      refine wp_iload_1 d69_5 ?_
      refine wp_bipush d69_6 bi_60 ?_
      refine wp_icmp_gtN d69_8 (by decide) (by omega) (by omega) (fun hq => absurd hq (by omega)) (fun h8 => ?_)
      refine wp_iload_2 d69_11 ?_
      refine wp_if_ltN d69_12 (by decide) (by omega) ?_
      refine wp_iload_3 d69_15 ?_
      refine wp_if_ltN d69_16 (by decide) (by omega) ?_
      refine wp_iload_3 d69_19 ?_
      refine wp_iconst d69_20 ic_2 ?_
      refine wp_icmp_leN d69_21 (by decide) (by omega) (by omega) (fun h21 => ?_) (fun hq => absurd hq (by omega))
      refine wp_aload_0 d69_27 ?_
      refine wp_get d69_28 (Nat.le_of_ble_eq_true rfl) h.k.X h.X.1 rfl ?_
      refine wp_get d69_31 (Nat.le_of_ble_eq_true rfl) h.k.N.1 hN.1 rfl ?_
      refine wp_if_neN d69_34 (by decide) (by omega) (fun h34 => ?_) (fun hq => absurd hq (by omega))
      refine wp_aload_0 d69_40 ?_
      refine wp_get d69_41 (Nat.le_of_ble_eq_true rfl) h.k.X h.X.1 rfl ?_
      refine wp_aload_0 d69_44 ?_
      refine wp_get d69_45 (Nat.le_of_ble_eq_true rfl) h.k.X h.X.1 rfl ?_
      refine wp_V1v d69_48 h.k.T.1 (cp) (Nat.le_of_ble_eq_true rfl) (Nat.le_of_ble_eq_true rfl) ?_
      refine wp_aload_0 d69_51 ?_
      refine wp_iload_1 d69_52 ?_
      refine wp_iload_2 d69_53 ?_
      refine wp_V2r d69_54 h.k.X (K) (Nat.le_of_ble_eq_true rfl) (Nat.le_of_ble_eq_true rfl) ?_
      refine wp_istore_4 d69_57 (Nat.le_of_ble_eq_true rfl) rfl ?_
      refine wp_iload_3 d69_59 ?_
      generalize dyN N.w N.st N.ki N.sr t (s0, N.tr, N.fi, N.le, N.de) = D at *
      rcases (by omega : q = 0 ∨ q = 1 ∨ q = 2) with rfl | rfl | rfl
      · rw [if_pos (by decide)]
        refine wp_if_neN d69_60 (by decide) (by omega) (fun hq => absurd hq (by omega)) (fun h60 => ?_)
        refine wp_aload_0 d69_63 ?_
        refine wp_get d69_64 (Nat.le_of_ble_eq_true rfl) h.k.X gX rfl ?_
        refine wp_get d69_67 (Nat.le_of_ble_eq_true rfl) h.k.T.1 gT rfl ?_
        exact wp_iret d69_70 rfl rfl rfl
      · rw [if_neg (by decide), if_pos (by decide)]
        refine wp_if_neN d69_60 (by decide) (by omega) (fun h60 => ?_) (fun hq => absurd hq (by omega))
        refine wp_iload_3 d69_71 ?_
        refine wp_iconst d69_72 ic_1 ?_
        refine wp_icmp_neN d69_73 (by decide) (by omega) (by omega) (fun hq => absurd hq (by omega)) (fun h73 => ?_)
        refine wp_aload_0 d69_76 ?_
        refine wp_get d69_77 (Nat.le_of_ble_eq_true rfl) h.k.X gX rfl ?_
        refine wp_V0r d69_80 h.k.T.1 (t_leftOfAll h.k.T g.w5) (Nat.le_of_ble_eq_true rfl) (Nat.le_of_ble_eq_true rfl) ?_
        refine wp_goto d69_83 (by decide) ?_
        exact wp_iret d69_88 rfl rfl rfl
      · rw [if_neg (by decide), if_neg (by decide)]
        refine wp_if_neN d69_60 (by decide) (by omega) (fun h60 => ?_) (fun hq => absurd hq (by omega))
        refine wp_iload_3 d69_71 ?_
        refine wp_iconst d69_72 ic_1 ?_
        refine wp_icmp_neN d69_73 (by decide) (by omega) (by omega) (fun h73 => ?_) (fun hq => absurd hq (by omega))
        refine wp_iload_4 d69_86 ?_
        exact wp_iret d69_88 rfl rfl rfl
  · rw [if_neg hok]
    refine ⟨σ, ?_, Fr_refl, h⟩
    have out : WP 4 0 0 69 24 [.ref 1, .int x, .int y, .int z, .null] [] σ (some (.int (-102))) σ := by
      refine wp_bipush d69_24 bi_m102 ?_
      exact wp_iret d69_26 rfl rfl rfl
    refine ev_of (L := [(.ref 1), (.int x), (.int y), (.int z), .null]) (by decide) rfl (Nat.le_of_ble_eq_true rfl) ?_
    refine wp_iload_1 d69_0 ?_
    refine wp_iconst d69_1 ic_1 ?_
    refine wp_icmp_lt d69_2 (by decide) (fun h2 => ?_) (fun h2 => ?_)
    · exact out
    · have b1 := mt (lt_nI (x := x) (a := 1) (by decide)).mpr h2
      refine wp_iload_1 d69_5 ?_
      refine wp_bipush d69_6 bi_60 ?_
      refine wp_icmp_gt d69_8 (by decide) (fun h8 => ?_) (fun h8 => ?_)
      · exact out
      · have b2 := mt (gt_nI (x := x) (a := 60) (by decide)).mpr h8
        refine wp_iload_2 d69_11 ?_
        refine wp_if_lt d69_12 (by decide) (fun h12 => ?_) (fun h12 => ?_)
        · exact out
        · have b3 := mt (lt_nI (x := y) (a := 0) (by decide)).mpr h12
          refine wp_iload_3 d69_15 ?_
          refine wp_if_lt d69_16 (by decide) (fun h16 => ?_) (fun h16 => ?_)
          · exact out
          · have b4 := mt (lt_nI (x := z) (a := 0) (by decide)).mpr h16
            refine wp_iload_3 d69_19 ?_
            refine wp_iconst d69_20 ic_2 ?_
            refine wp_icmp_le d69_21 (by decide) (fun hq => ?_) (fun _ => out)
            exfalso
            have b5 := (le_nI (x := z) (a := 2) (by decide)).mp hq
            apply hok
            simp only [okD, Bool.and_eq_true, decide_eq_true_eq]
            exact ⟨⟨inB_t.mpr (by omega), by omega⟩, inB_t.mpr (by omega)⟩

end S36_tb7
