section S35_tb6
variable {σ : Sto} {pm : Nat} {pg : Nat → Nat} {N K : Trl} {img : Bool} {sl bd fd : Nat}

theorem HR_T {T : Trl} {du : Nat → Nat} : HR (put σ 22 (22 + 1) (tF 22 T) (tA T du)) 22 := ⟨_, _, _, _, _, _, _, _, _, _, _, _, _, Hs_put⟩
theorem Fr_T9 {T : Trl} {du : Nat → Nat} : Fr σ (put σ 22 (22 + 1) (tF 22 T) (tA T du)) 22 9 := Fr_put Fr_refl (by decide) (by simp [tA, trA])
theorem c_far (h : CIv σ pm pg N K img sl bd fd) (g : Gd N) (x : Int32) : ∃ σ', Ev 3 0 0 64 [.ref 1, .int x] σ (some (.int (if inB x 1 6 then (if N.w = 0 then -103 else nI (faN N.w N.ki N.de N.tr x.toInt.toNat (N.st - N.tr) 0 N.fi N.le)) else -102))) σ' ∧ Fr σ σ' 1 76 ∧ CIv σ' pm pg N K img sl bd fd := by
  obtain ⟨du, hN⟩ := h.N
  have hw5 := g.w5
  have hs6 := g.s6
  have hts := g.ts
  by_cases e : inB x 1 6 = true
  · obtain ⟨b, hb, ex, -, hb1, hb2⟩ := inN e (by decide)
    rw [if_pos e, hb]
    by_cases ew : N.w = 0
    · rw [if_pos ew]
      refine ⟨σ, ?_, Fr_refl, h⟩
      rw [ex]
      refine ev_of (L := [(.ref 1), (.int (nI b)), .null]) (by decide) rfl (Nat.le_of_ble_eq_true rfl) ?_
      refine wp_iload_1 d64_0 ?_
      refine wp_iconst d64_1 ic_1 ?_
      refine wp_icmp_ltN d64_2 (by decide) (by omega) (by omega) (fun hq => absurd hq (by omega)) (fun h2 => ?_)
      refine wp_iload_1 d64_5 ?_
      refine wp_bipush d64_6 bi_6 ?_
      refine wp_icmp_leN d64_8 (by decide) (by omega) (by omega) (fun h8 => ?_) (fun hq => absurd hq (by omega))
      refine wp_aload_0 d64_14 ?_
      refine wp_get d64_15 (Nat.le_of_ble_eq_true rfl) h.k.X h.X.1 rfl ?_
      refine wp_get d64_18 (Nat.le_of_ble_eq_true rfl) h.k.N.1 hN.1 rfl ?_
      refine wp_if_neN d64_21 (by decide) (by omega) (fun hq => absurd hq (by omega)) (fun h21 => ?_)
      refine wp_bipush d64_24 bi_m103 ?_
      exact wp_iret d64_26 rfl rfl rfl
    · rw [if_neg ew]
      have gX : ∀ {f : List Value} {a : List (List Int32)}, (put σ 22 (22 + 1) f a).2.1 1 = xF img sl bd fd := fun {_ _} => (put_F_ne (by decide)).trans h.X.1
      have gN : ∀ {f : List Value} {a : List (List Int32)}, (put σ 22 (22 + 1) f a).2.1 4 = tF 4 N := fun {_ _} => (put_F_ne (by decide)).trans hN.1
      have gT : ∀ {f : List Value} {a : List (List Int32)}, (put σ 22 (22 + 1) f a).2.1 22 = f := fun {_ _} => put_F
      have fin : ∀ (k z : Nat) (mi : Int32) (fo : Nat → Option Nat) (le fi du : Nat → Nat), WP 3 0 0 64 75 [.ref 1, .int (nI b), .int (nI z)] [] (put σ 22 (22 + 1) (tF 22 (mkT N.st N.me (N.tr + k) N.w (mi) (N.de) N.ki N.sr (le) (fi) (fo) N.to)) (tA (mkT N.st N.me (N.tr + k) N.w (mi) (N.de) N.ki N.sr (le) (fi) (fo) N.to) (du))) (some (.int (nI k))) (put σ 22 (22 + 1) (tF 22 (mkT N.st N.me (N.tr + k) N.w (mi) (N.de) N.ki N.sr (le) (fi) (fo) N.to)) (tA (mkT N.st N.me (N.tr + k) N.w (mi) (N.de) N.ki N.sr (le) (fi) (fo) N.to) (du))) := by
        intro k z mi fo le fi du
        refine wp_aload_0 d64_75 ?_
        refine wp_get d64_76 (Nat.le_of_ble_eq_true rfl) h.k.X gX rfl ?_
        refine wp_get d64_79 (Nat.le_of_ble_eq_true rfl) h.k.T.1 gT rfl ?_
        refine wp_aload_0 d64_82 ?_
        refine wp_get d64_83 (Nat.le_of_ble_eq_true rfl) h.k.X gX rfl ?_
        refine wp_get d64_86 (Nat.le_of_ble_eq_true rfl) h.k.N.1 gN rfl ?_
        refine wp_isubN d64_89 (Nat.le_add_right N.tr k) ?_
        exact wp_iret d64_90 rfl (show some (Value.int (nI k)) = some (Value.int (nI (N.tr + k - N.tr))) by rw [Nat.add_sub_cancel_left]) rfl
      have loop : ∀ (n k : Nat) (mi : Int32) (fo : Nat → Option Nat) (le fi du : Nat → Nat), k + n = N.st - N.tr → PF N.w fi → (∀ v, v < N.w → le v < 1000) → (∀ k j, fo k = some j → j < 2 ^ 31) → ∃ σ', (Fr σ σ' 22 9 ∧ HR σ' 22) ∧ WP 3 0 0 64 40 [.ref 1, .int (nI b), .int (nI (k + 1))] [] (put σ 22 (22 + 1) (tF 22 (mkT N.st N.me (N.tr + k) N.w (mi) (N.de) N.ki N.sr (le) (fi) (fo) N.to)) (tA (mkT N.st N.me (N.tr + k) N.w (mi) (N.de) N.ki N.sr (le) (fi) (fo) N.to) (du))) (some (.int (nI (faN N.w N.ki N.de N.tr b n k fi le)))) σ' := by
        intro n
        induction n with
        | zero =>
          intro k mi fo le fi du hk hpf hl hfo
          by_cases k6 : k = 6
          · refine ⟨(put σ 22 (22 + 1) (tF 22 (mkT N.st N.me (N.tr + k) N.w (mi) (N.de) N.ki N.sr (le) (fi) (fo) N.to)) (tA (mkT N.st N.me (N.tr + k) N.w (mi) (N.de) N.ki N.sr (le) (fi) (fo) N.to) (du))), ⟨Fr_T9, HR_T⟩, ?_⟩
            refine wp_iload_2 d64_40 ?_
            refine wp_bipush d64_41 bi_6 ?_
            refine wp_icmp_gtN d64_43 (by decide) (by omega) (by omega) (fun h43 => ?_) (fun hq => absurd hq (by omega))
            exact fin k (k + 1) mi fo le fi du
          · obtain ⟨du', K⟩ := t_treadNext (σ := σ) (t := 22) (trN := N.tr + k) (stN := N.st) (w := N.w) (ki := N.ki) (fi := fi) (le := le) (de := N.de) (fo := fo) (me := nI N.me) (mi := mi) (asr := arr 5 N.sr) (ato := arO 5 N.to) (du := du) h.k.T (by omega) g.s6 hpf g.w5 g.ki hl (fun k hk => by have := g.de k hk; omega) (fun k _ j hj => hfo k j hj)
            have hok : okT N.w N.st (N.tr + k) N.ki fi le N.de = false := by simp [okT]; omega
            rw [hok] at K
            simp only [if_false, Bool.false_eq_true] at K
            refine ⟨(put σ 22 (22 + 1) (tF 22 (mkT N.st N.me (N.tr + k) N.w (mi) (N.de) N.ki N.sr (le) (fi) (fo) N.to)) (tA (mkT N.st N.me (N.tr + k) N.w (mi) (N.de) N.ki N.sr (le) (fi) (fo) N.to) (du'))), ⟨Fr_T9, HR_T⟩, ?_⟩
            refine wp_iload_2 d64_40 ?_
            refine wp_bipush d64_41 bi_6 ?_
            refine wp_icmp_gtN d64_43 (by decide) (by omega) (by omega) (fun hq => absurd hq (by omega)) (fun h43 => ?_)
            refine wp_aload_0 d64_46 ?_
            refine wp_get d64_47 (Nat.le_of_ble_eq_true rfl) h.k.X gX rfl ?_
            refine wp_V0r d64_50 h.k.T.1 (K) (Nat.le_of_ble_eq_true rfl) (Nat.le_of_ble_eq_true rfl) ?_
            refine wp_if_eqB d64_53 (by decide) (fun h53 => ?_) (fun hq => absurd hq (by decide))
            exact fin k (k + 1) mi fo le fi du'
        | succ n ih =>
          intro k mi fo le fi du hk hpf hl hfo
          obtain ⟨du', K⟩ := t_treadNext (σ := σ) (t := 22) (trN := N.tr + k) (stN := N.st) (w := N.w) (ki := N.ki) (fi := fi) (le := le) (de := N.de) (fo := fo) (me := nI N.me) (mi := mi) (asr := arr 5 N.sr) (ato := arO 5 N.to) (du := du) h.k.T (by omega) g.s6 hpf g.w5 g.ki hl (fun k hk => by have := g.de k hk; omega) (fun k _ j hj => hfo k j hj)
          cases hc : canN N.ki fi le (N.de (N.tr + k)) N.w with
          | false =>
            have hok : okT N.w N.st (N.tr + k) N.ki fi le N.de = false := by simp [okT, hc]
            rw [hok] at K
            simp only [if_false, Bool.false_eq_true] at K
            rw [show faN N.w N.ki N.de N.tr b (n + 1) k fi le = k by simp [faN, hc]]
            refine ⟨(put σ 22 (22 + 1) (tF 22 (mkT N.st N.me (N.tr + k) N.w (mi) (N.de) N.ki N.sr (le) (fi) (fo) N.to)) (tA (mkT N.st N.me (N.tr + k) N.w (mi) (N.de) N.ki N.sr (le) (fi) (fo) N.to) (du'))), ⟨Fr_T9, HR_T⟩, ?_⟩
            refine wp_iload_2 d64_40 ?_
            refine wp_bipush d64_41 bi_6 ?_
            refine wp_icmp_gtN d64_43 (by decide) (by omega) (by omega) (fun hq => absurd hq (by omega)) (fun h43 => ?_)
            refine wp_aload_0 d64_46 ?_
            refine wp_get d64_47 (Nat.le_of_ble_eq_true rfl) h.k.X gX rfl ?_
            refine wp_V0r d64_50 h.k.T.1 (K) (Nat.le_of_ble_eq_true rfl) (Nat.le_of_ble_eq_true rfl) ?_
            refine wp_if_eqB d64_53 (by decide) (fun h53 => ?_) (fun hq => absurd hq (by decide))
            exact fin k (k + 1) mi fo le fi du'
          | true =>
            have hok : okT N.w N.st (N.tr + k) N.ki fi le N.de = true := by simp [okT, hc, ew]; omega
            rw [hok] at K
            simp only [if_true] at K
            have hfo' : ∀ i j, up fo (N.tr + k) (some (fi 0)) i = some j → j < 2 ^ 31 := fun i j hj => by
              unfold up at hj
              split at hj
              · cases hj; have := hpf.1 0 (by omega); omega
              · exact hfo i j hj
            have hl' : ∀ v, v < N.w → trS N.ki fi (N.de (N.tr + k)) le N.w v < 1000 := fun v hv => Nat.lt_of_le_of_lt trS_le (hl v hv)
            have hmlt : (k + 1) % b < 2 ^ 31 := Nat.lt_of_le_of_lt (Nat.mod_le _ _) (by omega)
            by_cases hm : (k + 1) % b = 0
            · rw [show faN N.w N.ki N.de N.tr b (n + 1) k fi le = faN N.w N.ki N.de N.tr b n (k + 1) (rot N.w fi) (trS N.ki fi (N.de (N.tr + k)) le N.w) by simp [faN, hc, hm]]
              have hch := t_changeFirst (σ := σ) (t := 22) (st := nI N.st) (me := nI N.me) (tr := nI (N.tr + k + 1)) (mi := miT N.ki fi (N.tr + k) N.de fo mi) (ade := arr 6 N.de) (afo := arO 6 (up fo (N.tr + k) (some (fi 0)))) (aki := arr 5 N.ki) (asr := arr 5 N.sr) (ale := arr 5 (trS N.ki fi (N.de (N.tr + k)) le N.w)) (ato := arO 5 N.to) (adu := arr 5 du') (fi := fi) (w := N.w) h.k.T g.w5
              rw [if_neg ew, if_neg ew] at hch
              obtain ⟨σ', hσ, K2⟩ := ih (k + 1) (miT N.ki fi (N.tr + k) N.de fo mi + nI 1) (up fo (N.tr + k) (some (fi 0))) (trS N.ki fi (N.de (N.tr + k)) le N.w) (rot N.w fi) du' (by omega) (PF_rot hpf) hl' hfo'
              refine ⟨σ', hσ, ?_⟩
              refine wp_iload_2 d64_40 ?_
              refine wp_bipush d64_41 bi_6 ?_
              refine wp_icmp_gtN d64_43 (by decide) (by omega) (by omega) (fun hq => absurd hq (by omega)) (fun h43 => ?_)
              refine wp_aload_0 d64_46 ?_
              refine wp_get d64_47 (Nat.le_of_ble_eq_true rfl) h.k.X gX rfl ?_
              refine wp_V0r d64_50 h.k.T.1 (K) (Nat.le_of_ble_eq_true rfl) (Nat.le_of_ble_eq_true rfl) ?_
              refine wp_if_eqB d64_53 (by decide) (fun hq => absurd hq (by decide)) (fun h53 => ?_)
              refine wp_iload_2 d64_56 ?_
              refine wp_iload_1 d64_57 ?_
              refine wp_iremN d64_58 (by omega) (by omega) (by omega) ?_
              refine wp_if_neN d64_59 (by decide) (by omega) (fun hq => absurd hq (by omega)) (fun h59 => ?_)
              refine wp_aload_0 d64_62 ?_
              refine wp_get d64_63 (Nat.le_of_ble_eq_true rfl) h.k.X gX rfl ?_
              refine wp_V0v d64_66 h.k.T.1 (hch) (Nat.le_of_ble_eq_true rfl) (Nat.le_of_ble_eq_true rfl) ?_
              refine wp_iinc_2 d64_69 (Nat.le_of_ble_eq_true rfl) rfl (inc1 _) ?_
              refine wp_goto d64_72 (by decide) ?_
              exact K2
            · rw [show faN N.w N.ki N.de N.tr b (n + 1) k fi le = faN N.w N.ki N.de N.tr b n (k + 1) fi (trS N.ki fi (N.de (N.tr + k)) le N.w) by simp [faN, hc, hm]]
              obtain ⟨σ', hσ, K2⟩ := ih (k + 1) (miT N.ki fi (N.tr + k) N.de fo mi) (up fo (N.tr + k) (some (fi 0))) (trS N.ki fi (N.de (N.tr + k)) le N.w) fi du' (by omega) hpf hl' hfo'
              refine ⟨σ', hσ, ?_⟩
              refine wp_iload_2 d64_40 ?_
              refine wp_bipush d64_41 bi_6 ?_
              refine wp_icmp_gtN d64_43 (by decide) (by omega) (by omega) (fun hq => absurd hq (by omega)) (fun h43 => ?_)
              refine wp_aload_0 d64_46 ?_
              refine wp_get d64_47 (Nat.le_of_ble_eq_true rfl) h.k.X gX rfl ?_
              refine wp_V0r d64_50 h.k.T.1 (K) (Nat.le_of_ble_eq_true rfl) (Nat.le_of_ble_eq_true rfl) ?_
              refine wp_if_eqB d64_53 (by decide) (fun hq => absurd hq (by decide)) (fun h53 => ?_)
              refine wp_iload_2 d64_56 ?_
              refine wp_iload_1 d64_57 ?_
              refine wp_iremN d64_58 (by omega) (by omega) (by omega) ?_
              refine wp_if_neN d64_59 (by decide) (by omega) (fun h59 => ?_) (fun hq => absurd hq (by omega))
              refine wp_iinc_2 d64_69 (Nat.le_of_ble_eq_true rfl) rfl (inc1 _) ?_
              refine wp_goto d64_72 (by decide) ?_
              exact K2
      obtain ⟨st0, me0, tr0, wa0, mi0, d0, k0, s0, l0, f0, u0, o0, t0, hT⟩ := h.T
      have cp := Ev_at hT (t_copyFrom (σ := σ) (t := 22) (u := 4) h.k.T h.k.N (by decide) (by decide) hN)
      obtain ⟨σ', ⟨hF, hR⟩, K⟩ := loop (N.st - N.tr) 0 N.mi N.fo N.le N.fi u0 (by omega) g.f (fun v hv => by have := g.le v hv; omega) (fun k j hj => by have := g.fo k j hj; omega)
      refine ⟨σ', ?_, Fr_all hF (by decide) (by decide), CIv_T h hF hR⟩
      rw [ex]
      refine ev_of (L := [(.ref 1), (.int (nI b)), .null]) (by decide) rfl (Nat.le_of_ble_eq_true rfl) ?_
      refine wp_iload_1 d64_0 ?_
      refine wp_iconst d64_1 ic_1 ?_
      refine wp_icmp_ltN d64_2 (by decide) (by omega) (by omega) (fun hq => absurd hq (by omega)) (fun h2 => ?_)
      refine wp_iload_1 d64_5 ?_
      refine wp_bipush d64_6 bi_6 ?_
      refine wp_icmp_leN d64_8 (by decide) (by omega) (by omega) (fun h8 => ?_) (fun hq => absurd hq (by omega))
      refine wp_aload_0 d64_14 ?_
      refine wp_get d64_15 (Nat.le_of_ble_eq_true rfl) h.k.X h.X.1 rfl ?_
      refine wp_get d64_18 (Nat.le_of_ble_eq_true rfl) h.k.N.1 hN.1 rfl ?_
      refine wp_if_neN d64_21 (by decide) (by omega) (fun h21 => ?_) (fun hq => absurd hq (by omega))
      refine wp_aload_0 d64_27 ?_
      refine wp_get d64_28 (Nat.le_of_ble_eq_true rfl) h.k.X h.X.1 rfl ?_
      refine wp_aload_0 d64_31 ?_
      refine wp_get d64_32 (Nat.le_of_ble_eq_true rfl) h.k.X h.X.1 rfl ?_
      refine wp_V1v d64_35 h.k.T.1 (cp) (Nat.le_of_ble_eq_true rfl) (Nat.le_of_ble_eq_true rfl) ?_
      refine wp_iconst d64_38 ic_1 ?_
      refine wp_istore_2 d64_39 (Nat.le_of_ble_eq_true rfl) rfl ?_
      exact K
  · have hx := mt inB_t.mpr e
    rw [if_neg e]
    refine ⟨σ, ?_, Fr_refl, h⟩
    refine ev_of (L := [(.ref 1), (.int x), .null]) (by decide) rfl (Nat.le_of_ble_eq_true rfl) ?_
    refine wp_iload_1 d64_0 ?_
    refine wp_iconst d64_1 ic_1 ?_
    refine wp_icmp_lt d64_2 (by decide) (fun h2 => ?_) (fun h2 => ?_)
    · refine wp_bipush d64_11 bi_m102 ?_
      exact wp_iret d64_13 rfl rfl rfl
    · have := mt (lt_nI (x := x) (a := 1) (by decide)).mpr h2
      refine wp_iload_1 d64_5 ?_
      refine wp_bipush d64_6 bi_6 ?_
      refine wp_icmp_le d64_8 (by decide) (fun hq => absurd ((le_nI (x := x) (a := 6) (by decide)).mp hq) (by omega)) (fun _ => ?_)
      refine wp_bipush d64_11 bi_m102 ?_
      exact wp_iret d64_13 rfl rfl rfl
theorem c_nextSeed {s : Nat} (hs : s < 2147483648) : Ev 0 0 0 77 [.int (nI s)] σ (some (.int (nI (nxS s)))) σ := by
  refine ev_of (L := [(.int (nI s))]) (by decide) rfl (Nat.le_of_ble_eq_true rfl) ?_
  refine wp_ldc2 d77_0 (by decide) rfl lk_1103515245 ?_
  refine wp_iload_0 d77_3 ?_
  refine wp_i2l d77_4 ?_
  rw [nI_l (by omega)]
  refine wp_lmul d77_5 ?_
  refine wp_ldc2 d77_6 (by decide) rfl lk_12345 ?_
  refine wp_ladd d77_9 ?_
  refine wp_ldc2 d77_10 (by decide) rfl lk_2147483648 ?_
  rw [lN_mul, lN_add]
  refine wp_lrem d77_13 (by decide) ?_
  rw [pk_lRem (by omega) (by decide) (by decide)]
  refine wp_l2i d77_14 ?_
  rw [lN_i, show (1103515245 * s + 12345) % 2147483648 = nxS s from rfl]
  exact wp_iret d77_15 rfl rfl rfl

end S35_tb6
