section S37_tb8
variable {σ : Sto} {pm : Nat} {pg : Nat → Nat} {N K : Trl} {img : Bool} {sl bd fd : Nat}

theorem c_digest (h : CIv σ pm pg N K img sl bd fd) (g : Gd N) (hpm : pm ≤ 10) : ∃ σ', Ev 17 0 0 73 [.ref 1] σ (some (.long (r_digest N.st N.me N.w N.tr N.mi N.ki N.sr N.le N.fi N.de N.to N.fo pg pm sl bd fd))) σ' ∧ Fr σ σ' 1 76 ∧ CIv σ' pm pg N K img sl bd fd := by
  have hw5 := g.w5
  have hs6 := g.s6
  have H5 : ∀ (H : Int64), sayF (fun q => r_count N.st N.me N.w N.tr N.mi N.le N.to pm sl bd fd (nI q)) 11 H = (r_digest N.st N.me N.w N.tr N.mi N.ki N.sr N.le N.fi N.de N.to N.fo pg pm sl bd fd) → ∀ (n k : Nat) (u4 : Value), k + n = 11 → (∀ σ0 : Sto, CIv σ0 pm pg N K img sl bd fd → Fr σ σ0 1 76 → ∃ σ', WP 17 0 0 73 190 [.ref 1, .long (sayF (fun q => r_count N.st N.me N.w N.tr N.mi N.le N.to pm sl bd fd (nI q)) k H), .null, .int (nI k), u4] [] σ0 (some (.long (r_digest N.st N.me N.w N.tr N.mi N.ki N.sr N.le N.fi N.de N.to N.fo pg pm sl bd fd))) σ' ∧ Fr σ σ' 1 76 ∧ CIv σ' pm pg N K img sl bd fd) := by
    intro H hH n
    induction n with
    | zero =>
      intro k u4 hk σ0 c0 f0
      refine ⟨σ0, ?_, f0, c0⟩
      rw [show k = 11 by omega, hH]
      refine wp_iload_3 d73_190 ?_
      refine wp_bipush d73_191 bi_10 ?_
      refine wp_icmp_gtN d73_193 (by decide) (by omega) (by omega) (fun h193 => ?_) (fun hq => absurd hq (by omega))
      refine wp_lload_1 d73_215 ?_
      exact wp_lret d73_216 rfl rfl rfl
    | succ n ih =>
      intro k u4 hk σ0 c0 f0
      obtain ⟨σ1, K1, f1, c1⟩ := c_count c0 g (nI k)
      obtain ⟨σ', K2, f2, c2⟩ := ih (k + 1) u4 (by omega) σ1 c1 (Fr_trans f0 f1)
      refine ⟨σ', ?_, f2, c2⟩
      refine wp_iload_3 d73_190 ?_
      refine wp_bipush d73_191 bi_10 ?_
      refine wp_icmp_gtN d73_193 (by decide) (by omega) (by omega) (fun hq => absurd hq (by omega)) (fun h193 => ?_)
      refine wp_ldc2 d73_196 (by decide) rfl lk_31 ?_
      refine wp_lload_1 d73_199 ?_
      refine wp_lmul d73_200 ?_
      refine wp_aload_0 d73_201 ?_
      refine wp_iload_3 d73_202 ?_
      refine wp_V1r d73_203 c0.k.X (K1) (Nat.le_of_ble_eq_true rfl) (Nat.le_of_ble_eq_true rfl) ?_
      refine wp_i2l d73_206 ?_
      refine wp_ladd d73_207 ?_
      refine wp_lstore_1 d73_208 (Nat.le_of_ble_eq_true rfl) rfl ?_
      refine wp_iinc_3 d73_209 (Nat.le_of_ble_eq_true rfl) rfl (inc1 _) ?_
      refine wp_goto d73_212 (by decide) ?_
      exact K2
  have H4 : ∀ (H : Int64), sayF (fun q => r_count N.st N.me N.w N.tr N.mi N.le N.to pm sl bd fd (nI q)) 11 (sayF (fun k => nI (pg k)) pm H) = (r_digest N.st N.me N.w N.tr N.mi N.ki N.sr N.le N.fi N.de N.to N.fo pg pm sl bd fd) → ∀ (n k : Nat) (u4 : Value), k + n = pm → (∀ σ0 : Sto, CIv σ0 pm pg N K img sl bd fd → Fr σ σ0 1 76 → ∃ σ', WP 17 0 0 73 154 [.ref 1, .long (sayF (fun k => nI (pg k)) k H), .null, .int (nI k), u4] [] σ0 (some (.long (r_digest N.st N.me N.w N.tr N.mi N.ki N.sr N.le N.fi N.de N.to N.fo pg pm sl bd fd))) σ' ∧ Fr σ σ' 1 76 ∧ CIv σ' pm pg N K img sl bd fd) := by
    intro H hH n
    induction n with
    | zero =>
      intro k u4 hk σ0 c0 f0
      have ek : k = pm := by omega
      subst ek
      obtain ⟨σ', K2, f2, c2⟩ := H5 (sayF (fun k => nI (pg k)) k H) hH 11 0 u4 (by omega) σ0 c0 f0
      refine ⟨σ', ?_, f2, c2⟩
      refine wp_iload_3 d73_154 ?_
      refine wp_aload_0 d73_155 ?_
      refine wp_get d73_156 (Nat.le_of_ble_eq_true rfl) c0.k.X c0.X.1 rfl ?_
      refine wp_get d73_159 (Nat.le_of_ble_eq_true rfl) c0.k.P.1 c0.P.1 rfl ?_
      refine wp_icmp_geN d73_162 (by decide) (by omega) (by omega) (fun h162 => ?_) (fun hq => absurd hq (by omega))
      refine wp_iconst d73_188 ic_0 ?_
      refine wp_istore_3 d73_189 (Nat.le_of_ble_eq_true rfl) rfl ?_
      exact K2
    | succ n ih =>
      intro k u4 hk σ0 c0 f0
      obtain ⟨σ', K2, f2, c2⟩ := ih (k + 1) u4 (by omega) σ0 c0 f0
      refine ⟨σ', ?_, f2, c2⟩
      refine wp_iload_3 d73_154 ?_
      refine wp_aload_0 d73_155 ?_
      refine wp_get d73_156 (Nat.le_of_ble_eq_true rfl) c0.k.X c0.X.1 rfl ?_
      refine wp_get d73_159 (Nat.le_of_ble_eq_true rfl) c0.k.P.1 c0.P.1 rfl ?_
      refine wp_icmp_geN d73_162 (by decide) (by omega) (by omega) (fun hq => absurd hq (by omega)) (fun h162 => ?_)
      refine wp_ldc2 d73_165 (by decide) rfl lk_31 ?_
      refine wp_lload_1 d73_168 ?_
      refine wp_lmul d73_169 ?_
      refine wp_aload_0 d73_170 ?_
      refine wp_get d73_171 (Nat.le_of_ble_eq_true rfl) c0.k.X c0.X.1 rfl ?_
      refine wp_get d73_174 (Nat.le_of_ble_eq_true rfl) c0.k.P.1 c0.P.1 rfl ?_
      refine wp_iload_3 d73_177 ?_
      refine wp_aldG d73_178 (c0.k.P.2 0 (by decide)) (c0.P.2 0 _ rfl) (by omega) (by decide) ?_
      refine wp_i2l d73_179 ?_
      refine wp_ladd d73_180 ?_
      refine wp_lstore_1 d73_181 (Nat.le_of_ble_eq_true rfl) rfl ?_
      refine wp_iinc_3 d73_182 (Nat.le_of_ble_eq_true rfl) rfl (inc1 _) ?_
      refine wp_goto d73_185 (by decide) ?_
      exact K2
  have H3 : ∀ (H : Int64) (k3 : Int32) (u4 : Value), (if N.w = 0 then H else sayN (sayN (sayN (sayN H (nI (faN N.w N.ki N.de N.tr 1 (N.st - N.tr) 0 N.fi N.le))) (nI (faN N.w N.ki N.de N.tr 2 (N.st - N.tr) 0 N.fi N.le))) (nI (faN N.w N.ki N.de N.tr 3 (N.st - N.tr) 0 N.fi N.le))) (eo (p2 (setG N.w N.ki N.sr N.de N.st (N.w ^ N.w))))) = (if N.w = 0 then sayG (fun v q => r_tells N.st N.tr N.ki N.sr N.le N.fi N.de N.to N.fo N.w v (nI q)) N.w (sayD N.de N.fo N.st (lN 787)) else sayN (sayN (sayN (sayN (sayG (fun v q => r_tells N.st N.tr N.ki N.sr N.le N.fi N.de N.to N.fo N.w v (nI q)) N.w (sayD N.de N.fo N.st (lN 787))) (nI (faN N.w N.ki N.de N.tr 1 (N.st - N.tr) 0 N.fi N.le))) (nI (faN N.w N.ki N.de N.tr 2 (N.st - N.tr) 0 N.fi N.le))) (nI (faN N.w N.ki N.de N.tr 3 (N.st - N.tr) 0 N.fi N.le))) (eo (p2 (setG N.w N.ki N.sr N.de N.st (N.w ^ N.w))))) → (∀ σ0 : Sto, CIv σ0 pm pg N K img sl bd fd → Fr σ σ0 1 76 → ∃ σ', WP 17 0 0 73 103 [.ref 1, .long H, .null, .int k3, u4] [] σ0 (some (.long (r_digest N.st N.me N.w N.tr N.mi N.ki N.sr N.le N.fi N.de N.to N.fo pg pm sl bd fd))) σ' ∧ Fr σ σ' 1 76 ∧ CIv σ' pm pg N K img sl bd fd) := by
    intro H k3 u4 hH σ0 c0 f0
    obtain ⟨du, hN⟩ := c0.N
    have hfin : ∀ H', H' = (if N.w = 0 then sayG (fun v q => r_tells N.st N.tr N.ki N.sr N.le N.fi N.de N.to N.fo N.w v (nI q)) N.w (sayD N.de N.fo N.st (lN 787)) else sayN (sayN (sayN (sayN (sayG (fun v q => r_tells N.st N.tr N.ki N.sr N.le N.fi N.de N.to N.fo N.w v (nI q)) N.w (sayD N.de N.fo N.st (lN 787))) (nI (faN N.w N.ki N.de N.tr 1 (N.st - N.tr) 0 N.fi N.le))) (nI (faN N.w N.ki N.de N.tr 2 (N.st - N.tr) 0 N.fi N.le))) (nI (faN N.w N.ki N.de N.tr 3 (N.st - N.tr) 0 N.fi N.le))) (eo (p2 (setG N.w N.ki N.sr N.de N.st (N.w ^ N.w))))) → sayF (fun q => r_count N.st N.me N.w N.tr N.mi N.le N.to pm sl bd fd (nI q)) 11 (sayF (fun k => nI (pg k)) pm H') = (r_digest N.st N.me N.w N.tr N.mi N.ki N.sr N.le N.fi N.de N.to N.fo pg pm sl bd fd) := fun H' e => by rw [e]; rfl
    by_cases ew : N.w = 0
    · rw [if_pos ew] at hH
      obtain ⟨σ', K2, f2, c2⟩ := H4 H (hfin H hH) pm 0 u4 (by omega) σ0 c0 f0
      refine ⟨σ', ?_, f2, c2⟩
      refine wp_aload_0 d73_103 ?_
      refine wp_get d73_104 (Nat.le_of_ble_eq_true rfl) c0.k.X c0.X.1 rfl ?_
      refine wp_get d73_107 (Nat.le_of_ble_eq_true rfl) c0.k.N.1 hN.1 rfl ?_
      refine wp_if_leN d73_110 (by decide) (by omega) (fun h110 => ?_) (fun hq => absurd hq (by omega))
      refine wp_iconst d73_152 ic_0 ?_
      refine wp_istore_3 d73_153 (Nat.le_of_ble_eq_true rfl) rfl ?_
      exact K2
    · rw [if_neg ew] at hH
      obtain ⟨σ1, K1, f1, c1⟩ := c_far c0 g (nI 1)
      obtain ⟨σ2, K2, f2, c2⟩ := c_far c1 g (nI 2)
      obtain ⟨σ3, K3, f3, c3⟩ := c_far c2 g (nI 3)
      obtain ⟨σ4, K4, f4, c4⟩ := c_setOut c3 g (nI 0)
      rw [if_pos (by decide), if_neg ew, show (nI 1).toInt.toNat = 1 from rfl] at K1
      rw [if_pos (by decide), if_neg ew, show (nI 2).toInt.toNat = 2 from rfl] at K2
      rw [if_pos (by decide), if_neg ew, show (nI 3).toInt.toNat = 3 from rfl] at K3
      rw [if_pos (by decide), if_neg ew, r_setOut_eq (nI 0) (by decide), if_pos (by decide)] at K4
      obtain ⟨σ', K5, f5, c5⟩ := H4 _ (hfin _ hH) pm 0 u4 (by omega) σ4 c4 (Fr_trans (Fr_trans (Fr_trans (Fr_trans f0 f1) f2) f3) f4)
      refine ⟨σ', ?_, f5, c5⟩
      refine wp_aload_0 d73_103 ?_
      refine wp_get d73_104 (Nat.le_of_ble_eq_true rfl) c0.k.X c0.X.1 rfl ?_
      refine wp_get d73_107 (Nat.le_of_ble_eq_true rfl) c0.k.N.1 hN.1 rfl ?_
      refine wp_if_leN d73_110 (by decide) (by omega) (fun hq => absurd hq (by omega)) (fun h110 => ?_)
      refine wp_iconst d73_113 ic_1 ?_
      refine wp_istore_3 d73_114 (Nat.le_of_ble_eq_true rfl) rfl ?_
      refine wp_iload_3 d73_115 ?_
      refine wp_iconst d73_116 ic_3 ?_
      refine wp_icmp_gtN d73_117 (by decide) (by omega) (by omega) (fun hq => absurd hq (by omega)) (fun h117 => ?_)
      refine wp_ldc2 d73_120 (by decide) rfl lk_31 ?_
      refine wp_lload_1 d73_123 ?_
      refine wp_lmul d73_124 ?_
      refine wp_aload_0 d73_125 ?_
      refine wp_iload_3 d73_126 ?_
      refine wp_V1r d73_127 c0.k.X (K1) (Nat.le_of_ble_eq_true rfl) (Nat.le_of_ble_eq_true rfl) ?_
      refine wp_i2l d73_130 ?_
      refine wp_ladd d73_131 ?_
      refine wp_lstore_1 d73_132 (Nat.le_of_ble_eq_true rfl) rfl ?_
      refine wp_iinc_3 d73_133 (Nat.le_of_ble_eq_true rfl) rfl (inc1 _) ?_
      refine wp_goto d73_136 (by decide) ?_
      refine wp_iload_3 d73_115 ?_
      refine wp_iconst d73_116 ic_3 ?_
      refine wp_icmp_gtN d73_117 (by decide) (by omega) (by omega) (fun hq => absurd hq (by omega)) (fun h117 => ?_)
      refine wp_ldc2 d73_120 (by decide) rfl lk_31 ?_
      refine wp_lload_1 d73_123 ?_
      refine wp_lmul d73_124 ?_
      refine wp_aload_0 d73_125 ?_
      refine wp_iload_3 d73_126 ?_
      refine wp_V1r d73_127 c1.k.X (K2) (Nat.le_of_ble_eq_true rfl) (Nat.le_of_ble_eq_true rfl) ?_
      refine wp_i2l d73_130 ?_
      refine wp_ladd d73_131 ?_
      refine wp_lstore_1 d73_132 (Nat.le_of_ble_eq_true rfl) rfl ?_
      refine wp_iinc_3 d73_133 (Nat.le_of_ble_eq_true rfl) rfl (inc1 _) ?_
      refine wp_goto d73_136 (by decide) ?_
      refine wp_iload_3 d73_115 ?_
      refine wp_iconst d73_116 ic_3 ?_
      refine wp_icmp_gtN d73_117 (by decide) (by omega) (by omega) (fun hq => absurd hq (by omega)) (fun h117 => ?_)
      refine wp_ldc2 d73_120 (by decide) rfl lk_31 ?_
      refine wp_lload_1 d73_123 ?_
      refine wp_lmul d73_124 ?_
      refine wp_aload_0 d73_125 ?_
      refine wp_iload_3 d73_126 ?_
      refine wp_V1r d73_127 c2.k.X (K3) (Nat.le_of_ble_eq_true rfl) (Nat.le_of_ble_eq_true rfl) ?_
      refine wp_i2l d73_130 ?_
      refine wp_ladd d73_131 ?_
      refine wp_lstore_1 d73_132 (Nat.le_of_ble_eq_true rfl) rfl ?_
      refine wp_iinc_3 d73_133 (Nat.le_of_ble_eq_true rfl) rfl (inc1 _) ?_
      refine wp_goto d73_136 (by decide) ?_
      refine wp_iload_3 d73_115 ?_
      refine wp_iconst d73_116 ic_3 ?_
      refine wp_icmp_gtN d73_117 (by decide) (by omega) (by omega) (fun h117 => ?_) (fun hq => absurd hq (by omega))
      refine wp_ldc2 d73_139 (by decide) rfl lk_31 ?_
      refine wp_lload_1 d73_142 ?_
      refine wp_lmul d73_143 ?_
      refine wp_aload_0 d73_144 ?_
      refine wp_iconst d73_145 ic_0 ?_
      refine wp_V1r d73_146 c3.k.X (K4) (Nat.le_of_ble_eq_true rfl) (Nat.le_of_ble_eq_true rfl) ?_
      refine wp_i2l d73_149 ?_
      refine wp_ladd d73_150 ?_
      refine wp_lstore_1 d73_151 (Nat.le_of_ble_eq_true rfl) rfl ?_
      refine wp_iconst d73_152 ic_0 ?_
      refine wp_istore_3 d73_153 (Nat.le_of_ble_eq_true rfl) rfl ?_
      exact K5
  have H2 : ∀ (n v : Nat) (u4 : Value), v + n = N.w → u4.category = 1 → (∀ σ0 : Sto, CIv σ0 pm pg N K img sl bd fd → Fr σ σ0 1 76 → ∃ σ', WP 17 0 0 73 55 [.ref 1, .long (sayG (fun v q => r_tells N.st N.tr N.ki N.sr N.le N.fi N.de N.to N.fo N.w v (nI q)) v (sayD N.de N.fo N.st (lN 787))), .null, .int (nI v), u4] [] σ0 (some (.long (r_digest N.st N.me N.w N.tr N.mi N.ki N.sr N.le N.fi N.de N.to N.fo pg pm sl bd fd))) σ' ∧ Fr σ σ' 1 76 ∧ CIv σ' pm pg N K img sl bd fd) := by
    intro n
    induction n with
    | zero =>
      intro v u4 hv hu σ0 c0 f0
      have ev : v = N.w := by omega
      subst ev
      obtain ⟨du, hN⟩ := c0.N
      obtain ⟨σ', K2, f2, c2⟩ := H3 _ (nI N.w) u4 rfl σ0 c0 f0
      refine ⟨σ', ?_, f2, c2⟩
      refine wp_iload_3 d73_55 ?_
      refine wp_aload_0 d73_56 ?_
      refine wp_get d73_57 (Nat.le_of_ble_eq_true rfl) c0.k.X c0.X.1 rfl ?_
      refine wp_get d73_60 (Nat.le_of_ble_eq_true rfl) c0.k.N.1 hN.1 rfl ?_
      refine wp_icmp_geN d73_63 (by decide) (by omega) (by omega) (fun h63 => ?_) (fun hq => absurd hq (by omega))
      exact K2
    | succ n ih =>
      intro v u4 hv hu σ0 c0 f0
      obtain ⟨du, hN⟩ := c0.N
      have inner : ∀ (m q : Nat), q + m = 7 → (∀ σ0 : Sto, CIv σ0 pm pg N K img sl bd fd → Fr σ σ0 1 76 → ∃ σ', WP 17 0 0 73 69 [.ref 1, .long (sayF ((fun v q => r_tells N.st N.tr N.ki N.sr N.le N.fi N.de N.to N.fo N.w v (nI q)) v) q (sayG (fun v q => r_tells N.st N.tr N.ki N.sr N.le N.fi N.de N.to N.fo N.w v (nI q)) v (sayD N.de N.fo N.st (lN 787)))), .null, .int (nI v), .int (nI q)] [] σ0 (some (.long (r_digest N.st N.me N.w N.tr N.mi N.ki N.sr N.le N.fi N.de N.to N.fo pg pm sl bd fd))) σ' ∧ Fr σ σ' 1 76 ∧ CIv σ' pm pg N K img sl bd fd) := by
        intro m
        induction m with
        | zero =>
          intro q hq σ0 c0 f0
          obtain ⟨σ', K2, f2, c2⟩ := ih (v + 1) (.int (nI q)) (by omega) rfl σ0 c0 f0
          refine ⟨σ', ?_, f2, c2⟩
          have e7 : q = 7 := by omega
          subst e7
          refine wp_iload_4 d73_69 ?_
          refine wp_bipush d73_71 bi_6 ?_
          refine wp_icmp_gtN d73_73 (by decide) (by omega) (by omega) (fun h73 => ?_) (fun hq => absurd hq (by omega))
          refine wp_iinc_3 d73_97 (Nat.le_of_ble_eq_true rfl) rfl (inc1 _) ?_
          refine wp_goto d73_100 (by decide) ?_
          exact K2
        | succ m ih2 =>
          intro q hq σ0 c0 f0
          obtain ⟨σ1, K1, f1, c1⟩ := c_about c0 g (nI v) (nI q)
          rw [if_pos (inB_t.mpr (by rw [nI_toInt (by omega)]; omega)), show (nI v).toInt.toNat = v by rw [nI_toInt (by omega)]; rfl] at K1
          obtain ⟨σ', K2, f2, c2⟩ := ih2 (q + 1) (by omega) σ1 c1 (Fr_trans f0 f1)
          refine ⟨σ', ?_, f2, c2⟩
          refine wp_iload_4 d73_69 ?_
          refine wp_bipush d73_71 bi_6 ?_
          refine wp_icmp_gtN d73_73 (by decide) (by omega) (by omega) (fun hq => absurd hq (by omega)) (fun h73 => ?_)
          refine wp_ldc2 d73_76 (by decide) rfl lk_31 ?_
          refine wp_lload_1 d73_79 ?_
          refine wp_lmul d73_80 ?_
          refine wp_aload_0 d73_81 ?_
          refine wp_iload_3 d73_82 ?_
          refine wp_iload_4 d73_83 ?_
          refine wp_V2r d73_85 c0.k.X (K1) (Nat.le_of_ble_eq_true rfl) (Nat.le_of_ble_eq_true rfl) ?_
          refine wp_i2l d73_88 ?_
          refine wp_ladd d73_89 ?_
          refine wp_lstore_1 d73_90 (Nat.le_of_ble_eq_true rfl) rfl ?_
          refine wp_iinc_4 d73_91 (Nat.le_of_ble_eq_true rfl) rfl (inc1 _) ?_
          refine wp_goto d73_94 (by decide) ?_
          exact K2
      obtain ⟨σ', K2, f2, c2⟩ := inner 7 0 (by omega) σ0 c0 f0
      refine ⟨σ', ?_, f2, c2⟩
      refine wp_iload_3 d73_55 ?_
      refine wp_aload_0 d73_56 ?_
      refine wp_get d73_57 (Nat.le_of_ble_eq_true rfl) c0.k.X c0.X.1 rfl ?_
      refine wp_get d73_60 (Nat.le_of_ble_eq_true rfl) c0.k.N.1 hN.1 rfl ?_
      refine wp_icmp_geN d73_63 (by decide) (by omega) (by omega) (fun hq => absurd hq (by omega)) (fun h63 => ?_)
      refine wp_iconst d73_66 ic_0 ?_
      refine wp_istore_4 d73_67 (Nat.le_of_ble_eq_true rfl) rfl ?_
      exact K2
  have H1 : ∀ (n k : Nat) (u4 : Value), k + n = N.st → u4.category = 1 → (∀ σ0 : Sto, CIv σ0 pm pg N K img sl bd fd → Fr σ σ0 1 76 → ∃ σ', WP 17 0 0 73 6 [.ref 1, .long (sayD N.de N.fo k (lN 787)), .null, .int (nI k), u4] [] σ0 (some (.long (r_digest N.st N.me N.w N.tr N.mi N.ki N.sr N.le N.fi N.de N.to N.fo pg pm sl bd fd))) σ' ∧ Fr σ σ' 1 76 ∧ CIv σ' pm pg N K img sl bd fd) := by
    intro n
    induction n with
    | zero =>
      intro k u4 hk hu σ0 c0 f0
      have ev : k = N.st := by omega
      subst ev
      obtain ⟨du, hN⟩ := c0.N
      obtain ⟨σ', K2, f2, c2⟩ := H2 N.w 0 u4 (by omega) hu σ0 c0 f0
      refine ⟨σ', ?_, f2, c2⟩
      refine wp_iload_3 d73_6 ?_
      refine wp_aload_0 d73_7 ?_
      refine wp_get d73_8 (Nat.le_of_ble_eq_true rfl) c0.k.X c0.X.1 rfl ?_
      refine wp_get d73_11 (Nat.le_of_ble_eq_true rfl) c0.k.N.1 hN.1 rfl ?_
      refine wp_icmp_geN d73_14 (by decide) (by omega) (by omega) (fun h14 => ?_) (fun hq => absurd hq (by omega))
      refine wp_iconst d73_53 ic_0 ?_
      refine wp_istore_3 d73_54 (Nat.le_of_ble_eq_true rfl) rfl ?_
      exact K2
    | succ n ih =>
      intro k u4 hk hu σ0 c0 f0
      obtain ⟨du, hN⟩ := c0.N
      obtain ⟨σ1, K1, f1, c1⟩ := c_stretch c0 g (nI k) (nI 0)
      obtain ⟨σ2, K2, f2, c2⟩ := c_stretch c1 g (nI k) (nI 1)
      rw [if_pos (inB_t.mpr (by rw [nI_toInt (by omega)]; omega)), show (nI k).toInt.toNat = k by rw [nI_toInt (by omega)]; rfl, show r_stretch N.de N.fo k (nI 0) = nI (N.de k) from rfl] at K1
      rw [if_pos (inB_t.mpr (by rw [nI_toInt (by omega)]; omega)), show (nI k).toInt.toNat = k by rw [nI_toInt (by omega)]; rfl, show r_stretch N.de N.fo k (nI 1) = eo (N.fo k) from rfl] at K2
      obtain ⟨σ', K3, f3, c3⟩ := ih (k + 1) (.int (nI 2)) (by omega) rfl σ2 c2 (Fr_trans (Fr_trans f0 f1) f2)
      refine ⟨σ', ?_, f3, c3⟩
      refine wp_iload_3 d73_6 ?_
      refine wp_aload_0 d73_7 ?_
      refine wp_get d73_8 (Nat.le_of_ble_eq_true rfl) c0.k.X c0.X.1 rfl ?_
      refine wp_get d73_11 (Nat.le_of_ble_eq_true rfl) c0.k.N.1 hN.1 rfl ?_
      refine wp_icmp_geN d73_14 (by decide) (by omega) (by omega) (fun hq => absurd hq (by omega)) (fun h14 => ?_)
      refine wp_iconst d73_17 ic_0 ?_
      refine wp_istore_4 d73_18 (Nat.le_of_ble_eq_true rfl) rfl ?_
      refine wp_iload_4 d73_20 ?_
      refine wp_iconst d73_22 ic_1 ?_
      refine wp_icmp_gtN d73_23 (by decide) (by omega) (by omega) (fun hq => absurd hq (by omega)) (fun h23 => ?_)
      refine wp_ldc2 d73_26 (by decide) rfl lk_31 ?_
      refine wp_lload_1 d73_29 ?_
      refine wp_lmul d73_30 ?_
      refine wp_aload_0 d73_31 ?_
      refine wp_iload_3 d73_32 ?_
      refine wp_iload_4 d73_33 ?_
      refine wp_V2r d73_35 c0.k.X (K1) (Nat.le_of_ble_eq_true rfl) (Nat.le_of_ble_eq_true rfl) ?_
      refine wp_i2l d73_38 ?_
      refine wp_ladd d73_39 ?_
      refine wp_lstore_1 d73_40 (Nat.le_of_ble_eq_true rfl) rfl ?_
      refine wp_iinc_4 d73_41 (Nat.le_of_ble_eq_true rfl) rfl (inc1 _) ?_
      refine wp_goto d73_44 (by decide) ?_
      refine wp_iload_4 d73_20 ?_
      refine wp_iconst d73_22 ic_1 ?_
      refine wp_icmp_gtN d73_23 (by decide) (by omega) (by omega) (fun hq => absurd hq (by omega)) (fun h23 => ?_)
      refine wp_ldc2 d73_26 (by decide) rfl lk_31 ?_
      refine wp_lload_1 d73_29 ?_
      refine wp_lmul d73_30 ?_
      refine wp_aload_0 d73_31 ?_
      refine wp_iload_3 d73_32 ?_
      refine wp_iload_4 d73_33 ?_
      refine wp_V2r d73_35 c1.k.X (K2) (Nat.le_of_ble_eq_true rfl) (Nat.le_of_ble_eq_true rfl) ?_
      refine wp_i2l d73_38 ?_
      refine wp_ladd d73_39 ?_
      refine wp_lstore_1 d73_40 (Nat.le_of_ble_eq_true rfl) rfl ?_
      refine wp_iinc_4 d73_41 (Nat.le_of_ble_eq_true rfl) rfl (inc1 _) ?_
      refine wp_goto d73_44 (by decide) ?_
      refine wp_iload_4 d73_20 ?_
      refine wp_iconst d73_22 ic_1 ?_
      refine wp_icmp_gtN d73_23 (by decide) (by omega) (by omega) (fun h23 => ?_) (fun hq => absurd hq (by omega))
      refine wp_iinc_3 d73_47 (Nat.le_of_ble_eq_true rfl) rfl (inc1 _) ?_
      refine wp_goto d73_50 (by decide) ?_
      exact K3
  obtain ⟨σ', K2, f2, c2⟩ := H1 N.st 0 .null (by omega) rfl σ h Fr_refl
  refine ⟨σ', ?_, f2, c2⟩
  refine ev_of (L := [(.ref 1), .null, .null, .null, .null]) (by decide) rfl (Nat.le_of_ble_eq_true rfl) ?_
  refine wp_ldc2 d73_0 (by decide) rfl lk_787 ?_
  refine wp_lstore_1 d73_3 (Nat.le_of_ble_eq_true rfl) rfl ?_
  refine wp_iconst d73_4 ic_0 ?_
  refine wp_istore_3 d73_5 (Nat.le_of_ble_eq_true rfl) rfl ?_
  exact K2

end S37_tb8
