section S45a

theorem in_all : ∀ c, c < 8 → Cond.instantiable (RR c) (NN c) ∈ lw_tbl := by decide +kernel
theorem l_all {xs : List Int32} (hL : xs.length ≤ 256) {σ : Sto} (hn : σ.1 = [102]) (hx : σ.2.2 0 = xs) : ∃ σ', WP 20 96 974 137 0 [.ref 0, .null, .null, .null] [] σ (some (.int (nI 1))) σ' := by
  obtain ⟨σ1, σ2, E1, E2, hl1, e2, hC, hM⟩ := s_init hn
  obtain ⟨σ', K⟩ := l_loop hL (xs.length + 4) 0 0 σ2 rfl (by omega) (Nat.zero_le _) (Sm_0 hC hM) (e2.trans hx)
  refine ⟨σ', ?_⟩
  refine wp_mk (n := 1) (mc := 20) (ms := 167) (mc' := 75) (ms' := 796) d137_0 (by decide) d137_3 d137_4 (Or.inl rfl) (by rw [hn]; rfl) (by decide) E1 (Nat.le_of_ble_eq_true rfl) (Nat.le_of_ble_eq_true rfl) ?_
  refine wp_astore_1 d137_7 (Nat.le_of_ble_eq_true rfl) rfl ?_
  refine wp_mk (n := 77) (mc := 0) (ms := 0) (mc' := 19) (ms' := 127) d137_8 (by decide) d137_11 d137_12 (Or.inl rfl) hl1 (by decide) E2 (Nat.le_of_ble_eq_true rfl) (Nat.le_of_ble_eq_true rfl) ?_
  refine wp_astore_2 d137_15 (Nat.le_of_ble_eq_true rfl) rfl ?_
  refine wp_iconst d137_16 ic_0 ?_
  refine wp_istore_3 d137_17 (Nat.le_of_ble_eq_true rfl) rfl ?_
  exact K

end S45a
