section S40b
theorem n_Page {σ : Sto} {n : Nat} (hn : σ.1.length = n) : ∃ σ', Ev 1 1 10 11 [.ref n] (newO σ 2) none σ' ∧ Gn σ σ' [2, 100] ∧ Hs σ' n (n + 1) (pgF n (nI 0)) (pgA (arr 10 (fun _ => 0))) := by
  have hl := newO_len (c := 2) hn
  have hk := newO_k (c := 2) hn
  have hF := (newO_F (c := 2) hn).trans dfl_2
  refine ⟨put (ext (newO σ 2) [100]) n (n + 1) (pgF n (nI 0)) (pgA (arr 10 (fun _ => 0))), ?_, Gn_put Gn_newO (by omega) (by omega), Hs_put⟩
  generalize newO σ 2 = σ0 at *
  refine ev_of (L := [.ref n]) (by decide) rfl (Nat.le_of_ble_eq_true rfl) ?_
  refine WP.st (ext_base (q := n + 1) hF) ?_
  refine wp_aload_0 d11_0 ?_
  refine wp_objInit d11_1 (Nat.le_of_ble_eq_true rfl) (Nat.le_of_ble_eq_true rfl) ?_
  refine wp_aload_0 d11_4 ?_
  refine wp_bipush d11_5 bi_10 ?_
  refine wp_newIP (n := 10) (mc := 0) (ms := 0) d11_7 (by decide) (by rw [hl]; rfl) rfl ?_
  refine wp_putRP d11_9 (ext_k hk) ⟨rfl, rfl⟩ ?_
  refine wp_aload_0 d11_12 ?_
  refine wp_iconst d11_13 ic_0 ?_
  refine wp_putIP d11_14 (ext_k hk) ?_
  exact wp_vret d11_17 rfl rfl rfl
theorem n_Trail {σ : Sto} {n : Nat} (hn : σ.1.length = n) : ∃ σ', Ev 1 8 42 23 [.ref n] (newO σ 4) none σ' ∧ Gn σ σ' [4, 100, 100, 100, 100, 100, 100, 100, 100] ∧ Hs σ' n (n + 1) (trF n (nI 0) (nI 0) (nI 0) (nI 0) (nI 0)) (trA (arr 6 (fun _ => 0)) (arO 6 (fun _ => some 0)) (arr 5 (fun _ => 0)) (arr 5 (fun _ => 0)) (arr 5 (fun _ => 0)) (arO 5 (fun _ => some 0)) (arr 5 (fun _ => 0)) (arr 5 (fun _ => 0))) := by
  have hl := newO_len (c := 4) hn
  have hk := newO_k (c := 4) hn
  have hF := (newO_F (c := 4) hn).trans dfl_4
  refine ⟨put (ext (newO σ 4) [100, 100, 100, 100, 100, 100, 100, 100]) n (n + 1) (trF n (nI 0) (nI 0) (nI 0) (nI 0) (nI 0)) (trA (arr 6 (fun _ => 0)) (arO 6 (fun _ => some 0)) (arr 5 (fun _ => 0)) (arr 5 (fun _ => 0)) (arr 5 (fun _ => 0)) (arO 5 (fun _ => some 0)) (arr 5 (fun _ => 0)) (arr 5 (fun _ => 0))), ?_, Gn_put Gn_newO (by omega) (by omega), Hs_put⟩
  generalize newO σ 4 = σ0 at *
  refine ev_of (L := [.ref n]) (by decide) rfl (Nat.le_of_ble_eq_true rfl) ?_
  refine WP.st (ext_base (q := n + 1) hF) ?_
  refine wp_aload_0 d23_0 ?_
  refine wp_objInit d23_1 (Nat.le_of_ble_eq_true rfl) (Nat.le_of_ble_eq_true rfl) ?_
  refine wp_aload_0 d23_4 ?_
  refine wp_iconst d23_5 ic_0 ?_
  refine wp_putIP d23_6 (ext_k hk) ?_
  refine wp_aload_0 d23_9 ?_
  refine wp_iconst d23_10 ic_0 ?_
  refine wp_putIP d23_11 (ext_k hk) ?_
  refine wp_aload_0 d23_14 ?_
  refine wp_iconst d23_15 ic_0 ?_
  refine wp_putIP d23_16 (ext_k hk) ?_
  refine wp_aload_0 d23_19 ?_
  refine wp_iconst d23_20 ic_0 ?_
  refine wp_putIP d23_21 (ext_k hk) ?_
  refine wp_aload_0 d23_24 ?_
  refine wp_iconst d23_25 ic_0 ?_
  refine wp_putIP d23_26 (ext_k hk) ?_
  refine wp_aload_0 d23_29 ?_
  refine wp_bipush d23_30 bi_6 ?_
  refine wp_newIP (n := 6) (mc := 7) (ms := 36) d23_32 (by decide) (by rw [hl]; rfl) rfl ?_
  refine wp_putRP d23_34 (ext_k hk) ⟨rfl, rfl⟩ ?_
  refine wp_aload_0 d23_37 ?_
  refine wp_bipush d23_38 bi_6 ?_
  refine wp_newIP (n := 6) (mc := 6) (ms := 30) d23_40 (by decide) (by rw [hl]; rfl) rfl ?_
  refine wp_putRP d23_42 (ext_k hk) ⟨rfl, rfl⟩ ?_
  refine wp_aload_0 d23_45 ?_
  refine wp_iconst d23_46 ic_5 ?_
  refine wp_newIP (n := 5) (mc := 5) (ms := 25) d23_47 (by decide) (by rw [hl]; rfl) rfl ?_
  refine wp_putRP d23_49 (ext_k hk) ⟨rfl, rfl⟩ ?_
  refine wp_aload_0 d23_52 ?_
  refine wp_iconst d23_53 ic_5 ?_
  refine wp_newIP (n := 5) (mc := 4) (ms := 20) d23_54 (by decide) (by rw [hl]; rfl) rfl ?_
  refine wp_putRP d23_56 (ext_k hk) ⟨rfl, rfl⟩ ?_
  refine wp_aload_0 d23_59 ?_
  refine wp_iconst d23_60 ic_5 ?_
  refine wp_newIP (n := 5) (mc := 3) (ms := 15) d23_61 (by decide) (by rw [hl]; rfl) rfl ?_
  refine wp_putRP d23_63 (ext_k hk) ⟨rfl, rfl⟩ ?_
  refine wp_aload_0 d23_66 ?_
  refine wp_iconst d23_67 ic_5 ?_
  refine wp_newIP (n := 5) (mc := 2) (ms := 10) d23_68 (by decide) (by rw [hl]; rfl) rfl ?_
  refine wp_putRP d23_70 (ext_k hk) ⟨rfl, rfl⟩ ?_
  refine wp_aload_0 d23_73 ?_
  refine wp_iconst d23_74 ic_5 ?_
  refine wp_newIP (n := 5) (mc := 1) (ms := 5) d23_75 (by decide) (by rw [hl]; rfl) rfl ?_
  refine wp_putRP d23_77 (ext_k hk) ⟨rfl, rfl⟩ ?_
  refine wp_aload_0 d23_80 ?_
  refine wp_iconst d23_81 ic_5 ?_
  refine wp_newIP (n := 5) (mc := 0) (ms := 0) d23_82 (by decide) (by rw [hl]; rfl) rfl ?_
  refine wp_putRP d23_84 (ext_k hk) ⟨rfl, rfl⟩ ?_
  exact wp_vret d23_87 rfl rfl rfl
theorem n_Ways {σ : Sto} {n : Nat} (hn : σ.1.length = n) : ∃ σ', Ev 2 12 245 43 [.ref n] (newO σ 5) none σ' ∧ Gn σ σ' [5, 4, 100, 100, 100, 100, 100, 100, 100, 100, 100, 100, 100] ∧ Hs σ' n (n + 10) (wyF n (nI 0) (nI 0) (nI 0)) (wyA (arr 150 (fun _ => 0)) (arr 35 (fun _ => 0)) (arr 5 (fun _ => 0))) ∧ Hs σ' (n + 1) ((n + 1) + 1) (trF (n + 1) (nI 0) (nI 0) (nI 0) (nI 0) (nI 0)) (trA (arr 6 (fun _ => 0)) (arO 6 (fun _ => some 0)) (arr 5 (fun _ => 0)) (arr 5 (fun _ => 0)) (arr 5 (fun _ => 0)) (arO 5 (fun _ => some 0)) (arr 5 (fun _ => 0)) (arr 5 (fun _ => 0))) := by
  have hl := newO_len (c := 5) hn
  have hk := newO_k (c := 5) hn
  have hF := (newO_F (c := 5) hn).trans dfl_5
  have g0 := Gn_newO (σ := σ) (c := 5)
  obtain ⟨σ1, E1, g1, f0⟩ := n_Trail hl
  have hl1 : σ1.1.length = n + 10 := by rw [g1.1, List.length_append, hl]; rfl
  have hk1 : σ1.1[n]? = some 5 := Gn_k g1 hk
  have hF1 := (g1.2 n (by omega)).1.trans hF
  refine ⟨put (ext σ1 [100, 100, 100]) n (n + 10) (wyF n (nI 0) (nI 0) (nI 0)) (wyA (arr 150 (fun _ => 0)) (arr 35 (fun _ => 0)) (arr 5 (fun _ => 0))), ?_, Gn_put (Gn_trans g0 g1) (by omega) (by omega), Hs_put, Hs_ne (Hs_ext f0) (by omega) (by simp [trA])⟩
  generalize newO σ 5 = σ0 at *
  refine ev_of (L := [.ref n]) (by decide) rfl (Nat.le_of_ble_eq_true rfl) ?_
  refine wp_aload_0 d43_0 ?_
  refine wp_objInit d43_1 (Nat.le_of_ble_eq_true rfl) (Nat.le_of_ble_eq_true rfl) ?_
  refine wp_aload_0 d43_4 ?_
  refine wp_mk (n := n + 1) (mc := 3) (ms := 190) (mc' := 8) (ms' := 42) d43_5 (by decide) d43_8 d43_9 (Or.inr rfl) hl (by omega) E1 (Nat.le_of_ble_eq_true rfl) (Nat.le_of_ble_eq_true rfl) ?_
  refine WP.st (ext_base (q := n + 10) hF1) ?_
  refine wp_putRP d43_12 (ext_k hk1) ⟨rfl, rfl⟩ ?_
  refine wp_aload_0 d43_15 ?_
  refine wp_sipush d43_16 si_150 ?_
  refine wp_newIP (n := 150) (mc := 2) (ms := 40) d43_19 (by decide) (by rw [hl1]; rfl) rfl ?_
  refine wp_putRP d43_21 (ext_k hk1) ⟨rfl, rfl⟩ ?_
  refine wp_aload_0 d43_24 ?_
  refine wp_bipush d43_25 bi_35 ?_
  refine wp_newIP (n := 35) (mc := 1) (ms := 5) d43_27 (by decide) (by rw [hl1]; rfl) rfl ?_
  refine wp_putRP d43_29 (ext_k hk1) ⟨rfl, rfl⟩ ?_
  refine wp_aload_0 d43_32 ?_
  refine wp_iconst d43_33 ic_5 ?_
  refine wp_newIP (n := 5) (mc := 0) (ms := 0) d43_34 (by decide) (by rw [hl1]; rfl) rfl ?_
  refine wp_putRP d43_36 (ext_k hk1) ⟨rfl, rfl⟩ ?_
  refine wp_aload_0 d43_39 ?_
  refine wp_iconst d43_40 ic_0 ?_
  refine wp_putIP d43_41 (ext_k hk1) ?_
  refine wp_aload_0 d43_44 ?_
  refine wp_iconst d43_45 ic_0 ?_
  refine wp_putIP d43_46 (ext_k hk1) ?_
  refine wp_aload_0 d43_49 ?_
  refine wp_iconst d43_50 ic_0 ?_
  refine wp_putIP d43_51 (ext_k hk1) ?_
  exact wp_vret d43_54 rfl rfl rfl
theorem n_Best {σ : Sto} {n : Nat} (hn : σ.1.length = n) : ∃ σ', Ev 3 15 264 0 [.ref n] (newO σ 0) none σ' ∧ Gn σ σ' [0, 5, 4, 100, 100, 100, 100, 100, 100, 100, 100, 100, 100, 100, 100, 100] ∧ Hs σ' n (n + 14) (bsF n (eo none) (eo none)) (bsA (arO 6 (fun _ => some 0)) (arO 6 (fun _ => some 0))) ∧ Hs σ' (n + 1) ((n + 1) + 10) (wyF (n + 1) (nI 0) (nI 0) (nI 0)) (wyA (arr 150 (fun _ => 0)) (arr 35 (fun _ => 0)) (arr 5 (fun _ => 0))) ∧ Hs σ' (n + 1 + 1) ((n + 1 + 1) + 1) (trF (n + 1 + 1) (nI 0) (nI 0) (nI 0) (nI 0) (nI 0)) (trA (arr 6 (fun _ => 0)) (arO 6 (fun _ => some 0)) (arr 5 (fun _ => 0)) (arr 5 (fun _ => 0)) (arr 5 (fun _ => 0)) (arO 5 (fun _ => some 0)) (arr 5 (fun _ => 0)) (arr 5 (fun _ => 0))) := by
  have hl := newO_len (c := 0) hn
  have hk := newO_k (c := 0) hn
  have hF := (newO_F (c := 0) hn).trans dfl_0
  have g0 := Gn_newO (σ := σ) (c := 0)
  obtain ⟨σ1, E1, g1, f0, f1⟩ := n_Ways hl
  have hl1 : σ1.1.length = n + 14 := by rw [g1.1, List.length_append, hl]; rfl
  have hk1 : σ1.1[n]? = some 0 := Gn_k g1 hk
  have hF1 := (g1.2 n (by omega)).1.trans hF
  refine ⟨put (ext σ1 [100, 100]) n (n + 14) (bsF n (eo none) (eo none)) (bsA (arO 6 (fun _ => some 0)) (arO 6 (fun _ => some 0))), ?_, Gn_put (Gn_trans g0 g1) (by omega) (by omega), Hs_put, Hs_ne (Hs_ext f0) (by omega) (by simp [wyA]), Hs_ne (Hs_ext f1) (by omega) (by simp [trA])⟩
  generalize newO σ 0 = σ0 at *
  refine ev_of (L := [.ref n]) (by decide) rfl (Nat.le_of_ble_eq_true rfl) ?_
  refine wp_aload_0 d0_0 ?_
  refine wp_objInit d0_1 (Nat.le_of_ble_eq_true rfl) (Nat.le_of_ble_eq_true rfl) ?_
  refine wp_aload_0 d0_4 ?_
  refine wp_mk (n := n + 1) (mc := 2) (ms := 12) (mc' := 12) (ms' := 245) d0_5 (by decide) d0_8 d0_9 (Or.inr rfl) hl (by omega) E1 (Nat.le_of_ble_eq_true rfl) (Nat.le_of_ble_eq_true rfl) ?_
  refine WP.st (ext_base (q := n + 14) hF1) ?_
  refine wp_putRP d0_12 (ext_k hk1) ⟨rfl, rfl⟩ ?_
  refine wp_aload_0 d0_15 ?_
  refine wp_bipush d0_16 bi_6 ?_
  refine wp_newIP (n := 6) (mc := 1) (ms := 6) d0_18 (by decide) (by rw [hl1]; rfl) rfl ?_
  refine wp_putRP d0_20 (ext_k hk1) ⟨rfl, rfl⟩ ?_
  refine wp_aload_0 d0_23 ?_
  refine wp_bipush d0_24 bi_6 ?_
  refine wp_newIP (n := 6) (mc := 0) (ms := 0) d0_26 (by decide) (by rw [hl1]; rfl) rfl ?_
  refine wp_putRP d0_28 (ext_k hk1) ⟨rfl, rfl⟩ ?_
  refine wp_aload_0 d0_31 ?_
  refine wp_iconst d0_32 ic_m1 ?_
  refine wp_putIP d0_33 (ext_k hk1) ?_
  refine wp_aload_0 d0_36 ?_
  refine wp_iconst d0_37 ic_m1 ?_
  refine wp_putIP d0_38 (ext_k hk1) ?_
  exact wp_vret d0_41 rfl rfl rfl
theorem n_Book {σ : Sto} {n : Nat} (hn : σ.1.length = n) : ∃ σ', Ev 3 16 268 6 [.ref n] (newO σ 1) none σ' ∧ Gn σ σ' [1, 5, 4, 100, 100, 100, 100, 100, 100, 100, 100, 100, 100, 100, 100, 100, 100] ∧ Hs σ' n (n + 14) (bkF n (nI 0) (nI 0) (eo none)) (bkA (arO 5 (fun _ => some 0)) (arr 5 (fun _ => 0)) (arr 6 (fun _ => 0))) ∧ Hs σ' (n + 1) ((n + 1) + 10) (wyF (n + 1) (nI 0) (nI 0) (nI 0)) (wyA (arr 150 (fun _ => 0)) (arr 35 (fun _ => 0)) (arr 5 (fun _ => 0))) ∧ Hs σ' (n + 1 + 1) ((n + 1 + 1) + 1) (trF (n + 1 + 1) (nI 0) (nI 0) (nI 0) (nI 0) (nI 0)) (trA (arr 6 (fun _ => 0)) (arO 6 (fun _ => some 0)) (arr 5 (fun _ => 0)) (arr 5 (fun _ => 0)) (arr 5 (fun _ => 0)) (arO 5 (fun _ => some 0)) (arr 5 (fun _ => 0)) (arr 5 (fun _ => 0))) := by
  have hl := newO_len (c := 1) hn
  have hk := newO_k (c := 1) hn
  have hF := (newO_F (c := 1) hn).trans dfl_1
  have g0 := Gn_newO (σ := σ) (c := 1)
  obtain ⟨σ1, E1, g1, f0, f1⟩ := n_Ways hl
  have hl1 : σ1.1.length = n + 14 := by rw [g1.1, List.length_append, hl]; rfl
  have hk1 : σ1.1[n]? = some 1 := Gn_k g1 hk
  have hF1 := (g1.2 n (by omega)).1.trans hF
  refine ⟨put (ext σ1 [100, 100, 100]) n (n + 14) (bkF n (nI 0) (nI 0) (eo none)) (bkA (arO 5 (fun _ => some 0)) (arr 5 (fun _ => 0)) (arr 6 (fun _ => 0))), ?_, Gn_put (Gn_trans g0 g1) (by omega) (by omega), Hs_put, Hs_ne (Hs_ext f0) (by omega) (by simp [wyA]), Hs_ne (Hs_ext f1) (by omega) (by simp [trA])⟩
  generalize newO σ 1 = σ0 at *
  refine ev_of (L := [.ref n]) (by decide) rfl (Nat.le_of_ble_eq_true rfl) ?_
  refine wp_aload_0 d6_0 ?_
  refine wp_objInit d6_1 (Nat.le_of_ble_eq_true rfl) (Nat.le_of_ble_eq_true rfl) ?_
  refine wp_aload_0 d6_4 ?_
  refine wp_mk (n := n + 1) (mc := 3) (ms := 16) (mc' := 12) (ms' := 245) d6_5 (by decide) d6_8 d6_9 (Or.inr rfl) hl (by omega) E1 (Nat.le_of_ble_eq_true rfl) (Nat.le_of_ble_eq_true rfl) ?_
  refine WP.st (ext_base (q := n + 14) hF1) ?_
  refine wp_putRP d6_12 (ext_k hk1) ⟨rfl, rfl⟩ ?_
  refine wp_aload_0 d6_15 ?_
  refine wp_iconst d6_16 ic_5 ?_
  refine wp_newIP (n := 5) (mc := 2) (ms := 11) d6_17 (by decide) (by rw [hl1]; rfl) rfl ?_
  refine wp_putRP d6_19 (ext_k hk1) ⟨rfl, rfl⟩ ?_
  refine wp_aload_0 d6_22 ?_
  refine wp_iconst d6_23 ic_5 ?_
  refine wp_newIP (n := 5) (mc := 1) (ms := 6) d6_24 (by decide) (by rw [hl1]; rfl) rfl ?_
  refine wp_putRP d6_26 (ext_k hk1) ⟨rfl, rfl⟩ ?_
  refine wp_aload_0 d6_29 ?_
  refine wp_bipush d6_30 bi_6 ?_
  refine wp_newIP (n := 6) (mc := 0) (ms := 0) d6_32 (by decide) (by rw [hl1]; rfl) rfl ?_
  refine wp_putRP d6_34 (ext_k hk1) ⟨rfl, rfl⟩ ?_
  refine wp_aload_0 d6_37 ?_
  refine wp_iconst d6_38 ic_0 ?_
  refine wp_putIP d6_39 (ext_k hk1) ?_
  refine wp_aload_0 d6_42 ?_
  refine wp_iconst d6_43 ic_0 ?_
  refine wp_putIP d6_44 (ext_k hk1) ?_
  refine wp_aload_0 d6_47 ?_
  refine wp_iconst d6_48 ic_m1 ?_
  refine wp_putIP d6_49 (ext_k hk1) ?_
  exact wp_vret d6_52 rfl rfl rfl
theorem n_Set {σ : Sto} {n : Nat} (hn : σ.1.length = n) : ∃ σ', Ev 2 12 70 17 [.ref n] (newO σ 3) none σ' ∧ Gn σ σ' [3, 4, 100, 100, 100, 100, 100, 100, 100, 100, 101, 100, 100] ∧ Hs σ' n (n + 10) (stF n (eo none)) (stA (arrI 5 (fun v => bi ((fun _ => false) v))) (arr 5 (fun _ => 0)) (arO 5 (fun _ => some 0))) ∧ Hs σ' (n + 1) ((n + 1) + 1) (trF (n + 1) (nI 0) (nI 0) (nI 0) (nI 0) (nI 0)) (trA (arr 6 (fun _ => 0)) (arO 6 (fun _ => some 0)) (arr 5 (fun _ => 0)) (arr 5 (fun _ => 0)) (arr 5 (fun _ => 0)) (arO 5 (fun _ => some 0)) (arr 5 (fun _ => 0)) (arr 5 (fun _ => 0))) := by
  have hl := newO_len (c := 3) hn
  have hk := newO_k (c := 3) hn
  have hF := (newO_F (c := 3) hn).trans dfl_3
  have g0 := Gn_newO (σ := σ) (c := 3)
  obtain ⟨σ1, E1, g1, f0⟩ := n_Trail hl
  have hl1 : σ1.1.length = n + 10 := by rw [g1.1, List.length_append, hl]; rfl
  have hk1 : σ1.1[n]? = some 3 := Gn_k g1 hk
  have hF1 := (g1.2 n (by omega)).1.trans hF
  refine ⟨put (ext σ1 [101, 100, 100]) n (n + 10) (stF n (eo none)) (stA (arrI 5 (fun v => bi ((fun _ => false) v))) (arr 5 (fun _ => 0)) (arO 5 (fun _ => some 0))), ?_, Gn_put (Gn_trans g0 g1) (by omega) (by omega), Hs_put, Hs_ne (Hs_ext f0) (by omega) (by simp [trA])⟩
  generalize newO σ 3 = σ0 at *
  refine ev_of (L := [.ref n]) (by decide) rfl (Nat.le_of_ble_eq_true rfl) ?_
  refine wp_aload_0 d17_0 ?_
  refine wp_objInit d17_1 (Nat.le_of_ble_eq_true rfl) (Nat.le_of_ble_eq_true rfl) ?_
  refine wp_aload_0 d17_4 ?_
  refine wp_mk (n := n + 1) (mc := 3) (ms := 15) (mc' := 8) (ms' := 42) d17_5 (by decide) d17_8 d17_9 (Or.inr rfl) hl (by omega) E1 (Nat.le_of_ble_eq_true rfl) (Nat.le_of_ble_eq_true rfl) ?_
  refine WP.st (ext_base (q := n + 10) hF1) ?_
  refine wp_putRP d17_12 (ext_k hk1) ⟨rfl, rfl⟩ ?_
  refine wp_aload_0 d17_15 ?_
  refine wp_iconst d17_16 ic_5 ?_
  refine wp_newZP (n := 5) (mc := 2) (ms := 10) d17_17 (by decide) (by rw [hl1]; rfl) rfl ?_
  refine wp_putRP d17_19 (ext_k hk1) ⟨rfl, rfl⟩ ?_
  refine wp_aload_0 d17_22 ?_
  refine wp_iconst d17_23 ic_5 ?_
  refine wp_newIP (n := 5) (mc := 1) (ms := 5) d17_24 (by decide) (by rw [hl1]; rfl) rfl ?_
  refine wp_putRP d17_26 (ext_k hk1) ⟨rfl, rfl⟩ ?_
  refine wp_aload_0 d17_29 ?_
  refine wp_iconst d17_30 ic_5 ?_
  refine wp_newIP (n := 5) (mc := 0) (ms := 0) d17_31 (by decide) (by rw [hl1]; rfl) rfl ?_
  refine wp_putRP d17_33 (ext_k hk1) ⟨rfl, rfl⟩ ?_
  refine wp_aload_0 d17_36 ?_
  refine wp_iconst d17_37 ic_m1 ?_
  refine wp_putIP d17_38 (ext_k hk1) ?_
  exact wp_vret d17_41 rfl rfl rfl

end S40b
