section S41

/-- as Gn, but for the fields of the object at 1 -/
def Gx (σ σ' : Sto) : Prop := σ.1.length ≤ σ'.1.length ∧ (∀ i, i ≠ 1 → i < σ.1.length → σ'.2.1 i = σ.2.1 i) ∧ ∀ i, i < σ.1.length → σ'.2.2 i = σ.2.2 i
theorem Gx_refl {σ : Sto} : Gx σ σ := ⟨Nat.le_refl _, fun _ _ _ => rfl, fun _ _ => rfl⟩
theorem Gx_trans {σ σ1 σ2 : Sto} (h1 : Gx σ σ1) (h2 : Gx σ1 σ2) : Gx σ σ2 := ⟨Nat.le_trans h1.1 h2.1, fun i a b => (h2.2.1 i a (Nat.lt_of_lt_of_le b h1.1)).trans (h1.2.1 i a b), fun i b => (h2.2.2 i (Nat.lt_of_lt_of_le b h1.1)).trans (h1.2.2 i b)⟩
theorem Gx_Gn {σ σ' : Sto} {fs : List Value} {ks : List Nat} (h : Gn (put σ 1 2 fs []) σ' ks) : Gx σ σ' := by
  obtain ⟨h1, h2⟩ := h
  refine ⟨by rw [h1, List.length_append]; exact Nat.le_add_right _ _, fun i hi hl => ?_, fun i hl => ?_⟩
  · rw [(h2 i hl).1, put_F_ne hi]
  · rw [(h2 i hl).2, put_A_ne (by simp; omega)]
theorem Gx_put {σ σ' : Sto} {fs : List Value} (h : Gx σ σ') : Gx σ (put σ' 1 2 fs []) := ⟨h.1, fun i a b => by rw [put_F_ne a]; exact h.2.1 i a b, fun i b => by rw [put_A_ne (by simp; omega)]; exact h.2.2 i b⟩
theorem Hs_Gx {σ σ' : Sto} {o q : Nat} {fs : List Value} {as : List (List Int32)} (h : Gx σ σ') (hs : Hs σ o q fs as) (h1 : o ≠ 1) (ho : o < σ.1.length) (hq : q + as.length ≤ σ.1.length) : Hs σ' o q fs as := by
  refine ⟨(h.2.1 o h1 ho).trans hs.1, fun k l hk => ?_⟩
  have := (List.getElem?_eq_some_iff.mp hk).1
  exact (h.2.2 (q + k) (by omega)).trans (hs.2 k l hk)
theorem X_base {σ : Sto} {fs : List Value} (h : σ.2.1 1 = fs) : σ = put σ 1 2 fs [] := (put_self h (fun k l hk => by simp at hk)).symm
theorem n_Model {σ : Sto} {n : Nat} (hn : σ.1.length = n) : ∃ σ', Ev 1 19 127 78 [.ref n] (newO σ 7) none σ' ∧ Gn σ σ' [7, 100, 100, 100, 100, 100, 100, 100, 100, 100, 100, 100, 100, 100, 100, 100, 100, 100, 100, 100] ∧ Hs σ' n (n + 1) (mF n (nI 0) (nI 0) (nI 0) (nI 0) (nI 0) (nI 0) (nI 0) (nI 0) (nI 0) (nI 0) (nI 0) (nI 0) (nI 0) (nI 0) (nI 0) (nI 0) (eo none) (nI 0) (nI 0) (nI 0) 0) (mA (arr 10 (fun _ => 0)) (arr 6 (fun _ => 0)) (arO 6 (fun _ => some 0)) (arr 15 (fun _ => 0)) (arr 5 (fun _ => 0)) (arr 5 (fun _ => 0)) (arr 5 (fun _ => 0)) (arr 5 (fun _ => 0)) (arr 6 (fun _ => 0)) (arr 5 (fun _ => 0)) (arr 5 (fun _ => 0)) (arr 5 (fun _ => 0)) (arr 6 (fun _ => 0)) (arr 6 (fun _ => 0)) (arr 15 (fun _ => 0)) (arr 5 (fun _ => 0)) (arr 5 (fun _ => 0)) (arr 6 (fun _ => 0)) (arO 6 (fun _ => some 0))) := by
  have hl := newO_len (c := 7) hn
  have hk := newO_k (c := 7) hn
  have hF := (newO_F (c := 7) hn).trans dfl_7
  refine ⟨put (ext (newO σ 7) [100, 100, 100, 100, 100, 100, 100, 100, 100, 100, 100, 100, 100, 100, 100, 100, 100, 100, 100]) n (n + 1) (mF n (nI 0) (nI 0) (nI 0) (nI 0) (nI 0) (nI 0) (nI 0) (nI 0) (nI 0) (nI 0) (nI 0) (nI 0) (nI 0) (nI 0) (nI 0) (nI 0) (eo none) (nI 0) (nI 0) (nI 0) 0) (mA (arr 10 (fun _ => 0)) (arr 6 (fun _ => 0)) (arO 6 (fun _ => some 0)) (arr 15 (fun _ => 0)) (arr 5 (fun _ => 0)) (arr 5 (fun _ => 0)) (arr 5 (fun _ => 0)) (arr 5 (fun _ => 0)) (arr 6 (fun _ => 0)) (arr 5 (fun _ => 0)) (arr 5 (fun _ => 0)) (arr 5 (fun _ => 0)) (arr 6 (fun _ => 0)) (arr 6 (fun _ => 0)) (arr 15 (fun _ => 0)) (arr 5 (fun _ => 0)) (arr 5 (fun _ => 0)) (arr 6 (fun _ => 0)) (arO 6 (fun _ => some 0))), ?_, Gn_put Gn_newO (by omega) (by omega), Hs_put⟩
  generalize newO σ 7 = σ0 at *
  refine ev_of (L := [.ref n]) (by decide) rfl (Nat.le_of_ble_eq_true rfl) ?_
  refine WP.st (ext_base (q := n + 1) hF) ?_
  refine wp_aload_0 d78_0 ?_
  refine wp_objInit d78_1 (Nat.le_of_ble_eq_true rfl) (Nat.le_of_ble_eq_true rfl) ?_
  refine wp_aload_0 d78_4 ?_
  refine wp_bipush d78_5 bi_10 ?_
  refine wp_newIP (n := 10) (mc := 18) (ms := 117) d78_7 (by decide) (by rw [hl]; rfl) rfl ?_
  refine wp_putRP d78_9 (ext_k hk) ⟨rfl, rfl⟩ ?_
  refine WP.st (σ2 := put (ext σ0 [100]) n (n + 1) [.ref (n + 1 + 0), .int 0, .int 0, .int 0, .int 0, .int 0, .int 0, .int 0, .int 0, .null, .null, .int 0, .null, .null, .null, .null, .null, .null, .int 0, .int 0, .int 0, .int 0, .int 0, .null, .null, .int 0, .null, .null, .int 0, .null, .int 0, .int 0, .int 0, .int 0, .null, .null, .null, .null, .null, .long 0] [arrI 10 (fun _ => nI 0)]) rfl ?_
  refine wp_aload_0 d78_12 ?_
  refine wp_bipush d78_13 bi_6 ?_
  refine wp_newIP (n := 6) (mc := 17) (ms := 111) d78_15 (by decide) (by rw [hl]; rfl) rfl ?_
  refine wp_putRP d78_17 (ext_k hk) ⟨rfl, rfl⟩ ?_
  refine WP.st (σ2 := put (ext σ0 [100, 100]) n (n + 1) [.ref (n + 1 + 0), .int 0, .int 0, .int 0, .int 0, .int 0, .int 0, .int 0, .int 0, .ref (n + 1 + 1), .null, .int 0, .null, .null, .null, .null, .null, .null, .int 0, .int 0, .int 0, .int 0, .int 0, .null, .null, .int 0, .null, .null, .int 0, .null, .int 0, .int 0, .int 0, .int 0, .null, .null, .null, .null, .null, .long 0] [arrI 10 (fun _ => nI 0), arrI 6 (fun _ => nI 0)]) rfl ?_
  refine wp_aload_0 d78_20 ?_
  refine wp_bipush d78_21 bi_6 ?_
  refine wp_newIP (n := 6) (mc := 16) (ms := 105) d78_23 (by decide) (by rw [hl]; rfl) rfl ?_
  refine wp_putRP d78_25 (ext_k hk) ⟨rfl, rfl⟩ ?_
  refine WP.st (σ2 := put (ext σ0 [100, 100, 100]) n (n + 1) [.ref (n + 1 + 0), .int 0, .int 0, .int 0, .int 0, .int 0, .int 0, .int 0, .int 0, .ref (n + 1 + 1), .ref (n + 1 + 2), .int 0, .null, .null, .null, .null, .null, .null, .int 0, .int 0, .int 0, .int 0, .int 0, .null, .null, .int 0, .null, .null, .int 0, .null, .int 0, .int 0, .int 0, .int 0, .null, .null, .null, .null, .null, .long 0] [arrI 10 (fun _ => nI 0), arrI 6 (fun _ => nI 0), arrI 6 (fun _ => nI 0)]) rfl ?_
  refine wp_aload_0 d78_28 ?_
  refine wp_bipush d78_29 bi_15 ?_
  refine wp_newIP (n := 15) (mc := 15) (ms := 90) d78_31 (by decide) (by rw [hl]; rfl) rfl ?_
  refine wp_putRP d78_33 (ext_k hk) ⟨rfl, rfl⟩ ?_
  refine WP.st (σ2 := put (ext σ0 [100, 100, 100, 100]) n (n + 1) [.ref (n + 1 + 0), .int 0, .int 0, .int 0, .int 0, .int 0, .int 0, .int 0, .int 0, .ref (n + 1 + 1), .ref (n + 1 + 2), .int 0, .ref (n + 1 + 3), .null, .null, .null, .null, .null, .int 0, .int 0, .int 0, .int 0, .int 0, .null, .null, .int 0, .null, .null, .int 0, .null, .int 0, .int 0, .int 0, .int 0, .null, .null, .null, .null, .null, .long 0] [arrI 10 (fun _ => nI 0), arrI 6 (fun _ => nI 0), arrI 6 (fun _ => nI 0), arrI 15 (fun _ => nI 0)]) rfl ?_
  refine wp_aload_0 d78_36 ?_
  refine wp_iconst d78_37 ic_5 ?_
  refine wp_newIP (n := 5) (mc := 14) (ms := 85) d78_38 (by decide) (by rw [hl]; rfl) rfl ?_
  refine wp_putRP d78_40 (ext_k hk) ⟨rfl, rfl⟩ ?_
  refine WP.st (σ2 := put (ext σ0 [100, 100, 100, 100, 100]) n (n + 1) [.ref (n + 1 + 0), .int 0, .int 0, .int 0, .int 0, .int 0, .int 0, .int 0, .int 0, .ref (n + 1 + 1), .ref (n + 1 + 2), .int 0, .ref (n + 1 + 3), .ref (n + 1 + 4), .null, .null, .null, .null, .int 0, .int 0, .int 0, .int 0, .int 0, .null, .null, .int 0, .null, .null, .int 0, .null, .int 0, .int 0, .int 0, .int 0, .null, .null, .null, .null, .null, .long 0] [arrI 10 (fun _ => nI 0), arrI 6 (fun _ => nI 0), arrI 6 (fun _ => nI 0), arrI 15 (fun _ => nI 0), arrI 5 (fun _ => nI 0)]) rfl ?_
  refine wp_aload_0 d78_43 ?_
  refine wp_iconst d78_44 ic_5 ?_
  refine wp_newIP (n := 5) (mc := 13) (ms := 80) d78_45 (by decide) (by rw [hl]; rfl) rfl ?_
  refine wp_putRP d78_47 (ext_k hk) ⟨rfl, rfl⟩ ?_
  refine WP.st (σ2 := put (ext σ0 [100, 100, 100, 100, 100, 100]) n (n + 1) [.ref (n + 1 + 0), .int 0, .int 0, .int 0, .int 0, .int 0, .int 0, .int 0, .int 0, .ref (n + 1 + 1), .ref (n + 1 + 2), .int 0, .ref (n + 1 + 3), .ref (n + 1 + 4), .ref (n + 1 + 5), .null, .null, .null, .int 0, .int 0, .int 0, .int 0, .int 0, .null, .null, .int 0, .null, .null, .int 0, .null, .int 0, .int 0, .int 0, .int 0, .null, .null, .null, .null, .null, .long 0] [arrI 10 (fun _ => nI 0), arrI 6 (fun _ => nI 0), arrI 6 (fun _ => nI 0), arrI 15 (fun _ => nI 0), arrI 5 (fun _ => nI 0), arrI 5 (fun _ => nI 0)]) rfl ?_
  refine wp_aload_0 d78_50 ?_
  refine wp_iconst d78_51 ic_5 ?_
  refine wp_newIP (n := 5) (mc := 12) (ms := 75) d78_52 (by decide) (by rw [hl]; rfl) rfl ?_
  refine wp_putRP d78_54 (ext_k hk) ⟨rfl, rfl⟩ ?_
  refine WP.st (σ2 := put (ext σ0 [100, 100, 100, 100, 100, 100, 100]) n (n + 1) [.ref (n + 1 + 0), .int 0, .int 0, .int 0, .int 0, .int 0, .int 0, .int 0, .int 0, .ref (n + 1 + 1), .ref (n + 1 + 2), .int 0, .ref (n + 1 + 3), .ref (n + 1 + 4), .ref (n + 1 + 5), .ref (n + 1 + 6), .null, .null, .int 0, .int 0, .int 0, .int 0, .int 0, .null, .null, .int 0, .null, .null, .int 0, .null, .int 0, .int 0, .int 0, .int 0, .null, .null, .null, .null, .null, .long 0] [arrI 10 (fun _ => nI 0), arrI 6 (fun _ => nI 0), arrI 6 (fun _ => nI 0), arrI 15 (fun _ => nI 0), arrI 5 (fun _ => nI 0), arrI 5 (fun _ => nI 0), arrI 5 (fun _ => nI 0)]) rfl ?_
  refine wp_aload_0 d78_57 ?_
  refine wp_iconst d78_58 ic_5 ?_
  refine wp_newIP (n := 5) (mc := 11) (ms := 70) d78_59 (by decide) (by rw [hl]; rfl) rfl ?_
  refine wp_putRP d78_61 (ext_k hk) ⟨rfl, rfl⟩ ?_
  refine WP.st (σ2 := put (ext σ0 [100, 100, 100, 100, 100, 100, 100, 100]) n (n + 1) [.ref (n + 1 + 0), .int 0, .int 0, .int 0, .int 0, .int 0, .int 0, .int 0, .int 0, .ref (n + 1 + 1), .ref (n + 1 + 2), .int 0, .ref (n + 1 + 3), .ref (n + 1 + 4), .ref (n + 1 + 5), .ref (n + 1 + 6), .ref (n + 1 + 7), .null, .int 0, .int 0, .int 0, .int 0, .int 0, .null, .null, .int 0, .null, .null, .int 0, .null, .int 0, .int 0, .int 0, .int 0, .null, .null, .null, .null, .null, .long 0] [arrI 10 (fun _ => nI 0), arrI 6 (fun _ => nI 0), arrI 6 (fun _ => nI 0), arrI 15 (fun _ => nI 0), arrI 5 (fun _ => nI 0), arrI 5 (fun _ => nI 0), arrI 5 (fun _ => nI 0), arrI 5 (fun _ => nI 0)]) rfl ?_
  refine wp_aload_0 d78_64 ?_
  refine wp_bipush d78_65 bi_6 ?_
  refine wp_newIP (n := 6) (mc := 10) (ms := 64) d78_67 (by decide) (by rw [hl]; rfl) rfl ?_
  refine wp_putRP d78_69 (ext_k hk) ⟨rfl, rfl⟩ ?_
  refine WP.st (σ2 := put (ext σ0 [100, 100, 100, 100, 100, 100, 100, 100, 100]) n (n + 1) [.ref (n + 1 + 0), .int 0, .int 0, .int 0, .int 0, .int 0, .int 0, .int 0, .int 0, .ref (n + 1 + 1), .ref (n + 1 + 2), .int 0, .ref (n + 1 + 3), .ref (n + 1 + 4), .ref (n + 1 + 5), .ref (n + 1 + 6), .ref (n + 1 + 7), .ref (n + 1 + 8), .int 0, .int 0, .int 0, .int 0, .int 0, .null, .null, .int 0, .null, .null, .int 0, .null, .int 0, .int 0, .int 0, .int 0, .null, .null, .null, .null, .null, .long 0] [arrI 10 (fun _ => nI 0), arrI 6 (fun _ => nI 0), arrI 6 (fun _ => nI 0), arrI 15 (fun _ => nI 0), arrI 5 (fun _ => nI 0), arrI 5 (fun _ => nI 0), arrI 5 (fun _ => nI 0), arrI 5 (fun _ => nI 0), arrI 6 (fun _ => nI 0)]) rfl ?_
  refine wp_aload_0 d78_72 ?_
  refine wp_iconst d78_73 ic_5 ?_
  refine wp_newIP (n := 5) (mc := 9) (ms := 59) d78_74 (by decide) (by rw [hl]; rfl) rfl ?_
  refine wp_putRP d78_76 (ext_k hk) ⟨rfl, rfl⟩ ?_
  refine WP.st (σ2 := put (ext σ0 [100, 100, 100, 100, 100, 100, 100, 100, 100, 100]) n (n + 1) [.ref (n + 1 + 0), .int 0, .int 0, .int 0, .int 0, .int 0, .int 0, .int 0, .int 0, .ref (n + 1 + 1), .ref (n + 1 + 2), .int 0, .ref (n + 1 + 3), .ref (n + 1 + 4), .ref (n + 1 + 5), .ref (n + 1 + 6), .ref (n + 1 + 7), .ref (n + 1 + 8), .int 0, .int 0, .int 0, .int 0, .int 0, .ref (n + 1 + 9), .null, .int 0, .null, .null, .int 0, .null, .int 0, .int 0, .int 0, .int 0, .null, .null, .null, .null, .null, .long 0] [arrI 10 (fun _ => nI 0), arrI 6 (fun _ => nI 0), arrI 6 (fun _ => nI 0), arrI 15 (fun _ => nI 0), arrI 5 (fun _ => nI 0), arrI 5 (fun _ => nI 0), arrI 5 (fun _ => nI 0), arrI 5 (fun _ => nI 0), arrI 6 (fun _ => nI 0), arrI 5 (fun _ => nI 0)]) rfl ?_
  refine wp_aload_0 d78_79 ?_
  refine wp_iconst d78_80 ic_5 ?_
  refine wp_newIP (n := 5) (mc := 8) (ms := 54) d78_81 (by decide) (by rw [hl]; rfl) rfl ?_
  refine wp_putRP d78_83 (ext_k hk) ⟨rfl, rfl⟩ ?_
  refine WP.st (σ2 := put (ext σ0 [100, 100, 100, 100, 100, 100, 100, 100, 100, 100, 100]) n (n + 1) [.ref (n + 1 + 0), .int 0, .int 0, .int 0, .int 0, .int 0, .int 0, .int 0, .int 0, .ref (n + 1 + 1), .ref (n + 1 + 2), .int 0, .ref (n + 1 + 3), .ref (n + 1 + 4), .ref (n + 1 + 5), .ref (n + 1 + 6), .ref (n + 1 + 7), .ref (n + 1 + 8), .int 0, .int 0, .int 0, .int 0, .int 0, .ref (n + 1 + 9), .ref (n + 1 + 10), .int 0, .null, .null, .int 0, .null, .int 0, .int 0, .int 0, .int 0, .null, .null, .null, .null, .null, .long 0] [arrI 10 (fun _ => nI 0), arrI 6 (fun _ => nI 0), arrI 6 (fun _ => nI 0), arrI 15 (fun _ => nI 0), arrI 5 (fun _ => nI 0), arrI 5 (fun _ => nI 0), arrI 5 (fun _ => nI 0), arrI 5 (fun _ => nI 0), arrI 6 (fun _ => nI 0), arrI 5 (fun _ => nI 0), arrI 5 (fun _ => nI 0)]) rfl ?_
  refine wp_aload_0 d78_86 ?_
  refine wp_iconst d78_87 ic_5 ?_
  refine wp_newIP (n := 5) (mc := 7) (ms := 49) d78_88 (by decide) (by rw [hl]; rfl) rfl ?_
  refine wp_putRP d78_90 (ext_k hk) ⟨rfl, rfl⟩ ?_
  refine WP.st (σ2 := put (ext σ0 [100, 100, 100, 100, 100, 100, 100, 100, 100, 100, 100, 100]) n (n + 1) [.ref (n + 1 + 0), .int 0, .int 0, .int 0, .int 0, .int 0, .int 0, .int 0, .int 0, .ref (n + 1 + 1), .ref (n + 1 + 2), .int 0, .ref (n + 1 + 3), .ref (n + 1 + 4), .ref (n + 1 + 5), .ref (n + 1 + 6), .ref (n + 1 + 7), .ref (n + 1 + 8), .int 0, .int 0, .int 0, .int 0, .int 0, .ref (n + 1 + 9), .ref (n + 1 + 10), .int 0, .ref (n + 1 + 11), .null, .int 0, .null, .int 0, .int 0, .int 0, .int 0, .null, .null, .null, .null, .null, .long 0] [arrI 10 (fun _ => nI 0), arrI 6 (fun _ => nI 0), arrI 6 (fun _ => nI 0), arrI 15 (fun _ => nI 0), arrI 5 (fun _ => nI 0), arrI 5 (fun _ => nI 0), arrI 5 (fun _ => nI 0), arrI 5 (fun _ => nI 0), arrI 6 (fun _ => nI 0), arrI 5 (fun _ => nI 0), arrI 5 (fun _ => nI 0), arrI 5 (fun _ => nI 0)]) rfl ?_
  refine wp_aload_0 d78_93 ?_
  refine wp_bipush d78_94 bi_6 ?_
  refine wp_newIP (n := 6) (mc := 6) (ms := 43) d78_96 (by decide) (by rw [hl]; rfl) rfl ?_
  refine wp_putRP d78_98 (ext_k hk) ⟨rfl, rfl⟩ ?_
  refine WP.st (σ2 := put (ext σ0 [100, 100, 100, 100, 100, 100, 100, 100, 100, 100, 100, 100, 100]) n (n + 1) [.ref (n + 1 + 0), .int 0, .int 0, .int 0, .int 0, .int 0, .int 0, .int 0, .int 0, .ref (n + 1 + 1), .ref (n + 1 + 2), .int 0, .ref (n + 1 + 3), .ref (n + 1 + 4), .ref (n + 1 + 5), .ref (n + 1 + 6), .ref (n + 1 + 7), .ref (n + 1 + 8), .int 0, .int 0, .int 0, .int 0, .int 0, .ref (n + 1 + 9), .ref (n + 1 + 10), .int 0, .ref (n + 1 + 11), .ref (n + 1 + 12), .int 0, .null, .int 0, .int 0, .int 0, .int 0, .null, .null, .null, .null, .null, .long 0] [arrI 10 (fun _ => nI 0), arrI 6 (fun _ => nI 0), arrI 6 (fun _ => nI 0), arrI 15 (fun _ => nI 0), arrI 5 (fun _ => nI 0), arrI 5 (fun _ => nI 0), arrI 5 (fun _ => nI 0), arrI 5 (fun _ => nI 0), arrI 6 (fun _ => nI 0), arrI 5 (fun _ => nI 0), arrI 5 (fun _ => nI 0), arrI 5 (fun _ => nI 0), arrI 6 (fun _ => nI 0)]) rfl ?_
  refine wp_aload_0 d78_101 ?_
  refine wp_bipush d78_102 bi_6 ?_
  refine wp_newIP (n := 6) (mc := 5) (ms := 37) d78_104 (by decide) (by rw [hl]; rfl) rfl ?_
  refine wp_putRP d78_106 (ext_k hk) ⟨rfl, rfl⟩ ?_
  refine WP.st (σ2 := put (ext σ0 [100, 100, 100, 100, 100, 100, 100, 100, 100, 100, 100, 100, 100, 100]) n (n + 1) [.ref (n + 1 + 0), .int 0, .int 0, .int 0, .int 0, .int 0, .int 0, .int 0, .int 0, .ref (n + 1 + 1), .ref (n + 1 + 2), .int 0, .ref (n + 1 + 3), .ref (n + 1 + 4), .ref (n + 1 + 5), .ref (n + 1 + 6), .ref (n + 1 + 7), .ref (n + 1 + 8), .int 0, .int 0, .int 0, .int 0, .int 0, .ref (n + 1 + 9), .ref (n + 1 + 10), .int 0, .ref (n + 1 + 11), .ref (n + 1 + 12), .int 0, .ref (n + 1 + 13), .int 0, .int 0, .int 0, .int 0, .null, .null, .null, .null, .null, .long 0] [arrI 10 (fun _ => nI 0), arrI 6 (fun _ => nI 0), arrI 6 (fun _ => nI 0), arrI 15 (fun _ => nI 0), arrI 5 (fun _ => nI 0), arrI 5 (fun _ => nI 0), arrI 5 (fun _ => nI 0), arrI 5 (fun _ => nI 0), arrI 6 (fun _ => nI 0), arrI 5 (fun _ => nI 0), arrI 5 (fun _ => nI 0), arrI 5 (fun _ => nI 0), arrI 6 (fun _ => nI 0), arrI 6 (fun _ => nI 0)]) rfl ?_
  refine wp_aload_0 d78_109 ?_
  refine wp_bipush d78_110 bi_15 ?_
  refine wp_newIP (n := 15) (mc := 4) (ms := 22) d78_112 (by decide) (by rw [hl]; rfl) rfl ?_
  refine wp_putRP d78_114 (ext_k hk) ⟨rfl, rfl⟩ ?_
  refine WP.st (σ2 := put (ext σ0 [100, 100, 100, 100, 100, 100, 100, 100, 100, 100, 100, 100, 100, 100, 100]) n (n + 1) [.ref (n + 1 + 0), .int 0, .int 0, .int 0, .int 0, .int 0, .int 0, .int 0, .int 0, .ref (n + 1 + 1), .ref (n + 1 + 2), .int 0, .ref (n + 1 + 3), .ref (n + 1 + 4), .ref (n + 1 + 5), .ref (n + 1 + 6), .ref (n + 1 + 7), .ref (n + 1 + 8), .int 0, .int 0, .int 0, .int 0, .int 0, .ref (n + 1 + 9), .ref (n + 1 + 10), .int 0, .ref (n + 1 + 11), .ref (n + 1 + 12), .int 0, .ref (n + 1 + 13), .int 0, .int 0, .int 0, .int 0, .ref (n + 1 + 14), .null, .null, .null, .null, .long 0] [arrI 10 (fun _ => nI 0), arrI 6 (fun _ => nI 0), arrI 6 (fun _ => nI 0), arrI 15 (fun _ => nI 0), arrI 5 (fun _ => nI 0), arrI 5 (fun _ => nI 0), arrI 5 (fun _ => nI 0), arrI 5 (fun _ => nI 0), arrI 6 (fun _ => nI 0), arrI 5 (fun _ => nI 0), arrI 5 (fun _ => nI 0), arrI 5 (fun _ => nI 0), arrI 6 (fun _ => nI 0), arrI 6 (fun _ => nI 0), arrI 15 (fun _ => nI 0)]) rfl ?_
  refine wp_aload_0 d78_117 ?_
  refine wp_iconst d78_118 ic_5 ?_
  refine wp_newIP (n := 5) (mc := 3) (ms := 17) d78_119 (by decide) (by rw [hl]; rfl) rfl ?_
  refine wp_putRP d78_121 (ext_k hk) ⟨rfl, rfl⟩ ?_
  refine WP.st (σ2 := put (ext σ0 [100, 100, 100, 100, 100, 100, 100, 100, 100, 100, 100, 100, 100, 100, 100, 100]) n (n + 1) [.ref (n + 1 + 0), .int 0, .int 0, .int 0, .int 0, .int 0, .int 0, .int 0, .int 0, .ref (n + 1 + 1), .ref (n + 1 + 2), .int 0, .ref (n + 1 + 3), .ref (n + 1 + 4), .ref (n + 1 + 5), .ref (n + 1 + 6), .ref (n + 1 + 7), .ref (n + 1 + 8), .int 0, .int 0, .int 0, .int 0, .int 0, .ref (n + 1 + 9), .ref (n + 1 + 10), .int 0, .ref (n + 1 + 11), .ref (n + 1 + 12), .int 0, .ref (n + 1 + 13), .int 0, .int 0, .int 0, .int 0, .ref (n + 1 + 14), .ref (n + 1 + 15), .null, .null, .null, .long 0] [arrI 10 (fun _ => nI 0), arrI 6 (fun _ => nI 0), arrI 6 (fun _ => nI 0), arrI 15 (fun _ => nI 0), arrI 5 (fun _ => nI 0), arrI 5 (fun _ => nI 0), arrI 5 (fun _ => nI 0), arrI 5 (fun _ => nI 0), arrI 6 (fun _ => nI 0), arrI 5 (fun _ => nI 0), arrI 5 (fun _ => nI 0), arrI 5 (fun _ => nI 0), arrI 6 (fun _ => nI 0), arrI 6 (fun _ => nI 0), arrI 15 (fun _ => nI 0), arrI 5 (fun _ => nI 0)]) rfl ?_
  refine wp_aload_0 d78_124 ?_
  refine wp_iconst d78_125 ic_5 ?_
  refine wp_newIP (n := 5) (mc := 2) (ms := 12) d78_126 (by decide) (by rw [hl]; rfl) rfl ?_
  refine wp_putRP d78_128 (ext_k hk) ⟨rfl, rfl⟩ ?_
  refine WP.st (σ2 := put (ext σ0 [100, 100, 100, 100, 100, 100, 100, 100, 100, 100, 100, 100, 100, 100, 100, 100, 100]) n (n + 1) [.ref (n + 1 + 0), .int 0, .int 0, .int 0, .int 0, .int 0, .int 0, .int 0, .int 0, .ref (n + 1 + 1), .ref (n + 1 + 2), .int 0, .ref (n + 1 + 3), .ref (n + 1 + 4), .ref (n + 1 + 5), .ref (n + 1 + 6), .ref (n + 1 + 7), .ref (n + 1 + 8), .int 0, .int 0, .int 0, .int 0, .int 0, .ref (n + 1 + 9), .ref (n + 1 + 10), .int 0, .ref (n + 1 + 11), .ref (n + 1 + 12), .int 0, .ref (n + 1 + 13), .int 0, .int 0, .int 0, .int 0, .ref (n + 1 + 14), .ref (n + 1 + 15), .ref (n + 1 + 16), .null, .null, .long 0] [arrI 10 (fun _ => nI 0), arrI 6 (fun _ => nI 0), arrI 6 (fun _ => nI 0), arrI 15 (fun _ => nI 0), arrI 5 (fun _ => nI 0), arrI 5 (fun _ => nI 0), arrI 5 (fun _ => nI 0), arrI 5 (fun _ => nI 0), arrI 6 (fun _ => nI 0), arrI 5 (fun _ => nI 0), arrI 5 (fun _ => nI 0), arrI 5 (fun _ => nI 0), arrI 6 (fun _ => nI 0), arrI 6 (fun _ => nI 0), arrI 15 (fun _ => nI 0), arrI 5 (fun _ => nI 0), arrI 5 (fun _ => nI 0)]) rfl ?_
  refine wp_aload_0 d78_131 ?_
  refine wp_bipush d78_132 bi_6 ?_
  refine wp_newIP (n := 6) (mc := 1) (ms := 6) d78_134 (by decide) (by rw [hl]; rfl) rfl ?_
  refine wp_putRP d78_136 (ext_k hk) ⟨rfl, rfl⟩ ?_
  refine WP.st (σ2 := put (ext σ0 [100, 100, 100, 100, 100, 100, 100, 100, 100, 100, 100, 100, 100, 100, 100, 100, 100, 100]) n (n + 1) [.ref (n + 1 + 0), .int 0, .int 0, .int 0, .int 0, .int 0, .int 0, .int 0, .int 0, .ref (n + 1 + 1), .ref (n + 1 + 2), .int 0, .ref (n + 1 + 3), .ref (n + 1 + 4), .ref (n + 1 + 5), .ref (n + 1 + 6), .ref (n + 1 + 7), .ref (n + 1 + 8), .int 0, .int 0, .int 0, .int 0, .int 0, .ref (n + 1 + 9), .ref (n + 1 + 10), .int 0, .ref (n + 1 + 11), .ref (n + 1 + 12), .int 0, .ref (n + 1 + 13), .int 0, .int 0, .int 0, .int 0, .ref (n + 1 + 14), .ref (n + 1 + 15), .ref (n + 1 + 16), .ref (n + 1 + 17), .null, .long 0] [arrI 10 (fun _ => nI 0), arrI 6 (fun _ => nI 0), arrI 6 (fun _ => nI 0), arrI 15 (fun _ => nI 0), arrI 5 (fun _ => nI 0), arrI 5 (fun _ => nI 0), arrI 5 (fun _ => nI 0), arrI 5 (fun _ => nI 0), arrI 6 (fun _ => nI 0), arrI 5 (fun _ => nI 0), arrI 5 (fun _ => nI 0), arrI 5 (fun _ => nI 0), arrI 6 (fun _ => nI 0), arrI 6 (fun _ => nI 0), arrI 15 (fun _ => nI 0), arrI 5 (fun _ => nI 0), arrI 5 (fun _ => nI 0), arrI 6 (fun _ => nI 0)]) rfl ?_
  refine wp_aload_0 d78_139 ?_
  refine wp_bipush d78_140 bi_6 ?_
  refine wp_newIP (n := 6) (mc := 0) (ms := 0) d78_142 (by decide) (by rw [hl]; rfl) rfl ?_
  refine wp_putRP d78_144 (ext_k hk) ⟨rfl, rfl⟩ ?_
  refine WP.st (σ2 := put (ext σ0 [100, 100, 100, 100, 100, 100, 100, 100, 100, 100, 100, 100, 100, 100, 100, 100, 100, 100, 100]) n (n + 1) [.ref (n + 1 + 0), .int 0, .int 0, .int 0, .int 0, .int 0, .int 0, .int 0, .int 0, .ref (n + 1 + 1), .ref (n + 1 + 2), .int 0, .ref (n + 1 + 3), .ref (n + 1 + 4), .ref (n + 1 + 5), .ref (n + 1 + 6), .ref (n + 1 + 7), .ref (n + 1 + 8), .int 0, .int 0, .int 0, .int 0, .int 0, .ref (n + 1 + 9), .ref (n + 1 + 10), .int 0, .ref (n + 1 + 11), .ref (n + 1 + 12), .int 0, .ref (n + 1 + 13), .int 0, .int 0, .int 0, .int 0, .ref (n + 1 + 14), .ref (n + 1 + 15), .ref (n + 1 + 16), .ref (n + 1 + 17), .ref (n + 1 + 18), .long 0] [arrI 10 (fun _ => nI 0), arrI 6 (fun _ => nI 0), arrI 6 (fun _ => nI 0), arrI 15 (fun _ => nI 0), arrI 5 (fun _ => nI 0), arrI 5 (fun _ => nI 0), arrI 5 (fun _ => nI 0), arrI 5 (fun _ => nI 0), arrI 6 (fun _ => nI 0), arrI 5 (fun _ => nI 0), arrI 5 (fun _ => nI 0), arrI 5 (fun _ => nI 0), arrI 6 (fun _ => nI 0), arrI 6 (fun _ => nI 0), arrI 15 (fun _ => nI 0), arrI 5 (fun _ => nI 0), arrI 5 (fun _ => nI 0), arrI 6 (fun _ => nI 0), arrI 6 (fun _ => nI 0)]) rfl ?_
  refine wp_aload_0 d78_147 ?_
  refine wp_iconst d78_148 ic_m1 ?_
  refine wp_putIP d78_149 (ext_k hk) ?_
  refine WP.st (σ2 := put (ext σ0 [100, 100, 100, 100, 100, 100, 100, 100, 100, 100, 100, 100, 100, 100, 100, 100, 100, 100, 100]) n (n + 1) [.ref (n + 1 + 0), .int 0, .int 0, .int 0, .int 0, .int 0, .int 0, .int 0, .int 0, .ref (n + 1 + 1), .ref (n + 1 + 2), .int 0, .ref (n + 1 + 3), .ref (n + 1 + 4), .ref (n + 1 + 5), .ref (n + 1 + 6), .ref (n + 1 + 7), .ref (n + 1 + 8), .int 0, .int 0, .int 0, .int 0, .int 0, .ref (n + 1 + 9), .ref (n + 1 + 10), .int 0, .ref (n + 1 + 11), .ref (n + 1 + 12), .int 0, .ref (n + 1 + 13), .int (eo none), .int 0, .int 0, .int 0, .ref (n + 1 + 14), .ref (n + 1 + 15), .ref (n + 1 + 16), .ref (n + 1 + 17), .ref (n + 1 + 18), .long 0] [arrI 10 (fun _ => nI 0), arrI 6 (fun _ => nI 0), arrI 6 (fun _ => nI 0), arrI 15 (fun _ => nI 0), arrI 5 (fun _ => nI 0), arrI 5 (fun _ => nI 0), arrI 5 (fun _ => nI 0), arrI 5 (fun _ => nI 0), arrI 6 (fun _ => nI 0), arrI 5 (fun _ => nI 0), arrI 5 (fun _ => nI 0), arrI 5 (fun _ => nI 0), arrI 6 (fun _ => nI 0), arrI 6 (fun _ => nI 0), arrI 15 (fun _ => nI 0), arrI 5 (fun _ => nI 0), arrI 5 (fun _ => nI 0), arrI 6 (fun _ => nI 0), arrI 6 (fun _ => nI 0)]) rfl ?_
  exact wp_vret d78_152 rfl rfl rfl
theorem n_TB {σ : Sto} (hn : σ.1 = [102]) : ∃ σ', Ev 4 75 796 49 [.ref 1] (newO σ 6) none σ' ∧ (σ'.1 = [102, 6, 2, 100, 4, 100, 100, 100, 100, 100, 100, 100, 100, 4, 100, 100, 100, 100, 100, 100, 100, 100, 4, 100, 100, 100, 100, 100, 100, 100, 100, 0, 5, 4, 100, 100, 100, 100, 100, 100, 100, 100, 100, 100, 100, 100, 100, 1, 5, 4, 100, 100, 100, 100, 100, 100, 100, 100, 100, 100, 100, 100, 100, 100, 3, 4, 100, 100, 100, 100, 100, 100, 100, 100, 101, 100, 100] ∧ σ'.2.2 0 = σ.2.2 0) ∧ Hs σ' 1 2 (xF false 0 0 0) [] ∧ Hs σ' 2 (2 + 1) (pgF 2 (nI 0)) (pgA (arr 10 (fun _ => 0))) ∧ Hs σ' 4 (4 + 1) (trF 4 (nI 0) (nI 0) (nI 0) (nI 0) (nI 0)) (trA (arr 6 (fun _ => 0)) (arO 6 (fun _ => some 0)) (arr 5 (fun _ => 0)) (arr 5 (fun _ => 0)) (arr 5 (fun _ => 0)) (arO 5 (fun _ => some 0)) (arr 5 (fun _ => 0)) (arr 5 (fun _ => 0))) ∧ Hs σ' 13 (13 + 1) (trF 13 (nI 0) (nI 0) (nI 0) (nI 0) (nI 0)) (trA (arr 6 (fun _ => 0)) (arO 6 (fun _ => some 0)) (arr 5 (fun _ => 0)) (arr 5 (fun _ => 0)) (arr 5 (fun _ => 0)) (arO 5 (fun _ => some 0)) (arr 5 (fun _ => 0)) (arr 5 (fun _ => 0))) ∧ Hs σ' 22 (22 + 1) (trF 22 (nI 0) (nI 0) (nI 0) (nI 0) (nI 0)) (trA (arr 6 (fun _ => 0)) (arO 6 (fun _ => some 0)) (arr 5 (fun _ => 0)) (arr 5 (fun _ => 0)) (arr 5 (fun _ => 0)) (arO 5 (fun _ => some 0)) (arr 5 (fun _ => 0)) (arr 5 (fun _ => 0))) ∧ Hs σ' 31 (31 + 14) (bsF 31 (eo none) (eo none)) (bsA (arO 6 (fun _ => some 0)) (arO 6 (fun _ => some 0))) ∧ Hs σ' (31 + 1) (31 + 1 + 10) (wyF (31 + 1) (nI 0) (nI 0) (nI 0)) (wyA (arr 150 (fun _ => 0)) (arr 35 (fun _ => 0)) (arr 5 (fun _ => 0))) ∧ Hs σ' (31 + 1 + 1) ((31 + 1 + 1) + 1) (trF (31 + 1 + 1) (nI 0) (nI 0) (nI 0) (nI 0) (nI 0)) (trA (arr 6 (fun _ => 0)) (arO 6 (fun _ => some 0)) (arr 5 (fun _ => 0)) (arr 5 (fun _ => 0)) (arr 5 (fun _ => 0)) (arO 5 (fun _ => some 0)) (arr 5 (fun _ => 0)) (arr 5 (fun _ => 0))) ∧ Hs σ' 47 (47 + 14) (bkF 47 (nI 0) (nI 0) (eo none)) (bkA (arO 5 (fun _ => some 0)) (arr 5 (fun _ => 0)) (arr 6 (fun _ => 0))) ∧ Hs σ' (47 + 1) (47 + 1 + 10) (wyF (47 + 1) (nI 0) (nI 0) (nI 0)) (wyA (arr 150 (fun _ => 0)) (arr 35 (fun _ => 0)) (arr 5 (fun _ => 0))) ∧ Hs σ' (47 + 1 + 1) ((47 + 1 + 1) + 1) (trF (47 + 1 + 1) (nI 0) (nI 0) (nI 0) (nI 0) (nI 0)) (trA (arr 6 (fun _ => 0)) (arO 6 (fun _ => some 0)) (arr 5 (fun _ => 0)) (arr 5 (fun _ => 0)) (arr 5 (fun _ => 0)) (arO 5 (fun _ => some 0)) (arr 5 (fun _ => 0)) (arr 5 (fun _ => 0))) ∧ Hs σ' 64 (64 + 10) (stF 64 (eo none)) (stA (arrI 5 (fun v => bi ((fun _ => false) v))) (arr 5 (fun _ => 0)) (arO 5 (fun _ => some 0))) ∧ Hs σ' (64 + 1) ((64 + 1) + 1) (trF (64 + 1) (nI 0) (nI 0) (nI 0) (nI 0) (nI 0)) (trA (arr 6 (fun _ => 0)) (arO 6 (fun _ => some 0)) (arr 5 (fun _ => 0)) (arr 5 (fun _ => 0)) (arr 5 (fun _ => 0)) (arO 5 (fun _ => some 0)) (arr 5 (fun _ => 0)) (arr 5 (fun _ => 0))) := by
  have hk0 : (newO σ 6).1[1]? = some 6 := newO_k (by rw [hn]; rfl)
  have hF0 := (newO_F (σ := σ) (c := 6) (n := 1) (by rw [hn]; rfl)).trans dfl_6
  have q0 : (newO σ 6).1 = [102, 6] := by show σ.1 ++ [6] = _; rw [hn]; rfl
  have z0 : (newO σ 6).2.2 0 = σ.2.2 0 := rfl
  generalize newO σ 6 = σ0 at *
  have hl0 : (put σ0 1 2 [.null, .null, .null, .null, .null, .null, .null, .int 0, .int 0, .int 0, .int 0] []).1.length = 2 := by show σ0.1.length = _; rw [q0]; rfl
  obtain ⟨σ1, E0, g0, f0_0⟩ := n_Page hl0
  have q1 : σ1.1 = [102, 6, 2, 100] := by rw [g0.1]; show σ0.1 ++ _ = _; rw [q0]; rfl
  have hF1 : σ1.2.1 1 = [.null, .null, .null, .null, .null, .null, .null, .int 0, .int 0, .int 0, .int 0] := (g0.2 1 (by rw [hl0]; decide)).1.trans put_F
  have hk1 : σ1.1[1]? = some 6 := by rw [q1]; rfl
  have x0 := Gx_Gn g0
  have z1 : σ1.2.2 0 = σ.2.2 0 := (x0.2.2 0 (by rw [q0]; decide)).trans z0
  have hl1 : (put σ1 1 2 [.ref 2, .null, .null, .null, .null, .null, .null, .int 0, .int 0, .int 0, .int 0] []).1.length = 4 := by show σ1.1.length = _; rw [q1]; rfl
  obtain ⟨σ2, E1, g1, f1_0⟩ := n_Trail hl1
  have q2 : σ2.1 = [102, 6, 2, 100, 4, 100, 100, 100, 100, 100, 100, 100, 100] := by rw [g1.1]; show σ1.1 ++ _ = _; rw [q1]; rfl
  have hF2 : σ2.2.1 1 = [.ref 2, .null, .null, .null, .null, .null, .null, .int 0, .int 0, .int 0, .int 0] := (g1.2 1 (by rw [hl1]; decide)).1.trans put_F
  have hk2 : σ2.1[1]? = some 6 := by rw [q2]; rfl
  have x1 := Gx_Gn g1
  have z2 : σ2.2.2 0 = σ.2.2 0 := (x1.2.2 0 (by rw [q1]; decide)).trans z1
  have hl2 : (put σ2 1 2 [.ref 2, .ref 4, .null, .null, .null, .null, .null, .int 0, .int 0, .int 0, .int 0] []).1.length = 13 := by show σ2.1.length = _; rw [q2]; rfl
  obtain ⟨σ3, E2, g2, f2_0⟩ := n_Trail hl2
  have q3 : σ3.1 = [102, 6, 2, 100, 4, 100, 100, 100, 100, 100, 100, 100, 100, 4, 100, 100, 100, 100, 100, 100, 100, 100] := by rw [g2.1]; show σ2.1 ++ _ = _; rw [q2]; rfl
  have hF3 : σ3.2.1 1 = [.ref 2, .ref 4, .null, .null, .null, .null, .null, .int 0, .int 0, .int 0, .int 0] := (g2.2 1 (by rw [hl2]; decide)).1.trans put_F
  have hk3 : σ3.1[1]? = some 6 := by rw [q3]; rfl
  have x2 := Gx_Gn g2
  have z3 : σ3.2.2 0 = σ.2.2 0 := (x2.2.2 0 (by rw [q2]; decide)).trans z2
  have hl3 : (put σ3 1 2 [.ref 2, .ref 4, .ref 13, .null, .null, .null, .null, .int 0, .int 0, .int 0, .int 0] []).1.length = 22 := by show σ3.1.length = _; rw [q3]; rfl
  obtain ⟨σ4, E3, g3, f3_0⟩ := n_Trail hl3
  have q4 : σ4.1 = [102, 6, 2, 100, 4, 100, 100, 100, 100, 100, 100, 100, 100, 4, 100, 100, 100, 100, 100, 100, 100, 100, 4, 100, 100, 100, 100, 100, 100, 100, 100] := by rw [g3.1]; show σ3.1 ++ _ = _; rw [q3]; rfl
  have hF4 : σ4.2.1 1 = [.ref 2, .ref 4, .ref 13, .null, .null, .null, .null, .int 0, .int 0, .int 0, .int 0] := (g3.2 1 (by rw [hl3]; decide)).1.trans put_F
  have hk4 : σ4.1[1]? = some 6 := by rw [q4]; rfl
  have x3 := Gx_Gn g3
  have z4 : σ4.2.2 0 = σ.2.2 0 := (x3.2.2 0 (by rw [q3]; decide)).trans z3
  have hl4 : (put σ4 1 2 [.ref 2, .ref 4, .ref 13, .ref 22, .null, .null, .null, .int 0, .int 0, .int 0, .int 0] []).1.length = 31 := by show σ4.1.length = _; rw [q4]; rfl
  obtain ⟨σ5, E4, g4, f4_0, f4_1, f4_2⟩ := n_Best hl4
  have q5 : σ5.1 = [102, 6, 2, 100, 4, 100, 100, 100, 100, 100, 100, 100, 100, 4, 100, 100, 100, 100, 100, 100, 100, 100, 4, 100, 100, 100, 100, 100, 100, 100, 100, 0, 5, 4, 100, 100, 100, 100, 100, 100, 100, 100, 100, 100, 100, 100, 100] := by rw [g4.1]; show σ4.1 ++ _ = _; rw [q4]; rfl
  have hF5 : σ5.2.1 1 = [.ref 2, .ref 4, .ref 13, .ref 22, .null, .null, .null, .int 0, .int 0, .int 0, .int 0] := (g4.2 1 (by rw [hl4]; decide)).1.trans put_F
  have hk5 : σ5.1[1]? = some 6 := by rw [q5]; rfl
  have x4 := Gx_Gn g4
  have z5 : σ5.2.2 0 = σ.2.2 0 := (x4.2.2 0 (by rw [q4]; decide)).trans z4
  have hl5 : (put σ5 1 2 [.ref 2, .ref 4, .ref 13, .ref 22, .ref 31, .null, .null, .int 0, .int 0, .int 0, .int 0] []).1.length = 47 := by show σ5.1.length = _; rw [q5]; rfl
  obtain ⟨σ6, E5, g5, f5_0, f5_1, f5_2⟩ := n_Book hl5
  have q6 : σ6.1 = [102, 6, 2, 100, 4, 100, 100, 100, 100, 100, 100, 100, 100, 4, 100, 100, 100, 100, 100, 100, 100, 100, 4, 100, 100, 100, 100, 100, 100, 100, 100, 0, 5, 4, 100, 100, 100, 100, 100, 100, 100, 100, 100, 100, 100, 100, 100, 1, 5, 4, 100, 100, 100, 100, 100, 100, 100, 100, 100, 100, 100, 100, 100, 100] := by rw [g5.1]; show σ5.1 ++ _ = _; rw [q5]; rfl
  have hF6 : σ6.2.1 1 = [.ref 2, .ref 4, .ref 13, .ref 22, .ref 31, .null, .null, .int 0, .int 0, .int 0, .int 0] := (g5.2 1 (by rw [hl5]; decide)).1.trans put_F
  have hk6 : σ6.1[1]? = some 6 := by rw [q6]; rfl
  have x5 := Gx_Gn g5
  have z6 : σ6.2.2 0 = σ.2.2 0 := (x5.2.2 0 (by rw [q5]; decide)).trans z5
  have hl6 : (put σ6 1 2 [.ref 2, .ref 4, .ref 13, .ref 22, .ref 31, .ref 47, .null, .int 0, .int 0, .int 0, .int 0] []).1.length = 64 := by show σ6.1.length = _; rw [q6]; rfl
  obtain ⟨σ7, E6, g6, f6_0, f6_1⟩ := n_Set hl6
  have q7 : σ7.1 = [102, 6, 2, 100, 4, 100, 100, 100, 100, 100, 100, 100, 100, 4, 100, 100, 100, 100, 100, 100, 100, 100, 4, 100, 100, 100, 100, 100, 100, 100, 100, 0, 5, 4, 100, 100, 100, 100, 100, 100, 100, 100, 100, 100, 100, 100, 100, 1, 5, 4, 100, 100, 100, 100, 100, 100, 100, 100, 100, 100, 100, 100, 100, 100, 3, 4, 100, 100, 100, 100, 100, 100, 100, 100, 101, 100, 100] := by rw [g6.1]; show σ6.1 ++ _ = _; rw [q6]; rfl
  have hF7 : σ7.2.1 1 = [.ref 2, .ref 4, .ref 13, .ref 22, .ref 31, .ref 47, .null, .int 0, .int 0, .int 0, .int 0] := (g6.2 1 (by rw [hl6]; decide)).1.trans put_F
  have hk7 : σ7.1[1]? = some 6 := by rw [q7]; rfl
  have x6 := Gx_Gn g6
  have z7 : σ7.2.2 0 = σ.2.2 0 := (x6.2.2 0 (by rw [q6]; decide)).trans z6
  have y7 : Gx σ7 (put σ7 1 2 (xF false 0 0 0) []) := Gx_put Gx_refl
  have y6 := Gx_trans x6 y7
  have y5 := Gx_trans x5 y6
  have y4 := Gx_trans x4 y5
  have y3 := Gx_trans x3 y4
  have y2 := Gx_trans x2 y3
  have y1 := Gx_trans x1 y2
  refine ⟨put σ7 1 2 (xF false 0 0 0) [], ?_, ⟨q7, (y7.2.2 0 (by rw [q7]; decide)).trans z7⟩, Hs_put, Hs_Gx y1 f0_0 (by decide) (by rw [q1]; decide) (by rw [q1]; simp [pgA]), Hs_Gx y2 f1_0 (by decide) (by rw [q2]; decide) (by rw [q2]; simp [trA]), Hs_Gx y3 f2_0 (by decide) (by rw [q3]; decide) (by rw [q3]; simp [trA]), Hs_Gx y4 f3_0 (by decide) (by rw [q4]; decide) (by rw [q4]; simp [trA]), Hs_Gx y5 f4_0 (by decide) (by rw [q5]; decide) (by rw [q5]; simp [bsA]), Hs_Gx y5 f4_1 (by decide) (by rw [q5]; decide) (by rw [q5]; simp [wyA]), Hs_Gx y5 f4_2 (by decide) (by rw [q5]; decide) (by rw [q5]; simp [trA]), Hs_Gx y6 f5_0 (by decide) (by rw [q6]; decide) (by rw [q6]; simp [bkA]), Hs_Gx y6 f5_1 (by decide) (by rw [q6]; decide) (by rw [q6]; simp [wyA]), Hs_Gx y6 f5_2 (by decide) (by rw [q6]; decide) (by rw [q6]; simp [trA]), Hs_Gx y7 f6_0 (by decide) (by rw [q7]; decide) (by rw [q7]; simp [stA]), Hs_Gx y7 f6_1 (by decide) (by rw [q7]; decide) (by rw [q7]; simp [trA])⟩
  refine ev_of (L := [.ref 1]) (by decide) rfl (Nat.le_of_ble_eq_true rfl) ?_
  refine WP.st (X_base hF0) ?_
  refine wp_aload_0 d49_0 ?_
  refine wp_objInit d49_1 (Nat.le_of_ble_eq_true rfl) (Nat.le_of_ble_eq_true rfl) ?_
  refine wp_aload_0 d49_4 ?_
  refine wp_mk (n := 2) (mc := 73) (ms := 784) (mc' := 1) (ms' := 10) d49_5 (by decide) d49_8 d49_9 (Or.inr rfl) hl0 (by decide) E0 (Nat.le_of_ble_eq_true rfl) (Nat.le_of_ble_eq_true rfl) ?_
  refine WP.st (X_base hF1) ?_
  refine wp_putRP d49_12 hk1 ⟨rfl, rfl⟩ ?_
  refine wp_aload_0 d49_15 ?_
  refine wp_mk (n := 4) (mc := 64) (ms := 729) (mc' := 8) (ms' := 42) d49_16 (by decide) d49_19 d49_20 (Or.inr rfl) hl1 (by decide) E1 (Nat.le_of_ble_eq_true rfl) (Nat.le_of_ble_eq_true rfl) ?_
  refine WP.st (X_base hF2) ?_
  refine wp_putRP d49_23 hk2 ⟨rfl, rfl⟩ ?_
  refine wp_aload_0 d49_26 ?_
  refine wp_mk (n := 13) (mc := 55) (ms := 674) (mc' := 8) (ms' := 42) d49_27 (by decide) d49_30 d49_31 (Or.inr rfl) hl2 (by decide) E2 (Nat.le_of_ble_eq_true rfl) (Nat.le_of_ble_eq_true rfl) ?_
  refine WP.st (X_base hF3) ?_
  refine wp_putRP d49_34 hk3 ⟨rfl, rfl⟩ ?_
  refine wp_aload_0 d49_37 ?_
  refine wp_mk (n := 22) (mc := 46) (ms := 619) (mc' := 8) (ms' := 42) d49_38 (by decide) d49_41 d49_42 (Or.inr rfl) hl3 (by decide) E3 (Nat.le_of_ble_eq_true rfl) (Nat.le_of_ble_eq_true rfl) ?_
  refine WP.st (X_base hF4) ?_
  refine wp_putRP d49_45 hk4 ⟨rfl, rfl⟩ ?_
  refine wp_aload_0 d49_48 ?_
  refine wp_mk (n := 31) (mc := 30) (ms := 350) (mc' := 15) (ms' := 264) d49_49 (by decide) d49_52 d49_53 (Or.inr rfl) hl4 (by decide) E4 (Nat.le_of_ble_eq_true rfl) (Nat.le_of_ble_eq_true rfl) ?_
  refine WP.st (X_base hF5) ?_
  refine wp_putRP d49_56 hk5 ⟨rfl, rfl⟩ ?_
  refine wp_aload_0 d49_59 ?_
  refine wp_mk (n := 47) (mc := 13) (ms := 75) (mc' := 16) (ms' := 268) d49_60 (by decide) d49_63 d49_64 (Or.inr rfl) hl5 (by decide) E5 (Nat.le_of_ble_eq_true rfl) (Nat.le_of_ble_eq_true rfl) ?_
  refine WP.st (X_base hF6) ?_
  refine wp_putRP d49_67 hk6 ⟨rfl, rfl⟩ ?_
  refine wp_aload_0 d49_70 ?_
  refine wp_mk (n := 64) (mc := 0) (ms := 0) (mc' := 12) (ms' := 70) d49_71 (by decide) d49_74 d49_75 (Or.inr rfl) hl6 (by decide) E6 (Nat.le_of_ble_eq_true rfl) (Nat.le_of_ble_eq_true rfl) ?_
  refine WP.st (X_base hF7) ?_
  refine wp_putRP d49_78 hk7 ⟨rfl, rfl⟩ ?_
  refine wp_aload_0 d49_81 ?_
  refine wp_iconst d49_82 ic_0 ?_
  refine wp_putZP d49_83 hk7 nI_01 ?_
  refine wp_aload_0 d49_86 ?_
  refine wp_iconst d49_87 ic_0 ?_
  refine wp_putIP d49_88 hk7 ?_
  refine wp_aload_0 d49_91 ?_
  refine wp_iconst d49_92 ic_0 ?_
  refine wp_putIP d49_93 hk7 ?_
  refine wp_aload_0 d49_96 ?_
  refine wp_iconst d49_97 ic_0 ?_
  refine wp_putIP d49_98 hk7 ?_
  exact wp_vret d49_101 rfl rfl rfl

end S41
