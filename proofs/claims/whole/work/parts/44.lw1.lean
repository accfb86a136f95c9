section S44b
theorem Sm_up {c : Nat} {σ : Sto} (h : Sm c σ) : Sm (c + 1) σ := by
  obtain ⟨pm, pg, N, K, img, sl, bd, fd, de, fo, kd, ko, kso, h⟩ := h
  exact ⟨pm, pg, N, K, img, sl, bd, fd, de, fo, kd, ko, kso, h.qC, h.qM, h.qg, h.qd, h.qf, h.q5, h.qp, h.qq, Nat.le_succ_of_le h.qs, h.qb, h.qa, h.qi, h.qj, h.qk⟩
theorem l_loop {xs : List Int32} (hL : xs.length ≤ 256) : ∀ (n c i : Nat) (σ : Sto), i = 4 * c → xs.length + 4 ≤ i + 4 * n → i ≤ xs.length → Sm c σ → σ.2.2 0 = xs → ∃ σ', WP 20 0 0 137 18 [.ref 0, .ref 1, .ref 77, .int (nI i)] [] σ (some (.int (nI 1))) σ'
  | 0, c, i, σ, hic, hn, hi, hS, hx => by omega
  | n + 1, c, i, σ, hic, hn, hi, hS, hx => by
    have hsub : (nI xs.length - nI 4).toInt = (xs.length : Int) - 4 := pk_sub_toInt (by omega) (by decide)
    have hni : (nI i).toInt = i := nI_toInt (by omega)
    by_cases hg : (nI xs.length - nI 4) < nI i
    · refine ⟨σ, ?_⟩
      refine wp_iload_3 d137_18 ?_
      refine wp_aload_0 d137_19 ?_
      refine wp_slen d137_20 ?_
      rw [hx]
      refine wp_iconst d137_21 ic_4 ?_
      refine wp_isub d137_22 ?_
      refine wp_icmp_gt d137_23 (by decide) (fun _ => ?_) (fun hq => absurd hg hq)
      refine wp_iconst d137_663 ic_1 ?_
      exact wp_zret d137_664 rfl (by first | exact nI_01 | exact nI_11 | exact bi_01 _) rfl rfl
    · have hle : i + 4 ≤ xs.length := by
        have := mt Int32.lt_iff_toInt_lt.mpr hg
        omega
      have kk : ∀ σ2, Sm (c + 1) σ2 → σ2.2.2 0 = xs → ∃ σ', WP 20 0 0 137 657 [.ref 0, .ref 1, .ref 77, .int (nI i)] [] σ2 (some (.int (nI 1))) σ' := by
        intro σ2 h2 e2
        obtain ⟨σ', K⟩ := l_loop hL n (c + 1) (i + 4) σ2 (by omega) (by omega) (by omega) h2 e2
        refine ⟨σ', ?_⟩
        refine wp_iinc_3 d137_657 (Nat.le_of_ble_eq_true rfl) rfl (inc4 _) ?_
        refine wp_goto d137_660 (by decide) ?_
        exact K
      have pre : ∀ σ' : Sto, WP 20 0 0 137 32 [.ref 0, .ref 1, .ref 77, .int (nI i)] [.int (xs.getD i 0 &&& nI 31)] σ (some (.int (nI 1))) σ' → WP 20 0 0 137 18 [.ref 0, .ref 1, .ref 77, .int (nI i)] [] σ (some (.int (nI 1))) σ' := by
        intro σ' k2
        refine wp_iload_3 d137_18 ?_
        refine wp_aload_0 d137_19 ?_
        refine wp_slen d137_20 ?_
        rw [hx]
        refine wp_iconst d137_21 ic_4 ?_
        refine wp_isub d137_22 ?_
        refine wp_icmp_gt d137_23 (by decide) (fun hq => absurd hq hg) (fun _ => ?_)
        refine wp_aload_0 d137_26 ?_
        refine wp_iload_3 d137_27 ?_
        refine wp_saldX d137_28 hx (by omega) (by omega) ?_
        refine wp_bipush d137_29 bi_31 ?_
        refine wp_iand d137_31 ?_
        exact k2
      obtain ⟨k, hk, ek⟩ := and31_ex (xs.getD i 0)
      rw [ek] at pre
      by_cases hd : 24 ≤ k
      · obtain ⟨σ', K⟩ := kk σ (Sm_up hS) hx
        refine ⟨σ', pre σ' ?_⟩
        refine wp_swout (tgt := 657) d137_32 (Or.inr (by rw [nI_toInt (by omega)]; omega)) (by decide) ?_
        exact K
      · match k, hd, pre with
        | 0, _, pre =>
          obtain ⟨σ', K⟩ := l_0 hS hx hle hL kk
          refine ⟨σ', pre _ ?_⟩
          refine wp_swin (off := 112) (tgt := 144) d137_32 (by decide) (by decide) rfl (by decide) ?_
          exact K
        | 1, _, pre =>
          obtain ⟨σ', K⟩ := l_1 hS hx hle hL kk
          refine ⟨σ', pre _ ?_⟩
          refine wp_swin (off := 135) (tgt := 167) d137_32 (by decide) (by decide) rfl (by decide) ?_
          exact K
        | 2, _, pre =>
          obtain ⟨σ', K⟩ := l_2 hS hx hle hL kk
          refine ⟨σ', pre _ ?_⟩
          refine wp_swin (off := 148) (tgt := 180) d137_32 (by decide) (by decide) rfl (by decide) ?_
          exact K
        | 3, _, pre =>
          obtain ⟨σ', K⟩ := l_3 hS hx hle hL kk
          refine ⟨σ', pre _ ?_⟩
          refine wp_swin (off := 161) (tgt := 193) d137_32 (by decide) (by decide) rfl (by decide) ?_
          exact K
        | 4, _, pre =>
          obtain ⟨σ', K⟩ := l_4 hS hx hle hL kk
          refine ⟨σ', pre _ ?_⟩
          refine wp_swin (off := 174) (tgt := 206) d137_32 (by decide) (by decide) rfl (by decide) ?_
          exact K
        | 5, _, pre =>
          obtain ⟨σ', K⟩ := l_5 hS hx hle hL kk
          refine ⟨σ', pre _ ?_⟩
          refine wp_swin (off := 207) (tgt := 239) d137_32 (by decide) (by decide) rfl (by decide) ?_
          exact K
        | 6, _, pre =>
          obtain ⟨σ', K⟩ := l_6 hS hx hle hL kk
          refine ⟨σ', pre _ ?_⟩
          refine wp_swin (off := 240) (tgt := 272) d137_32 (by decide) (by decide) rfl (by decide) ?_
          exact K
        | 7, _, pre =>
          obtain ⟨σ', K⟩ := l_7 hS hx hle hL kk
          refine ⟨σ', pre _ ?_⟩
          refine wp_swin (off := 273) (tgt := 305) d137_32 (by decide) (by decide) rfl (by decide) ?_
          exact K
        | 8, _, pre =>
          obtain ⟨σ', K⟩ := l_8 hS hx hle hL kk
          refine ⟨σ', pre _ ?_⟩
          refine wp_swin (off := 306) (tgt := 338) d137_32 (by decide) (by decide) rfl (by decide) ?_
          exact K
        | 9, _, pre =>
          obtain ⟨σ', K⟩ := l_9 hS hx hle hL kk
          refine ⟨σ', pre _ ?_⟩
          refine wp_swin (off := 319) (tgt := 351) d137_32 (by decide) (by decide) rfl (by decide) ?_
          exact K
        | 10, _, pre =>
          obtain ⟨σ', K⟩ := l_10 hS hx hle hL kk
          refine ⟨σ', pre _ ?_⟩
          refine wp_swin (off := 332) (tgt := 364) d137_32 (by decide) (by decide) rfl (by decide) ?_
          exact K
        | 11, _, pre =>
          obtain ⟨σ', K⟩ := l_11 hS hx hle hL kk
          refine ⟨σ', pre _ ?_⟩
          refine wp_swin (off := 345) (tgt := 377) d137_32 (by decide) (by decide) rfl (by decide) ?_
          exact K
        | 12, _, pre =>
          obtain ⟨σ', K⟩ := l_12 hS hx hle hL kk
          refine ⟨σ', pre _ ?_⟩
          refine wp_swin (off := 368) (tgt := 400) d137_32 (by decide) (by decide) rfl (by decide) ?_
          exact K
        | 13, _, pre =>
          obtain ⟨σ', K⟩ := l_13 hS hx hle hL kk
          refine ⟨σ', pre _ ?_⟩
          refine wp_swin (off := 381) (tgt := 413) d137_32 (by decide) (by decide) rfl (by decide) ?_
          exact K
        | 14, _, pre =>
          obtain ⟨σ', K⟩ := l_14 hS hx hle hL kk
          refine ⟨σ', pre _ ?_⟩
          refine wp_swin (off := 404) (tgt := 436) d137_32 (by decide) (by decide) rfl (by decide) ?_
          exact K
        | 15, _, pre =>
          obtain ⟨σ', K⟩ := l_15 hS hx hle hL kk
          refine ⟨σ', pre _ ?_⟩
          refine wp_swin (off := 427) (tgt := 459) d137_32 (by decide) (by decide) rfl (by decide) ?_
          exact K
        | 16, _, pre =>
          obtain ⟨σ', K⟩ := l_16 hS hx hle hL kk
          refine ⟨σ', pre _ ?_⟩
          refine wp_swin (off := 450) (tgt := 482) d137_32 (by decide) (by decide) rfl (by decide) ?_
          exact K
        | 17, _, pre =>
          obtain ⟨σ', K⟩ := l_17 hS hx hle hL kk
          refine ⟨σ', pre _ ?_⟩
          refine wp_swin (off := 483) (tgt := 515) d137_32 (by decide) (by decide) rfl (by decide) ?_
          exact K
        | 18, _, pre =>
          obtain ⟨σ', K⟩ := l_18 hS hx hle hL kk
          refine ⟨σ', pre _ ?_⟩
          refine wp_swin (off := 496) (tgt := 528) d137_32 (by decide) (by decide) rfl (by decide) ?_
          exact K
        | 19, _, pre =>
          obtain ⟨σ', K⟩ := l_19 hS hx hle hL kk
          refine ⟨σ', pre _ ?_⟩
          refine wp_swin (off := 519) (tgt := 551) d137_32 (by decide) (by decide) rfl (by decide) ?_
          exact K
        | 20, _, pre =>
          obtain ⟨σ', K⟩ := l_20 hS hx hle hL kk
          refine ⟨σ', pre _ ?_⟩
          refine wp_swin (off := 562) (tgt := 594) d137_32 (by decide) (by decide) rfl (by decide) ?_
          exact K
        | 21, _, pre =>
          obtain ⟨σ', K⟩ := l_21 hS (by omega) hx hle hL kk
          refine ⟨σ', pre _ ?_⟩
          refine wp_swin (off := 575) (tgt := 607) d137_32 (by decide) (by decide) rfl (by decide) ?_
          exact K
        | 22, _, pre =>
          obtain ⟨σ', K⟩ := l_22 hS hx hle hL kk
          refine ⟨σ', pre _ ?_⟩
          refine wp_swin (off := 588) (tgt := 620) d137_32 (by decide) (by decide) rfl (by decide) ?_
          exact K
        | 23, _, pre =>
          obtain ⟨σ', K⟩ := l_23 hS hx hle hL kk
          refine ⟨σ', pre _ ?_⟩
          refine wp_swin (off := 611) (tgt := 643) d137_32 (by decide) (by decide) rfl (by decide) ?_
          exact K
        | k + 24, hd, _ => exact absurd (Nat.le_add_left 24 k) hd

end S44b
