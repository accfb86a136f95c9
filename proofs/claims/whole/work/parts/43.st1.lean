section S43b
theorem s_letter {c : Nat} {σ : Sto} (h : Sm c σ) (x : Int32) : ∃ (σ1 σ2 : Sto) (v : Int32), Ev 1 0 0 50 [.ref 1, .int x] σ (some (.int v)) σ1 ∧ Ev 1 0 0 80 [.ref 77, .int x] σ1 (some (.int v)) σ2 ∧ Sm (c + 1) σ2 ∧ σ2.2.2 0 = σ.2.2 0 ∧ σ1.1 = σ.1 ∧ σ1.2.2 0 = σ.2.2 0 := by
  obtain ⟨pm, pg, N, K, img, sl, bd, fd, de, fo, kd, ko, kso, h⟩ := h
  have g := h.qg
  have g' := Gd_rep g h.qd h.q5
  have hts := g.ts
  have hs := h.qs
  obtain ⟨σ1, E1, F1, C1⟩ := c_letter h.qC h.qp x
  obtain ⟨σ2, E2, F2, M2⟩ := v_letter (MIv_out h.qM F1) h.qp x
  have C2 := CIv_out C1 F2
  refine ⟨σ1, σ2, _, E1, Ev.rs (congrArg (fun z : Int32 => some (Value.int z)) ?_) rfl E2, ?_, sc F1 F2, F1.1, (F1.2 0 (Or.inl (by decide))).2⟩
  · rfl
  · have p1 : n_letter pm x ≤ 10 := by
      have := h.qp
      unfold n_letter
      split <;> omega
    have p2 : ∀ k, k < n_letter pm x → p_letter pm pg x k < 1000 := by
      intro k hk
      unfold n_letter at hk
      unfold p_letter
      by_cases e : inB x 1 126 = true ∧ pm ≠ 10
      · rw [if_pos e] at hk ⊢
        have hx := inB_t.mp e.1
        unfold up
        split
        · omega
        · exact h.qq k (by omega)
      · rw [if_neg e] at hk ⊢
        exact h.qq k hk
    exact ⟨n_letter pm x, p_letter pm pg x, N, K, img, sl, bd, fd, de, fo, kd, ko, kso, C2, M2, g, h.qd, h.qf, h.q5, p1, p2, (by omega), h.qb, h.qa, h.qi, h.qj, h.qk⟩
theorem s_blank {c : Nat} {σ : Sto} (h : Sm c σ) : ∃ (σ1 σ2 : Sto) (v : Int32), Ev 1 0 0 51 [.ref 1] σ (some (.int v)) σ1 ∧ Ev 0 0 0 81 [.ref 77] σ1 (some (.int v)) σ2 ∧ Sm (c + 1) σ2 ∧ σ2.2.2 0 = σ.2.2 0 ∧ σ1.1 = σ.1 ∧ σ1.2.2 0 = σ.2.2 0 := by
  obtain ⟨pm, pg, N, K, img, sl, bd, fd, de, fo, kd, ko, kso, h⟩ := h
  have g := h.qg
  have g' := Gd_rep g h.qd h.q5
  have hts := g.ts
  have hs := h.qs
  obtain ⟨σ1, E1, F1, C1⟩ := c_blank h.qC  
  obtain ⟨σ2, E2, F2, M2⟩ := v_blank (MIv_out h.qM F1)  
  have C2 := CIv_out C1 F2
  refine ⟨σ1, σ2, _, E1, Ev.rs (congrArg (fun z : Int32 => some (Value.int z)) ?_) rfl E2, ?_, sc F1 F2, F1.1, (F1.2 0 (Or.inl (by decide))).2⟩
  · rfl
  · exact ⟨0, pg, N, K, img, sl, bd, fd, de, fo, kd, ko, kso, C2, M2, g, h.qd, h.qf, h.q5, (by decide), (fun k hk => absurd hk (Nat.not_lt_zero _)), (by omega), h.qb, h.qa, h.qi, h.qj, h.qk⟩
theorem s_fault {c : Nat} {σ : Sto} (h : Sm c σ) : ∃ (σ1 σ2 : Sto) (v : Int32), Ev 2 0 0 52 [.ref 1] σ (some (.int v)) σ1 ∧ Ev 4 0 0 85 [.ref 77] σ1 (some (.int v)) σ2 ∧ Sm (c + 1) σ2 ∧ σ2.2.2 0 = σ.2.2 0 ∧ σ1.1 = σ.1 ∧ σ1.2.2 0 = σ.2.2 0 := by
  obtain ⟨pm, pg, N, K, img, sl, bd, fd, de, fo, kd, ko, kso, h⟩ := h
  have g := h.qg
  have g' := Gd_rep g h.qd h.q5
  have hts := g.ts
  have hs := h.qs
  obtain ⟨σ1, E1, F1, C1⟩ := c_fault h.qC h.qp h.qq 
  obtain ⟨σ2, E2, F2, M2⟩ := v_fault (MIv_out h.qM F1) h.qp h.qq 
  have C2 := CIv_out C1 F2
  refine ⟨σ1, σ2, _, E1, Ev.rs (congrArg (fun z : Int32 => some (Value.int z)) ?_) rfl E2, ?_, sc F1 F2, F1.1, (F1.2 0 (Or.inl (by decide))).2⟩
  · rfl
  · exact ⟨pm, pg, N, K, img, sl, bd, fd, de, fo, kd, ko, kso, C2, M2, g, h.qd, h.qf, h.q5, h.qp, h.qq, (by omega), h.qb, h.qa, h.qi, h.qj, h.qk⟩
theorem s_slope {c : Nat} {σ : Sto} (h : Sm c σ) : ∃ (σ1 σ2 : Sto) (v : Int32), Ev 3 0 0 53 [.ref 1] σ (some (.int v)) σ1 ∧ Ev 4 0 0 86 [.ref 77] σ1 (some (.int v)) σ2 ∧ Sm (c + 1) σ2 ∧ σ2.2.2 0 = σ.2.2 0 ∧ σ1.1 = σ.1 ∧ σ1.2.2 0 = σ.2.2 0 := by
  obtain ⟨pm, pg, N, K, img, sl, bd, fd, de, fo, kd, ko, kso, h⟩ := h
  have g := h.qg
  have g' := Gd_rep g h.qd h.q5
  have hts := g.ts
  have hs := h.qs
  obtain ⟨σ1, E1, F1, C1⟩ := c_slope h.qC h.qp h.qq 
  obtain ⟨σ2, E2, F2, M2⟩ := v_slope (MIv_out h.qM F1) h.qp h.qq 
  have C2 := CIv_out C1 F2
  refine ⟨σ1, σ2, _, E1, Ev.rs (congrArg (fun z : Int32 => some (Value.int z)) ?_) rfl E2, ?_, sc F1 F2, F1.1, (F1.2 0 (Or.inl (by decide))).2⟩
  · rfl
  · cases e : okS pg pm with
    | false =>
      simp only [e, if_false, Bool.false_eq_true] at C2 M2
      exact ⟨pm, pg, N, K, img, sl, bd, fd, de, fo, kd, ko, kso, C2, M2, g, h.qd, h.qf, h.q5, h.qp, h.qq, (by omega), h.qb, h.qa, h.qi, h.qj, h.qk⟩
    | true =>
      simp only [e, if_true] at C2 M2
      exact ⟨0, pg, n_slope N pg pm, K, false, sl + 1, bd, fd, (fun k => if k < pm - 2 then pg k - 48 else 0), (fun _ => none), kd, ko, kso, C2, M2, Gd_slope g e, (fun k hk => (if_pos (show k < pm - 2 from hk)).trans (if_pos (show k < pm - 2 from hk)).symm), (fun k hk => if_pos (show k < pm - 2 from hk)), (fun k j hj => (by cases hj)), (by decide), (fun k hk => absurd hk (Nat.not_lt_zero _)), (by omega), h.qb, h.qa, (decide_eq_false (fun z => absurd (h.qj _ z) (by omega))).symm, (fun j hj => Nat.le_succ_of_le (h.qj j hj)), (fun z => (by cases z))⟩
theorem s_stretch {c : Nat} {σ : Sto} (h : Sm c σ) (x y : Int32) : ∃ (σ1 σ2 : Sto) (v : Int32), Ev 1 0 0 54 [.ref 1, .int x, .int y] σ (some (.int v)) σ1 ∧ Ev 2 0 0 89 [.ref 77, .int x, .int y] σ1 (some (.int v)) σ2 ∧ Sm (c + 1) σ2 ∧ σ2.2.2 0 = σ.2.2 0 ∧ σ1.1 = σ.1 ∧ σ1.2.2 0 = σ.2.2 0 := by
  obtain ⟨pm, pg, N, K, img, sl, bd, fd, de, fo, kd, ko, kso, h⟩ := h
  have g := h.qg
  have g' := Gd_rep g h.qd h.q5
  have hts := g.ts
  have hs := h.qs
  obtain ⟨σ1, E1, F1, C1⟩ := c_stretch h.qC g x y
  obtain ⟨σ2, E2, F2, M2⟩ := v_stretch (MIv_out h.qM F1) g' x y
  have C2 := CIv_out C1 F2
  refine ⟨σ1, σ2, _, E1, Ev.rs (congrArg (fun z : Int32 => some (Value.int z)) ?_) rfl E2, ?_, sc F1 F2, F1.1, (F1.2 0 (Or.inl (by decide))).2⟩
  · show (if inB x 0 ((N.st : Int) - 1) then r_stretch N.de N.fo x.toInt.toNat y else -101) = (if inB x 0 ((N.st : Int) - 1) then r_stretch de fo x.toInt.toNat y else -101)
    by_cases e : inB x 0 ((N.st : Int) - 1) = true
    · have hx := inB_t.mp e
      rw [if_pos e, if_pos e]
      exact r_stretch_de (h.qd _ (by omega)) (h.qf _ (by omega)) y
    · rw [if_neg e, if_neg e]
  · exact ⟨pm, pg, N, K, img, sl, bd, fd, de, fo, kd, ko, kso, C2, M2, g, h.qd, h.qf, h.q5, h.qp, h.qq, (by omega), h.qb, h.qa, h.qi, h.qj, h.qk⟩
theorem s_walker {c : Nat} {σ : Sto} (h : Sm c σ) (x y : Int32) : ∃ (σ1 σ2 : Sto) (v : Int32), Ev 1 0 0 55 [.ref 1, .int x, .int y] σ (some (.int v)) σ1 ∧ Ev 2 0 0 91 [.ref 77, .int x, .int y] σ1 (some (.int v)) σ2 ∧ Sm (c + 1) σ2 ∧ σ2.2.2 0 = σ.2.2 0 ∧ σ1.1 = σ.1 ∧ σ1.2.2 0 = σ.2.2 0 := by
  obtain ⟨pm, pg, N, K, img, sl, bd, fd, de, fo, kd, ko, kso, h⟩ := h
  have g := h.qg
  have g' := Gd_rep g h.qd h.q5
  have hts := g.ts
  have hs := h.qs
  obtain ⟨σ1, E1, F1, C1⟩ := c_walker h.qC g x y
  obtain ⟨σ2, E2, F2, M2⟩ := v_walker (MIv_out h.qM F1) g' x y
  have C2 := CIv_out C1 F2
  refine ⟨σ1, σ2, _, E1, Ev.rs (congrArg (fun z : Int32 => some (Value.int z)) ?_) rfl E2, ?_, sc F1 F2, F1.1, (F1.2 0 (Or.inl (by decide))).2⟩
  · rfl
  · have M2 : MIv σ2 pm pg (if okW N.st N.w x y then n_walk (rep N de fo) x y else rep N de fo) (rep K kd ko) kso sl bd fd := M2
    cases e : okW N.st N.w x y with
    | false =>
      simp only [e, if_false, Bool.false_eq_true] at C2 M2
      exact ⟨pm, pg, N, K, img, sl, bd, fd, de, fo, kd, ko, kso, C2, M2, g, h.qd, h.qf, h.q5, h.qp, h.qq, (by omega), h.qb, h.qa, h.qi, h.qj, h.qk⟩
    | true =>
      simp only [e, if_true] at C2 M2
      exact ⟨pm, pg, n_walk N x y, K, img, sl, bd, fd, de, fo, kd, ko, kso, C2, M2, Gd_walk g e, h.qd, h.qf, h.q5, h.qp, h.qq, (by omega), h.qb, h.qa, h.qi, h.qj, h.qk⟩
theorem s_about {c : Nat} {σ : Sto} (h : Sm c σ) (x y : Int32) : ∃ (σ1 σ2 : Sto) (v : Int32), Ev 2 0 0 56 [.ref 1, .int x, .int y] σ (some (.int v)) σ1 ∧ Ev 2 0 0 96 [.ref 77, .int x, .int y] σ1 (some (.int v)) σ2 ∧ Sm (c + 1) σ2 ∧ σ2.2.2 0 = σ.2.2 0 ∧ σ1.1 = σ.1 ∧ σ1.2.2 0 = σ.2.2 0 := by
  obtain ⟨pm, pg, N, K, img, sl, bd, fd, de, fo, kd, ko, kso, h⟩ := h
  have g := h.qg
  have g' := Gd_rep g h.qd h.q5
  have hts := g.ts
  have hs := h.qs
  obtain ⟨σ1, E1, F1, C1⟩ := c_about h.qC g x y
  obtain ⟨σ2, E2, F2, M2⟩ := v_about (MIv_out h.qM F1) g' x y
  have C2 := CIv_out C1 F2
  refine ⟨σ1, σ2, _, E1, Ev.rs (congrArg (fun z : Int32 => some (Value.int z)) ?_) rfl E2, ?_, sc F1 F2, F1.1, (F1.2 0 (Or.inl (by decide))).2⟩
  · first | (rw [r_tells_de g.ts h.qd h.qf]; done) | (rw [r_tells_de g.ts h.qd h.qf]; rfl)
  · exact ⟨pm, pg, N, K, img, sl, bd, fd, de, fo, kd, ko, kso, C2, M2, g, h.qd, h.qf, h.q5, h.qp, h.qq, (by omega), h.qb, h.qa, h.qi, h.qj, h.qk⟩
theorem s_as {c : Nat} {σ : Sto} (h : Sm c σ) (x y : Int32) : ∃ (σ1 σ2 : Sto) (v : Int32), Ev 1 0 0 57 [.ref 1, .int x, .int y] σ (some (.int v)) σ1 ∧ Ev 2 0 0 97 [.ref 77, .int x, .int y] σ1 (some (.int v)) σ2 ∧ Sm (c + 1) σ2 ∧ σ2.2.2 0 = σ.2.2 0 ∧ σ1.1 = σ.1 ∧ σ1.2.2 0 = σ.2.2 0 := by
  obtain ⟨pm, pg, N, K, img, sl, bd, fd, de, fo, kd, ko, kso, h⟩ := h
  have g := h.qg
  have g' := Gd_rep g h.qd h.q5
  have hts := g.ts
  have hs := h.qs
  obtain ⟨σ1, E1, F1, C1⟩ := c_as h.qC g x y
  obtain ⟨σ2, E2, F2, M2⟩ := v_as (MIv_out h.qM F1) g' x y
  have C2 := CIv_out C1 F2
  refine ⟨σ1, σ2, _, E1, Ev.rs (congrArg (fun z : Int32 => some (Value.int z)) ?_) rfl E2, ?_, sc F1 F2, F1.1, (F1.2 0 (Or.inl (by decide))).2⟩
  · rfl
  · exact ⟨pm, pg, N, K, img, sl, bd, fd, de, fo, kd, ko, kso, C2, M2, g, h.qd, h.qf, h.q5, h.qp, h.qq, (by omega), h.qb, h.qa, h.qi, h.qj, h.qk⟩
theorem s_tread {c : Nat} {σ : Sto} (h : Sm c σ) : ∃ (σ1 σ2 : Sto) (v : Int32), Ev 3 0 0 58 [.ref 1] σ (some (.int v)) σ1 ∧ Ev 2 0 0 104 [.ref 77] σ1 (some (.int v)) σ2 ∧ Sm (c + 1) σ2 ∧ σ2.2.2 0 = σ.2.2 0 ∧ σ1.1 = σ.1 ∧ σ1.2.2 0 = σ.2.2 0 := by
  obtain ⟨pm, pg, N, K, img, sl, bd, fd, de, fo, kd, ko, kso, h⟩ := h
  have g := h.qg
  have g' := Gd_rep g h.qd h.q5
  have hts := g.ts
  have hs := h.qs
  obtain ⟨σ1, E1, F1, C1⟩ := c_tread h.qC g 
  obtain ⟨σ2, E2, F2, M2⟩ := v_tread (MIv_out h.qM F1) g' 
  have C2 := CIv_out C1 F2
  refine ⟨σ1, σ2, _, E1, Ev.rs (congrArg (fun z : Int32 => some (Value.int z)) ?_) rfl E2, ?_, sc F1 F2, F1.1, (F1.2 0 (Or.inl (by decide))).2⟩
  · first | (rw [okT_de g.ts h.qd]; done) | (rw [okT_de g.ts h.qd]; rfl)
  · rw [tread_rep g h.qd h.qf] at M2
    refine ⟨pm, pg, n_tread N, K, img, sl, bd, fd, de, (if okT N.w N.st N.tr N.ki N.fi N.le N.de then up fo N.tr (some (N.fi 0)) else fo), kd, ko, kso, C2, M2, Gd_tread g, h.qd, ?_, ?_, h.qp, h.qq, (by omega), h.qb, h.qa, h.qi, h.qj, h.qk⟩
    · intro k hk
      show (if okT N.w N.st N.tr N.ki N.fi N.le N.de then up N.fo N.tr (some (N.fi 0)) else N.fo) k = _
      have hk : k < N.st := hk
      split
      · by_cases a : k = N.tr
        · rw [a, up_s, up_s]
        · rw [up_n _ _ a, up_n _ _ a]
          exact h.qf k hk
      · exact h.qf k hk
    · intro k j hj
      split at hj
      · next e =>
        have h1 := okT_lt hts e
        have h2 := g.f.1 0 (by omega)
        have h3 := g.w5
        unfold up at hj
        split at hj
        · cases hj; omega
        · exact h.q5 k j hj
      · exact h.q5 k j hj
theorem s_change {c : Nat} {σ : Sto} (h : Sm c σ) : ∃ (σ1 σ2 : Sto) (v : Int32), Ev 1 0 0 59 [.ref 1] σ (some (.int v)) σ1 ∧ Ev 1 0 0 105 [.ref 77] σ1 (some (.int v)) σ2 ∧ Sm (c + 1) σ2 ∧ σ2.2.2 0 = σ.2.2 0 ∧ σ1.1 = σ.1 ∧ σ1.2.2 0 = σ.2.2 0 := by
  obtain ⟨pm, pg, N, K, img, sl, bd, fd, de, fo, kd, ko, kso, h⟩ := h
  have g := h.qg
  have g' := Gd_rep g h.qd h.q5
  have hts := g.ts
  have hs := h.qs
  obtain ⟨σ1, E1, F1, C1⟩ := c_change h.qC g 
  obtain ⟨σ2, E2, F2, M2⟩ := v_change (MIv_out h.qM F1) g' 
  have C2 := CIv_out C1 F2
  refine ⟨σ1, σ2, _, E1, Ev.rs (congrArg (fun z : Int32 => some (Value.int z)) ?_) rfl E2, ?_, sc F1 F2, F1.1, (F1.2 0 (Or.inl (by decide))).2⟩
  · rfl
  · exact ⟨pm, pg, n_change N, K, img, sl, bd, fd, de, fo, kd, ko, kso, C2, M2, Gd_change g, h.qd, h.qf, h.q5, h.qp, h.qq, (by omega), h.qb, h.qa, h.qi, h.qj, h.qk⟩
theorem s_rest {c : Nat} {σ : Sto} (h : Sm c σ) : ∃ (σ1 σ2 : Sto) (v : Int32), Ev 1 0 0 60 [.ref 1] σ (some (.int v)) σ1 ∧ Ev 1 0 0 107 [.ref 77] σ1 (some (.int v)) σ2 ∧ Sm (c + 1) σ2 ∧ σ2.2.2 0 = σ.2.2 0 ∧ σ1.1 = σ.1 ∧ σ1.2.2 0 = σ.2.2 0 := by
  obtain ⟨pm, pg, N, K, img, sl, bd, fd, de, fo, kd, ko, kso, h⟩ := h
  have g := h.qg
  have g' := Gd_rep g h.qd h.q5
  have hts := g.ts
  have hs := h.qs
  obtain ⟨σ1, E1, F1, C1⟩ := c_rest h.qC g 
  obtain ⟨σ2, E2, F2, M2⟩ := v_rest (MIv_out h.qM F1) g' 
  have C2 := CIv_out C1 F2
  refine ⟨σ1, σ2, _, E1, Ev.rs (congrArg (fun z : Int32 => some (Value.int z)) ?_) rfl E2, ?_, sc F1 F2, F1.1, (F1.2 0 (Or.inl (by decide))).2⟩
  · rfl
  · exact ⟨pm, pg, n_rest N, K, img, sl, bd, fd, de, fo, kd, ko, kso, C2, M2, Gd_rest g, h.qd, h.qf, h.q5, h.qp, h.qq, (by omega), h.qb, h.qa, h.qi, h.qj, h.qk⟩
theorem s_snow {c : Nat} {σ : Sto} (h : Sm c σ) (x : Int32) : ∃ (σ1 σ2 : Sto) (v : Int32), Ev 2 0 0 61 [.ref 1, .int x] σ (some (.int v)) σ1 ∧ Ev 1 0 0 109 [.ref 77, .int x] σ1 (some (.int v)) σ2 ∧ Sm (c + 1) σ2 ∧ σ2.2.2 0 = σ.2.2 0 ∧ σ1.1 = σ.1 ∧ σ1.2.2 0 = σ.2.2 0 := by
  obtain ⟨pm, pg, N, K, img, sl, bd, fd, de, fo, kd, ko, kso, h⟩ := h
  have g := h.qg
  have g' := Gd_rep g h.qd h.q5
  have hts := g.ts
  have hs := h.qs
  obtain ⟨σ1, E1, F1, C1⟩ := c_snow h.qC g x
  obtain ⟨σ2, E2, F2, M2⟩ := v_snow (MIv_out h.qM F1) g' x
  have C2 := CIv_out C1 F2
  refine ⟨σ1, σ2, _, E1, Ev.rs (congrArg (fun z : Int32 => some (Value.int z)) ?_) rfl E2, ?_, sc F1 F2, F1.1, (F1.2 0 (Or.inl (by decide))).2⟩
  · have e := smN_de (a := N.tr) (de := snN N.tr N.st x.toInt.toNat N.de) (de' := snN N.tr N.st x.toInt.toNat de) (N.st - N.tr) (fun k a b => snN_de h.qd k (by omega))
    first | (rw [e]; done) | (rw [e]; rfl)
  · refine ⟨pm, pg, n_snow N x, K, img, sl, bd, fd, (if inB x 0 9 then snN N.tr N.st x.toInt.toNat de else de), fo, kd, ko, kso, C2, M2, Gd_snow g, ?_, h.qf, h.q5, h.qp, h.qq, (by omega), h.qb, h.qa, h.qi, h.qj, h.qk⟩
    intro k hk
    show (if inB x 0 9 then snN N.tr N.st x.toInt.toNat N.de else N.de) k = _
    split
    · exact snN_de h.qd k hk
    · exact h.qd k hk
theorem s_sun {c : Nat} {σ : Sto} (h : Sm c σ) : ∃ (σ1 σ2 : Sto) (v : Int32), Ev 2 0 0 62 [.ref 1] σ (some (.int v)) σ1 ∧ Ev 1 0 0 110 [.ref 77] σ1 (some (.int v)) σ2 ∧ Sm (c + 1) σ2 ∧ σ2.2.2 0 = σ.2.2 0 ∧ σ1.1 = σ.1 ∧ σ1.2.2 0 = σ.2.2 0 := by
  obtain ⟨pm, pg, N, K, img, sl, bd, fd, de, fo, kd, ko, kso, h⟩ := h
  have g := h.qg
  have g' := Gd_rep g h.qd h.q5
  have hts := g.ts
  have hs := h.qs
  obtain ⟨σ1, E1, F1, C1⟩ := c_sun h.qC g 
  obtain ⟨σ2, E2, F2, M2⟩ := v_sun (MIv_out h.qM F1) g' 
  have C2 := CIv_out C1 F2
  refine ⟨σ1, σ2, _, E1, Ev.rs (congrArg (fun z : Int32 => some (Value.int z)) ?_) rfl E2, ?_, sc F1 F2, F1.1, (F1.2 0 (Or.inl (by decide))).2⟩
  · have e := smN_de (a := N.tr) (de := suN N.tr N.st N.me N.de) (de' := suN N.tr N.st N.me de) (N.st - N.tr) (fun k a b => suN_de h.qd k (by omega))
    first | (rw [e]; done) | (rw [e]; rfl)
  · exact ⟨pm, pg, n_sun N, K, img, sl, bd, fd, (suN N.tr N.st N.me de), fo, kd, ko, kso, C2, M2, Gd_sun g, (fun k hk => suN_de h.qd k hk), h.qf, h.q5, h.qp, h.qq, (by omega), h.qb, h.qa, h.qi, h.qj, h.qk⟩
theorem s_bestC {c : Nat} {σ : Sto} (h : Sm c σ) (x : Int32) : ∃ (σ1 σ2 : Sto) (v : Int32), Ev 16 0 0 63 [.ref 1, .int x] σ (some (.int v)) σ1 ∧ Ev 5 0 0 116 [.ref 77, .int x] σ1 (some (.int v)) σ2 ∧ Sm (c + 1) σ2 ∧ σ2.2.2 0 = σ.2.2 0 ∧ σ1.1 = σ.1 ∧ σ1.2.2 0 = σ.2.2 0 := by
  obtain ⟨pm, pg, N, K, img, sl, bd, fd, de, fo, kd, ko, kso, h⟩ := h
  have g := h.qg
  have g' := Gd_rep g h.qd h.q5
  have hts := g.ts
  have hs := h.qs
  obtain ⟨σ1, E1, F1, C1⟩ := c_best h.qC g h.qb x
  obtain ⟨σ2, E2, F2, M2⟩ := v_best (MIv_out h.qM F1) g' h.qb x
  have C2 := CIv_out C1 F2
  refine ⟨σ1, σ2, _, E1, Ev.rs (congrArg (fun z : Int32 => some (Value.int z)) ?_) rfl E2, ?_, sc F1 F2, F1.1, (F1.2 0 (Or.inl (by decide))).2⟩
  · first | (rw [r_best_de g.ts h.qd]; done) | (rw [r_best_de g.ts h.qd]; rfl)
  · have hb : (if okB N.w bd x then bd + 1 else bd) ≤ 20 := by
      have := h.qb
      split
      · next e =>
        simp only [okB, Bool.and_eq_true, decide_eq_true_eq] at e
        omega
      · omega
    exact ⟨pm, pg, N, K, img, sl, (if okB N.w bd x then bd + 1 else bd), fd, de, fo, kd, ko, kso, C2, M2, g, h.qd, h.qf, h.q5, h.qp, h.qq, (by omega), hb, h.qa, h.qi, h.qj, h.qk⟩
theorem s_far {c : Nat} {σ : Sto} (h : Sm c σ) (x : Int32) : ∃ (σ1 σ2 : Sto) (v : Int32), Ev 3 0 0 64 [.ref 1, .int x] σ (some (.int v)) σ1 ∧ Ev 3 0 0 118 [.ref 77, .int x] σ1 (some (.int v)) σ2 ∧ Sm (c + 1) σ2 ∧ σ2.2.2 0 = σ.2.2 0 ∧ σ1.1 = σ.1 ∧ σ1.2.2 0 = σ.2.2 0 := by
  obtain ⟨pm, pg, N, K, img, sl, bd, fd, de, fo, kd, ko, kso, h⟩ := h
  have g := h.qg
  have g' := Gd_rep g h.qd h.q5
  have hts := g.ts
  have hs := h.qs
  obtain ⟨σ1, E1, F1, C1⟩ := c_far h.qC g x
  obtain ⟨σ2, E2, F2, M2⟩ := v_far (MIv_out h.qM F1) g' x
  have C2 := CIv_out C1 F2
  refine ⟨σ1, σ2, _, E1, Ev.rs (congrArg (fun z : Int32 => some (Value.int z)) ?_) rfl E2, ?_, sc F1 F2, F1.1, (F1.2 0 (Or.inl (by decide))).2⟩
  · first | (rw [faN_de0 g.ts h.qd]; done) | (rw [faN_de0 g.ts h.qd]; rfl)
  · exact ⟨pm, pg, N, K, img, sl, bd, fd, de, fo, kd, ko, kso, C2, M2, g, h.qd, h.qf, h.q5, h.qp, h.qq, (by omega), h.qb, h.qa, h.qi, h.qj, h.qk⟩
theorem s_setOutC {c : Nat} {σ : Sto} (h : Sm c σ) (x : Int32) : ∃ (σ1 σ2 : Sto) (v : Int32), Ev 16 0 0 65 [.ref 1, .int x] σ (some (.int v)) σ1 ∧ Ev 4 0 0 122 [.ref 77, .int x] σ1 (some (.int v)) σ2 ∧ Sm (c + 1) σ2 ∧ σ2.2.2 0 = σ.2.2 0 ∧ σ1.1 = σ.1 ∧ σ1.2.2 0 = σ.2.2 0 := by
  obtain ⟨pm, pg, N, K, img, sl, bd, fd, de, fo, kd, ko, kso, h⟩ := h
  have g := h.qg
  have g' := Gd_rep g h.qd h.q5
  have hts := g.ts
  have hs := h.qs
  obtain ⟨σ1, E1, F1, C1⟩ := c_setOut h.qC g x
  obtain ⟨σ2, E2, F2, M2⟩ := v_setOut (MIv_out h.qM F1) g' x
  have C2 := CIv_out C1 F2
  refine ⟨σ1, σ2, _, E1, Ev.rs (congrArg (fun z : Int32 => some (Value.int z)) ?_) rfl E2, ?_, sc F1 F2, F1.1, (F1.2 0 (Or.inl (by decide))).2⟩
  · first | (rw [r_setOut_de h.qd]; done) | (rw [r_setOut_de h.qd]; rfl)
  · exact ⟨pm, pg, N, K, img, sl, bd, fd, de, fo, kd, ko, kso, C2, M2, g, h.qd, h.qf, h.q5, h.qp, h.qq, (by omega), h.qb, h.qa, h.qi, h.qj, h.qk⟩
theorem s_tell {c : Nat} {σ : Sto} (h : Sm c σ) (x y : Int32) : ∃ (σ1 σ2 : Sto) (v : Int32), Ev 1 0 0 66 [.ref 1, .int x, .int y] σ (some (.int v)) σ1 ∧ Ev 2 0 0 123 [.ref 77, .int x, .int y] σ1 (some (.int v)) σ2 ∧ Sm (c + 1) σ2 ∧ σ2.2.2 0 = σ.2.2 0 ∧ σ1.1 = σ.1 ∧ σ1.2.2 0 = σ.2.2 0 := by
  obtain ⟨pm, pg, N, K, img, sl, bd, fd, de, fo, kd, ko, kso, h⟩ := h
  have g := h.qg
  have g' := Gd_rep g h.qd h.q5
  have hts := g.ts
  have hs := h.qs
  obtain ⟨σ1, E1, F1, C1⟩ := c_tell h.qC g x y
  obtain ⟨σ2, E2, F2, M2⟩ := v_tell (MIv_out h.qM F1) g' x y
  have C2 := CIv_out C1 F2
  refine ⟨σ1, σ2, _, E1, Ev.rs (congrArg (fun z : Int32 => some (Value.int z)) ?_) rfl E2, ?_, sc F1 F2, F1.1, (F1.2 0 (Or.inl (by decide))).2⟩
  · rfl
  · exact ⟨pm, pg, n_tell N x y, K, img, sl, bd, fd, de, fo, kd, ko, kso, C2, M2, Gd_tell g, h.qd, h.qf, h.q5, h.qp, h.qq, (by omega), h.qb, h.qa, h.qi, h.qj, h.qk⟩
theorem s_fits {c : Nat} {σ : Sto} (h : Sm c σ) : ∃ (σ1 σ2 : Sto) (v : Int32), Ev 16 0 0 67 [.ref 1] σ (some (.int v)) σ1 ∧ Ev 4 0 0 126 [.ref 77] σ1 (some (.int v)) σ2 ∧ Sm (c + 1) σ2 ∧ σ2.2.2 0 = σ.2.2 0 ∧ σ1.1 = σ.1 ∧ σ1.2.2 0 = σ.2.2 0 := by
  obtain ⟨pm, pg, N, K, img, sl, bd, fd, de, fo, kd, ko, kso, h⟩ := h
  have g := h.qg
  have g' := Gd_rep g h.qd h.q5
  have hts := g.ts
  have hs := h.qs
  obtain ⟨σ1, E1, F1, C1⟩ := c_fits h.qC g h.qa 
  obtain ⟨σ2, E2, F2, M2⟩ := v_fits (MIv_out h.qM F1) g' h.qa 
  have C2 := CIv_out C1 F2
  refine ⟨σ1, σ2, _, E1, Ev.rs (congrArg (fun z : Int32 => some (Value.int z)) ?_) rfl E2, ?_, sc F1 F2, F1.1, (F1.2 0 (Or.inl (by decide))).2⟩
  · first | (rw [ftN_de g.ts h.qd]; done) | (rw [ftN_de g.ts h.qd]; rfl)
  · have hb : (if N.w = 0 ∨ fd = 40 then fd else fd + 1) ≤ 40 := by
      have := h.qa
      split <;> omega
    exact ⟨pm, pg, N, K, img, sl, bd, (if N.w = 0 ∨ fd = 40 then fd else fd + 1), de, fo, kd, ko, kso, C2, M2, g, h.qd, h.qf, h.q5, h.qp, h.qq, (by omega), h.qb, hb, h.qi, h.qj, h.qk⟩
theorem s_sure {c : Nat} {σ : Sto} (h : Sm c σ) (x : Int32) : ∃ (σ1 σ2 : Sto) (v : Int32), Ev 16 0 0 68 [.ref 1, .int x] σ (some (.int v)) σ1 ∧ Ev 4 0 0 127 [.ref 77, .int x] σ1 (some (.int v)) σ2 ∧ Sm (c + 1) σ2 ∧ σ2.2.2 0 = σ.2.2 0 ∧ σ1.1 = σ.1 ∧ σ1.2.2 0 = σ.2.2 0 := by
  obtain ⟨pm, pg, N, K, img, sl, bd, fd, de, fo, kd, ko, kso, h⟩ := h
  have g := h.qg
  have g' := Gd_rep g h.qd h.q5
  have hts := g.ts
  have hs := h.qs
  obtain ⟨σ1, E1, F1, C1⟩ := c_sure h.qC g h.qa x
  obtain ⟨σ2, E2, F2, M2⟩ := v_sure (MIv_out h.qM F1) g' h.qa x
  have C2 := CIv_out C1 F2
  refine ⟨σ1, σ2, _, E1, Ev.rs (congrArg (fun z : Int32 => some (Value.int z)) ?_) rfl E2, ?_, sc F1 F2, F1.1, (F1.2 0 (Or.inl (by decide))).2⟩
  · first | (rw [r_sure_de g.ts h.qd]; done) | (rw [r_sure_de g.ts h.qd]; rfl)
  · have hb : (if okSu N.tr N.st N.w fd x then fd + 1 else fd) ≤ 40 := by
      have := h.qa
      split
      · next e =>
        simp only [okSu, Bool.and_eq_true, decide_eq_true_eq] at e
        omega
      · omega
    exact ⟨pm, pg, N, K, img, sl, bd, (if okSu N.tr N.st N.w fd x then fd + 1 else fd), de, fo, kd, ko, kso, C2, M2, g, h.qd, h.qf, h.q5, h.qp, h.qq, (by omega), h.qb, hb, h.qi, h.qj, h.qk⟩
theorem s_days {c : Nat} {σ : Sto} (h : Sm c σ) (x y z : Int32) : ∃ (σ1 σ2 : Sto) (v : Int32), Ev 4 0 0 69 [.ref 1, .int x, .int y, .int z] σ (some (.int v)) σ1 ∧ Ev 2 0 0 130 [.ref 77, .int x, .int y, .int z] σ1 (some (.int v)) σ2 ∧ Sm (c + 1) σ2 ∧ σ2.2.2 0 = σ.2.2 0 ∧ σ1.1 = σ.1 ∧ σ1.2.2 0 = σ.2.2 0 := by
  obtain ⟨pm, pg, N, K, img, sl, bd, fd, de, fo, kd, ko, kso, h⟩ := h
  have g := h.qg
  have g' := Gd_rep g h.qd h.q5
  have hts := g.ts
  have hs := h.qs
  obtain ⟨σ1, E1, F1, C1⟩ := c_days h.qC g x y z
  obtain ⟨σ2, E2, F2, M2⟩ := v_days (MIv_out h.qM F1) g' x y z
  have C2 := CIv_out C1 F2
  refine ⟨σ1, σ2, _, E1, Ev.rs (congrArg (fun z : Int32 => some (Value.int z)) ?_) rfl E2, ?_, sc F1 F2, F1.1, (F1.2 0 (Or.inl (by decide))).2⟩
  · first | (rw [r_days_de h.qd]; done) | (rw [r_days_de h.qd]; rfl)
  · exact ⟨pm, pg, N, K, img, sl, bd, fd, de, fo, kd, ko, kso, C2, M2, g, h.qd, h.qf, h.q5, h.qp, h.qq, (by omega), h.qb, h.qa, h.qi, h.qj, h.qk⟩
theorem s_image {c : Nat} {σ : Sto} (h : Sm c σ) : ∃ (σ1 σ2 : Sto) (v : Int32), Ev 1 0 0 70 [.ref 1] σ (some (.int v)) σ1 ∧ Ev 1 0 0 131 [.ref 77] σ1 (some (.int v)) σ2 ∧ Sm (c + 1) σ2 ∧ σ2.2.2 0 = σ.2.2 0 ∧ σ1.1 = σ.1 ∧ σ1.2.2 0 = σ.2.2 0 := by
  obtain ⟨pm, pg, N, K, img, sl, bd, fd, de, fo, kd, ko, kso, h⟩ := h
  have g := h.qg
  have g' := Gd_rep g h.qd h.q5
  have hts := g.ts
  have hs := h.qs
  obtain ⟨σ1, E1, F1, C1⟩ := c_image h.qC g 
  obtain ⟨σ2, E2, F2, M2⟩ := v_image (MIv_out h.qM F1) g' 
  have C2 := CIv_out C1 F2
  refine ⟨σ1, σ2, _, E1, Ev.rs (congrArg (fun z : Int32 => some (Value.int z)) ?_) rfl E2, ?_, sc F1 F2, F1.1, (F1.2 0 (Or.inl (by decide))).2⟩
  · rfl
  · have M2 : MIv σ2 pm pg (rep N de fo) (if N.st = 0 then rep K kd ko else rep N de fo) (if N.st = 0 then kso else some sl) sl bd fd := M2
    by_cases e : N.st = 0
    · simp only [if_pos e] at C2 M2
      exact ⟨pm, pg, N, K, img, sl, bd, fd, de, fo, kd, ko, kso, C2, M2, g, h.qd, h.qf, h.q5, h.qp, h.qq, (by omega), h.qb, h.qa, h.qi, h.qj, h.qk⟩
    · simp only [if_neg e] at C2 M2
      exact ⟨pm, pg, N, N, true, sl, bd, fd, de, fo, de, fo, (some sl), C2, M2, g, h.qd, h.qf, h.q5, h.qp, h.qq, (by omega), h.qb, h.qa, (decide_eq_true rfl).symm, (fun j hj => (by cases hj; exact Nat.le_refl _)), (fun _ => ⟨rfl, rfl, g, h.qd, h.qf, h.q5⟩)⟩
theorem s_restore {c : Nat} {σ : Sto} (h : Sm c σ) (hc : c ≤ 1000) : ∃ (σ1 σ2 : Sto) (v : Int32), Ev 1 0 0 71 [.ref 1] σ (some (.int v)) σ1 ∧ Ev 1 0 0 132 [.ref 77] σ1 (some (.int v)) σ2 ∧ Sm (c + 1) σ2 ∧ σ2.2.2 0 = σ.2.2 0 ∧ σ1.1 = σ.1 ∧ σ1.2.2 0 = σ.2.2 0 := by
  obtain ⟨pm, pg, N, K, img, sl, bd, fd, de, fo, kd, ko, kso, h⟩ := h
  have g := h.qg
  have g' := Gd_rep g h.qd h.q5
  have hts := g.ts
  have hs := h.qs
  obtain ⟨σ1, E1, F1, C1⟩ := c_restore h.qC  
  obtain ⟨σ2, E2, F2, M2⟩ := v_restore (MIv_out h.qM F1) (fun j hj => Nat.lt_of_le_of_lt (h.qj j hj) (show sl < 2 ^ 31 by omega)) (show sl < 2 ^ 31 by omega) 
  have C2 := CIv_out C1 F2
  refine ⟨σ1, σ2, _, E1, Ev.rs (congrArg (fun z : Int32 => some (Value.int z)) ?_) rfl E2, ?_, sc F1 F2, F1.1, (F1.2 0 (Or.inl (by decide))).2⟩
  · rw [h.qi]
    by_cases e : kso = some sl
    · rw [if_pos (decide_eq_true e), if_pos e]
    · rw [if_neg (by simp [e]), if_neg e]
  · have hi := h.qi
    by_cases e : kso = some sl
    · have hi : img = true := by rw [hi]; exact decide_eq_true e
      obtain ⟨k1, k2, k3, k4, k5, k6⟩ := h.qk hi
      simp only [if_pos e] at M2
      simp only [hi, if_true] at C2
      have M2 : MIv σ2 pm pg (mkT N.st N.me K.tr K.w K.mi kd K.ki K.sr K.le K.fi ko K.to) (rep K kd ko) kso sl bd fd := M2
      rw [← k1, ← k2] at M2
      exact ⟨pm, pg, K, K, true, sl, bd, fd, kd, ko, kd, ko, kso, C2, M2, k3, k4, k5, k6, h.qp, h.qq, (by omega), h.qb, h.qa, (decide_eq_true e).symm, h.qj, (fun _ => ⟨rfl, rfl, k3, k4, k5, k6⟩)⟩
    · have hi : img = false := by rw [hi]; exact decide_eq_false e
      simp only [if_neg e] at M2
      simp only [hi, if_false, Bool.false_eq_true] at C2
      exact ⟨pm, pg, N, K, false, sl, bd, fd, de, fo, kd, ko, kso, C2, M2, g, h.qd, h.qf, h.q5, h.qp, h.qq, (by omega), h.qb, h.qa, (decide_eq_false e).symm, h.qj, (fun z => (by cases z))⟩
theorem s_count {c : Nat} {σ : Sto} (h : Sm c σ) (x : Int32) : ∃ (σ1 σ2 : Sto) (v : Int32), Ev 1 0 0 72 [.ref 1, .int x] σ (some (.int v)) σ1 ∧ Ev 1 0 0 134 [.ref 77, .int x] σ1 (some (.int v)) σ2 ∧ Sm (c + 1) σ2 ∧ σ2.2.2 0 = σ.2.2 0 ∧ σ1.1 = σ.1 ∧ σ1.2.2 0 = σ.2.2 0 := by
  obtain ⟨pm, pg, N, K, img, sl, bd, fd, de, fo, kd, ko, kso, h⟩ := h
  have g := h.qg
  have g' := Gd_rep g h.qd h.q5
  have hts := g.ts
  have hs := h.qs
  obtain ⟨σ1, E1, F1, C1⟩ := c_count h.qC g x
  obtain ⟨σ2, E2, F2, M2⟩ := v_count (MIv_out h.qM F1) g' x
  have C2 := CIv_out C1 F2
  refine ⟨σ1, σ2, _, E1, Ev.rs (congrArg (fun z : Int32 => some (Value.int z)) ?_) rfl E2, ?_, sc F1 F2, F1.1, (F1.2 0 (Or.inl (by decide))).2⟩
  · rfl
  · exact ⟨pm, pg, N, K, img, sl, bd, fd, de, fo, kd, ko, kso, C2, M2, g, h.qd, h.qf, h.q5, h.qp, h.qq, (by omega), h.qb, h.qa, h.qi, h.qj, h.qk⟩
theorem s_digest {c : Nat} {σ : Sto} (h : Sm c σ) : ∃ (σ1 σ2 : Sto) (v : Int64), Ev 17 0 0 73 [.ref 1] σ (some (.long v)) σ1 ∧ Ev 4 0 0 136 [.ref 77] σ1 (some (.long v)) σ2 ∧ Sm (c + 1) σ2 ∧ σ2.2.2 0 = σ.2.2 0 ∧ σ1.1 = σ.1 ∧ σ1.2.2 0 = σ.2.2 0 := by
  obtain ⟨pm, pg, N, K, img, sl, bd, fd, de, fo, kd, ko, kso, h⟩ := h
  have g := h.qg
  have g' := Gd_rep g h.qd h.q5
  have hts := g.ts
  have hs := h.qs
  obtain ⟨σ1, E1, F1, C1⟩ := c_digest h.qC g h.qp 
  obtain ⟨σ2, E2, F2, M2⟩ := v_digest (MIv_out h.qM F1) g' h.qp 
  have C2 := CIv_out C1 F2
  refine ⟨σ1, σ2, _, E1, Ev.rs (congrArg (fun z : Int64 => some (Value.long z)) ?_) rfl E2, ?_, sc F1 F2, F1.1, (F1.2 0 (Or.inl (by decide))).2⟩
  · exact r_digest_de g.ts h.qd h.qf
  · exact ⟨pm, pg, N, K, img, sl, bd, fd, de, fo, kd, ko, kso, C2, M2, g, h.qd, h.qf, h.q5, h.qp, h.qq, (by omega), h.qb, h.qa, h.qi, h.qj, h.qk⟩
theorem Sm_k {c : Nat} {σ : Sto} (h : Sm c σ) : σ.1[1]? = some 6 ∧ σ.1[77]? = some 7 := by
  obtain ⟨pm, pg, N, K, img, sl, bd, fd, de, fo, kd, ko, kso, h⟩ := h
  exact ⟨h.qC.k.X, h.qM.1.1⟩

end S43b
