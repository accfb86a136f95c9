section S42

abbrev rep (N : Trl) (de : Nat → Nat) (fo : Nat → Option Nat) : Trl := mkT N.st N.me N.tr N.w N.mi de N.ki N.sr N.le N.fi fo N.to
abbrev z0 : Nat → Nat := fun _ => 0
abbrev zO : Nat → Option Nat := fun _ => some 0
abbrev tr0 : Trl := mkT 0 0 0 0 (nI 0) z0 z0 z0 z0 z0 zO zO
theorem rw3_0 : arrI 15 (rw3 z0 z0 zO) = arr 15 z0 := arrI_ext fun j _ => by
  unfold rw3
  split
  · rfl
  · split <;> rfl
theorem s_init {σ : Sto} (hn : σ.1 = [102]) : ∃ σ1 σ2, Ev 4 75 796 49 [.ref 1] (newO σ 6) none σ1 ∧ Ev 1 19 127 78 [.ref 77] (newO σ1 7) none σ2 ∧ σ1.1.length = 77 ∧ σ2.2.2 0 = σ.2.2 0 ∧ CIv σ2 0 z0 tr0 tr0 false 0 0 0 ∧ MIv σ2 0 z0 tr0 tr0 none 0 0 0 := by
  obtain ⟨σ1, E1, ⟨q1, s1⟩, hX, hP, hN, hK, hT, hB, hBW, hBT, hO, hOW, hOT, hS, hST⟩ := n_TB hn
  have hl : σ1.1.length = 77 := by rw [q1]; rfl
  obtain ⟨σ2, E2, g2, hM⟩ := n_Model hl
  have q2 : σ2.1 = [102, 6, 2, 100, 4, 100, 100, 100, 100, 100, 100, 100, 100, 4, 100, 100, 100, 100, 100, 100, 100, 100, 4, 100, 100, 100, 100, 100, 100, 100, 100, 0, 5, 4, 100, 100, 100, 100, 100, 100, 100, 100, 100, 100, 100, 100, 100, 1, 5, 4, 100, 100, 100, 100, 100, 100, 100, 100, 100, 100, 100, 100, 100, 100, 3, 4, 100, 100, 100, 100, 100, 100, 100, 100, 101, 100, 100, 7, 100, 100, 100, 100, 100, 100, 100, 100, 100, 100, 100, 100, 100, 100, 100, 100, 100, 100, 100] := by rw [g2.1, q1]; rfl
  have kM : KM σ2 77 := by unfold KM; rw [q2]; decide
  refine ⟨σ1, σ2, E1, E2, hl, ((g2.2 0 (by rw [hl]; decide)).2).trans s1, ?_, ?_⟩
  · refine ⟨⟨?_, ?_, ?_, ?_, ?_, ?_, ?_, ?_, ?_, ?_, ?_, ?_, ?_, kM⟩, Hs_Gn g2 hX (by rw [hl]; decide) (by rw [hl]; decide), Hs_Gn g2 hP (by rw [hl]; decide) (by rw [hl]; simp [pgA]), ⟨z0, Hs_Gn g2 hN (by rw [hl]; decide) (by rw [hl]; simp [trA])⟩, ⟨z0, Hs_Gn g2 hK (by rw [hl]; decide) (by rw [hl]; simp [trA])⟩, ⟨_, _, _, _, _, z0, z0, z0, z0, z0, z0, zO, zO, Hs_Gn g2 hT (by rw [hl]; decide) (by rw [hl]; simp [trA])⟩, ⟨⟨_, _, _, _, _, z0, z0, z0, z0, z0, _, zO, zO, Hs_Gn g2 hBT (by rw [hl]; decide) (by rw [hl]; simp [trA])⟩, ⟨_, _, _, z0, z0, z0, Hs_Gn g2 hBW (by rw [hl]; decide) (by rw [hl]; simp [wyA])⟩, _, _, zO, zO, Hs_Gn g2 hB (by rw [hl]; decide) (by rw [hl]; simp [bsA])⟩, ⟨⟨_, _, _, _, _, z0, z0, z0, z0, z0, _, zO, zO, Hs_Gn g2 hOT (by rw [hl]; decide) (by rw [hl]; simp [trA])⟩, ⟨_, _, _, z0, z0, z0, Hs_Gn g2 hOW (by rw [hl]; decide) (by rw [hl]; simp [wyA])⟩, _, _, _, zO, z0, z0, Hs_Gn g2 hO (by rw [hl]; decide) (by rw [hl]; simp [bkA])⟩, ⟨⟨_, _, _, _, _, z0, z0, z0, z0, z0, z0, zO, zO, Hs_Gn g2 hST (by rw [hl]; decide) (by rw [hl]; simp [trA])⟩, _, fun _ => false, z0, zO, Hs_Gn g2 hS (by rw [hl]; decide) (by rw [hl]; simp [stA])⟩⟩
    · rw [q2]; rfl
    · unfold KP; rw [q2]; decide
    · unfold KT; rw [q2]; decide
    · unfold KT; rw [q2]; decide
    · unfold KT; rw [q2]; decide
    · unfold KB; rw [q2]; decide
    · unfold KW; rw [q2]; decide
    · unfold KT; rw [q2]; decide
    · unfold KK; rw [q2]; decide
    · unfold KW; rw [q2]; decide
    · unfold KT; rw [q2]; decide
    · unfold KS; rw [q2]; decide
    · unfold KT; rw [q2]; decide
  · refine ⟨kM, nI 0, nI 0, nI 0, nI 0, nI 0, nI 0, 0, 0, z0, z0, z0, z0, z0, z0, z0, z0, ?_⟩
    rw [rw3_0]
    exact hM
def Sq (c : Nat) (σ : Sto) (pm : Nat) (pg : Nat → Nat) (N K : Trl) (img : Bool) (sl bd fd : Nat) (de : Nat → Nat) (fo : Nat → Option Nat) (kd : Nat → Nat) (ko : Nat → Option Nat) (kso : Option Nat) : Prop := (CIv σ pm pg N K img sl bd fd) ∧ (MIv σ pm pg (rep N de fo) (rep K kd ko) kso sl bd fd) ∧ (Gd N) ∧ (∀ k, k < N.st → N.de k = de k) ∧ (∀ k, k < N.st → N.fo k = fo k) ∧ (∀ k j, fo k = some j → j < 5) ∧ (pm ≤ 10) ∧ (∀ k, k < pm → pg k < 1000) ∧ (sl ≤ c) ∧ (bd ≤ 20) ∧ (fd ≤ 40) ∧ (img = decide (kso = some sl)) ∧ (∀ j, kso = some j → j ≤ sl) ∧ (img = true → K.st = N.st ∧ K.me = N.me ∧ Gd K ∧ (∀ k, k < K.st → K.de k = kd k) ∧ (∀ k, k < K.st → K.fo k = ko k) ∧ ∀ k j, ko k = some j → j < 5)
theorem Sq.qC {c : Nat} {σ : Sto} {pm : Nat} {pg : Nat → Nat} {N K : Trl} {img : Bool} {sl bd fd : Nat} {de : Nat → Nat} {fo : Nat → Option Nat} {kd : Nat → Nat} {ko : Nat → Option Nat} {kso : Option Nat} (h : Sq c σ pm pg N K img sl bd fd de fo kd ko kso) : CIv σ pm pg N K img sl bd fd := h.1
theorem Sq.qM {c : Nat} {σ : Sto} {pm : Nat} {pg : Nat → Nat} {N K : Trl} {img : Bool} {sl bd fd : Nat} {de : Nat → Nat} {fo : Nat → Option Nat} {kd : Nat → Nat} {ko : Nat → Option Nat} {kso : Option Nat} (h : Sq c σ pm pg N K img sl bd fd de fo kd ko kso) : MIv σ pm pg (rep N de fo) (rep K kd ko) kso sl bd fd := h.2.1
theorem Sq.qg {c : Nat} {σ : Sto} {pm : Nat} {pg : Nat → Nat} {N K : Trl} {img : Bool} {sl bd fd : Nat} {de : Nat → Nat} {fo : Nat → Option Nat} {kd : Nat → Nat} {ko : Nat → Option Nat} {kso : Option Nat} (h : Sq c σ pm pg N K img sl bd fd de fo kd ko kso) : Gd N := h.2.2.1
theorem Sq.qd {c : Nat} {σ : Sto} {pm : Nat} {pg : Nat → Nat} {N K : Trl} {img : Bool} {sl bd fd : Nat} {de : Nat → Nat} {fo : Nat → Option Nat} {kd : Nat → Nat} {ko : Nat → Option Nat} {kso : Option Nat} (h : Sq c σ pm pg N K img sl bd fd de fo kd ko kso) : ∀ k, k < N.st → N.de k = de k := h.2.2.2.1
theorem Sq.qf {c : Nat} {σ : Sto} {pm : Nat} {pg : Nat → Nat} {N K : Trl} {img : Bool} {sl bd fd : Nat} {de : Nat → Nat} {fo : Nat → Option Nat} {kd : Nat → Nat} {ko : Nat → Option Nat} {kso : Option Nat} (h : Sq c σ pm pg N K img sl bd fd de fo kd ko kso) : ∀ k, k < N.st → N.fo k = fo k := h.2.2.2.2.1
theorem Sq.q5 {c : Nat} {σ : Sto} {pm : Nat} {pg : Nat → Nat} {N K : Trl} {img : Bool} {sl bd fd : Nat} {de : Nat → Nat} {fo : Nat → Option Nat} {kd : Nat → Nat} {ko : Nat → Option Nat} {kso : Option Nat} (h : Sq c σ pm pg N K img sl bd fd de fo kd ko kso) : ∀ k j, fo k = some j → j < 5 := h.2.2.2.2.2.1
theorem Sq.qp {c : Nat} {σ : Sto} {pm : Nat} {pg : Nat → Nat} {N K : Trl} {img : Bool} {sl bd fd : Nat} {de : Nat → Nat} {fo : Nat → Option Nat} {kd : Nat → Nat} {ko : Nat → Option Nat} {kso : Option Nat} (h : Sq c σ pm pg N K img sl bd fd de fo kd ko kso) : pm ≤ 10 := h.2.2.2.2.2.2.1
theorem Sq.qq {c : Nat} {σ : Sto} {pm : Nat} {pg : Nat → Nat} {N K : Trl} {img : Bool} {sl bd fd : Nat} {de : Nat → Nat} {fo : Nat → Option Nat} {kd : Nat → Nat} {ko : Nat → Option Nat} {kso : Option Nat} (h : Sq c σ pm pg N K img sl bd fd de fo kd ko kso) : ∀ k, k < pm → pg k < 1000 := h.2.2.2.2.2.2.2.1
theorem Sq.qs {c : Nat} {σ : Sto} {pm : Nat} {pg : Nat → Nat} {N K : Trl} {img : Bool} {sl bd fd : Nat} {de : Nat → Nat} {fo : Nat → Option Nat} {kd : Nat → Nat} {ko : Nat → Option Nat} {kso : Option Nat} (h : Sq c σ pm pg N K img sl bd fd de fo kd ko kso) : sl ≤ c := h.2.2.2.2.2.2.2.2.1
theorem Sq.qb {c : Nat} {σ : Sto} {pm : Nat} {pg : Nat → Nat} {N K : Trl} {img : Bool} {sl bd fd : Nat} {de : Nat → Nat} {fo : Nat → Option Nat} {kd : Nat → Nat} {ko : Nat → Option Nat} {kso : Option Nat} (h : Sq c σ pm pg N K img sl bd fd de fo kd ko kso) : bd ≤ 20 := h.2.2.2.2.2.2.2.2.2.1
theorem Sq.qa {c : Nat} {σ : Sto} {pm : Nat} {pg : Nat → Nat} {N K : Trl} {img : Bool} {sl bd fd : Nat} {de : Nat → Nat} {fo : Nat → Option Nat} {kd : Nat → Nat} {ko : Nat → Option Nat} {kso : Option Nat} (h : Sq c σ pm pg N K img sl bd fd de fo kd ko kso) : fd ≤ 40 := h.2.2.2.2.2.2.2.2.2.2.1
theorem Sq.qi {c : Nat} {σ : Sto} {pm : Nat} {pg : Nat → Nat} {N K : Trl} {img : Bool} {sl bd fd : Nat} {de : Nat → Nat} {fo : Nat → Option Nat} {kd : Nat → Nat} {ko : Nat → Option Nat} {kso : Option Nat} (h : Sq c σ pm pg N K img sl bd fd de fo kd ko kso) : img = decide (kso = some sl) := h.2.2.2.2.2.2.2.2.2.2.2.1
theorem Sq.qj {c : Nat} {σ : Sto} {pm : Nat} {pg : Nat → Nat} {N K : Trl} {img : Bool} {sl bd fd : Nat} {de : Nat → Nat} {fo : Nat → Option Nat} {kd : Nat → Nat} {ko : Nat → Option Nat} {kso : Option Nat} (h : Sq c σ pm pg N K img sl bd fd de fo kd ko kso) : ∀ j, kso = some j → j ≤ sl := h.2.2.2.2.2.2.2.2.2.2.2.2.1
theorem Sq.qk {c : Nat} {σ : Sto} {pm : Nat} {pg : Nat → Nat} {N K : Trl} {img : Bool} {sl bd fd : Nat} {de : Nat → Nat} {fo : Nat → Option Nat} {kd : Nat → Nat} {ko : Nat → Option Nat} {kso : Option Nat} (h : Sq c σ pm pg N K img sl bd fd de fo kd ko kso) : img = true → K.st = N.st ∧ K.me = N.me ∧ Gd K ∧ (∀ k, k < K.st → K.de k = kd k) ∧ (∀ k, k < K.st → K.fo k = ko k) ∧ ∀ k j, ko k = some j → j < 5 := h.2.2.2.2.2.2.2.2.2.2.2.2.2
def Sm (c : Nat) (σ : Sto) : Prop := ∃ (pm : Nat) (pg : Nat → Nat) (N K : Trl) (img : Bool) (sl bd fd : Nat) (de : Nat → Nat) (fo : Nat → Option Nat) (kd : Nat → Nat) (ko : Nat → Option Nat) (kso : Option Nat), Sq c σ pm pg N K img sl bd fd de fo kd ko kso
theorem PF_0 {fi : Nat → Nat} : PF 0 fi := ⟨fun p hp => by omega, fun p q hp => by omega, fun v hv => by omega⟩
theorem Gd_0 : Gd tr0 := ⟨Nat.le_refl _, by decide, by decide, PF_0, fun v hv => absurd hv (Nat.not_lt_zero _), fun v hv => absurd hv (Nat.not_lt_zero _), fun v hv => absurd hv (Nat.not_lt_zero _), fun v hv => absurd hv (Nat.not_lt_zero _), by decide, fun k j hj => by cases hj; decide, fun v hv => absurd hv (Nat.not_lt_zero _)⟩
theorem Sm_0 {σ : Sto} (h1 : CIv σ 0 z0 tr0 tr0 false 0 0 0) (h2 : MIv σ 0 z0 tr0 tr0 none 0 0 0) : Sm 0 σ := ⟨0, z0, tr0, tr0, false, 0, 0, 0, z0, zO, z0, zO, none, h1, h2, Gd_0, fun _ _ => rfl, fun _ _ => rfl, fun k j hj => by cases hj; decide, by decide, fun k hk => absurd hk (Nat.not_lt_zero _), Nat.le_refl _, by decide, by decide, rfl, fun j hj => (by cases hj), fun h => (by cases h)⟩
theorem Gd_rep {N : Trl} {de : Nat → Nat} {fo : Nat → Option Nat} (g : Gd N) (hd : ∀ k, k < N.st → N.de k = de k) (h5 : ∀ k j, fo k = some j → j < 5) : Gd (rep N de fo) := ⟨g.ts, g.s6, g.w5, g.f, g.ki, g.sr, g.le, fun k hk => by have := g.de k hk; rw [hd k hk] at this; exact this, g.me, h5, g.to⟩
theorem sc {σ σ1 σ2 : Sto} (h1 : Fr σ σ1 1 76) (h2 : Fr σ1 σ2 77 20) : σ2.2.2 0 = σ.2.2 0 := (h2.2 0 (Or.inl (by decide))).2.trans (h1.2 0 (Or.inl (by decide))).2

end S42
