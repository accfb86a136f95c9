
/-! the page -/
def pgF (p : Nat) (sz : Int32) : List Value := [.ref (p + 1 + 0), .int sz]
def pgA (acd : List Int32) : List (List Int32) := [acd]
def KP (σ : Sto) (p : Nat) : Prop := σ.1[p]? = some 2 ∧ ∀ j, j < 1 → σ.1[p + 1 + j]? = some 100
def JN (pg : Nat → Nat) (k s r : Nat) : Prop := (k = 0 ∧ s = 0 ∧ r = 0) ∨ (s = 1 ∧ r = k ∧ 1 ≤ k ∧ k ≤ 6 ∧ ∀ j, j < k → dgt (pg j) = true) ∨ (s = 2 ∧ r + 1 = k ∧ 1 ≤ r ∧ r ≤ 6 ∧ (∀ j, j < r → dgt (pg j) = true) ∧ pg r = 59) ∨ (s = 3 ∧ r + 2 = k ∧ 1 ≤ r ∧ r ≤ 6 ∧ (∀ j, j < r → dgt (pg j) = true) ∧ pg r = 59 ∧ dgt (pg (r + 1)) = true)
theorem goN_J {pg : Nat → Nat} {k s r : Nat} (h : JN pg k s r) (hg : (goN s r (pg k)).1 = true) : JN pg (k + 1) (goN s r (pg k)).2.1 (goN s r (pg k)).2.2 := by
  have ext : ∀ n, (∀ j, j < n → dgt (pg j) = true) → dgt (pg n) = true → ∀ j, j < n + 1 → dgt (pg j) = true := by
    intro n h1 h2 j hj
    by_cases e : j = n
    · rw [e]; exact h2
    · exact h1 j (by omega)
  unfold goN at hg ⊢
  by_cases c : s = 0 ∨ (s = 1 ∧ pg k ≠ 59)
  · rw [if_pos c] at hg ⊢
    simp only [Bool.and_eq_true, decide_eq_true_eq] at hg
    right; left
    rcases h with ⟨h1, h2, h3⟩ | ⟨h1, h2, h3, h4, h5⟩ | ⟨h1, h2, _⟩ | ⟨h1, h2, _⟩
    · refine ⟨rfl, by simp only; omega, by omega, by omega, ?_⟩
      rw [h1] at hg ⊢
      exact ext 0 (fun j hj => by omega) hg.1
    · refine ⟨rfl, by simp only; omega, by omega, by omega, ?_⟩
      exact ext k h5 hg.1
    · omega
    · omega
  · rw [if_neg c] at hg ⊢
    simp only [Bool.or_eq_true, Bool.and_eq_true, decide_eq_true_eq] at hg
    rcases h with ⟨h1, h2, h3⟩ | ⟨h1, h2, h3, h4, h5⟩ | ⟨h1, h2, h3, h4, h5, h6⟩ | ⟨h1, h2, _⟩
    · omega
    · right; right; left
      have h59 : pg k = 59 := by
        by_cases z : pg k = 59
        · exact z
        · exact absurd (Or.inr ⟨h1, z⟩) c
      refine ⟨by simp only; omega, by simp only; omega, by simp only; omega, by simp only; omega, ?_, ?_⟩
      · simp only; rw [h2]; exact h5
      · simp only; rw [h2]; exact h59
    · right; right; right
      rcases hg with z | ⟨-, z⟩
      · omega
      · refine ⟨by simp only; omega, by simp only; omega, h3, h4, h5, h6, ?_⟩
        simp only
        rw [h2]; exact z
    · omega
theorem flt_J {pg : Nat → Nat} : ∀ (n k s r : Nat), JN pg k s r → (flt pg n k s r).1 = k + n → JN pg (k + n) (flt pg n k s r).2.1 (flt pg n k s r).2.2
  | 0, k, s, r, h, _ => h
  | n + 1, k, s, r, h, e => by
    unfold flt at e ⊢
    by_cases hg : (goN s r (pg k)).1 = true
    · rw [if_pos hg] at e ⊢
      rw [show k + (n + 1) = k + 1 + n by omega] at e ⊢
      exact flt_J n (k + 1) _ _ (goN_J h hg) e
    · rw [if_neg hg] at e
      simp only at e
      omega
theorem goN_s {s r c : Nat} : (goN s r c).2.1 ≤ s + 1 := by
  unfold goN
  split <;> simp
theorem flt_b {pg : Nat → Nat} : ∀ (n k s r : Nat), (flt pg n k s r).1 ≤ k + n ∧ (flt pg n k s r).2.1 ≤ s + n
  | 0, k, s, r => ⟨Nat.le_refl _, Nat.le_refl _⟩
  | n + 1, k, s, r => by
    have h := goN_s (s := s) (r := r) (c := pg k)
    unfold flt
    split
    · have := flt_b (pg := pg) n (k + 1) (goN s r (pg k)).2.1 (goN s r (pg k)).2.2
      omega
    · exact ⟨by simp only; omega, by simp only; omega⟩
theorem okS_J {pg : Nat → Nat} {pm : Nat} (h : okS pg pm = true) : ∃ r, r + 2 = pm ∧ 1 ≤ r ∧ r ≤ 6 ∧ (∀ j, j < r → dgt (pg j) = true) ∧ pg r = 59 ∧ dgt (pg (r + 1)) = true ∧ (flt pg pm 0 0 0).2.2 = r := by
  simp only [okS, Bool.and_eq_true, decide_eq_true_eq] at h
  have := flt_J pm 0 0 0 (Or.inl ⟨rfl, rfl, rfl⟩) (by rw [h.1]; omega)
  rw [Nat.zero_add, h.2] at this
  rcases this with ⟨_, h2, _⟩ | ⟨h1, _⟩ | ⟨h1, _⟩ | ⟨_, h2, h3, h4, h5, h6, h7⟩
  · omega
  · omega
  · omega
  · exact ⟨_, h2, h3, h4, h5, h6, h7, rfl⟩
/-- the mark of the page, the reference's state, and the place -/
def MN (k : Nat) (mk : Option Nat) (s r : Nat) : Prop := match mk with
  | none => r = k ∧ k ≤ 6 ∧ ((k = 0 ∧ s = 0) ∨ (1 ≤ k ∧ s = 1))
  | some q => 1 ≤ q ∧ ((k = q + 1 ∧ s = 2) ∨ (k = q + 2 ∧ s = 3))
def plcN (mk : Option Nat) : Nat := match mk with
  | none => 6
  | some q => q + 2
theorem dgt_t {c : Nat} : dgt c = true ↔ 48 ≤ c ∧ c ≤ 57 := by simp [dgt]
theorem dgt_f {c : Nat} : dgt c = false ↔ ¬ (48 ≤ c ∧ c ≤ 57) := by simp [dgt]
