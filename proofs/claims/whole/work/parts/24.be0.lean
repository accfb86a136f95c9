
def bsF (b : Nat) (ls cs : Int32) : List Value := [.ref (b + 1), .ref (b + 14 + 0), .ref (b + 14 + 1), .int ls, .int cs]
def bsA (atr afr : List Int32) : List (List Int32) := [atr, afr]
def KB (σ : Sto) (b : Nat) : Prop := σ.1[b]? = some 0 ∧ ∀ j, j < 2 → σ.1[b + 14 + j]? = some 100
def frO (w tr st : Nat) (b : Option (Nat × Nat × Nat)) : Nat → Option Nat := match b with
  | none => fun _ => none
  | some (c, _, _) => fun k => if tr ≤ k ∧ k < st then some (whC w tr st c k) else none
/-- the ways with these numbers go on from here -/
def PS (w : Nat) (ki fi de le0 : Nat → Nat) (tr st n s c0 j : Nat) (le : Nat → Nat) (C : Nat) : Prop := ∀ c, c / w ^ n = c0 → gbC w ki fi de le0 tr st c = gb w ki fi de (whC w tr st c) n s j le C
theorem wh_at {w tr st n s c0 f c : Nat} (hw : 0 < w) (hs : s + (n + 1) = st) (ht : tr ≤ s) (hf : f < w) (h : c / w ^ n = c0 * w + f) : c / w ^ (n + 1) = c0 ∧ whC w tr st c s = f := by
  constructor
  · rw [Nat.pow_succ, ← Nat.div_div_eq_div_mul, h, Nat.mul_comm, Nat.mul_add_div hw, Nat.div_eq_of_lt hf, Nat.add_zero]
  · unfold whC whN
    rw [if_pos (by omega), show st - 1 - s = n by omega, h, Nat.mul_comm, Nat.mul_add_mod, Nat.mod_eq_of_lt hf]
theorem PS_step {w : Nat} {ki fi de le0 le : Nat → Nat} {tr st n s c0 j C f : Nat} (hw : 0 < w) (hP : PS w ki fi de le0 tr st (n + 1) s c0 j le C) (hs : s + (n + 1) = st) (ht : tr ≤ s) (hf : f < w) (hc : canN ki (rotk w fi (pl w fi f)) le (de s) w = true) : PS w ki fi de le0 tr st n (s + 1) (c0 * w + f) (pl w fi f) (trS ki (rotk w fi (pl w fi f)) (de s) le w) (C + (pl w fi f + w - j) % w) := by
  intro c h
  obtain ⟨h1, h2⟩ := wh_at (tr := tr) hw hs ht hf h
  rw [hP c h1]
  show gb w ki fi de (whC w tr st c) (n + 1) s j le C = _
  rw [gb, h2, if_pos hc]
theorem PS_fail {w : Nat} {ki fi de le0 le : Nat → Nat} {tr st n s c0 j C f : Nat} (hw : 0 < w) (hP : PS w ki fi de le0 tr st (n + 1) s c0 j le C) (hs : s + (n + 1) = st) (ht : tr ≤ s) (hf : f < w) (hc : canN ki (rotk w fi (pl w fi f)) le (de s) w = false) (c : Nat) (h : c / w ^ n = c0 * w + f) : (gbC w ki fi de le0 tr st c).1 = false := by
  obtain ⟨h1, h2⟩ := wh_at (tr := tr) hw hs ht hf h
  rw [hP c h1]
  show (gb w ki fi de (whC w tr st c) (n + 1) s j le C).1 = false
  rw [gb, h2, hc]
  rfl
theorem best_same {w : Nat} {ki fi de le : Nat → Nat} {tr st a : Nat} : ∀ n, (∀ c, a ≤ c → c < a + n → bestF w ki fi de le tr st c = bestF w ki fi de le tr st a → ((gbC w ki fi de le tr st c).1 && btr (bestF w ki fi de le tr st a) (mnN (gbC w ki fi de le tr st c).2.2.1 100 w) (gbC w ki fi de le tr st c).2.2.2) = false) → bestF w ki fi de le tr st (a + n) = bestF w ki fi de le tr st a
  | 0, _ => rfl
  | n + 1, h => by
    have ih := best_same n (fun c h1 h2 => h c h1 (by omega))
    have := h (a + n) (by omega) (by omega) ih
    rw [show a + (n + 1) = (a + n) + 1 by omega, bestF, ih, this]
    rfl
theorem mnN_mono {f g : Nat → Nat} {c : Nat} : ∀ n, (∀ v, v < n → f v ≤ g v) → mnN f c n ≤ mnN g c n
  | 0, _ => Nat.le_refl _
  | n + 1, h => by
    have := mnN_mono (c := c) n (fun v hv => h v (by omega))
    have := h n (by omega)
    unfold mnN
    split <;> split <;> omega
theorem mn_99 {f : Nat → Nat} : ∀ n, 1 ≤ n → (∀ v, v < n → f v ≤ 99) → mnN f 100 n = mnN f 99 n
  | 0, h, _ => by omega
  | 1, _, h => by
    have := h 0 (by omega)
    show (if f 0 < 100 then f 0 else 100) = (if f 0 < 99 then f 0 else 99)
    rw [if_pos (show f 0 < 100 by omega)]
    split <;> omega
  | n + 2, _, h => by
    have := mn_99 (n + 1) (by omega) (fun v hv => h v (by omega))
    show (if f (n + 1) < mnN f 100 (n + 1) then f (n + 1) else mnN f 100 (n + 1)) = (if f (n + 1) < mnN f 99 (n + 1) then f (n + 1) else mnN f 99 (n + 1))
    rw [this]
theorem gb_ge {w : Nat} {ki fi de wh : Nat → Nat} : ∀ (n k j : Nat) (le : Nat → Nat) (ch : Nat), ch ≤ (gb w ki fi de wh n k j le ch).2.2.2
  | 0, k, j, le, ch => Nat.le_refl _
  | n + 1, k, j, le, ch => by
    unfold gb
    split
    · have := gb_ge (w := w) (ki := ki) (fi := fi) (de := de) (wh := wh) n (k + 1) (pl w fi (wh k)) (trS ki (rotk w fi (pl w fi (wh k))) (de k) le w) (ch + (pl w fi (wh k) + w - j) % w)
      omega
    · show ch ≤ ch + _
      omega
theorem btr_mono {b : Option (Nat × Nat × Nat)} {v v' c c' : Nat} (h : btr b v c = true) (hv : v ≤ v') (hc : c' ≤ c) : btr b v' c' = true := by
  cases b with
  | none => rfl
  | some q =>
    obtain ⟨x, l, k⟩ := q
    simp only [btr, Bool.or_eq_true, Bool.and_eq_true, decide_eq_true_eq] at h ⊢
    omega
theorem div_in {w n c0 c : Nat} (hw : 0 < w) (h1 : c0 * w ^ n ≤ c) (h2 : c < c0 * w ^ n + w ^ n) : c / w ^ n = c0 := by
  have hp : 0 < w ^ n := Nat.pow_pos hw
  apply Nat.div_eq_of_lt_le
  · exact h1
  · rw [Nat.succ_mul]; exact h2
