
theorem put_sw {σ : Sto} {o q o2 q2 : Nat} {fs fs' fs2 : List Value} {as as' as2 : List (List Int32)} (h1 : o ≠ o2) (h2 : q + as.length ≤ q2 ∨ q2 + as2.length ≤ q) (hl : as.length = as'.length) : put (put (put σ o q fs as) o2 q2 fs2 as2) o q fs' as' = put (put σ o q fs' as') o2 q2 fs2 as2 := by
  unfold put
  refine congrArg (Prod.mk σ.1) (Prod.ext ?_ ?_)
  · funext i
    by_cases hi : i = o
    · subst hi; simp [h1]
    · by_cases hi2 : i = o2 <;> simp [hi, hi2, Ne.symm h1]
  · funext i
    by_cases a : q ≤ i ∧ i < q + as'.length
    · have b : ¬ (q2 ≤ i ∧ i < q2 + as2.length) := by omega
      simp [a, b]
    · have a' : ¬ (q ≤ i ∧ i < q + as.length) := by omega
      simp [a, a']
/-- a call on the inner one of two components -/
theorem Ev_in {d m o q o2 q2 : Nat} {As : List Value} {σ : Sto} {r : Option Value} {fs fs' fs2 : List Value} {as as' as2 : List (List Int32)} (h1 : o ≠ o2) (h2 : q + as.length ≤ q2 ∨ q2 + as2.length ≤ q) (hl : as.length = as'.length) (k : Ev d 0 0 m As (put (put (put σ o q fs as) o2 q2 fs2 as2) o q fs as) r (put (put (put σ o q fs as) o2 q2 fs2 as2) o q fs' as')) : Ev d 0 0 m As (put (put σ o q fs as) o2 q2 fs2 as2) r (put (put σ o q fs' as') o2 q2 fs2 as2) := by
  have := Ev_at (Hs_ne Hs_put h1 h2) k
  rw [put_sw h1 h2 hl] at this
  exact this
def wyF (y : Nat) (wa fr st : Int32) : List Value := [.ref (y + 1), .ref (y + 10 + 0), .ref (y + 10 + 1), .ref (y + 10 + 2), .int wa, .int fr, .int st]
def wyA (apy ala apl : List Int32) : List (List Int32) := [apy, ala, apl]
def KW (σ : Sto) (y : Nat) : Prop := σ.1[y]? = some 5 ∧ ∀ j, j < 3 → σ.1[y + 10 + j]? = some 100
def pyF (py ki F : Nat → Nat) (row dp : Nat) : Nat → Nat → Nat
  | 0 => py
  | n + 1 => up (pyF py ki F row dp n) (row + F n) (payN ki F n dp)
theorem pyF_in {py ki F : Nat → Nat} {row dp : Nat} : ∀ {n p : Nat}, (∀ p q, p < n → q < n → F p = F q → p = q) → p < n → pyF py ki F row dp n (row + F p) = payN ki F p dp
  | 0, p, _, h => by omega
  | n + 1, p, hi, h => by
    unfold pyF
    by_cases e : p = n
    · subst e; rw [up_s]
    · rw [up_n _ _ (fun z => e (hi p n h (by omega) (by omega)))]
      exact pyF_in (fun a b ha hb => hi a b (by omega) (by omega)) (by omega)
theorem pyF_out {py ki F : Nat → Nat} {row dp i : Nat} : ∀ {n : Nat}, (∀ p, p < n → i ≠ row + F p) → pyF py ki F row dp n i = py i
  | 0, _ => rfl
  | n + 1, h => by
    unfold pyF
    rw [up_n _ _ (h n (by omega))]
    exact pyF_out (fun p hp => h p (by omega))
theorem canN_all {ki fi le : Nat → Nat} {dp : Nat} : ∀ {n : Nat}, (∀ p, p < n → payN ki fi p dp ≤ le (fi p)) → canN ki fi le dp n = true
  | 0, _ => rfl
  | n + 1, h => by
    unfold canN
    rw [canN_all (fun p hp => h p (by omega)), decide_eq_true (h n (by omega))]
    rfl
theorem sub_ge {a b : Nat} (ha : a < 2 ^ 30) (hb : b < 2 ^ 30) : 0 ≤ nI a - nI b ↔ b ≤ a := by
  rw [show (0 : Int32) = nI 0 from rfl, ge_nI (by decide), pk_sub_toInt ha hb]
  constructor <;> intro h
  · have : (0 : Int) ≤ (a : Int) - b := h
    omega
  · show (0 : Int) ≤ (a : Int) - b
    omega
theorem sub_add {a b w : Nat} (h : b ≤ a + w) : nI a - nI b + nI w = nI (a + w - b) := by
  rw [Int32.sub_eq_add_neg, Int32.add_assoc, Int32.add_comm (-(nI b)), ← Int32.add_assoc, nI_add, ← Int32.sub_eq_add_neg, pk_sub h]
/-- what the table of the ways says -/
def WT (w tr st : Nat) (ki fi de py : Nat → Nat) : Prop := ∀ s, tr ≤ s → s < st → ∀ j, j < w → ∀ p, p < w → py ((s * 5 + rotk w fi j 0) * 5 + rotk w fi j p) = payN ki (rotk w fi j) p (de s)
