
def stF (b : Nat) (ls : Int32) : List Value := [.ref (b + 1), .ref (b + 10 + 0), .ref (b + 10 + 1), .ref (b + 10 + 2), .int ls]
def stA (apd atd afl : List Int32) : List (List Int32) := [apd, atd, afl]
def KS (σ : Sto) (b : Nat) : Prop := σ.1[b]? = some 3 ∧ (σ.1[b + 10 + 1]? = some 100 ∧ σ.1[b + 10 + 2]? = some 100) ∧ σ.1[b + 10 + 0]? = some 101
def flO (w : Nat) (a : Option (Nat × Nat)) : Nat → Option Nat := match a with
  | none => fun _ => none
  | some (c, _) => fun p => if p < w then some (odC w c p) else none
theorem inj_surj : ∀ (w : Nat) (f : Nat → Nat), (∀ p, p < w → f p < w) → (∀ p q, p < w → q < w → f p = f q → p = q) → ∀ v, v < w → ∃ p, p < w ∧ f p = v
  | 0, f, _, _, v, hv => by omega
  | w + 1, f, hl, hi, v, hv => by
    have hm := hl w (by omega)
    have hg1 : ∀ p, p < w → (fun p => if f p = w then f w else f p) p < w := by
      intro p hp
      simp only
      split
      · next h =>
        have : f w ≠ w := fun z => by have := hi p w (by omega) (by omega) (h.trans z.symm); omega
        omega
      · next h => have := hl p (by omega); omega
    have hg2 : ∀ p q, p < w → q < w → (fun p => if f p = w then f w else f p) p = (fun p => if f p = w then f w else f p) q → p = q := by
      intro p q hp hq e
      simp only at e
      split at e
      · next h1 =>
        split at e
        · next h2 => exact hi p q (by omega) (by omega) (h1.trans h2.symm)
        · have := hi w q (by omega) (by omega) e; omega
      · split at e
        · have := hi p w (by omega) (by omega) e; omega
        · exact hi p q (by omega) (by omega) e
    have ih := inj_surj w (fun p => if f p = w then f w else f p) hg1 hg2
    by_cases a : v = f w
    · exact ⟨w, by omega, a.symm⟩
    · by_cases c : v = w
      · by_cases e : ∃ p, p < w ∧ f p = w
        · obtain ⟨p, hp, e⟩ := e
          exact ⟨p, by omega, by rw [e, c]⟩
        · exfalso
          obtain ⟨p, hp, e2⟩ := ih (f w) (by omega)
          rw [if_neg (fun z => e ⟨p, hp, z⟩)] at e2
          have := hi p w (by omega) (by omega) e2
          omega
      · obtain ⟨p, hp, e2⟩ := ih v (by omega)
        split at e2
        · exact absurd e2.symm a
        · exact ⟨p, by omega, e2⟩
theorem canN_le2 {ki fi le le2 : Nat → Nat} {dp w : Nat} (h : ∀ v, v < w → le v = le2 v) (hf : ∀ p, p < w → fi p < w) : ∀ n, n ≤ w → canN ki fi le dp n = canN ki fi le2 dp n
  | 0, _ => rfl
  | n + 1, hn => by unfold canN; rw [canN_le2 h hf n (by omega), h (fi n) (hf n (by omega))]
theorem trS_le2 {ki fi le le2 : Nat → Nat} {dp w : Nat} (h : ∀ v, v < w → le v = le2 v) (hf : ∀ p, p < w → fi p < w) : ∀ n, n ≤ w → ∀ v, v < w → trS ki fi dp le n v = trS ki fi dp le2 n v
  | 0, _, v, hv => h v hv
  | n + 1, hn, v, hv => by
    unfold trS up
    rw [trS_le2 h hf n (by omega) (fi n) (hf n (by omega)), trS_le2 h hf n (by omega) v hv]
theorem soN_le2 {w : Nat} {ki de : Nat → Nat} : ∀ (n k : Nat) (fi le le2 : Nat → Nat), PF w fi → (∀ v, v < w → le v = le2 v) → (soN w ki de n k fi le).1 = (soN w ki de n k fi le2).1 ∧ ∀ v, v < w → (soN w ki de n k fi le).2.2 v = (soN w ki de n k fi le2).2.2 v
  | 0, k, fi, le, le2, _, h => ⟨rfl, h⟩
  | n + 1, k, fi, le, le2, hf, h => by
    unfold soN
    rw [canN_le2 h hf.1 w (Nat.le_refl _)]
    split
    · exact soN_le2 n (k + 1) _ _ _ (PF_rot hf) (trS_le2 h hf.1 w (Nat.le_refl _))
    · exact ⟨rfl, h⟩
theorem set_same {w : Nat} {ki sr de : Nat → Nat} {st a : Nat} : ∀ n, (∀ c, a ≤ c → c < a + n → isO w c = false) → setG w ki sr de st (a + n) = setG w ki sr de st a
  | 0, _ => rfl
  | n + 1, h => by
    have ih := set_same (w := w) (ki := ki) (sr := sr) (de := de) (st := st) (a := a) n (fun c h1 h2 => h c h1 (by omega))
    rw [show a + (n + 1) = (a + n) + 1 by omega, setG, h (a + n) (by omega) (by omega)]
    exact ih
theorem od_at {w n p c0 g c : Nat} (hw : 0 < w) (hp : p + (n + 1) = w) (hg : g < w) (h : c / w ^ n = c0 * w + g) : c / w ^ (n + 1) = c0 ∧ odC w c p = g := by
  constructor
  · rw [Nat.pow_succ, ← Nat.div_div_eq_div_mul, h, Nat.mul_comm, Nat.mul_add_div hw, Nat.div_eq_of_lt hg, Nat.add_zero]
  · unfold odC odN
    rw [if_pos (by omega), show w - 1 - p = n by omega, h, Nat.mul_comm, Nat.mul_add_mod, Nat.mod_eq_of_lt hg]
