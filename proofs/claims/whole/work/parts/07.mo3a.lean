
def canN (ki fi le : Nat → Nat) (dp : Nat) : Nat → Bool
  | 0 => true
  | n + 1 => canN ki fi le dp n && decide (payN ki fi n dp ≤ le (fi n))
def trS (ki fi : Nat → Nat) (dp : Nat) (le : Nat → Nat) : Nat → Nat → Nat
  | 0 => le
  | n + 1 => up (trS ki fi dp le n) (fi n) (trS ki fi dp le n (fi n) - payN ki fi n dp)
theorem canN_at {ki fi le : Nat → Nat} {dp : Nat} : ∀ {n p : Nat}, canN ki fi le dp n = true → p < n → payN ki fi p dp ≤ le (fi p)
  | 0, p, _, h => by omega
  | n + 1, p, hc, h => by
    simp only [canN, Bool.and_eq_true, decide_eq_true_eq] at hc
    by_cases e : p = n
    · subst e; exact hc.2
    · exact canN_at hc.1 (by omega)
theorem trS_out {ki fi le : Nat → Nat} {dp v : Nat} : ∀ {n : Nat}, (∀ p, p < n → fi p ≠ v) → trS ki fi dp le n v = le v
  | 0, _ => rfl
  | n + 1, h => by
    unfold trS
    rw [up_n _ _ (fun e => h n (by omega) e.symm)]
    exact trS_out (fun p hp => h p (by omega))
theorem trS_at {ki fi le : Nat → Nat} {dp : Nat} : ∀ {n p : Nat}, (∀ p q, p < n → q < n → fi p = fi q → p = q) → p < n → trS ki fi dp le n (fi p) = le (fi p) - payN ki fi p dp
  | 0, p, _, h => by omega
  | n + 1, p, hi, h => by
    unfold trS
    by_cases e : p = n
    · subst e
      rw [up_s, trS_out]
      intro q hq z
      have := hi q p (by omega) (by omega) z
      omega
    · rw [up_n _ _ (fun z => e (hi p n h (by omega) z))]
      exact trS_at (fun a b ha hb => hi a b (by omega) (by omega)) (by omega)
theorem trS_le {ki fi le : Nat → Nat} {dp v : Nat} : ∀ {n : Nat}, trS ki fi dp le n v ≤ le v
  | 0 => Nat.le_refl _
  | n + 1 => by
    unfold trS
    by_cases e : v = fi n
    · subst e
      rw [up_s]
      have := trS_le (ki := ki) (fi := fi) (le := le) (dp := dp) (v := fi n) (n := n)
      omega
    · rw [up_n _ _ e]
      exact trS_le
def mnN (le : Nat → Nat) (c : Nat) : Nat → Nat
  | 0 => c
  | n + 1 => if le n < mnN le c n then le n else mnN le c n
theorem mnN_le (le : Nat → Nat) (c : Nat) : ∀ n, mnN le c n ≤ c
  | 0 => Nat.le_refl _
  | n + 1 => by have := mnN_le le c n; unfold mnN; split <;> omega
def rcN (sr le : Nat → Nat) : Nat → Nat
  | 0 => 0
  | n + 1 => rcN sr le n + (if le n < sr n then 1 else 0)
def rsN (w : Nat) (sr le : Nat → Nat) : Nat → Nat := fun v => if v < w ∧ le v < sr v then le v + 1 else le v
theorem rcN_le (sr le : Nat → Nat) : ∀ n, rcN sr le n ≤ n
  | 0 => Nat.le_refl _
  | n + 1 => by have := rcN_le sr le n; unfold rcN; split <;> omega
def smN (de : Nat → Nat) (a : Nat) : Nat → Nat
  | 0 => 0
  | n + 1 => smN de a n + de (a + n)
def snN (tr st deep : Nat) (de : Nat → Nat) : Nat → Nat := fun k => if tr ≤ k ∧ k < st then (if 9 < de k + deep then 9 else de k + deep) else de k
def suN (tr st me : Nat) (de : Nat → Nat) : Nat → Nat := fun k => if tr ≤ k ∧ k < st then (if de k < me then 0 else de k - me) else de k
theorem dec2 (x : Nat) : nI x + Int32.ofInt (-1) = nI x - nI 1 := by
  rw [show Int32.ofInt (-1) = -(nI 1) by decide]
  exact (Int32.sub_eq_add_neg _ _).symm
/-- who would be the first, by the number of the way -/
def whN (w tr st code : Nat) (wh : Nat → Nat) : Nat → Nat := fun k => if tr ≤ k ∧ k < st then code / w ^ (st - 1 - k) % w else wh k
def rotk (w : Nat) (fi : Nat → Nat) (j : Nat) : Nat → Nat := fun p => if p < w then fi ((p + j) % w) else fi p
theorem rotk_0 {w : Nat} {fi : Nat → Nat} : rotk w fi 0 = fi := by
  funext p
  unfold rotk
  split
  · next h => rw [Nat.add_zero, Nat.mod_eq_of_lt h]
  · rfl
theorem rotk_mod {w j : Nat} {fi : Nat → Nat} (h : 0 < w) : rotk w fi j = rotk w fi (j % w) := by
  funext p
  unfold rotk
  split
  · rw [Nat.add_mod_mod]
  · rfl
theorem rot_rotk {w j : Nat} {fi : Nat → Nat} (h : 0 < w) : rot w (rotk w fi j) = rotk w fi (j + 1) := by
  funext p
  unfold rot rotk
  by_cases h1 : p + 1 < w
  · rw [if_pos h1, if_pos h1, if_pos (by omega), show p + 1 + j = p + (j + 1) by omega]
  · rw [if_neg h1]
    by_cases h2 : p + 1 = w
    · rw [if_pos h2, if_pos h, if_pos (by omega), show p + (j + 1) = j + w by omega, Nat.add_mod_right, Nat.zero_add]
    · rw [if_neg h2, if_neg (by omega), if_neg (by omega)]
theorem PF_rot {w : Nat} {fi : Nat → Nat} (h : PF w fi) : PF w (rot w fi) := by
  obtain ⟨h1, h2, h3⟩ := h
  refine ⟨fun p hp => ?_, fun p q hp hq e => ?_, fun v hv => ?_⟩
  · unfold rot
    by_cases a : p + 1 < w
    · rw [if_pos a]; exact h1 _ a
    · rw [if_neg a, if_pos (by omega)]; exact h1 _ (by omega)
  · unfold rot at e
    by_cases a : p + 1 < w <;> by_cases b : q + 1 < w
    · rw [if_pos a, if_pos b] at e
      have := h2 _ _ a b e
      omega
    · rw [if_pos a, if_neg b, if_pos (by omega)] at e
      have := h2 _ _ a (by omega) e
      omega
    · rw [if_neg a, if_pos (by omega), if_pos b] at e
      have := h2 _ _ (by omega) b e
      omega
    · omega
  · obtain ⟨p, hp, e⟩ := h3 v hv
    by_cases a : p = 0
    · refine ⟨w - 1, by omega, ?_⟩
      unfold rot
      rw [if_neg (by omega), if_pos (by omega), ← a]
      exact e
    · refine ⟨p - 1, by omega, ?_⟩
      unfold rot
      rw [if_pos (by omega), show p - 1 + 1 = p by omega]
      exact e
theorem PF_rotk {w : Nat} {fi : Nat → Nat} (h : PF w fi) : ∀ j, PF w (rotk w fi j)
  | 0 => by rw [rotk_0]; exact h
  | j + 1 => by
    by_cases hw : 0 < w
    · rw [← rot_rotk hw]
      exact PF_rot (PF_rotk h j)
    · exact ⟨fun p hp => by omega, fun p q hp => by omega, fun v hv => by omega⟩
def gb (w : Nat) (ki fi de wh : Nat → Nat) : Nat → Nat → Nat → (Nat → Nat) → Nat → Bool × Nat × (Nat → Nat) × Nat
  | 0, _, j, le, ch => (true, j, le, ch)
  | n + 1, k, j, le, ch => if canN ki (rotk w fi (pl w fi (wh k))) le (de k) w then gb w ki fi de wh n (k + 1) (pl w fi (wh k)) (trS ki (rotk w fi (pl w fi (wh k))) (de k) le w) (ch + (pl w fi (wh k) + w - j) % w) else (false, pl w fi (wh k), le, ch + (pl w fi (wh k) + w - j) % w)
def okT (w st tr : Nat) (ki fi le de : Nat → Nat) : Bool := decide (w ≠ 0) && decide (tr ≠ st) && canN ki fi le (de tr) w
def prd (ki fi : Nat → Nat) (tr : Nat) (fo : Nat → Option Nat) : Bool := decide (ki (fi 0) = 2) && decide (0 < tr) && decide (fo (tr - 1) = some (fi 0))
def miT (ki fi : Nat → Nat) (tr : Nat) (de : Nat → Nat) (fo : Nat → Option Nat) (mi : Int32) : Int32 := mi + nI (2 + de tr / 3 + (if prd ki fi tr fo then 2 else 0))
