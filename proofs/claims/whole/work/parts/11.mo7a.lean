
theorem setA_setA (σ : Sto) (b : Nat) (l l' : List Int32) : setA (setA σ b l) b l' = setA σ b l' := by
  unfold setA
  refine congrArg (Prod.mk σ.1) (congrArg (Prod.mk σ.2.1) ?_)
  funext i
  by_cases h : i = b <;> simp [h]
theorem setA_at (σ : Sto) (b : Nat) (l : List Int32) : (setA σ b l).2.2 b = l := by simp [setA]
theorem setA_ne (σ : Sto) {a b : Nat} (l : List Int32) (h : a ≠ b) : (setA σ b l).2.2 a = σ.2.2 a := by simp [setA, h]
theorem setA_self (σ : Sto) (b : Nat) (l : List Int32) (h : σ.2.2 b = l) : setA σ b l = σ := by
  unfold setA
  refine Prod.ext rfl (Prod.ext rfl ?_)
  funext i
  by_cases hi : i = b
  · subst hi; simp [h]
  · simp [hi]
def cntN (wh : Nat → Nat) (v a : Nat) : Nat → Nat
  | 0 => 0
  | n + 1 => cntN wh v a n + (if wh (a + n) = v then 1 else 0)
theorem cntN_le (wh : Nat → Nat) (v a : Nat) : ∀ n, cntN wh v a n ≤ n
  | 0 => Nat.le_refl _
  | n + 1 => by have := cntN_le wh v a n; unfold cntN; split <;> omega
theorem cntN_congr {wh wh' : Nat → Nat} {v a : Nat} : ∀ n, (∀ i, a ≤ i → i < a + n → wh i = wh' i) → cntN wh v a n = cntN wh' v a n
  | 0, _ => rfl
  | n + 1, h => by
    unfold cntN
    rw [cntN_congr n (fun i a b => h i a (by omega)), h (a + n) (by omega) (by omega)]
def bok (to : Nat → Option Nat) (wh : Nat → Nat) (tr n : Nat) : Nat → Bool
  | 0 => true
  | v + 1 => bok to wh tr n v && (decide (to v = none) || decide (to v = some (cntN wh v tr n)))
theorem bok_congr {to : Nat → Option Nat} {wh wh' : Nat → Nat} {tr n : Nat} (h : ∀ i, tr ≤ i → i < tr + n → wh i = wh' i) : ∀ v, bok to wh tr n v = bok to wh' tr n v
  | 0 => rfl
  | v + 1 => by unfold bok; rw [bok_congr h v, cntN_congr n h]
def fitC (w : Nat) (ki fi de le : Nat → Nat) (to : Nat → Option Nat) (tr st c : Nat) : Bool := bok to (whC w tr st c) tr (st - tr) w && (gbC w ki fi de le tr st c).1
def ftN (w : Nat) (ki fi de le : Nat → Nat) (to : Nat → Option Nat) (tr st : Nat) : Nat → Nat
  | 0 => 0
  | c + 1 => if fitC w ki fi de le to tr st c then ftN w ki fi de le to tr st c + 1 else ftN w ki fi de le to tr st c
def myN (w : Nat) (ki fi de le : Nat → Nat) (to : Nat → Option Nat) (tr st : Nat) : Nat → Nat → Nat
  | 0, _ => 0
  | c + 1, k => if fitC w ki fi de le to tr st c ∧ tr ≤ k ∧ k < st then myN w ki fi de le to tr st c k ||| 2 ^ whC w tr st c k else myN w ki fi de le to tr st c k
theorem ftN_le {w : Nat} {ki fi de le : Nat → Nat} {to : Nat → Option Nat} {tr st : Nat} : ∀ n, ftN w ki fi de le to tr st n ≤ n
  | 0 => Nat.le_refl _
  | n + 1 => by have := ftN_le (w := w) (ki := ki) (fi := fi) (de := de) (le := le) (to := to) (tr := tr) (st := st) n; unfold ftN; split <;> omega
theorem myN_lt {w : Nat} {ki fi de le : Nat → Nat} {to : Nat → Option Nat} {tr st : Nat} (hw : 0 < w) (h5 : w ≤ 5) : ∀ n k, myN w ki fi de le to tr st n k < 2 ^ 5
  | 0, k => by simp [myN]
  | n + 1, k => by
    unfold myN
    split
    · next h => exact Nat.or_lt_two_pow (myN_lt hw h5 n k) (Nat.pow_lt_pow_right (by decide) (Nat.lt_of_lt_of_le (whN_lt hw h.2.1 h.2.2) h5))
    · exact myN_lt hw h5 n k
/-- the first of w walkers whose bit is all of the mask -/
def frB (x : Nat) : Nat → Nat → Int32
  | 0, _ => -1
  | n + 1, v => if x = 2 ^ v then nI v else frB x n (v + 1)
def r_sure (w : Nat) (ki fi de le : Nat → Nat) (to : Nat → Option Nat) (tr st k : Nat) : Int32 := frB (myN w ki fi de le to tr st (w ^ (st - tr)) k) w 0
def okTl (w : Nat) (x y : Int32) : Bool := inB x 0 ((w : Int) - 1) && inB y (-1) 6
def tlO (y : Int32) : Option Nat := if y.toInt < 0 then none else some y.toInt.toNat
theorem tlO_eo {y : Int32} (h : inB y (-1) 6 = true) : y = eo (tlO y) := by
  have hb := inB_t.mp h
  unfold tlO
  split
  · show y = -1
    apply Int32.toInt_inj.mp
    rw [show ((-1 : Int32)).toInt = -1 by decide]
    omega
  · exact nI_to (by omega)
def okSu (tr st w ask : Nat) (x : Int32) : Bool := inB x tr ((st : Int) - 1) && decide (w ≠ 0) && decide (ask ≠ 40)
