
def inB (x : Int32) (a b : Int) : Bool := decide (a ≤ x.toInt ∧ x.toInt ≤ b)
theorem inB_t {x : Int32} {a b : Int} : inB x a b = true ↔ a ≤ x.toInt ∧ x.toInt ≤ b := by simp [inB]
theorem inB_f {x : Int32} {a b : Int} : inB x a b = false ↔ ¬ (a ≤ x.toInt ∧ x.toInt ≤ b) := by simp [inB]
theorem nI_to {x : Int32} (h : 0 ≤ x.toInt) : x = nI x.toInt.toNat := by
  have h0 : ¬ x < 0 := by
    rw [Int32.lt_iff_toInt_lt]
    have : (0 : Int32).toInt = 0 := rfl
    omega
  obtain ⟨j, hj, e⟩ := nI_of h0
  rw [e, nI_toInt hj]
  rfl
theorem lt_nI {x : Int32} {a : Nat} (ha : a < 2 ^ 31) : x < nI a ↔ x.toInt < a := by rw [Int32.lt_iff_toInt_lt, nI_toInt ha]
theorem gt_nI {x : Int32} {a : Nat} (ha : a < 2 ^ 31) : nI a < x ↔ (a : Int) < x.toInt := by rw [Int32.lt_iff_toInt_lt, nI_toInt ha]
theorem le_nI {x : Int32} {a : Nat} (ha : a < 2 ^ 31) : x ≤ nI a ↔ x.toInt ≤ a := by rw [Int32.le_iff_toInt_le, nI_toInt ha]
theorem ge_nI {x : Int32} {a : Nat} (ha : a < 2 ^ 31) : nI a ≤ x ↔ (a : Int) ≤ x.toInt := by rw [Int32.le_iff_toInt_le, nI_toInt ha]
theorem eq_nI {x : Int32} {a : Nat} (ha : a < 2 ^ 31) : x = nI a ↔ x.toInt = a := by
  constructor
  · intro e; rw [e, nI_toInt ha]
  · intro e
    rw [nI_to (x := x) (by omega), e]
    rfl
theorem lz_lt (x y : Int64) : lg_cmp x y < 0 ↔ x < y := by
  unfold lg_cmp
  rw [Int64.lt_iff_toInt_lt]
  by_cases h1 : y < x
  · have h1' := Int64.lt_iff_toInt_lt.mp h1
    simp only [h1, if_true]
    exact ⟨fun h => absurd h (by decide), fun h => by omega⟩
  · have h1' := mt Int64.lt_iff_toInt_lt.mpr h1
    by_cases h2 : x = y
    · subst h2
      simp only [h1, if_false, if_true]
      exact ⟨fun h => absurd h (by decide), fun h => by omega⟩
    · simp only [h1, h2, if_false]
      refine ⟨fun _ => ?_, fun _ => by decide⟩
      have : x.toInt ≠ y.toInt := fun e => h2 (Int64.toInt_inj.mp e)
      omega
theorem lz_gt (x y : Int64) : 0 < lg_cmp x y ↔ y < x := by
  unfold lg_cmp
  by_cases h1 : y < x
  · simp only [h1, if_true]
    exact ⟨fun _ => trivial, fun _ => by decide⟩
  · by_cases h2 : x = y
    · subst h2
      simp only [h1, if_false, if_true]
      exact ⟨fun h => absurd h (by decide), fun h => absurd h (by simp)⟩
    · simp only [h1, h2, if_false]
      exact ⟨fun h => absurd h (by decide), fun h => absurd h (by simp)⟩
theorem x64 (x : Int32) : x.toInt64.toInt = x.toInt := Int32.toInt_toInt64 x
theorem pred64 {a : Nat} (h : a < 2 ^ 30) : ((nI a - nI 1).toInt64).toInt = (a : Int) - 1 := by rw [x64, pk_sub_toInt h (by decide)]; rfl
theorem lk_787 : Int64.ofInt 787 = lN 787 := by decide
theorem lk_31 : Int64.ofInt 31 = lN 31 := by decide
theorem lk_126 : Int64.ofInt 126 = lN 126 := by decide
theorem lk_48 : Int64.ofInt 48 = lN 48 := by decide
theorem lk_57 : Int64.ofInt 57 = lN 57 := by decide
theorem lk_4 : Int64.ofInt 4 = lN 4 := by decide
theorem lk_99 : Int64.ofInt 99 = lN 99 := by decide
theorem lk_9 : Int64.ofInt 9 = lN 9 := by decide
theorem lk_10 : Int64.ofInt 10 = lN 10 := by decide
theorem lk_15 : Int64.ofInt 15 = lN 15 := by decide
theorem lk_6 : Int64.ofInt 6 = lN 6 := by decide
theorem lk_14 : Int64.ofInt 14 = lN 14 := by decide
theorem lk_m1 : Int64.ofInt (-1) = -1 := by decide
theorem lk_60 : Int64.ofInt 60 = lN 60 := by decide
theorem lk_2 : Int64.ofInt 2 = lN 2 := by decide
theorem lk_1103515245 : Int64.ofInt 1103515245 = lN 1103515245 := by decide
theorem lk_12345 : Int64.ofInt 12345 = lN 12345 := by decide
theorem lk_2147483647 : Int64.ofInt 2147483647 = lN 2147483647 := by decide
theorem lk_2147483648 : Int64.ofInt 2147483648 = lN 2147483648 := by decide
theorem ik_65536 : Int32.ofInt 65536 = nI 65536 := by decide
theorem bi_dec {x : Int32} {n : Nat} (h : x.toInt = n) (hn : n < 2 ^ 31) : x = nI n := (eq_nI hn).mpr h
/-! the page -/
def dgt (c : Nat) : Bool := decide (48 ≤ c ∧ c ≤ 57)
def goN (s r c : Nat) : Bool × Nat × Nat := if s = 0 ∨ (s = 1 ∧ c ≠ 59) then (dgt c && decide (r + 1 < 7), 1, r + 1) else (decide (s = 1) || (decide (s = 2) && dgt c), s + 1, r)
def flt (pg : Nat → Nat) : Nat → Nat → Nat → Nat → Nat × Nat × Nat
  | 0, k, s, r => (k, s, r)
  | n + 1, k, s, r => if (goN s r (pg k)).1 then flt pg n (k + 1) (goN s r (pg k)).2.1 (goN s r (pg k)).2.2 else (k, (goN s r (pg k)).2.1, (goN s r (pg k)).2.2)
def r_letter (pm : Nat) (x : Int32) : Int32 := if inB x 1 126 then (if pm = 10 then -104 else nI (pm + 1)) else -102
def n_letter (pm : Nat) (x : Int32) : Nat := if inB x 1 126 ∧ pm ≠ 10 then pm + 1 else pm
def p_letter (pm : Nat) (pg : Nat → Nat) (x : Int32) : Nat → Nat := if inB x 1 126 ∧ pm ≠ 10 then up pg pm x.toInt.toNat else pg
/-! walkers -/
def pl : Nat → (Nat → Nat) → Nat → Nat
  | 0, _, _ => 0
  | n + 1, fi, v => if fi n = v then n else pl n fi v
/-- the file is a file of w walkers -/
def PF (w : Nat) (fi : Nat → Nat) : Prop := (∀ p, p < w → fi p < w) ∧ (∀ p q, p < w → q < w → fi p = fi q → p = q) ∧ ∀ v, v < w → ∃ p, p < w ∧ fi p = v
theorem pl_eq {fi : Nat → Nat} : ∀ {w p : Nat}, (∀ p q, p < w → q < w → fi p = fi q → p = q) → p < w → pl w fi (fi p) = p
  | 0, p, _, h => by omega
  | n + 1, p, hi, h => by
    unfold pl
    by_cases e : fi n = fi p
    · rw [if_pos e]; exact hi n p (by omega) h e
    · rw [if_neg e]
      refine pl_eq (fun a b ha hb => hi a b (by omega) (by omega)) ?_
      have : p ≠ n := fun z => e (by rw [z])
      omega
theorem PF_pl {w v : Nat} {fi : Nat → Nat} (h : PF w fi) (hv : v < w) : pl w fi v < w ∧ fi (pl w fi v) = v := by
  obtain ⟨p, hp, rfl⟩ := h.2.2 v hv
  rw [pl_eq h.2.1 hp]
  exact ⟨hp, rfl⟩
/-- how often a walker was the first, of the first n stretches -/
def frN (fo : Nat → Option Nat) (v : Nat) : Nat → Nat
  | 0 => 0
  | n + 1 => frN fo v n + (if fo n = some v then 1 else 0)
theorem frN_le (fo : Nat → Option Nat) (v : Nat) : ∀ n, frN fo v n ≤ n
  | 0 => Nat.le_refl _
  | n + 1 => by have := frN_le fo v n; unfold frN; split <;> omega
/-- what about() tells -/
def r_tells (st tr : Nat) (ki sr le fi de : Nat → Nat) (to fo : Nat → Option Nat) (w v : Nat) (x : Int32) : Int32 := match x.toInt with
  | 0 => nI (ki v)
  | 1 => nI (sr v)
  | 2 => nI (le v)
  | 3 => nI (pl w fi v)
  | 4 => nI (frN fo v tr)
  | 5 => if tr = st then -1 else nI (payN ki fi (pl w fi v) (de tr))
  | 6 => eo (to v)
  | _ => -102
def r_as (ki : Nat → Nat) (v : Nat) (x : Int32) : Int32 := if inB x 0 4 then (if x.toInt = 0 ∨ x.toInt = ki v ∨ (x.toInt = 3 ∧ ki v = 4) then nI v else -1) else -102
def r_stretch (de : Nat → Nat) (fo : Nat → Option Nat) (k : Nat) (x : Int32) : Int32 := if x.toInt = 0 then nI (de k) else if x.toInt = 1 then eo (fo k) else -102
