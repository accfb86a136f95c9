
def bkF (b : Nat) (ow fd ag : Int32) : List Value := [.ref (b + 1), .ref (b + 14 + 0), .ref (b + 14 + 1), .ref (b + 14 + 2), .int ow, .int fd, .int ag]
def bkA (ato aof atr : List Int32) : List (List Int32) := [ato, aof, atr]
def KK (σ : Sto) (b : Nat) : Prop := σ.1[b]? = some 1 ∧ ∀ j, j < 3 → σ.1[b + 14 + j]? = some 100
theorem cnt_split {wh : Nat → Nat} {v a : Nat} (n : Nat) : ∀ k, cntN wh v a (n + k) = cntN wh v a n + cntN wh v (a + n) k
  | 0 => rfl
  | k + 1 => by
    show cntN wh v a (n + k) + (if wh (a + (n + k)) = v then 1 else 0) = cntN wh v a n + (cntN wh v (a + n) k + (if wh (a + n + k) = v then 1 else 0))
    rw [cnt_split n k, Nat.add_assoc a n k]
    omega
theorem cnt_0 {wh : Nat → Nat} {v a : Nat} (k : Nat) : cntN wh v a (1 + k) = (if wh a = v then 1 else 0) + cntN wh v (a + 1) k := by
  rw [cnt_split 1 k]
  simp [cntN]
/-- how many firsts are told of and not among those tried -/
def owN (to : Nat → Option Nat) (of' : Nat → Nat) : Nat → Nat
  | 0 => 0
  | v + 1 => owN to of' v + (match to v with | none => 0 | some t => t - of' v)
def sumC (wh : Nat → Nat) (a n : Nat) : Nat → Nat
  | 0 => 0
  | v + 1 => sumC wh a n v + cntN wh v a n
theorem sumC_le {wh : Nat → Nat} {a : Nat} : ∀ n w, sumC wh a n w ≤ n
  | n, 0 => Nat.zero_le _
  | 0, w + 1 => by
    have := sumC_le (wh := wh) (a := a) 0 w
    show sumC wh a 0 w + 0 ≤ 0
    omega
  | n + 1, w + 1 => by
    have key : ∀ w, sumC wh a (n + 1) w = sumC wh a n w + (if wh (a + n) < w then 1 else 0) := by
      intro w
      induction w with
      | zero => simp [sumC]
      | succ w ih =>
        show sumC wh a (n + 1) w + cntN wh w a (n + 1) = sumC wh a n w + cntN wh w a n + _
        rw [ih]
        show _ + (cntN wh w a n + _) = _
        split <;> split <;> split <;> omega
    rw [key]
    have := sumC_le (wh := wh) (a := a) n (w + 1)
    split <;> omega
theorem bok_at {to : Nat → Option Nat} {wh : Nat → Nat} {tr n : Nat} : ∀ {w v : Nat}, bok to wh tr n w = true → v < w → ∀ t, to v = some t → t = cntN wh v tr n
  | 0, v, _, h => by omega
  | w + 1, v, hb, h => by
    intro t ht
    simp only [bok, Bool.and_eq_true, Bool.or_eq_true, decide_eq_true_eq] at hb
    by_cases e : v = w
    · subst e
      rcases hb.2 with z | z
      · rw [z] at ht; cases ht
      · rw [z] at ht; cases ht; rfl
    · exact bok_at hb.1 (by omega) t ht
theorem bok_all {to : Nat → Option Nat} {wh : Nat → Nat} {tr n : Nat} : ∀ {w : Nat}, (∀ v, v < w → ∀ t, to v = some t → t = cntN wh v tr n) → bok to wh tr n w = true
  | 0, _ => rfl
  | w + 1, h => by
    simp only [bok, Bool.and_eq_true, Bool.or_eq_true, decide_eq_true_eq]
    refine ⟨bok_all (fun v hv => h v (by omega)), ?_⟩
    cases ht : to w with
    | none => exact Or.inl rfl
    | some t => right; rw [h w (by omega) t ht]
theorem ow_le {to : Nat → Option Nat} {of' wh : Nat → Nat} {s n : Nat} : ∀ {w : Nat}, (∀ v, v < w → ∀ t, to v = some t → t = of' v + cntN wh v s n) → owN to of' w ≤ sumC wh s n w
  | 0, _ => Nat.le_refl _
  | w + 1, h => by
    have := ow_le (w := w) (fun v hv => h v (by omega))
    show owN to of' w + _ ≤ sumC wh s n w + cntN wh w s n
    cases ht : to w with
    | none => simp only; omega
    | some t =>
      have := h w (by omega) t ht
      simp only
      omega
theorem ow_0 {to : Nat → Option Nat} {of' : Nat → Nat} : ∀ {w : Nat}, owN to of' w = 0 → ∀ v, v < w → ∀ t, to v = some t → t ≤ of' v
  | 0, _, v, h => by omega
  | w + 1, h0, v, h => by
    intro t ht
    have h1 : owN to of' w + (match to w with | none => 0 | some t => t - of' w) = 0 := h0
    by_cases e : v = w
    · subst e
      rw [ht] at h1
      simp only at h1
      omega
    · exact ow_0 (w := w) (by omega) v (by omega) t ht
theorem ow_up {to : Nat → Option Nat} {of' : Nat → Nat} {g : Nat} : ∀ {w : Nat}, g < w → (∀ t, to g = some t → of' g < t) → owN to (up of' g (of' g + 1)) w + (if to g = none then 0 else 1) = owN to of' w
  | 0, h, _ => by omega
  | w + 1, h, hg => by
    show owN to (up of' g (of' g + 1)) w + _ + _ = owN to of' w + _
    by_cases e : g = w
    · subst e
      have same : ∀ n, n ≤ g → owN to (up of' g (of' g + 1)) n = owN to of' n := by
        intro n
        induction n with
        | zero => intro _; rfl
        | succ n ih =>
          intro hn
          show owN to (up of' g (of' g + 1)) n + _ = owN to of' n + _
          rw [ih (by omega), up_n _ _ (by omega)]
      rw [same g (Nat.le_refl _), up_s]
      cases ht : to g with
      | none => simp
      | some t =>
        have := hg t ht
        simp
        omega
    · rw [up_n _ _ (fun z => e z.symm)]
      have := ow_up (w := w) (show g < w by omega) hg
      omega
theorem ow_b {to : Nat → Option Nat} {of' : Nat → Nat} : ∀ {w : Nat}, (∀ v, v < w → ∀ t, to v = some t → t ≤ 6) → owN to of' w ≤ w * 6
  | 0, _ => Nat.le_refl _
  | w + 1, h => by
    have := ow_b (of' := of') (w := w) (fun v hv => h v (by omega))
    show owN to of' w + _ ≤ _
    cases ht : to w with
    | none => simp only; omega
    | some t => have := h w (by omega) t ht; simp only; omega
/-- whether all that fit so far agree on a stretch -/
def agN (w : Nat) (ki fi de le : Nat → Nat) (to : Nat → Option Nat) (tr st k : Nat) : Nat → Option Nat
  | 0 => none
  | c + 1 => if fitC w ki fi de le to tr st c then (if ftN w ki fi de le to tr st c = 0 then some (whC w tr st c k) else if agN w ki fi de le to tr st k c = some (whC w tr st c k) then agN w ki fi de le to tr st k c else none) else agN w ki fi de le to tr st k c
def agA (w : Nat) (ki fi de le : Nat → Nat) (to : Nat → Option Nat) (tr st : Nat) (q : Option Nat) (c : Nat) : Option Nat := match q with
  | none => none
  | some k => agN w ki fi de le to tr st k c
theorem fit_same {w : Nat} {ki fi de le : Nat → Nat} {to : Nat → Option Nat} {tr st a : Nat} : ∀ n, (∀ c, a ≤ c → c < a + n → fitC w ki fi de le to tr st c = false) → ftN w ki fi de le to tr st (a + n) = ftN w ki fi de le to tr st a ∧ ∀ q, agA w ki fi de le to tr st q (a + n) = agA w ki fi de le to tr st q a
  | 0, _ => ⟨rfl, fun _ => rfl⟩
  | n + 1, h => by
    have ih := fit_same n (fun c h1 h2 => h c h1 (by omega))
    have hf := h (a + n) (by omega) (by omega)
    rw [show a + (n + 1) = (a + n) + 1 by omega]
    constructor
    · rw [ftN, hf]
      exact ih.1
    · intro q
      cases q with
      | none => rfl
      | some k =>
        show agN w ki fi de le to tr st k (a + n + 1) = _
        rw [agN, hf]
        exact ih.2 (some k)
theorem agN_lt {w : Nat} {ki fi de le : Nat → Nat} {to : Nat → Option Nat} {tr st k : Nat} (hw : 0 < w) (h1 : tr ≤ k) (h2 : k < st) : ∀ c v, agN w ki fi de le to tr st k c = some v → v < w
  | 0, v, h => by cases h
  | c + 1, v, h => by
    unfold agN at h
    split at h
    · split at h
      · cases h; exact whN_lt hw h1 h2
      · split at h
        · exact agN_lt hw h1 h2 c v h
        · cases h
    · exact agN_lt hw h1 h2 c v h
/-- what the reference's mask says, and what the class keeps -/
theorem sure_eq {w : Nat} {ki fi de le : Nat → Nat} {to : Nat → Option Nat} {tr st k : Nat} (hw : 0 < w) (h1 : tr ≤ k) (h2 : k < st) (N : Nat) : frB (myN w ki fi de le to tr st N k) w 0 = eo (agN w ki fi de le to tr st k N) := by
  have key : ∀ c, (ftN w ki fi de le to tr st c = 0 ∧ agN w ki fi de le to tr st k c = none ∧ myN w ki fi de le to tr st c k = 0) ∨ (ftN w ki fi de le to tr st c ≠ 0 ∧ ∃ v, v < w ∧ agN w ki fi de le to tr st k c = some v ∧ myN w ki fi de le to tr st c k = 2 ^ v) ∨ (ftN w ki fi de le to tr st c ≠ 0 ∧ agN w ki fi de le to tr st k c = none ∧ ∃ v1 v2, v1 ≠ v2 ∧ (myN w ki fi de le to tr st c k).testBit v1 = true ∧ (myN w ki fi de le to tr st c k).testBit v2 = true) := by
    intro c
    induction c with
    | zero => exact Or.inl ⟨rfl, rfl, rfl⟩
    | succ c ih =>
      by_cases hfit : fitC w ki fi de le to tr st c = true
      · have ef : ftN w ki fi de le to tr st (c + 1) ≠ 0 := by rw [ftN, if_pos hfit]; omega
        have em : myN w ki fi de le to tr st (c + 1) k = myN w ki fi de le to tr st c k ||| 2 ^ whC w tr st c k := by rw [myN, if_pos ⟨hfit, h1, h2⟩]
        have hx : whC w tr st c k < w := whN_lt hw h1 h2
        have ea : agN w ki fi de le to tr st k (c + 1) = (if ftN w ki fi de le to tr st c = 0 then some (whC w tr st c k) else if agN w ki fi de le to tr st k c = some (whC w tr st c k) then agN w ki fi de le to tr st k c else none) := by rw [agN, if_pos hfit]
        rw [em, ea]
        rcases ih with ⟨i1, i2, i3⟩ | ⟨i1, v, i2, i3, i4⟩ | ⟨i1, i2, v1, v2, i3, i4, i5⟩
        · right; left
          refine ⟨ef, whC w tr st c k, hx, by rw [if_pos i1], by rw [i3, Nat.zero_or]⟩
        · rw [if_neg i1]
          by_cases e : v = whC w tr st c k
          · right; left
            refine ⟨ef, v, i2, by rw [i3, if_pos (by rw [e])], by rw [i4, ← e, Nat.or_self]⟩
          · right; right
            refine ⟨ef, by rw [i3, if_neg (fun z => e (Option.some.inj z))], v, whC w tr st c k, e, ?_, ?_⟩
            · rw [i4, Nat.testBit_or, Nat.testBit_two_pow_self]; rfl
            · rw [Nat.testBit_or, Nat.testBit_two_pow_self, Bool.or_true]
        · right; right
          rw [if_neg i1]
          refine ⟨ef, by rw [i2]; rfl, v1, v2, i3, ?_, ?_⟩
          · rw [Nat.testBit_or, i4]; rfl
          · rw [Nat.testBit_or, i5]; rfl
      · have hfit' : fitC w ki fi de le to tr st c = false := by simpa using hfit
        rw [show ftN w ki fi de le to tr st (c + 1) = ftN w ki fi de le to tr st c by rw [ftN, hfit']; rfl, show agN w ki fi de le to tr st k (c + 1) = agN w ki fi de le to tr st k c by rw [agN, hfit']; rfl, show myN w ki fi de le to tr st (c + 1) k = myN w ki fi de le to tr st c k by rw [myN, if_neg (fun z => hfit z.1)]]
        exact ih
  have none : ∀ x, (∀ v, x ≠ 2 ^ v) → ∀ n v, frB x n v = -1 := by
    intro x hx n
    induction n with
    | zero => intro v; rfl
    | succ n ih => intro v; rw [frB, if_neg (hx v)]; exact ih _
  rcases key N with ⟨_, i2, i3⟩ | ⟨_, v, i2, i3, i4⟩ | ⟨_, i2, v1, v2, i3, i4, i5⟩
  · rw [i2, i3]
    exact none 0 (fun v z => absurd z (Nat.ne_of_lt (Nat.pow_pos (by decide)))) w 0
  · rw [i3, i4]
    have : ∀ n a, a ≤ v → v < a + n → frB (2 ^ v) n a = nI v := by
      intro n
      induction n with
      | zero => intro a h1 h2; omega
      | succ n ih =>
        intro a h1 h2
        rw [frB]
        by_cases e : a = v
        · rw [e, if_pos rfl]
        · rw [if_neg (fun z => e ((Nat.pow_right_inj (by decide)).mp z).symm)]
          exact ih (a + 1) (by omega) (by omega)
    exact this w 0 (Nat.zero_le _) (by omega)
  · rw [i2]
    refine none _ (fun v z => ?_) w 0
    rw [z, Nat.testBit_two_pow] at i4 i5
    have e1 : v = v1 := by simpa using i4
    have e2 : v = v2 := by simpa using i5
    omega
