
def okX (x : Int32) : Bool := inB x 0 1 || inB x 10 15
def okB (w bm : Nat) (x : Int32) : Bool := okX x && decide (w ≠ 0) && decide (bm ≠ 20)
theorem msk_bit {f : Nat → Nat} {a v : Nat} : ∀ n, n ≤ a → ((msk f a n).testBit v = true ↔ ∃ p, a - n ≤ p ∧ p < a ∧ f p = v)
  | 0, _ => by
    simp only [msk, Nat.zero_testBit]
    constructor
    · intro h
      exact absurd h (by decide)
    · rintro ⟨p, h1, h2, -⟩
      omega
  | n + 1, h => by
    unfold msk
    rw [Nat.testBit_or, Bool.or_eq_true, msk_bit n (by omega), Nat.testBit_two_pow]
    constructor
    · rintro (⟨p, h1, h2, h3⟩ | h3)
      · exact ⟨p, by omega, h2, h3⟩
      · exact ⟨a - (n + 1), by omega, by omega, by simpa using h3⟩
    · rintro ⟨p, h1, h2, h3⟩
      by_cases e : p = a - (n + 1)
      · right; subst e; simpa using h3
      · left; exact ⟨p, by omega, h2, h3⟩
theorem msk_lt {f : Nat → Nat} {a : Nat} (hf : ∀ p, p < a → f p < 5) : ∀ n, n ≤ a → msk f a n < 2 ^ 5
  | 0, _ => by simp [msk]
  | n + 1, h => by
    unfold msk
    exact Nat.or_lt_two_pow (msk_lt hf n (by omega)) (Nat.pow_lt_pow_right (by decide) (hf _ (by omega)))
theorem surj_inj : ∀ (w : Nat) (f : Nat → Nat), (∀ v, v < w → ∃ p, p < w ∧ f p = v) → (∀ p q, p < w → q < w → f p = f q → p = q) ∧ ∀ p, p < w → f p < w
  | 0, f, _ => ⟨fun p q hp => by omega, fun p hp => by omega⟩
  | w + 1, f, h => by
    obtain ⟨p0, hp0, e0⟩ := h w (by omega)
    have hg : ∀ v, v < w → ∃ p, p < w ∧ (fun p => if p = p0 then f w else f p) p = v := by
      intro v hv
      obtain ⟨p, hp, e⟩ := h v (by omega)
      by_cases a : p = w
      · have hpp : p0 ≠ w := by intro z; rw [z, ← a, e] at e0; omega
        refine ⟨p0, by omega, ?_⟩
        simp only [if_true]
        rw [← a]; exact e
      · have hpp : p ≠ p0 := by intro z; rw [z, e0] at e; omega
        exact ⟨p, by omega, by simp only [hpp, if_false]; exact e⟩
    obtain ⟨i1, i2⟩ := surj_inj w (fun p => if p = p0 then f w else f p) hg
    have key : ∀ p, p < w + 1 → p ≠ p0 → ∃ p', p' < w ∧ (if p' = p0 then f w else f p') = f p ∧ (p = w → p' = p0) ∧ (p ≠ w → p' = p) := by
      intro p hp hne
      by_cases a : p = w
      · exact ⟨p0, by omega, by rw [if_pos rfl, a], fun _ => rfl, fun z => absurd a z⟩
      · exact ⟨p, by omega, by rw [if_neg hne], fun z => absurd z a, fun _ => rfl⟩
    have small : ∀ p, p < w + 1 → p ≠ p0 → f p < w := by
      intro p hp hne
      obtain ⟨p', a, b, -, -⟩ := key p hp hne
      rw [← b]
      exact i2 p' a
    refine ⟨fun p q hp hq e => ?_, fun p hp => ?_⟩
    · by_cases a : p = p0
      · by_cases b : q = p0
        · omega
        · have := small q hq b
          rw [← e, a, e0] at this
          omega
      · by_cases b : q = p0
        · have := small p hp a
          rw [e, b, e0] at this
          omega
        · obtain ⟨p', a1, a2, a3, a4⟩ := key p hp a
          obtain ⟨q', b1, b2, b3, b4⟩ := key q hq b
          have := i1 p' q' a1 b1 (by rw [a2, b2]; exact e)
          by_cases c : p = w <;> by_cases d : q = w
          · omega
          · have := a3 c; have := b4 d; omega
          · have := a4 c; have := b3 d; omega
          · have := a4 c; have := b4 d; omega
    · by_cases a : p = p0
      · rw [a, e0]; omega
      · have := small p hp a
        omega
theorem msk_PF {f : Nat → Nat} {w : Nat} (h : msk f w w = 2 ^ w - 1) : PF w f := by
  have hs : ∀ v, v < w → ∃ p, p < w ∧ f p = v := by
    intro v hv
    have := (msk_bit (f := f) (a := w) (v := v) w (Nat.le_refl _)).mp (by rw [h, Nat.testBit_two_pow_sub_one]; simpa using hv)
    obtain ⟨p, -, h2, h3⟩ := this
    exact ⟨p, h2, h3⟩
  obtain ⟨a, b⟩ := surj_inj w f hs
  exact ⟨b, a, hs⟩
theorem PF_msk {f : Nat → Nat} {w : Nat} (h : PF w f) : msk f w w = 2 ^ w - 1 := by
  apply Nat.eq_of_testBit_eq
  intro v
  rw [Nat.testBit_two_pow_sub_one]
  by_cases hv : v < w
  · obtain ⟨p, h1, h2⟩ := h.2.2 v hv
    rw [(msk_bit (f := f) (a := w) (v := v) w (Nat.le_refl _)).mpr ⟨p, by omega, h1, h2⟩]
    simp [hv]
  · have : (msk f w w).testBit v ≠ true := by
      intro z
      obtain ⟨p, -, h2, h3⟩ := (msk_bit (f := f) (a := w) (v := v) w (Nat.le_refl _)).mp z
      have := h.1 p h2
      omega
    simp at this
    simp [this, hv]
theorem canN_congr {ki fi fi' le : Nat → Nat} {dp : Nat} : ∀ n, (∀ p, p < n → fi p = fi' p) → canN ki fi le dp n = canN ki fi' le dp n
  | 0, _ => rfl
  | n + 1, h => by
    have e : payN ki fi n dp = payN ki fi' n dp := by
      unfold payN hvN
      by_cases z : n = 0
      · subst z
        rw [if_pos rfl, if_pos rfl, h 0 (by omega)]
      · rw [if_neg z, if_neg z, h n (by omega), h (n - 1) (by omega)]
    unfold canN
    rw [canN_congr n (fun p hp => h p (by omega)), e, h n (by omega)]
theorem trS_congr {ki fi fi' le : Nat → Nat} {dp : Nat} : ∀ n, (∀ p, p < n → fi p = fi' p) → trS ki fi dp le n = trS ki fi' dp le n
  | 0, _ => rfl
  | n + 1, h => by
    have e : payN ki fi n dp = payN ki fi' n dp := by
      unfold payN hvN
      by_cases z : n = 0
      · subst z
        rw [if_pos rfl, if_pos rfl, h 0 (by omega)]
      · rw [if_neg z, if_neg z, h n (by omega), h (n - 1) (by omega)]
    unfold trS
    rw [trS_congr n (fun p hp => h p (by omega)), e, h n (by omega)]
theorem rot_congr {w : Nat} {fi fi' : Nat → Nat} (h : ∀ p, p < w → fi p = fi' p) : ∀ p, p < w → rot w fi p = rot w fi' p := by
  intro p hp
  unfold rot
  by_cases a : p + 1 < w
  · rw [if_pos a, if_pos a, h _ a]
  · rw [if_neg a, if_neg a, if_pos (by omega), if_pos (by omega), h 0 (by omega)]
theorem soN_congr {w : Nat} {ki de : Nat → Nat} : ∀ (n k : Nat) (fi fi' le : Nat → Nat), (∀ p, p < w → fi p = fi' p) → (soN w ki de n k fi le).1 = (soN w ki de n k fi' le).1 ∧ (soN w ki de n k fi le).2.2 = (soN w ki de n k fi' le).2.2
  | 0, k, fi, fi', le, _ => ⟨rfl, rfl⟩
  | n + 1, k, fi, fi', le, h => by
    unfold soN
    rw [canN_congr w h, trS_congr w h]
    split
    · exact soN_congr n (k + 1) _ _ _ (rot_congr h)
    · exact ⟨rfl, rfl⟩
abbrev odC (w c : Nat) : Nat → Nat := odN w c (fun _ => 0)
theorem odN_C {w c p : Nat} {od : Nat → Nat} (h : p < w) : odN w c od p = odC w c p := by
  unfold odC odN
  rw [if_pos h, if_pos h]
theorem msk_congr {f g : Nat → Nat} {a : Nat} : ∀ n, n ≤ a → (∀ p, p < a → f p = g p) → msk f a n = msk g a n
  | 0, _, _ => rfl
  | n + 1, h, e => by
    unfold msk
    rw [msk_congr n (by omega) e, e _ (by omega)]
def isO (w c : Nat) : Bool := decide (msk (odC w c) w w = 2 ^ w - 1)
def soC (w : Nat) (ki sr de : Nat → Nat) (st c : Nat) : Bool × (Nat → Nat) × (Nat → Nat) := soN w ki de st 0 (odC w c) sr
def gtO (b : Option (Nat × Nat)) (v : Nat) : Bool := match b with
  | none => true
  | some (_, l) => decide (l < v)
def setG (w : Nat) (ki sr de : Nat → Nat) (st : Nat) : Nat → Option (Nat × Nat)
  | 0 => none
  | c + 1 => if isO w c && (soC w ki sr de st c).1 && gtO (setG w ki sr de st c) (mnN (soC w ki sr de st c).2.2 100 w) then some (c, mnN (soC w ki sr de st c).2.2 100 w) else setG w ki sr de st c
def p2 (b : Option (Nat × Nat)) : Option Nat := match b with
  | none => none
  | some (_, l) => some l
theorem setG_b {w : Nat} {ki sr de : Nat → Nat} {st : Nat} : ∀ n c l, setG w ki sr de st n = some (c, l) → c < n ∧ l ≤ 100
  | 0, c, l, h => by simp [setG] at h
  | n + 1, c, l, h => by
    unfold setG at h
    split at h
    · cases h
      exact ⟨by omega, mnN_le _ _ _⟩
    · have := setG_b n c l h
      omega
def r_setOut (w : Nat) (ki sr de : Nat → Nat) (st : Nat) (x : Int32) : Int32 := match setG w ki sr de st (w ^ w) with
  | none => -1
  | some (c, l) => if x.toInt = 0 then nI l else if x.toInt - 10 < w then nI (odC w c (x.toInt - 10).toNat) else -1
theorem pred_lt0 {c : Nat} (h : c < 2 ^ 30) : nI c - nI 1 < 0 ↔ c = 0 := by
  rw [show (0 : Int32) = nI 0 from rfl, lt_nI (by decide), pk_sub_toInt h (by decide)]
  constructor
  · intro z
    have : (c : Int) - ((1 : Nat) : Int) < ((0 : Nat) : Int) := z
    omega
  · intro z
    subst z
    decide
