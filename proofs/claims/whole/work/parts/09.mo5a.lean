
theorem eq_0 {x : Int32} : x = 0 ↔ x.toInt = 0 := eq_nI (a := 0) (by decide)
theorem eq_1 {x : Int32} : x = nI 1 ↔ x.toInt = 1 := eq_nI (a := 1) (by decide)
theorem nI_or (a b : Nat) : nI a ||| nI b = nI (a ||| b) := by
  apply Int32.toBitVec_inj.mp
  simp [nI, BitVec.ofNat_or]
theorem gb_congr {w : Nat} {ki fi de wh wh' : Nat → Nat} : ∀ (n k j : Nat) (le : Nat → Nat) (ch : Nat), (∀ i, k ≤ i → i < k + n → wh i = wh' i) → gb w ki fi de wh n k j le ch = gb w ki fi de wh' n k j le ch
  | 0, k, j, le, ch, _ => rfl
  | n + 1, k, j, le, ch, h => by
    unfold gb
    rw [h k (by omega) (by omega), gb_congr n (k + 1) _ _ _ (fun i h1 h2 => h i (by omega) (by omega))]
theorem gb_ch {w : Nat} {ki fi de wh : Nat → Nat} (hw : 0 < w) : ∀ (n k j : Nat) (le : Nat → Nat) (ch : Nat), (gb w ki fi de wh n k j le ch).2.2.2 ≤ ch + n * w
  | 0, k, j, le, ch => by simp [gb]
  | n + 1, k, j, le, ch => by
    have hm : (pl w fi (wh k) + w - j) % w < w := Nat.mod_lt _ hw
    rw [Nat.succ_mul]
    unfold gb
    split
    · have := gb_ch (ki := ki) (fi := fi) (de := de) (wh := wh) hw n (k + 1) (pl w fi (wh k)) (trS ki (rotk w fi (pl w fi (wh k))) (de k) le w) (ch + (pl w fi (wh k) + w - j) % w)
      omega
    · show ch + (pl w fi (wh k) + w - j) % w ≤ _
      omega
theorem gb_le {w : Nat} {ki fi de wh : Nat → Nat} : ∀ (n k j : Nat) (le : Nat → Nat) (ch v : Nat), (gb w ki fi de wh n k j le ch).2.2.1 v ≤ le v
  | 0, k, j, le, ch, v => Nat.le_refl _
  | n + 1, k, j, le, ch, v => by
    unfold gb
    split
    · exact Nat.le_trans (gb_le n _ _ _ _ v) trS_le
    · exact Nat.le_refl _
/-- the way of a number -/
abbrev whC (w tr st c : Nat) : Nat → Nat := whN w tr st c (fun _ => 0)
abbrev gbC (w : Nat) (ki fi de le : Nat → Nat) (tr st c : Nat) : Bool × Nat × (Nat → Nat) × Nat := gb w ki fi de (whC w tr st c) (st - tr) tr 0 le 0
def o1 (b : Option (Nat × Nat × Nat)) : Option Nat := match b with
  | none => none
  | some (a, _, _) => some a
def o2 (b : Option (Nat × Nat × Nat)) : Option Nat := match b with
  | none => none
  | some (_, a, _) => some a
def o3 (b : Option (Nat × Nat × Nat)) : Option Nat := match b with
  | none => none
  | some (_, _, a) => some a
def btr (b : Option (Nat × Nat × Nat)) (v ch : Nat) : Bool := match b with
  | none => true
  | some (_, bl, bc) => decide (bl < v) || (decide (v = bl) && decide (ch < bc))
def bestF (w : Nat) (ki fi de le : Nat → Nat) (tr st : Nat) : Nat → Option (Nat × Nat × Nat)
  | 0 => none
  | c + 1 => if (gbC w ki fi de le tr st c).1 && btr (bestF w ki fi de le tr st c) (mnN (gbC w ki fi de le tr st c).2.2.1 100 w) (gbC w ki fi de le tr st c).2.2.2 then some (c, mnN (gbC w ki fi de le tr st c).2.2.1 100 w, (gbC w ki fi de le tr st c).2.2.2) else bestF w ki fi de le tr st c
theorem bestF_b {w : Nat} {ki fi de le : Nat → Nat} {tr st : Nat} (hw : 0 < w) : ∀ n c l ch, bestF w ki fi de le tr st n = some (c, l, ch) → c < n ∧ l ≤ 100 ∧ ch ≤ (st - tr) * w
  | 0, c, l, ch, h => by simp [bestF] at h
  | n + 1, c, l, ch, h => by
    unfold bestF at h
    split at h
    · cases h
      refine ⟨by omega, mnN_le _ _ _, ?_⟩
      have := gb_ch (ki := ki) (fi := fi) (de := de) (wh := whC w tr st n) hw (st - tr) tr 0 le 0
      exact Nat.le_trans this (by omega)
    · have := bestF_b hw n c l ch h
      omega
def r_best (w : Nat) (ki fi de le : Nat → Nat) (tr st : Nat) (x : Int32) : Int32 := match bestF w ki fi de le tr st (w ^ (st - tr)) with
  | none => -1
  | some (c, l, ch) => if x.toInt = 0 then nI l else if x.toInt = 1 then nI ch else if (tr : Int) ≤ x.toInt - 10 ∧ x.toInt - 10 ≤ (st : Int) - 1 then nI (whC w tr st c (x.toInt - 10).toNat) else -1
/-- how far -/
def faN (w : Nat) (ki de : Nat → Nat) (tr by' : Nat) : Nat → Nat → (Nat → Nat) → (Nat → Nat) → Nat
  | 0, k, _, _ => k
  | n + 1, k, fi, le => if canN ki fi le (de (tr + k)) w then faN w ki de tr by' n (k + 1) (if (k + 1) % by' = 0 then rot w fi else fi) (trS ki fi (de (tr + k)) le w) else k
/-- files by number -/
def odN (w c : Nat) (od : Nat → Nat) : Nat → Nat := fun p => if p < w then c / w ^ (w - 1 - p) % w else od p
def msk (f : Nat → Nat) : Nat → Nat → Nat
  | _, 0 => 0
  | a, n + 1 => msk f a n ||| 2 ^ f (a - (n + 1))
def soN (w : Nat) (ki de : Nat → Nat) : Nat → Nat → (Nat → Nat) → (Nat → Nat) → Bool × (Nat → Nat) × (Nat → Nat)
  | 0, _, fi, le => (true, fi, le)
  | n + 1, k, fi, le => if canN ki fi le (de k) w then soN w ki de n (k + 1) (rot w fi) (trS ki fi (de k) le w) else (false, fi, le)
theorem soN_le {w : Nat} {ki de : Nat → Nat} : ∀ (n k : Nat) (fi le : Nat → Nat) (v : Nat), (soN w ki de n k fi le).2.2 v ≤ le v
  | 0, k, fi, le, v => Nat.le_refl _
  | n + 1, k, fi, le, v => by
    unfold soN
    split
    · exact Nat.le_trans (soN_le n _ _ _ v) trS_le
    · exact Nat.le_refl _
theorem whN_lt {w tr st c k : Nat} {wh : Nat → Nat} (hw : 0 < w) (h1 : tr ≤ k) (h2 : k < st) : whN w tr st c wh k < w := by
  unfold whN
  rw [if_pos ⟨h1, h2⟩]
  exact Nat.mod_lt _ hw
