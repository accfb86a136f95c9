
theorem isO_rep {w c p k : Nat} (hp : p < w) (hk : k < p) (h : odC w c p = odC w c k) : isO w c = false := by
  unfold isO
  by_cases e : msk (odC w c) w w = 2 ^ w - 1
  · have := (msk_PF e).2.1 p k hp (by omega) h
    omega
  · simp [e]
theorem isO_PF {w c : Nat} {td : Nat → Nat} (h : PF w td) (hc : ∀ p, p < w → odC w c p = td p) : isO w c = true := by
  unfold isO
  rw [msk_congr w (Nat.le_refl _) hc, PF_msk h]
  simp
theorem setG_leaf {w st c : Nat} {ki sr de td : Nat → Nat} (h : PF w td) (hc : ∀ p, p < w → odC w c p = td p) : setG w ki sr de st (c + 1) = if (soN w ki de st 0 td sr).1 && gtO (setG w ki sr de st c) (mnN (soN w ki de st 0 td sr).2.2 100 w) then some (c, mnN (soN w ki de st 0 td sr).2.2 100 w) else setG w ki sr de st c := by
  obtain ⟨e1, e2⟩ := soN_congr (w := w) (ki := ki) (de := de) st 0 (odC w c) td sr hc
  rw [setG, isO_PF h hc]
  unfold soC
  rw [e1, e2, Bool.true_and]
theorem up_same {α : Type} {f : Nat → α} {j : Nat} : up f j (f j) = f := by
  funext i
  unfold up
  by_cases e : i = j
  · rw [if_pos e, e]
  · rw [if_neg e]
theorem up_up {α : Type} {f : Nat → α} {j : Nat} {x y : α} : up (up f j x) j y = up f j y := by
  funext i
  unfold up
  by_cases e : i = j
  · rw [if_pos e, if_pos e]
  · rw [if_neg e, if_neg e, if_neg e]
theorem up_bi {f : Nat → Bool} {j : Nat} {x : Bool} : up (fun v => bi (f v)) j (bi x) = fun v => bi (up f j x v) := by
  funext i
  unfold up
  by_cases e : i = j
  · rw [if_pos e, if_pos e]
  · rw [if_neg e, if_neg e]
