
theorem bok_to {to to' : Nat → Option Nat} {wh : Nat → Nat} {tr n : Nat} : ∀ w, (∀ v, v < w → to v = to' v) → bok to wh tr n w = bok to' wh tr n w
  | 0, _ => rfl
  | w + 1, h => by unfold bok; rw [bok_to w (fun v hv => h v (by omega)), h w (by omega)]
theorem fitC_to {w : Nat} {ki fi de le : Nat → Nat} {to to' : Nat → Option Nat} {tr st c : Nat} (h : ∀ v, v < w → to v = to' v) : fitC w ki fi de le to tr st c = fitC w ki fi de le to' tr st c := by
  unfold fitC
  rw [bok_to w h]
theorem ftN_to {w : Nat} {ki fi de le : Nat → Nat} {to to' : Nat → Option Nat} {tr st : Nat} (h : ∀ v, v < w → to v = to' v) : ∀ c, ftN w ki fi de le to tr st c = ftN w ki fi de le to' tr st c
  | 0 => rfl
  | c + 1 => by unfold ftN; rw [ftN_to h c, fitC_to h]
theorem agN_to {w : Nat} {ki fi de le : Nat → Nat} {to to' : Nat → Option Nat} {tr st k : Nat} (h : ∀ v, v < w → to v = to' v) : ∀ c, agN w ki fi de le to tr st k c = agN w ki fi de le to' tr st k c
  | 0 => rfl
  | c + 1 => by unfold agN; rw [agN_to h c, ftN_to h c, fitC_to h]
theorem agA_to {w : Nat} {ki fi de le : Nat → Nat} {to to' : Nat → Option Nat} {tr st : Nat} {q : Option Nat} (h : ∀ v, v < w → to v = to' v) (c : Nat) : agA w ki fi de le to tr st q c = agA w ki fi de le to' tr st q c := by
  cases q with
  | none => rfl
  | some k => exact agN_to h c
