
theorem mnN_congr {f g : Nat → Nat} {c : Nat} : ∀ n, (∀ v, v < n → f v = g v) → mnN f c n = mnN g c n
  | 0, _ => rfl
  | n + 1, h => by
    unfold mnN
    rw [mnN_congr n (fun v hv => h v (by omega)), h n (by omega)]
/-- what is behind a stretch -/
def r_lb (w : Nat) (ki F le : Nat → Nat) (dp : Nat) : Option Nat := if canN ki F le dp w then some (mnN (trS ki F dp le w) 99 w) else none
