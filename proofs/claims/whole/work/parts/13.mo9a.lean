
theorem smN_b {f : Nat → Nat} {a : Nat} : ∀ n, (∀ k, a ≤ k → k < a + n → f k < 1000) → smN f a n ≤ n * 1000
  | 0, _ => by simp [smN]
  | n + 1, h => by
    have := smN_b n (fun k h1 h2 => h k h1 (by omega))
    have := h (a + n) (by omega) (by omega)
    unfold smN
    omega
/-- the first k stretches from tr on are deepened already -/
def snP (tr st deep c : Nat) (de : Nat → Nat) : Nat → Nat := fun k => if tr ≤ k ∧ k < c then (if 9 < de k + deep then 9 else de k + deep) else de k
def bkN (to : Nat → Option Nat) : Nat → Nat
  | 0 => 0
  | n + 1 => bkN to n + (if to n = none then 0 else 1)
theorem bkN_le (to : Nat → Option Nat) : ∀ n, bkN to n ≤ n
  | 0 => Nat.le_refl _
  | n + 1 => by have := bkN_le to n; unfold bkN; split <;> omega
def r_count (st me w tr : Nat) (mi : Int32) (le : Nat → Nat) (to : Nat → Option Nat) (pm sl bm ask : Nat) (x : Int32) : Int32 := match x.toInt with
  | 0 => nI st
  | 1 => nI me
  | 2 => nI w
  | 3 => nI tr
  | 4 => mi
  | 5 => nI (smN le 0 w)
  | 6 => nI (bkN to w)
  | 7 => nI pm
  | 8 => nI sl
  | 9 => nI bm
  | 10 => nI ask
  | _ => -102
def sayN (h : Int64) (x : Int32) : Int64 := lN 31 * h + x.toInt64
def sayF (f : Nat → Int32) : Nat → Int64 → Int64
  | 0, h => h
  | n + 1, h => sayN (sayF f n h) (f n)
def sayG (F : Nat → Nat → Int32) : Nat → Int64 → Int64
  | 0, h => h
  | n + 1, h => sayF (F n) 7 (sayG F n h)
def sayD (de : Nat → Nat) (fo : Nat → Option Nat) : Nat → Int64 → Int64
  | 0, h => h
  | n + 1, h => sayN (sayN (sayD de fo n h) (nI (de n))) (eo (fo n))
def r_digest (st me w tr : Nat) (mi : Int32) (ki sr le fi de : Nat → Nat) (to fo : Nat → Option Nat) (pg : Nat → Nat) (pm sl bm ask : Nat) : Int64 :=
  sayF (fun q => r_count st me w tr mi le to pm sl bm ask (nI q)) 11 (sayF (fun k => nI (pg k)) pm
    (if w = 0 then sayG (fun v q => r_tells st tr ki sr le fi de to fo w v (nI q)) w (sayD de fo st (lN 787))
     else sayN (sayN (sayN (sayN (sayG (fun v q => r_tells st tr ki sr le fi de to fo w v (nI q)) w (sayD de fo st (lN 787))) (nI (faN w ki de tr 1 (st - tr) 0 fi le))) (nI (faN w ki de tr 2 (st - tr) 0 fi le))) (nI (faN w ki de tr 3 (st - tr) 0 fi le))) (eo (p2 (setG w ki sr de st (w ^ w))))))
