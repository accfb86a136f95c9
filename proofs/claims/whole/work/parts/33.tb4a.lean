
abbrev n_tell (N : Trl) (x y : Int32) : Trl := mkT N.st N.me N.tr N.w N.mi N.de N.ki N.sr N.le N.fi N.fo (if okTl N.w x y then up N.to x.toInt.toNat (tlO y) else N.to)
theorem setA_Hs {σ : Sto} {o q k : Nat} {l : List Int32} {fs : List Value} {as : List (List Int32)} (h : Hs σ o q fs as) (hk : k < as.length) : setA σ (q + k) l = put σ o q fs (as.set k l) := by
  have e : setA σ (q + k) l = setA (put σ o q fs as) (q + k) l := by rw [Hs_self h]
  rw [e, setA_put hk]
theorem r_best_eq {w tr st : Nat} {ki fi de le : Nat → Nat} (x : Int32) : r_best w ki fi de le tr st x = if x.toInt = 0 then eo (o2 (bestF w ki fi de le tr st (w ^ (st - tr)))) else if x.toInt = 1 then eo (o3 (bestF w ki fi de le tr st (w ^ (st - tr)))) else if 10 ≤ x.toInt then eo (frO w tr st (bestF w ki fi de le tr st (w ^ (st - tr))) (x.toInt - 10).toNat) else -1 := by
  unfold r_best
  cases bestF w ki fi de le tr st (w ^ (st - tr)) with
  | none => simp [o2, o3, frO, eo]
  | some q =>
    obtain ⟨c, l, ch⟩ := q
    simp only [o2, o3, frO]
    by_cases a : x.toInt = 0
    · simp [a, eo]
    · by_cases b : x.toInt = 1
      · simp [b, eo]
      · by_cases z : 10 ≤ x.toInt
        · simp only [a, b, z, if_true, if_false]
          by_cases t : tr ≤ (x.toInt - 10).toNat ∧ (x.toInt - 10).toNat < st
          · rw [if_pos t, if_pos (by omega)]
            rfl
          · rw [if_neg t, if_neg (by omega)]
            rfl
        · simp only [a, b, z, if_false]
          rw [if_neg (by omega)]
theorem r_setOut_eq {w st : Nat} {ki sr de : Nat → Nat} (x : Int32) (hx : x.toInt = 0 ∨ 10 ≤ x.toInt) : r_setOut w ki sr de st x = if x.toInt = 0 then eo (p2 (setG w ki sr de st (w ^ w))) else eo (flO w (setG w ki sr de st (w ^ w)) (x.toInt - 10).toNat) := by
  unfold r_setOut
  cases setG w ki sr de st (w ^ w) with
  | none => simp [p2, flO, eo]
  | some q =>
    obtain ⟨c, l⟩ := q
    simp only [p2, flO]
    by_cases a : x.toInt = 0
    · simp [a, eo]
    · simp only [a, if_false]
      by_cases t : (x.toInt - 10).toNat < w
      · rw [if_pos t, if_pos (by omega)]
        rfl
      · rw [if_neg t, if_neg (by omega)]
        rfl
