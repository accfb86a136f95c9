/-! a trail: its object at t, its arrays behind it -/
def trF (t : Nat) (st me tr wa mi : Int32) : List Value := [.int st, .int me, .int tr, .int wa, .int mi, .ref (t + 1 + 0), .ref (t + 1 + 1), .ref (t + 1 + 2), .ref (t + 1 + 3), .ref (t + 1 + 4), .ref (t + 1 + 5), .ref (t + 1 + 6), .ref (t + 1 + 7)]
def trA (ade afo aki asr ale ato afi adu : List Int32) : List (List Int32) := [ade, afo, aki, asr, ale, ato, afi, adu]
def KT (σ : Sto) (t : Nat) : Prop := σ.1[t]? = some 4 ∧ ∀ j, j < 8 → σ.1[t + 1 + j]? = some 100
/-- the store has a component -/
def Hs (σ : Sto) (o q : Nat) (fs : List Value) (as : List (List Int32)) : Prop := σ.2.1 o = fs ∧ ∀ k l, as[k]? = some l → σ.2.2 (q + k) = l
theorem Hs_self {σ : Sto} {o q : Nat} {fs : List Value} {as : List (List Int32)} (h : Hs σ o q fs as) : put σ o q fs as = σ := put_self h.1 h.2
theorem Hs_put {σ : Sto} {o q : Nat} {fs : List Value} {as : List (List Int32)} : Hs (put σ o q fs as) o q fs as := ⟨put_F, fun k l h => put_A h⟩
theorem Hs_ne {σ : Sto} {o q o' q' : Nat} {fs fs' : List Value} {as as' : List (List Int32)} (h : Hs σ o q fs as) (h1 : o ≠ o') (h2 : q + as.length ≤ q' ∨ q' + as'.length ≤ q) : Hs (put σ o' q' fs' as') o q fs as := by
  refine ⟨(put_F_ne h1).trans h.1, fun k l hk => ?_⟩
  have := (List.getElem?_eq_some_iff.mp hk).1
  rw [put_A_ne (by omega)]
  exact h.2 k l hk
theorem Ev_at {d m o q : Nat} {As : List Value} {σ : Sto} {r : Option Value} {fs fs' : List Value} {as as' : List (List Int32)} (h : Hs σ o q fs as) (k : Ev d 0 0 m As (put σ o q fs as) r (put σ o q fs' as')) : Ev d 0 0 m As σ r (put σ o q fs' as') := by
  rw [Hs_self h] at k
  exact k
theorem Ev_rd {d m o q : Nat} {As : List Value} {σ : Sto} {r : Option Value} {fs : List Value} {as : List (List Int32)} (h : Hs σ o q fs as) (k : Ev d 0 0 m As (put σ o q fs as) r (put σ o q fs as)) : Ev d 0 0 m As σ r σ := by
  rw [Hs_self h] at k
  exact k
theorem wp_aldG {d mc ms m pc nx : Nat} {L S : List Value} {σ σ' : Sto} {r : Option Value} {X : Nat × Nat × Nat × Int} {a n j : Nat} {f : Nat → Int32} (hd : ft m pc = some (.iaload, 1, nx, X)) (hK : σ.1[a]? = some 100) (hA : σ.2.2 a = arrI n f) (hj : j < n) (hn : n < 1000) (kk : WP d mc ms m nx L (.int (f j) :: S) σ r σ') : WP d mc ms m pc L (.int (nI j) :: .ref a :: S) σ r σ' := by
  refine wp_iald hd hK (by rw [hA, arrI_len]; exact hj) (by rw [hA, arrI_len]; omega) ?_
  rw [hA, arrI_get hj]
  exact kk

theorem canN_false {ki fi le : Nat → Nat} {dp n p : Nat} (hp : p < n) (h : ¬ payN ki fi p dp ≤ le (fi p)) : canN ki fi le dp n = false := by
  cases hc : canN ki fi le dp n with
  | false => rfl
  | true => exact absurd (canN_at hc hp) h
theorem trS_eq {w : Nat} {ki fi le : Nat → Nat} {dp : Nat} (hf : PF w fi) {du : Nat → Nat} (hdu : ∀ p, p < w → du (fi p) = payN ki fi p dp) (v : Nat) : trS ki fi dp le w v = if v < w then le v - du v else le v := by
  by_cases hv : v < w
  · obtain ⟨p, hp, rfl⟩ := hf.2.2 v hv
    rw [if_pos hv, trS_at hf.2.1 hp, hdu p hp]
  · rw [if_neg hv]
    exact trS_out (fun p hp z => by have := hf.1 p hp; omega)
theorem okT_iff {w st tr : Nat} {ki fi le de : Nat → Nat} : okT w st tr ki fi le de = (decide (w ≠ 0) && decide (tr ≠ st) && canN ki fi le (de tr) w) := rfl
theorem neg_lt {a b : Nat} (ha : a < 1000) (hb : b < 1000) : (nI a + -(nI b)).toInt = (a : Int) - b := by
  rw [← Int32.sub_eq_add_neg, pk_sub_toInt (by omega) (by omega)]
