
theorem put_comm {σ : Sto} {o q o2 q2 : Nat} {fs fs2 : List Value} {as as2 : List (List Int32)} (h1 : o ≠ o2) (h2 : q + as.length ≤ q2 ∨ q2 + as2.length ≤ q) : put (put σ o q fs as) o2 q2 fs2 as2 = put (put σ o2 q2 fs2 as2) o q fs as := by
  unfold put
  refine congrArg (Prod.mk σ.1) (Prod.ext ?_ ?_)
  · funext i
    by_cases hi : i = o
    · subst hi; simp [h1]
    · by_cases hi2 : i = o2 <;> simp [hi, hi2, Ne.symm h1]
  · funext i
    by_cases a : q ≤ i ∧ i < q + as.length
    · have b : ¬ (q2 ≤ i ∧ i < q2 + as2.length) := by omega
      simp [a, b]
    · simp [a]
theorem put_3 {σ : Sto} {o1 q1 o2 q2 o3 q3 : Nat} {f1 f1' f2 f2' f3 : List Value} {a1 a1' a2 a2' a3 : List (List Int32)} (h12 : o1 ≠ o2) (h13 : o1 ≠ o3) (h23 : o2 ≠ o3) (d12 : q1 + a1.length ≤ q2 ∨ q2 + a2.length ≤ q1) (d13 : q1 + a1.length ≤ q3 ∨ q3 + a3.length ≤ q1) (d23 : q2 + a2.length ≤ q3 ∨ q3 + a3.length ≤ q2) (l1 : a1.length = a1'.length) (l2 : a2.length = a2'.length) : put (put (put (put (put σ o1 q1 f1 a1) o2 q2 f2 a2) o3 q3 f3 a3) o1 q1 f1' a1') o2 q2 f2' a2' = put (put (put σ o1 q1 f1' a1') o2 q2 f2' a2') o3 q3 f3 a3 := by
  have e1 : put (put (put (put σ o1 q1 f1 a1) o2 q2 f2 a2) o3 q3 f3 a3) o1 q1 f1' a1' = put (put (put σ o1 q1 f1' a1') o2 q2 f2 a2) o3 q3 f3 a3 := by
    have e0 : put (put (put (put σ o1 q1 f1 a1) o2 q2 f2 a2) o3 q3 f3 a3) o1 q1 f1' a1' = put (put (put (put σ o1 q1 f1 a1) o2 q2 f2 a2) o1 q1 f1' a1') o3 q3 f3 a3 := put_comm (Ne.symm h13) (by omega)
    have e2 : put (put (put σ o1 q1 f1 a1) o2 q2 f2 a2) o1 q1 f1' a1' = put (put σ o1 q1 f1' a1') o2 q2 f2 a2 := put_sw h12 d12 l1
    rw [e0, e2]
  have e3 : put (put (put (put σ o1 q1 f1' a1') o2 q2 f2 a2) o3 q3 f3 a3) o2 q2 f2' a2' = put (put (put σ o1 q1 f1' a1') o2 q2 f2' a2') o3 q3 f3 a3 := put_sw h23 d23 l2
  rw [e1, e3]
/-- outside of n cells from a on nothing has changed -/
def Fr (σ σ' : Sto) (a n : Nat) : Prop := σ'.1 = σ.1 ∧ ∀ i, (i < a ∨ a + n ≤ i) → σ'.2.1 i = σ.2.1 i ∧ σ'.2.2 i = σ.2.2 i
theorem Fr_refl {σ : Sto} {a n : Nat} : Fr σ σ a n := ⟨rfl, fun i _ => ⟨rfl, rfl⟩⟩
theorem Fr_put {σ σ' : Sto} {a n o q : Nat} {fs : List Value} {as : List (List Int32)} (h : Fr σ σ' a n) (ho : a ≤ o ∧ o < a + n) (hq : a ≤ q ∧ q + as.length ≤ a + n) : Fr σ (put σ' o q fs as) a n := by
  refine ⟨h.1, fun i hi => ?_⟩
  obtain ⟨h1, h2⟩ := h.2 i hi
  exact ⟨by rw [put_F_ne (by omega)]; exact h1, by rw [put_A_ne (by omega)]; exact h2⟩
theorem Fr_trans {σ σ' σ'' : Sto} {a n : Nat} (h1 : Fr σ σ' a n) (h2 : Fr σ' σ'' a n) : Fr σ σ'' a n := ⟨h2.1.trans h1.1, fun i hi => ⟨(h2.2 i hi).1.trans (h1.2 i hi).1, (h2.2 i hi).2.trans (h1.2 i hi).2⟩⟩
theorem Fr_mono {σ σ' : Sto} {a n a' n' : Nat} (h : Fr σ σ' a n) (h1 : a' ≤ a) (h2 : a + n ≤ a' + n') : Fr σ σ' a' n' := ⟨h.1, fun i hi => h.2 i (by omega)⟩
theorem Hs_Fr {σ σ' : Sto} {a n o q : Nat} {fs : List Value} {as : List (List Int32)} (hF : Fr σ σ' a n) (h : Hs σ o q fs as) (ho : o < a ∨ a + n ≤ o) (hq : q + as.length ≤ a ∨ a + n ≤ q) : Hs σ' o q fs as := by
  refine ⟨(hF.2 o ho).1.trans h.1, fun k l hk => ?_⟩
  have := (List.getElem?_eq_some_iff.mp hk).1
  exact ((hF.2 (q + k) (by omega)).2).trans (h.2 k l hk)
theorem KT_Fr {σ σ' : Sto} {a n t : Nat} (hF : Fr σ σ' a n) (h : KT σ t) : KT σ' t := by
  unfold KT at *
  rw [hF.1]; exact h
