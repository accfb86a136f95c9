section S38

theorem gb_de {w : Nat} {ki fi wh de de' : Nat → Nat} : ∀ (n k j : Nat) (le : Nat → Nat) (ch : Nat), (∀ i, k ≤ i → i < k + n → de i = de' i) → gb w ki fi de wh n k j le ch = gb w ki fi de' wh n k j le ch
  | 0, _, _, _, _, _ => rfl
  | n + 1, k, j, le, ch, h => by
    unfold gb
    rw [h k (by omega) (by omega), gb_de n (k + 1) _ _ _ (fun i a b => h i (by omega) (by omega))]
theorem gbC_de {w tr st : Nat} {ki fi le de de' : Nat → Nat} (h1 : tr ≤ st) (h : ∀ k, k < st → de k = de' k) (c : Nat) : gbC w ki fi de le tr st c = gbC w ki fi de' le tr st c := gb_de _ _ _ _ _ (fun i a b => h i (by omega))
theorem bestF_de {w tr st : Nat} {ki fi le de de' : Nat → Nat} (h1 : tr ≤ st) (h : ∀ k, k < st → de k = de' k) : ∀ c, bestF w ki fi de le tr st c = bestF w ki fi de' le tr st c
  | 0 => rfl
  | c + 1 => by
    have e := gbC_de (w := w) (ki := ki) (fi := fi) (le := le) h1 h c
    have ih := bestF_de (w := w) (ki := ki) (fi := fi) (le := le) h1 h c
    simp only [bestF, e, ih]
theorem r_best_de {w tr st : Nat} {ki fi le de de' : Nat → Nat} (h1 : tr ≤ st) (h : ∀ k, k < st → de k = de' k) (x : Int32) : r_best w ki fi de le tr st x = r_best w ki fi de' le tr st x := by
  unfold r_best
  rw [bestF_de h1 h]
theorem faN_de {w tr b : Nat} {ki de de' : Nat → Nat} : ∀ (n k : Nat) (fi le : Nat → Nat), (∀ i, tr + k ≤ i → i < tr + k + n → de i = de' i) → faN w ki de tr b n k fi le = faN w ki de' tr b n k fi le
  | 0, _, _, _, _ => rfl
  | n + 1, k, fi, le, h => by
    unfold faN
    rw [h (tr + k) (by omega) (by omega), faN_de n (k + 1) _ _ (fun i a b => h i (by omega) (by omega))]
theorem faN_de0 {w tr st b : Nat} {ki fi le de de' : Nat → Nat} (h1 : tr ≤ st) (h : ∀ k, k < st → de k = de' k) : faN w ki de tr b (st - tr) 0 fi le = faN w ki de' tr b (st - tr) 0 fi le := faN_de _ _ _ _ (fun i a b => h i (by omega))
theorem soN_de {w : Nat} {ki de de' : Nat → Nat} : ∀ (n k : Nat) (fi le : Nat → Nat), (∀ i, k ≤ i → i < k + n → de i = de' i) → soN w ki de n k fi le = soN w ki de' n k fi le
  | 0, _, _, _, _ => rfl
  | n + 1, k, fi, le, h => by
    unfold soN
    rw [h k (by omega) (by omega), soN_de n (k + 1) _ _ (fun i a b => h i (by omega) (by omega))]
theorem soC_de {w st : Nat} {ki sr de de' : Nat → Nat} (h : ∀ k, k < st → de k = de' k) (c : Nat) : soC w ki sr de st c = soC w ki sr de' st c := soN_de _ _ _ _ (fun i a b => h i (by omega))
theorem setG_de {w st : Nat} {ki sr de de' : Nat → Nat} (h : ∀ k, k < st → de k = de' k) : ∀ c, setG w ki sr de st c = setG w ki sr de' st c
  | 0 => rfl
  | c + 1 => by
    have e := soC_de (w := w) (ki := ki) (sr := sr) h c
    have ih := setG_de (w := w) (ki := ki) (sr := sr) h c
    simp only [setG, e, ih]
theorem r_setOut_de {w st : Nat} {ki sr de de' : Nat → Nat} (h : ∀ k, k < st → de k = de' k) (x : Int32) : r_setOut w ki sr de st x = r_setOut w ki sr de' st x := by
  unfold r_setOut
  rw [setG_de h]
theorem fitC_de {w tr st : Nat} {ki fi le de de' : Nat → Nat} {to : Nat → Option Nat} (h1 : tr ≤ st) (h : ∀ k, k < st → de k = de' k) (c : Nat) : fitC w ki fi de le to tr st c = fitC w ki fi de' le to tr st c := by
  have e := gbC_de (w := w) (ki := ki) (fi := fi) (le := le) h1 h c
  simp only [fitC, e]
theorem ftN_de {w tr st : Nat} {ki fi le de de' : Nat → Nat} {to : Nat → Option Nat} (h1 : tr ≤ st) (h : ∀ k, k < st → de k = de' k) : ∀ c, ftN w ki fi de le to tr st c = ftN w ki fi de' le to tr st c
  | 0 => rfl
  | c + 1 => by
    have e := fitC_de (w := w) (ki := ki) (fi := fi) (le := le) (to := to) h1 h c
    have ih := ftN_de (w := w) (ki := ki) (fi := fi) (le := le) (to := to) h1 h c
    simp only [ftN, e, ih]
theorem myN_de {w tr st : Nat} {ki fi le de de' : Nat → Nat} {to : Nat → Option Nat} (h1 : tr ≤ st) (h : ∀ k, k < st → de k = de' k) : ∀ c k, myN w ki fi de le to tr st c k = myN w ki fi de' le to tr st c k
  | 0, _ => rfl
  | c + 1, k => by
    have e := fitC_de (w := w) (ki := ki) (fi := fi) (le := le) (to := to) h1 h c
    have ih := myN_de (w := w) (ki := ki) (fi := fi) (le := le) (to := to) h1 h c k
    simp only [myN, e, ih]
theorem r_sure_de {w tr st : Nat} {ki fi le de de' : Nat → Nat} {to : Nat → Option Nat} (h1 : tr ≤ st) (h : ∀ k, k < st → de k = de' k) (k : Nat) : r_sure w ki fi de le to tr st k = r_sure w ki fi de' le to tr st k := by
  unfold r_sure
  rw [myN_de h1 h]
theorem okT_de {w tr st : Nat} {ki fi le de de' : Nat → Nat} (h1 : tr ≤ st) (h : ∀ k, k < st → de k = de' k) : okT w st tr ki fi le de = okT w st tr ki fi le de' := by
  unfold okT
  by_cases e : tr = st
  · simp [e]
  · rw [h tr (by omega)]
theorem okT_lt {w tr st : Nat} {ki fi le de : Nat → Nat} (h1 : tr ≤ st) (h : okT w st tr ki fi le de = true) : 1 ≤ w ∧ tr < st ∧ canN ki fi le (de tr) w = true := by
  simp only [okT, Bool.and_eq_true, decide_eq_true_eq] at h
  exact ⟨by omega, by omega, h.2⟩
theorem miT_de {tr : Nat} {ki fi de de' : Nat → Nat} {fo fo' : Nat → Option Nat} (h : de tr = de' tr) (h2 : 0 < tr → fo (tr - 1) = fo' (tr - 1)) (mi : Int32) : miT ki fi tr de fo mi = miT ki fi tr de' fo' mi := by
  have e : prd ki fi tr fo = prd ki fi tr fo' := by
    unfold prd
    by_cases z : 0 < tr
    · rw [h2 z]
    · simp [z]
  unfold miT
  rw [h, e]
theorem smN_de {a : Nat} {de de' : Nat → Nat} : ∀ n, (∀ k, a ≤ k → k < a + n → de k = de' k) → smN de a n = smN de' a n
  | 0, _ => rfl
  | n + 1, h => by
    unfold smN
    rw [smN_de n (fun k a b => h k a (by omega)), h (a + n) (by omega) (by omega)]
theorem snN_de {tr st dp : Nat} {de de' : Nat → Nat} (h : ∀ k, k < st → de k = de' k) : ∀ k, k < st → snN tr st dp de k = snN tr st dp de' k := by
  intro k hk
  unfold snN
  rw [h k hk]
theorem suN_de {tr st me : Nat} {de de' : Nat → Nat} (h : ∀ k, k < st → de k = de' k) : ∀ k, k < st → suN tr st me de k = suN tr st me de' k := by
  intro k hk
  unfold suN
  rw [h k hk]
def DE (st : Nat) (D D' : DS) : Prop := D.1 = D'.1 ∧ D.2.1 = D'.2.1 ∧ D.2.2.1 = D'.2.2.1 ∧ D.2.2.2.1 = D'.2.2.2.1 ∧ ∀ k, k < st → D.2.2.2.2 k = D'.2.2.2.2 k
theorem dy1_de {w st : Nat} {ki sr : Nat → Nat} {D D' : DS} (h : DE st D D') : DE st (dy1 w st ki sr D) (dy1 w st ki sr D') := by
  obtain ⟨s, tr, fi, le, de⟩ := D
  obtain ⟨s', tr', fi', le', de'⟩ := D'
  obtain ⟨h1, h2, h3, h4, h5⟩ := h
  simp only at h1 h2 h3 h4 h5
  subst h1; subst h2; subst h3; subst h4
  unfold dy1
  simp only
  by_cases a : nxS s / 65536 % 5 < 2
  · rw [if_pos a, if_pos a]
    by_cases b : tr < st
    · rw [h5 tr b]
      by_cases c : tr < st ∧ canN ki fi le (de' tr) w = true
      · rw [if_pos c, if_pos c]
        exact ⟨rfl, rfl, rfl, rfl, h5⟩
      · rw [if_neg c, if_neg c]
        exact ⟨rfl, rfl, rfl, rfl, h5⟩
    · rw [if_neg (fun z => b z.1), if_neg (fun z => b z.1)]
      exact ⟨rfl, rfl, rfl, rfl, h5⟩
  · rw [if_neg a, if_neg a]
    by_cases b : nxS s / 65536 % 5 = 2
    · rw [if_pos b, if_pos b]
      exact ⟨rfl, rfl, rfl, rfl, h5⟩
    · rw [if_neg b, if_neg b]
      by_cases c : nxS s / 65536 % 5 = 3
      · rw [if_pos c, if_pos c]
        exact ⟨rfl, rfl, rfl, rfl, h5⟩
      · rw [if_neg c, if_neg c]
        exact ⟨rfl, rfl, rfl, rfl, snN_de h5⟩
theorem dyN_de {w st : Nat} {ki sr : Nat → Nat} : ∀ (n : Nat) {D D' : DS}, DE st D D' → DE st (dyN w st ki sr n D) (dyN w st ki sr n D')
  | 0, _, _, h => h
  | n + 1, D, D', h => by
    unfold dyN
    exact dyN_de n (dy1_de h)
theorem r_days_de {w st t s tr : Nat} {ki sr fi le de de' : Nat → Nat} (h : ∀ k, k < st → de k = de' k) (z : Int32) : r_days w (dyN w st ki sr t (s, tr, fi, le, de)) z = r_days w (dyN w st ki sr t (s, tr, fi, le, de')) z := by
  obtain ⟨e1, e2, e3, e4, -⟩ := dyN_de (w := w) (ki := ki) (sr := sr) t (D := (s, tr, fi, le, de)) (D' := (s, tr, fi, le, de')) (st := st) ⟨rfl, rfl, rfl, rfl, h⟩
  unfold r_days
  rw [e1, e2, e4]
theorem frN_de {v : Nat} {fo fo' : Nat → Option Nat} : ∀ n, (∀ k, k < n → fo k = fo' k) → frN fo v n = frN fo' v n
  | 0, _ => rfl
  | n + 1, h => by
    unfold frN
    rw [frN_de n (fun k a => h k (by omega)), h n (by omega)]
theorem r_tells_de {st tr w v : Nat} {ki sr le fi de de' : Nat → Nat} {to fo fo' : Nat → Option Nat} (h1 : tr ≤ st) (h : ∀ k, k < st → de k = de' k) (hf : ∀ k, k < st → fo k = fo' k) (x : Int32) : r_tells st tr ki sr le fi de to fo w v x = r_tells st tr ki sr le fi de' to fo' w v x := by
  have e4 : frN fo v tr = frN fo' v tr := frN_de tr (fun k hk => hf k (by omega))
  have e5 : (if tr = st then (-1 : Int32) else nI (payN ki fi (pl w fi v) (de tr))) = (if tr = st then (-1 : Int32) else nI (payN ki fi (pl w fi v) (de' tr))) := by
    by_cases z : tr = st
    · rw [if_pos z, if_pos z]
    · rw [h tr (by omega)]
  unfold r_tells
  rw [e4, e5]
theorem r_stretch_de {k : Nat} {de de' : Nat → Nat} {fo fo' : Nat → Option Nat} (h : de k = de' k) (hf : fo k = fo' k) (x : Int32) : r_stretch de fo k x = r_stretch de' fo' k x := by
  unfold r_stretch
  rw [h, hf]
theorem sayD_de {de de' : Nat → Nat} {fo fo' : Nat → Option Nat} : ∀ (n : Nat) (H : Int64), (∀ k, k < n → de k = de' k) → (∀ k, k < n → fo k = fo' k) → sayD de fo n H = sayD de' fo' n H
  | 0, _, _, _ => rfl
  | n + 1, H, h, hf => by
    unfold sayD
    rw [sayD_de n H (fun k a => h k (by omega)) (fun k a => hf k (by omega)), h n (by omega), hf n (by omega)]
theorem r_digest_de {st me w tr pm sl bm ask : Nat} {mi : Int32} {ki sr le fi de de' pg : Nat → Nat} {to fo fo' : Nat → Option Nat} (h1 : tr ≤ st) (h : ∀ k, k < st → de k = de' k) (hf : ∀ k, k < st → fo k = fo' k) : r_digest st me w tr mi ki sr le fi de to fo pg pm sl bm ask = r_digest st me w tr mi ki sr le fi de' to fo' pg pm sl bm ask := by
  have e1 : (fun v q => r_tells st tr ki sr le fi de to fo w v (nI q)) = (fun v q => r_tells st tr ki sr le fi de' to fo' w v (nI q)) := by
    funext v q
    exact r_tells_de h1 h hf _
  unfold r_digest
  rw [e1, sayD_de st _ h hf, setG_de h, faN_de0 h1 h (b := 1), faN_de0 h1 h (b := 2), faN_de0 h1 h (b := 3)]

end S38
