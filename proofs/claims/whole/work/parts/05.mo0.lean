/-! the reference: its object at m, its arrays behind it -/
def mF (m : Nat) (pm sta rdm st me tr mi slr wa cha bm bc bl bch ask sn ks kw kt km : Int32) (hsh : Int64) : List Value := [.ref (m + 1 + 0), .int pm, .int sta, .int rdm, .int st, .int me, .int tr, .int mi, .int slr, .ref (m + 1 + 1), .ref (m + 1 + 2), .int wa, .ref (m + 1 + 3), .ref (m + 1 + 4), .ref (m + 1 + 5), .ref (m + 1 + 6), .ref (m + 1 + 7), .ref (m + 1 + 8), .int cha, .int bm, .int bc, .int bl, .int bch, .ref (m + 1 + 9), .ref (m + 1 + 10), .int ask, .ref (m + 1 + 11), .ref (m + 1 + 12), .int sn, .ref (m + 1 + 13), .int ks, .int kw, .int kt, .int km, .ref (m + 1 + 14), .ref (m + 1 + 15), .ref (m + 1 + 16), .ref (m + 1 + 17), .ref (m + 1 + 18), .long hsh]
def mA (apg ade afo aro ale afi anf anl awh aod abo aof ama asd akr akl akf akd ako : List Int32) : List (List Int32) := [apg, ade, afo, aro, ale, afi, anf, anl, awh, aod, abo, aof, ama, asd, akr, akl, akf, akd, ako]
def KM (σ : Sto) (m : Nat) : Prop := σ.1[m]? = some 7 ∧ ∀ j, j < 19 → σ.1[m + 1 + j]? = some 100
theorem WP.r {d m pc : Nat} {L S : List Value} {σ σ' : Sto} {r r2 : Option Value} (h : r = r2) (k : WP d 0 0 m pc L S σ r2 σ') : WP d 0 0 m pc L S σ r σ' := by subst h; exact k
theorem WP.s {d m pc : Nat} {L S : List Value} {σ σ' σ2 : Sto} {r : Option Value} (h : σ' = σ2) (k : WP d 0 0 m pc L S σ r σ2) : WP d 0 0 m pc L S σ r σ' := by subst h; exact k
theorem Ev.rs {d m : Nat} {As : List Value} {σ σ' σ2 : Sto} {r r2 : Option Value} (h : r = r2) (hsh : σ' = σ2) (k : Ev d 0 0 m As σ r2 σ2) : Ev d 0 0 m As σ r σ' := by subst h; subst hsh; exact k

/-! who pays what; a change -/
def hvN (ki fi : Nat → Nat) (p : Nat) : Nat := if p = 0 then (if 2 < ki (fi 0) then 1 else 0) else if ki (fi p) = 1 ∧ ki (fi (p - 1)) = 4 then p - 1 else p
def payN (ki fi : Nat → Nat) (p dp : Nat) : Nat := (dp + 2 ^ hvN ki fi p - 1) / 2 ^ hvN ki fi p
theorem hvN_le {ki fi : Nat → Nat} {p : Nat} (h : p ≤ 4) : hvN ki fi p ≤ 4 := by unfold hvN; split; split <;> omega; split <;> omega
theorem payN_le {ki fi : Nat → Nat} {p dp : Nat} : payN ki fi p dp ≤ dp := by
  unfold payN
  generalize hvN ki fi p = h
  have h1 : 1 ≤ 2 ^ h := Nat.one_le_two_pow
  rcases Nat.eq_zero_or_pos dp with e | e
  · subst e
    rw [Nat.div_eq_of_lt (by omega)]
    exact Nat.le_refl _
  · rw [Nat.div_le_iff_le_mul_add_pred h1]
    have : dp ≤ 2 ^ h * dp := Nat.le_mul_of_pos_left dp h1
    omega
def rot (w : Nat) (f : Nat → Nat) : Nat → Nat := fun j => if j + 1 < w then f (j + 1) else if j + 1 = w then f 0 else f j
/-- the reference's rows: kind, strength, what is told -/
def rw3 (ki sr : Nat → Nat) (to : Nat → Option Nat) : Nat → Int32 := fun j => if j % 3 = 0 then nI (ki (j / 3)) else if j % 3 = 1 then nI (sr (j / 3)) else eo (to (j / 3))
theorem rw_0 (ki sr : Nat → Nat) (to : Nat → Option Nat) (w : Nat) : rw3 ki sr to (3 * w) = nI (ki w) := by
  unfold rw3
  rw [if_pos (by omega), show 3 * w / 3 = w by omega]
theorem rw_1 (ki sr : Nat → Nat) (to : Nat → Option Nat) (w : Nat) : rw3 ki sr to (3 * w + 1) = nI (sr w) := by
  unfold rw3
  rw [if_neg (by omega), if_pos (by omega), show (3 * w + 1) / 3 = w by omega]
theorem rw_2 (ki sr : Nat → Nat) (to : Nat → Option Nat) (w : Nat) : rw3 ki sr to (3 * w + 2) = eo (to w) := by
  unfold rw3
  rw [if_neg (by omega), if_neg (by omega), show (3 * w + 2) / 3 = w by omega]
theorem rw_u0 (ki sr : Nat → Nat) (to : Nat → Option Nat) (w x : Nat) : up (rw3 ki sr to) (3 * w) (nI x) = rw3 (up ki w x) sr to := by
  funext j
  simp only [rw3, up]
  grind
theorem rw_u1 (ki sr : Nat → Nat) (to : Nat → Option Nat) (w x : Nat) : up (rw3 ki sr to) (3 * w + 1) (nI x) = rw3 ki (up sr w x) to := by
  funext j
  simp only [rw3, up]
  grind
theorem rw_u2 (ki sr : Nat → Nat) (to : Nat → Option Nat) (w : Nat) (x : Option Nat) : up (rw3 ki sr to) (3 * w + 2) (eo x) = rw3 ki sr (up to w x) := by
  funext j
  simp only [rw3, up]
  grind
