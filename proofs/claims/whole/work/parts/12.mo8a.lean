
/-! days -/
def nxS (s : Nat) : Nat := (1103515245 * s + 12345) % 2147483648
theorem nxS_lt (s : Nat) : nxS s < 2147483648 := Nat.mod_lt _ (by decide)
abbrev DS : Type := Nat × Nat × (Nat → Nat) × (Nat → Nat) × (Nat → Nat)
def dy1 (w st : Nat) (ki sr : Nat → Nat) (D : DS) : DS := match D with
  | (s, tr, fi, le, de) =>
    if nxS s / 65536 % 5 < 2 then (if tr < st ∧ canN ki fi le (de tr) w = true then (nxS s, tr + 1, fi, trS ki fi (de tr) le w, de) else (nxS s, tr, fi, le, de))
    else if nxS s / 65536 % 5 = 2 then (nxS s, tr, rot w fi, le, de)
    else if nxS s / 65536 % 5 = 3 then (nxS s, tr, fi, rsN w sr le, de)
    else (nxS (nxS s), tr, fi, le, snN tr st (nxS (nxS s) / 65536 % 3) de)
def dyN (w st : Nat) (ki sr : Nat → Nat) : Nat → DS → DS
  | 0, D => D
  | n + 1, D => dyN w st ki sr n (dy1 w st ki sr D)
def okD (x y z : Int32) : Bool := inB x 1 60 && decide (0 ≤ y.toInt) && inB z 0 2
def r_days (w : Nat) (D : DS) (z : Int32) : Int32 := if z.toInt = 0 then nI D.2.1 else if z.toInt = 1 then nI (smN D.2.2.2.1 0 w) else nI D.1
theorem lN_and (a b : Nat) : lN a &&& lN b = lN (a &&& b) := by
  apply Int64.toBitVec_inj.mp
  simp [lN, BitVec.ofNat_and]
theorem and31' (a : Nat) : a &&& 2147483647 = a % 2147483648 := Nat.and_two_pow_sub_one_eq_mod a 31
theorem snN_lt {tr st deep : Nat} {de : Nat → Nat} (hd : ∀ k, k < st → de k < 100) : ∀ k, k < st → snN tr st deep de k < 100 := by
  intro k hk
  have := hd k hk
  unfold snN
  split
  · split <;> omega
  · omega
theorem rsN_lt {w : Nat} {sr le : Nat → Nat} (hs : ∀ v, v < w → sr v < 1000) (hl : ∀ v, v < w → le v < 1000) : ∀ v, v < w → rsN w sr le v < 1000 := by
  intro v hv
  have := hs v hv
  have := hl v hv
  unfold rsN
  split <;> omega
