section S30a

/-! the class's components, each at its place -/
def Trl : Type := (Nat) × (Nat) × (Nat) × (Nat) × (Int32) × (Nat → Nat) × (Nat → Nat) × (Nat → Nat) × (Nat → Nat) × (Nat → Nat) × (Nat → Option Nat) × (Nat → Option Nat)
abbrev Trl.st (T : Trl) : Nat := T.1
abbrev Trl.me (T : Trl) : Nat := T.2.1
abbrev Trl.tr (T : Trl) : Nat := T.2.2.1
abbrev Trl.w (T : Trl) : Nat := T.2.2.2.1
abbrev Trl.mi (T : Trl) : Int32 := T.2.2.2.2.1
abbrev Trl.de (T : Trl) : Nat → Nat := T.2.2.2.2.2.1
abbrev Trl.ki (T : Trl) : Nat → Nat := T.2.2.2.2.2.2.1
abbrev Trl.sr (T : Trl) : Nat → Nat := T.2.2.2.2.2.2.2.1
abbrev Trl.le (T : Trl) : Nat → Nat := T.2.2.2.2.2.2.2.2.1
abbrev Trl.fi (T : Trl) : Nat → Nat := T.2.2.2.2.2.2.2.2.2.1
abbrev Trl.fo (T : Trl) : Nat → Option Nat := T.2.2.2.2.2.2.2.2.2.2.1
abbrev Trl.to (T : Trl) : Nat → Option Nat := T.2.2.2.2.2.2.2.2.2.2.2
abbrev mkT (st me tr w : Nat) (mi : Int32) (de ki sr le fi : Nat → Nat) (fo to : Nat → Option Nat) : Trl := (st, me, tr, w, mi, de, ki, sr, le, fi, fo, to)
abbrev tF (t : Nat) (T : Trl) : List Value := trF t (nI T.st) (nI T.me) (nI T.tr) (nI T.w) T.mi
abbrev tA (T : Trl) (du : Nat → Nat) : List (List Int32) := trA (arr 6 T.de) (arO 6 T.fo) (arr 5 T.ki) (arr 5 T.sr) (arr 5 T.le) (arO 5 T.to) (arr 5 T.fi) (arr 5 du)
def HT (σ : Sto) (t : Nat) (T : Trl) : Prop := ∃ du : Nat → Nat, Hs σ t (t + 1) (tF t T) (tA T du)
def HR (σ : Sto) (t : Nat) : Prop := ∃ (st me tr wa mi : Int32) (d0 k0 s0 l0 f0 u0 : Nat → Nat) (o0 t0 : Nat → Option Nat), Hs σ t (t + 1) (trF t st me tr wa mi) (trA (arr 6 d0) (arO 6 o0) (arr 5 k0) (arr 5 s0) (arr 5 l0) (arO 5 t0) (arr 5 f0) (arr 5 u0))
def HR2 (σ : Sto) (t : Nat) : Prop := ∃ (st me tr wa mi : Int32) (d0 k0 s0 l0 f0 : Nat → Nat) (adu : List Int32) (o0 t0 : Nat → Option Nat), Hs σ t (t + 1) (trF t st me tr wa mi) (trA (arr 6 d0) (arO 6 o0) (arr 5 k0) (arr 5 s0) (arr 5 l0) (arO 5 t0) (arr 5 f0) adu)
def HWy (σ : Sto) (y : Nat) : Prop := ∃ (wwa wfr wst : Int32) (py0 la0 pc0 : Nat → Nat), Hs σ y (y + 10) (wyF y wwa wfr wst) (wyA (arr 150 py0) (arr 35 la0) (arr 5 pc0))
def GBs (σ : Sto) : Prop := HR2 σ (31 + 1 + 1) ∧ HWy σ (31 + 1) ∧ ∃ (ls cs : Int32) (td fr : Nat → Option Nat), Hs σ 31 (31 + 14) (bsF 31 ls cs) (bsA (arO 6 td) (arO 6 fr))
def GBk (σ : Sto) : Prop := HR2 σ (47 + 1 + 1) ∧ HWy σ (47 + 1) ∧ ∃ (ow fd ag : Int32) (to0 : Nat → Option Nat) (of0 td : Nat → Nat), Hs σ 47 (47 + 14) (bkF 47 ow fd ag) (bkA (arO 5 to0) (arr 5 of0) (arr 6 td))
def GSo (σ : Sto) : Prop := HR σ (64 + 1) ∧ ∃ (ls : Int32) (pd : Nat → Bool) (td : Nat → Nat) (fl : Nat → Option Nat), Hs σ 64 (64 + 10) (stF 64 ls) (stA (arrI 5 (fun v => bi (pd v))) (arr 5 td) (arO 5 fl))
theorem HT_Fr {σ σ' : Sto} {a n t : Nat} {T : Trl} (hF : Fr σ σ' a n) (h : HT σ t T) (ho : t + 9 ≤ a ∨ a + n ≤ t) : HT σ' t T := by
  obtain ⟨du, h⟩ := h
  exact ⟨du, Hs_Fr hF h (by omega) (by simp only [tA, trA, List.length_cons, List.length_nil]; omega)⟩
theorem HR_Fr {σ σ' : Sto} {a n t : Nat} (hF : Fr σ σ' a n) (h : HR σ t) (ho : t + 9 ≤ a ∨ a + n ≤ t) : HR σ' t := by
  obtain ⟨st, me, tr, wa, mi, d0, k0, s0, l0, f0, u0, o0, t0, h⟩ := h
  exact ⟨st, me, tr, wa, mi, d0, k0, s0, l0, f0, u0, o0, t0, Hs_Fr hF h (by omega) (by simp only [trA, List.length_cons, List.length_nil]; omega)⟩
theorem HR2_Fr {σ σ' : Sto} {a n t : Nat} (hF : Fr σ σ' a n) (h : HR2 σ t) (ho : t + 9 ≤ a ∨ a + n ≤ t) : HR2 σ' t := by
  obtain ⟨st, me, tr, wa, mi, d0, k0, s0, l0, f0, u0, o0, t0, h⟩ := h
  exact ⟨st, me, tr, wa, mi, d0, k0, s0, l0, f0, u0, o0, t0, Hs_Fr hF h (by omega) (by simp only [trA, List.length_cons, List.length_nil]; omega)⟩
theorem HWy_Fr {σ σ' : Sto} {a n y : Nat} (hF : Fr σ σ' a n) (h : HWy σ y) (ho : y + 13 ≤ a ∨ a + n ≤ y) : HWy σ' y := by
  obtain ⟨wwa, wfr, wst, py0, la0, pc0, h⟩ := h
  exact ⟨wwa, wfr, wst, py0, la0, pc0, Hs_Fr hF h (by omega) (by simp only [wyA, List.length_cons, List.length_nil]; omega)⟩
theorem GBs_Fr {σ σ' : Sto} {a n : Nat} (hF : Fr σ σ' a n) (h : GBs σ) (ho : 47 ≤ a ∨ a + n ≤ 31) : GBs σ' := by
  obtain ⟨h1, h2, ls, cs, td, fr, h⟩ := h
  exact ⟨HR2_Fr hF h1 (by omega), HWy_Fr hF h2 (by omega), ls, cs, td, fr, Hs_Fr hF h (by omega) (by simp only [bsA, List.length_cons, List.length_nil]; omega)⟩
theorem GBk_Fr {σ σ' : Sto} {a n : Nat} (hF : Fr σ σ' a n) (h : GBk σ) (ho : 64 ≤ a ∨ a + n ≤ 47) : GBk σ' := by
  obtain ⟨h1, h2, ow, fd, ag, to0, of0, td, h⟩ := h
  exact ⟨HR2_Fr hF h1 (by omega), HWy_Fr hF h2 (by omega), ow, fd, ag, to0, of0, td, Hs_Fr hF h (by omega) (by simp only [bkA, List.length_cons, List.length_nil]; omega)⟩
theorem GSo_Fr {σ σ' : Sto} {a n : Nat} (hF : Fr σ σ' a n) (h : GSo σ) (ho : 77 ≤ a ∨ a + n ≤ 64) : GSo σ' := by
  obtain ⟨h1, ls, pd, td, fl, h⟩ := h
  exact ⟨HR_Fr hF h1 (by omega), ls, pd, td, fl, Hs_Fr hF h (by omega) (by simp only [stA, List.length_cons, List.length_nil]; omega)⟩
def KIv (σ : Sto) : Prop := (σ.1[1]? = some 6) ∧ (KP σ 2) ∧ (KT σ 4) ∧ (KT σ 13) ∧ (KT σ 22) ∧ (KB σ 31) ∧ (KW σ (31 + 1)) ∧ (KT σ (31 + 1 + 1)) ∧ (KK σ 47) ∧ (KW σ (47 + 1)) ∧ (KT σ (47 + 1 + 1)) ∧ (KS σ 64) ∧ (KT σ (64 + 1)) ∧ (KM σ 77)
theorem KIv.X {σ : Sto} (h : KIv σ) : σ.1[1]? = some 6 := h.1
theorem KIv.P {σ : Sto} (h : KIv σ) : KP σ 2 := h.2.1
theorem KIv.N {σ : Sto} (h : KIv σ) : KT σ 4 := h.2.2.1
theorem KIv.K {σ : Sto} (h : KIv σ) : KT σ 13 := h.2.2.2.1
theorem KIv.T {σ : Sto} (h : KIv σ) : KT σ 22 := h.2.2.2.2.1
theorem KIv.B {σ : Sto} (h : KIv σ) : KB σ 31 := h.2.2.2.2.2.1
theorem KIv.BW {σ : Sto} (h : KIv σ) : KW σ (31 + 1) := h.2.2.2.2.2.2.1
theorem KIv.BT {σ : Sto} (h : KIv σ) : KT σ (31 + 1 + 1) := h.2.2.2.2.2.2.2.1
theorem KIv.O {σ : Sto} (h : KIv σ) : KK σ 47 := h.2.2.2.2.2.2.2.2.1
theorem KIv.OW {σ : Sto} (h : KIv σ) : KW σ (47 + 1) := h.2.2.2.2.2.2.2.2.2.1
theorem KIv.OT {σ : Sto} (h : KIv σ) : KT σ (47 + 1 + 1) := h.2.2.2.2.2.2.2.2.2.2.1
theorem KIv.S {σ : Sto} (h : KIv σ) : KS σ 64 := h.2.2.2.2.2.2.2.2.2.2.2.1
theorem KIv.ST {σ : Sto} (h : KIv σ) : KT σ (64 + 1) := h.2.2.2.2.2.2.2.2.2.2.2.2.1
theorem KIv.M {σ : Sto} (h : KIv σ) : KM σ 77 := h.2.2.2.2.2.2.2.2.2.2.2.2.2
theorem KIv_Fr {σ σ' : Sto} {a n : Nat} (hF : Fr σ σ' a n) (h : KIv σ) : KIv σ' := by
  unfold KIv KP KT KB KW KK KS KM at *
  rw [hF.1]
  exact h
def xF (img : Bool) (sl bd fd : Nat) : List Value := [.ref 2, .ref 4, .ref 13, .ref 22, .ref 31, .ref 47, .ref 64, .int (bi img), .int (nI sl), .int (nI bd), .int (nI fd)]
def CIv (σ : Sto) (pm : Nat) (pg : Nat → Nat) (N K : Trl) (img : Bool) (sl bd fd : Nat) : Prop := (KIv σ) ∧ (Hs σ 1 2 (xF img sl bd fd) []) ∧ (Hs σ 2 (2 + 1) (pgF 2 (nI pm)) (pgA (arr 10 pg))) ∧ (HT σ 4 N) ∧ (HT σ 13 K) ∧ (HR σ 22) ∧ (GBs σ) ∧ (GBk σ) ∧ (GSo σ)
theorem CIv.k {σ : Sto} {pm : Nat} {pg : Nat → Nat} {N K : Trl} {img : Bool} {sl bd fd : Nat} (h : CIv σ pm pg N K img sl bd fd) : KIv σ := h.1
theorem CIv.X {σ : Sto} {pm : Nat} {pg : Nat → Nat} {N K : Trl} {img : Bool} {sl bd fd : Nat} (h : CIv σ pm pg N K img sl bd fd) : Hs σ 1 2 (xF img sl bd fd) [] := h.2.1
theorem CIv.P {σ : Sto} {pm : Nat} {pg : Nat → Nat} {N K : Trl} {img : Bool} {sl bd fd : Nat} (h : CIv σ pm pg N K img sl bd fd) : Hs σ 2 (2 + 1) (pgF 2 (nI pm)) (pgA (arr 10 pg)) := h.2.2.1
theorem CIv.N {σ : Sto} {pm : Nat} {pg : Nat → Nat} {N K : Trl} {img : Bool} {sl bd fd : Nat} (h : CIv σ pm pg N K img sl bd fd) : HT σ 4 N := h.2.2.2.1
theorem CIv.K {σ : Sto} {pm : Nat} {pg : Nat → Nat} {N K : Trl} {img : Bool} {sl bd fd : Nat} (h : CIv σ pm pg N K img sl bd fd) : HT σ 13 K := h.2.2.2.2.1
theorem CIv.T {σ : Sto} {pm : Nat} {pg : Nat → Nat} {N K : Trl} {img : Bool} {sl bd fd : Nat} (h : CIv σ pm pg N K img sl bd fd) : HR σ 22 := h.2.2.2.2.2.1
theorem CIv.B {σ : Sto} {pm : Nat} {pg : Nat → Nat} {N K : Trl} {img : Bool} {sl bd fd : Nat} (h : CIv σ pm pg N K img sl bd fd) : GBs σ := h.2.2.2.2.2.2.1
theorem CIv.O {σ : Sto} {pm : Nat} {pg : Nat → Nat} {N K : Trl} {img : Bool} {sl bd fd : Nat} (h : CIv σ pm pg N K img sl bd fd) : GBk σ := h.2.2.2.2.2.2.2.1
theorem CIv.S {σ : Sto} {pm : Nat} {pg : Nat → Nat} {N K : Trl} {img : Bool} {sl bd fd : Nat} (h : CIv σ pm pg N K img sl bd fd) : GSo σ := h.2.2.2.2.2.2.2.2
variable {σ σ' : Sto} {pm pm' : Nat} {pg pg' : Nat → Nat} {N K N' K' : Trl} {img img' : Bool} {sl bd fd sl' bd' fd' : Nat}
theorem CIv_out (h : CIv σ pm pg N K img sl bd fd) (hF : Fr σ σ' 77 20) : CIv σ' pm pg N K img sl bd fd :=
  ⟨KIv_Fr hF h.k, Hs_Fr hF h.X (by decide) (by decide), Hs_Fr hF h.P (by decide) (by simp [pgA]), HT_Fr hF h.N (by decide), HT_Fr hF h.K (by decide), HR_Fr hF h.T (by decide), GBs_Fr hF h.B (by decide), GBk_Fr hF h.O (by decide), GSo_Fr hF h.S (by decide)⟩
theorem CIv_X (h : CIv σ pm pg N K img sl bd fd) : CIv (put σ 1 2 (xF img' sl' bd' fd') []) pm pg N K img' sl' bd' fd' := by
  have hF : Fr σ (put σ 1 2 (xF img' sl' bd' fd') []) 1 1 := Fr_put Fr_refl (by decide) (by decide)
  exact ⟨KIv_Fr hF h.k, Hs_put, Hs_Fr hF h.P (by decide) (by simp [pgA]), HT_Fr hF h.N (by decide), HT_Fr hF h.K (by decide), HR_Fr hF h.T (by decide), GBs_Fr hF h.B (by decide), GBk_Fr hF h.O (by decide), GSo_Fr hF h.S (by decide)⟩
theorem CIv_P (h : CIv σ pm pg N K img sl bd fd) : CIv (put σ 2 (2 + 1) (pgF 2 (nI pm')) (pgA (arr 10 pg'))) pm' pg' N K img sl bd fd := by
  have hF : Fr σ (put σ 2 (2 + 1) (pgF 2 (nI pm')) (pgA (arr 10 pg'))) 2 2 := Fr_put Fr_refl (by decide) (by simp [pgA])
  exact ⟨KIv_Fr hF h.k, Hs_Fr hF h.X (by decide) (by decide), Hs_put, HT_Fr hF h.N (by decide), HT_Fr hF h.K (by decide), HR_Fr hF h.T (by decide), GBs_Fr hF h.B (by decide), GBk_Fr hF h.O (by decide), GSo_Fr hF h.S (by decide)⟩
theorem CIv_N {du : Nat → Nat} (h : CIv σ pm pg N K img sl bd fd) : CIv (put σ 4 (4 + 1) (tF 4 N') (tA N' du)) pm pg N' K img sl bd fd := by
  have hF : Fr σ (put σ 4 (4 + 1) (tF 4 N') (tA N' du)) 4 9 := Fr_put Fr_refl (by decide) (by simp [tA, trA])
  exact ⟨KIv_Fr hF h.k, Hs_Fr hF h.X (by decide) (by decide), Hs_Fr hF h.P (by decide) (by simp [pgA]), ⟨du, Hs_put⟩, HT_Fr hF h.K (by decide), HR_Fr hF h.T (by decide), GBs_Fr hF h.B (by decide), GBk_Fr hF h.O (by decide), GSo_Fr hF h.S (by decide)⟩
theorem CIv_K {du : Nat → Nat} (h : CIv σ pm pg N K img sl bd fd) : CIv (put σ 13 (13 + 1) (tF 13 K') (tA K' du)) pm pg N K' img sl bd fd := by
  have hF : Fr σ (put σ 13 (13 + 1) (tF 13 K') (tA K' du)) 13 9 := Fr_put Fr_refl (by decide) (by simp [tA, trA])
  exact ⟨KIv_Fr hF h.k, Hs_Fr hF h.X (by decide) (by decide), Hs_Fr hF h.P (by decide) (by simp [pgA]), HT_Fr hF h.N (by decide), ⟨du, Hs_put⟩, HR_Fr hF h.T (by decide), GBs_Fr hF h.B (by decide), GBk_Fr hF h.O (by decide), GSo_Fr hF h.S (by decide)⟩
theorem CIv_T (h : CIv σ pm pg N K img sl bd fd) (hF : Fr σ σ' 22 9) (hT : HR σ' 22) : CIv σ' pm pg N K img sl bd fd :=
  ⟨KIv_Fr hF h.k, Hs_Fr hF h.X (by decide) (by decide), Hs_Fr hF h.P (by decide) (by simp [pgA]), HT_Fr hF h.N (by decide), HT_Fr hF h.K (by decide), hT, GBs_Fr hF h.B (by decide), GBk_Fr hF h.O (by decide), GSo_Fr hF h.S (by decide)⟩
theorem CIv_B (h : CIv σ pm pg N K img sl bd fd) (hF : Fr σ σ' 31 16) (hB : GBs σ') : CIv σ' pm pg N K img sl bd fd :=
  ⟨KIv_Fr hF h.k, Hs_Fr hF h.X (by decide) (by decide), Hs_Fr hF h.P (by decide) (by simp [pgA]), HT_Fr hF h.N (by decide), HT_Fr hF h.K (by decide), HR_Fr hF h.T (by decide), hB, GBk_Fr hF h.O (by decide), GSo_Fr hF h.S (by decide)⟩
theorem CIv_O (h : CIv σ pm pg N K img sl bd fd) (hF : Fr σ σ' 47 17) (hO : GBk σ') : CIv σ' pm pg N K img sl bd fd :=
  ⟨KIv_Fr hF h.k, Hs_Fr hF h.X (by decide) (by decide), Hs_Fr hF h.P (by decide) (by simp [pgA]), HT_Fr hF h.N (by decide), HT_Fr hF h.K (by decide), HR_Fr hF h.T (by decide), GBs_Fr hF h.B (by decide), hO, GSo_Fr hF h.S (by decide)⟩
theorem CIv_S (h : CIv σ pm pg N K img sl bd fd) (hF : Fr σ σ' 64 13) (hS : GSo σ') : CIv σ' pm pg N K img sl bd fd :=
  ⟨KIv_Fr hF h.k, Hs_Fr hF h.X (by decide) (by decide), Hs_Fr hF h.P (by decide) (by simp [pgA]), HT_Fr hF h.N (by decide), HT_Fr hF h.K (by decide), HR_Fr hF h.T (by decide), GBs_Fr hF h.B (by decide), GBk_Fr hF h.O (by decide), hS⟩
/-- what holds of a slope with its walkers at all times -/
def Gd (N : Trl) : Prop := (N.tr ≤ N.st) ∧ (N.st ≤ 6) ∧ (N.w ≤ 5) ∧ (PF N.w N.fi) ∧ (∀ v, v < N.w → N.ki v < 5) ∧ (∀ v, v < N.w → N.sr v ≤ 99) ∧ (∀ v, v < N.w → N.le v ≤ 99) ∧ (∀ k, k < N.st → N.de k < 10) ∧ (N.me < 10) ∧ (∀ k j, N.fo k = some j → j < 5) ∧ (∀ v, v < N.w → ∀ j, N.to v = some j → j ≤ 6)
theorem Gd.ts {N : Trl} (h : Gd N) : N.tr ≤ N.st := h.1
theorem Gd.s6 {N : Trl} (h : Gd N) : N.st ≤ 6 := h.2.1
theorem Gd.w5 {N : Trl} (h : Gd N) : N.w ≤ 5 := h.2.2.1
theorem Gd.f {N : Trl} (h : Gd N) : PF N.w N.fi := h.2.2.2.1
theorem Gd.ki {N : Trl} (h : Gd N) : ∀ v, v < N.w → N.ki v < 5 := h.2.2.2.2.1
theorem Gd.sr {N : Trl} (h : Gd N) : ∀ v, v < N.w → N.sr v ≤ 99 := h.2.2.2.2.2.1
theorem Gd.le {N : Trl} (h : Gd N) : ∀ v, v < N.w → N.le v ≤ 99 := h.2.2.2.2.2.2.1
theorem Gd.de {N : Trl} (h : Gd N) : ∀ k, k < N.st → N.de k < 10 := h.2.2.2.2.2.2.2.1
theorem Gd.me {N : Trl} (h : Gd N) : N.me < 10 := h.2.2.2.2.2.2.2.2.1
theorem Gd.fo {N : Trl} (h : Gd N) : ∀ k j, N.fo k = some j → j < 5 := h.2.2.2.2.2.2.2.2.2.1
theorem Gd.to {N : Trl} (h : Gd N) : ∀ v, v < N.w → ∀ j, N.to v = some j → j ≤ 6 := h.2.2.2.2.2.2.2.2.2.2

end S30a
