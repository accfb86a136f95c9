
/-! a component of the store: the object at o holds fs, the arrays from q on hold as -/
def put (σ : Sto) (o q : Nat) (fs : List Value) (as : List (List Int32)) : Sto := (σ.1, fun i => if i = o then fs else σ.2.1 i, fun i => if q ≤ i ∧ i < q + as.length then as.getD (i - q) [] else σ.2.2 i)
theorem put_F {σ : Sto} {o q : Nat} {fs : List Value} {as : List (List Int32)} : (put σ o q fs as).2.1 o = fs := by simp [put]
theorem put_F_ne {σ : Sto} {o q i : Nat} {fs : List Value} {as : List (List Int32)} (h : i ≠ o) : (put σ o q fs as).2.1 i = σ.2.1 i := by simp [put, h]
theorem put_A {σ : Sto} {o q k : Nat} {fs : List Value} {as : List (List Int32)} {l : List Int32} (h : as[k]? = some l) : (put σ o q fs as).2.2 (q + k) = l := by
  have hk := (List.getElem?_eq_some_iff.mp h).1
  simp only [put]
  rw [if_pos ⟨by omega, by omega⟩, show q + k - q = k by omega, List.getD_eq_getElem?_getD, h]
  rfl
theorem put_A_ne {σ : Sto} {o q i : Nat} {fs : List Value} {as : List (List Int32)} (h : i < q ∨ q + as.length ≤ i) : (put σ o q fs as).2.2 i = σ.2.2 i := by
  simp only [put]
  rw [if_neg (by omega)]
theorem setF_put {σ : Sto} {o q k : Nat} {fs : List Value} {as : List (List Int32)} {v : Value} : setF (put σ o q fs as) o k v = put σ o q (fs.set k v) as := by
  unfold setF put
  refine congrArg (Prod.mk σ.1) (congrArg (fun z => Prod.mk z _) ?_)
  funext i
  by_cases h : i = o <;> simp [h]
theorem setA_put {σ : Sto} {o q k : Nat} {fs : List Value} {as : List (List Int32)} {l : List Int32} (hk : k < as.length) : setA (put σ o q fs as) (q + k) l = put σ o q fs (as.set k l) := by
  unfold setA put
  refine congrArg (Prod.mk σ.1) (congrArg (Prod.mk _) ?_)
  funext i
  by_cases h : i = q + k
  · subst h
    simp [hk]
  · simp only [h, if_false, List.length_set]
    by_cases h2 : q ≤ i ∧ i < q + as.length
    · rw [if_pos h2, if_pos h2, List.getD_eq_getElem?_getD, List.getD_eq_getElem?_getD, List.getElem?_set_ne (by omega)]
    · rw [if_neg h2, if_neg h2]
theorem put_put {σ : Sto} {o q : Nat} {fs fs' : List Value} {as as' : List (List Int32)} (h : as.length = as'.length) : put (put σ o q fs as) o q fs' as' = put σ o q fs' as' := by
  unfold put
  refine congrArg (Prod.mk σ.1) ?_
  refine Prod.ext ?_ ?_
  · funext i
    by_cases hi : i = o <;> simp [hi]
  · funext i
    by_cases hi : q ≤ i ∧ i < q + as.length
    · simp [hi, h ▸ hi]
    · simp [hi, h ▸ hi]
theorem put_self {σ : Sto} {o q : Nat} {fs : List Value} {as : List (List Int32)} (hF : σ.2.1 o = fs) (hA : ∀ k l, as[k]? = some l → σ.2.2 (q + k) = l) : put σ o q fs as = σ := by
  unfold put
  refine Prod.ext rfl (Prod.ext ?_ ?_)
  · funext i
    by_cases hi : i = o
    · subst hi; simp [hF]
    · simp [hi]
  · funext i
    by_cases hi : q ≤ i ∧ i < q + as.length
    · have h1 : i - q < as.length := by omega
      have := hA (i - q) (as[i - q]) (List.getElem?_eq_getElem h1)
      rw [show q + (i - q) = i by omega] at this
      simp only [hi, and_self, if_true, List.getD_eq_getElem?_getD, List.getElem?_eq_getElem h1]
      rw [this]
      rfl
    · simp only [hi, if_false]
def up {α : Type} (f : Nat → α) (k : Nat) (v : α) : Nat → α := fun j => if j = k then v else f j
theorem up_s {α : Type} (f : Nat → α) (k : Nat) (v : α) : up f k v k = v := by simp [up]
theorem up_n {α : Type} (f : Nat → α) {k j : Nat} (v : α) (h : j ≠ k) : up f k v j = f j := by simp [up, h]
/-- an array of n ints -/
def arrI (n : Nat) (f : Nat → Int32) : List Int32 := (List.range n).map f
abbrev arr (n : Nat) (g : Nat → Nat) : List Int32 := arrI n (fun j => nI (g j))
/-- NONE or a number -/
def eo (x : Option Nat) : Int32 := match x with
  | none => -1
  | some k => nI k
abbrev arO (n : Nat) (g : Nat → Option Nat) : List Int32 := arrI n (fun j => eo (g j))
theorem arrI_len (n : Nat) (f : Nat → Int32) : (arrI n f).length = n := by simp [arrI]
theorem arrI_get {n : Nat} {f : Nat → Int32} {j : Nat} (h : j < n) : (arrI n f).getD j 0 = f j := by simp [arrI, List.getD, h]
theorem arrI_ext {n : Nat} {f g : Nat → Int32} (h : ∀ j, j < n → f j = g j) : arrI n f = arrI n g := List.map_congr_left fun j hj => h j (List.mem_range.mp hj)
theorem arrI_set {n : Nat} {f : Nat → Int32} {j : Nat} {x : Int32} : (arrI n f).set j x = arrI n (up f j x) := by
  apply List.ext_getElem?
  intro i
  rw [List.getElem?_set]
  by_cases h : j = i
  · subst h
    by_cases hj : j < n
    · simp [arrI, hj, up]
    · simp [arrI, hj]
  · rw [if_neg h]
    by_cases hi : i < n
    · simp [arrI, hi, up, Ne.symm h]
    · simp [arrI, hi]
theorem up_nI (g : Nat → Nat) (j x : Nat) : up (fun i => nI (g i)) j (nI x) = fun i => nI (up g j x i) := by
  funext i
  by_cases h : i = j <;> simp [up, h]
theorem up_eo (g : Nat → Option Nat) (j : Nat) (x : Option Nat) : up (fun i => eo (g i)) j (eo x) = fun i => eo (up g j x i) := by
  funext i
  by_cases h : i = j <;> simp [up, h]
theorem arrN_set {n : Nat} {g : Nat → Nat} {j x : Nat} : (arr n g).set j (nI x) = arr n (up g j x) := by rw [arrI_set, up_nI]
theorem arO_set {n : Nat} {g : Nat → Option Nat} {j : Nat} {x : Option Nat} : (arO n g).set j (eo x) = arO n (up g j x) := by rw [arrI_set, up_eo]
theorem arr_ext {n : Nat} {f g : Nat → Nat} (h : ∀ j, j < n → f j = g j) : arr n f = arr n g := arrI_ext fun j hj => by rw [h j hj]
theorem arO_ext {n : Nat} {f g : Nat → Option Nat} (h : ∀ j, j < n → f j = g j) : arO n f = arO n g := arrI_ext fun j hj => by rw [h j hj]
/-! rules over a component -/

theorem wp_getP {d mc ms m pc nx idx cc k tg o q : Nat} {ps : Int} {L S fs : List Value} {as : List (List Int32)} {σ σ' : Sto} {r : Option Value} {v : Value} (hd : ft m pc = some (.getfield idx, 3, nx, cc, k, tg, ps)) (h9 : tg < 4) (hK : σ.1[o]? = some cc) (hv : fs[k]? = some v) (kk : WP d mc ms m nx L (v :: S) (put σ o q fs as) r σ') : WP d mc ms m pc L (.ref o :: S) (put σ o q fs as) r σ' := wp_get hd h9 hK put_F hv kk
theorem wp_putIP {d mc ms m pc nx idx cc k o q : Nat} {ps : Int} {L S fs : List Value} {as : List (List Int32)} {σ σ' : Sto} {r : Option Value} {x : Int32} (hd : ft m pc = some (.putfield idx, 3, nx, cc, k, 0, ps)) (hK : σ.1[o]? = some cc) (kk : WP d mc ms m nx L S (put σ o q (fs.set k (.int x)) as) r σ') : WP d mc ms m pc L (.int x :: .ref o :: S) (put σ o q fs as) r σ' := wp_putI hd hK (by rw [setF_put]; exact kk)
theorem wp_putZP {d mc ms m pc nx idx cc k o q : Nat} {ps : Int} {L S fs : List Value} {as : List (List Int32)} {σ σ' : Sto} {r : Option Value} {x : Int32} (hd : ft m pc = some (.putfield idx, 3, nx, cc, k, 1, ps)) (hK : σ.1[o]? = some cc) (h01 : x = 0 ∨ x = 1) (kk : WP d mc ms m nx L S (put σ o q (fs.set k (.int x)) as) r σ') : WP d mc ms m pc L (.int x :: .ref o :: S) (put σ o q fs as) r σ' := wp_putZ hd hK h01 (by rw [setF_put]; exact kk)
theorem wp_putLP {d mc ms m pc nx idx cc k o q : Nat} {ps : Int} {L S fs : List Value} {as : List (List Int32)} {σ σ' : Sto} {r : Option Value} {x : Int64} (hd : ft m pc = some (.putfield idx, 3, nx, cc, k, 2, ps)) (hK : σ.1[o]? = some cc) (kk : WP d mc ms m nx L S (put σ o q (fs.set k (.long x)) as) r σ') : WP d mc ms m pc L (.long x :: .ref o :: S) (put σ o q fs as) r σ' := wp_putL hd hK (by rw [setF_put]; exact kk)
theorem wp_aldP {d mc ms m pc nx : Nat} {L S : List Value} {σ σ' : Sto} {r : Option Value} {X : Nat × Nat × Nat × Int} {o q k n j : Nat} {fs : List Value} {as : List (List Int32)} {f : Nat → Int32} (hd : ft m pc = some (.iaload, 1, nx, X)) (hK : σ.1[q + k]? = some 100) (hA : as[k]? = some (arrI n f)) (hj : j < n) (hn : n < 1000) (kk : WP d mc ms m nx L (.int (f j) :: S) (put σ o q fs as) r σ') : WP d mc ms m pc L (.int (nI j) :: .ref (q + k) :: S) (put σ o q fs as) r σ' := by
  have e := put_A (σ := σ) (o := o) (q := q) (fs := fs) hA
  refine wp_iald hd hK (by rw [e, arrI_len]; exact hj) (by rw [e, arrI_len]; omega) ?_
  rw [e, arrI_get hj]
  exact kk
theorem wp_zaldP {d mc ms m pc nx : Nat} {L S : List Value} {σ σ' : Sto} {r : Option Value} {X : Nat × Nat × Nat × Int} {o q k n j : Nat} {fs : List Value} {as : List (List Int32)} {f : Nat → Int32} (hd : ft m pc = some (.baload, 1, nx, X)) (hK : σ.1[q + k]? = some 101) (hA : as[k]? = some (arrI n f)) (hj : j < n) (hn : n < 1000) (kk : WP d mc ms m nx L (.int (f j) :: S) (put σ o q fs as) r σ') : WP d mc ms m pc L (.int (nI j) :: .ref (q + k) :: S) (put σ o q fs as) r σ' := by
  have e := put_A (σ := σ) (o := o) (q := q) (fs := fs) hA
  refine wp_zald hd hK (by rw [e, arrI_len]; exact hj) (by rw [e, arrI_len]; omega) ?_
  rw [e, arrI_get hj]
  exact kk
theorem wp_alenP {d mc ms m pc nx : Nat} {L S : List Value} {σ σ' : Sto} {r : Option Value} {X : Nat × Nat × Nat × Int} {o q k n : Nat} {fs : List Value} {as : List (List Int32)} {f : Nat → Int32} (hd : ft m pc = some (.arraylength, 1, nx, X)) (hK : σ.1[q + k]? = some 100) (hA : as[k]? = some (arrI n f)) (kk : WP d mc ms m nx L (.int (nI n) :: S) (put σ o q fs as) r σ') : WP d mc ms m pc L (.ref (q + k) :: S) (put σ o q fs as) r σ' := by
  have e := put_A (σ := σ) (o := o) (q := q) (fs := fs) hA
  refine wp_alen hd hK ?_
  rw [e, arrI_len]
  exact kk
theorem wp_astP {d mc ms m pc nx : Nat} {L S : List Value} {σ σ' : Sto} {r : Option Value} {X : Nat × Nat × Nat × Int} {o q k n j : Nat} {x : Int32} {fs : List Value} {as : List (List Int32)} {f : Nat → Int32} (hd : ft m pc = some (.iastore, 1, nx, X)) (hK : σ.1[q + k]? = some 100) (hA : as[k]? = some (arrI n f)) (hj : j < n) (hn : n < 1000) (kk : WP d mc ms m nx L S (put σ o q fs (as.set k (arrI n (up f j x)))) r σ') : WP d mc ms m pc L (.int x :: .int (nI j) :: .ref (q + k) :: S) (put σ o q fs as) r σ' := by
  have e := put_A (σ := σ) (o := o) (q := q) (fs := fs) hA
  refine wp_iast hd hK (by rw [e, arrI_len]; exact hj) (by rw [e, arrI_len]; omega) ?_
  rw [e, arrI_set, setA_put (List.getElem?_eq_some_iff.mp hA).1]
  exact kk
theorem wp_astN {d mc ms m pc nx : Nat} {L S : List Value} {σ σ' : Sto} {r : Option Value} {X : Nat × Nat × Nat × Int} {o q k n j x : Nat} {fs : List Value} {as : List (List Int32)} {g : Nat → Nat} (hd : ft m pc = some (.iastore, 1, nx, X)) (hK : σ.1[q + k]? = some 100) (hA : as[k]? = some (arr n g)) (hj : j < n) (hn : n < 1000) (kk : WP d mc ms m nx L S (put σ o q fs (as.set k (arr n (up g j x)))) r σ') : WP d mc ms m pc L (.int (nI x) :: .int (nI j) :: .ref (q + k) :: S) (put σ o q fs as) r σ' := wp_astP hd hK hA hj hn (by rw [up_nI]; exact kk)
theorem wp_astO {d mc ms m pc nx : Nat} {L S : List Value} {σ σ' : Sto} {r : Option Value} {X : Nat × Nat × Nat × Int} {o q k n j : Nat} {x : Option Nat} {fs : List Value} {as : List (List Int32)} {g : Nat → Option Nat} (hd : ft m pc = some (.iastore, 1, nx, X)) (hK : σ.1[q + k]? = some 100) (hA : as[k]? = some (arO n g)) (hj : j < n) (hn : n < 1000) (kk : WP d mc ms m nx L S (put σ o q fs (as.set k (arO n (up g j x)))) r σ') : WP d mc ms m pc L (.int (eo x) :: .int (nI j) :: .ref (q + k) :: S) (put σ o q fs as) r σ' := wp_astP hd hK hA hj hn (by rw [up_eo]; exact kk)
theorem wp_zastP {d mc ms m pc nx : Nat} {L S : List Value} {σ σ' : Sto} {r : Option Value} {X : Nat × Nat × Nat × Int} {o q k n j : Nat} {x : Int32} {fs : List Value} {as : List (List Int32)} {f : Nat → Int32} (hd : ft m pc = some (.bastore, 1, nx, X)) (hK : σ.1[q + k]? = some 101) (h01 : x = 0 ∨ x = 1) (hA : as[k]? = some (arrI n f)) (hj : j < n) (hn : n < 1000) (kk : WP d mc ms m nx L S (put σ o q fs (as.set k (arrI n (up f j x)))) r σ') : WP d mc ms m pc L (.int x :: .int (nI j) :: .ref (q + k) :: S) (put σ o q fs as) r σ' := by
  have e := put_A (σ := σ) (o := o) (q := q) (fs := fs) hA
  refine wp_zast hd hK h01 (by rw [e, arrI_len]; exact hj) (by rw [e, arrI_len]; omega) ?_
  rw [e, arrI_set, setA_put (List.getElem?_eq_some_iff.mp hA).1]
  exact kk
/-! numbers -/
theorem wp_iaddN {d mc ms m pc nx : Nat} {L S : List Value} {σ σ' : Sto} {r : Option Value} {X : Nat × Nat × Nat × Int} {x y : Nat} (hd : ft m pc = some (.iadd, 1, nx, X)) (k : WP d mc ms m nx L (.int (nI (x + y)) :: S) σ r σ') : WP d mc ms m pc L (.int (nI y) :: .int (nI x) :: S) σ r σ' := wp_iadd hd (by rw [nI_add]; exact k)
theorem wp_isubN {d mc ms m pc nx : Nat} {L S : List Value} {σ σ' : Sto} {r : Option Value} {X : Nat × Nat × Nat × Int} {x y : Nat} (hd : ft m pc = some (.isub, 1, nx, X)) (h : y ≤ x) (k : WP d mc ms m nx L (.int (nI (x - y)) :: S) σ r σ') : WP d mc ms m pc L (.int (nI y) :: .int (nI x) :: S) σ r σ' := wp_isub hd (by rw [pk_sub h]; exact k)
theorem wp_imulN {d mc ms m pc nx : Nat} {L S : List Value} {σ σ' : Sto} {r : Option Value} {X : Nat × Nat × Nat × Int} {x y : Nat} (hd : ft m pc = some (.imul, 1, nx, X)) (k : WP d mc ms m nx L (.int (nI (x * y)) :: S) σ r σ') : WP d mc ms m pc L (.int (nI y) :: .int (nI x) :: S) σ r σ' := wp_imul hd (by rw [pk_mul]; exact k)
theorem wp_idivN {d mc ms m pc nx : Nat} {L S : List Value} {σ σ' : Sto} {r : Option Value} {X : Nat × Nat × Nat × Int} {x y : Nat} (hd : ft m pc = some (.idiv, 1, nx, X)) (hx : x < 2 ^ 31) (h0 : 0 < y) (hy : y < 2 ^ 31) (k : WP d mc ms m nx L (.int (nI (x / y)) :: S) σ r σ') : WP d mc ms m pc L (.int (nI y) :: .int (nI x) :: S) σ r σ' := wp_idiv hd (nI_ne0 h0 hy) (by rw [pk_div hx h0 hy]; exact k)
theorem wp_iremN {d mc ms m pc nx : Nat} {L S : List Value} {σ σ' : Sto} {r : Option Value} {X : Nat × Nat × Nat × Int} {x y : Nat} (hd : ft m pc = some (.irem, 1, nx, X)) (hx : x < 2 ^ 31) (h0 : 0 < y) (hy : y < 2 ^ 31) (k : WP d mc ms m nx L (.int (nI (x % y)) :: S) σ r σ') : WP d mc ms m pc L (.int (nI y) :: .int (nI x) :: S) σ r σ' := wp_irem hd (nI_ne0 h0 hy) (by rw [pk_rem hx h0 hy]; exact k)
theorem and31 : ∀ k, k < 32 → nI k &&& 31 = nI k := by decide
theorem smod32 : ∀ k, k < 32 → ((nI k).toBitVec.smod 32).toNat = k := by decide
theorem shl_N {x y : Nat} (hy : y < 31) (h : x * 2 ^ y < 2 ^ 32) : nI x <<< (nI y &&& 31) = nI (x * 2 ^ y) := by
  rw [and31 y (by omega)]
  exact pk_shlN _ y (smod32 y (by omega)) h
theorem shr_N {x y : Nat} (hy : y < 31) (h : x < 2 ^ 31) : nI x >>> (nI y &&& 31) = nI (x / 2 ^ y) := by
  rw [and31 y (by omega)]
  exact pk_shrN h _ y (smod32 y (by omega))
theorem wp_ishlN {d mc ms m pc nx : Nat} {L S : List Value} {σ σ' : Sto} {r : Option Value} {X : Nat × Nat × Nat × Int} {x y : Nat} (hd : ft m pc = some (.ishl, 1, nx, X)) (hy : y < 31) (h : x * 2 ^ y < 2 ^ 32) (k : WP d mc ms m nx L (.int (nI (x * 2 ^ y)) :: S) σ r σ') : WP d mc ms m pc L (.int (nI y) :: .int (nI x) :: S) σ r σ' := wp_ishl hd (by rw [shl_N hy h]; exact k)
theorem wp_ishrN {d mc ms m pc nx : Nat} {L S : List Value} {σ σ' : Sto} {r : Option Value} {X : Nat × Nat × Nat × Int} {x y : Nat} (hd : ft m pc = some (.ishr, 1, nx, X)) (hy : y < 31) (h : x < 2 ^ 31) (k : WP d mc ms m nx L (.int (nI (x / 2 ^ y)) :: S) σ r σ') : WP d mc ms m pc L (.int (nI y) :: .int (nI x) :: S) σ r σ' := wp_ishr hd (by rw [shr_N hy h]; exact k)
theorem inc1 (x : Nat) : nI x + Int32.ofInt 1 = nI (x + 1) := nI_1 x
theorem dec1 (x : Nat) : nI (x + 1) + Int32.ofInt (-1) = nI x := pk_m1 x
theorem eo_m1 : (-1 : Int32) = eo none := rfl
theorem nI_m1 {x : Nat} (h : x < 2 ^ 31) : ¬ nI x = -1 := by
  intro e
  have h1 := nI_toInt h
  rw [e] at h1
  have : ((-1 : Int32)).toInt = -1 := by decide
  omega
theorem eo_none {x : Option Nat} (h : ∀ k, x = some k → k < 2 ^ 31) : eo x = -1 ↔ x = none := by
  cases x with
  | none => exact ⟨fun _ => rfl, fun _ => rfl⟩
  | some k => exact ⟨fun e => absurd e (nI_m1 (h k rfl)), fun e => by cases e⟩
theorem eo_some {x : Option Nat} {j : Nat} (hj : j < 2 ^ 31) (h : ∀ k, x = some k → k < 2 ^ 31) : eo x = nI j ↔ x = some j := by
  cases x with
  | none => exact ⟨fun e => absurd e.symm (nI_m1 hj), fun e => by cases e⟩
  | some k =>
    constructor
    · intro e
      rw [(nI_eq (h k rfl) hj).mp e]
    · intro e
      cases e
      rfl
theorem wp_icmp_eqN {d mc ms m pc nx tg a2 a3 : Nat} {a4 : Int} {L S : List Value} {σ σ' : Sto} {r : Option Value} {x y : Nat} {off : Int} (hd : ft m pc = some (.if_icmp .eq off, 3, nx, tg, a2, a3, a4)) (h0 : 0 ≤ (pc : Int) + off) (hx : x < 2 ^ 31) (hy : y < 2 ^ 31) (kt : x = y → WP d mc ms m tg L S σ r σ') (kf : x ≠ y → WP d mc ms m nx L S σ r σ') : WP d mc ms m pc L (.int (nI y) :: .int (nI x) :: S) σ r σ' :=
  wp_icmp_eq hd h0 (fun h => kt ((nI_eq hx hy).mp h)) (fun h => kf (fun e => h ((nI_eq hx hy).mpr e)))
theorem wp_icmp_neN {d mc ms m pc nx tg a2 a3 : Nat} {a4 : Int} {L S : List Value} {σ σ' : Sto} {r : Option Value} {x y : Nat} {off : Int} (hd : ft m pc = some (.if_icmp .ne off, 3, nx, tg, a2, a3, a4)) (h0 : 0 ≤ (pc : Int) + off) (hx : x < 2 ^ 31) (hy : y < 2 ^ 31) (kt : x ≠ y → WP d mc ms m tg L S σ r σ') (kf : x = y → WP d mc ms m nx L S σ r σ') : WP d mc ms m pc L (.int (nI y) :: .int (nI x) :: S) σ r σ' :=
  wp_icmp_ne hd h0 (fun h => kt (fun e => h ((nI_eq hx hy).mpr e))) (fun h => kf ((nI_eq hx hy).mp h))
theorem wp_icmp_ltN {d mc ms m pc nx tg a2 a3 : Nat} {a4 : Int} {L S : List Value} {σ σ' : Sto} {r : Option Value} {x y : Nat} {off : Int} (hd : ft m pc = some (.if_icmp .lt off, 3, nx, tg, a2, a3, a4)) (h0 : 0 ≤ (pc : Int) + off) (hx : x < 2 ^ 31) (hy : y < 2 ^ 31) (kt : x < y → WP d mc ms m tg L S σ r σ') (kf : y ≤ x → WP d mc ms m nx L S σ r σ') : WP d mc ms m pc L (.int (nI y) :: .int (nI x) :: S) σ r σ' :=
  wp_icmp_lt hd h0 (fun h => kt ((nI_ltI hx hy).mp h)) (fun h => kf (by have := mt (nI_ltI hx hy).mpr h; omega))
theorem wp_icmp_geN {d mc ms m pc nx tg a2 a3 : Nat} {a4 : Int} {L S : List Value} {σ σ' : Sto} {r : Option Value} {x y : Nat} {off : Int} (hd : ft m pc = some (.if_icmp .ge off, 3, nx, tg, a2, a3, a4)) (h0 : 0 ≤ (pc : Int) + off) (hx : x < 2 ^ 31) (hy : y < 2 ^ 31) (kt : y ≤ x → WP d mc ms m tg L S σ r σ') (kf : x < y → WP d mc ms m nx L S σ r σ') : WP d mc ms m pc L (.int (nI y) :: .int (nI x) :: S) σ r σ' :=
  wp_icmp_ge hd h0 (fun h => kt ((nI_leI hy hx).mp h)) (fun h => kf (by have := mt (nI_leI hy hx).mpr h; omega))
theorem wp_icmp_gtN {d mc ms m pc nx tg a2 a3 : Nat} {a4 : Int} {L S : List Value} {σ σ' : Sto} {r : Option Value} {x y : Nat} {off : Int} (hd : ft m pc = some (.if_icmp .gt off, 3, nx, tg, a2, a3, a4)) (h0 : 0 ≤ (pc : Int) + off) (hx : x < 2 ^ 31) (hy : y < 2 ^ 31) (kt : y < x → WP d mc ms m tg L S σ r σ') (kf : x ≤ y → WP d mc ms m nx L S σ r σ') : WP d mc ms m pc L (.int (nI y) :: .int (nI x) :: S) σ r σ' :=
  wp_icmp_gt hd h0 (fun h => kt ((nI_ltI hy hx).mp h)) (fun h => kf (by have := mt (nI_ltI hy hx).mpr h; omega))
theorem wp_icmp_leN {d mc ms m pc nx tg a2 a3 : Nat} {a4 : Int} {L S : List Value} {σ σ' : Sto} {r : Option Value} {x y : Nat} {off : Int} (hd : ft m pc = some (.if_icmp .le off, 3, nx, tg, a2, a3, a4)) (h0 : 0 ≤ (pc : Int) + off) (hx : x < 2 ^ 31) (hy : y < 2 ^ 31) (kt : x ≤ y → WP d mc ms m tg L S σ r σ') (kf : y < x → WP d mc ms m nx L S σ r σ') : WP d mc ms m pc L (.int (nI y) :: .int (nI x) :: S) σ r σ' :=
  wp_icmp_le hd h0 (fun h => kt ((nI_leI hx hy).mp h)) (fun h => kf (by have := mt (nI_leI hx hy).mpr h; omega))
theorem wp_if_eqN {d mc ms m pc nx tg a2 a3 : Nat} {a4 : Int} {L S : List Value} {σ σ' : Sto} {r : Option Value} {x : Nat} {off : Int} (hd : ft m pc = some (.ifCond .eq off, 3, nx, tg, a2, a3, a4)) (h0 : 0 ≤ (pc : Int) + off) (hx : x < 2 ^ 31) (kt : x = 0 → WP d mc ms m tg L S σ r σ') (kf : x ≠ 0 → WP d mc ms m nx L S σ r σ') : WP d mc ms m pc L (.int (nI x) :: S) σ r σ' :=
  wp_if_eq hd h0 (fun h => kt (by rcases Nat.eq_zero_or_pos x with e | e; exact e; exact absurd h (nI_ne0 e hx))) (fun h => kf (fun e => h (by rw [e]; rfl)))
theorem wp_if_neN {d mc ms m pc nx tg a2 a3 : Nat} {a4 : Int} {L S : List Value} {σ σ' : Sto} {r : Option Value} {x : Nat} {off : Int} (hd : ft m pc = some (.ifCond .ne off, 3, nx, tg, a2, a3, a4)) (h0 : 0 ≤ (pc : Int) + off) (hx : x < 2 ^ 31) (kt : x ≠ 0 → WP d mc ms m tg L S σ r σ') (kf : x = 0 → WP d mc ms m nx L S σ r σ') : WP d mc ms m pc L (.int (nI x) :: S) σ r σ' :=
  wp_if_ne hd h0 (fun h => kt (fun e => h (by rw [e]; rfl))) (fun h => kf (by rcases Nat.eq_zero_or_pos x with e | e; exact e; exact absurd h (nI_ne0 e hx)))
theorem wp_if_leN {d mc ms m pc nx tg a2 a3 : Nat} {a4 : Int} {L S : List Value} {σ σ' : Sto} {r : Option Value} {x : Nat} {off : Int} (hd : ft m pc = some (.ifCond .le off, 3, nx, tg, a2, a3, a4)) (h0 : 0 ≤ (pc : Int) + off) (hx : x < 2 ^ 31) (kt : x = 0 → WP d mc ms m tg L S σ r σ') (kf : x ≠ 0 → WP d mc ms m nx L S σ r σ') : WP d mc ms m pc L (.int (nI x) :: S) σ r σ' :=
  wp_if_le hd h0 (fun h => kt (by rcases Nat.eq_zero_or_pos x with e | e; exact e; exact absurd h (nI_nle e hx))) (fun h => kf (fun e => h (by rw [e]; decide)))
theorem wp_if_gtN {d mc ms m pc nx tg a2 a3 : Nat} {a4 : Int} {L S : List Value} {σ σ' : Sto} {r : Option Value} {x : Nat} {off : Int} (hd : ft m pc = some (.ifCond .gt off, 3, nx, tg, a2, a3, a4)) (h0 : 0 ≤ (pc : Int) + off) (hx : x < 2 ^ 31) (kt : x ≠ 0 → WP d mc ms m tg L S σ r σ') (kf : x = 0 → WP d mc ms m nx L S σ r σ') : WP d mc ms m pc L (.int (nI x) :: S) σ r σ' :=
  wp_if_gt hd h0 (fun h => kt (fun e => by rw [e] at h; exact absurd h (by decide))) (fun h => kf (by rcases Nat.eq_zero_or_pos x with e | e; exact e; exact absurd (show (0 : Int32) < nI x from (nI_lt e hx)) h))
theorem wp_if_ltN {d mc ms m pc nx tg a2 a3 : Nat} {a4 : Int} {L S : List Value} {σ σ' : Sto} {r : Option Value} {x : Nat} {off : Int} (hd : ft m pc = some (.ifCond .lt off, 3, nx, tg, a2, a3, a4)) (h0 : 0 ≤ (pc : Int) + off) (hx : x < 2 ^ 31) (kf : WP d mc ms m nx L S σ r σ') : WP d mc ms m pc L (.int (nI x) :: S) σ r σ' :=
  wp_if_lt hd h0 (fun h => absurd h (nI_pos hx)) (fun _ => kf)
theorem wp_if_geN {d mc ms m pc nx tg a2 a3 : Nat} {a4 : Int} {L S : List Value} {σ σ' : Sto} {r : Option Value} {x : Nat} {off : Int} (hd : ft m pc = some (.ifCond .ge off, 3, nx, tg, a2, a3, a4)) (h0 : 0 ≤ (pc : Int) + off) (hx : x < 2 ^ 31) (kt : WP d mc ms m tg L S σ r σ') : WP d mc ms m pc L (.int (nI x) :: S) σ r σ' :=
  wp_if_ge hd h0 (fun _ => kt) (fun h => absurd (nI_pos' hx) h)
/-- a truth as an int -/
def bi (p : Bool) : Int32 := if p then 1 else 0
theorem bi_01 (p : Bool) : bi p = 0 ∨ bi p = 1 := by cases p <;> simp [bi]
theorem nI_01 : nI 0 = 0 ∨ nI 0 = 1 := Or.inl rfl
theorem nI_11 : nI 1 = 0 ∨ nI 1 = 1 := Or.inr rfl
theorem wp_if_eqB {d mc ms m pc nx tg a2 a3 : Nat} {a4 : Int} {L S : List Value} {σ σ' : Sto} {r : Option Value} {p : Bool} {off : Int} (hd : ft m pc = some (.ifCond .eq off, 3, nx, tg, a2, a3, a4)) (h0 : 0 ≤ (pc : Int) + off) (kt : p = false → WP d mc ms m tg L S σ r σ') (kf : p = true → WP d mc ms m nx L S σ r σ') : WP d mc ms m pc L (.int (bi p) :: S) σ r σ' :=
  wp_if_eq hd h0 (fun h => kt (by cases p; rfl; exact absurd h (by decide))) (fun h => kf (by cases p; exact absurd rfl h; rfl))
theorem wp_if_neB {d mc ms m pc nx tg a2 a3 : Nat} {a4 : Int} {L S : List Value} {σ σ' : Sto} {r : Option Value} {p : Bool} {off : Int} (hd : ft m pc = some (.ifCond .ne off, 3, nx, tg, a2, a3, a4)) (h0 : 0 ≤ (pc : Int) + off) (kt : p = true → WP d mc ms m tg L S σ r σ') (kf : p = false → WP d mc ms m nx L S σ r σ') : WP d mc ms m pc L (.int (bi p) :: S) σ r σ' :=
  wp_if_ne hd h0 (fun h => kt (by cases p; exact absurd rfl h; rfl)) (fun h => kf (by cases p; rfl; exact absurd h (by decide)))
theorem ic_0 : Int32.ofInt 0 = nI 0 := by decide
theorem ic_1 : Int32.ofInt 1 = nI 1 := by decide
theorem ic_2 : Int32.ofInt 2 = nI 2 := by decide
theorem ic_3 : Int32.ofInt 3 = nI 3 := by decide
theorem ic_4 : Int32.ofInt 4 = nI 4 := by decide
theorem ic_5 : Int32.ofInt 5 = nI 5 := by decide
theorem ic_m1 : Int32.ofInt (-1) = eo none := by decide
theorem bi_6 : (Int8.ofInt 6).toInt32 = nI 6 := by decide
theorem bi_7 : (Int8.ofInt 7).toInt32 = nI 7 := by decide
theorem bi_9 : (Int8.ofInt 9).toInt32 = nI 9 := by decide
theorem bi_10 : (Int8.ofInt 10).toInt32 = nI 10 := by decide
theorem bi_13 : (Int8.ofInt 13).toInt32 = nI 13 := by decide
theorem bi_14 : (Int8.ofInt 14).toInt32 = nI 14 := by decide
theorem bi_15 : (Int8.ofInt 15).toInt32 = nI 15 := by decide
theorem bi_16 : (Int8.ofInt 16).toInt32 = nI 16 := by decide
theorem bi_20 : (Int8.ofInt 20).toInt32 = nI 20 := by decide
theorem bi_31 : (Int8.ofInt 31).toInt32 = nI 31 := by decide
theorem bi_40 : (Int8.ofInt 40).toInt32 = nI 40 := by decide
theorem bi_48 : (Int8.ofInt 48).toInt32 = nI 48 := by decide
theorem bi_50 : (Int8.ofInt 50).toInt32 = nI 50 := by decide
theorem bi_57 : (Int8.ofInt 57).toInt32 = nI 57 := by decide
theorem bi_59 : (Int8.ofInt 59).toInt32 = nI 59 := by decide
theorem bi_60 : (Int8.ofInt 60).toInt32 = nI 60 := by decide
theorem bi_65 : (Int8.ofInt 65).toInt32 = nI 65 := by decide
theorem bi_75 : (Int8.ofInt 75).toInt32 = nI 75 := by decide
theorem bi_95 : (Int8.ofInt 95).toInt32 = nI 95 := by decide
theorem bi_99 : (Int8.ofInt 99).toInt32 = nI 99 := by decide
theorem bi_100 : (Int8.ofInt 100).toInt32 = nI 100 := by decide
theorem bi_126 : (Int8.ofInt 126).toInt32 = nI 126 := by decide
theorem bi_35 : (Int8.ofInt 35).toInt32 = nI 35 := by decide
theorem bi_30 : (Int8.ofInt 30).toInt32 = nI 30 := by decide
theorem bi_11 : (Int8.ofInt 11).toInt32 = nI 11 := by decide
theorem bi_12 : (Int8.ofInt 12).toInt32 = nI 12 := by decide
theorem bi_m101 : (Int8.ofInt (-101)).toInt32 = -101 := by decide
theorem bi_m102 : (Int8.ofInt (-102)).toInt32 = -102 := by decide
theorem bi_m103 : (Int8.ofInt (-103)).toInt32 = -103 := by decide
theorem bi_m104 : (Int8.ofInt (-104)).toInt32 = -104 := by decide
theorem si_150 : (Int16.ofInt 150).toInt32 = nI 150 := by decide
theorem wp_V0r {d d' m m' pc nx idx o : Nat} {ps : Int} {L S : List Value} {σ σ1 σ' : Sto} {r : Option Value} {w : Value} (hd : ft m pc = some (.invokevirtual idx, 3, nx, m', 0, 0, ps)) (hK : σ.1[o]? = some (ow m')) (hE : Ev d' 0 0 m' [.ref o] σ (some w) σ1) (hdd : d' + 1 ≤ d) (hcat : (S.map fun v => v.category).sum ≤ 8) (kk : WP d 0 0 m nx L (w :: S) σ1 r σ') : WP d 0 0 m pc L (.ref o :: S) σ r σ' := wp_callV (As := []) (mc' := 0) (ms' := 0) (mc := 0) (ms := 0) hd rfl hK hE hdd hcat kk
theorem wp_V0v {d d' m m' pc nx idx o : Nat} {ps : Int} {L S : List Value} {σ σ1 σ' : Sto} {r : Option Value} (hd : ft m pc = some (.invokevirtual idx, 3, nx, m', 0, 0, ps)) (hK : σ.1[o]? = some (ow m')) (hE : Ev d' 0 0 m' [.ref o] σ none σ1) (hdd : d' + 1 ≤ d) (hcat : (S.map fun v => v.category).sum ≤ 8) (kk : WP d 0 0 m nx L (S) σ1 r σ') : WP d 0 0 m pc L (.ref o :: S) σ r σ' := wp_callV (As := []) (mc' := 0) (ms' := 0) (mc := 0) (ms := 0) hd rfl hK hE hdd hcat kk
theorem wp_V1r {d d' m m' pc nx idx o : Nat} {ps : Int} {L S : List Value} {σ σ1 σ' : Sto} {r : Option Value} {v1 : Value} {w : Value} (hd : ft m pc = some (.invokevirtual idx, 3, nx, m', 1, 0, ps)) (hK : σ.1[o]? = some (ow m')) (hE : Ev d' 0 0 m' [.ref o, v1] σ (some w) σ1) (hdd : d' + 1 ≤ d) (hcat : (S.map fun v => v.category).sum ≤ 8) (kk : WP d 0 0 m nx L (w :: S) σ1 r σ') : WP d 0 0 m pc L (v1 :: .ref o :: S) σ r σ' := wp_callV (As := [v1]) (mc' := 0) (ms' := 0) (mc := 0) (ms := 0) hd rfl hK hE hdd hcat kk
theorem wp_V1v {d d' m m' pc nx idx o : Nat} {ps : Int} {L S : List Value} {σ σ1 σ' : Sto} {r : Option Value} {v1 : Value} (hd : ft m pc = some (.invokevirtual idx, 3, nx, m', 1, 0, ps)) (hK : σ.1[o]? = some (ow m')) (hE : Ev d' 0 0 m' [.ref o, v1] σ none σ1) (hdd : d' + 1 ≤ d) (hcat : (S.map fun v => v.category).sum ≤ 8) (kk : WP d 0 0 m nx L (S) σ1 r σ') : WP d 0 0 m pc L (v1 :: .ref o :: S) σ r σ' := wp_callV (As := [v1]) (mc' := 0) (ms' := 0) (mc := 0) (ms := 0) hd rfl hK hE hdd hcat kk
theorem wp_S1r {d d' m m' pc nx idx : Nat} {ps : Int} {L S : List Value} {σ σ1 σ' : Sto} {r : Option Value} {v1 : Value} {w : Value} (hd : ft m pc = some (.invokestatic idx, 3, nx, m', 1, 1, ps)) (ho : ow m = ow m') (hE : Ev d' 0 0 m' [v1] σ (some w) σ1) (hdd : d' + 1 ≤ d) (hcat : (S.map fun v => v.category).sum ≤ 8) (kk : WP d 0 0 m nx L (w :: S) σ1 r σ') : WP d 0 0 m pc L (v1 :: S) σ r σ' := wp_callS (As := [v1]) (mc' := 0) (ms' := 0) (mc := 0) (ms := 0) hd rfl ho hE hdd hcat kk
theorem wp_S1v {d d' m m' pc nx idx : Nat} {ps : Int} {L S : List Value} {σ σ1 σ' : Sto} {r : Option Value} {v1 : Value} (hd : ft m pc = some (.invokestatic idx, 3, nx, m', 1, 1, ps)) (ho : ow m = ow m') (hE : Ev d' 0 0 m' [v1] σ none σ1) (hdd : d' + 1 ≤ d) (hcat : (S.map fun v => v.category).sum ≤ 8) (kk : WP d 0 0 m nx L (S) σ1 r σ') : WP d 0 0 m pc L (v1 :: S) σ r σ' := wp_callS (As := [v1]) (mc' := 0) (ms' := 0) (mc := 0) (ms := 0) hd rfl ho hE hdd hcat kk
theorem wp_V2r {d d' m m' pc nx idx o : Nat} {ps : Int} {L S : List Value} {σ σ1 σ' : Sto} {r : Option Value} {v1 v2 : Value} {w : Value} (hd : ft m pc = some (.invokevirtual idx, 3, nx, m', 2, 0, ps)) (hK : σ.1[o]? = some (ow m')) (hE : Ev d' 0 0 m' [.ref o, v1, v2] σ (some w) σ1) (hdd : d' + 1 ≤ d) (hcat : (S.map fun v => v.category).sum ≤ 8) (kk : WP d 0 0 m nx L (w :: S) σ1 r σ') : WP d 0 0 m pc L (v2 :: v1 :: .ref o :: S) σ r σ' := wp_callV (As := [v1, v2]) (mc' := 0) (ms' := 0) (mc := 0) (ms := 0) hd rfl hK hE hdd hcat kk
theorem wp_V2v {d d' m m' pc nx idx o : Nat} {ps : Int} {L S : List Value} {σ σ1 σ' : Sto} {r : Option Value} {v1 v2 : Value} (hd : ft m pc = some (.invokevirtual idx, 3, nx, m', 2, 0, ps)) (hK : σ.1[o]? = some (ow m')) (hE : Ev d' 0 0 m' [.ref o, v1, v2] σ none σ1) (hdd : d' + 1 ≤ d) (hcat : (S.map fun v => v.category).sum ≤ 8) (kk : WP d 0 0 m nx L (S) σ1 r σ') : WP d 0 0 m pc L (v2 :: v1 :: .ref o :: S) σ r σ' := wp_callV (As := [v1, v2]) (mc' := 0) (ms' := 0) (mc := 0) (ms := 0) hd rfl hK hE hdd hcat kk
theorem wp_S2r {d d' m m' pc nx idx : Nat} {ps : Int} {L S : List Value} {σ σ1 σ' : Sto} {r : Option Value} {v1 v2 : Value} {w : Value} (hd : ft m pc = some (.invokestatic idx, 3, nx, m', 2, 1, ps)) (ho : ow m = ow m') (hE : Ev d' 0 0 m' [v1, v2] σ (some w) σ1) (hdd : d' + 1 ≤ d) (hcat : (S.map fun v => v.category).sum ≤ 8) (kk : WP d 0 0 m nx L (w :: S) σ1 r σ') : WP d 0 0 m pc L (v2 :: v1 :: S) σ r σ' := wp_callS (As := [v1, v2]) (mc' := 0) (ms' := 0) (mc := 0) (ms := 0) hd rfl ho hE hdd hcat kk
theorem wp_S2v {d d' m m' pc nx idx : Nat} {ps : Int} {L S : List Value} {σ σ1 σ' : Sto} {r : Option Value} {v1 v2 : Value} (hd : ft m pc = some (.invokestatic idx, 3, nx, m', 2, 1, ps)) (ho : ow m = ow m') (hE : Ev d' 0 0 m' [v1, v2] σ none σ1) (hdd : d' + 1 ≤ d) (hcat : (S.map fun v => v.category).sum ≤ 8) (kk : WP d 0 0 m nx L (S) σ1 r σ') : WP d 0 0 m pc L (v2 :: v1 :: S) σ r σ' := wp_callS (As := [v1, v2]) (mc' := 0) (ms' := 0) (mc := 0) (ms := 0) hd rfl ho hE hdd hcat kk
theorem wp_V3r {d d' m m' pc nx idx o : Nat} {ps : Int} {L S : List Value} {σ σ1 σ' : Sto} {r : Option Value} {v1 v2 v3 : Value} {w : Value} (hd : ft m pc = some (.invokevirtual idx, 3, nx, m', 3, 0, ps)) (hK : σ.1[o]? = some (ow m')) (hE : Ev d' 0 0 m' [.ref o, v1, v2, v3] σ (some w) σ1) (hdd : d' + 1 ≤ d) (hcat : (S.map fun v => v.category).sum ≤ 8) (kk : WP d 0 0 m nx L (w :: S) σ1 r σ') : WP d 0 0 m pc L (v3 :: v2 :: v1 :: .ref o :: S) σ r σ' := wp_callV (As := [v1, v2, v3]) (mc' := 0) (ms' := 0) (mc := 0) (ms := 0) hd rfl hK hE hdd hcat kk
theorem wp_V3v {d d' m m' pc nx idx o : Nat} {ps : Int} {L S : List Value} {σ σ1 σ' : Sto} {r : Option Value} {v1 v2 v3 : Value} (hd : ft m pc = some (.invokevirtual idx, 3, nx, m', 3, 0, ps)) (hK : σ.1[o]? = some (ow m')) (hE : Ev d' 0 0 m' [.ref o, v1, v2, v3] σ none σ1) (hdd : d' + 1 ≤ d) (hcat : (S.map fun v => v.category).sum ≤ 8) (kk : WP d 0 0 m nx L (S) σ1 r σ') : WP d 0 0 m pc L (v3 :: v2 :: v1 :: .ref o :: S) σ r σ' := wp_callV (As := [v1, v2, v3]) (mc' := 0) (ms' := 0) (mc := 0) (ms := 0) hd rfl hK hE hdd hcat kk
theorem wp_S3r {d d' m m' pc nx idx : Nat} {ps : Int} {L S : List Value} {σ σ1 σ' : Sto} {r : Option Value} {v1 v2 v3 : Value} {w : Value} (hd : ft m pc = some (.invokestatic idx, 3, nx, m', 3, 1, ps)) (ho : ow m = ow m') (hE : Ev d' 0 0 m' [v1, v2, v3] σ (some w) σ1) (hdd : d' + 1 ≤ d) (hcat : (S.map fun v => v.category).sum ≤ 8) (kk : WP d 0 0 m nx L (w :: S) σ1 r σ') : WP d 0 0 m pc L (v3 :: v2 :: v1 :: S) σ r σ' := wp_callS (As := [v1, v2, v3]) (mc' := 0) (ms' := 0) (mc := 0) (ms := 0) hd rfl ho hE hdd hcat kk
theorem wp_S3v {d d' m m' pc nx idx : Nat} {ps : Int} {L S : List Value} {σ σ1 σ' : Sto} {r : Option Value} {v1 v2 v3 : Value} (hd : ft m pc = some (.invokestatic idx, 3, nx, m', 3, 1, ps)) (ho : ow m = ow m') (hE : Ev d' 0 0 m' [v1, v2, v3] σ none σ1) (hdd : d' + 1 ≤ d) (hcat : (S.map fun v => v.category).sum ≤ 8) (kk : WP d 0 0 m nx L (S) σ1 r σ') : WP d 0 0 m pc L (v3 :: v2 :: v1 :: S) σ r σ' := wp_callS (As := [v1, v2, v3]) (mc' := 0) (ms' := 0) (mc := 0) (ms := 0) hd rfl ho hE hdd hcat kk
theorem wp_V4r {d d' m m' pc nx idx o : Nat} {ps : Int} {L S : List Value} {σ σ1 σ' : Sto} {r : Option Value} {v1 v2 v3 v4 : Value} {w : Value} (hd : ft m pc = some (.invokevirtual idx, 3, nx, m', 4, 0, ps)) (hK : σ.1[o]? = some (ow m')) (hE : Ev d' 0 0 m' [.ref o, v1, v2, v3, v4] σ (some w) σ1) (hdd : d' + 1 ≤ d) (hcat : (S.map fun v => v.category).sum ≤ 8) (kk : WP d 0 0 m nx L (w :: S) σ1 r σ') : WP d 0 0 m pc L (v4 :: v3 :: v2 :: v1 :: .ref o :: S) σ r σ' := wp_callV (As := [v1, v2, v3, v4]) (mc' := 0) (ms' := 0) (mc := 0) (ms := 0) hd rfl hK hE hdd hcat kk
theorem wp_V4v {d d' m m' pc nx idx o : Nat} {ps : Int} {L S : List Value} {σ σ1 σ' : Sto} {r : Option Value} {v1 v2 v3 v4 : Value} (hd : ft m pc = some (.invokevirtual idx, 3, nx, m', 4, 0, ps)) (hK : σ.1[o]? = some (ow m')) (hE : Ev d' 0 0 m' [.ref o, v1, v2, v3, v4] σ none σ1) (hdd : d' + 1 ≤ d) (hcat : (S.map fun v => v.category).sum ≤ 8) (kk : WP d 0 0 m nx L (S) σ1 r σ') : WP d 0 0 m pc L (v4 :: v3 :: v2 :: v1 :: .ref o :: S) σ r σ' := wp_callV (As := [v1, v2, v3, v4]) (mc' := 0) (ms' := 0) (mc := 0) (ms := 0) hd rfl hK hE hdd hcat kk
theorem WP.re {d m pc : Nat} {L L2 S S2 : List Value} {σ σ2 σ' : Sto} {r : Option Value} (hL : L = L2) (hS : S = S2) (hσ : σ = σ2) (k : WP d 0 0 m pc L2 S2 σ2 r σ') : WP d 0 0 m pc L S σ r σ' := by subst hL; subst hS; subst hσ; exact k
