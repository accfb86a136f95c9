section S40a

/-! a store that has grown by cells of the kinds ks -/
def ext (σ : Sto) (ks : List Nat) : Sto := (σ.1 ++ ks, σ.2.1, σ.2.2)
theorem ext_k {σ : Sto} {ks : List Nat} {o c : Nat} (h : σ.1[o]? = some c) : (ext σ ks).1[o]? = some c := by
  show (σ.1 ++ ks)[o]? = some c
  rw [List.getElem?_append_left (List.getElem?_eq_some_iff.mp h).1]
  exact h
theorem ext_base {σ : Sto} {o q : Nat} {fs : List Value} (h : σ.2.1 o = fs) : σ = put (ext σ []) o q fs [] := by
  have e : ext σ [] = σ := by unfold ext; rw [List.append_nil]
  rw [e]
  exact (put_self h (fun k l hk => by simp at hk)).symm
theorem WP.st {d mc ms m pc : Nat} {L S : List Value} {σ σ2 σ' : Sto} {r : Option Value} (h : σ = σ2) (k : WP d mc ms m pc L S σ2 r σ') : WP d mc ms m pc L S σ r σ' := by subst h; exact k
theorem arrI_0 (n : Nat) : List.replicate n (0 : Int32) = arrI n (fun _ => nI 0) := by
  rw [nI_0]
  unfold arrI
  rw [show (fun _ : Nat => (0 : Int32)) = Function.const Nat (0 : Int32) from rfl, List.map_const, List.length_range]
theorem newA_put {σ : Sto} {ks : List Nat} {o q n kd : Nat} {fs : List Value} {as : List (List Int32)} (hl : σ.1.length + ks.length = q + as.length) : newA (put (ext σ ks) o q fs as) kd n = put (ext σ (ks ++ [kd])) o q fs (as ++ [arrI n (fun _ => nI 0)]) := by
  unfold newA put ext
  refine Prod.ext (List.append_assoc _ _ _) (Prod.ext rfl ?_)
  funext i
  simp only [List.length_append, List.length_cons, List.length_nil, hl, arrI_0]
  by_cases h : i = q + as.length
  · subst h
    rw [if_pos rfl, if_pos ⟨by omega, by omega⟩, Nat.add_sub_cancel_left, List.getD_eq_getElem?_getD, List.getElem?_append_right (Nat.le_refl _), Nat.sub_self]
    rfl
  · rw [if_neg h]
    by_cases h2 : q ≤ i ∧ i < q + as.length
    · rw [if_pos h2, if_pos ⟨h2.1, by omega⟩, List.getD_eq_getElem?_getD, List.getD_eq_getElem?_getD, List.getElem?_append_left (by omega)]
    · rw [if_neg h2, if_neg (by omega)]
theorem wp_newIP {d mc ms m pc nx o q j n : Nat} {ks : List Nat} {L S fs : List Value} {as : List (List Int32)} {σ σ' : Sto} {r : Option Value} {X : Nat × Nat × Nat × Int} (hd : ft m pc = some (.newarray .int, 2, nx, X)) (hn : n < 1000) (hl : σ.1.length + ks.length = q + as.length) (hj : as.length = j) (kk : WP d mc ms m nx L (.ref (q + j) :: S) (put (ext σ (ks ++ [100])) o q fs (as ++ [arrI n (fun _ => nI 0)])) r σ') : WP d (mc + 1) (ms + n) m pc L (.int (nI n) :: S) (put (ext σ ks) o q fs as) r σ' := by
  refine wp_newI hd hn ?_
  rw [newA_put hl, show (put (ext σ ks) o q fs as).1.length = q + j by rw [← hj, ← hl]; exact List.length_append]
  exact kk
theorem wp_newZP {d mc ms m pc nx o q j n : Nat} {ks : List Nat} {L S fs : List Value} {as : List (List Int32)} {σ σ' : Sto} {r : Option Value} {X : Nat × Nat × Nat × Int} (hd : ft m pc = some (.newarray .boolean, 2, nx, X)) (hn : n < 1000) (hl : σ.1.length + ks.length = q + as.length) (hj : as.length = j) (kk : WP d mc ms m nx L (.ref (q + j) :: S) (put (ext σ (ks ++ [101])) o q fs (as ++ [arrI n (fun _ => nI 0)])) r σ') : WP d (mc + 1) (ms + n) m pc L (.int (nI n) :: S) (put (ext σ ks) o q fs as) r σ' := by
  refine wp_newZ hd hn ?_
  rw [newA_put hl, show (put (ext σ ks) o q fs as).1.length = q + j by rw [← hj, ← hl]; exact List.length_append]
  exact kk
theorem wp_putRP {d mc ms m pc nx idx cc k o q a : Nat} {ps : Int} {L S fs : List Value} {as : List (List Int32)} {σ σ' : Sto} {r : Option Value} (hd : ft m pc = some (.putfield idx, 3, nx, cc, k, 3, ps)) (hK : σ.1[o]? = some cc) (hi : (yy m).name = "<init>" ∧ RR cc = RR (ow m)) (kk : WP d mc ms m nx L S (put σ o q (fs.set k (.ref a)) as) r σ') : WP d mc ms m pc L (.ref a :: .ref o :: S) (put σ o q fs as) r σ' := wp_putR hd hK hi (by rw [setF_put]; exact kk)
theorem wp_mk {d d' mc ms mc' ms' m m' pc nx1 nx2 nx3 idx idx2 cc n s1 a3 kd : Nat} {ps ps2 : Int} {L S : List Value} {σ σ1 σ' : Sto} {r : Option Value} {X : Nat × Nat × Nat × Int} (hd1 : ft m pc = some (.new idx, 3, nx1, cc, s1, a3, ps)) (h9 : a3 ≠ 99) (hd2 : ft m nx1 = some (.dup, 1, nx2, X)) (hd3 : ft m nx2 = some (.invokespecial idx2, 3, nx3, m', 0, kd, ps2)) (hkd : kd = 2 ∨ kd = 3) (hn : σ.1.length = n) (h0 : 0 < n) (hE : Ev d' mc' ms' m' [.ref n] (newO σ cc) none σ1) (hdd : d' + 1 ≤ d) (hcat : ((Value.ref n :: S).map fun v => v.category).sum ≤ 8) (kk : WP d mc ms m nx3 L (.ref n :: S) σ1 r σ') : WP d (mc + mc' + 1) (ms + ms' + s1) m pc L S σ r σ' := by
  subst hn
  exact wp_new hd1 h9 (wp_dup hd2 rfl (wp_callI hd3 hkd h0 hE hdd hcat kk))
/-- what was there is there still -/
def Gn (σ σ' : Sto) (ks : List Nat) : Prop := σ'.1 = σ.1 ++ ks ∧ ∀ i, i < σ.1.length → σ'.2.1 i = σ.2.1 i ∧ σ'.2.2 i = σ.2.2 i
theorem Gn_put {σ σ1 : Sto} {ks k2 : List Nat} {n q : Nat} {fs : List Value} {as : List (List Int32)} (h : Gn σ σ1 ks) (hn : σ.1.length ≤ n) (hq : σ.1.length ≤ q) : Gn σ (put (ext σ1 k2) n q fs as) (ks ++ k2) := by
  obtain ⟨h1, h2⟩ := h
  refine ⟨?_, fun i hi => ⟨?_, ?_⟩⟩
  · show σ1.1 ++ k2 = _
    rw [h1, List.append_assoc]
  · rw [put_F_ne (by omega)]
    exact (h2 i hi).1
  · rw [put_A_ne (Or.inl (by omega))]
    exact (h2 i hi).2
theorem Gn_newO {σ : Sto} {c : Nat} : Gn σ (newO σ c) [c] := ⟨rfl, fun i hi => ⟨by simp [newO, Nat.ne_of_lt hi], rfl⟩⟩
theorem Gn_trans {σ σ1 σ2 : Sto} {k1 k2 : List Nat} (h1 : Gn σ σ1 k1) (h2 : Gn σ1 σ2 k2) : Gn σ σ2 (k1 ++ k2) := by
  refine ⟨by rw [h2.1, h1.1, List.append_assoc], fun i hi => ?_⟩
  have hl : i < σ1.1.length := by rw [h1.1, List.length_append]; omega
  exact ⟨(h2.2 i hl).1.trans (h1.2 i hi).1, (h2.2 i hl).2.trans (h1.2 i hi).2⟩
theorem newO_len {σ : Sto} {c n : Nat} (h : σ.1.length = n) : (newO σ c).1.length = n + 1 := by
  show (σ.1 ++ [c]).length = _
  rw [List.length_append, h]
  rfl
theorem newO_k {σ : Sto} {c n : Nat} (h : σ.1.length = n) : (newO σ c).1[n]? = some c := by
  show (σ.1 ++ [c])[n]? = _
  subst h
  simp
theorem newO_F {σ : Sto} {c n : Nat} (h : σ.1.length = n) : (newO σ c).2.1 n = dfl c := by
  subst h
  simp [newO]
theorem Gn_k {σ σ' : Sto} {ks : List Nat} {o c : Nat} (h : Gn σ σ' ks) (hk : σ.1[o]? = some c) : σ'.1[o]? = some c := by
  rw [h.1, List.getElem?_append_left (List.getElem?_eq_some_iff.mp hk).1]
  exact hk
theorem Hs_Gn {σ σ' : Sto} {ks : List Nat} {o q : Nat} {fs : List Value} {as : List (List Int32)} (h : Gn σ σ' ks) (hs : Hs σ o q fs as) (ho : o < σ.1.length) (hq : q + as.length ≤ σ.1.length) : Hs σ' o q fs as := by
  refine ⟨(h.2 o ho).1.trans hs.1, fun k l hk => ?_⟩
  have := (List.getElem?_eq_some_iff.mp hk).1
  exact (h.2 (q + k) (by omega)).2.trans (hs.2 k l hk)
theorem Hs_ext {σ : Sto} {ks : List Nat} {o q : Nat} {fs : List Value} {as : List (List Int32)} (hs : Hs σ o q fs as) : Hs (ext σ ks) o q fs as := hs
theorem dfl_0 : dfl 0 = [.null, .null, .null, .int 0, .int 0] := by decide +kernel
theorem dfl_1 : dfl 1 = [.null, .null, .null, .null, .int 0, .int 0, .int 0] := by decide +kernel
theorem dfl_2 : dfl 2 = [.null, .int 0] := by decide +kernel
theorem dfl_3 : dfl 3 = [.null, .null, .null, .null, .int 0] := by decide +kernel
theorem dfl_4 : dfl 4 = [.int 0, .int 0, .int 0, .int 0, .int 0, .null, .null, .null, .null, .null, .null, .null, .null] := by decide +kernel
theorem dfl_5 : dfl 5 = [.null, .null, .null, .null, .int 0, .int 0, .int 0] := by decide +kernel
theorem dfl_6 : dfl 6 = [.null, .null, .null, .null, .null, .null, .null, .int 0, .int 0, .int 0, .int 0] := by decide +kernel
theorem dfl_7 : dfl 7 = [.null, .int 0, .int 0, .int 0, .int 0, .int 0, .int 0, .int 0, .int 0, .null, .null, .int 0, .null, .null, .null, .null, .null, .null, .int 0, .int 0, .int 0, .int 0, .int 0, .null, .null, .int 0, .null, .null, .int 0, .null, .int 0, .int 0, .int 0, .int 0, .null, .null, .null, .null, .null, .long 0] := by decide +kernel

end S40a
