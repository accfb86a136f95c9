
section MEM
variable {p : Program} {l : Launch} {e : Env} {R : Room} {s : State} {m : MethodId} {args : Array Value} {below : List Frame} {meth : Method} {c : Code} {H : Heap} {locs : List Loc} {cells slots : Nat} {Q : State → Prop}
variable {cc : ByteArray} {pc : Nat} {ls : Array Slot} {rest : List Value} {D : va_G} {cl : List vw_C} {A : Nat → Prop} {a : Nat} {tys : List (ClassId × FieldType)} {ws : va_W} {H0 : Heap}
theorem my_put (hexec : p.tables.exec = Jvm.exec) (hb : c.code = cc) {own ref C : String} {T : u_T} {N ci index : Nat} {Ts : List Cond} (hts : ∀ w ∈ Ts, w.before args s = true) (hin : ∀ w ∈ u_ws C T N, w ∈ Ts) (ty0 : Nat → FieldType) (hty : ∀ k, k < N → parseFieldDescriptor (T k).2.2.1 = some (ty0 k)) (hnm : ∀ a, a < N → ∀ b, b < N → a ≠ b → (T a).2.1 ≠ (T b).2.1) (hown : s.vm.findClass own = some m.cls) (hK : va_K D cl tys s) (hP : va_P D cl ws H) (hD : va_D A ws) (hS0 : va_S A H0 H locs) (q0 : Nat) {fs : List Value} (he : ws[q0]? = some (a, .inr (ci, fs))) (hc : cl[ci]? = some (C, T, N)) (k : Nat) (hk : k < N) (hlink : (Cond.fieldLink own index ref (T k).2.1 (T k).2.2.1).before args s = true) (hsame : ∀ x, s.fieldFound? (T k).1 (T k).2.1 (T k).2.2.1 = some x → s.fieldFound? ref (T k).2.1 (T k).2.2.1 = some x) (hfin : (T k).2.2.2 = false) {ty : FieldType} {v : Value} (hd : parseFieldDescriptor (T k).2.2.1 = some ty) (hn : narrow ty v = v) (hfit : fits ty v = true) (hl : k < fs.length)
    (hdg : decode cc pc = .ok (.putfield index, 3)) (kk : ∀ (H1 : Heap) (locs1 : List Loc), va_P D cl (ws.set q0 (a, .inr (ci, fs.set k v))) H1 → H1.size = H.size → va_S A H0 H1 locs1 → W p l e R s m args below meth c H1 locs1 cells slots Q (F0 m (pc + 3) ls rest)) : W p l e R s m args below meth c H locs cells slots Q (F0 m pc ls (v :: .ref a :: rest)) := by
  have hap := va_apart (own := own) hts hin ty0 hty hnm hK hc
  obtain ⟨r, h1, cell, q1, q2, q3, q4⟩ := hP q0 _ he
  have hr : r = (C, T, N) := Option.some.inj (h1.symm.trans hc)
  subst hr
  obtain ⟨hS, hfc, kC, hkC, hkind⟩ := hK.1 ci _ hc
  obtain ⟨cf, kf, fi, f, hi, hsl⟩ := hS k hk
  have hlay := hts _ (hin _ (u_in_lay hk))
  unfold u_lay at hlay
  rw [if_neg (by rw [hfin]; decide)] at hlay
  have hst := (u_facts hfc hkC (u_lays hts hin hk) hi).1
  have h6 := u_store hfc hkC hkind hlay hi hd hn hfit
  refine W.putK hexec hb (f := f) ⟨hown, hlink, ⟨_, _, _, hsame _ hi⟩, hst⟩ (by rw [q2]; exact h6) q1 q3 (by rw [hsl]; exact k2_hasslot (q4 k hk)) rfl rfl hdg fun H' e1 e2 e3 => ?_
  rw [hsl] at e1 ⊢
  exact kk H' _ (hP.set hD he ⟨_, hc, t_OB.to (V := updV (vp_V fs) k v) ⟨_, e1, q2, q3, t_set q4 hap hk v⟩ (fun j _ => vp_updV_set hl v j)⟩ e3) e2 (hS0.put e2 e3 (hD.2 q0 _ he))
theorem my_putF (hexec : p.tables.exec = Jvm.exec) (hb : c.code = cc) {own ref C : String} {T : u_T} {N ci index : Nat} {Ts : List Cond} (hts : ∀ w ∈ Ts, w.before args s = true) (hin : ∀ w ∈ u_ws C T N, w ∈ Ts) (ty0 : Nat → FieldType) (hty : ∀ k, k < N → parseFieldDescriptor (T k).2.2.1 = some (ty0 k)) (hnm : ∀ a, a < N → ∀ b, b < N → a ≠ b → (T a).2.1 ≠ (T b).2.1) (hown : s.vm.findClass own = some m.cls) (hK : va_K D cl tys s) (hP : va_P D cl ws H) (hD : va_D A ws) (hS0 : va_S A H0 H locs) (q0 : Nat) {fs : List Value} (he : ws[q0]? = some (a, .inr (ci, fs))) (hc : cl[ci]? = some (C, T, N)) (k : Nat) (hk : k < N) (hlink : (Cond.fieldLink own index ref (T k).2.1 (T k).2.2.1).before args s = true) (hsame : ∀ x, s.fieldFound? (T k).1 (T k).2.1 (T k).2.2.1 = some x → s.fieldFound? ref (T k).2.1 (T k).2.2.1 = some x) (hfin : (T k).2.2.2 = true) (hin2 : meth.name = "<init>") (hdecl : (T k).1 = own) {ty : FieldType} {v : Value} (hd : parseFieldDescriptor (T k).2.2.1 = some ty) (hn : narrow ty v = v) (hfit : fits ty v = true) (hl : k < fs.length)
    (hdg : decode cc pc = .ok (.putfield index, 3)) (kk : ∀ (H1 : Heap) (locs1 : List Loc), va_P D cl (ws.set q0 (a, .inr (ci, fs.set k v))) H1 → H1.size = H.size → va_S A H0 H1 locs1 → W p l e R s m args below meth c H1 locs1 cells slots Q (F0 m (pc + 3) ls rest)) : W p l e R s m args below meth c H locs cells slots Q (F0 m pc ls (v :: .ref a :: rest)) := by
  have hap := va_apart (own := own) hts hin ty0 hty hnm hK hc
  obtain ⟨r, h1, cell, q1, q2, q3, q4⟩ := hP q0 _ he
  have hr : r = (C, T, N) := Option.some.inj (h1.symm.trans hc)
  subst hr
  obtain ⟨hS, hfc, kC, hkC, hkind⟩ := hK.1 ci _ hc
  obtain ⟨cf, kf, fi, f, hi, hsl⟩ := hS k hk
  have hlay := hts _ (hin _ (u_in_lay hk))
  unfold u_lay at hlay
  rw [if_pos hfin] at hlay
  have hst := (u_facts hfc hkC (u_lays hts hin hk) hi).1
  have hcf : m.cls = cf := by
    obtain ⟨_, _, c', _, _, _, -, -, hf', -, -, -, hown2, -⟩ := Cond.laysFinal_spec hlay
    have e1 : c' = cf := by have := hi.symm.trans hf'; simp at this; exact this.1.symm
    rw [hdecl] at hown2
    rw [← e1]; exact Option.some.inj (hown.symm.trans hown2)
  have h6 := u_fits hfc hkC hkind (Or.inr hlay) hi hd hn hfit
  refine W.putFinK hexec hb hown hlink (hsame _ hi) hst hcf hin2 (by rw [q2]; exact h6) q1 q3 (by rw [hsl]; exact k2_hasslot (q4 k hk)) rfl rfl hdg fun H' e1 e2 e3 => ?_
  rw [hsl] at e1 ⊢
  exact kk H' _ (hP.set hD he ⟨_, hc, t_OB.to (V := updV (vp_V fs) k v) ⟨_, e1, q2, q3, t_set q4 hap hk v⟩ (fun j _ => vp_updV_set hl v j)⟩ e3) e2 (hS0.put e2 e3 (hD.2 q0 _ he))
theorem my_iast (hexec : p.tables.exec = Jvm.exec) (hb : c.code = cc) (hK : va_K D cl tys s) (hP : va_P D cl ws H) (hD : va_D A ws) (hS : va_S A H0 H locs) (q0 t0 : Nat) {cA : ClassId} {n : Nat} {f : Nat → Int32} (ha : ws[q0]? = some (a, .inl (cA, n, .inl f))) (ht : tys[t0]? = some (cA, .int)) {i : Int32} {x : Int32} (hin : vp_in i n) (hdg : decode cc pc = .ok (.iastore, 1))
    (kk : ∀ (H1 : Heap) (locs1 : List Loc), va_P D cl (ws.set q0 (a, .inl (cA, n, .inl (upd f i.toNatClampNeg x)))) H1 → H1.size = H.size → va_S A H0 H1 locs1 → W p l e R s m args below meth c H1 locs1 cells slots Q (F0 m (pc + 1) ls rest)) : W p l e R s m args below meth c H locs cells slots Q (F0 m pc ls (.int x :: .int i :: .ref a :: rest)) := by
  refine W.iast hexec hb (hP q0 _ ha) ((hK.2 t0 _ ht).1 n (fun j => .int (f j))) (fun q => by cases q) (by show ¬ (i < 0 ∨ (arrV _ _ _).slots.size ≤ _); rw [arrV_size]; exact hin) rfl rfl hdg fun H1 e z oq => ?_
  refine kk H1 _ (hP.set hD ha ?_ oq) z (hS.put z oq (hD.2 q0 _ ha))
  show H1[a]? = some (vp_cell _ _)
  rw [e]
  rw [vp_cell_i, vp_cell_i, arrV_store]
  congr 2
  funext q
  by_cases hq : q = i.toNatClampNeg
  · subst hq
    simp [updV, upd]
  · simp [updV, upd, hq]
theorem my_zast (hexec : p.tables.exec = Jvm.exec) (hb : c.code = cc) (hK : va_K D cl tys s) (hP : va_P D cl ws H) (hD : va_D A ws) (hS : va_S A H0 H locs) (q0 t0 : Nat) {cA : ClassId} {n : Nat} {f : Nat → Int32} (ha : ws[q0]? = some (a, .inl (cA, n, .inl f))) (ht : tys[t0]? = some (cA, .boolean)) {i : Int32} {x : Int32} (hx01 : x = 0 ∨ x = 1) (hin : vp_in i n) (hdg : decode cc pc = .ok (.bastore, 1))
    (kk : ∀ (H1 : Heap) (locs1 : List Loc), va_P D cl (ws.set q0 (a, .inl (cA, n, .inl (upd f i.toNatClampNeg x)))) H1 → H1.size = H.size → va_S A H0 H1 locs1 → W p l e R s m args below meth c H1 locs1 cells slots Q (F0 m (pc + 1) ls rest)) : W p l e R s m args below meth c H locs cells slots Q (F0 m pc ls (.int x :: .int i :: .ref a :: rest)) := by
  refine W.zast hexec hb (hP q0 _ ha) ((hK.2 t0 _ ht).1 n (fun j => .int (f j))) (fun q => by cases q) (by show ¬ (i < 0 ∨ (arrV _ _ _).slots.size ≤ _); rw [arrV_size]; exact hin) rfl rfl hdg fun H1 e z oq => ?_
  refine kk H1 _ (hP.set hD ha ?_ oq) z (hS.put z oq (hD.2 q0 _ ha))
  show H1[a]? = some (vp_cell _ _)
  rw [e]
  rw [vp_cell_i, vp_cell_i, arrV_store]
  congr 2
  funext q
  by_cases hq : q = i.toNatClampNeg
  · subst hq
    rcases hx01 with rfl | rfl <;> simp [updV, upd] <;> rfl
  · simp [updV, upd, hq]
theorem call_go {b B : Nat} {cI cZ : ClassId} {scr : Cell} {mc1 ms1 : Nat} {r1 : Option Value} {σ1 : Sto} {st0 : List Value} {av : Array Value} (hr : va_Run p l e R s m args below meth c H locs cells slots mc1 ms1 (F0 m pc ls st0) rest (Qm b B D cI cZ scr r1 σ1 av) (fun q => B ≤ q)) (hS : va_S (fun q => B ≤ q) s.heap H locs)
    (kk : ∀ (H1 : Heap) (locs1 : List Loc), HI b B D cI cZ scr σ1 H1 → va_S (fun q => B ≤ q) s.heap H1 locs1 → W p l e R s m args below meth c H1 locs1 (cells + mc1) (slots + ms1) Q (F0 m (pc + 3) ls ((r1.map (cv b B)).toList ++ rest))) : W p l e R s m args below meth c H locs cells slots Q (F0 m pc ls st0) := by
  intro T hT X
  obtain ⟨v, st₀, t, T', L, h0, X', hL, e1, e2, ⟨hv, hH1, hz, hk⟩, st⟩ := hr T hT X
  cases hv
  rw [h0] at hz hk
  obtain ⟨t2, a1, b1⟩ := kk T'.heap (locs ++ L) (by rw [e1]; exact hH1) ⟨Nat.le_trans hS.1 (by rw [e1]; exact hz), fun q h1 h2 => by rw [e1, hk q (Nat.lt_of_lt_of_le h1 hS.1) h2]; exact hS.2.1 q h1 h2, fun q hq => by
      rcases List.mem_append.mp hq with h | h
      · exact hS.2.2 q h
      · exact hL q h⟩ T' rfl X'
  exact ⟨t2, st t2 a1, b1⟩
end MEM
theorem HI.up {b B : Nat} {D : va_G} {cI cZ : ClassId} {scr : Cell} {σ σ' : Sto} {H H1 : Heap} {s : State} {locs locs1 : List Loc} (h : HI b B D cI cZ scr σ H) (hbB : b < B) (hBs : B ≤ s.heap.size) (h1 : σ'.1 = σ.1) (hF : ∀ i, (σ'.2.1 i).length = (σ.2.1 i).length) (h0 : σ'.2.2 0 = σ.2.2 0) (hP : va_P D clss (wsT b B cI cZ σ') H1) (hz : H1.size = H.size) (hS : va_S (fun q => B ≤ q) s.heap H locs) (hS1 : va_S (fun q => B ≤ q) s.heap H1 locs1) : HI b B D cI cZ scr σ' H1 := by
  obtain ⟨a1, a2, a3, a4, a5, a6⟩ := h
  refine ⟨by rw [hz, h1]; exact a1, ?_, hP, by rw [h1]; exact a4, by rw [h0]; exact a5, fun i k hk h8 => ?_⟩
  · rw [hS1.2.1 b (by omega) (by show ¬ B ≤ b; omega), ← hS.2.1 b (by omega) (by show ¬ B ≤ b; omega)]
    exact a2
  · rw [hF]
    rw [h1] at hk
    exact a6 i k hk h8
def setF (σ : Sto) (o k : Nat) (v : Value) : Sto := (σ.1, fun i => if i = o then (σ.2.1 o).set k v else σ.2.1 i, σ.2.2)
def setA (σ : Sto) (a : Nat) (l : List Int32) : Sto := (σ.1, σ.2.1, fun i => if i = a then l else σ.2.2 i)
def refT (t : FieldType) : Bool := match t with
  | .object _ => true
  | .array _ => true
  | _ => false
theorem f_ref : ∀ e ∈ ftb, e.2.2.2.2.1 = 3 → refT (TY e.2.2.1 e.2.2.2.1) = true := by decide +kernel

theorem wp_get {d mc ms m pc nx idx cc k tg o : Nat} {ps : Int} {L S fs : List Value} {σ σ' : Sto} {r : Option Value} {v : Value} (hd : ft m pc = some (.getfield idx, 3, nx, cc, k, tg, ps)) (h9 : tg < 4) (hK : σ.1[o]? = some cc) (hF : σ.2.1 o = fs) (hv : fs[k]? = some v) (kk : WP d mc ms m nx L (v :: S) σ r σ') : WP d mc ms m pc L (.ref o :: S) σ r σ' := by
  intro p l e R s mi args below meth c b B D cI cZ scr Z C hZ H locs ls cells slots hH hS hL hc hs
  obtain ⟨hdec, rfl, hrs⟩ := ft_dec hd
  obtain ⟨h8, hkN, hown, -, hlk⟩ : cc < 8 ∧ k < NN cc ∧ (TT cc k).1 = RR cc ∧ tagOf (TY cc k) = tg ∧ lw_tbl[ps.toNat]? = some (.fieldLink (RR (ow m)) idx (RR cc) (TT cc k).2.1 (TT cc k).2.2.1) := f_all _ (look_in hrs (by omega))
  obtain ⟨i, rfl⟩ := hH.pos hK (by omega)
  exact va_get (D := D) (cl := clss) (ws := wsT b B cI cZ σ) (ci := cc) (v := cv b B v) (C := RR cc) (T := TT cc) (N := NN cc) (own := RR (ow m)) (ref := RR cc) C.1 C.2.1 C.2.2.2.2.1 (tw_gt cc h8) C.2.2.2.1 C.2.2.2.2.2.1 hH.2.2.1 i (ws_obj hK h8) (cl_all cc h8) k hkN (C.2.2.2.2.1 _ (gt_at hlk rfl)) (fun x h => by rw [hown] at h; exact h) (by rw [List.getElem?_map, hF, hv]; rfl) hdec (kk p l e R s mi args below meth c b B D cI cZ scr Z C hZ H locs ls cells slots hH hS hL hc hs)
theorem wp_put {d mc ms m pc nx idx cc k tg o : Nat} {ps : Int} {L S : List Value} {σ σ' : Sto} {r : Option Value} {v : Value} (hd : ft m pc = some (.putfield idx, 3, nx, cc, k, tg, ps)) (h9 : tg < 4) (hK : σ.1[o]? = some cc) (hv : ∀ b B, narrow (TY cc k) (cv b B v) = cv b B v ∧ fits (TY cc k) (cv b B v) = true) (hi : tg = 3 → (yy m).name = "<init>" ∧ RR cc = RR (ow m)) (kk : WP d mc ms m nx L S (setF σ o k v) r σ') : WP d mc ms m pc L (v :: .ref o :: S) σ r σ' := by
  intro p l e R s mi args below meth c b B D cI cZ scr Z C hZ H locs ls cells slots hH hS hL hc hs
  obtain ⟨hdec, rfl, hrs⟩ := ft_dec hd
  have hmem := look_in (tb := ftb) hrs (by omega)
  obtain ⟨h8, hkN, hown, -, hlk⟩ : cc < 8 ∧ k < NN cc ∧ (TT cc k).1 = RR cc ∧ tagOf (TY cc k) = tg ∧ lw_tbl[ps.toNat]? = some (.fieldLink (RR (ow m)) idx (RR cc) (TT cc k).2.1 (TT cc k).2.2.1) := f_all _ hmem
  have hfin : (TT cc k).2.2.2 = (tg == 3) := f_fin _ hmem
  obtain ⟨i, rfl⟩ := hH.pos hK (by omega)
  have hlen : (σ.2.1 (i + 1)).length = NN cc := hH.2.2.2.2.2 _ _ hK h8
  have hgo : ∀ (H1 : Heap) (locs1 : List Loc), va_P D clss ((wsT b B cI cZ σ).set i (B + i, .inr (cc, ((σ.2.1 (i + 1)).map (cv b B)).set k (cv b B v)))) H1 → H1.size = H.size → va_S (fun q => B ≤ q) s.heap H1 locs1 → W p l e R s mi args below meth c H1 locs1 cells slots Z (F0 mi (pc + 3) ls (S.map (cv b B))) := by
    intro H1 locs1 hP1 hz hS1
    rw [ws_up (b := b) (B := B) (cI := cI) (cZ := cZ) (σ := σ) (σ' := setF σ (i + 1) k v) rfl (fun j hj => ⟨by simp [setF, hj], rfl⟩) (by simp [ent, setF, List.getD, hK, h8, List.map_set])] at hP1
    refine kk p l e R s mi args below meth c b B D cI cZ scr Z C hZ H1 locs1 ls cells slots (hH.up C.2.2.2.2.2.2.1 C.2.2.2.2.2.2.2.1 rfl (fun j => ?_) rfl hP1 hz hS hS1) hS1 hL hc hs
    show (if j = i + 1 then (σ.2.1 (i + 1)).set k v else σ.2.1 j).length = _
    split
    · next h => rw [List.length_set, h]
    · rfl
  by_cases h3 : tg = 3
  · exact my_putF (D := D) (cl := clss) (ws := wsT b B cI cZ σ) (ci := cc) (v := cv b B v) (ty := TY cc k) (C := RR cc) (T := TT cc) (N := NN cc) (own := RR (ow m)) (ref := RR cc) C.1 C.2.1 C.2.2.2.2.1 (tw_gt cc h8) (TY cc) (ty_all cc h8) (nm_all cc h8) C.2.2.2.1 C.2.2.2.2.2.1 hH.2.2.1 (ws_D b B cI cZ σ) hS i (ws_obj hK h8) (cl_all cc h8) k hkN (C.2.2.2.2.1 _ (gt_at hlk rfl)) (fun x h => by rw [hown] at h; exact h) (by rw [hfin, h3]; rfl) (C.2.2.2.2.2.2.2.2.2.2.1 (hi h3).1) (hown.trans (hi h3).2) (ty_all cc h8 k hkN) (hv b B).1 (hv b B).2 (by rw [List.length_map, hlen]; exact hkN) hdec hgo
  · exact my_put (D := D) (cl := clss) (ws := wsT b B cI cZ σ) (ci := cc) (v := cv b B v) (ty := TY cc k) (C := RR cc) (T := TT cc) (N := NN cc) (own := RR (ow m)) (ref := RR cc) C.1 C.2.1 C.2.2.2.2.1 (tw_gt cc h8) (TY cc) (ty_all cc h8) (nm_all cc h8) C.2.2.2.1 C.2.2.2.2.2.1 hH.2.2.1 (ws_D b B cI cZ σ) hS i (ws_obj hK h8) (cl_all cc h8) k hkN (C.2.2.2.2.1 _ (gt_at hlk rfl)) (fun x h => by rw [hown] at h; exact h) (by rw [hfin]; simp [h3]) (ty_all cc h8 k hkN) (hv b B).1 (hv b B).2 (by rw [List.length_map, hlen]; exact hkN) hdec hgo
theorem tag0 {t : FieldType} (h : tagOf t = 0) : t = .int := by cases t <;> first | rfl | (simp [tagOf] at h)
theorem tag1 {t : FieldType} (h : tagOf t = 1) : t = .boolean := by cases t <;> first | rfl | (simp [tagOf] at h)
theorem tag2 {t : FieldType} (h : tagOf t = 2) : t = .long := by cases t <;> first | rfl | (simp [tagOf] at h)
theorem f_tag {m pc nx idx cc k tg len : Nat} {ps : Int} (hd : ft m pc = some (.putfield idx, len, nx, cc, k, tg, ps)) (h9 : tg < 4) : tagOf (TY cc k) = tg ∧ (tg = 3 → refT (TY cc k) = true) := by
  obtain ⟨-, -, hrs⟩ := ft_dec hd
  have hmem := look_in (tb := ftb) hrs (by omega)
  exact ⟨(f_all _ hmem).2.2.2.1, f_ref _ hmem⟩
theorem wp_putI {d mc ms m pc nx idx cc k o : Nat} {ps : Int} {L S : List Value} {σ σ' : Sto} {r : Option Value} {x : Int32} (hd : ft m pc = some (.putfield idx, 3, nx, cc, k, 0, ps)) (hK : σ.1[o]? = some cc) (kk : WP d mc ms m nx L S (setF σ o k (.int x)) r σ') : WP d mc ms m pc L (.int x :: .ref o :: S) σ r σ' :=
  wp_put hd (by decide) hK (fun b B => by rw [tag0 (f_tag hd (by decide)).1]; exact ⟨rfl, rfl⟩) (fun h => by cases h) kk
theorem wp_putZ {d mc ms m pc nx idx cc k o : Nat} {ps : Int} {L S : List Value} {σ σ' : Sto} {r : Option Value} {x : Int32} (hd : ft m pc = some (.putfield idx, 3, nx, cc, k, 1, ps)) (hK : σ.1[o]? = some cc) (h01 : x = 0 ∨ x = 1) (kk : WP d mc ms m nx L S (setF σ o k (.int x)) r σ') : WP d mc ms m pc L (.int x :: .ref o :: S) σ r σ' :=
  wp_put hd (by decide) hK (fun b B => by rw [tag1 (f_tag hd (by decide)).1]; rcases h01 with rfl | rfl <;> exact ⟨rfl, rfl⟩) (fun h => by cases h) kk
theorem wp_putL {d mc ms m pc nx idx cc k o : Nat} {ps : Int} {L S : List Value} {σ σ' : Sto} {r : Option Value} {x : Int64} (hd : ft m pc = some (.putfield idx, 3, nx, cc, k, 2, ps)) (hK : σ.1[o]? = some cc) (kk : WP d mc ms m nx L S (setF σ o k (.long x)) r σ') : WP d mc ms m pc L (.long x :: .ref o :: S) σ r σ' :=
  wp_put hd (by decide) hK (fun b B => by rw [tag2 (f_tag hd (by decide)).1]; exact ⟨rfl, rfl⟩) (fun h => by cases h) kk
theorem wp_putR {d mc ms m pc nx idx cc k o a : Nat} {ps : Int} {L S : List Value} {σ σ' : Sto} {r : Option Value} (hd : ft m pc = some (.putfield idx, 3, nx, cc, k, 3, ps)) (hK : σ.1[o]? = some cc) (hi : (yy m).name = "<init>" ∧ RR cc = RR (ow m)) (kk : WP d mc ms m nx L S (setF σ o k (.ref a)) r σ') : WP d mc ms m pc L (.ref a :: .ref o :: S) σ r σ' :=
  wp_put hd (by decide) hK (fun b B => by
    have h := (f_tag hd (by decide)).2 rfl
    revert h
    cases TY cc k <;> intro h <;> first | exact ⟨rfl, rfl⟩ | (simp [refT] at h)) (fun _ => hi) kk
theorem getD_up {l : List Int32} {j : Nat} {x : Int32} (hj : j < l.length) : (fun q => (l.set j x).getD q 0) = upd (fun q => l.getD q 0) j x := by
  funext q
  by_cases hq : q = j
  · subst hq
    simp [upd, List.getD, hj]
  · simp [upd, List.getD, hq, List.getElem?_set_ne (Ne.symm hq)]
theorem wp_iald {d mc ms m pc nx : Nat} {L S : List Value} {σ σ' : Sto} {r : Option Value} {X : Nat × Nat × Nat × Int} {a j : Nat} (hd : ft m pc = some (.iaload, 1, nx, X)) (hK : σ.1[a]? = some 100) (hj : j < (σ.2.2 a).length) (hl : (σ.2.2 a).length < 2 ^ 31) (kk : WP d mc ms m nx L (.int ((σ.2.2 a).getD j 0) :: S) σ r σ') : WP d mc ms m pc L (.int (nI j) :: .ref a :: S) σ r σ' := by
  intro p l e R s mi args below meth c b B D cI cZ scr Z C hZ H locs ls cells slots hH hS hL hc hs
  obtain ⟨hdec, rfl, -⟩ := ft_dec hd
  obtain ⟨i, rfl⟩ := hH.pos hK (by decide)
  refine va_iald (D := D) (cl := clss) (ws := wsT b B cI cZ σ) C.1 C.2.1 C.2.2.2.2.2.1 hH.2.2.1 i 0 (ws_arr hK) rfl (vp_in_nI hj hl) hdec ?_
  rw [nI_clamp (by omega)]
  exact kk p l e R s mi args below meth c b B D cI cZ scr Z C hZ H locs ls cells slots hH hS hL hc hs
theorem wp_zald {d mc ms m pc nx : Nat} {L S : List Value} {σ σ' : Sto} {r : Option Value} {X : Nat × Nat × Nat × Int} {a j : Nat} (hd : ft m pc = some (.baload, 1, nx, X)) (hK : σ.1[a]? = some 101) (hj : j < (σ.2.2 a).length) (hl : (σ.2.2 a).length < 2 ^ 31) (kk : WP d mc ms m nx L (.int ((σ.2.2 a).getD j 0) :: S) σ r σ') : WP d mc ms m pc L (.int (nI j) :: .ref a :: S) σ r σ' := by
  intro p l e R s mi args below meth c b B D cI cZ scr Z C hZ H locs ls cells slots hH hS hL hc hs
  obtain ⟨hdec, rfl, -⟩ := ft_dec hd
  obtain ⟨i, rfl⟩ := hH.pos hK (by decide)
  refine va_zald (D := D) (cl := clss) (ws := wsT b B cI cZ σ) C.1 C.2.1 C.2.2.2.2.2.1 hH.2.2.1 i 1 (ws_arz hK) rfl (vp_in_nI hj hl) hdec ?_
  rw [nI_clamp (by omega)]
  exact kk p l e R s mi args below meth c b B D cI cZ scr Z C hZ H locs ls cells slots hH hS hL hc hs
theorem wp_sald {d mc ms m pc nx : Nat} {L S : List Value} {σ σ' : Sto} {r : Option Value} {X : Nat × Nat × Nat × Int} {j : Nat} (hd : ft m pc = some (.iaload, 1, nx, X)) (hj : j < (σ.2.2 0).length) (hl : (σ.2.2 0).length < 2 ^ 31) (kk : WP d mc ms m nx L (.int ((σ.2.2 0).getD j 0) :: S) σ r σ') : WP d mc ms m pc L (.int (nI j) :: .ref 0 :: S) σ r σ' := by
  intro p l e R s mi args below meth c b B D cI cZ scr Z C hZ H locs ls cells slots hH hS hL hc hs
  obtain ⟨hdec, rfl, -⟩ := ft_dec hd
  have hsc := hH.2.2.2.2.1
  refine W.iald (v := .int ((σ.2.2 0).getD j 0)) C.1 C.2.1 (a := b) hH.2.1 C.2.2.2.2.2.2.2.2.1.1 C.2.2.2.2.2.2.2.2.1.2 (by rw [hsc.1]; exact vp_in_nI hj hl) (by rw [nI_clamp (by omega)]; exact hsc.2 j hj) rfl rfl hdec ?_
  exact kk p l e R s mi args below meth c b B D cI cZ scr Z C hZ H locs ls cells slots hH hS hL hc hs
theorem wp_slen {d mc ms m pc nx : Nat} {L S : List Value} {σ σ' : Sto} {r : Option Value} {X : Nat × Nat × Nat × Int} (hd : ft m pc = some (.arraylength, 1, nx, X)) (kk : WP d mc ms m nx L (.int (nI (σ.2.2 0).length) :: S) σ r σ') : WP d mc ms m pc L (.ref 0 :: S) σ r σ' := by
  intro p l e R s mi args below meth c b B D cI cZ scr Z C hZ H locs ls cells slots hH hS hL hc hs
  obtain ⟨hdec, rfl, -⟩ := ft_dec hd
  have hsc := hH.2.2.2.2.1
  exact W.alen (n := nI (σ.2.2 0).length) C.1 C.2.1 (a := b) hH.2.1 C.2.2.2.2.2.2.2.2.1.1 (by rw [hsc.1]; rfl) rfl rfl hdec (kk p l e R s mi args below meth c b B D cI cZ scr Z C hZ H locs ls cells slots hH hS hL hc hs)
theorem wp_alen {d mc ms m pc nx : Nat} {L S : List Value} {σ σ' : Sto} {r : Option Value} {X : Nat × Nat × Nat × Int} {a : Nat} (hd : ft m pc = some (.arraylength, 1, nx, X)) (hK : σ.1[a]? = some 100) (kk : WP d mc ms m nx L (.int (nI (σ.2.2 a).length) :: S) σ r σ') : WP d mc ms m pc L (.ref a :: S) σ r σ' := by
  intro p l e R s mi args below meth c b B D cI cZ scr Z C hZ H locs ls cells slots hH hS hL hc hs
  obtain ⟨hdec, rfl, -⟩ := ft_dec hd
  obtain ⟨i, rfl⟩ := hH.pos hK (by decide)
  exact va_alen (D := D) (cl := clss) (ws := wsT b B cI cZ σ) C.1 C.2.1 C.2.2.2.2.2.1 hH.2.2.1 i 0 (ws_arr hK) rfl (v := nI (σ.2.2 (i + 1)).length) rfl hdec (kk p l e R s mi args below meth c b B D cI cZ scr Z C hZ H locs ls cells slots hH hS hL hc hs)
theorem wp_iast {d mc ms m pc nx : Nat} {L S : List Value} {σ σ' : Sto} {r : Option Value} {X : Nat × Nat × Nat × Int} {a j : Nat} {x : Int32} (hd : ft m pc = some (.iastore, 1, nx, X)) (hK : σ.1[a]? = some 100) (hj : j < (σ.2.2 a).length) (hl : (σ.2.2 a).length < 2 ^ 31) (kk : WP d mc ms m nx L S (setA σ a ((σ.2.2 a).set j x)) r σ') : WP d mc ms m pc L (.int x :: .int (nI j) :: .ref a :: S) σ r σ' := by
  intro p l e R s mi args below meth c b B D cI cZ scr Z C hZ H locs ls cells slots hH hS hL hc hs
  obtain ⟨hdec, rfl, -⟩ := ft_dec hd
  obtain ⟨i, rfl⟩ := hH.pos hK (by decide)
  refine my_iast (D := D) (cl := clss) (ws := wsT b B cI cZ σ) C.1 C.2.1 C.2.2.2.2.2.1 hH.2.2.1 (ws_D b B cI cZ σ) hS i 0 (ws_arr hK) rfl (vp_in_nI hj hl) hdec (fun H1 locs1 hP1 hz hS1 => ?_)
  rw [nI_clamp (by omega), ← getD_up hj] at hP1
  rw [ws_up (b := b) (B := B) (cI := cI) (cZ := cZ) (σ := σ) (σ' := setA σ (i + 1) ((σ.2.2 (i + 1)).set j x)) rfl (fun j hj => ⟨rfl, by simp [setA, hj]⟩) (by simp [ent, setA, hK])] at hP1
  exact kk p l e R s mi args below meth c b B D cI cZ scr Z C hZ H1 locs1 ls cells slots (hH.up C.2.2.2.2.2.2.1 C.2.2.2.2.2.2.2.1 rfl (fun j => rfl) (by simp [setA]) hP1 hz hS hS1) hS1 hL hc hs
theorem wp_zast {d mc ms m pc nx : Nat} {L S : List Value} {σ σ' : Sto} {r : Option Value} {X : Nat × Nat × Nat × Int} {a j : Nat} {x : Int32} (hd : ft m pc = some (.bastore, 1, nx, X)) (hK : σ.1[a]? = some 101) (h01 : x = 0 ∨ x = 1) (hj : j < (σ.2.2 a).length) (hl : (σ.2.2 a).length < 2 ^ 31) (kk : WP d mc ms m nx L S (setA σ a ((σ.2.2 a).set j x)) r σ') : WP d mc ms m pc L (.int x :: .int (nI j) :: .ref a :: S) σ r σ' := by
  intro p l e R s mi args below meth c b B D cI cZ scr Z C hZ H locs ls cells slots hH hS hL hc hs
  obtain ⟨hdec, rfl, -⟩ := ft_dec hd
  obtain ⟨i, rfl⟩ := hH.pos hK (by decide)
  refine my_zast (D := D) (cl := clss) (ws := wsT b B cI cZ σ) C.1 C.2.1 C.2.2.2.2.2.1 hH.2.2.1 (ws_D b B cI cZ σ) hS i 1 (ws_arz hK) rfl h01 (vp_in_nI hj hl) hdec (fun H1 locs1 hP1 hz hS1 => ?_)
  rw [nI_clamp (by omega), ← getD_up hj] at hP1
  rw [ws_up (b := b) (B := B) (cI := cI) (cZ := cZ) (σ := σ) (σ' := setA σ (i + 1) ((σ.2.2 (i + 1)).set j x)) rfl (fun j hj => ⟨rfl, by simp [setA, hj]⟩) (by simp [ent, setA, hK])] at hP1
  exact kk p l e R s mi args below meth c b B D cI cZ scr Z C hZ H1 locs1 ls cells slots (hH.up C.2.2.2.2.2.2.1 C.2.2.2.2.2.2.2.1 rfl (fun j => rfl) (by simp [setA]) hP1 hz hS hS1) hS1 hL hc hs
/-! making cells -/
def dfl (c : Nat) : List Value := (List.range (NN c)).map (fun k => defaultValue (TY c k))
theorem dfl_ok : ∀ c, c < 8 → ∀ k, k < NN c → defaultValue (TY c k) = .null ∨ defaultValue (TY c k) = .int 0 ∨ defaultValue (TY c k) = .long 0 := by decide +kernel
theorem dfl_cv {c : Nat} (h : c < 8) (b B : Nat) : (dfl c).map (cv b B) = dfl c := by
  unfold dfl
  rw [List.map_map]
  apply List.map_congr_left
  intro k hk
  rcases dfl_ok c h k (List.mem_range.mp hk) with e | e | e <;> simp only [Function.comp, e] <;> rfl
def newO (σ : Sto) (c : Nat) : Sto := (σ.1 ++ [c], fun i => if i = σ.1.length then dfl c else σ.2.1 i, σ.2.2)
def newA (σ : Sto) (k n : Nat) : Sto := (σ.1 ++ [k], σ.2.1, fun i => if i = σ.1.length then List.replicate n 0 else σ.2.2 i)
theorem HI.len {b B : Nat} {D : va_G} {cI cZ : ClassId} {scr : Cell} {σ : Sto} {H : Heap} (h : HI b B D cI cZ scr σ H) : 0 < σ.1.length := (List.getElem?_eq_some_iff.mp h.2.2.2.1).1
theorem ad_len {b B n h : Nat} (hn : 0 < n) (hh : h + 1 = B + n) : ad b B n = h := by
  cases n with
  | zero => omega
  | succ k => show B + k = h; omega
theorem HI.push {b B : Nat} {D : va_G} {cI cZ : ClassId} {scr : Cell} {σ σ' : Sto} {H H1 : Heap} {k : Nat} {e : va_E} (h : HI b B D cI cZ scr σ H) (h1 : σ'.1 = σ.1 ++ [k]) (hn : ∀ j, j < σ.1.length → σ'.2.1 j = σ.2.1 j ∧ σ'.2.2 j = σ.2.2 j) (he : ent b B cI cZ σ' σ.1.length = e) (hlen : k < 8 → (σ'.2.1 σ.1.length).length = NN k) (hbs : b < H.size) (hz : H1.size = H.size + 1) (ho : ∀ q, q < H.size → H1[q]? = H[q]?) (hat : va_at D clss (H.size, e) H1) : HI b B D cI cZ scr σ' H1 := by
  have hl := h.len
  obtain ⟨a1, a2, a3, a4, a5, a6⟩ := h
  have e0 := hn 0 hl
  refine ⟨by rw [hz, h1]; simp; omega, by rw [ho b hbs]; exact a2, ?_, by rw [h1, List.getElem?_append_left hl]; exact a4, by rw [e0.2]; exact a5, fun i k' hk h8 => ?_⟩
  · rw [← ws_push hl h1 hn he]
    refine (a3.kept (fun k q hk => ho q.1 ((a3 k q hk).lt))).app (fun k q hk => ?_)
    have hz : k < 1 := (List.getElem?_eq_some_iff.mp hk).1
    rw [show k = 0 by omega] at hk
    cases hk
    rw [show B + (σ.1.length - 1) = H.size by omega]
    exact hat
  · rw [h1] at hk
    by_cases hi : i < σ.1.length
    · rw [List.getElem?_append_left hi] at hk
      rw [(hn i hi).1]
      exact a6 i k' hk h8
    · rw [List.getElem?_append_right (by omega)] at hk
      have : i - σ.1.length < 1 := (List.getElem?_eq_some_iff.mp hk).1
      have hi2 : i = σ.1.length := by omega
      subst hi2
      rw [Nat.sub_self] at hk
      cases hk
      exact hlen h8
theorem wp_new {d mc ms m pc nx idx cc n a3 : Nat} {ps : Int} {L S : List Value} {σ σ' : Sto} {r : Option Value} (hd : ft m pc = some (.new idx, 3, nx, cc, n, a3, ps)) (h9 : a3 ≠ 99) (kk : WP d mc ms m nx L (.ref σ.1.length :: S) (newO σ cc) r σ') : WP d (mc + 1) (ms + n) m pc L S σ r σ' := by
  intro p l e R s mi args below meth c b B D cI cZ scr Z C hZ H locs ls cells slots hH hS hL hc hs
  obtain ⟨hdec, rfl, hrs⟩ := ft_dec hd
  obtain ⟨h8, hn, hlk, hins, hini⟩ : cc < 8 ∧ n = NN cc ∧ lw_tbl[ps.toNat]? = some (.classLink (RR (ow m)) idx (RR cc)) ∧ Cond.instantiable (RR cc) (NN cc) ∈ lw_tbl ∧ Cond.initialized (RR cc) ∈ lw_tbl := c_all _ (look_in hrs h9)
  subst hn
  have hKn := C.2.2.2.2.2.1.1 cc _ (cl_all cc h8)
  refine W.newcK C.1 C.2.1 (C := RR cc) (own := RR (ow m)) C.2.2.2.1 (C.2.2.2.2.1 _ (gt_at hlk rfl)) (C.2.2.2.2.1 _ (gt_in hins rfl)) (C.2.2.2.2.1 _ (gt_in hini rfl)) rfl hdec (by omega) (by omega) hKn.2.1 rfl fun H1 kC hkC e1 z1 o1 => ?_
  have hbs : b < H.size := by have := C.2.2.2.2.2.2.1; have := C.2.2.2.2.2.2.2.1; have := hS.1; omega
  have hH1 : HI b B D cI cZ scr (newO σ cc) H1 := by
    refine hH.push (σ' := newO σ cc) (k := cc) rfl (fun j hj => ⟨by simp [newO, Nat.ne_of_lt hj], rfl⟩) rfl (fun _ => by simp [newO, dfl]) hbs z1 o1 ?_
    rw [show ent b B cI cZ (newO σ cc) σ.1.length = .inr (cc, dfl cc) by simp [ent, newO, List.getD, h8, dfl_cv h8]]
    refine ⟨_, cl_all cc h8, (u_born (TY cc) C.2.2.2.2.1 (tw_gt cc h8) hKn hkC e1 (ty_all cc h8)).to (fun j hj => ?_)⟩
    have hj' : j < NN cc := hj
    simp [vp_V, dfl, hj']
  have hS1 : va_S (fun q => B ≤ q) s.heap H1 locs := ⟨Nat.le_trans hS.1 (by omega), fun x h1 h2 => (o1 x (Nat.lt_of_lt_of_le h1 hS.1)).trans (hS.2.1 x h1 h2), hS.2.2⟩
  have := kk p l e R s mi args below meth c b B D cI cZ scr Z C hZ H1 locs ls (cells + 1) (slots + NN cc) hH1 hS1 hL (by omega) (by omega)
  rw [List.map_cons, show cv b B (.ref σ.1.length) = .ref H.size from congrArg Value.ref (ad_len hH.len hH.1)] at this
  exact this
theorem wp_newI {d mc ms m pc nx : Nat} {L S : List Value} {σ σ' : Sto} {r : Option Value} {X : Nat × Nat × Nat × Int} {n : Nat} (hd : ft m pc = some (.newarray .int, 2, nx, X)) (hn : n < 1000) (kk : WP d mc ms m nx L (.ref σ.1.length :: S) (newA σ 100 n) r σ') : WP d (mc + 1) (ms + n) m pc L (.int (nI n) :: S) σ r σ' := by
  intro p l e R s mi args below meth c b B D cI cZ scr Z C hZ H locs ls cells slots hH hS hL hc hs
  obtain ⟨hdec, rfl, hrs⟩ := ft_dec hd
  refine va_newaK (atype := .int) C.1 C.2.1 (C.2.2.2.2.1 _ (gt_in ac_I rfl)) rfl hdec rfl (nI_pos (by omega)) (nI_clamp (by omega)) (show n * 4 ≤ 536870912 by omega) (by omega) (by omega) rfl fun H1 cA e1 z1 o1 hAr hNm => ?_
  have hcA : cA = cI := Option.some.inj (hNm.symm.trans ((C.2.2.2.2.2.1.2 0 _ rfl).2))
  subst hcA
  have hbs : b < H.size := by have := C.2.2.2.2.2.2.1; have := C.2.2.2.2.2.2.2.1; have := hS.1; omega
  have hH1 : HI b B D cA cZ scr (newA σ 100 n) H1 := by
    refine hH.push (σ' := newA σ 100 n) (k := 100) rfl (fun j hj => ⟨rfl, by simp [newA, Nat.ne_of_lt hj]⟩) rfl (fun h => by omega) hbs z1 o1 ?_
    rw [show ent b B cA cZ (newA σ 100 n) σ.1.length = .inl (cA, n, .inl (fun _ => 0)) by simp [ent, newA, List.getD, List.getElem?_replicate]; funext j; split <;> rfl]
    exact e1
  have hS1 : va_S (fun q => B ≤ q) s.heap H1 locs := ⟨Nat.le_trans hS.1 (by omega), fun x h1 h2 => (o1 x (Nat.lt_of_lt_of_le h1 hS.1)).trans (hS.2.1 x h1 h2), hS.2.2⟩
  have := kk p l e R s mi args below meth c b B D cA cZ scr Z C hZ H1 locs ls (cells + 1) (slots + n) hH1 hS1 hL (by omega) (by omega)
  rw [List.map_cons, show cv b B (.ref σ.1.length) = .ref H.size from congrArg Value.ref (ad_len hH.len hH.1)] at this
  exact this
theorem wp_newZ {d mc ms m pc nx : Nat} {L S : List Value} {σ σ' : Sto} {r : Option Value} {X : Nat × Nat × Nat × Int} {n : Nat} (hd : ft m pc = some (.newarray .boolean, 2, nx, X)) (hn : n < 1000) (kk : WP d mc ms m nx L (.ref σ.1.length :: S) (newA σ 101 n) r σ') : WP d (mc + 1) (ms + n) m pc L (.int (nI n) :: S) σ r σ' := by
  intro p l e R s mi args below meth c b B D cI cZ scr Z C hZ H locs ls cells slots hH hS hL hc hs
  obtain ⟨hdec, rfl, hrs⟩ := ft_dec hd
  refine va_newaK (atype := .boolean) C.1 C.2.1 (C.2.2.2.2.1 _ (gt_in ac_Z rfl)) rfl hdec rfl (nI_pos (by omega)) (nI_clamp (by omega)) (show n * 1 ≤ 536870912 by omega) (by omega) (by omega) rfl fun H1 cA e1 z1 o1 hAr hNm => ?_
  have hcA : cA = cZ := Option.some.inj (hNm.symm.trans ((C.2.2.2.2.2.1.2 1 _ rfl).2))
  subst hcA
  have hbs : b < H.size := by have := C.2.2.2.2.2.2.1; have := C.2.2.2.2.2.2.2.1; have := hS.1; omega
  have hH1 : HI b B D cI cA scr (newA σ 101 n) H1 := by
    refine hH.push (σ' := newA σ 101 n) (k := 101) rfl (fun j hj => ⟨rfl, by simp [newA, Nat.ne_of_lt hj]⟩) rfl (fun h => by omega) hbs z1 o1 ?_
    rw [show ent b B cI cA (newA σ 101 n) σ.1.length = .inl (cA, n, .inl (fun _ => 0)) by simp [ent, newA, List.getD, List.getElem?_replicate]; funext j; split <;> rfl]
    exact e1
  have hS1 : va_S (fun q => B ≤ q) s.heap H1 locs := ⟨Nat.le_trans hS.1 (by omega), fun x h1 h2 => (o1 x (Nat.lt_of_lt_of_le h1 hS.1)).trans (hS.2.1 x h1 h2), hS.2.2⟩
  have := kk p l e R s mi args below meth c b B D cI cA scr Z C hZ H1 locs ls (cells + 1) (slots + n) hH1 hS1 hL (by omega) (by omega)
  rw [List.map_cons, show cv b B (.ref σ.1.length) = .ref H.size from congrArg Value.ref (ad_len hH.len hH.1)] at this
  exact this
/-! calls -/
theorem Pm_blind {b B : Nat} {D : va_G} {cI cZ : ClassId} {scr : Cell} {As : List Value} {σ : Sto} : FrameBlind (Pm b B D cI cZ scr As σ) := fun a U g mk q => by
  obtain ⟨q0, q1, q2, q3, q4, q5, q6⟩ := q
  exact ⟨q0, q1, q2, q3, va_K.moved (u := U) (U := U.calling g mk a) (Vm.Alike.refl U.vm) q4, ⟨State.isArrayOf_alike (Vm.Alike.refl U.vm) q5.1, q5.2⟩, fun e he h3 => va_Nw.same rfl rfl (q6 e he h3)⟩
theorem Pm_of {p : Program} {R : Room} {s : State} {mi : MethodId} {args : Array Value} {meth : Method} {c : Code} {b B : Nat} {D : va_G} {cI cZ : ClassId} {scr : Cell} {m d : Nat} {As : List Value} {σ : Sto} {H : Heap} {locs : List Loc} (C : Cx p R s mi args meth c b B D cI cZ scr m d) (hH : HI b B D cI cZ scr σ H) (hS : va_S (fun q => B ≤ q) s.heap H locs) : ∀ U : State, U.heap = H → s.WarmedH U.vm → Pm b B D cI cZ scr As σ (As.map (cv b B)).toArray U := fun U hU hW =>
  ⟨rfl, C.2.2.2.2.2.2.1, by rw [hU]; exact Nat.le_trans C.2.2.2.2.2.2.2.1 hS.1, by rw [hU]; exact hH, va_K.moved hW.alike C.2.2.2.2.2.1, ⟨State.isArrayOf_alike hW.alike C.2.2.2.2.2.2.2.2.1.1, C.2.2.2.2.2.2.2.2.1.2⟩, fun e he h3 => va_Nw.warmM hW (C.2.2.2.2.2.2.2.2.2.2.2 e he h3)⟩
theorem tl_map (r : Option Value) (b B : Nat) (S : List Value) : (r.map (cv b B)).toList ++ S.map (cv b B) = (r.toList ++ S).map (cv b B) := by cases r <;> rfl
set_option maxHeartbeats 1000000 in
theorem wp_callV {d d' mc ms mc' ms' m m' n pc nx idx o : Nat} {ps : Int} {L As S : List Value} {σ σ1 σ' : Sto} {r r1 : Option Value} (hd : ft m pc = some (.invokevirtual idx, 3, nx, m', n, 0, ps)) (hn : As.length = n) (hK : σ.1[o]? = some (ow m')) (hE : Ev d' mc' ms' m' (.ref o :: As) σ r1 σ1) (hdd : d' + 1 ≤ d) (hcat : (S.map fun v => v.category).sum ≤ 8) (kk : WP d mc ms m nx L (r1.toList ++ S) σ1 r σ') : WP d (mc + mc') (ms + ms') m pc L (As.reverse ++ .ref o :: S) σ r σ' := by
  intro p l e R s mi args below meth c b B D cI cZ scr Z C hZ H locs ls cells slots hH hS hL hc hs
  obtain ⟨hdec, rfl, hrs⟩ := ft_dec hd
  have hmem := look_in (tb := mtb) hrs (by decide)
  obtain ⟨hm1, -, -, -, -, hm2⟩ := m_all _ hmem
  obtain ⟨hm2, hdesc⟩ := hm2 (by decide : (0 : Nat) < 4)
  obtain ⟨hv1, hv2⟩ := (n_all _ hmem).1 rfl
  have hm' : m' < 137 := hm2
  have hy := y_all m' hm'
  have hlk : Cond.methodLink (RR (ow m)) idx (yy m') ∈ gt := gt_at (hm1 (by decide : (0 : Nat) < 3)) rfl
  have hG : GoodIn gt (wsV (RR (ow m)) idx (yy m').cls (yy m') (wm m')) := by
    intro w hw
    rcases List.mem_append.mp hw with h | h
    · simp only [List.mem_cons, List.not_mem_nil, or_false] at h
      rcases h with rfl | rfl | rfl | rfl
      · exact ⟨hlk, Or.inl rfl⟩
      · exact ⟨gt_at hv1 rfl, Or.inl rfl⟩
      · exact ⟨gt_at hv2 rfl, Or.inl rfl⟩
      · exact ⟨gt_at (i_all m' hm') rfl, Or.inl rfl⟩
    · exact wm_good hm' w h
  obtain ⟨i, rfl⟩ := hH.pos hK (by omega)
  have hR := C.2.2.2.2.2.2.2.2.2.1
  have hrun := va_runV (As := As.map (cv b B)) (rest := S.map (cv b B)) (g := F0 mi pc ls ((As.reverse ++ .ref (i + 1) :: S).map (cv b B))) (e := e) (below := below) (meth := meth) (locs := locs) (cells := cells) (slots := slots) (b := B + i) (H := H) ⟨C.1, C.2.1, C.2.2.1, C.2.2.2.1, C.2.2.2.2.1⟩ (hE l b B D cI cZ scr) (cwV n C.2.2.2.2.1 hG rfl rfl rfl ⟨rfl, hy.1, hy.2.1, hdesc⟩ ⟨by show d' + 1 ≤ R.frames; omega, by show 8 + (ml m' + 11) + 40 * d' ≤ R.locals; omega⟩) ⟨Pm_blind, by rw [hy.2.2.2.1]; exact va_recv C.2.2.2.2.2.1 hH.2.2.1 (cl_all _ hy.2.2.2.2.1) (ws_obj hK hy.2.2.2.2.1), Pm_of (As := .ref (i + 1) :: As) C hH hS⟩ rfl (by rw [List.length_map]; exact hn) hL.1 (by simp [ad, cv]) (lv_room (by rw [cv_sum]; exact hcat)) hdec ⟨by omega, by omega⟩
  refine call_go hrun hS (fun H1 locs1 hH1 hS1 => ?_)
  rw [tl_map]
  exact kk p l e R s mi args below meth c b B D cI cZ scr Z C hZ H1 locs1 ls (cells + mc') (slots + ms') hH1 hS1 hL (by omega) (by omega)
set_option maxHeartbeats 1000000 in
theorem wp_callS {d d' mc ms mc' ms' m m' n pc nx idx : Nat} {ps : Int} {L As S : List Value} {σ σ1 σ' : Sto} {r r1 : Option Value} (hd : ft m pc = some (.invokestatic idx, 3, nx, m', n, 1, ps)) (hn : As.length = n) (ho : ow m = ow m') (hE : Ev d' mc' ms' m' As σ r1 σ1) (hdd : d' + 1 ≤ d) (hcat : (S.map fun v => v.category).sum ≤ 8) (kk : WP d mc ms m nx L (r1.toList ++ S) σ1 r σ') : WP d (mc + mc') (ms + ms') m pc L (As.reverse ++ S) σ r σ' := by
  intro p l e R s mi args below meth c b B D cI cZ scr Z C hZ H locs ls cells slots hH hS hL hc hs
  obtain ⟨hdec, rfl, hrs⟩ := ft_dec hd
  have hmem := look_in (tb := mtb) hrs (by decide)
  obtain ⟨hm1, -, -, -, -, hm2⟩ := m_all _ hmem
  obtain ⟨hm2, hdesc⟩ := hm2 (by decide : (1 : Nat) < 4)
  have hv1 := (n_all _ hmem).2.1 rfl
  have hm' : m' < 137 := hm2
  have hy := y_all m' hm'
  have hlk : Cond.methodLink (RR (ow m)) idx (yy m') ∈ gt := gt_at (hm1 (by decide : (1 : Nat) < 3)) rfl
  have hcl : (yy m').cls = RR (ow m) := by rw [ho]; exact hy.2.2.2.1
  have hG : GoodIn gt (wsS (RR (ow m)) idx (yy m') (wm m')) := by
    intro w hw
    rcases List.mem_append.mp hw with h | h
    · simp only [List.mem_cons, List.not_mem_nil, or_false] at h
      rcases h with rfl | rfl | rfl
      · exact ⟨hlk, Or.inl rfl⟩
      · exact ⟨gt_at hv1 rfl, Or.inl rfl⟩
      · rw [← hcl]; exact ⟨gt_at (i_all m' hm') rfl, Or.inl rfl⟩
    · exact wm_good hm' w h
  have hR := C.2.2.2.2.2.2.2.2.2.1
  have hrun := va_runS (As := As.map (cv b B)) (rest := S.map (cv b B)) (g := F0 mi pc ls ((As.reverse ++ S).map (cv b B))) (e := e) (below := below) (meth := meth) (locs := locs) (cells := cells) (slots := slots) (H := H) ⟨C.1, C.2.1, C.2.2.1, C.2.2.2.1, C.2.2.2.2.1⟩ (hE l b B D cI cZ scr) (cwS n C.2.2.2.2.1 hG rfl rfl rfl ⟨hcl, hy.1, hy.2.1, hdesc⟩ ⟨by show d' + 1 ≤ R.frames; omega, by show 8 + (ml m' + 11) + 40 * d' ≤ R.locals; omega⟩) ⟨Pm_blind, Pm_of (As := As) C hH hS⟩ rfl (by rw [List.length_map]; exact hn) hL.1 (by simp) (lv_room (by rw [cv_sum]; exact hcat)) hdec ⟨by omega, by omega⟩
  refine call_go hrun hS (fun H1 locs1 hH1 hS1 => ?_)
  rw [tl_map]
  exact kk p l e R s mi args below meth c b B D cI cZ scr Z C hZ H1 locs1 ls (cells + mc') (slots + ms') hH1 hS1 hL (by omega) (by omega)
set_option maxHeartbeats 1000000 in
theorem wp_callI {d d' mc ms mc' ms' m m' pc nx idx o kd : Nat} {ps : Int} {L S : List Value} {σ σ1 σ' : Sto} {r : Option Value} (hd : ft m pc = some (.invokespecial idx, 3, nx, m', 0, kd, ps)) (hkd : kd = 2 ∨ kd = 3) (hk0 : 0 < o) (hE : Ev d' mc' ms' m' [.ref o] σ none σ1) (hdd : d' + 1 ≤ d) (hcat : (S.map fun v => v.category).sum ≤ 8) (kk : WP d mc ms m nx L S σ1 r σ') : WP d (mc + mc') (ms + ms') m pc L (.ref o :: S) σ r σ' := by
  intro p l e R s mi args below meth c b B D cI cZ scr Z C hZ H locs ls cells slots hH hS hL hc hs
  obtain ⟨hdec, rfl, hrs⟩ := ft_dec hd
  have hmem := look_in (tb := mtb) hrs (by omega)
  obtain ⟨hm1, hm3, -, -, -, hm2⟩ := m_all _ hmem
  obtain ⟨hm2, hdesc⟩ := hm2 (show kd < 4 by omega)
  obtain ⟨hnm, hrt, hv1⟩ := (n_all _ hmem).2.2 hkd
  have hm' : m' < 137 := hm2
  have hnm : (yy m').name = "<init>" := hnm
  have hrt : rt m' = none := hrt
  have hy := y_all m' hm'
  obtain ⟨i, rfl⟩ : ∃ i, o = i + 1 := ⟨o - 1, by omega⟩
  have hR := C.2.2.2.2.2.2.2.2.2.1
  have hini := C.2.2.2.2.1 _ (gt_at (i_all m' hm') rfl)
  have hins := C.2.2.2.2.1 _ (gt_at hv1 rfl)
  have hRR : d' + 1 ≤ R.frames ∧ 8 + (ml m' + 11) + 40 * d' ≤ R.locals := ⟨by omega, by omega⟩
  have hw : wm m' = Cond.code (yy m') (cb m') (ml m') none :: gt := by rw [← hrt]; rfl
  have hp : PreS s H (Pm b B D cI cZ scr [.ref (i + 1)] σ) (.ref (B + i) :: ([] : List Value)) := ⟨Pm_blind, Pm_of (As := [.ref (i + 1)]) C hH hS⟩
  have hrun : va_Run p l e R s mi args below meth c H locs cells slots mc' ms' (F0 mi pc ls ((.ref (i + 1) :: S).map (cv b B))) (S.map (cv b B)) (Qm b B D cI cZ scr none σ1 (Value.ref (B + i) :: []).toArray) (fun q => B ≤ q) := by
    rcases hkd with rfl | rfl
    · exact va_runI (As := []) (rest := S.map (cv b B)) (b := B + i) ⟨C.1, C.2.1, C.2.2.1, C.2.2.2.1, C.2.2.2.2.1⟩ (hE l b B D cI cZ scr) (cwI 0 C.2.2.2.2.1 (wm_good hm') hw rfl rfl hini (C.2.2.2.2.1 _ (gt_at (hm1 (by decide : (2 : Nat) < 3)) rfl)) hins hnm ⟨hy.1, hy.2.1, hdesc⟩ hRR) hp rfl rfl hL.1 rfl (lv_room (by rw [cv_sum]; exact hcat)) hdec ⟨by omega, by omega⟩
    · have hnw : va_Nw (.methodLinkNest (RR (ow m)) idx (yy m') "TrailBreakers") s := by have h0 : NWs s := C.2.2.2.2.2.2.2.2.2.2.2; exact h0 (ow m, idx, m', 0, 3, ps) hmem rfl
      have hcn : va_CN R s args (RR (ow m)) idx (yy m') "TrailBreakers" (cb m') (ml m') none (wm m') { frames := d', cells := mc', slots := ms', locals := 40 * d' } mc' ms' 0 := va_cnB (Ts := gt) (ws' := gt) 0 C.2.2.2.2.1 (wm_good hm') hw rfl rfl hnw hini ⟨hy.1, hy.2.1, hdesc⟩ hRR
      exact va_runIN (Ts := gt) (own := RR (ow m)) (host := "TrailBreakers") (y := yy m') (bytes := cb m') (maxL := ml m') (nL := ml m) (mc := mc') (ms := ms') (n := 0) (ws := wm m') (rm := { frames := d', cells := mc', slots := ms', locals := 40 * d' }) (Pc := Pm b B D cI cZ scr [.ref (i + 1)] σ) (Qc := Qm b B D cI cZ scr none σ1) (free := fun q => B ≤ q) (As := []) (rest := S.map (cv b B)) (b := B + i) ⟨C.1, C.2.1, C.2.2.1, C.2.2.2.1, C.2.2.2.2.1⟩ (hE l b B D cI cZ scr) ⟨hcn, hnm, hins⟩ hp rfl rfl hL.1 rfl (lv_room (by rw [cv_sum]; exact hcat)) hdec ⟨by omega, by omega⟩
  refine call_go hrun hS (fun H1 locs1 hH1 hS1 => ?_)
  exact kk p l e R s mi args below meth c b B D cI cZ scr Z C hZ H1 locs1 ls (cells + mc') (slots + ms') hH1 hS1 hL (by omega) (by omega)
theorem wp_objInit {d mc ms m pc nx idx a1 a2 o : Nat} {ps : Int} {L S : List Value} {σ σ' : Sto} {r : Option Value} (hd : ft m pc = some (.invokespecial idx, 3, nx, a1, a2, 4, ps)) (hdd : 1 ≤ d) (hcat : (S.map fun v => v.category).sum ≤ 8) (kk : WP d mc ms m nx L S σ r σ') : WP d mc ms m pc L (.ref o :: S) σ r σ' := by
  intro p l e R s mi args below meth c b B D cI cZ scr Z C hZ H locs ls cells slots hH hS hL hc hs
  obtain ⟨hdec, rfl, hrs⟩ := ft_dec hd
  have hmem := look_in (tb := mtb) hrs (by decide)
  have hm1 := (m_all _ hmem).2.2.1 rfl
  have hR := C.2.2.2.2.2.2.2.2.2.1
  have h8 : 2 * (F0 mi pc ls ((.ref o :: S).map (cv b B))).monitorRoom + ((S.map (cv b B)).map fun v => v.category).sum ≤ 8 := lv_room (by rw [cv_sum]; exact hcat)
  exact W.objInit C.1 C.2.1 (own := RR (ow m)) C.2.2.2.1 (C.2.2.2.2.1 _ (gt_at hm1 rfl)) (C.2.2.2.2.1 _ (gt_in oi_1 rfl)) (C.2.2.2.2.1 _ (gt_in oi_2 rfl)) rfl (by rw [C.2.2.1]; exact hL.1) rfl hdec (by omega) (by omega) (kk p l e R s mi args below meth c b B D cI cZ scr Z C hZ H locs ls cells slots hH hS hL hc hs)
theorem wp_min {d mc ms m pc nx idx a1 a2 : Nat} {ps : Int} {L S : List Value} {σ σ' : Sto} {r : Option Value} {x y : Int32} (hd : ft m pc = some (.invokestatic idx, 3, nx, a1, a2, 5, ps)) (hdd : 1 ≤ d) (hcat : (S.map fun v => v.category).sum ≤ 8) (kk : WP d mc ms m nx L (.int (if y < x then y else x) :: S) σ r σ') : WP d mc ms m pc L (.int y :: .int x :: S) σ r σ' := by
  intro p l e R s mi args below meth c b B D cI cZ scr Z C hZ H locs ls cells slots hH hS hL hc hs
  obtain ⟨hdec, rfl, hrs⟩ := ft_dec hd
  have hmem := look_in (tb := mtb) hrs (by decide)
  have hm1 := (m_all _ hmem).2.2.2.1 rfl
  have hR := C.2.2.2.2.2.2.2.2.2.1
  exact va_mmin C.1 C.2.1 (by rw [C.2.2.1]; exact hL.1.symm) (own := RR (ow m)) C.2.2.2.1 (C.2.2.2.2.1 _ (gt_at hm1 rfl)) (C.2.2.2.2.1 _ (gt_in mm_1 rfl)) (C.2.2.2.2.1 _ (gt_in mm_3 rfl)) (C.2.2.2.2.1 _ (gt_in mm_4 rfl)) (by omega) (by rw [cv_sum]; omega) (by omega) (by omega) hdec (kk p l e R s mi args below meth c b B D cI cZ scr Z C hZ H locs ls cells slots hH hS hL hc hs)
theorem wp_max {d mc ms m pc nx idx a1 a2 : Nat} {ps : Int} {L S : List Value} {σ σ' : Sto} {r : Option Value} {x y : Int32} (hd : ft m pc = some (.invokestatic idx, 3, nx, a1, a2, 6, ps)) (hdd : 1 ≤ d) (hcat : (S.map fun v => v.category).sum ≤ 8) (kk : WP d mc ms m nx L (.int (if x < y then y else x) :: S) σ r σ') : WP d mc ms m pc L (.int y :: .int x :: S) σ r σ' := by
  intro p l e R s mi args below meth c b B D cI cZ scr Z C hZ H locs ls cells slots hH hS hL hc hs
  obtain ⟨hdec, rfl, hrs⟩ := ft_dec hd
  have hmem := look_in (tb := mtb) hrs (by decide)
  have hm1 := (m_all _ hmem).2.2.2.2.1 rfl
  have hR := C.2.2.2.2.2.2.2.2.2.1
  exact va_mmax C.1 C.2.1 (by rw [C.2.2.1]; exact hL.1.symm) (own := RR (ow m)) C.2.2.2.1 (C.2.2.2.2.1 _ (gt_at hm1 rfl)) (C.2.2.2.2.1 _ (gt_in mm_2 rfl)) (C.2.2.2.2.1 _ (gt_in mm_3 rfl)) (C.2.2.2.2.1 _ (gt_in mm_5 rfl)) (by omega) (by rw [cv_sum]; omega) (by omega) (by omega) hdec (kk p l e R s mi args below meth c b B D cI cZ scr Z C hZ H locs ls cells slots hH hS hL hc hs)
theorem WP.cast {d mc ms mc' ms' m pc : Nat} {L S : List Value} {σ σ' : Sto} {r : Option Value} (h1 : mc' ≤ mc) (h2 : ms' ≤ ms) (k : WP d mc' ms' m pc L S σ r σ') : WP d mc ms m pc L S σ r σ' := by
  intro p l e R s mi args below meth c b B D cI cZ scr Z C hZ H locs ls cells slots hH hS hL hc hs
  exact k p l e R s mi args below meth c b B D cI cZ scr Z C hZ H locs ls cells slots hH hS hL (by omega) (by omega)

