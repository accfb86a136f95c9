
theorem f_fin : ∀ e ∈ ftb, (TT e.2.2.1 e.2.2.2.1).2.2.2 = (e.2.2.2.2.1 == 3) := by decide +kernel
theorem cl_all : ∀ c, c < 8 → clss[c]? = some (RR c, TT c, NN c) := by
  intro c h
  simp [clss, h]
/-! the store: the kinds of the cells (0: the script), what objects hold, what arrays hold -/
abbrev Sto : Type := List Nat × (Nat → List Value) × (Nat → List Int32)
def ad (b B : Nat) (i : Nat) : Nat := match i with
  | 0 => b
  | i + 1 => B + i
def cv (b B : Nat) (v : Value) : Value := match v with
  | .ref i => .ref (ad b B i)
  | v => v
theorem cv_cat (b B : Nat) (v : Value) : (cv b B v).category = v.category := by cases v <;> rfl
theorem cv_sum (b B : Nat) (S : List Value) : ((S.map (cv b B)).map fun v => v.category).sum = (S.map fun v => v.category).sum := by
  rw [List.map_map]
  congr 1
  exact List.map_congr_left fun v _ => cv_cat b B v
def ent (b B : Nat) (cI cZ : ClassId) (σ : Sto) (i : Nat) : va_E :=
  if σ.1.getD i 0 < 8 then .inr (σ.1.getD i 0, (σ.2.1 i).map (cv b B)) else .inl ((if σ.1.getD i 0 = 100 then cI else cZ), (σ.2.2 i).length, .inl (fun j => (σ.2.2 i).getD j 0))
def wsT (b B : Nat) (cI cZ : ClassId) (σ : Sto) : va_W := (List.range (σ.1.length - 1)).map (fun i => (B + i, ent b B cI cZ σ (i + 1)))
theorem ws_at {b B : Nat} {cI cZ : ClassId} {σ : Sto} {i k : Nat} (h : σ.1[i + 1]? = some k) : (wsT b B cI cZ σ)[i]? = some (B + i, ent b B cI cZ σ (i + 1)) := by
  have hl := (List.getElem?_eq_some_iff.mp h).1
  have : i < σ.1.length - 1 := by omega
  simp [wsT, this]
theorem ws_obj {b B : Nat} {cI cZ : ClassId} {σ : Sto} {i k : Nat} (h : σ.1[i + 1]? = some k) (h8 : k < 8) : (wsT b B cI cZ σ)[i]? = some (B + i, .inr (k, (σ.2.1 (i + 1)).map (cv b B))) := by
  rw [ws_at h]
  simp [ent, List.getD, h, h8]
theorem ws_arr {b B : Nat} {cI cZ : ClassId} {σ : Sto} {i : Nat} (h : σ.1[i + 1]? = some 100) : (wsT b B cI cZ σ)[i]? = some (B + i, .inl (cI, (σ.2.2 (i + 1)).length, .inl (fun j => (σ.2.2 (i + 1)).getD j 0))) := by
  rw [ws_at h]
  simp [ent, h]
theorem ws_arz {b B : Nat} {cI cZ : ClassId} {σ : Sto} {i : Nat} (h : σ.1[i + 1]? = some 101) : (wsT b B cI cZ σ)[i]? = some (B + i, .inl (cZ, (σ.2.2 (i + 1)).length, .inl (fun j => (σ.2.2 (i + 1)).getD j 0))) := by
  rw [ws_at h]
  simp [ent, h]
theorem ws_D (b B : Nat) (cI cZ : ClassId) (σ : Sto) : va_D (fun q => B ≤ q) (wsT b B cI cZ σ) := by
  have key : ∀ (k : Nat) (q : Nat × va_E), (wsT b B cI cZ σ)[k]? = some q → q.1 = B + k := by
    intro k q h
    simp only [wsT, List.getElem?_map, Option.map_eq_some_iff] at h
    obtain ⟨a, h1, rfl⟩ := h
    obtain ⟨h2, h3⟩ := List.getElem?_eq_some_iff.mp h1
    simp at h3
    simp [h3]
  refine ⟨fun i j p q h1 h2 h3 => ?_, fun k q h => ?_⟩
  · have e1 := key i p h1
    have e2 := key j q h2
    omega
  · have e1 := key k q h
    show B ≤ q.1
    omega
theorem ent_eq {b B : Nat} {cI cZ : ClassId} {σ σ' : Sto} {i : Nat} (h1 : σ'.1.getD i 0 = σ.1.getD i 0) (h2 : σ'.2.1 i = σ.2.1 i) (h3 : σ'.2.2 i = σ.2.2 i) : ent b B cI cZ σ' i = ent b B cI cZ σ i := by
  unfold ent
  rw [h1, h2, h3]
theorem ws_up {b B : Nat} {cI cZ : ClassId} {σ σ' : Sto} {i : Nat} {e : va_E} (h1 : σ'.1 = σ.1) (hn : ∀ j, j ≠ i + 1 → σ'.2.1 j = σ.2.1 j ∧ σ'.2.2 j = σ.2.2 j) (he : ent b B cI cZ σ' (i + 1) = e) : (wsT b B cI cZ σ).set i (B + i, e) = wsT b B cI cZ σ' := by
  apply List.ext_getElem?
  intro n
  rw [List.getElem?_set]
  unfold wsT
  rw [h1]
  simp only [List.length_map, List.length_range, List.getElem?_map]
  by_cases hin : i = n
  · subst hin
    by_cases hl : i < σ.1.length - 1
    · simp [hl, he]
    · simp [hl]
  · simp only [hin, if_false]
    by_cases hl : n < σ.1.length - 1
    · simp only [List.getElem?_range hl, Option.map_some]
      rw [ent_eq (σ := σ') (σ' := σ) (by rw [h1]) (hn (n + 1) (by omega)).1.symm (hn (n + 1) (by omega)).2.symm]
    · have : (List.range (σ.1.length - 1))[n]? = none := by simp; omega
      simp [this]
theorem ws_push {b B : Nat} {cI cZ : ClassId} {σ σ' : Sto} {k : Nat} {e : va_E} (hl : 0 < σ.1.length) (h1 : σ'.1 = σ.1 ++ [k]) (hn : ∀ j, j < σ.1.length → σ'.2.1 j = σ.2.1 j ∧ σ'.2.2 j = σ.2.2 j) (he : ent b B cI cZ σ' σ.1.length = e) : wsT b B cI cZ σ ++ [(B + (σ.1.length - 1), e)] = wsT b B cI cZ σ' := by
  have hlen : σ'.1.length - 1 = (σ.1.length - 1) + 1 := by rw [h1]; simp; omega
  unfold wsT
  rw [hlen, List.range_succ, List.map_append, List.map_cons, List.map_nil]
  congr 1
  · apply List.map_congr_left
    intro n hn1
    have hn2 : n < σ.1.length - 1 := List.mem_range.mp hn1
    rw [ent_eq (σ := σ') (σ' := σ) ?_ (hn (n + 1) (by omega)).1.symm (hn (n + 1) (by omega)).2.symm]
    rw [h1, List.getD_eq_getElem?_getD, List.getD_eq_getElem?_getD, List.getElem?_append_left (by omega)]
  · rw [← he, show σ.1.length - 1 + 1 = σ.1.length by omega]
/-- the heap holds the store: the cells lie one behind the other from B on; the script lies at b -/
def HI (b B : Nat) (D : va_G) (cI cZ : ClassId) (scr : Cell) (σ : Sto) (H : Heap) : Prop :=
  H.size + 1 = B + σ.1.length ∧ H[b]? = some scr ∧ va_P D clss (wsT b B cI cZ σ) H ∧ σ.1[0]? = some 102 ∧ (scr.slots.size = (σ.2.2 0).length ∧ ∀ j, j < (σ.2.2 0).length → scr.slots[j]? = some (.int ((σ.2.2 0).getD j 0))) ∧ ∀ i k, σ.1[i]? = some k → k < 8 → (σ.2.1 i).length = NN k
theorem HI.pos {b B : Nat} {D : va_G} {cI cZ : ClassId} {scr : Cell} {σ : Sto} {H : Heap} (h : HI b B D cI cZ scr σ H) {o k : Nat} (hk : σ.1[o]? = some k) (hne : k ≠ 102) : ∃ i, o = i + 1 := by
  cases o with
  | zero =>
    rw [h.2.2.2.1] at hk
    cases hk
    exact absurd rfl hne
  | succ i => exact ⟨i, rfl⟩
/-! locals: a list of values, .null where nothing is known -/
def lvo (b B : Nat) (L : List Value) : List (Nat × Value) := (List.range L.length).filterMap (fun k => match L[k]? with
  | some v => if v = .null then none else some (k, cv b B v)
  | none => none)
theorem lvo_mem {b B : Nat} {L : List Value} {q : Nat × Value} : q ∈ lvo b B L ↔ ∃ v, L[q.1]? = some v ∧ v ≠ .null ∧ q.2 = cv b B v := by
  unfold lvo
  rw [List.mem_filterMap]
  constructor
  · rintro ⟨k, hk, h⟩
    split at h
    · next v hv =>
      split at h
      · cases h
      · next hn => cases h; exact ⟨v, hv, hn, rfl⟩
    · cases h
  · rintro ⟨v, hv, hn, he⟩
    refine ⟨q.1, List.mem_range.mpr (List.getElem?_eq_some_iff.mp hv).1, ?_⟩
    rw [hv]
    simp only [hn, if_false]
    rw [← he]
def Lr (b B : Nat) (ls : Array Slot) (n : Nat) (L : List Value) : Prop := lv_has ls n (lvo b B L)
theorem Lr.get {b B : Nat} {ls : Array Slot} {n : Nat} {L : List Value} (h : Lr b B ls n L) {k : Nat} {v : Value} (hk : L[k]? = some v) (hn : v ≠ .null) : ls[k]? = some (.val (cv b B v)) := h.2.2 (k, cv b B v) (lvo_mem.mpr ⟨v, hk, hn, rfl⟩)
theorem Lr.set1 {b B : Nat} {ls : Array Slot} {n : Nat} {L : List Value} {i : Nat} {v : Value} (h : lv_has ls n ((i, cv b B v) :: (lvo b B L).filter (fun q => !(q.1 == i) && !(q.1 + 1 == i && q.2.category == 2)))) (hp : ∀ j w, j + 1 = i → L[j]? = some w → w.category = 1) : Lr b B ls n (L.set i v) := by
  refine ⟨h.1, h.2.1, fun q hq => h.2.2 q ?_⟩
  obtain ⟨w, hw, hn, he⟩ := lvo_mem.mp hq
  rw [List.getElem?_set] at hw
  by_cases hi : i = q.1
  · rw [if_pos hi] at hw
    split at hw
    · cases hw
      refine List.mem_cons.mpr (Or.inl ?_)
      obtain ⟨a, c⟩ := q
      simp only at hi he
      rw [hi, he]
    · cases hw
  · rw [if_neg hi] at hw
    refine List.mem_cons.mpr (Or.inr (List.mem_filter.mpr ⟨lvo_mem.mpr ⟨w, hw, hn, he⟩, ?_⟩))
    have h1 : (q.1 == i) = false := by simp; exact fun z => hi z.symm
    by_cases h2 : q.1 + 1 = i
    · have h3 := hp q.1 w h2 hw
      rw [he, cv_cat, h3, h1]
      simp
    · simp [h1, h2]
theorem Lr.set2 {b B : Nat} {ls : Array Slot} {n : Nat} {L : List Value} {i : Nat} {v : Value} (h : lv_has ls n ((i, cv b B v) :: (lvo b B L).filter (fun q => !(q.1 == i) && (!(q.1 == i + 1) && !(q.1 + 1 == i && q.2.category == 2))))) (hp : ∀ j w, j + 1 = i → L[j]? = some w → w.category = 1) : Lr b B ls n ((L.set i v).set (i + 1) .null) := by
  refine ⟨h.1, h.2.1, fun q hq => h.2.2 q ?_⟩
  obtain ⟨w, hw, hn, he⟩ := lvo_mem.mp hq
  rw [List.getElem?_set] at hw
  by_cases hi1 : i + 1 = q.1
  · rw [if_pos hi1] at hw
    split at hw
    · cases hw; exact absurd rfl hn
    · cases hw
  · rw [if_neg hi1, List.getElem?_set] at hw
    by_cases hi : i = q.1
    · rw [if_pos hi] at hw
      split at hw
      · cases hw
        refine List.mem_cons.mpr (Or.inl ?_)
        obtain ⟨a, c⟩ := q
        simp only at hi he
        rw [hi, he]
      · cases hw
    · rw [if_neg hi] at hw
      refine List.mem_cons.mpr (Or.inr (List.mem_filter.mpr ⟨lvo_mem.mpr ⟨w, hw, hn, he⟩, ?_⟩))
      have h1 : (q.1 == i) = false := by simp; exact fun z => hi z.symm
      have h0 : (q.1 == i + 1) = false := by simp; exact fun z => hi1 z.symm
      by_cases h2 : q.1 + 1 = i
      · have h3 := hp q.1 w h2 hw
        rw [he, cv_cat, h3, h1, h0]
        simp
      · simp [h1, h0, h2]
/-- the locals at a method's entry -/
def entA : List Value → List Value
  | [] => []
  | v :: vs => if v.category = 2 then v :: .null :: entA vs else v :: entA vs
def entL (n : Nat) (As : List Value) : List Value := entA As ++ List.replicate (n - (entA As).length) .null
theorem entA_len (b B : Nat) : ∀ As : List Value, (lg_sl (As.map (cv b B))).length = (entA As).length
  | [] => rfl
  | v :: vs => by
    have ih := entA_len b B vs
    unfold lg_sl at ih ⊢
    rw [List.map_cons, List.flatMap_cons, List.length_append, ih, cv_cat]
    rw [entA]
    split <;> simp <;> omega
theorem entA_at (b B : Nat) : ∀ (As : List Value) (n k : Nat) (v : Value), (entA As)[k]? = some v → v ≠ .null → (n + k, cv b B v) ∈ lv_args n (As.map (cv b B))
  | [], n, k, v, h, _ => by simp [entA] at h
  | w :: vs, n, k, v, h, hv => by
    unfold entA at h
    simp only [List.map_cons, lv_args, cv_cat]
    split at h
    · next hc =>
      rw [if_pos hc]
      match k, h with
      | 0, h => simp at h; subst h; exact List.mem_cons_self
      | 1, h => simp at h; exact absurd h.symm hv
      | k + 2, h =>
        simp at h
        have := entA_at b B vs (n + 2) k v h hv
        rw [show n + (k + 2) = n + 2 + k by omega]
        exact List.mem_cons_of_mem _ this
    · next hc =>
      rw [if_neg hc]
      match k, h with
      | 0, h => simp at h; subst h; exact List.mem_cons_self
      | k + 1, h =>
        simp at h
        have := entA_at b B vs (n + 1) k v h hv
        rw [show n + (k + 1) = n + 1 + k by omega]
        exact List.mem_cons_of_mem _ this
theorem Lr.entry (b B : Nat) (As : List Value) {n : Nat} (h : (entA As).length ≤ n) : Lr b B ((lg_sl (As.map (cv b B)) ++ List.replicate (n - (lg_sl (As.map (cv b B))).length) Slot.unset).toArray) n (entL n As) := by
  have h1 := lv_entry (As.map (cv b B)) (n := n) (by rw [entA_len]; exact h)
  refine ⟨h1.1, h1.2.1, fun q hq => h1.2.2 q ?_⟩
  obtain ⟨v, hv, hn, he⟩ := lvo_mem.mp hq
  unfold entL at hv
  by_cases hl : q.1 < (entA As).length
  · rw [List.getElem?_append_left hl] at hv
    have := entA_at b B As 0 q.1 v hv hn
    rw [Nat.zero_add] at this
    obtain ⟨a, c⟩ := q
    simp only at he this ⊢
    rw [he]
    exact this
  · rw [List.getElem?_append_right (by omega), List.getElem?_replicate] at hv
    split at hv
    · cases hv; exact absurd rfl hn
    · cases hv
/-! the two judgements -/
/-- the links to a nest mate's constructor -/
def NWs (U : State) : Prop := ∀ e ∈ mtb, e.2.2.2.2.1 = 3 → va_Nw (.methodLinkNest (RR e.1) e.2.1 (yy e.2.2.1) "TrailBreakers") U
def Cx (p : Program) (R : Room) (s : State) (mi : MethodId) (args : Array Value) (meth : Method) (c : Code) (b B : Nat) (D : va_G) (cI cZ : ClassId) (scr : Cell) (m d : Nat) : Prop :=
  p.tables.exec = Jvm.exec ∧ c.code = cb m ∧ c.maxLocals = ml m ∧ s.vm.findClass (RR (ow m)) = some mi.cls ∧ (∀ w ∈ gt, w.before args s = true) ∧ va_K D clss [(cI, .int), (cZ, .boolean)] s ∧ b < B ∧ B ≤ s.heap.size ∧ (s.isArrayOf scr .int ∧ scr.vm ≠ .unknown) ∧ (d ≤ R.frames ∧ 40 * d ≤ R.locals) ∧ ((yy m).name = "<init>" → meth.name = "<init>") ∧ NWs s
def rOK (m : Nat) (r : Option Value) (i : Instr) : Prop := (i = .ireturn ∧ ∃ x : Int32, r = some (.int x) ∧ (rt m = some .int ∨ (rt m = some .boolean ∧ (x = 0 ∨ x = 1)))) ∨ (i = .lreturn ∧ ∃ x : Int64, r = some (.long x) ∧ rt m = some .long) ∨ (i = .return_ ∧ r = none ∧ rt m = none)
def Fz (p : Program) (l : Launch) (e : Env) (R : Room) (s : State) (mi : MethodId) (args : Array Value) (below : List Frame) (meth : Method) (c : Code) (b B : Nat) (D : va_G) (cI cZ : ClassId) (scr : Cell) (Z : State → Prop) (m : Nat) (r : Option Value) (σ' : Sto) : Prop :=
  ∀ (H : Heap) (locs : List Loc) (ls : Array Slot) (pc : Nat) (i : Instr) (cells slots : Nat), rOK m r i → decode (cb m) pc = .ok (i, 1) → HI b B D cI cZ scr σ' H → va_S (fun q => B ≤ q) s.heap H locs → cells ≤ R.cells → slots ≤ R.slots → W p l e R s mi args below meth c H locs cells slots Z (F0 mi pc ls (r.toList.map (cv b B)))
/-- from place pc of method m, with these locals, this stack, this store, the method ends with r, and the store is σ' then; d: how deep it calls; mc, ms: cells and slots that it makes -/
def WP (d mc ms m pc : Nat) (L S : List Value) (σ : Sto) (r : Option Value) (σ' : Sto) : Prop :=
  ∀ (p : Program) (l : Launch) (e : Env) (R : Room) (s : State) (mi : MethodId) (args : Array Value) (below : List Frame) (meth : Method) (c : Code) (b B : Nat) (D : va_G) (cI cZ : ClassId) (scr : Cell) (Z : State → Prop),
    Cx p R s mi args meth c b B D cI cZ scr m d → Fz p l e R s mi args below meth c b B D cI cZ scr Z m r σ' →
    ∀ (H : Heap) (locs : List Loc) (ls : Array Slot) (cells slots : Nat), HI b B D cI cZ scr σ H → va_S (fun q => B ≤ q) s.heap H locs → Lr b B ls (ml m) L → cells + mc ≤ R.cells → slots + ms ≤ R.slots →
      W p l e R s mi args below meth c H locs cells slots Z (F0 mi pc ls (S.map (cv b B)))
def Pm (b B : Nat) (D : va_G) (cI cZ : ClassId) (scr : Cell) (As : List Value) (σ : Sto) : Array Value → State → Prop := fun v U =>
  v = (As.map (cv b B)).toArray ∧ b < B ∧ B ≤ U.heap.size ∧ HI b B D cI cZ scr σ U.heap ∧ va_K D clss [(cI, .int), (cZ, .boolean)] U ∧ (U.isArrayOf scr .int ∧ scr.vm ≠ .unknown) ∧ NWs U
def Qm (b B : Nat) (D : va_G) (cI cZ : ClassId) (scr : Cell) (r : Option Value) (σ' : Sto) : Array Value → State → Outcome → State → Prop := fun _ st oc t =>
  oc = .returned (r.map (cv b B)) ∧ HI b B D cI cZ scr σ' t.heap ∧ va_F (fun q => B ≤ q) st t
def wm (m : Nat) : List Cond := Cond.code (yy m) (cb m) (ml m) (rt m) :: gt
/-- a whole call of method m -/
def Ev (d mc ms m : Nat) (As : List Value) (σ : Sto) (r : Option Value) (σ' : Sto) : Prop :=
  ∀ (l : Launch) (b B : Nat) (D : va_G) (cI cZ : ClassId) (scr : Cell), Met l (yy m) (wm m) { frames := d, cells := mc, slots := ms, locals := 40 * d } (Pm b B D cI cZ scr As σ) (Qm b B D cI cZ scr r σ') mc ms (fun q => B ≤ q)
theorem wm_good {m : Nat} (hm : m < 137) : GoodIn gt (wm m) := by
  intro w hw
  rcases List.mem_cons.mp hw with h | h
  · subst h
    exact ⟨gt_in (cw_all m hm) rfl, Or.inl rfl⟩
  · exact gt_good w h
set_option maxHeartbeats 1000000 in
theorem ev_of {d mc ms m : Nat} {As L : List Value} {σ : Sto} {r : Option Value} {σ' : Sto} (hm : m < 137) (hL : entL (ml m) As = L) (hl : (entA As).length ≤ ml m) (k : WP d mc ms m 0 L [] σ r σ') : Ev d mc ms m As σ r σ' := by
  intro l b B D cI cZ scr
  refine Met.ofW (cc := cb m) (maxL := ml m) (ret := rt m) (y_all m hm).2.2.1 rfl ?_
  intro p e s mi args below meth c s₁ Bd hml hv
  obtain ⟨rfl, hbB, hBs, hH, hK, hsc, hNw⟩ := hv
  have hts0 := atoms_spec (ws := wm m) Bd.pre
  have hts : ∀ w ∈ gt, w.before ((As.map (cv b B)).toArray) s = true := fun w h => hts0 w (List.mem_cons_of_mem _ h)
  have hown : s.vm.findClass (RR (ow m)) = some mi.cls := by rw [← (y_all m hm).2.2.2.1]; exact findClass_of_methodNamed Bd.named
  have hlocks := Bd.notSynchronized
  have hr := Bd.returns
  have hx := Bd.exec
  have hb := Bd.bytes
  have hl2 := Lr.entry b B As hl
  rw [hL] at hl2
  rw [lg_entry_eq]
  refine k p l e _ s mi _ below meth c b B D cI cZ scr _ ⟨hx, hb, hml, hown, hts, hK, hbB, hBs, hsc, ⟨Nat.le_refl _, Nat.le_refl _⟩, fun h => ?_, hNw⟩ ?_ s.heap [] _ 0 0 hH va_S.rf hl2 (by rw [Nat.zero_add]; exact Nat.le_refl _) (by rw [Nat.zero_add]; exact Nat.le_refl _)
  · have := (name_of_methodNamed Bd.named Bd.method).1
    rw [this]; exact h
  · intro H locs ls pc i cells slots hro hdec hH' hS' h1 h2
    refine W.widen (k := mc) (n := ms) h1 h2 ?_
    rcases hro with ⟨rfl, x, rfl, hrt⟩ | ⟨rfl, x, rfl, hrt⟩ | ⟨rfl, rfl, hrt⟩
    · rcases hrt with hrt | ⟨hrt, hx01⟩
      · exact W.zret (v := x) (ty := .int) hx hb (hr.trans hrt) rfl (fun t ht hW => ⟨rfl, by rw [ht]; exact hH', hS'.F ht⟩) hS'.2.2 hdec
      · refine W.zret (v := x) (ty := .boolean) hx hb (hr.trans hrt) ?_ (fun t ht hW => ⟨rfl, by rw [ht]; exact hH', hS'.F ht⟩) hS'.2.2 hdec
        rcases hx01 with rfl | rfl <;> rfl
    · exact W.lret (v := x) hx hb (hr.trans hrt) (fun t ht hW => ⟨rfl, by rw [ht]; exact hH', hS'.F ht⟩) hS'.2.2 hdec
    · exact W.vret hx hb (hr.trans hrt) (fun t ht hW => ⟨rfl, by rw [ht]; exact hH', hS'.F ht⟩) hS'.2.2 hdec

theorem wp_iconst {d mc ms m pc nx : Nat} {L S : List Value} {σ σ' : Sto} {r : Option Value} {X : Nat × Nat × Nat × Int} {n : Int} {v : Int32} (hd : ft m pc = some (.iconst n, 1, nx, X)) (hv : Int32.ofInt n = v) (k : WP d mc ms m nx L (.int v :: S) σ r σ') : WP d mc ms m pc L (S) σ r σ' := by
  intro p l e R s mi args below meth c b B D cI cZ scr Z C hZ H locs ls cells slots hH hS hL hc hs
  obtain ⟨hdec, rfl, -⟩ := ft_dec hd
  exact lv_iconst C.1 C.2.1 hdec hv (k p l e R s mi args below meth c b B D cI cZ scr Z C hZ H locs ls cells slots hH hS hL hc hs)
theorem wp_bipush {d mc ms m pc nx : Nat} {L S : List Value} {σ σ' : Sto} {r : Option Value} {X : Nat × Nat × Nat × Int} {n : Int} {v : Int32} (hd : ft m pc = some (.bipush n, 2, nx, X)) (hv : (Int8.ofInt n).toInt32 = v) (k : WP d mc ms m nx L (.int v :: S) σ r σ') : WP d mc ms m pc L (S) σ r σ' := by
  intro p l e R s mi args below meth c b B D cI cZ scr Z C hZ H locs ls cells slots hH hS hL hc hs
  obtain ⟨hdec, rfl, -⟩ := ft_dec hd
  exact lv_bipush C.1 C.2.1 hdec hv (k p l e R s mi args below meth c b B D cI cZ scr Z C hZ H locs ls cells slots hH hS hL hc hs)
theorem wp_sipush {d mc ms m pc nx : Nat} {L S : List Value} {σ σ' : Sto} {r : Option Value} {X : Nat × Nat × Nat × Int} {n : Int} {v : Int32} (hd : ft m pc = some (.sipush n, 3, nx, X)) (hv : (Int16.ofInt n).toInt32 = v) (k : WP d mc ms m nx L (.int v :: S) σ r σ') : WP d mc ms m pc L (S) σ r σ' := by
  intro p l e R s mi args below meth c b B D cI cZ scr Z C hZ H locs ls cells slots hH hS hL hc hs
  obtain ⟨hdec, rfl, -⟩ := ft_dec hd
  exact lv_sipush C.1 C.2.1 hdec hv (k p l e R s mi args below meth c b B D cI cZ scr Z C hZ H locs ls cells slots hH hS hL hc hs)
theorem wp_lconst {d mc ms m pc nx : Nat} {L S : List Value} {σ σ' : Sto} {r : Option Value} {X : Nat × Nat × Nat × Int} {n : Fin 2} {v : Int64} (hd : ft m pc = some (.lconst n, 1, nx, X)) (hv : Int64.ofNat (n : Nat) = v) (k : WP d mc ms m nx L (.long v :: S) σ r σ') : WP d mc ms m pc L (S) σ r σ' := by
  intro p l e R s mi args below meth c b B D cI cZ scr Z C hZ H locs ls cells slots hH hS hL hc hs
  obtain ⟨hdec, rfl, -⟩ := ft_dec hd
  exact lv_lconst C.1 C.2.1 hdec hv (k p l e R s mi args below meth c b B D cI cZ scr Z C hZ H locs ls cells slots hH hS hL hc hs)
theorem wp_iadd {d mc ms m pc nx : Nat} {L S : List Value} {σ σ' : Sto} {r : Option Value} {X : Nat × Nat × Nat × Int} {x y : Int32} (hd : ft m pc = some (.iadd, 1, nx, X))  (k : WP d mc ms m nx L (.int (x + y) :: S) σ r σ') : WP d mc ms m pc L (.int y :: .int x :: S) σ r σ' := by
  intro p l e R s mi args below meth c b B D cI cZ scr Z C hZ H locs ls cells slots hH hS hL hc hs
  obtain ⟨hdec, rfl, -⟩ := ft_dec hd
  exact lv_iadd C.1 C.2.1 hdec (k p l e R s mi args below meth c b B D cI cZ scr Z C hZ H locs ls cells slots hH hS hL hc hs)
theorem wp_isub {d mc ms m pc nx : Nat} {L S : List Value} {σ σ' : Sto} {r : Option Value} {X : Nat × Nat × Nat × Int} {x y : Int32} (hd : ft m pc = some (.isub, 1, nx, X))  (k : WP d mc ms m nx L (.int (x - y) :: S) σ r σ') : WP d mc ms m pc L (.int y :: .int x :: S) σ r σ' := by
  intro p l e R s mi args below meth c b B D cI cZ scr Z C hZ H locs ls cells slots hH hS hL hc hs
  obtain ⟨hdec, rfl, -⟩ := ft_dec hd
  exact lv_isub C.1 C.2.1 hdec (k p l e R s mi args below meth c b B D cI cZ scr Z C hZ H locs ls cells slots hH hS hL hc hs)
theorem wp_imul {d mc ms m pc nx : Nat} {L S : List Value} {σ σ' : Sto} {r : Option Value} {X : Nat × Nat × Nat × Int} {x y : Int32} (hd : ft m pc = some (.imul, 1, nx, X))  (k : WP d mc ms m nx L (.int (x * y) :: S) σ r σ') : WP d mc ms m pc L (.int y :: .int x :: S) σ r σ' := by
  intro p l e R s mi args below meth c b B D cI cZ scr Z C hZ H locs ls cells slots hH hS hL hc hs
  obtain ⟨hdec, rfl, -⟩ := ft_dec hd
  exact lv_imul C.1 C.2.1 hdec (k p l e R s mi args below meth c b B D cI cZ scr Z C hZ H locs ls cells slots hH hS hL hc hs)
theorem wp_iand {d mc ms m pc nx : Nat} {L S : List Value} {σ σ' : Sto} {r : Option Value} {X : Nat × Nat × Nat × Int} {x y : Int32} (hd : ft m pc = some (.iand, 1, nx, X))  (k : WP d mc ms m nx L (.int (x &&& y) :: S) σ r σ') : WP d mc ms m pc L (.int y :: .int x :: S) σ r σ' := by
  intro p l e R s mi args below meth c b B D cI cZ scr Z C hZ H locs ls cells slots hH hS hL hc hs
  obtain ⟨hdec, rfl, -⟩ := ft_dec hd
  exact lv_iand C.1 C.2.1 hdec (k p l e R s mi args below meth c b B D cI cZ scr Z C hZ H locs ls cells slots hH hS hL hc hs)
theorem wp_ior {d mc ms m pc nx : Nat} {L S : List Value} {σ σ' : Sto} {r : Option Value} {X : Nat × Nat × Nat × Int} {x y : Int32} (hd : ft m pc = some (.ior, 1, nx, X))  (k : WP d mc ms m nx L (.int (x ||| y) :: S) σ r σ') : WP d mc ms m pc L (.int y :: .int x :: S) σ r σ' := by
  intro p l e R s mi args below meth c b B D cI cZ scr Z C hZ H locs ls cells slots hH hS hL hc hs
  obtain ⟨hdec, rfl, -⟩ := ft_dec hd
  exact lv_ior C.1 C.2.1 hdec (k p l e R s mi args below meth c b B D cI cZ scr Z C hZ H locs ls cells slots hH hS hL hc hs)
theorem wp_ishl {d mc ms m pc nx : Nat} {L S : List Value} {σ σ' : Sto} {r : Option Value} {X : Nat × Nat × Nat × Int} {x y : Int32} (hd : ft m pc = some (.ishl, 1, nx, X))  (k : WP d mc ms m nx L (.int (x <<< (y &&& 31)) :: S) σ r σ') : WP d mc ms m pc L (.int y :: .int x :: S) σ r σ' := by
  intro p l e R s mi args below meth c b B D cI cZ scr Z C hZ H locs ls cells slots hH hS hL hc hs
  obtain ⟨hdec, rfl, -⟩ := ft_dec hd
  exact lv_ishl C.1 C.2.1 hdec (k p l e R s mi args below meth c b B D cI cZ scr Z C hZ H locs ls cells slots hH hS hL hc hs)
theorem wp_ishr {d mc ms m pc nx : Nat} {L S : List Value} {σ σ' : Sto} {r : Option Value} {X : Nat × Nat × Nat × Int} {x y : Int32} (hd : ft m pc = some (.ishr, 1, nx, X))  (k : WP d mc ms m nx L (.int (x >>> (y &&& 31)) :: S) σ r σ') : WP d mc ms m pc L (.int y :: .int x :: S) σ r σ' := by
  intro p l e R s mi args below meth c b B D cI cZ scr Z C hZ H locs ls cells slots hH hS hL hc hs
  obtain ⟨hdec, rfl, -⟩ := ft_dec hd
  exact lv_ishr C.1 C.2.1 hdec (k p l e R s mi args below meth c b B D cI cZ scr Z C hZ H locs ls cells slots hH hS hL hc hs)
theorem wp_idiv {d mc ms m pc nx : Nat} {L S : List Value} {σ σ' : Sto} {r : Option Value} {X : Nat × Nat × Nat × Int} {x y : Int32} (hd : ft m pc = some (.idiv, 1, nx, X)) (hne : ¬ y = 0) (k : WP d mc ms m nx L (.int (x / y) :: S) σ r σ') : WP d mc ms m pc L (.int y :: .int x :: S) σ r σ' := by
  intro p l e R s mi args below meth c b B D cI cZ scr Z C hZ H locs ls cells slots hH hS hL hc hs
  obtain ⟨hdec, rfl, -⟩ := ft_dec hd
  exact lv_idiv C.1 C.2.1 hdec hne (k p l e R s mi args below meth c b B D cI cZ scr Z C hZ H locs ls cells slots hH hS hL hc hs)
theorem wp_irem {d mc ms m pc nx : Nat} {L S : List Value} {σ σ' : Sto} {r : Option Value} {X : Nat × Nat × Nat × Int} {x y : Int32} (hd : ft m pc = some (.irem, 1, nx, X)) (hne : ¬ y = 0) (k : WP d mc ms m nx L (.int (x - x / y * y) :: S) σ r σ') : WP d mc ms m pc L (.int y :: .int x :: S) σ r σ' := by
  intro p l e R s mi args below meth c b B D cI cZ scr Z C hZ H locs ls cells slots hH hS hL hc hs
  obtain ⟨hdec, rfl, -⟩ := ft_dec hd
  exact lv_irem C.1 C.2.1 hdec hne (k p l e R s mi args below meth c b B D cI cZ scr Z C hZ H locs ls cells slots hH hS hL hc hs)
theorem wp_lrem {d mc ms m pc nx : Nat} {L S : List Value} {σ σ' : Sto} {r : Option Value} {X : Nat × Nat × Nat × Int} {x y : Int64} (hd : ft m pc = some (.lrem, 1, nx, X)) (hne : ¬ y = 0) (k : WP d mc ms m nx L (.long (x - x / y * y) :: S) σ r σ') : WP d mc ms m pc L (.long y :: .long x :: S) σ r σ' := by
  intro p l e R s mi args below meth c b B D cI cZ scr Z C hZ H locs ls cells slots hH hS hL hc hs
  obtain ⟨hdec, rfl, -⟩ := ft_dec hd
  exact lv_lrem C.1 C.2.1 hdec hne (k p l e R s mi args below meth c b B D cI cZ scr Z C hZ H locs ls cells slots hH hS hL hc hs)
theorem wp_ineg {d mc ms m pc nx : Nat} {L S : List Value} {σ σ' : Sto} {r : Option Value} {X : Nat × Nat × Nat × Int} {x : Int32} (hd : ft m pc = some (.ineg, 1, nx, X))  (k : WP d mc ms m nx L (.int (-x) :: S) σ r σ') : WP d mc ms m pc L (.int x :: S) σ r σ' := by
  intro p l e R s mi args below meth c b B D cI cZ scr Z C hZ H locs ls cells slots hH hS hL hc hs
  obtain ⟨hdec, rfl, -⟩ := ft_dec hd
  exact lv_ineg C.1 C.2.1 hdec (k p l e R s mi args below meth c b B D cI cZ scr Z C hZ H locs ls cells slots hH hS hL hc hs)
theorem wp_ladd {d mc ms m pc nx : Nat} {L S : List Value} {σ σ' : Sto} {r : Option Value} {X : Nat × Nat × Nat × Int} {x y : Int64} (hd : ft m pc = some (.ladd, 1, nx, X))  (k : WP d mc ms m nx L (.long (x + y) :: S) σ r σ') : WP d mc ms m pc L (.long y :: .long x :: S) σ r σ' := by
  intro p l e R s mi args below meth c b B D cI cZ scr Z C hZ H locs ls cells slots hH hS hL hc hs
  obtain ⟨hdec, rfl, -⟩ := ft_dec hd
  exact lv_ladd C.1 C.2.1 hdec (k p l e R s mi args below meth c b B D cI cZ scr Z C hZ H locs ls cells slots hH hS hL hc hs)
theorem wp_lmul {d mc ms m pc nx : Nat} {L S : List Value} {σ σ' : Sto} {r : Option Value} {X : Nat × Nat × Nat × Int} {x y : Int64} (hd : ft m pc = some (.lmul, 1, nx, X))  (k : WP d mc ms m nx L (.long (x * y) :: S) σ r σ') : WP d mc ms m pc L (.long y :: .long x :: S) σ r σ' := by
  intro p l e R s mi args below meth c b B D cI cZ scr Z C hZ H locs ls cells slots hH hS hL hc hs
  obtain ⟨hdec, rfl, -⟩ := ft_dec hd
  exact lv_lmul C.1 C.2.1 hdec (k p l e R s mi args below meth c b B D cI cZ scr Z C hZ H locs ls cells slots hH hS hL hc hs)
theorem wp_land {d mc ms m pc nx : Nat} {L S : List Value} {σ σ' : Sto} {r : Option Value} {X : Nat × Nat × Nat × Int} {x y : Int64} (hd : ft m pc = some (.land, 1, nx, X))  (k : WP d mc ms m nx L (.long (x &&& y) :: S) σ r σ') : WP d mc ms m pc L (.long y :: .long x :: S) σ r σ' := by
  intro p l e R s mi args below meth c b B D cI cZ scr Z C hZ H locs ls cells slots hH hS hL hc hs
  obtain ⟨hdec, rfl, -⟩ := ft_dec hd
  exact lv_land C.1 C.2.1 hdec (k p l e R s mi args below meth c b B D cI cZ scr Z C hZ H locs ls cells slots hH hS hL hc hs)
theorem wp_lcmp {d mc ms m pc nx : Nat} {L S : List Value} {σ σ' : Sto} {r : Option Value} {X : Nat × Nat × Nat × Int} {x y : Int64} (hd : ft m pc = some (.lcmp, 1, nx, X))  (k : WP d mc ms m nx L (.int (lg_cmp x y) :: S) σ r σ') : WP d mc ms m pc L (.long y :: .long x :: S) σ r σ' := by
  intro p l e R s mi args below meth c b B D cI cZ scr Z C hZ H locs ls cells slots hH hS hL hc hs
  obtain ⟨hdec, rfl, -⟩ := ft_dec hd
  exact W.lcmp C.1 C.2.1 hdec (k p l e R s mi args below meth c b B D cI cZ scr Z C hZ H locs ls cells slots hH hS hL hc hs)
theorem wp_i2l {d mc ms m pc nx : Nat} {L S : List Value} {σ σ' : Sto} {r : Option Value} {X : Nat × Nat × Nat × Int} {x : Int32} (hd : ft m pc = some (.i2l, 1, nx, X))  (k : WP d mc ms m nx L (.long x.toInt64 :: S) σ r σ') : WP d mc ms m pc L (.int x :: S) σ r σ' := by
  intro p l e R s mi args below meth c b B D cI cZ scr Z C hZ H locs ls cells slots hH hS hL hc hs
  obtain ⟨hdec, rfl, -⟩ := ft_dec hd
  exact lv_i2l C.1 C.2.1 hdec rfl (k p l e R s mi args below meth c b B D cI cZ scr Z C hZ H locs ls cells slots hH hS hL hc hs)
theorem wp_l2i {d mc ms m pc nx : Nat} {L S : List Value} {σ σ' : Sto} {r : Option Value} {X : Nat × Nat × Nat × Int} {x : Int64} (hd : ft m pc = some (.l2i, 1, nx, X))  (k : WP d mc ms m nx L (.int x.toInt32 :: S) σ r σ') : WP d mc ms m pc L (.long x :: S) σ r σ' := by
  intro p l e R s mi args below meth c b B D cI cZ scr Z C hZ H locs ls cells slots hH hS hL hc hs
  obtain ⟨hdec, rfl, -⟩ := ft_dec hd
  exact lv_l2i C.1 C.2.1 hdec rfl (k p l e R s mi args below meth c b B D cI cZ scr Z C hZ H locs ls cells slots hH hS hL hc hs)
theorem wp_dup {d mc ms m pc nx : Nat} {L S : List Value} {σ σ' : Sto} {r : Option Value} {X : Nat × Nat × Nat × Int} {v : Value} (hd : ft m pc = some (.dup, 1, nx, X)) (hv : v.category = 1) (k : WP d mc ms m nx L (v :: v :: S) σ r σ') : WP d mc ms m pc L (v :: S) σ r σ' := by
  intro p l e R s mi args below meth c b B D cI cZ scr Z C hZ H locs ls cells slots hH hS hL hc hs
  obtain ⟨hdec, rfl, -⟩ := ft_dec hd
  exact lv_dup C.1 C.2.1 hdec ((cv_cat b B v).trans hv) (k p l e R s mi args below meth c b B D cI cZ scr Z C hZ H locs ls cells slots hH hS hL hc hs)
theorem wp_pop {d mc ms m pc nx : Nat} {L S : List Value} {σ σ' : Sto} {r : Option Value} {X : Nat × Nat × Nat × Int} {v : Value} (hd : ft m pc = some (.pop, 1, nx, X)) (hv : v.category = 1) (k : WP d mc ms m nx L (S) σ r σ') : WP d mc ms m pc L (v :: S) σ r σ' := by
  intro p l e R s mi args below meth c b B D cI cZ scr Z C hZ H locs ls cells slots hH hS hL hc hs
  obtain ⟨hdec, rfl, -⟩ := ft_dec hd
  exact lv_pop C.1 C.2.1 hdec ((cv_cat b B v).trans hv) (k p l e R s mi args below meth c b B D cI cZ scr Z C hZ H locs ls cells slots hH hS hL hc hs)
theorem wp_dup2 {d mc ms m pc nx : Nat} {L S : List Value} {σ σ' : Sto} {r : Option Value} {X : Nat × Nat × Nat × Int} {v w : Value} (hd : ft m pc = some (.dup2, 1, nx, X)) (hv : v.category = 1) (hw : w.category = 1) (k : WP d mc ms m nx L (v :: w :: v :: w :: S) σ r σ') : WP d mc ms m pc L (v :: w :: S) σ r σ' := by
  intro p l e R s mi args below meth c b B D cI cZ scr Z C hZ H locs ls cells slots hH hS hL hc hs
  obtain ⟨hdec, rfl, -⟩ := ft_dec hd
  exact lv_dup2_11 C.1 C.2.1 hdec ((cv_cat b B v).trans hv) ((cv_cat b B w).trans hw) (k p l e R s mi args below meth c b B D cI cZ scr Z C hZ H locs ls cells slots hH hS hL hc hs)
theorem wp_icmp_eq {d mc ms m pc nx tg a2 a3 : Nat} {a4 : Int} {L S : List Value} {σ σ' : Sto} {r : Option Value} {x y : Int32} {off : Int} (hd : ft m pc = some (.if_icmp .eq off, 3, nx, tg, a2, a3, a4)) (h0 : 0 ≤ (pc : Int) + off) (kt : x = y → WP d mc ms m tg L S σ r σ') (kf : ¬ x = y → WP d mc ms m nx L S σ r σ') : WP d mc ms m pc L (.int y :: .int x :: S) σ r σ' := by
  intro p l e R s mi args below meth c b B D cI cZ scr Z C hZ H locs ls cells slots hH hS hL hc hs
  obtain ⟨hdec, rfl, hrs⟩ := ft_dec hd
  have ht : (pc : Int) + off = (tg : Int) := by
    have : ((pc : Int) + off).toNat = tg := congrArg (fun z => z.1) hrs
    omega
  exact lv_icmp_eq C.1 C.2.1 hdec ht (fun h => kt h p l e R s mi args below meth c b B D cI cZ scr Z C hZ H locs ls cells slots hH hS hL hc hs) (fun h => kf h p l e R s mi args below meth c b B D cI cZ scr Z C hZ H locs ls cells slots hH hS hL hc hs)
theorem wp_if_eq {d mc ms m pc nx tg a2 a3 : Nat} {a4 : Int} {L S : List Value} {σ σ' : Sto} {r : Option Value} {x : Int32} {off : Int} (hd : ft m pc = some (.ifCond .eq off, 3, nx, tg, a2, a3, a4)) (h0 : 0 ≤ (pc : Int) + off) (kt : x = 0 → WP d mc ms m tg L S σ r σ') (kf : ¬ x = 0 → WP d mc ms m nx L S σ r σ') : WP d mc ms m pc L (.int x :: S) σ r σ' := by
  intro p l e R s mi args below meth c b B D cI cZ scr Z C hZ H locs ls cells slots hH hS hL hc hs
  obtain ⟨hdec, rfl, hrs⟩ := ft_dec hd
  have ht : (pc : Int) + off = (tg : Int) := by
    have : ((pc : Int) + off).toNat = tg := congrArg (fun z => z.1) hrs
    omega
  exact lv_if_eq C.1 C.2.1 hdec ht (fun h => kt h p l e R s mi args below meth c b B D cI cZ scr Z C hZ H locs ls cells slots hH hS hL hc hs) (fun h => kf h p l e R s mi args below meth c b B D cI cZ scr Z C hZ H locs ls cells slots hH hS hL hc hs)
theorem wp_icmp_ne {d mc ms m pc nx tg a2 a3 : Nat} {a4 : Int} {L S : List Value} {σ σ' : Sto} {r : Option Value} {x y : Int32} {off : Int} (hd : ft m pc = some (.if_icmp .ne off, 3, nx, tg, a2, a3, a4)) (h0 : 0 ≤ (pc : Int) + off) (kt : ¬ x = y → WP d mc ms m tg L S σ r σ') (kf : x = y → WP d mc ms m nx L S σ r σ') : WP d mc ms m pc L (.int y :: .int x :: S) σ r σ' := by
  intro p l e R s mi args below meth c b B D cI cZ scr Z C hZ H locs ls cells slots hH hS hL hc hs
  obtain ⟨hdec, rfl, hrs⟩ := ft_dec hd
  have ht : (pc : Int) + off = (tg : Int) := by
    have : ((pc : Int) + off).toNat = tg := congrArg (fun z => z.1) hrs
    omega
  exact lv_icmp_ne C.1 C.2.1 hdec ht (fun h => kt h p l e R s mi args below meth c b B D cI cZ scr Z C hZ H locs ls cells slots hH hS hL hc hs) (fun h => kf h p l e R s mi args below meth c b B D cI cZ scr Z C hZ H locs ls cells slots hH hS hL hc hs)
theorem wp_if_ne {d mc ms m pc nx tg a2 a3 : Nat} {a4 : Int} {L S : List Value} {σ σ' : Sto} {r : Option Value} {x : Int32} {off : Int} (hd : ft m pc = some (.ifCond .ne off, 3, nx, tg, a2, a3, a4)) (h0 : 0 ≤ (pc : Int) + off) (kt : ¬ x = 0 → WP d mc ms m tg L S σ r σ') (kf : x = 0 → WP d mc ms m nx L S σ r σ') : WP d mc ms m pc L (.int x :: S) σ r σ' := by
  intro p l e R s mi args below meth c b B D cI cZ scr Z C hZ H locs ls cells slots hH hS hL hc hs
  obtain ⟨hdec, rfl, hrs⟩ := ft_dec hd
  have ht : (pc : Int) + off = (tg : Int) := by
    have : ((pc : Int) + off).toNat = tg := congrArg (fun z => z.1) hrs
    omega
  exact lv_if_ne C.1 C.2.1 hdec ht (fun h => kt h p l e R s mi args below meth c b B D cI cZ scr Z C hZ H locs ls cells slots hH hS hL hc hs) (fun h => kf h p l e R s mi args below meth c b B D cI cZ scr Z C hZ H locs ls cells slots hH hS hL hc hs)
theorem wp_icmp_lt {d mc ms m pc nx tg a2 a3 : Nat} {a4 : Int} {L S : List Value} {σ σ' : Sto} {r : Option Value} {x y : Int32} {off : Int} (hd : ft m pc = some (.if_icmp .lt off, 3, nx, tg, a2, a3, a4)) (h0 : 0 ≤ (pc : Int) + off) (kt : x < y → WP d mc ms m tg L S σ r σ') (kf : ¬ x < y → WP d mc ms m nx L S σ r σ') : WP d mc ms m pc L (.int y :: .int x :: S) σ r σ' := by
  intro p l e R s mi args below meth c b B D cI cZ scr Z C hZ H locs ls cells slots hH hS hL hc hs
  obtain ⟨hdec, rfl, hrs⟩ := ft_dec hd
  have ht : (pc : Int) + off = (tg : Int) := by
    have : ((pc : Int) + off).toNat = tg := congrArg (fun z => z.1) hrs
    omega
  exact lv_icmp_lt C.1 C.2.1 hdec ht (fun h => kt h p l e R s mi args below meth c b B D cI cZ scr Z C hZ H locs ls cells slots hH hS hL hc hs) (fun h => kf h p l e R s mi args below meth c b B D cI cZ scr Z C hZ H locs ls cells slots hH hS hL hc hs)
theorem wp_if_lt {d mc ms m pc nx tg a2 a3 : Nat} {a4 : Int} {L S : List Value} {σ σ' : Sto} {r : Option Value} {x : Int32} {off : Int} (hd : ft m pc = some (.ifCond .lt off, 3, nx, tg, a2, a3, a4)) (h0 : 0 ≤ (pc : Int) + off) (kt : x < 0 → WP d mc ms m tg L S σ r σ') (kf : ¬ x < 0 → WP d mc ms m nx L S σ r σ') : WP d mc ms m pc L (.int x :: S) σ r σ' := by
  intro p l e R s mi args below meth c b B D cI cZ scr Z C hZ H locs ls cells slots hH hS hL hc hs
  obtain ⟨hdec, rfl, hrs⟩ := ft_dec hd
  have ht : (pc : Int) + off = (tg : Int) := by
    have : ((pc : Int) + off).toNat = tg := congrArg (fun z => z.1) hrs
    omega
  exact lv_if_lt C.1 C.2.1 hdec ht (fun h => kt h p l e R s mi args below meth c b B D cI cZ scr Z C hZ H locs ls cells slots hH hS hL hc hs) (fun h => kf h p l e R s mi args below meth c b B D cI cZ scr Z C hZ H locs ls cells slots hH hS hL hc hs)
theorem wp_icmp_ge {d mc ms m pc nx tg a2 a3 : Nat} {a4 : Int} {L S : List Value} {σ σ' : Sto} {r : Option Value} {x y : Int32} {off : Int} (hd : ft m pc = some (.if_icmp .ge off, 3, nx, tg, a2, a3, a4)) (h0 : 0 ≤ (pc : Int) + off) (kt : y ≤ x → WP d mc ms m tg L S σ r σ') (kf : ¬ y ≤ x → WP d mc ms m nx L S σ r σ') : WP d mc ms m pc L (.int y :: .int x :: S) σ r σ' := by
  intro p l e R s mi args below meth c b B D cI cZ scr Z C hZ H locs ls cells slots hH hS hL hc hs
  obtain ⟨hdec, rfl, hrs⟩ := ft_dec hd
  have ht : (pc : Int) + off = (tg : Int) := by
    have : ((pc : Int) + off).toNat = tg := congrArg (fun z => z.1) hrs
    omega
  exact lv_icmp_ge C.1 C.2.1 hdec ht (fun h => kt h p l e R s mi args below meth c b B D cI cZ scr Z C hZ H locs ls cells slots hH hS hL hc hs) (fun h => kf h p l e R s mi args below meth c b B D cI cZ scr Z C hZ H locs ls cells slots hH hS hL hc hs)
theorem wp_if_ge {d mc ms m pc nx tg a2 a3 : Nat} {a4 : Int} {L S : List Value} {σ σ' : Sto} {r : Option Value} {x : Int32} {off : Int} (hd : ft m pc = some (.ifCond .ge off, 3, nx, tg, a2, a3, a4)) (h0 : 0 ≤ (pc : Int) + off) (kt : 0 ≤ x → WP d mc ms m tg L S σ r σ') (kf : ¬ 0 ≤ x → WP d mc ms m nx L S σ r σ') : WP d mc ms m pc L (.int x :: S) σ r σ' := by
  intro p l e R s mi args below meth c b B D cI cZ scr Z C hZ H locs ls cells slots hH hS hL hc hs
  obtain ⟨hdec, rfl, hrs⟩ := ft_dec hd
  have ht : (pc : Int) + off = (tg : Int) := by
    have : ((pc : Int) + off).toNat = tg := congrArg (fun z => z.1) hrs
    omega
  exact lv_if_ge C.1 C.2.1 hdec ht (fun h => kt h p l e R s mi args below meth c b B D cI cZ scr Z C hZ H locs ls cells slots hH hS hL hc hs) (fun h => kf h p l e R s mi args below meth c b B D cI cZ scr Z C hZ H locs ls cells slots hH hS hL hc hs)
theorem wp_icmp_gt {d mc ms m pc nx tg a2 a3 : Nat} {a4 : Int} {L S : List Value} {σ σ' : Sto} {r : Option Value} {x y : Int32} {off : Int} (hd : ft m pc = some (.if_icmp .gt off, 3, nx, tg, a2, a3, a4)) (h0 : 0 ≤ (pc : Int) + off) (kt : y < x → WP d mc ms m tg L S σ r σ') (kf : ¬ y < x → WP d mc ms m nx L S σ r σ') : WP d mc ms m pc L (.int y :: .int x :: S) σ r σ' := by
  intro p l e R s mi args below meth c b B D cI cZ scr Z C hZ H locs ls cells slots hH hS hL hc hs
  obtain ⟨hdec, rfl, hrs⟩ := ft_dec hd
  have ht : (pc : Int) + off = (tg : Int) := by
    have : ((pc : Int) + off).toNat = tg := congrArg (fun z => z.1) hrs
    omega
  exact lv_icmp_gt C.1 C.2.1 hdec ht (fun h => kt h p l e R s mi args below meth c b B D cI cZ scr Z C hZ H locs ls cells slots hH hS hL hc hs) (fun h => kf h p l e R s mi args below meth c b B D cI cZ scr Z C hZ H locs ls cells slots hH hS hL hc hs)
theorem wp_if_gt {d mc ms m pc nx tg a2 a3 : Nat} {a4 : Int} {L S : List Value} {σ σ' : Sto} {r : Option Value} {x : Int32} {off : Int} (hd : ft m pc = some (.ifCond .gt off, 3, nx, tg, a2, a3, a4)) (h0 : 0 ≤ (pc : Int) + off) (kt : 0 < x → WP d mc ms m tg L S σ r σ') (kf : ¬ 0 < x → WP d mc ms m nx L S σ r σ') : WP d mc ms m pc L (.int x :: S) σ r σ' := by
  intro p l e R s mi args below meth c b B D cI cZ scr Z C hZ H locs ls cells slots hH hS hL hc hs
  obtain ⟨hdec, rfl, hrs⟩ := ft_dec hd
  have ht : (pc : Int) + off = (tg : Int) := by
    have : ((pc : Int) + off).toNat = tg := congrArg (fun z => z.1) hrs
    omega
  exact lv_if_gt C.1 C.2.1 hdec ht (fun h => kt h p l e R s mi args below meth c b B D cI cZ scr Z C hZ H locs ls cells slots hH hS hL hc hs) (fun h => kf h p l e R s mi args below meth c b B D cI cZ scr Z C hZ H locs ls cells slots hH hS hL hc hs)
theorem wp_icmp_le {d mc ms m pc nx tg a2 a3 : Nat} {a4 : Int} {L S : List Value} {σ σ' : Sto} {r : Option Value} {x y : Int32} {off : Int} (hd : ft m pc = some (.if_icmp .le off, 3, nx, tg, a2, a3, a4)) (h0 : 0 ≤ (pc : Int) + off) (kt : x ≤ y → WP d mc ms m tg L S σ r σ') (kf : ¬ x ≤ y → WP d mc ms m nx L S σ r σ') : WP d mc ms m pc L (.int y :: .int x :: S) σ r σ' := by
  intro p l e R s mi args below meth c b B D cI cZ scr Z C hZ H locs ls cells slots hH hS hL hc hs
  obtain ⟨hdec, rfl, hrs⟩ := ft_dec hd
  have ht : (pc : Int) + off = (tg : Int) := by
    have : ((pc : Int) + off).toNat = tg := congrArg (fun z => z.1) hrs
    omega
  exact lv_icmp_le C.1 C.2.1 hdec ht (fun h => kt h p l e R s mi args below meth c b B D cI cZ scr Z C hZ H locs ls cells slots hH hS hL hc hs) (fun h => kf h p l e R s mi args below meth c b B D cI cZ scr Z C hZ H locs ls cells slots hH hS hL hc hs)
theorem wp_if_le {d mc ms m pc nx tg a2 a3 : Nat} {a4 : Int} {L S : List Value} {σ σ' : Sto} {r : Option Value} {x : Int32} {off : Int} (hd : ft m pc = some (.ifCond .le off, 3, nx, tg, a2, a3, a4)) (h0 : 0 ≤ (pc : Int) + off) (kt : x ≤ 0 → WP d mc ms m tg L S σ r σ') (kf : ¬ x ≤ 0 → WP d mc ms m nx L S σ r σ') : WP d mc ms m pc L (.int x :: S) σ r σ' := by
  intro p l e R s mi args below meth c b B D cI cZ scr Z C hZ H locs ls cells slots hH hS hL hc hs
  obtain ⟨hdec, rfl, hrs⟩ := ft_dec hd
  have ht : (pc : Int) + off = (tg : Int) := by
    have : ((pc : Int) + off).toNat = tg := congrArg (fun z => z.1) hrs
    omega
  exact lv_if_le C.1 C.2.1 hdec ht (fun h => kt h p l e R s mi args below meth c b B D cI cZ scr Z C hZ H locs ls cells slots hH hS hL hc hs) (fun h => kf h p l e R s mi args below meth c b B D cI cZ scr Z C hZ H locs ls cells slots hH hS hL hc hs)
theorem wp_goto {d mc ms m pc nx tg a2 a3 : Nat} {a4 : Int} {L S : List Value} {σ σ' : Sto} {r : Option Value} {off : Int} (hd : ft m pc = some (.goto off, 3, nx, tg, a2, a3, a4)) (h0 : 0 ≤ (pc : Int) + off) (k : WP d mc ms m tg L S σ r σ') : WP d mc ms m pc L S σ r σ' := by
  intro p l e R s mi args below meth c b B D cI cZ scr Z C hZ H locs ls cells slots hH hS hL hc hs
  obtain ⟨hdec, rfl, hrs⟩ := ft_dec hd
  have ht : (pc : Int) + off = (tg : Int) := by
    have : ((pc : Int) + off).toNat = tg := congrArg (fun z => z.1) hrs
    omega
  exact lv_goto C.1 C.2.1 hdec ht (k p l e R s mi args below meth c b B D cI cZ scr Z C hZ H locs ls cells slots hH hS hL hc hs)
theorem wp_swin {d mc ms m pc nx : Nat} {L S : List Value} {σ σ' : Sto} {r : Option Value} {X : Nat × Nat × Nat × Int} {dflt lo hi : Int} {offs : Array Int} {len tgt : Nat} {x : Int32} {off : Int} (hd : ft m pc = some (.tableswitch dflt lo hi offs, len, nx, X)) (h1 : ¬ x.toInt < lo) (h2 : ¬ hi < x.toInt) (ho : offs[(x.toInt - lo).toNat]? = some off) (ht : (pc : Int) + off = (tgt : Int)) (k : WP d mc ms m tgt L S σ r σ') : WP d mc ms m pc L (.int x :: S) σ r σ' := by
  intro p l e R s mi args below meth c b B D cI cZ scr Z C hZ H locs ls cells slots hH hS hL hc hs
  obtain ⟨hdec, rfl, -⟩ := ft_dec hd
  exact lv_tableIn C.1 C.2.1 hdec h1 h2 ho ht (k p l e R s mi args below meth c b B D cI cZ scr Z C hZ H locs ls cells slots hH hS hL hc hs)
theorem wp_swout {d mc ms m pc nx : Nat} {L S : List Value} {σ σ' : Sto} {r : Option Value} {X : Nat × Nat × Nat × Int} {dflt lo hi : Int} {offs : Array Int} {len tgt : Nat} {x : Int32} (hd : ft m pc = some (.tableswitch dflt lo hi offs, len, nx, X)) (h : x.toInt < lo ∨ hi < x.toInt) (ht : (pc : Int) + dflt = (tgt : Int)) (k : WP d mc ms m tgt L S σ r σ') : WP d mc ms m pc L (.int x :: S) σ r σ' := by
  intro p l e R s mi args below meth c b B D cI cZ scr Z C hZ H locs ls cells slots hH hS hL hc hs
  obtain ⟨hdec, rfl, -⟩ := ft_dec hd
  exact lv_tableOut C.1 C.2.1 hdec h ht (k p l e R s mi args below meth c b B D cI cZ scr Z C hZ H locs ls cells slots hH hS hL hc hs)
theorem wp_ldc {d mc ms m pc nx a1 a2 a3 idx : Nat} {L S : List Value} {σ σ' : Sto} {r : Option Value} {z : Int} {v : Int32} (hd : ft m pc = some (.ldc idx, 2, nx, a1, a2, a3, z)) (h9 : a3 ≠ 99) (h0 : a1 = 0) (hv : Int32.ofInt z = v) (k : WP d mc ms m nx L (.int v :: S) σ r σ') : WP d mc ms m pc L S σ r σ' := by
  intro p l e R s mi args below meth c b B D cI cZ scr Z C hZ H locs ls cells slots hH hS hL hc hs
  obtain ⟨hdec, rfl, hrs⟩ := ft_dec hd
  subst hv
  exact lv_ldc C.1 C.2.1 C.2.2.2.1 (C.2.2.2.2.1 _ (gt_at ((k_all _ (look_in hrs h9)).1 h0) rfl)) hdec (k p l e R s mi args below meth c b B D cI cZ scr Z C hZ H locs ls cells slots hH hS hL hc hs)
theorem wp_ldc2 {d mc ms m pc nx a1 a2 a3 idx : Nat} {L S : List Value} {σ σ' : Sto} {r : Option Value} {z : Int} {v : Int64} (hd : ft m pc = some (.ldc2_w idx, 3, nx, a1, a2, a3, z)) (h9 : a3 ≠ 99) (h0 : a1 = 1) (hv : Int64.ofInt z = v) (k : WP d mc ms m nx L (.long v :: S) σ r σ') : WP d mc ms m pc L S σ r σ' := by
  intro p l e R s mi args below meth c b B D cI cZ scr Z C hZ H locs ls cells slots hH hS hL hc hs
  obtain ⟨hdec, rfl, hrs⟩ := ft_dec hd
  subst hv
  exact lv_ldc2 C.1 C.2.1 C.2.2.2.1 (C.2.2.2.2.1 _ (gt_at ((k_all _ (look_in hrs h9)).2 h0) rfl)) hdec (k p l e R s mi args below meth c b B D cI cZ scr Z C hZ H locs ls cells slots hH hS hL hc hs)
theorem wp_iret {d mc ms m pc nx : Nat} {L : List Value} {σ σ' : Sto} {r : Option Value} {X : Nat × Nat × Nat × Int} {x : Int32} (hd : ft m pc = some (.ireturn, 1, nx, X)) (ht : rt m = some .int) (hr : r = some (.int x)) (hσ : σ' = σ) : WP d mc ms m pc L [.int x] σ r σ' := by
  intro p l e R s mi args below meth c b B D cI cZ scr Z C hZ H locs ls cells slots hH hS hL hc hs
  subst hr; subst hσ
  exact hZ H locs ls pc _ cells slots (Or.inl ⟨rfl, x, rfl, Or.inl ht⟩) (ft_dec hd).1 hH hS (by omega) (by omega)
theorem wp_zret {d mc ms m pc nx : Nat} {L : List Value} {σ σ' : Sto} {r : Option Value} {X : Nat × Nat × Nat × Int} {x : Int32} (hd : ft m pc = some (.ireturn, 1, nx, X)) (ht : rt m = some .boolean) (h01 : x = 0 ∨ x = 1) (hr : r = some (.int x)) (hσ : σ' = σ) : WP d mc ms m pc L [.int x] σ r σ' := by
  intro p l e R s mi args below meth c b B D cI cZ scr Z C hZ H locs ls cells slots hH hS hL hc hs
  subst hr; subst hσ
  exact hZ H locs ls pc _ cells slots (Or.inl ⟨rfl, x, rfl, Or.inr ⟨ht, h01⟩⟩) (ft_dec hd).1 hH hS (by omega) (by omega)
theorem wp_lret {d mc ms m pc nx : Nat} {L : List Value} {σ σ' : Sto} {r : Option Value} {X : Nat × Nat × Nat × Int} {x : Int64} (hd : ft m pc = some (.lreturn, 1, nx, X)) (ht : rt m = some .long) (hr : r = some (.long x)) (hσ : σ' = σ) : WP d mc ms m pc L [.long x] σ r σ' := by
  intro p l e R s mi args below meth c b B D cI cZ scr Z C hZ H locs ls cells slots hH hS hL hc hs
  subst hr; subst hσ
  exact hZ H locs ls pc _ cells slots (Or.inr (Or.inl ⟨rfl, x, rfl, ht⟩)) (ft_dec hd).1 hH hS (by omega) (by omega)
theorem wp_vret {d mc ms m pc nx : Nat} {L : List Value} {σ σ' : Sto} {r : Option Value} {X : Nat × Nat × Nat × Int} (hd : ft m pc = some (.return_, 1, nx, X)) (ht : rt m = none) (hr : r = none) (hσ : σ' = σ) : WP d mc ms m pc L [] σ r σ' := by
  intro p l e R s mi args below meth c b B D cI cZ scr Z C hZ H locs ls cells slots hH hS hL hc hs
  subst hr; subst hσ
  exact hZ H locs ls pc _ cells slots (Or.inr (Or.inr ⟨rfl, rfl, ht⟩)) (ft_dec hd).1 hH hS (by omega) (by omega)
theorem wp_iload_0 {d mc ms m pc nx : Nat} {L S : List Value} {σ σ' : Sto} {r : Option Value} {X : Nat × Nat × Nat × Int}  {x : Int32} (hd : ft m pc = some (.iload_n 0, 1, nx, X)) (k : WP d mc ms m nx (.int x :: L) (.int x :: S) σ r σ') : WP d mc ms m pc (.int x :: L) S σ r σ' := by
  intro p l e R s mi args below meth c b B D cI cZ scr Z C hZ H locs ls cells slots hH hS hL hc hs
  obtain ⟨hdec, rfl, -⟩ := ft_dec hd
  exact lv_iload_n C.1 C.2.1 hdec rfl (hL.get (k := 0) (v := .int x) rfl (fun h => by cases h)) (k p l e R s mi args below meth c b B D cI cZ scr Z C hZ H locs ls cells slots hH hS hL hc hs)
theorem wp_aload_0 {d mc ms m pc nx : Nat} {L S : List Value} {σ σ' : Sto} {r : Option Value} {X : Nat × Nat × Nat × Int}  {x : Nat} (hd : ft m pc = some (.aload_n 0, 1, nx, X)) (k : WP d mc ms m nx (.ref x :: L) (.ref x :: S) σ r σ') : WP d mc ms m pc (.ref x :: L) S σ r σ' := by
  intro p l e R s mi args below meth c b B D cI cZ scr Z C hZ H locs ls cells slots hH hS hL hc hs
  obtain ⟨hdec, rfl, -⟩ := ft_dec hd
  exact lv_aload_n C.1 C.2.1 hdec rfl (hL.get (k := 0) (v := .ref x) rfl (fun h => by cases h)) (k p l e R s mi args below meth c b B D cI cZ scr Z C hZ H locs ls cells slots hH hS hL hc hs)
theorem wp_lload_0 {d mc ms m pc nx : Nat} {L S : List Value} {σ σ' : Sto} {r : Option Value} {X : Nat × Nat × Nat × Int}  {x : Int64} (hd : ft m pc = some (.lload_n 0, 1, nx, X)) (k : WP d mc ms m nx (.long x :: L) (.long x :: S) σ r σ') : WP d mc ms m pc (.long x :: L) S σ r σ' := by
  intro p l e R s mi args below meth c b B D cI cZ scr Z C hZ H locs ls cells slots hH hS hL hc hs
  obtain ⟨hdec, rfl, -⟩ := ft_dec hd
  exact lv_lload_n C.1 C.2.1 hdec rfl (hL.get (k := 0) (v := .long x) rfl (fun h => by cases h)) (k p l e R s mi args below meth c b B D cI cZ scr Z C hZ H locs ls cells slots hH hS hL hc hs)
theorem wp_istore_0 {d mc ms m pc nx : Nat} {L S : List Value} {σ σ' : Sto} {r : Option Value} {X : Nat × Nat × Nat × Int}  {u : Value} {x : Int32} (hd : ft m pc = some (.istore_n 0, 1, nx, X)) (hn : 0 < ml m)  (k : WP d mc ms m nx (.int x :: L) S σ r σ') : WP d mc ms m pc (u :: L) (.int x :: S) σ r σ' := by
  intro p l e R s mi args below meth c b B D cI cZ scr Z C hZ H locs ls cells slots hH hS hL hc hs
  obtain ⟨hdec, rfl, -⟩ := ft_dec hd
  refine lv_istore_n C.1 C.2.1 hdec rfl hL hn rfl (fun ls' hl' => ?_)
  exact k p l e R s mi args below meth c b B D cI cZ scr Z C hZ H locs ls' cells slots hH hS (Lr.set1 (v := .int x) hl' (fun j w hj hw => by cases hj)) hc hs
theorem wp_astore_0 {d mc ms m pc nx : Nat} {L S : List Value} {σ σ' : Sto} {r : Option Value} {X : Nat × Nat × Nat × Int}  {u : Value} {x : Nat} (hd : ft m pc = some (.astore_n 0, 1, nx, X)) (hn : 0 < ml m)  (k : WP d mc ms m nx (.ref x :: L) S σ r σ') : WP d mc ms m pc (u :: L) (.ref x :: S) σ r σ' := by
  intro p l e R s mi args below meth c b B D cI cZ scr Z C hZ H locs ls cells slots hH hS hL hc hs
  obtain ⟨hdec, rfl, -⟩ := ft_dec hd
  refine lv_astore_n C.1 C.2.1 hdec rfl hL hn rfl (fun ls' hl' => ?_)
  exact k p l e R s mi args below meth c b B D cI cZ scr Z C hZ H locs ls' cells slots hH hS (Lr.set1 (v := .ref x) hl' (fun j w hj hw => by cases hj)) hc hs
theorem wp_lstore_0 {d mc ms m pc nx : Nat} {L S : List Value} {σ σ' : Sto} {r : Option Value} {X : Nat × Nat × Nat × Int}  {u u2 : Value} {x : Int64} (hd : ft m pc = some (.lstore_n 0, 1, nx, X)) (hn : 0 + 1 < ml m)  (k : WP d mc ms m nx (.long x :: .null :: L) S σ r σ') : WP d mc ms m pc (u :: u2 :: L) (.long x :: S) σ r σ' := by
  intro p l e R s mi args below meth c b B D cI cZ scr Z C hZ H locs ls cells slots hH hS hL hc hs
  obtain ⟨hdec, rfl, -⟩ := ft_dec hd
  refine lv_lstore_n C.1 C.2.1 hdec rfl hL hn rfl (fun ls' hl' => ?_)
  exact k p l e R s mi args below meth c b B D cI cZ scr Z C hZ H locs ls' cells slots hH hS (Lr.set2 (v := .long x) hl' (fun j w hj hw => by cases hj)) hc hs
theorem wp_iinc_0 {d mc ms m pc nx : Nat} {L S : List Value} {σ σ' : Sto} {r : Option Value} {X : Nat × Nat × Nat × Int}  {x v : Int32} {n : Int} (hd : ft m pc = some (.iinc 0 n, 3, nx, X)) (hn : 0 < ml m)  (hv : x + Int32.ofInt n = v) (k : WP d mc ms m nx (.int v :: L) S σ r σ') : WP d mc ms m pc (.int x :: L) S σ r σ' := by
  intro p l e R s mi args below meth c b B D cI cZ scr Z C hZ H locs ls cells slots hH hS hL hc hs
  obtain ⟨hdec, rfl, -⟩ := ft_dec hd
  obtain ⟨j, hj⟩ := List.getElem?_of_mem (lvo_mem (q := (0, .int x)).mpr ⟨.int x, (rfl : (Value.int x :: L)[0]? = some (.int x)), (fun h => by cases h), (rfl : Value.int x = cv b B (.int x))⟩)
  refine lv_iinc C.1 C.2.1 hdec hL hj hv hn rfl (fun ls' hl' => ?_)
  exact k p l e R s mi args below meth c b B D cI cZ scr Z C hZ H locs ls' cells slots hH hS (Lr.set1 (v := .int v) hl' (fun j w hj hw => by cases hj)) hc hs
theorem wp_iload_1 {d mc ms m pc nx : Nat} {L S : List Value} {σ σ' : Sto} {r : Option Value} {X : Nat × Nat × Nat × Int} {l0 : Value} {x : Int32} (hd : ft m pc = some (.iload_n 1, 1, nx, X)) (k : WP d mc ms m nx (l0 :: .int x :: L) (.int x :: S) σ r σ') : WP d mc ms m pc (l0 :: .int x :: L) S σ r σ' := by
  intro p l e R s mi args below meth c b B D cI cZ scr Z C hZ H locs ls cells slots hH hS hL hc hs
  obtain ⟨hdec, rfl, -⟩ := ft_dec hd
  exact lv_iload_n C.1 C.2.1 hdec rfl (hL.get (k := 1) (v := .int x) rfl (fun h => by cases h)) (k p l e R s mi args below meth c b B D cI cZ scr Z C hZ H locs ls cells slots hH hS hL hc hs)
theorem wp_aload_1 {d mc ms m pc nx : Nat} {L S : List Value} {σ σ' : Sto} {r : Option Value} {X : Nat × Nat × Nat × Int} {l0 : Value} {x : Nat} (hd : ft m pc = some (.aload_n 1, 1, nx, X)) (k : WP d mc ms m nx (l0 :: .ref x :: L) (.ref x :: S) σ r σ') : WP d mc ms m pc (l0 :: .ref x :: L) S σ r σ' := by
  intro p l e R s mi args below meth c b B D cI cZ scr Z C hZ H locs ls cells slots hH hS hL hc hs
  obtain ⟨hdec, rfl, -⟩ := ft_dec hd
  exact lv_aload_n C.1 C.2.1 hdec rfl (hL.get (k := 1) (v := .ref x) rfl (fun h => by cases h)) (k p l e R s mi args below meth c b B D cI cZ scr Z C hZ H locs ls cells slots hH hS hL hc hs)
theorem wp_lload_1 {d mc ms m pc nx : Nat} {L S : List Value} {σ σ' : Sto} {r : Option Value} {X : Nat × Nat × Nat × Int} {l0 : Value} {x : Int64} (hd : ft m pc = some (.lload_n 1, 1, nx, X)) (k : WP d mc ms m nx (l0 :: .long x :: L) (.long x :: S) σ r σ') : WP d mc ms m pc (l0 :: .long x :: L) S σ r σ' := by
  intro p l e R s mi args below meth c b B D cI cZ scr Z C hZ H locs ls cells slots hH hS hL hc hs
  obtain ⟨hdec, rfl, -⟩ := ft_dec hd
  exact lv_lload_n C.1 C.2.1 hdec rfl (hL.get (k := 1) (v := .long x) rfl (fun h => by cases h)) (k p l e R s mi args below meth c b B D cI cZ scr Z C hZ H locs ls cells slots hH hS hL hc hs)
theorem wp_istore_1 {d mc ms m pc nx : Nat} {L S : List Value} {σ σ' : Sto} {r : Option Value} {X : Nat × Nat × Nat × Int} {l0 : Value} {u : Value} {x : Int32} (hd : ft m pc = some (.istore_n 1, 1, nx, X)) (hn : 1 < ml m) (hp : l0.category = 1) (k : WP d mc ms m nx (l0 :: .int x :: L) S σ r σ') : WP d mc ms m pc (l0 :: u :: L) (.int x :: S) σ r σ' := by
  intro p l e R s mi args below meth c b B D cI cZ scr Z C hZ H locs ls cells slots hH hS hL hc hs
  obtain ⟨hdec, rfl, -⟩ := ft_dec hd
  refine lv_istore_n C.1 C.2.1 hdec rfl hL hn rfl (fun ls' hl' => ?_)
  exact k p l e R s mi args below meth c b B D cI cZ scr Z C hZ H locs ls' cells slots hH hS (Lr.set1 (v := .int x) hl' (fun j w hj hw => by cases hj; cases hw; exact hp)) hc hs
theorem wp_astore_1 {d mc ms m pc nx : Nat} {L S : List Value} {σ σ' : Sto} {r : Option Value} {X : Nat × Nat × Nat × Int} {l0 : Value} {u : Value} {x : Nat} (hd : ft m pc = some (.astore_n 1, 1, nx, X)) (hn : 1 < ml m) (hp : l0.category = 1) (k : WP d mc ms m nx (l0 :: .ref x :: L) S σ r σ') : WP d mc ms m pc (l0 :: u :: L) (.ref x :: S) σ r σ' := by
  intro p l e R s mi args below meth c b B D cI cZ scr Z C hZ H locs ls cells slots hH hS hL hc hs
  obtain ⟨hdec, rfl, -⟩ := ft_dec hd
  refine lv_astore_n C.1 C.2.1 hdec rfl hL hn rfl (fun ls' hl' => ?_)
  exact k p l e R s mi args below meth c b B D cI cZ scr Z C hZ H locs ls' cells slots hH hS (Lr.set1 (v := .ref x) hl' (fun j w hj hw => by cases hj; cases hw; exact hp)) hc hs
theorem wp_lstore_1 {d mc ms m pc nx : Nat} {L S : List Value} {σ σ' : Sto} {r : Option Value} {X : Nat × Nat × Nat × Int} {l0 : Value} {u u2 : Value} {x : Int64} (hd : ft m pc = some (.lstore_n 1, 1, nx, X)) (hn : 1 + 1 < ml m) (hp : l0.category = 1) (k : WP d mc ms m nx (l0 :: .long x :: .null :: L) S σ r σ') : WP d mc ms m pc (l0 :: u :: u2 :: L) (.long x :: S) σ r σ' := by
  intro p l e R s mi args below meth c b B D cI cZ scr Z C hZ H locs ls cells slots hH hS hL hc hs
  obtain ⟨hdec, rfl, -⟩ := ft_dec hd
  refine lv_lstore_n C.1 C.2.1 hdec rfl hL hn rfl (fun ls' hl' => ?_)
  exact k p l e R s mi args below meth c b B D cI cZ scr Z C hZ H locs ls' cells slots hH hS (Lr.set2 (v := .long x) hl' (fun j w hj hw => by cases hj; cases hw; exact hp)) hc hs
theorem wp_iinc_1 {d mc ms m pc nx : Nat} {L S : List Value} {σ σ' : Sto} {r : Option Value} {X : Nat × Nat × Nat × Int} {l0 : Value} {x v : Int32} {n : Int} (hd : ft m pc = some (.iinc 1 n, 3, nx, X)) (hn : 1 < ml m) (hp : l0.category = 1) (hv : x + Int32.ofInt n = v) (k : WP d mc ms m nx (l0 :: .int v :: L) S σ r σ') : WP d mc ms m pc (l0 :: .int x :: L) S σ r σ' := by
  intro p l e R s mi args below meth c b B D cI cZ scr Z C hZ H locs ls cells slots hH hS hL hc hs
  obtain ⟨hdec, rfl, -⟩ := ft_dec hd
  obtain ⟨j, hj⟩ := List.getElem?_of_mem (lvo_mem (q := (1, .int x)).mpr ⟨.int x, (rfl : (l0 :: Value.int x :: L)[1]? = some (.int x)), (fun h => by cases h), (rfl : Value.int x = cv b B (.int x))⟩)
  refine lv_iinc C.1 C.2.1 hdec hL hj hv hn rfl (fun ls' hl' => ?_)
  exact k p l e R s mi args below meth c b B D cI cZ scr Z C hZ H locs ls' cells slots hH hS (Lr.set1 (v := .int v) hl' (fun j w hj hw => by cases hj; cases hw; exact hp)) hc hs
theorem wp_iload_2 {d mc ms m pc nx : Nat} {L S : List Value} {σ σ' : Sto} {r : Option Value} {X : Nat × Nat × Nat × Int} {l0 l1 : Value} {x : Int32} (hd : ft m pc = some (.iload_n 2, 1, nx, X)) (k : WP d mc ms m nx (l0 :: l1 :: .int x :: L) (.int x :: S) σ r σ') : WP d mc ms m pc (l0 :: l1 :: .int x :: L) S σ r σ' := by
  intro p l e R s mi args below meth c b B D cI cZ scr Z C hZ H locs ls cells slots hH hS hL hc hs
  obtain ⟨hdec, rfl, -⟩ := ft_dec hd
  exact lv_iload_n C.1 C.2.1 hdec rfl (hL.get (k := 2) (v := .int x) rfl (fun h => by cases h)) (k p l e R s mi args below meth c b B D cI cZ scr Z C hZ H locs ls cells slots hH hS hL hc hs)
theorem wp_aload_2 {d mc ms m pc nx : Nat} {L S : List Value} {σ σ' : Sto} {r : Option Value} {X : Nat × Nat × Nat × Int} {l0 l1 : Value} {x : Nat} (hd : ft m pc = some (.aload_n 2, 1, nx, X)) (k : WP d mc ms m nx (l0 :: l1 :: .ref x :: L) (.ref x :: S) σ r σ') : WP d mc ms m pc (l0 :: l1 :: .ref x :: L) S σ r σ' := by
  intro p l e R s mi args below meth c b B D cI cZ scr Z C hZ H locs ls cells slots hH hS hL hc hs
  obtain ⟨hdec, rfl, -⟩ := ft_dec hd
  exact lv_aload_n C.1 C.2.1 hdec rfl (hL.get (k := 2) (v := .ref x) rfl (fun h => by cases h)) (k p l e R s mi args below meth c b B D cI cZ scr Z C hZ H locs ls cells slots hH hS hL hc hs)
theorem wp_lload_2 {d mc ms m pc nx : Nat} {L S : List Value} {σ σ' : Sto} {r : Option Value} {X : Nat × Nat × Nat × Int} {l0 l1 : Value} {x : Int64} (hd : ft m pc = some (.lload_n 2, 1, nx, X)) (k : WP d mc ms m nx (l0 :: l1 :: .long x :: L) (.long x :: S) σ r σ') : WP d mc ms m pc (l0 :: l1 :: .long x :: L) S σ r σ' := by
  intro p l e R s mi args below meth c b B D cI cZ scr Z C hZ H locs ls cells slots hH hS hL hc hs
  obtain ⟨hdec, rfl, -⟩ := ft_dec hd
  exact lv_lload_n C.1 C.2.1 hdec rfl (hL.get (k := 2) (v := .long x) rfl (fun h => by cases h)) (k p l e R s mi args below meth c b B D cI cZ scr Z C hZ H locs ls cells slots hH hS hL hc hs)
theorem wp_istore_2 {d mc ms m pc nx : Nat} {L S : List Value} {σ σ' : Sto} {r : Option Value} {X : Nat × Nat × Nat × Int} {l0 l1 : Value} {u : Value} {x : Int32} (hd : ft m pc = some (.istore_n 2, 1, nx, X)) (hn : 2 < ml m) (hp : l1.category = 1) (k : WP d mc ms m nx (l0 :: l1 :: .int x :: L) S σ r σ') : WP d mc ms m pc (l0 :: l1 :: u :: L) (.int x :: S) σ r σ' := by
  intro p l e R s mi args below meth c b B D cI cZ scr Z C hZ H locs ls cells slots hH hS hL hc hs
  obtain ⟨hdec, rfl, -⟩ := ft_dec hd
  refine lv_istore_n C.1 C.2.1 hdec rfl hL hn rfl (fun ls' hl' => ?_)
  exact k p l e R s mi args below meth c b B D cI cZ scr Z C hZ H locs ls' cells slots hH hS (Lr.set1 (v := .int x) hl' (fun j w hj hw => by cases hj; cases hw; exact hp)) hc hs
theorem wp_astore_2 {d mc ms m pc nx : Nat} {L S : List Value} {σ σ' : Sto} {r : Option Value} {X : Nat × Nat × Nat × Int} {l0 l1 : Value} {u : Value} {x : Nat} (hd : ft m pc = some (.astore_n 2, 1, nx, X)) (hn : 2 < ml m) (hp : l1.category = 1) (k : WP d mc ms m nx (l0 :: l1 :: .ref x :: L) S σ r σ') : WP d mc ms m pc (l0 :: l1 :: u :: L) (.ref x :: S) σ r σ' := by
  intro p l e R s mi args below meth c b B D cI cZ scr Z C hZ H locs ls cells slots hH hS hL hc hs
  obtain ⟨hdec, rfl, -⟩ := ft_dec hd
  refine lv_astore_n C.1 C.2.1 hdec rfl hL hn rfl (fun ls' hl' => ?_)
  exact k p l e R s mi args below meth c b B D cI cZ scr Z C hZ H locs ls' cells slots hH hS (Lr.set1 (v := .ref x) hl' (fun j w hj hw => by cases hj; cases hw; exact hp)) hc hs
theorem wp_lstore_2 {d mc ms m pc nx : Nat} {L S : List Value} {σ σ' : Sto} {r : Option Value} {X : Nat × Nat × Nat × Int} {l0 l1 : Value} {u u2 : Value} {x : Int64} (hd : ft m pc = some (.lstore_n 2, 1, nx, X)) (hn : 2 + 1 < ml m) (hp : l1.category = 1) (k : WP d mc ms m nx (l0 :: l1 :: .long x :: .null :: L) S σ r σ') : WP d mc ms m pc (l0 :: l1 :: u :: u2 :: L) (.long x :: S) σ r σ' := by
  intro p l e R s mi args below meth c b B D cI cZ scr Z C hZ H locs ls cells slots hH hS hL hc hs
  obtain ⟨hdec, rfl, -⟩ := ft_dec hd
  refine lv_lstore_n C.1 C.2.1 hdec rfl hL hn rfl (fun ls' hl' => ?_)
  exact k p l e R s mi args below meth c b B D cI cZ scr Z C hZ H locs ls' cells slots hH hS (Lr.set2 (v := .long x) hl' (fun j w hj hw => by cases hj; cases hw; exact hp)) hc hs
theorem wp_iinc_2 {d mc ms m pc nx : Nat} {L S : List Value} {σ σ' : Sto} {r : Option Value} {X : Nat × Nat × Nat × Int} {l0 l1 : Value} {x v : Int32} {n : Int} (hd : ft m pc = some (.iinc 2 n, 3, nx, X)) (hn : 2 < ml m) (hp : l1.category = 1) (hv : x + Int32.ofInt n = v) (k : WP d mc ms m nx (l0 :: l1 :: .int v :: L) S σ r σ') : WP d mc ms m pc (l0 :: l1 :: .int x :: L) S σ r σ' := by
  intro p l e R s mi args below meth c b B D cI cZ scr Z C hZ H locs ls cells slots hH hS hL hc hs
  obtain ⟨hdec, rfl, -⟩ := ft_dec hd
  obtain ⟨j, hj⟩ := List.getElem?_of_mem (lvo_mem (q := (2, .int x)).mpr ⟨.int x, (rfl : (l0 :: l1 :: Value.int x :: L)[2]? = some (.int x)), (fun h => by cases h), (rfl : Value.int x = cv b B (.int x))⟩)
  refine lv_iinc C.1 C.2.1 hdec hL hj hv hn rfl (fun ls' hl' => ?_)
  exact k p l e R s mi args below meth c b B D cI cZ scr Z C hZ H locs ls' cells slots hH hS (Lr.set1 (v := .int v) hl' (fun j w hj hw => by cases hj; cases hw; exact hp)) hc hs
theorem wp_iload_3 {d mc ms m pc nx : Nat} {L S : List Value} {σ σ' : Sto} {r : Option Value} {X : Nat × Nat × Nat × Int} {l0 l1 l2 : Value} {x : Int32} (hd : ft m pc = some (.iload_n 3, 1, nx, X)) (k : WP d mc ms m nx (l0 :: l1 :: l2 :: .int x :: L) (.int x :: S) σ r σ') : WP d mc ms m pc (l0 :: l1 :: l2 :: .int x :: L) S σ r σ' := by
  intro p l e R s mi args below meth c b B D cI cZ scr Z C hZ H locs ls cells slots hH hS hL hc hs
  obtain ⟨hdec, rfl, -⟩ := ft_dec hd
  exact lv_iload_n C.1 C.2.1 hdec rfl (hL.get (k := 3) (v := .int x) rfl (fun h => by cases h)) (k p l e R s mi args below meth c b B D cI cZ scr Z C hZ H locs ls cells slots hH hS hL hc hs)
theorem wp_aload_3 {d mc ms m pc nx : Nat} {L S : List Value} {σ σ' : Sto} {r : Option Value} {X : Nat × Nat × Nat × Int} {l0 l1 l2 : Value} {x : Nat} (hd : ft m pc = some (.aload_n 3, 1, nx, X)) (k : WP d mc ms m nx (l0 :: l1 :: l2 :: .ref x :: L) (.ref x :: S) σ r σ') : WP d mc ms m pc (l0 :: l1 :: l2 :: .ref x :: L) S σ r σ' := by
  intro p l e R s mi args below meth c b B D cI cZ scr Z C hZ H locs ls cells slots hH hS hL hc hs
  obtain ⟨hdec, rfl, -⟩ := ft_dec hd
  exact lv_aload_n C.1 C.2.1 hdec rfl (hL.get (k := 3) (v := .ref x) rfl (fun h => by cases h)) (k p l e R s mi args below meth c b B D cI cZ scr Z C hZ H locs ls cells slots hH hS hL hc hs)
theorem wp_lload_3 {d mc ms m pc nx : Nat} {L S : List Value} {σ σ' : Sto} {r : Option Value} {X : Nat × Nat × Nat × Int} {l0 l1 l2 : Value} {x : Int64} (hd : ft m pc = some (.lload_n 3, 1, nx, X)) (k : WP d mc ms m nx (l0 :: l1 :: l2 :: .long x :: L) (.long x :: S) σ r σ') : WP d mc ms m pc (l0 :: l1 :: l2 :: .long x :: L) S σ r σ' := by
  intro p l e R s mi args below meth c b B D cI cZ scr Z C hZ H locs ls cells slots hH hS hL hc hs
  obtain ⟨hdec, rfl, -⟩ := ft_dec hd
  exact lv_lload_n C.1 C.2.1 hdec rfl (hL.get (k := 3) (v := .long x) rfl (fun h => by cases h)) (k p l e R s mi args below meth c b B D cI cZ scr Z C hZ H locs ls cells slots hH hS hL hc hs)
theorem wp_istore_3 {d mc ms m pc nx : Nat} {L S : List Value} {σ σ' : Sto} {r : Option Value} {X : Nat × Nat × Nat × Int} {l0 l1 l2 : Value} {u : Value} {x : Int32} (hd : ft m pc = some (.istore_n 3, 1, nx, X)) (hn : 3 < ml m) (hp : l2.category = 1) (k : WP d mc ms m nx (l0 :: l1 :: l2 :: .int x :: L) S σ r σ') : WP d mc ms m pc (l0 :: l1 :: l2 :: u :: L) (.int x :: S) σ r σ' := by
  intro p l e R s mi args below meth c b B D cI cZ scr Z C hZ H locs ls cells slots hH hS hL hc hs
  obtain ⟨hdec, rfl, -⟩ := ft_dec hd
  refine lv_istore_n C.1 C.2.1 hdec rfl hL hn rfl (fun ls' hl' => ?_)
  exact k p l e R s mi args below meth c b B D cI cZ scr Z C hZ H locs ls' cells slots hH hS (Lr.set1 (v := .int x) hl' (fun j w hj hw => by cases hj; cases hw; exact hp)) hc hs
theorem wp_astore_3 {d mc ms m pc nx : Nat} {L S : List Value} {σ σ' : Sto} {r : Option Value} {X : Nat × Nat × Nat × Int} {l0 l1 l2 : Value} {u : Value} {x : Nat} (hd : ft m pc = some (.astore_n 3, 1, nx, X)) (hn : 3 < ml m) (hp : l2.category = 1) (k : WP d mc ms m nx (l0 :: l1 :: l2 :: .ref x :: L) S σ r σ') : WP d mc ms m pc (l0 :: l1 :: l2 :: u :: L) (.ref x :: S) σ r σ' := by
  intro p l e R s mi args below meth c b B D cI cZ scr Z C hZ H locs ls cells slots hH hS hL hc hs
  obtain ⟨hdec, rfl, -⟩ := ft_dec hd
  refine lv_astore_n C.1 C.2.1 hdec rfl hL hn rfl (fun ls' hl' => ?_)
  exact k p l e R s mi args below meth c b B D cI cZ scr Z C hZ H locs ls' cells slots hH hS (Lr.set1 (v := .ref x) hl' (fun j w hj hw => by cases hj; cases hw; exact hp)) hc hs
theorem wp_iinc_3 {d mc ms m pc nx : Nat} {L S : List Value} {σ σ' : Sto} {r : Option Value} {X : Nat × Nat × Nat × Int} {l0 l1 l2 : Value} {x v : Int32} {n : Int} (hd : ft m pc = some (.iinc 3 n, 3, nx, X)) (hn : 3 < ml m) (hp : l2.category = 1) (hv : x + Int32.ofInt n = v) (k : WP d mc ms m nx (l0 :: l1 :: l2 :: .int v :: L) S σ r σ') : WP d mc ms m pc (l0 :: l1 :: l2 :: .int x :: L) S σ r σ' := by
  intro p l e R s mi args below meth c b B D cI cZ scr Z C hZ H locs ls cells slots hH hS hL hc hs
  obtain ⟨hdec, rfl, -⟩ := ft_dec hd
  obtain ⟨j, hj⟩ := List.getElem?_of_mem (lvo_mem (q := (3, .int x)).mpr ⟨.int x, (rfl : (l0 :: l1 :: l2 :: Value.int x :: L)[3]? = some (.int x)), (fun h => by cases h), (rfl : Value.int x = cv b B (.int x))⟩)
  refine lv_iinc C.1 C.2.1 hdec hL hj hv hn rfl (fun ls' hl' => ?_)
  exact k p l e R s mi args below meth c b B D cI cZ scr Z C hZ H locs ls' cells slots hH hS (Lr.set1 (v := .int v) hl' (fun j w hj hw => by cases hj; cases hw; exact hp)) hc hs
theorem wp_iload_4 {d mc ms m pc nx : Nat} {L S : List Value} {σ σ' : Sto} {r : Option Value} {X : Nat × Nat × Nat × Int} {l0 l1 l2 l3 : Value} {x : Int32} (hd : ft m pc = some (.iload 4, 2, nx, X)) (k : WP d mc ms m nx (l0 :: l1 :: l2 :: l3 :: .int x :: L) (.int x :: S) σ r σ') : WP d mc ms m pc (l0 :: l1 :: l2 :: l3 :: .int x :: L) S σ r σ' := by
  intro p l e R s mi args below meth c b B D cI cZ scr Z C hZ H locs ls cells slots hH hS hL hc hs
  obtain ⟨hdec, rfl, -⟩ := ft_dec hd
  exact lv_iload C.1 C.2.1 hdec (hL.get (k := 4) (v := .int x) rfl (fun h => by cases h)) (k p l e R s mi args below meth c b B D cI cZ scr Z C hZ H locs ls cells slots hH hS hL hc hs)
theorem wp_aload_4 {d mc ms m pc nx : Nat} {L S : List Value} {σ σ' : Sto} {r : Option Value} {X : Nat × Nat × Nat × Int} {l0 l1 l2 l3 : Value} {x : Nat} (hd : ft m pc = some (.aload 4, 2, nx, X)) (k : WP d mc ms m nx (l0 :: l1 :: l2 :: l3 :: .ref x :: L) (.ref x :: S) σ r σ') : WP d mc ms m pc (l0 :: l1 :: l2 :: l3 :: .ref x :: L) S σ r σ' := by
  intro p l e R s mi args below meth c b B D cI cZ scr Z C hZ H locs ls cells slots hH hS hL hc hs
  obtain ⟨hdec, rfl, -⟩ := ft_dec hd
  exact lv_aload C.1 C.2.1 hdec (hL.get (k := 4) (v := .ref x) rfl (fun h => by cases h)) (k p l e R s mi args below meth c b B D cI cZ scr Z C hZ H locs ls cells slots hH hS hL hc hs)
theorem wp_lload_4 {d mc ms m pc nx : Nat} {L S : List Value} {σ σ' : Sto} {r : Option Value} {X : Nat × Nat × Nat × Int} {l0 l1 l2 l3 : Value} {x : Int64} (hd : ft m pc = some (.lload 4, 2, nx, X)) (k : WP d mc ms m nx (l0 :: l1 :: l2 :: l3 :: .long x :: L) (.long x :: S) σ r σ') : WP d mc ms m pc (l0 :: l1 :: l2 :: l3 :: .long x :: L) S σ r σ' := by
  intro p l e R s mi args below meth c b B D cI cZ scr Z C hZ H locs ls cells slots hH hS hL hc hs
  obtain ⟨hdec, rfl, -⟩ := ft_dec hd
  exact lv_lload C.1 C.2.1 hdec (hL.get (k := 4) (v := .long x) rfl (fun h => by cases h)) (k p l e R s mi args below meth c b B D cI cZ scr Z C hZ H locs ls cells slots hH hS hL hc hs)
theorem wp_istore_4 {d mc ms m pc nx : Nat} {L S : List Value} {σ σ' : Sto} {r : Option Value} {X : Nat × Nat × Nat × Int} {l0 l1 l2 l3 : Value} {u : Value} {x : Int32} (hd : ft m pc = some (.istore 4, 2, nx, X)) (hn : 4 < ml m) (hp : l3.category = 1) (k : WP d mc ms m nx (l0 :: l1 :: l2 :: l3 :: .int x :: L) S σ r σ') : WP d mc ms m pc (l0 :: l1 :: l2 :: l3 :: u :: L) (.int x :: S) σ r σ' := by
  intro p l e R s mi args below meth c b B D cI cZ scr Z C hZ H locs ls cells slots hH hS hL hc hs
  obtain ⟨hdec, rfl, -⟩ := ft_dec hd
  refine lv_istore C.1 C.2.1 hdec hL hn rfl (fun ls' hl' => ?_)
  exact k p l e R s mi args below meth c b B D cI cZ scr Z C hZ H locs ls' cells slots hH hS (Lr.set1 (v := .int x) hl' (fun j w hj hw => by cases hj; cases hw; exact hp)) hc hs
theorem wp_iinc_4 {d mc ms m pc nx : Nat} {L S : List Value} {σ σ' : Sto} {r : Option Value} {X : Nat × Nat × Nat × Int} {l0 l1 l2 l3 : Value} {x v : Int32} {n : Int} (hd : ft m pc = some (.iinc 4 n, 3, nx, X)) (hn : 4 < ml m) (hp : l3.category = 1) (hv : x + Int32.ofInt n = v) (k : WP d mc ms m nx (l0 :: l1 :: l2 :: l3 :: .int v :: L) S σ r σ') : WP d mc ms m pc (l0 :: l1 :: l2 :: l3 :: .int x :: L) S σ r σ' := by
  intro p l e R s mi args below meth c b B D cI cZ scr Z C hZ H locs ls cells slots hH hS hL hc hs
  obtain ⟨hdec, rfl, -⟩ := ft_dec hd
  obtain ⟨j, hj⟩ := List.getElem?_of_mem (lvo_mem (q := (4, .int x)).mpr ⟨.int x, (rfl : (l0 :: l1 :: l2 :: l3 :: Value.int x :: L)[4]? = some (.int x)), (fun h => by cases h), (rfl : Value.int x = cv b B (.int x))⟩)
  refine lv_iinc C.1 C.2.1 hdec hL hj hv hn rfl (fun ls' hl' => ?_)
  exact k p l e R s mi args below meth c b B D cI cZ scr Z C hZ H locs ls' cells slots hH hS (Lr.set1 (v := .int v) hl' (fun j w hj hw => by cases hj; cases hw; exact hp)) hc hs
theorem wp_iload_5 {d mc ms m pc nx : Nat} {L S : List Value} {σ σ' : Sto} {r : Option Value} {X : Nat × Nat × Nat × Int} {l0 l1 l2 l3 l4 : Value} {x : Int32} (hd : ft m pc = some (.iload 5, 2, nx, X)) (k : WP d mc ms m nx (l0 :: l1 :: l2 :: l3 :: l4 :: .int x :: L) (.int x :: S) σ r σ') : WP d mc ms m pc (l0 :: l1 :: l2 :: l3 :: l4 :: .int x :: L) S σ r σ' := by
  intro p l e R s mi args below meth c b B D cI cZ scr Z C hZ H locs ls cells slots hH hS hL hc hs
  obtain ⟨hdec, rfl, -⟩ := ft_dec hd
  exact lv_iload C.1 C.2.1 hdec (hL.get (k := 5) (v := .int x) rfl (fun h => by cases h)) (k p l e R s mi args below meth c b B D cI cZ scr Z C hZ H locs ls cells slots hH hS hL hc hs)
theorem wp_aload_5 {d mc ms m pc nx : Nat} {L S : List Value} {σ σ' : Sto} {r : Option Value} {X : Nat × Nat × Nat × Int} {l0 l1 l2 l3 l4 : Value} {x : Nat} (hd : ft m pc = some (.aload 5, 2, nx, X)) (k : WP d mc ms m nx (l0 :: l1 :: l2 :: l3 :: l4 :: .ref x :: L) (.ref x :: S) σ r σ') : WP d mc ms m pc (l0 :: l1 :: l2 :: l3 :: l4 :: .ref x :: L) S σ r σ' := by
  intro p l e R s mi args below meth c b B D cI cZ scr Z C hZ H locs ls cells slots hH hS hL hc hs
  obtain ⟨hdec, rfl, -⟩ := ft_dec hd
  exact lv_aload C.1 C.2.1 hdec (hL.get (k := 5) (v := .ref x) rfl (fun h => by cases h)) (k p l e R s mi args below meth c b B D cI cZ scr Z C hZ H locs ls cells slots hH hS hL hc hs)
theorem wp_istore_5 {d mc ms m pc nx : Nat} {L S : List Value} {σ σ' : Sto} {r : Option Value} {X : Nat × Nat × Nat × Int} {l0 l1 l2 l3 l4 : Value} {u : Value} {x : Int32} (hd : ft m pc = some (.istore 5, 2, nx, X)) (hn : 5 < ml m) (hp : l4.category = 1) (k : WP d mc ms m nx (l0 :: l1 :: l2 :: l3 :: l4 :: .int x :: L) S σ r σ') : WP d mc ms m pc (l0 :: l1 :: l2 :: l3 :: l4 :: u :: L) (.int x :: S) σ r σ' := by
  intro p l e R s mi args below meth c b B D cI cZ scr Z C hZ H locs ls cells slots hH hS hL hc hs
  obtain ⟨hdec, rfl, -⟩ := ft_dec hd
  refine lv_istore C.1 C.2.1 hdec hL hn rfl (fun ls' hl' => ?_)
  exact k p l e R s mi args below meth c b B D cI cZ scr Z C hZ H locs ls' cells slots hH hS (Lr.set1 (v := .int x) hl' (fun j w hj hw => by cases hj; cases hw; exact hp)) hc hs
theorem wp_iinc_5 {d mc ms m pc nx : Nat} {L S : List Value} {σ σ' : Sto} {r : Option Value} {X : Nat × Nat × Nat × Int} {l0 l1 l2 l3 l4 : Value} {x v : Int32} {n : Int} (hd : ft m pc = some (.iinc 5 n, 3, nx, X)) (hn : 5 < ml m) (hp : l4.category = 1) (hv : x + Int32.ofInt n = v) (k : WP d mc ms m nx (l0 :: l1 :: l2 :: l3 :: l4 :: .int v :: L) S σ r σ') : WP d mc ms m pc (l0 :: l1 :: l2 :: l3 :: l4 :: .int x :: L) S σ r σ' := by
  intro p l e R s mi args below meth c b B D cI cZ scr Z C hZ H locs ls cells slots hH hS hL hc hs
  obtain ⟨hdec, rfl, -⟩ := ft_dec hd
  obtain ⟨j, hj⟩ := List.getElem?_of_mem (lvo_mem (q := (5, .int x)).mpr ⟨.int x, (rfl : (l0 :: l1 :: l2 :: l3 :: l4 :: Value.int x :: L)[5]? = some (.int x)), (fun h => by cases h), (rfl : Value.int x = cv b B (.int x))⟩)
  refine lv_iinc C.1 C.2.1 hdec hL hj hv hn rfl (fun ls' hl' => ?_)
  exact k p l e R s mi args below meth c b B D cI cZ scr Z C hZ H locs ls' cells slots hH hS (Lr.set1 (v := .int v) hl' (fun j w hj hw => by cases hj; cases hw; exact hp)) hc hs
theorem wp_iload_6 {d mc ms m pc nx : Nat} {L S : List Value} {σ σ' : Sto} {r : Option Value} {X : Nat × Nat × Nat × Int} {l0 l1 l2 l3 l4 l5 : Value} {x : Int32} (hd : ft m pc = some (.iload 6, 2, nx, X)) (k : WP d mc ms m nx (l0 :: l1 :: l2 :: l3 :: l4 :: l5 :: .int x :: L) (.int x :: S) σ r σ') : WP d mc ms m pc (l0 :: l1 :: l2 :: l3 :: l4 :: l5 :: .int x :: L) S σ r σ' := by
  intro p l e R s mi args below meth c b B D cI cZ scr Z C hZ H locs ls cells slots hH hS hL hc hs
  obtain ⟨hdec, rfl, -⟩ := ft_dec hd
  exact lv_iload C.1 C.2.1 hdec (hL.get (k := 6) (v := .int x) rfl (fun h => by cases h)) (k p l e R s mi args below meth c b B D cI cZ scr Z C hZ H locs ls cells slots hH hS hL hc hs)
theorem wp_aload_6 {d mc ms m pc nx : Nat} {L S : List Value} {σ σ' : Sto} {r : Option Value} {X : Nat × Nat × Nat × Int} {l0 l1 l2 l3 l4 l5 : Value} {x : Nat} (hd : ft m pc = some (.aload 6, 2, nx, X)) (k : WP d mc ms m nx (l0 :: l1 :: l2 :: l3 :: l4 :: l5 :: .ref x :: L) (.ref x :: S) σ r σ') : WP d mc ms m pc (l0 :: l1 :: l2 :: l3 :: l4 :: l5 :: .ref x :: L) S σ r σ' := by
  intro p l e R s mi args below meth c b B D cI cZ scr Z C hZ H locs ls cells slots hH hS hL hc hs
  obtain ⟨hdec, rfl, -⟩ := ft_dec hd
  exact lv_aload C.1 C.2.1 hdec (hL.get (k := 6) (v := .ref x) rfl (fun h => by cases h)) (k p l e R s mi args below meth c b B D cI cZ scr Z C hZ H locs ls cells slots hH hS hL hc hs)
theorem wp_istore_6 {d mc ms m pc nx : Nat} {L S : List Value} {σ σ' : Sto} {r : Option Value} {X : Nat × Nat × Nat × Int} {l0 l1 l2 l3 l4 l5 : Value} {u : Value} {x : Int32} (hd : ft m pc = some (.istore 6, 2, nx, X)) (hn : 6 < ml m) (hp : l5.category = 1) (k : WP d mc ms m nx (l0 :: l1 :: l2 :: l3 :: l4 :: l5 :: .int x :: L) S σ r σ') : WP d mc ms m pc (l0 :: l1 :: l2 :: l3 :: l4 :: l5 :: u :: L) (.int x :: S) σ r σ' := by
  intro p l e R s mi args below meth c b B D cI cZ scr Z C hZ H locs ls cells slots hH hS hL hc hs
  obtain ⟨hdec, rfl, -⟩ := ft_dec hd
  refine lv_istore C.1 C.2.1 hdec hL hn rfl (fun ls' hl' => ?_)
  exact k p l e R s mi args below meth c b B D cI cZ scr Z C hZ H locs ls' cells slots hH hS (Lr.set1 (v := .int x) hl' (fun j w hj hw => by cases hj; cases hw; exact hp)) hc hs
theorem wp_iinc_6 {d mc ms m pc nx : Nat} {L S : List Value} {σ σ' : Sto} {r : Option Value} {X : Nat × Nat × Nat × Int} {l0 l1 l2 l3 l4 l5 : Value} {x v : Int32} {n : Int} (hd : ft m pc = some (.iinc 6 n, 3, nx, X)) (hn : 6 < ml m) (hp : l5.category = 1) (hv : x + Int32.ofInt n = v) (k : WP d mc ms m nx (l0 :: l1 :: l2 :: l3 :: l4 :: l5 :: .int v :: L) S σ r σ') : WP d mc ms m pc (l0 :: l1 :: l2 :: l3 :: l4 :: l5 :: .int x :: L) S σ r σ' := by
  intro p l e R s mi args below meth c b B D cI cZ scr Z C hZ H locs ls cells slots hH hS hL hc hs
  obtain ⟨hdec, rfl, -⟩ := ft_dec hd
  obtain ⟨j, hj⟩ := List.getElem?_of_mem (lvo_mem (q := (6, .int x)).mpr ⟨.int x, (rfl : (l0 :: l1 :: l2 :: l3 :: l4 :: l5 :: Value.int x :: L)[6]? = some (.int x)), (fun h => by cases h), (rfl : Value.int x = cv b B (.int x))⟩)
  refine lv_iinc C.1 C.2.1 hdec hL hj hv hn rfl (fun ls' hl' => ?_)
  exact k p l e R s mi args below meth c b B D cI cZ scr Z C hZ H locs ls' cells slots hH hS (Lr.set1 (v := .int v) hl' (fun j w hj hw => by cases hj; cases hw; exact hp)) hc hs
theorem wp_iload_7 {d mc ms m pc nx : Nat} {L S : List Value} {σ σ' : Sto} {r : Option Value} {X : Nat × Nat × Nat × Int} {l0 l1 l2 l3 l4 l5 l6 : Value} {x : Int32} (hd : ft m pc = some (.iload 7, 2, nx, X)) (k : WP d mc ms m nx (l0 :: l1 :: l2 :: l3 :: l4 :: l5 :: l6 :: .int x :: L) (.int x :: S) σ r σ') : WP d mc ms m pc (l0 :: l1 :: l2 :: l3 :: l4 :: l5 :: l6 :: .int x :: L) S σ r σ' := by
  intro p l e R s mi args below meth c b B D cI cZ scr Z C hZ H locs ls cells slots hH hS hL hc hs
  obtain ⟨hdec, rfl, -⟩ := ft_dec hd
  exact lv_iload C.1 C.2.1 hdec (hL.get (k := 7) (v := .int x) rfl (fun h => by cases h)) (k p l e R s mi args below meth c b B D cI cZ scr Z C hZ H locs ls cells slots hH hS hL hc hs)
theorem wp_aload_7 {d mc ms m pc nx : Nat} {L S : List Value} {σ σ' : Sto} {r : Option Value} {X : Nat × Nat × Nat × Int} {l0 l1 l2 l3 l4 l5 l6 : Value} {x : Nat} (hd : ft m pc = some (.aload 7, 2, nx, X)) (k : WP d mc ms m nx (l0 :: l1 :: l2 :: l3 :: l4 :: l5 :: l6 :: .ref x :: L) (.ref x :: S) σ r σ') : WP d mc ms m pc (l0 :: l1 :: l2 :: l3 :: l4 :: l5 :: l6 :: .ref x :: L) S σ r σ' := by
  intro p l e R s mi args below meth c b B D cI cZ scr Z C hZ H locs ls cells slots hH hS hL hc hs
  obtain ⟨hdec, rfl, -⟩ := ft_dec hd
  exact lv_aload C.1 C.2.1 hdec (hL.get (k := 7) (v := .ref x) rfl (fun h => by cases h)) (k p l e R s mi args below meth c b B D cI cZ scr Z C hZ H locs ls cells slots hH hS hL hc hs)
theorem wp_istore_7 {d mc ms m pc nx : Nat} {L S : List Value} {σ σ' : Sto} {r : Option Value} {X : Nat × Nat × Nat × Int} {l0 l1 l2 l3 l4 l5 l6 : Value} {u : Value} {x : Int32} (hd : ft m pc = some (.istore 7, 2, nx, X)) (hn : 7 < ml m) (hp : l6.category = 1) (k : WP d mc ms m nx (l0 :: l1 :: l2 :: l3 :: l4 :: l5 :: l6 :: .int x :: L) S σ r σ') : WP d mc ms m pc (l0 :: l1 :: l2 :: l3 :: l4 :: l5 :: l6 :: u :: L) (.int x :: S) σ r σ' := by
  intro p l e R s mi args below meth c b B D cI cZ scr Z C hZ H locs ls cells slots hH hS hL hc hs
  obtain ⟨hdec, rfl, -⟩ := ft_dec hd
  refine lv_istore C.1 C.2.1 hdec hL hn rfl (fun ls' hl' => ?_)
  exact k p l e R s mi args below meth c b B D cI cZ scr Z C hZ H locs ls' cells slots hH hS (Lr.set1 (v := .int x) hl' (fun j w hj hw => by cases hj; cases hw; exact hp)) hc hs
theorem wp_iinc_7 {d mc ms m pc nx : Nat} {L S : List Value} {σ σ' : Sto} {r : Option Value} {X : Nat × Nat × Nat × Int} {l0 l1 l2 l3 l4 l5 l6 : Value} {x v : Int32} {n : Int} (hd : ft m pc = some (.iinc 7 n, 3, nx, X)) (hn : 7 < ml m) (hp : l6.category = 1) (hv : x + Int32.ofInt n = v) (k : WP d mc ms m nx (l0 :: l1 :: l2 :: l3 :: l4 :: l5 :: l6 :: .int v :: L) S σ r σ') : WP d mc ms m pc (l0 :: l1 :: l2 :: l3 :: l4 :: l5 :: l6 :: .int x :: L) S σ r σ' := by
  intro p l e R s mi args below meth c b B D cI cZ scr Z C hZ H locs ls cells slots hH hS hL hc hs
  obtain ⟨hdec, rfl, -⟩ := ft_dec hd
  obtain ⟨j, hj⟩ := List.getElem?_of_mem (lvo_mem (q := (7, .int x)).mpr ⟨.int x, (rfl : (l0 :: l1 :: l2 :: l3 :: l4 :: l5 :: l6 :: Value.int x :: L)[7]? = some (.int x)), (fun h => by cases h), (rfl : Value.int x = cv b B (.int x))⟩)
  refine lv_iinc C.1 C.2.1 hdec hL hj hv hn rfl (fun ls' hl' => ?_)
  exact k p l e R s mi args below meth c b B D cI cZ scr Z C hZ H locs ls' cells slots hH hS (Lr.set1 (v := .int v) hl' (fun j w hj hw => by cases hj; cases hw; exact hp)) hc hs
theorem wp_iload_8 {d mc ms m pc nx : Nat} {L S : List Value} {σ σ' : Sto} {r : Option Value} {X : Nat × Nat × Nat × Int} {l0 l1 l2 l3 l4 l5 l6 l7 : Value} {x : Int32} (hd : ft m pc = some (.iload 8, 2, nx, X)) (k : WP d mc ms m nx (l0 :: l1 :: l2 :: l3 :: l4 :: l5 :: l6 :: l7 :: .int x :: L) (.int x :: S) σ r σ') : WP d mc ms m pc (l0 :: l1 :: l2 :: l3 :: l4 :: l5 :: l6 :: l7 :: .int x :: L) S σ r σ' := by
  intro p l e R s mi args below meth c b B D cI cZ scr Z C hZ H locs ls cells slots hH hS hL hc hs
  obtain ⟨hdec, rfl, -⟩ := ft_dec hd
  exact lv_iload C.1 C.2.1 hdec (hL.get (k := 8) (v := .int x) rfl (fun h => by cases h)) (k p l e R s mi args below meth c b B D cI cZ scr Z C hZ H locs ls cells slots hH hS hL hc hs)
theorem wp_aload_8 {d mc ms m pc nx : Nat} {L S : List Value} {σ σ' : Sto} {r : Option Value} {X : Nat × Nat × Nat × Int} {l0 l1 l2 l3 l4 l5 l6 l7 : Value} {x : Nat} (hd : ft m pc = some (.aload 8, 2, nx, X)) (k : WP d mc ms m nx (l0 :: l1 :: l2 :: l3 :: l4 :: l5 :: l6 :: l7 :: .ref x :: L) (.ref x :: S) σ r σ') : WP d mc ms m pc (l0 :: l1 :: l2 :: l3 :: l4 :: l5 :: l6 :: l7 :: .ref x :: L) S σ r σ' := by
  intro p l e R s mi args below meth c b B D cI cZ scr Z C hZ H locs ls cells slots hH hS hL hc hs
  obtain ⟨hdec, rfl, -⟩ := ft_dec hd
  exact lv_aload C.1 C.2.1 hdec (hL.get (k := 8) (v := .ref x) rfl (fun h => by cases h)) (k p l e R s mi args below meth c b B D cI cZ scr Z C hZ H locs ls cells slots hH hS hL hc hs)
theorem wp_istore_8 {d mc ms m pc nx : Nat} {L S : List Value} {σ σ' : Sto} {r : Option Value} {X : Nat × Nat × Nat × Int} {l0 l1 l2 l3 l4 l5 l6 l7 : Value} {u : Value} {x : Int32} (hd : ft m pc = some (.istore 8, 2, nx, X)) (hn : 8 < ml m) (hp : l7.category = 1) (k : WP d mc ms m nx (l0 :: l1 :: l2 :: l3 :: l4 :: l5 :: l6 :: l7 :: .int x :: L) S σ r σ') : WP d mc ms m pc (l0 :: l1 :: l2 :: l3 :: l4 :: l5 :: l6 :: l7 :: u :: L) (.int x :: S) σ r σ' := by
  intro p l e R s mi args below meth c b B D cI cZ scr Z C hZ H locs ls cells slots hH hS hL hc hs
  obtain ⟨hdec, rfl, -⟩ := ft_dec hd
  refine lv_istore C.1 C.2.1 hdec hL hn rfl (fun ls' hl' => ?_)
  exact k p l e R s mi args below meth c b B D cI cZ scr Z C hZ H locs ls' cells slots hH hS (Lr.set1 (v := .int x) hl' (fun j w hj hw => by cases hj; cases hw; exact hp)) hc hs
theorem wp_iinc_8 {d mc ms m pc nx : Nat} {L S : List Value} {σ σ' : Sto} {r : Option Value} {X : Nat × Nat × Nat × Int} {l0 l1 l2 l3 l4 l5 l6 l7 : Value} {x v : Int32} {n : Int} (hd : ft m pc = some (.iinc 8 n, 3, nx, X)) (hn : 8 < ml m) (hp : l7.category = 1) (hv : x + Int32.ofInt n = v) (k : WP d mc ms m nx (l0 :: l1 :: l2 :: l3 :: l4 :: l5 :: l6 :: l7 :: .int v :: L) S σ r σ') : WP d mc ms m pc (l0 :: l1 :: l2 :: l3 :: l4 :: l5 :: l6 :: l7 :: .int x :: L) S σ r σ' := by
  intro p l e R s mi args below meth c b B D cI cZ scr Z C hZ H locs ls cells slots hH hS hL hc hs
  obtain ⟨hdec, rfl, -⟩ := ft_dec hd
  obtain ⟨j, hj⟩ := List.getElem?_of_mem (lvo_mem (q := (8, .int x)).mpr ⟨.int x, (rfl : (l0 :: l1 :: l2 :: l3 :: l4 :: l5 :: l6 :: l7 :: Value.int x :: L)[8]? = some (.int x)), (fun h => by cases h), (rfl : Value.int x = cv b B (.int x))⟩)
  refine lv_iinc C.1 C.2.1 hdec hL hj hv hn rfl (fun ls' hl' => ?_)
  exact k p l e R s mi args below meth c b B D cI cZ scr Z C hZ H locs ls' cells slots hH hS (Lr.set1 (v := .int v) hl' (fun j w hj hw => by cases hj; cases hw; exact hp)) hc hs
