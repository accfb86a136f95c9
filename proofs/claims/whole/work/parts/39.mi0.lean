section S39a

def MIv (σ : Sto) (pm : Nat) (pg : Nat → Nat) (N K : Trl) (kso : Option Nat) (sl bd fd : Nat) : Prop := KM σ 77 ∧ ∃ (sta rdm bc bl bch sn : Int32) (ch : Nat) (hsh : Int64) (nf nl wh od bo ofn mav sd : Nat → Nat), Hs σ 77 (77 + 1) (mF 77 (nI pm) (sta) (rdm) (nI N.st) (nI N.me) (nI N.tr) (N.mi) (nI sl) (nI N.w) (nI ch) (nI bd) (bc) (bl) (bch) (nI fd) (sn) (eo kso) (nI K.w) (nI K.tr) (K.mi) hsh) (mA (arr 10 pg) (arr 6 N.de) (arO 6 N.fo) (arrI 15 (rw3 N.ki N.sr N.to)) (arr 5 N.le) (arr 5 N.fi) (arr 5 nf) (arr 5 nl) (arr 6 wh) (arr 5 od) (arr 5 bo) (arr 5 ofn) (arr 6 mav) (arr 6 sd) (arrI 15 (rw3 K.ki K.sr K.to)) (arr 5 K.le) (arr 5 K.fi) (arr 6 K.de) (arO 6 K.fo))
theorem MIv_out {σ σ' : Sto} {pm : Nat} {pg : Nat → Nat} {N K : Trl} {kso : Option Nat} {sl bd fd : Nat} (h : MIv σ pm pg N K kso sl bd fd) (hF : Fr σ σ' 1 76) : MIv σ' pm pg N K kso sl bd fd := by
  obtain ⟨kM, sta, rdm, bc, bl, bch, sn, ch, hsh, nf, nl, wh, od, bo, ofn, mav, sd, h⟩ := h
  exact ⟨by unfold KM at *; rw [hF.1]; exact kM, _, _, _, _, _, _, _, _, _, _, _, _, _, _, _, _, Hs_Fr hF h (by decide) (by simp [mA])⟩
theorem Fr_M {σ : Sto} {f : List Value} {b0 b1 b2 b3 b4 b5 b6 b7 b8 b9 b10 b11 b12 b13 b14 b15 b16 b17 b18 : List Int32} : Fr σ (put σ 77 (77 + 1) f (mA b0 b1 b2 b3 b4 b5 b6 b7 b8 b9 b10 b11 b12 b13 b14 b15 b16 b17 b18)) 77 20 := Fr_put Fr_refl (by decide) (by simp [mA])
theorem Gd.l1 {N : Trl} (g : Gd N) : ∀ v, v < N.w → N.le v < 1000 := fun v hv => by have := g.le v hv; omega
theorem Gd.s1 {N : Trl} (g : Gd N) : ∀ v, v < N.w → N.sr v < 1000 := fun v hv => by have := g.sr v hv; omega
theorem Gd.d1 {N : Trl} (g : Gd N) : ∀ k, k < N.st → N.de k < 100 := fun v hv => by have := g.de v hv; omega
theorem Gd.f1 {N : Trl} (g : Gd N) : ∀ k, k < N.tr → ∀ j, N.fo k = some j → j < 2 ^ 31 := fun k _ j hj => by have := g.fo k j hj; omega
theorem Gd.t1 {N : Trl} (g : Gd N) : ∀ v, v < N.w → ∀ j, N.to v = some j → j < 2 ^ 31 := fun v hv j hj => by have := g.to v hv j hj; omega

abbrev m_slopeN (N : Trl) (pg : Nat → Nat) (pm : Nat) : Trl := mkT (pm - 2) (pg (pm - 1) - 48) 0 0 (nI 0) (fun k => if k < pm - 2 then pg k - 48 else 0) N.ki N.sr N.le N.fi (fun _ => none) N.to
abbrev n_walk (N : Trl) (x y : Int32) : Trl := mkT N.st N.me N.tr (N.w + 1) N.mi N.de (up N.ki N.w x.toInt.toNat) (up N.sr N.w y.toInt.toNat) (up N.le N.w y.toInt.toNat) (up N.fi N.w N.w) N.fo (up N.to N.w none)
abbrev n_rest0 (N K : Trl) : Trl := mkT N.st N.me K.tr K.w K.mi K.de K.ki K.sr K.le K.fi K.fo K.to
theorem slope_3 {pg : Nat → Nat} {pm : Nat} (hpm : pm ≤ 10) : (flt pg pm 0 0 0).1 = pm → (flt pg pm 0 0 0).2.1 = 3 → (flt pg pm 0 0 0).2.2 + 2 = pm ∧ (flt pg pm 0 0 0).2.2 ≤ 6 ∧ (∀ k, k < (flt pg pm 0 0 0).2.2 → 48 ≤ pg k) ∧ 48 ≤ pg (pm - 1) := by
  intro h1 h2
  obtain ⟨r, e1, e2, e3, e4, e5, e6, e7⟩ := okS_J (pg := pg) (pm := pm) (by simp [okS, h1, h2])
  rw [e7]
  refine ⟨e1, e3, fun k hk => ?_, ?_⟩
  · have := e4 k hk
    simp only [dgt, decide_eq_true_eq] at this
    exact this.1
  · rw [show pm - 1 = r + 1 by omega]
    simp only [dgt, decide_eq_true_eq] at e6
    exact e6.1
theorem slope_b {pg : Nat → Nat} {pm : Nat} (hpm : pm ≤ 10) : (flt pg pm 0 0 0).1 ≤ pm ∧ (flt pg pm 0 0 0).2.1 ≤ 100 := by
  have := flt_b (pg := pg) pm 0 0 0
  exact ⟨by omega, by omega⟩

end S39a
