section S43a

theorem PF_up {w : Nat} {fi : Nat → Nat} (h : PF w fi) : PF (w + 1) (up fi w w) := by
  obtain ⟨h1, h2, h3⟩ := h
  have e : ∀ p, p < w → up fi w w p = fi p := fun p hp => up_n _ _ (by omega)
  refine ⟨fun p hp => ?_, fun p q hp hq z => ?_, fun v hv => ?_⟩
  · by_cases a : p = w
    · rw [a, up_s]; omega
    · have := h1 p (by omega)
      rw [e p (by omega)]; omega
  · by_cases a : p = w <;> by_cases b : q = w
    · omega
    · rw [a, up_s, e q (by omega)] at z
      have := h1 q (by omega)
      omega
    · rw [b, up_s, e p (by omega)] at z
      have := h1 p (by omega)
      omega
    · rw [e p (by omega), e q (by omega)] at z
      exact h2 p q (by omega) (by omega) z
  · by_cases a : v = w
    · exact ⟨w, by omega, by rw [up_s, a]⟩
    · obtain ⟨p, hp, z⟩ := h3 v (by omega)
      exact ⟨p, by omega, by rw [e p hp]; exact z⟩
theorem up_lt {w b x : Nat} {f : Nat → Nat} (h : ∀ v, v < w → f v ≤ b) (hx : x ≤ b) : ∀ v, v < w + 1 → up f w x v ≤ b := by
  intro v hv
  by_cases a : v = w
  · rw [a, up_s]; exact hx
  · rw [up_n _ _ a]; exact h v (by omega)
variable {N : Trl}
theorem Gd_walk {x y : Int32} (g : Gd N) (h : okW N.st N.w x y = true) : Gd (n_walk N x y) := by
  simp only [okW, Bool.and_eq_true, decide_eq_true_eq] at h
  obtain ⟨⟨⟨hx, hy⟩, -⟩, hw⟩ := h
  have hx := inB_t.mp hx
  have hy := inB_t.mp hy
  refine ⟨g.ts, g.s6, (by show N.w + 1 ≤ 5; omega), PF_up g.f, fun v hv => ?_, up_lt g.sr (by omega), up_lt g.le (by omega), g.de, g.me, g.fo, fun v hv j hj => ?_⟩
  · have := up_lt (w := N.w) (b := 4) (x := x.toInt.toNat) (f := N.ki) (fun v hv => by have := g.ki v hv; omega) (by omega) v hv
    show up N.ki N.w x.toInt.toNat v < 5
    omega
  · have hj : up N.to N.w none v = some j := hj
    have hv : v < N.w + 1 := hv
    by_cases a : v = N.w
    · rw [a, up_s] at hj; cases hj
    · rw [up_n _ _ a] at hj
      exact g.to v (by omega) j hj
theorem Gd_slope {pg : Nat → Nat} {pm : Nat} (g : Gd N) (h : okS pg pm = true) : Gd (n_slope N pg pm) := by
  obtain ⟨r, e1, e2, e3, e4, e5, e6, e7⟩ := okS_J h
  simp only [dgt, decide_eq_true_eq] at e4 e6
  refine ⟨Nat.zero_le _, (by show pm - 2 ≤ 6; omega), Nat.zero_le _, PF_0, fun v hv => absurd hv (Nat.not_lt_zero _), fun v hv => absurd hv (Nat.not_lt_zero _), fun v hv => absurd hv (Nat.not_lt_zero _), fun k hk => ?_, ?_, fun k j hj => ?_, fun v hv => absurd hv (Nat.not_lt_zero _)⟩
  · have hk : k < pm - 2 := hk
    have := e4 k (by omega)
    show (if k < pm - 2 then pg k - 48 else N.de k) < 10
    rw [if_pos hk]
    omega
  · show pg (pm - 1) - 48 < 10
    rw [show pm - 1 = r + 1 by omega]
    omega
  · have hj : (if k < pm - 2 then none else N.fo k) = some j := hj
    split at hj
    · cases hj
    · exact g.fo k j hj
theorem Gd_tread (g : Gd N) : Gd (n_tread N) := by
  have hts := g.ts
  refine ⟨?_, g.s6, g.w5, g.f, g.ki, g.sr, fun v hv => ?_, g.de, g.me, fun k j hj => ?_, g.to⟩
  · show (if okT N.w N.st N.tr N.ki N.fi N.le N.de then N.tr + 1 else N.tr) ≤ N.st
    split
    · next e => exact (okT_lt hts e).2.1
    · exact hts
  · show (if okT N.w N.st N.tr N.ki N.fi N.le N.de then trS N.ki N.fi (N.de N.tr) N.le N.w else N.le) v ≤ 99
    split
    · exact Nat.le_trans trS_le (g.le v hv)
    · exact g.le v hv
  · have hj : (if okT N.w N.st N.tr N.ki N.fi N.le N.de then up N.fo N.tr (some (N.fi 0)) else N.fo) k = some j := hj
    split at hj
    · next e =>
      have h1 := okT_lt hts e
      have h2 := g.f.1 0 (by omega)
      have h3 := g.w5
      unfold up at hj
      split at hj
      · cases hj; omega
      · exact g.fo k j hj
    · exact g.fo k j hj
theorem Gd_change (g : Gd N) : Gd (n_change N) := by
  refine ⟨g.ts, g.s6, g.w5, ?_, g.ki, g.sr, g.le, g.de, g.me, g.fo, g.to⟩
  show PF N.w (if N.w = 0 then N.fi else rot N.w N.fi)
  split
  · exact g.f
  · exact PF_rot g.f
theorem Gd_rest (g : Gd N) : Gd (n_rest N) := by
  refine ⟨g.ts, g.s6, g.w5, g.f, g.ki, g.sr, fun v hv => ?_, g.de, g.me, g.fo, g.to⟩
  show (if N.w = 0 then N.le else rsN N.w N.sr N.le) v ≤ 99
  have h1 := g.le v hv
  have h2 := g.sr v hv
  split
  · exact h1
  · unfold rsN
    split <;> omega
theorem Gd_snow {x : Int32} (g : Gd N) : Gd (n_snow N x) := by
  refine ⟨g.ts, g.s6, g.w5, g.f, g.ki, g.sr, g.le, fun k hk => ?_, g.me, g.fo, g.to⟩
  show (if inB x 0 9 then snN N.tr N.st x.toInt.toNat N.de else N.de) k < 10
  have h1 := g.de k hk
  split
  · unfold snN
    split
    · split <;> omega
    · exact h1
  · exact h1
theorem Gd_sun (g : Gd N) : Gd (n_sun N) := by
  refine ⟨g.ts, g.s6, g.w5, g.f, g.ki, g.sr, g.le, fun k hk => ?_, g.me, g.fo, g.to⟩
  show suN N.tr N.st N.me N.de k < 10
  have h1 := g.de k hk
  unfold suN
  split
  · split <;> omega
  · exact h1
theorem Gd_tell {x y : Int32} (g : Gd N) : Gd (n_tell N x y) := by
  refine ⟨g.ts, g.s6, g.w5, g.f, g.ki, g.sr, g.le, g.de, g.me, g.fo, fun v hv j hj => ?_⟩
  have hj : (if okTl N.w x y then up N.to x.toInt.toNat (tlO y) else N.to) v = some j := hj
  split at hj
  · next e =>
    simp only [okTl, Bool.and_eq_true] at e
    have hy := inB_t.mp e.2
    unfold up at hj
    split at hj
    · unfold tlO at hj
      split at hj
      · cases hj
      · cases hj; omega
    · exact g.to v hv j hj
  · exact g.to v hv j hj
theorem tread_rep {de : Nat → Nat} {fo : Nat → Option Nat} (g : Gd N) (hd : ∀ k, k < N.st → N.de k = de k) (hf : ∀ k, k < N.st → N.fo k = fo k) : n_tread (rep N de fo) = rep (n_tread N) de (if okT N.w N.st N.tr N.ki N.fi N.le N.de then up fo N.tr (some (N.fi 0)) else fo) := by
  have e := okT_de (w := N.w) (ki := N.ki) (fi := N.fi) (le := N.le) g.ts hd
  show mkT N.st N.me (if okT N.w N.st N.tr N.ki N.fi N.le de then N.tr + 1 else N.tr) N.w (if okT N.w N.st N.tr N.ki N.fi N.le de then miT N.ki N.fi N.tr de fo N.mi else N.mi) de N.ki N.sr (if okT N.w N.st N.tr N.ki N.fi N.le de then trS N.ki N.fi (de N.tr) N.le N.w else N.le) N.fi (if okT N.w N.st N.tr N.ki N.fi N.le de then up fo N.tr (some (N.fi 0)) else fo) N.to = mkT N.st N.me (if okT N.w N.st N.tr N.ki N.fi N.le N.de then N.tr + 1 else N.tr) N.w (if okT N.w N.st N.tr N.ki N.fi N.le N.de then miT N.ki N.fi N.tr N.de N.fo N.mi else N.mi) de N.ki N.sr (if okT N.w N.st N.tr N.ki N.fi N.le N.de then trS N.ki N.fi (N.de N.tr) N.le N.w else N.le) N.fi (if okT N.w N.st N.tr N.ki N.fi N.le N.de then up fo N.tr (some (N.fi 0)) else fo) N.to
  rw [← e]
  cases hok : okT N.w N.st N.tr N.ki N.fi N.le N.de with
  | false => rfl
  | true =>
    have h1 := okT_lt g.ts hok
    rw [miT_de (hd N.tr h1.2.1) (fun z => hf (N.tr - 1) (by omega)), hd N.tr h1.2.1]

end S43a
