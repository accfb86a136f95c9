section S44a

theorem wp_saldX {d mc ms m pc nx j : Nat} {xs : List Int32} {L S : List Value} {σ σ' : Sto} {r : Option Value} {X : Nat × Nat × Nat × Int} (hd : ft m pc = some (.iaload, 1, nx, X)) (hx : σ.2.2 0 = xs) (hj : j < xs.length) (hl : xs.length < 2 ^ 31) (kk : WP d mc ms m nx L (.int (xs.getD j 0) :: S) σ r σ') : WP d mc ms m pc L (.int (nI j) :: .ref 0 :: S) σ r σ' := wp_sald hd (by rw [hx]; exact hj) (by rw [hx]; exact hl) (by rw [hx]; exact kk)
theorem and31_ex (x : Int32) : ∃ k, k < 32 ∧ x &&& nI 31 = nI k := by
  refine ⟨(x.toBitVec &&& 31#32).toNat, ?_, ?_⟩
  · rw [BitVec.toNat_and]
    exact Nat.lt_of_le_of_lt Nat.and_le_right (by decide)
  · apply Int32.toBitVec_inj.mp
    show x.toBitVec &&& (nI 31).toBitVec = BitVec.ofNat 32 _
    rw [BitVec.ofNat_toNat, BitVec.setWidth_eq]
    rfl
theorem cmp_self (v : Int64) : lg_cmp v v = 0 := by
  unfold lg_cmp
  simp
theorem inc4 (x : Nat) : nI x + Int32.ofInt 4 = nI (x + 4) := by
  rw [show Int32.ofInt 4 = nI 4 from ic_4]
  exact nI_add x 4
theorem l_0 {xs : List Int32} {c i : Nat} {σ : Sto} (hS : Sm c σ) (hx : σ.2.2 0 = xs) (hi : i + 4 ≤ xs.length) (hL : xs.length ≤ 256) (kk : ∀ σ2, Sm (c + 1) σ2 → σ2.2.2 0 = xs → ∃ σ', WP 20 0 0 137 657 [.ref 0, .ref 1, .ref 77, .int (nI i)] [] σ2 (some (.int (nI 1))) σ') : ∃ σ', WP 20 0 0 137 144 [.ref 0, .ref 1, .ref 77, .int (nI i)] [] σ (some (.int (nI 1))) σ' := by
  have hk := Sm_k hS
  obtain ⟨σ1, σ2, v, E1, E2, h2, e2, q1, e1⟩ := s_letter hS (xs.getD (i + 1) 0)
  have hk1 : σ1.1[77]? = some 7 := by rw [q1]; exact hk.2
  have hx1 := e1.trans hx
  obtain ⟨σ', K⟩ := kk σ2 h2 (e2.trans hx)
  refine ⟨σ', ?_⟩
  refine wp_aload_1 d137_144 ?_
  refine wp_aload_0 d137_145 ?_
  refine wp_iload_3 d137_146 ?_
  refine wp_iconst d137_147 ic_1 ?_
  refine wp_iaddN d137_148 ?_
  refine wp_saldX d137_149 hx (by omega) (by omega) ?_
  refine wp_V1r d137_150 hk.1 E1 (Nat.le_of_ble_eq_true rfl) (Nat.le_of_ble_eq_true rfl) ?_
  refine wp_aload_2 d137_153 ?_
  refine wp_aload_0 d137_154 ?_
  refine wp_iload_3 d137_155 ?_
  refine wp_iconst d137_156 ic_1 ?_
  refine wp_iaddN d137_157 ?_
  refine wp_saldX d137_158 hx1 (by omega) (by omega) ?_
  refine wp_V1r d137_159 hk1 E2 (Nat.le_of_ble_eq_true rfl) (Nat.le_of_ble_eq_true rfl) ?_
  refine wp_icmp_eq d137_162 (by decide) (fun _ => ?_) (fun hq => absurd rfl hq)
  exact K
theorem l_1 {xs : List Int32} {c i : Nat} {σ : Sto} (hS : Sm c σ) (hx : σ.2.2 0 = xs) (hi : i + 4 ≤ xs.length) (hL : xs.length ≤ 256) (kk : ∀ σ2, Sm (c + 1) σ2 → σ2.2.2 0 = xs → ∃ σ', WP 20 0 0 137 657 [.ref 0, .ref 1, .ref 77, .int (nI i)] [] σ2 (some (.int (nI 1))) σ') : ∃ σ', WP 20 0 0 137 167 [.ref 0, .ref 1, .ref 77, .int (nI i)] [] σ (some (.int (nI 1))) σ' := by
  have hk := Sm_k hS
  obtain ⟨σ1, σ2, v, E1, E2, h2, e2, q1, e1⟩ := s_blank hS 
  have hk1 : σ1.1[77]? = some 7 := by rw [q1]; exact hk.2
  have hx1 := e1.trans hx
  obtain ⟨σ', K⟩ := kk σ2 h2 (e2.trans hx)
  refine ⟨σ', ?_⟩
  refine wp_aload_1 d137_167 ?_
  refine wp_V0r d137_168 hk.1 E1 (Nat.le_of_ble_eq_true rfl) (Nat.le_of_ble_eq_true rfl) ?_
  refine wp_aload_2 d137_171 ?_
  refine wp_V0r d137_172 hk1 E2 (Nat.le_of_ble_eq_true rfl) (Nat.le_of_ble_eq_true rfl) ?_
  refine wp_icmp_eq d137_175 (by decide) (fun _ => ?_) (fun hq => absurd rfl hq)
  exact K
theorem l_2 {xs : List Int32} {c i : Nat} {σ : Sto} (hS : Sm c σ) (hx : σ.2.2 0 = xs) (hi : i + 4 ≤ xs.length) (hL : xs.length ≤ 256) (kk : ∀ σ2, Sm (c + 1) σ2 → σ2.2.2 0 = xs → ∃ σ', WP 20 0 0 137 657 [.ref 0, .ref 1, .ref 77, .int (nI i)] [] σ2 (some (.int (nI 1))) σ') : ∃ σ', WP 20 0 0 137 180 [.ref 0, .ref 1, .ref 77, .int (nI i)] [] σ (some (.int (nI 1))) σ' := by
  have hk := Sm_k hS
  obtain ⟨σ1, σ2, v, E1, E2, h2, e2, q1, e1⟩ := s_fault hS 
  have hk1 : σ1.1[77]? = some 7 := by rw [q1]; exact hk.2
  have hx1 := e1.trans hx
  obtain ⟨σ', K⟩ := kk σ2 h2 (e2.trans hx)
  refine ⟨σ', ?_⟩
  refine wp_aload_1 d137_180 ?_
  refine wp_V0r d137_181 hk.1 E1 (Nat.le_of_ble_eq_true rfl) (Nat.le_of_ble_eq_true rfl) ?_
  refine wp_aload_2 d137_184 ?_
  refine wp_V0r d137_185 hk1 E2 (Nat.le_of_ble_eq_true rfl) (Nat.le_of_ble_eq_true rfl) ?_
  refine wp_icmp_eq d137_188 (by decide) (fun _ => ?_) (fun hq => absurd rfl hq)
  exact K
theorem l_3 {xs : List Int32} {c i : Nat} {σ : Sto} (hS : Sm c σ) (hx : σ.2.2 0 = xs) (hi : i + 4 ≤ xs.length) (hL : xs.length ≤ 256) (kk : ∀ σ2, Sm (c + 1) σ2 → σ2.2.2 0 = xs → ∃ σ', WP 20 0 0 137 657 [.ref 0, .ref 1, .ref 77, .int (nI i)] [] σ2 (some (.int (nI 1))) σ') : ∃ σ', WP 20 0 0 137 193 [.ref 0, .ref 1, .ref 77, .int (nI i)] [] σ (some (.int (nI 1))) σ' := by
  have hk := Sm_k hS
  obtain ⟨σ1, σ2, v, E1, E2, h2, e2, q1, e1⟩ := s_slope hS 
  have hk1 : σ1.1[77]? = some 7 := by rw [q1]; exact hk.2
  have hx1 := e1.trans hx
  obtain ⟨σ', K⟩ := kk σ2 h2 (e2.trans hx)
  refine ⟨σ', ?_⟩
  refine wp_aload_1 d137_193 ?_
  refine wp_V0r d137_194 hk.1 E1 (Nat.le_of_ble_eq_true rfl) (Nat.le_of_ble_eq_true rfl) ?_
  refine wp_aload_2 d137_197 ?_
  refine wp_V0r d137_198 hk1 E2 (Nat.le_of_ble_eq_true rfl) (Nat.le_of_ble_eq_true rfl) ?_
  refine wp_icmp_eq d137_201 (by decide) (fun _ => ?_) (fun hq => absurd rfl hq)
  exact K
theorem l_4 {xs : List Int32} {c i : Nat} {σ : Sto} (hS : Sm c σ) (hx : σ.2.2 0 = xs) (hi : i + 4 ≤ xs.length) (hL : xs.length ≤ 256) (kk : ∀ σ2, Sm (c + 1) σ2 → σ2.2.2 0 = xs → ∃ σ', WP 20 0 0 137 657 [.ref 0, .ref 1, .ref 77, .int (nI i)] [] σ2 (some (.int (nI 1))) σ') : ∃ σ', WP 20 0 0 137 206 [.ref 0, .ref 1, .ref 77, .int (nI i)] [] σ (some (.int (nI 1))) σ' := by
  have hk := Sm_k hS
  obtain ⟨σ1, σ2, v, E1, E2, h2, e2, q1, e1⟩ := s_stretch hS (xs.getD (i + 1) 0) (xs.getD (i + 2) 0)
  have hk1 : σ1.1[77]? = some 7 := by rw [q1]; exact hk.2
  have hx1 := e1.trans hx
  obtain ⟨σ', K⟩ := kk σ2 h2 (e2.trans hx)
  refine ⟨σ', ?_⟩
  refine wp_aload_1 d137_206 ?_
  refine wp_aload_0 d137_207 ?_
  refine wp_iload_3 d137_208 ?_
  refine wp_iconst d137_209 ic_1 ?_
  refine wp_iaddN d137_210 ?_
  refine wp_saldX d137_211 hx (by omega) (by omega) ?_
  refine wp_aload_0 d137_212 ?_
  refine wp_iload_3 d137_213 ?_
  refine wp_iconst d137_214 ic_2 ?_
  refine wp_iaddN d137_215 ?_
  refine wp_saldX d137_216 hx (by omega) (by omega) ?_
  refine wp_V2r d137_217 hk.1 E1 (Nat.le_of_ble_eq_true rfl) (Nat.le_of_ble_eq_true rfl) ?_
  refine wp_aload_2 d137_220 ?_
  refine wp_aload_0 d137_221 ?_
  refine wp_iload_3 d137_222 ?_
  refine wp_iconst d137_223 ic_1 ?_
  refine wp_iaddN d137_224 ?_
  refine wp_saldX d137_225 hx1 (by omega) (by omega) ?_
  refine wp_aload_0 d137_226 ?_
  refine wp_iload_3 d137_227 ?_
  refine wp_iconst d137_228 ic_2 ?_
  refine wp_iaddN d137_229 ?_
  refine wp_saldX d137_230 hx1 (by omega) (by omega) ?_
  refine wp_V2r d137_231 hk1 E2 (Nat.le_of_ble_eq_true rfl) (Nat.le_of_ble_eq_true rfl) ?_
  refine wp_icmp_eq d137_234 (by decide) (fun _ => ?_) (fun hq => absurd rfl hq)
  exact K
theorem l_5 {xs : List Int32} {c i : Nat} {σ : Sto} (hS : Sm c σ) (hx : σ.2.2 0 = xs) (hi : i + 4 ≤ xs.length) (hL : xs.length ≤ 256) (kk : ∀ σ2, Sm (c + 1) σ2 → σ2.2.2 0 = xs → ∃ σ', WP 20 0 0 137 657 [.ref 0, .ref 1, .ref 77, .int (nI i)] [] σ2 (some (.int (nI 1))) σ') : ∃ σ', WP 20 0 0 137 239 [.ref 0, .ref 1, .ref 77, .int (nI i)] [] σ (some (.int (nI 1))) σ' := by
  have hk := Sm_k hS
  obtain ⟨σ1, σ2, v, E1, E2, h2, e2, q1, e1⟩ := s_walker hS (xs.getD (i + 1) 0) (xs.getD (i + 2) 0)
  have hk1 : σ1.1[77]? = some 7 := by rw [q1]; exact hk.2
  have hx1 := e1.trans hx
  obtain ⟨σ', K⟩ := kk σ2 h2 (e2.trans hx)
  refine ⟨σ', ?_⟩
  refine wp_aload_1 d137_239 ?_
  refine wp_aload_0 d137_240 ?_
  refine wp_iload_3 d137_241 ?_
  refine wp_iconst d137_242 ic_1 ?_
  refine wp_iaddN d137_243 ?_
  refine wp_saldX d137_244 hx (by omega) (by omega) ?_
  refine wp_aload_0 d137_245 ?_
  refine wp_iload_3 d137_246 ?_
  refine wp_iconst d137_247 ic_2 ?_
  refine wp_iaddN d137_248 ?_
  refine wp_saldX d137_249 hx (by omega) (by omega) ?_
  refine wp_V2r d137_250 hk.1 E1 (Nat.le_of_ble_eq_true rfl) (Nat.le_of_ble_eq_true rfl) ?_
  refine wp_aload_2 d137_253 ?_
  refine wp_aload_0 d137_254 ?_
  refine wp_iload_3 d137_255 ?_
  refine wp_iconst d137_256 ic_1 ?_
  refine wp_iaddN d137_257 ?_
  refine wp_saldX d137_258 hx1 (by omega) (by omega) ?_
  refine wp_aload_0 d137_259 ?_
  refine wp_iload_3 d137_260 ?_
  refine wp_iconst d137_261 ic_2 ?_
  refine wp_iaddN d137_262 ?_
  refine wp_saldX d137_263 hx1 (by omega) (by omega) ?_
  refine wp_V2r d137_264 hk1 E2 (Nat.le_of_ble_eq_true rfl) (Nat.le_of_ble_eq_true rfl) ?_
  refine wp_icmp_eq d137_267 (by decide) (fun _ => ?_) (fun hq => absurd rfl hq)
  exact K
theorem l_6 {xs : List Int32} {c i : Nat} {σ : Sto} (hS : Sm c σ) (hx : σ.2.2 0 = xs) (hi : i + 4 ≤ xs.length) (hL : xs.length ≤ 256) (kk : ∀ σ2, Sm (c + 1) σ2 → σ2.2.2 0 = xs → ∃ σ', WP 20 0 0 137 657 [.ref 0, .ref 1, .ref 77, .int (nI i)] [] σ2 (some (.int (nI 1))) σ') : ∃ σ', WP 20 0 0 137 272 [.ref 0, .ref 1, .ref 77, .int (nI i)] [] σ (some (.int (nI 1))) σ' := by
  have hk := Sm_k hS
  obtain ⟨σ1, σ2, v, E1, E2, h2, e2, q1, e1⟩ := s_about hS (xs.getD (i + 1) 0) (xs.getD (i + 2) 0)
  have hk1 : σ1.1[77]? = some 7 := by rw [q1]; exact hk.2
  have hx1 := e1.trans hx
  obtain ⟨σ', K⟩ := kk σ2 h2 (e2.trans hx)
  refine ⟨σ', ?_⟩
  refine wp_aload_1 d137_272 ?_
  refine wp_aload_0 d137_273 ?_
  refine wp_iload_3 d137_274 ?_
  refine wp_iconst d137_275 ic_1 ?_
  refine wp_iaddN d137_276 ?_
  refine wp_saldX d137_277 hx (by omega) (by omega) ?_
  refine wp_aload_0 d137_278 ?_
  refine wp_iload_3 d137_279 ?_
  refine wp_iconst d137_280 ic_2 ?_
  refine wp_iaddN d137_281 ?_
  refine wp_saldX d137_282 hx (by omega) (by omega) ?_
  refine wp_V2r d137_283 hk.1 E1 (Nat.le_of_ble_eq_true rfl) (Nat.le_of_ble_eq_true rfl) ?_
  refine wp_aload_2 d137_286 ?_
  refine wp_aload_0 d137_287 ?_
  refine wp_iload_3 d137_288 ?_
  refine wp_iconst d137_289 ic_1 ?_
  refine wp_iaddN d137_290 ?_
  refine wp_saldX d137_291 hx1 (by omega) (by omega) ?_
  refine wp_aload_0 d137_292 ?_
  refine wp_iload_3 d137_293 ?_
  refine wp_iconst d137_294 ic_2 ?_
  refine wp_iaddN d137_295 ?_
  refine wp_saldX d137_296 hx1 (by omega) (by omega) ?_
  refine wp_V2r d137_297 hk1 E2 (Nat.le_of_ble_eq_true rfl) (Nat.le_of_ble_eq_true rfl) ?_
  refine wp_icmp_eq d137_300 (by decide) (fun _ => ?_) (fun hq => absurd rfl hq)
  exact K
theorem l_7 {xs : List Int32} {c i : Nat} {σ : Sto} (hS : Sm c σ) (hx : σ.2.2 0 = xs) (hi : i + 4 ≤ xs.length) (hL : xs.length ≤ 256) (kk : ∀ σ2, Sm (c + 1) σ2 → σ2.2.2 0 = xs → ∃ σ', WP 20 0 0 137 657 [.ref 0, .ref 1, .ref 77, .int (nI i)] [] σ2 (some (.int (nI 1))) σ') : ∃ σ', WP 20 0 0 137 305 [.ref 0, .ref 1, .ref 77, .int (nI i)] [] σ (some (.int (nI 1))) σ' := by
  have hk := Sm_k hS
  obtain ⟨σ1, σ2, v, E1, E2, h2, e2, q1, e1⟩ := s_as hS (xs.getD (i + 1) 0) (xs.getD (i + 2) 0)
  have hk1 : σ1.1[77]? = some 7 := by rw [q1]; exact hk.2
  have hx1 := e1.trans hx
  obtain ⟨σ', K⟩ := kk σ2 h2 (e2.trans hx)
  refine ⟨σ', ?_⟩
  refine wp_aload_1 d137_305 ?_
  refine wp_aload_0 d137_306 ?_
  refine wp_iload_3 d137_307 ?_
  refine wp_iconst d137_308 ic_1 ?_
  refine wp_iaddN d137_309 ?_
  refine wp_saldX d137_310 hx (by omega) (by omega) ?_
  refine wp_aload_0 d137_311 ?_
  refine wp_iload_3 d137_312 ?_
  refine wp_iconst d137_313 ic_2 ?_
  refine wp_iaddN d137_314 ?_
  refine wp_saldX d137_315 hx (by omega) (by omega) ?_
  refine wp_V2r d137_316 hk.1 E1 (Nat.le_of_ble_eq_true rfl) (Nat.le_of_ble_eq_true rfl) ?_
  refine wp_aload_2 d137_319 ?_
  refine wp_aload_0 d137_320 ?_
  refine wp_iload_3 d137_321 ?_
  refine wp_iconst d137_322 ic_1 ?_
  refine wp_iaddN d137_323 ?_
  refine wp_saldX d137_324 hx1 (by omega) (by omega) ?_
  refine wp_aload_0 d137_325 ?_
  refine wp_iload_3 d137_326 ?_
  refine wp_iconst d137_327 ic_2 ?_
  refine wp_iaddN d137_328 ?_
  refine wp_saldX d137_329 hx1 (by omega) (by omega) ?_
  refine wp_V2r d137_330 hk1 E2 (Nat.le_of_ble_eq_true rfl) (Nat.le_of_ble_eq_true rfl) ?_
  refine wp_icmp_eq d137_333 (by decide) (fun _ => ?_) (fun hq => absurd rfl hq)
  exact K
theorem l_8 {xs : List Int32} {c i : Nat} {σ : Sto} (hS : Sm c σ) (hx : σ.2.2 0 = xs) (hi : i + 4 ≤ xs.length) (hL : xs.length ≤ 256) (kk : ∀ σ2, Sm (c + 1) σ2 → σ2.2.2 0 = xs → ∃ σ', WP 20 0 0 137 657 [.ref 0, .ref 1, .ref 77, .int (nI i)] [] σ2 (some (.int (nI 1))) σ') : ∃ σ', WP 20 0 0 137 338 [.ref 0, .ref 1, .ref 77, .int (nI i)] [] σ (some (.int (nI 1))) σ' := by
  have hk := Sm_k hS
  obtain ⟨σ1, σ2, v, E1, E2, h2, e2, q1, e1⟩ := s_tread hS 
  have hk1 : σ1.1[77]? = some 7 := by rw [q1]; exact hk.2
  have hx1 := e1.trans hx
  obtain ⟨σ', K⟩ := kk σ2 h2 (e2.trans hx)
  refine ⟨σ', ?_⟩
  refine wp_aload_1 d137_338 ?_
  refine wp_V0r d137_339 hk.1 E1 (Nat.le_of_ble_eq_true rfl) (Nat.le_of_ble_eq_true rfl) ?_
  refine wp_aload_2 d137_342 ?_
  refine wp_V0r d137_343 hk1 E2 (Nat.le_of_ble_eq_true rfl) (Nat.le_of_ble_eq_true rfl) ?_
  refine wp_icmp_eq d137_346 (by decide) (fun _ => ?_) (fun hq => absurd rfl hq)
  exact K
theorem l_9 {xs : List Int32} {c i : Nat} {σ : Sto} (hS : Sm c σ) (hx : σ.2.2 0 = xs) (hi : i + 4 ≤ xs.length) (hL : xs.length ≤ 256) (kk : ∀ σ2, Sm (c + 1) σ2 → σ2.2.2 0 = xs → ∃ σ', WP 20 0 0 137 657 [.ref 0, .ref 1, .ref 77, .int (nI i)] [] σ2 (some (.int (nI 1))) σ') : ∃ σ', WP 20 0 0 137 351 [.ref 0, .ref 1, .ref 77, .int (nI i)] [] σ (some (.int (nI 1))) σ' := by
  have hk := Sm_k hS
  obtain ⟨σ1, σ2, v, E1, E2, h2, e2, q1, e1⟩ := s_change hS 
  have hk1 : σ1.1[77]? = some 7 := by rw [q1]; exact hk.2
  have hx1 := e1.trans hx
  obtain ⟨σ', K⟩ := kk σ2 h2 (e2.trans hx)
  refine ⟨σ', ?_⟩
  refine wp_aload_1 d137_351 ?_
  refine wp_V0r d137_352 hk.1 E1 (Nat.le_of_ble_eq_true rfl) (Nat.le_of_ble_eq_true rfl) ?_
  refine wp_aload_2 d137_355 ?_
  refine wp_V0r d137_356 hk1 E2 (Nat.le_of_ble_eq_true rfl) (Nat.le_of_ble_eq_true rfl) ?_
  refine wp_icmp_eq d137_359 (by decide) (fun _ => ?_) (fun hq => absurd rfl hq)
  exact K
theorem l_10 {xs : List Int32} {c i : Nat} {σ : Sto} (hS : Sm c σ) (hx : σ.2.2 0 = xs) (hi : i + 4 ≤ xs.length) (hL : xs.length ≤ 256) (kk : ∀ σ2, Sm (c + 1) σ2 → σ2.2.2 0 = xs → ∃ σ', WP 20 0 0 137 657 [.ref 0, .ref 1, .ref 77, .int (nI i)] [] σ2 (some (.int (nI 1))) σ') : ∃ σ', WP 20 0 0 137 364 [.ref 0, .ref 1, .ref 77, .int (nI i)] [] σ (some (.int (nI 1))) σ' := by
  have hk := Sm_k hS
  obtain ⟨σ1, σ2, v, E1, E2, h2, e2, q1, e1⟩ := s_rest hS 
  have hk1 : σ1.1[77]? = some 7 := by rw [q1]; exact hk.2
  have hx1 := e1.trans hx
  obtain ⟨σ', K⟩ := kk σ2 h2 (e2.trans hx)
  refine ⟨σ', ?_⟩
  refine wp_aload_1 d137_364 ?_
  refine wp_V0r d137_365 hk.1 E1 (Nat.le_of_ble_eq_true rfl) (Nat.le_of_ble_eq_true rfl) ?_
  refine wp_aload_2 d137_368 ?_
  refine wp_V0r d137_369 hk1 E2 (Nat.le_of_ble_eq_true rfl) (Nat.le_of_ble_eq_true rfl) ?_
  refine wp_icmp_eq d137_372 (by decide) (fun _ => ?_) (fun hq => absurd rfl hq)
  exact K
theorem l_11 {xs : List Int32} {c i : Nat} {σ : Sto} (hS : Sm c σ) (hx : σ.2.2 0 = xs) (hi : i + 4 ≤ xs.length) (hL : xs.length ≤ 256) (kk : ∀ σ2, Sm (c + 1) σ2 → σ2.2.2 0 = xs → ∃ σ', WP 20 0 0 137 657 [.ref 0, .ref 1, .ref 77, .int (nI i)] [] σ2 (some (.int (nI 1))) σ') : ∃ σ', WP 20 0 0 137 377 [.ref 0, .ref 1, .ref 77, .int (nI i)] [] σ (some (.int (nI 1))) σ' := by
  have hk := Sm_k hS
  obtain ⟨σ1, σ2, v, E1, E2, h2, e2, q1, e1⟩ := s_snow hS (xs.getD (i + 1) 0)
  have hk1 : σ1.1[77]? = some 7 := by rw [q1]; exact hk.2
  have hx1 := e1.trans hx
  obtain ⟨σ', K⟩ := kk σ2 h2 (e2.trans hx)
  refine ⟨σ', ?_⟩
  refine wp_aload_1 d137_377 ?_
  refine wp_aload_0 d137_378 ?_
  refine wp_iload_3 d137_379 ?_
  refine wp_iconst d137_380 ic_1 ?_
  refine wp_iaddN d137_381 ?_
  refine wp_saldX d137_382 hx (by omega) (by omega) ?_
  refine wp_V1r d137_383 hk.1 E1 (Nat.le_of_ble_eq_true rfl) (Nat.le_of_ble_eq_true rfl) ?_
  refine wp_aload_2 d137_386 ?_
  refine wp_aload_0 d137_387 ?_
  refine wp_iload_3 d137_388 ?_
  refine wp_iconst d137_389 ic_1 ?_
  refine wp_iaddN d137_390 ?_
  refine wp_saldX d137_391 hx1 (by omega) (by omega) ?_
  refine wp_V1r d137_392 hk1 E2 (Nat.le_of_ble_eq_true rfl) (Nat.le_of_ble_eq_true rfl) ?_
  refine wp_icmp_eq d137_395 (by decide) (fun _ => ?_) (fun hq => absurd rfl hq)
  exact K
theorem l_12 {xs : List Int32} {c i : Nat} {σ : Sto} (hS : Sm c σ) (hx : σ.2.2 0 = xs) (hi : i + 4 ≤ xs.length) (hL : xs.length ≤ 256) (kk : ∀ σ2, Sm (c + 1) σ2 → σ2.2.2 0 = xs → ∃ σ', WP 20 0 0 137 657 [.ref 0, .ref 1, .ref 77, .int (nI i)] [] σ2 (some (.int (nI 1))) σ') : ∃ σ', WP 20 0 0 137 400 [.ref 0, .ref 1, .ref 77, .int (nI i)] [] σ (some (.int (nI 1))) σ' := by
  have hk := Sm_k hS
  obtain ⟨σ1, σ2, v, E1, E2, h2, e2, q1, e1⟩ := s_sun hS 
  have hk1 : σ1.1[77]? = some 7 := by rw [q1]; exact hk.2
  have hx1 := e1.trans hx
  obtain ⟨σ', K⟩ := kk σ2 h2 (e2.trans hx)
  refine ⟨σ', ?_⟩
  refine wp_aload_1 d137_400 ?_
  refine wp_V0r d137_401 hk.1 E1 (Nat.le_of_ble_eq_true rfl) (Nat.le_of_ble_eq_true rfl) ?_
  refine wp_aload_2 d137_404 ?_
  refine wp_V0r d137_405 hk1 E2 (Nat.le_of_ble_eq_true rfl) (Nat.le_of_ble_eq_true rfl) ?_
  refine wp_icmp_eq d137_408 (by decide) (fun _ => ?_) (fun hq => absurd rfl hq)
  exact K
theorem l_13 {xs : List Int32} {c i : Nat} {σ : Sto} (hS : Sm c σ) (hx : σ.2.2 0 = xs) (hi : i + 4 ≤ xs.length) (hL : xs.length ≤ 256) (kk : ∀ σ2, Sm (c + 1) σ2 → σ2.2.2 0 = xs → ∃ σ', WP 20 0 0 137 657 [.ref 0, .ref 1, .ref 77, .int (nI i)] [] σ2 (some (.int (nI 1))) σ') : ∃ σ', WP 20 0 0 137 413 [.ref 0, .ref 1, .ref 77, .int (nI i)] [] σ (some (.int (nI 1))) σ' := by
  have hk := Sm_k hS
  obtain ⟨σ1, σ2, v, E1, E2, h2, e2, q1, e1⟩ := s_bestC hS (xs.getD (i + 1) 0)
  have hk1 : σ1.1[77]? = some 7 := by rw [q1]; exact hk.2
  have hx1 := e1.trans hx
  obtain ⟨σ', K⟩ := kk σ2 h2 (e2.trans hx)
  refine ⟨σ', ?_⟩
  refine wp_aload_1 d137_413 ?_
  refine wp_aload_0 d137_414 ?_
  refine wp_iload_3 d137_415 ?_
  refine wp_iconst d137_416 ic_1 ?_
  refine wp_iaddN d137_417 ?_
  refine wp_saldX d137_418 hx (by omega) (by omega) ?_
  refine wp_V1r d137_419 hk.1 E1 (Nat.le_of_ble_eq_true rfl) (Nat.le_of_ble_eq_true rfl) ?_
  refine wp_aload_2 d137_422 ?_
  refine wp_aload_0 d137_423 ?_
  refine wp_iload_3 d137_424 ?_
  refine wp_iconst d137_425 ic_1 ?_
  refine wp_iaddN d137_426 ?_
  refine wp_saldX d137_427 hx1 (by omega) (by omega) ?_
  refine wp_V1r d137_428 hk1 E2 (Nat.le_of_ble_eq_true rfl) (Nat.le_of_ble_eq_true rfl) ?_
  refine wp_icmp_eq d137_431 (by decide) (fun _ => ?_) (fun hq => absurd rfl hq)
  exact K
theorem l_14 {xs : List Int32} {c i : Nat} {σ : Sto} (hS : Sm c σ) (hx : σ.2.2 0 = xs) (hi : i + 4 ≤ xs.length) (hL : xs.length ≤ 256) (kk : ∀ σ2, Sm (c + 1) σ2 → σ2.2.2 0 = xs → ∃ σ', WP 20 0 0 137 657 [.ref 0, .ref 1, .ref 77, .int (nI i)] [] σ2 (some (.int (nI 1))) σ') : ∃ σ', WP 20 0 0 137 436 [.ref 0, .ref 1, .ref 77, .int (nI i)] [] σ (some (.int (nI 1))) σ' := by
  have hk := Sm_k hS
  obtain ⟨σ1, σ2, v, E1, E2, h2, e2, q1, e1⟩ := s_far hS (xs.getD (i + 1) 0)
  have hk1 : σ1.1[77]? = some 7 := by rw [q1]; exact hk.2
  have hx1 := e1.trans hx
  obtain ⟨σ', K⟩ := kk σ2 h2 (e2.trans hx)
  refine ⟨σ', ?_⟩
  refine wp_aload_1 d137_436 ?_
  refine wp_aload_0 d137_437 ?_
  refine wp_iload_3 d137_438 ?_
  refine wp_iconst d137_439 ic_1 ?_
  refine wp_iaddN d137_440 ?_
  refine wp_saldX d137_441 hx (by omega) (by omega) ?_
  refine wp_V1r d137_442 hk.1 E1 (Nat.le_of_ble_eq_true rfl) (Nat.le_of_ble_eq_true rfl) ?_
  refine wp_aload_2 d137_445 ?_
  refine wp_aload_0 d137_446 ?_
  refine wp_iload_3 d137_447 ?_
  refine wp_iconst d137_448 ic_1 ?_
  refine wp_iaddN d137_449 ?_
  refine wp_saldX d137_450 hx1 (by omega) (by omega) ?_
  refine wp_V1r d137_451 hk1 E2 (Nat.le_of_ble_eq_true rfl) (Nat.le_of_ble_eq_true rfl) ?_
  refine wp_icmp_eq d137_454 (by decide) (fun _ => ?_) (fun hq => absurd rfl hq)
  exact K
theorem l_15 {xs : List Int32} {c i : Nat} {σ : Sto} (hS : Sm c σ) (hx : σ.2.2 0 = xs) (hi : i + 4 ≤ xs.length) (hL : xs.length ≤ 256) (kk : ∀ σ2, Sm (c + 1) σ2 → σ2.2.2 0 = xs → ∃ σ', WP 20 0 0 137 657 [.ref 0, .ref 1, .ref 77, .int (nI i)] [] σ2 (some (.int (nI 1))) σ') : ∃ σ', WP 20 0 0 137 459 [.ref 0, .ref 1, .ref 77, .int (nI i)] [] σ (some (.int (nI 1))) σ' := by
  have hk := Sm_k hS
  obtain ⟨σ1, σ2, v, E1, E2, h2, e2, q1, e1⟩ := s_setOutC hS (xs.getD (i + 1) 0)
  have hk1 : σ1.1[77]? = some 7 := by rw [q1]; exact hk.2
  have hx1 := e1.trans hx
  obtain ⟨σ', K⟩ := kk σ2 h2 (e2.trans hx)
  refine ⟨σ', ?_⟩
  refine wp_aload_1 d137_459 ?_
  refine wp_aload_0 d137_460 ?_
  refine wp_iload_3 d137_461 ?_
  refine wp_iconst d137_462 ic_1 ?_
  refine wp_iaddN d137_463 ?_
  refine wp_saldX d137_464 hx (by omega) (by omega) ?_
  refine wp_V1r d137_465 hk.1 E1 (Nat.le_of_ble_eq_true rfl) (Nat.le_of_ble_eq_true rfl) ?_
  refine wp_aload_2 d137_468 ?_
  refine wp_aload_0 d137_469 ?_
  refine wp_iload_3 d137_470 ?_
  refine wp_iconst d137_471 ic_1 ?_
  refine wp_iaddN d137_472 ?_
  refine wp_saldX d137_473 hx1 (by omega) (by omega) ?_
  refine wp_V1r d137_474 hk1 E2 (Nat.le_of_ble_eq_true rfl) (Nat.le_of_ble_eq_true rfl) ?_
  refine wp_icmp_eq d137_477 (by decide) (fun _ => ?_) (fun hq => absurd rfl hq)
  exact K
theorem l_16 {xs : List Int32} {c i : Nat} {σ : Sto} (hS : Sm c σ) (hx : σ.2.2 0 = xs) (hi : i + 4 ≤ xs.length) (hL : xs.length ≤ 256) (kk : ∀ σ2, Sm (c + 1) σ2 → σ2.2.2 0 = xs → ∃ σ', WP 20 0 0 137 657 [.ref 0, .ref 1, .ref 77, .int (nI i)] [] σ2 (some (.int (nI 1))) σ') : ∃ σ', WP 20 0 0 137 482 [.ref 0, .ref 1, .ref 77, .int (nI i)] [] σ (some (.int (nI 1))) σ' := by
  have hk := Sm_k hS
  obtain ⟨σ1, σ2, v, E1, E2, h2, e2, q1, e1⟩ := s_tell hS (xs.getD (i + 1) 0) (xs.getD (i + 2) 0)
  have hk1 : σ1.1[77]? = some 7 := by rw [q1]; exact hk.2
  have hx1 := e1.trans hx
  obtain ⟨σ', K⟩ := kk σ2 h2 (e2.trans hx)
  refine ⟨σ', ?_⟩
  refine wp_aload_1 d137_482 ?_
  refine wp_aload_0 d137_483 ?_
  refine wp_iload_3 d137_484 ?_
  refine wp_iconst d137_485 ic_1 ?_
  refine wp_iaddN d137_486 ?_
  refine wp_saldX d137_487 hx (by omega) (by omega) ?_
  refine wp_aload_0 d137_488 ?_
  refine wp_iload_3 d137_489 ?_
  refine wp_iconst d137_490 ic_2 ?_
  refine wp_iaddN d137_491 ?_
  refine wp_saldX d137_492 hx (by omega) (by omega) ?_
  refine wp_V2r d137_493 hk.1 E1 (Nat.le_of_ble_eq_true rfl) (Nat.le_of_ble_eq_true rfl) ?_
  refine wp_aload_2 d137_496 ?_
  refine wp_aload_0 d137_497 ?_
  refine wp_iload_3 d137_498 ?_
  refine wp_iconst d137_499 ic_1 ?_
  refine wp_iaddN d137_500 ?_
  refine wp_saldX d137_501 hx1 (by omega) (by omega) ?_
  refine wp_aload_0 d137_502 ?_
  refine wp_iload_3 d137_503 ?_
  refine wp_iconst d137_504 ic_2 ?_
  refine wp_iaddN d137_505 ?_
  refine wp_saldX d137_506 hx1 (by omega) (by omega) ?_
  refine wp_V2r d137_507 hk1 E2 (Nat.le_of_ble_eq_true rfl) (Nat.le_of_ble_eq_true rfl) ?_
  refine wp_icmp_eq d137_510 (by decide) (fun _ => ?_) (fun hq => absurd rfl hq)
  exact K
theorem l_17 {xs : List Int32} {c i : Nat} {σ : Sto} (hS : Sm c σ) (hx : σ.2.2 0 = xs) (hi : i + 4 ≤ xs.length) (hL : xs.length ≤ 256) (kk : ∀ σ2, Sm (c + 1) σ2 → σ2.2.2 0 = xs → ∃ σ', WP 20 0 0 137 657 [.ref 0, .ref 1, .ref 77, .int (nI i)] [] σ2 (some (.int (nI 1))) σ') : ∃ σ', WP 20 0 0 137 515 [.ref 0, .ref 1, .ref 77, .int (nI i)] [] σ (some (.int (nI 1))) σ' := by
  have hk := Sm_k hS
  obtain ⟨σ1, σ2, v, E1, E2, h2, e2, q1, e1⟩ := s_fits hS 
  have hk1 : σ1.1[77]? = some 7 := by rw [q1]; exact hk.2
  have hx1 := e1.trans hx
  obtain ⟨σ', K⟩ := kk σ2 h2 (e2.trans hx)
  refine ⟨σ', ?_⟩
  refine wp_aload_1 d137_515 ?_
  refine wp_V0r d137_516 hk.1 E1 (Nat.le_of_ble_eq_true rfl) (Nat.le_of_ble_eq_true rfl) ?_
  refine wp_aload_2 d137_519 ?_
  refine wp_V0r d137_520 hk1 E2 (Nat.le_of_ble_eq_true rfl) (Nat.le_of_ble_eq_true rfl) ?_
  refine wp_icmp_eq d137_523 (by decide) (fun _ => ?_) (fun hq => absurd rfl hq)
  exact K
theorem l_18 {xs : List Int32} {c i : Nat} {σ : Sto} (hS : Sm c σ) (hx : σ.2.2 0 = xs) (hi : i + 4 ≤ xs.length) (hL : xs.length ≤ 256) (kk : ∀ σ2, Sm (c + 1) σ2 → σ2.2.2 0 = xs → ∃ σ', WP 20 0 0 137 657 [.ref 0, .ref 1, .ref 77, .int (nI i)] [] σ2 (some (.int (nI 1))) σ') : ∃ σ', WP 20 0 0 137 528 [.ref 0, .ref 1, .ref 77, .int (nI i)] [] σ (some (.int (nI 1))) σ' := by
  have hk := Sm_k hS
  obtain ⟨σ1, σ2, v, E1, E2, h2, e2, q1, e1⟩ := s_sure hS (xs.getD (i + 1) 0)
  have hk1 : σ1.1[77]? = some 7 := by rw [q1]; exact hk.2
  have hx1 := e1.trans hx
  obtain ⟨σ', K⟩ := kk σ2 h2 (e2.trans hx)
  refine ⟨σ', ?_⟩
  refine wp_aload_1 d137_528 ?_
  refine wp_aload_0 d137_529 ?_
  refine wp_iload_3 d137_530 ?_
  refine wp_iconst d137_531 ic_1 ?_
  refine wp_iaddN d137_532 ?_
  refine wp_saldX d137_533 hx (by omega) (by omega) ?_
  refine wp_V1r d137_534 hk.1 E1 (Nat.le_of_ble_eq_true rfl) (Nat.le_of_ble_eq_true rfl) ?_
  refine wp_aload_2 d137_537 ?_
  refine wp_aload_0 d137_538 ?_
  refine wp_iload_3 d137_539 ?_
  refine wp_iconst d137_540 ic_1 ?_
  refine wp_iaddN d137_541 ?_
  refine wp_saldX d137_542 hx1 (by omega) (by omega) ?_
  refine wp_V1r d137_543 hk1 E2 (Nat.le_of_ble_eq_true rfl) (Nat.le_of_ble_eq_true rfl) ?_
  refine wp_icmp_eq d137_546 (by decide) (fun _ => ?_) (fun hq => absurd rfl hq)
  exact K
theorem l_19 {xs : List Int32} {c i : Nat} {σ : Sto} (hS : Sm c σ) (hx : σ.2.2 0 = xs) (hi : i + 4 ≤ xs.length) (hL : xs.length ≤ 256) (kk : ∀ σ2, Sm (c + 1) σ2 → σ2.2.2 0 = xs → ∃ σ', WP 20 0 0 137 657 [.ref 0, .ref 1, .ref 77, .int (nI i)] [] σ2 (some (.int (nI 1))) σ') : ∃ σ', WP 20 0 0 137 551 [.ref 0, .ref 1, .ref 77, .int (nI i)] [] σ (some (.int (nI 1))) σ' := by
  have hk := Sm_k hS
  obtain ⟨σ1, σ2, v, E1, E2, h2, e2, q1, e1⟩ := s_days hS (xs.getD (i + 1) 0) (xs.getD (i + 2) 0) (xs.getD (i + 3) 0)
  have hk1 : σ1.1[77]? = some 7 := by rw [q1]; exact hk.2
  have hx1 := e1.trans hx
  obtain ⟨σ', K⟩ := kk σ2 h2 (e2.trans hx)
  refine ⟨σ', ?_⟩
  refine wp_aload_1 d137_551 ?_
  refine wp_aload_0 d137_552 ?_
  refine wp_iload_3 d137_553 ?_
  refine wp_iconst d137_554 ic_1 ?_
  refine wp_iaddN d137_555 ?_
  refine wp_saldX d137_556 hx (by omega) (by omega) ?_
  refine wp_aload_0 d137_557 ?_
  refine wp_iload_3 d137_558 ?_
  refine wp_iconst d137_559 ic_2 ?_
  refine wp_iaddN d137_560 ?_
  refine wp_saldX d137_561 hx (by omega) (by omega) ?_
  refine wp_aload_0 d137_562 ?_
  refine wp_iload_3 d137_563 ?_
  refine wp_iconst d137_564 ic_3 ?_
  refine wp_iaddN d137_565 ?_
  refine wp_saldX d137_566 hx (by omega) (by omega) ?_
  refine wp_V3r d137_567 hk.1 E1 (Nat.le_of_ble_eq_true rfl) (Nat.le_of_ble_eq_true rfl) ?_
  refine wp_aload_2 d137_570 ?_
  refine wp_aload_0 d137_571 ?_
  refine wp_iload_3 d137_572 ?_
  refine wp_iconst d137_573 ic_1 ?_
  refine wp_iaddN d137_574 ?_
  refine wp_saldX d137_575 hx1 (by omega) (by omega) ?_
  refine wp_aload_0 d137_576 ?_
  refine wp_iload_3 d137_577 ?_
  refine wp_iconst d137_578 ic_2 ?_
  refine wp_iaddN d137_579 ?_
  refine wp_saldX d137_580 hx1 (by omega) (by omega) ?_
  refine wp_aload_0 d137_581 ?_
  refine wp_iload_3 d137_582 ?_
  refine wp_iconst d137_583 ic_3 ?_
  refine wp_iaddN d137_584 ?_
  refine wp_saldX d137_585 hx1 (by omega) (by omega) ?_
  refine wp_V3r d137_586 hk1 E2 (Nat.le_of_ble_eq_true rfl) (Nat.le_of_ble_eq_true rfl) ?_
  refine wp_icmp_eq d137_589 (by decide) (fun _ => ?_) (fun hq => absurd rfl hq)
  exact K
theorem l_20 {xs : List Int32} {c i : Nat} {σ : Sto} (hS : Sm c σ) (hx : σ.2.2 0 = xs) (hi : i + 4 ≤ xs.length) (hL : xs.length ≤ 256) (kk : ∀ σ2, Sm (c + 1) σ2 → σ2.2.2 0 = xs → ∃ σ', WP 20 0 0 137 657 [.ref 0, .ref 1, .ref 77, .int (nI i)] [] σ2 (some (.int (nI 1))) σ') : ∃ σ', WP 20 0 0 137 594 [.ref 0, .ref 1, .ref 77, .int (nI i)] [] σ (some (.int (nI 1))) σ' := by
  have hk := Sm_k hS
  obtain ⟨σ1, σ2, v, E1, E2, h2, e2, q1, e1⟩ := s_image hS 
  have hk1 : σ1.1[77]? = some 7 := by rw [q1]; exact hk.2
  have hx1 := e1.trans hx
  obtain ⟨σ', K⟩ := kk σ2 h2 (e2.trans hx)
  refine ⟨σ', ?_⟩
  refine wp_aload_1 d137_594 ?_
  refine wp_V0r d137_595 hk.1 E1 (Nat.le_of_ble_eq_true rfl) (Nat.le_of_ble_eq_true rfl) ?_
  refine wp_aload_2 d137_598 ?_
  refine wp_V0r d137_599 hk1 E2 (Nat.le_of_ble_eq_true rfl) (Nat.le_of_ble_eq_true rfl) ?_
  refine wp_icmp_eq d137_602 (by decide) (fun _ => ?_) (fun hq => absurd rfl hq)
  exact K
theorem l_21 {xs : List Int32} {c i : Nat} {σ : Sto} (hS : Sm c σ) (hc : c ≤ 1000) (hx : σ.2.2 0 = xs) (hi : i + 4 ≤ xs.length) (hL : xs.length ≤ 256) (kk : ∀ σ2, Sm (c + 1) σ2 → σ2.2.2 0 = xs → ∃ σ', WP 20 0 0 137 657 [.ref 0, .ref 1, .ref 77, .int (nI i)] [] σ2 (some (.int (nI 1))) σ') : ∃ σ', WP 20 0 0 137 607 [.ref 0, .ref 1, .ref 77, .int (nI i)] [] σ (some (.int (nI 1))) σ' := by
  have hk := Sm_k hS
  obtain ⟨σ1, σ2, v, E1, E2, h2, e2, q1, e1⟩ := s_restore hS hc
  have hk1 : σ1.1[77]? = some 7 := by rw [q1]; exact hk.2
  have hx1 := e1.trans hx
  obtain ⟨σ', K⟩ := kk σ2 h2 (e2.trans hx)
  refine ⟨σ', ?_⟩
  refine wp_aload_1 d137_607 ?_
  refine wp_V0r d137_608 hk.1 E1 (Nat.le_of_ble_eq_true rfl) (Nat.le_of_ble_eq_true rfl) ?_
  refine wp_aload_2 d137_611 ?_
  refine wp_V0r d137_612 hk1 E2 (Nat.le_of_ble_eq_true rfl) (Nat.le_of_ble_eq_true rfl) ?_
  refine wp_icmp_eq d137_615 (by decide) (fun _ => ?_) (fun hq => absurd rfl hq)
  exact K
theorem l_22 {xs : List Int32} {c i : Nat} {σ : Sto} (hS : Sm c σ) (hx : σ.2.2 0 = xs) (hi : i + 4 ≤ xs.length) (hL : xs.length ≤ 256) (kk : ∀ σ2, Sm (c + 1) σ2 → σ2.2.2 0 = xs → ∃ σ', WP 20 0 0 137 657 [.ref 0, .ref 1, .ref 77, .int (nI i)] [] σ2 (some (.int (nI 1))) σ') : ∃ σ', WP 20 0 0 137 620 [.ref 0, .ref 1, .ref 77, .int (nI i)] [] σ (some (.int (nI 1))) σ' := by
  have hk := Sm_k hS
  obtain ⟨σ1, σ2, v, E1, E2, h2, e2, q1, e1⟩ := s_count hS (xs.getD (i + 1) 0)
  have hk1 : σ1.1[77]? = some 7 := by rw [q1]; exact hk.2
  have hx1 := e1.trans hx
  obtain ⟨σ', K⟩ := kk σ2 h2 (e2.trans hx)
  refine ⟨σ', ?_⟩
  refine wp_aload_1 d137_620 ?_
  refine wp_aload_0 d137_621 ?_
  refine wp_iload_3 d137_622 ?_
  refine wp_iconst d137_623 ic_1 ?_
  refine wp_iaddN d137_624 ?_
  refine wp_saldX d137_625 hx (by omega) (by omega) ?_
  refine wp_V1r d137_626 hk.1 E1 (Nat.le_of_ble_eq_true rfl) (Nat.le_of_ble_eq_true rfl) ?_
  refine wp_aload_2 d137_629 ?_
  refine wp_aload_0 d137_630 ?_
  refine wp_iload_3 d137_631 ?_
  refine wp_iconst d137_632 ic_1 ?_
  refine wp_iaddN d137_633 ?_
  refine wp_saldX d137_634 hx1 (by omega) (by omega) ?_
  refine wp_V1r d137_635 hk1 E2 (Nat.le_of_ble_eq_true rfl) (Nat.le_of_ble_eq_true rfl) ?_
  refine wp_icmp_eq d137_638 (by decide) (fun _ => ?_) (fun hq => absurd rfl hq)
  exact K
theorem l_23 {xs : List Int32} {c i : Nat} {σ : Sto} (hS : Sm c σ) (hx : σ.2.2 0 = xs) (hi : i + 4 ≤ xs.length) (hL : xs.length ≤ 256) (kk : ∀ σ2, Sm (c + 1) σ2 → σ2.2.2 0 = xs → ∃ σ', WP 20 0 0 137 657 [.ref 0, .ref 1, .ref 77, .int (nI i)] [] σ2 (some (.int (nI 1))) σ') : ∃ σ', WP 20 0 0 137 643 [.ref 0, .ref 1, .ref 77, .int (nI i)] [] σ (some (.int (nI 1))) σ' := by
  have hk := Sm_k hS
  obtain ⟨σ1, σ2, v, E1, E2, h2, e2, q1, e1⟩ := s_digest hS 
  have hk1 : σ1.1[77]? = some 7 := by rw [q1]; exact hk.2
  have hx1 := e1.trans hx
  obtain ⟨σ', K⟩ := kk σ2 h2 (e2.trans hx)
  refine ⟨σ', ?_⟩
  refine wp_aload_1 d137_643 ?_
  refine wp_V0r d137_644 hk.1 E1 (Nat.le_of_ble_eq_true rfl) (Nat.le_of_ble_eq_true rfl) ?_
  refine wp_aload_2 d137_647 ?_
  refine wp_V0r d137_648 hk1 E2 (Nat.le_of_ble_eq_true rfl) (Nat.le_of_ble_eq_true rfl) ?_
  refine wp_lcmp d137_651 ?_
  refine wp_if_eq d137_652 (by decide) (fun _ => ?_) (fun hq => absurd (cmp_self v) hq)
  exact K

end S44a
