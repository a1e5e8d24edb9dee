/-! the law's cases -/
abbrev iL_law : MI := (RL, cL_law, 4, (some .boolean), false)
theorem XS.y {G : GG} {X b m : Nat} {S : Nat → Nat → Int32} {t : List Nat} {M : Mem} (h : XS G X S b m t M) : ∃ fs, X + 248 ∈ M.1 ∧ M.2.1 (X + 248) = .inr (11, fs) := by
  have := h.1 12 (by decide)
  unfold At at this
  exact ⟨_, h.2.1 248 (by omega), (congrFun this (X + 248)).symm.trans (rE_at (r := mR G (X + 248)) (j := 0) (by show 0 < 8; omega))⟩
theorem XS.m7 {G : GG} {X b m : Nat} {S : Nat → Nat → Int32} {t : List Nat} {M : Mem} (h : XS G X S b m t M) : m ≤ 700 := by
  obtain ⟨f, ml, -, -, -, ⟨-, l⟩, -⟩ := h.2.2.2.2
  exact l
section LC
variable {G : GG} {X a N i d b m n r mc ms k q : Nat} {xs : Nat → Int32} {S : Nat → Nat → Int32} {t : List Nat} {M : Mem}
theorem lc_reset (hsc : (FieldType.int, a, N, fun j => Value.int (xs j)) ∈ gS G) (hN : N ≤ 2048) (hi : i + 4 ≤ N) (hx : XS G X S b m t M) (hd : 1 ≤ d) (hst : Sty G X (d - 1) S b m M n r yX11_reset iX11_reset yX12_reset iX12_reset [.int (xs (i + 1))]) (h1 : k + (700 - m) ≤ mc) (h2 : q + 2 * (700 - m) ≤ ms) (tl : ∀ (M2 : Mem) (S2 : Nat → Nat → Int32) (b2 m2 : Nat) (t2 : List Nat), XS G X S2 b2 m2 t2 M2 → SR S2 (n + 100) (r + 20000) → ∀ k2 q2, k2 + (700 - m2) ≤ mc → q2 + 2 * (700 - m2) ≤ ms → ∃ M', WP G iL_law d mc ms (some (.int 1)) M' 1158 [some (.ref a), some (.ref X), some (.ref (X + 248)), some (.int (nI i))] [] M2 k2 q2) : ∃ M', WP G iL_law d mc ms (some (.int 1)) M' 208 [some (.ref a), some (.ref X), some (.ref (X + 248)), some (.int (nI i))] [] M k q := by
  obtain ⟨M1, M2, S2, b2, m2, t2, v, c1, c2, x2, s2, le, S1, b1, t1, x1⟩ := hst
  have hm2 := x2.m7
  obtain ⟨fs, yy1, yy2⟩ := x1.y
  obtain ⟨M', kw⟩ := tl M2 S2 b2 m2 t2 x2 s2 (k + (m2 - m)) (q + 2 * (m2 - m)) (by omega) (by omega)
  refine ⟨M', ?_⟩
  refine wp_ald1 dL_law_208 ?_
  refine wp_ald0 dL_law_209 ?_
  refine wp_ild3 dL_law_210 ?_
  refine wp_iconst (v := 1) dL_law_211 (by decide) ?_
  refine wp_iaddN (a := i) (b := 1) rfl (by decide) dL_law_212 ?_
  refine wp_tald (v := .int (xs (i + 1))) dL_law_213 hsc (nI_in (by omega) (by omega)) (by show Value.int (xs (nt (nI (i + 1)))) = _; rw [ntn (by omega)]) ?_
  refine wp_callV (As := [.int (xs (i + 1))]) dL_law_214 kL_13 c1 (hx.2.1 0 (by omega)) hx.x rfl rfl (by omega) (by omega) (by omega) rfl (Nat.le_of_ble_eq_true rfl) ?_
  refine wp_ald2 dL_law_217 ?_
  refine wp_ald0 dL_law_218 ?_
  refine wp_ild3 dL_law_219 ?_
  refine wp_iconst (v := 1) dL_law_220 (by decide) ?_
  refine wp_iaddN (a := i) (b := 1) rfl (by decide) dL_law_221 ?_
  refine wp_tald (v := .int (xs (i + 1))) dL_law_222 hsc (nI_in (by omega) (by omega)) (by show Value.int (xs (nt (nI (i + 1)))) = _; rw [ntn (by omega)]) ?_
  refine wp_callV (As := [.int (xs (i + 1))]) dL_law_223 kL_17 c2 yy1 yy2 rfl rfl (by omega) (by omega) (by omega) rfl (Nat.le_of_ble_eq_true rfl) ?_
  refine wp_icmp_eq (tgt := 1158) dL_law_226 (by decide) (fun _ => ?_) (fun z => absurd rfl z)
  exact kw
theorem lc_set (hsc : (FieldType.int, a, N, fun j => Value.int (xs j)) ∈ gS G) (hN : N ≤ 2048) (hi : i + 4 ≤ N) (hx : XS G X S b m t M) (hd : 1 ≤ d) (hst : Sty G X (d - 1) S b m M n r yX11_set iX11_set yX12_set iX12_set [.int (xs (i + 1)), .int (xs (i + 2))]) (h1 : k + (700 - m) ≤ mc) (h2 : q + 2 * (700 - m) ≤ ms) (tl : ∀ (M2 : Mem) (S2 : Nat → Nat → Int32) (b2 m2 : Nat) (t2 : List Nat), XS G X S2 b2 m2 t2 M2 → SR S2 (n + 100) (r + 20000) → ∀ k2 q2, k2 + (700 - m2) ≤ mc → q2 + 2 * (700 - m2) ≤ ms → ∃ M', WP G iL_law d mc ms (some (.int 1)) M' 1158 [some (.ref a), some (.ref X), some (.ref (X + 248)), some (.int (nI i))] [] M2 k2 q2) : ∃ M', WP G iL_law d mc ms (some (.int 1)) M' 231 [some (.ref a), some (.ref X), some (.ref (X + 248)), some (.int (nI i))] [] M k q := by
  obtain ⟨M1, M2, S2, b2, m2, t2, v, c1, c2, x2, s2, le, S1, b1, t1, x1⟩ := hst
  have hm2 := x2.m7
  obtain ⟨fs, yy1, yy2⟩ := x1.y
  obtain ⟨M', kw⟩ := tl M2 S2 b2 m2 t2 x2 s2 (k + (m2 - m)) (q + 2 * (m2 - m)) (by omega) (by omega)
  refine ⟨M', ?_⟩
  refine wp_ald1 dL_law_231 ?_
  refine wp_ald0 dL_law_232 ?_
  refine wp_ild3 dL_law_233 ?_
  refine wp_iconst (v := 1) dL_law_234 (by decide) ?_
  refine wp_iaddN (a := i) (b := 1) rfl (by decide) dL_law_235 ?_
  refine wp_tald (v := .int (xs (i + 1))) dL_law_236 hsc (nI_in (by omega) (by omega)) (by show Value.int (xs (nt (nI (i + 1)))) = _; rw [ntn (by omega)]) ?_
  refine wp_ald0 dL_law_237 ?_
  refine wp_ild3 dL_law_238 ?_
  refine wp_iconst (v := 2) dL_law_239 (by decide) ?_
  refine wp_iaddN (a := i) (b := 2) rfl (by decide) dL_law_240 ?_
  refine wp_tald (v := .int (xs (i + 2))) dL_law_241 hsc (nI_in (by omega) (by omega)) (by show Value.int (xs (nt (nI (i + 2)))) = _; rw [ntn (by omega)]) ?_
  refine wp_callV (As := [.int (xs (i + 1)), .int (xs (i + 2))]) dL_law_242 kL_18 c1 (hx.2.1 0 (by omega)) hx.x rfl rfl (by omega) (by omega) (by omega) rfl (Nat.le_of_ble_eq_true rfl) ?_
  refine wp_ald2 dL_law_245 ?_
  refine wp_ald0 dL_law_246 ?_
  refine wp_ild3 dL_law_247 ?_
  refine wp_iconst (v := 1) dL_law_248 (by decide) ?_
  refine wp_iaddN (a := i) (b := 1) rfl (by decide) dL_law_249 ?_
  refine wp_tald (v := .int (xs (i + 1))) dL_law_250 hsc (nI_in (by omega) (by omega)) (by show Value.int (xs (nt (nI (i + 1)))) = _; rw [ntn (by omega)]) ?_
  refine wp_ald0 dL_law_251 ?_
  refine wp_ild3 dL_law_252 ?_
  refine wp_iconst (v := 2) dL_law_253 (by decide) ?_
  refine wp_iaddN (a := i) (b := 2) rfl (by decide) dL_law_254 ?_
  refine wp_tald (v := .int (xs (i + 2))) dL_law_255 hsc (nI_in (by omega) (by omega)) (by show Value.int (xs (nt (nI (i + 2)))) = _; rw [ntn (by omega)]) ?_
  refine wp_callV (As := [.int (xs (i + 1)), .int (xs (i + 2))]) dL_law_256 kL_22 c2 yy1 yy2 rfl rfl (by omega) (by omega) (by omega) rfl (Nat.le_of_ble_eq_true rfl) ?_
  refine wp_icmp_eq (tgt := 1158) dL_law_259 (by decide) (fun _ => ?_) (fun z => absurd rfl z)
  exact kw
theorem lc_setting (hsc : (FieldType.int, a, N, fun j => Value.int (xs j)) ∈ gS G) (hN : N ≤ 2048) (hi : i + 4 ≤ N) (hx : XS G X S b m t M) (hd : 1 ≤ d) (hst : Sty G X (d - 1) S b m M n r yX11_setting iX11_setting yX12_setting iX12_setting [.int (xs (i + 1))]) (h1 : k + (700 - m) ≤ mc) (h2 : q + 2 * (700 - m) ≤ ms) (tl : ∀ (M2 : Mem) (S2 : Nat → Nat → Int32) (b2 m2 : Nat) (t2 : List Nat), XS G X S2 b2 m2 t2 M2 → SR S2 (n + 100) (r + 20000) → ∀ k2 q2, k2 + (700 - m2) ≤ mc → q2 + 2 * (700 - m2) ≤ ms → ∃ M', WP G iL_law d mc ms (some (.int 1)) M' 1158 [some (.ref a), some (.ref X), some (.ref (X + 248)), some (.int (nI i))] [] M2 k2 q2) : ∃ M', WP G iL_law d mc ms (some (.int 1)) M' 264 [some (.ref a), some (.ref X), some (.ref (X + 248)), some (.int (nI i))] [] M k q := by
  obtain ⟨M1, M2, S2, b2, m2, t2, v, c1, c2, x2, s2, le, S1, b1, t1, x1⟩ := hst
  have hm2 := x2.m7
  obtain ⟨fs, yy1, yy2⟩ := x1.y
  obtain ⟨M', kw⟩ := tl M2 S2 b2 m2 t2 x2 s2 (k + (m2 - m)) (q + 2 * (m2 - m)) (by omega) (by omega)
  refine ⟨M', ?_⟩
  refine wp_ald1 dL_law_264 ?_
  refine wp_ald0 dL_law_265 ?_
  refine wp_ild3 dL_law_266 ?_
  refine wp_iconst (v := 1) dL_law_267 (by decide) ?_
  refine wp_iaddN (a := i) (b := 1) rfl (by decide) dL_law_268 ?_
  refine wp_tald (v := .int (xs (i + 1))) dL_law_269 hsc (nI_in (by omega) (by omega)) (by show Value.int (xs (nt (nI (i + 1)))) = _; rw [ntn (by omega)]) ?_
  refine wp_callV (As := [.int (xs (i + 1))]) dL_law_270 kL_23 c1 (hx.2.1 0 (by omega)) hx.x rfl rfl (by omega) (by omega) (by omega) rfl (Nat.le_of_ble_eq_true rfl) ?_
  refine wp_ald2 dL_law_273 ?_
  refine wp_ald0 dL_law_274 ?_
  refine wp_ild3 dL_law_275 ?_
  refine wp_iconst (v := 1) dL_law_276 (by decide) ?_
  refine wp_iaddN (a := i) (b := 1) rfl (by decide) dL_law_277 ?_
  refine wp_tald (v := .int (xs (i + 1))) dL_law_278 hsc (nI_in (by omega) (by omega)) (by show Value.int (xs (nt (nI (i + 1)))) = _; rw [ntn (by omega)]) ?_
  refine wp_callV (As := [.int (xs (i + 1))]) dL_law_279 kL_26 c2 yy1 yy2 rfl rfl (by omega) (by omega) (by omega) rfl (Nat.le_of_ble_eq_true rfl) ?_
  refine wp_icmp_eq (tgt := 1158) dL_law_282 (by decide) (fun _ => ?_) (fun z => absurd rfl z)
  exact kw
theorem lc_enter (hsc : (FieldType.int, a, N, fun j => Value.int (xs j)) ∈ gS G) (hN : N ≤ 2048) (hi : i + 4 ≤ N) (hx : XS G X S b m t M) (hd : 1 ≤ d) (hst : Sty G X (d - 1) S b m M n r yX11_enter iX11_enter yX12_enter iX12_enter [.int (xs (i + 1)), .int (xs (i + 2))]) (h1 : k + (700 - m) ≤ mc) (h2 : q + 2 * (700 - m) ≤ ms) (tl : ∀ (M2 : Mem) (S2 : Nat → Nat → Int32) (b2 m2 : Nat) (t2 : List Nat), XS G X S2 b2 m2 t2 M2 → SR S2 (n + 100) (r + 20000) → ∀ k2 q2, k2 + (700 - m2) ≤ mc → q2 + 2 * (700 - m2) ≤ ms → ∃ M', WP G iL_law d mc ms (some (.int 1)) M' 1158 [some (.ref a), some (.ref X), some (.ref (X + 248)), some (.int (nI i))] [] M2 k2 q2) : ∃ M', WP G iL_law d mc ms (some (.int 1)) M' 287 [some (.ref a), some (.ref X), some (.ref (X + 248)), some (.int (nI i))] [] M k q := by
  obtain ⟨M1, M2, S2, b2, m2, t2, v, c1, c2, x2, s2, le, S1, b1, t1, x1⟩ := hst
  have hm2 := x2.m7
  obtain ⟨fs, yy1, yy2⟩ := x1.y
  obtain ⟨M', kw⟩ := tl M2 S2 b2 m2 t2 x2 s2 (k + (m2 - m)) (q + 2 * (m2 - m)) (by omega) (by omega)
  refine ⟨M', ?_⟩
  refine wp_ald1 dL_law_287 ?_
  refine wp_ald0 dL_law_288 ?_
  refine wp_ild3 dL_law_289 ?_
  refine wp_iconst (v := 1) dL_law_290 (by decide) ?_
  refine wp_iaddN (a := i) (b := 1) rfl (by decide) dL_law_291 ?_
  refine wp_tald (v := .int (xs (i + 1))) dL_law_292 hsc (nI_in (by omega) (by omega)) (by show Value.int (xs (nt (nI (i + 1)))) = _; rw [ntn (by omega)]) ?_
  refine wp_ald0 dL_law_293 ?_
  refine wp_ild3 dL_law_294 ?_
  refine wp_iconst (v := 2) dL_law_295 (by decide) ?_
  refine wp_iaddN (a := i) (b := 2) rfl (by decide) dL_law_296 ?_
  refine wp_tald (v := .int (xs (i + 2))) dL_law_297 hsc (nI_in (by omega) (by omega)) (by show Value.int (xs (nt (nI (i + 2)))) = _; rw [ntn (by omega)]) ?_
  refine wp_callV (As := [.int (xs (i + 1)), .int (xs (i + 2))]) dL_law_298 kL_27 c1 (hx.2.1 0 (by omega)) hx.x rfl rfl (by omega) (by omega) (by omega) rfl (Nat.le_of_ble_eq_true rfl) ?_
  refine wp_ald2 dL_law_301 ?_
  refine wp_ald0 dL_law_302 ?_
  refine wp_ild3 dL_law_303 ?_
  refine wp_iconst (v := 1) dL_law_304 (by decide) ?_
  refine wp_iaddN (a := i) (b := 1) rfl (by decide) dL_law_305 ?_
  refine wp_tald (v := .int (xs (i + 1))) dL_law_306 hsc (nI_in (by omega) (by omega)) (by show Value.int (xs (nt (nI (i + 1)))) = _; rw [ntn (by omega)]) ?_
  refine wp_ald0 dL_law_307 ?_
  refine wp_ild3 dL_law_308 ?_
  refine wp_iconst (v := 2) dL_law_309 (by decide) ?_
  refine wp_iaddN (a := i) (b := 2) rfl (by decide) dL_law_310 ?_
  refine wp_tald (v := .int (xs (i + 2))) dL_law_311 hsc (nI_in (by omega) (by omega)) (by show Value.int (xs (nt (nI (i + 2)))) = _; rw [ntn (by omega)]) ?_
  refine wp_callV (As := [.int (xs (i + 1)), .int (xs (i + 2))]) dL_law_312 kL_30 c2 yy1 yy2 rfl rfl (by omega) (by omega) (by omega) rfl (Nat.le_of_ble_eq_true rfl) ?_
  refine wp_icmp_eq (tgt := 1158) dL_law_315 (by decide) (fun _ => ?_) (fun z => absurd rfl z)
  exact kw
theorem lc_exit (hsc : (FieldType.int, a, N, fun j => Value.int (xs j)) ∈ gS G) (hN : N ≤ 2048) (hi : i + 4 ≤ N) (hx : XS G X S b m t M) (hd : 1 ≤ d) (hst : Sty G X (d - 1) S b m M n r yX11_exit iX11_exit yX12_exit iX12_exit [.int (xs (i + 1)), .int (xs (i + 2))]) (h1 : k + (700 - m) ≤ mc) (h2 : q + 2 * (700 - m) ≤ ms) (tl : ∀ (M2 : Mem) (S2 : Nat → Nat → Int32) (b2 m2 : Nat) (t2 : List Nat), XS G X S2 b2 m2 t2 M2 → SR S2 (n + 100) (r + 20000) → ∀ k2 q2, k2 + (700 - m2) ≤ mc → q2 + 2 * (700 - m2) ≤ ms → ∃ M', WP G iL_law d mc ms (some (.int 1)) M' 1158 [some (.ref a), some (.ref X), some (.ref (X + 248)), some (.int (nI i))] [] M2 k2 q2) : ∃ M', WP G iL_law d mc ms (some (.int 1)) M' 320 [some (.ref a), some (.ref X), some (.ref (X + 248)), some (.int (nI i))] [] M k q := by
  obtain ⟨M1, M2, S2, b2, m2, t2, v, c1, c2, x2, s2, le, S1, b1, t1, x1⟩ := hst
  have hm2 := x2.m7
  obtain ⟨fs, yy1, yy2⟩ := x1.y
  obtain ⟨M', kw⟩ := tl M2 S2 b2 m2 t2 x2 s2 (k + (m2 - m)) (q + 2 * (m2 - m)) (by omega) (by omega)
  refine ⟨M', ?_⟩
  refine wp_ald1 dL_law_320 ?_
  refine wp_ald0 dL_law_321 ?_
  refine wp_ild3 dL_law_322 ?_
  refine wp_iconst (v := 1) dL_law_323 (by decide) ?_
  refine wp_iaddN (a := i) (b := 1) rfl (by decide) dL_law_324 ?_
  refine wp_tald (v := .int (xs (i + 1))) dL_law_325 hsc (nI_in (by omega) (by omega)) (by show Value.int (xs (nt (nI (i + 1)))) = _; rw [ntn (by omega)]) ?_
  refine wp_ald0 dL_law_326 ?_
  refine wp_ild3 dL_law_327 ?_
  refine wp_iconst (v := 2) dL_law_328 (by decide) ?_
  refine wp_iaddN (a := i) (b := 2) rfl (by decide) dL_law_329 ?_
  refine wp_tald (v := .int (xs (i + 2))) dL_law_330 hsc (nI_in (by omega) (by omega)) (by show Value.int (xs (nt (nI (i + 2)))) = _; rw [ntn (by omega)]) ?_
  refine wp_callV (As := [.int (xs (i + 1)), .int (xs (i + 2))]) dL_law_331 kL_31 c1 (hx.2.1 0 (by omega)) hx.x rfl rfl (by omega) (by omega) (by omega) rfl (Nat.le_of_ble_eq_true rfl) ?_
  refine wp_ald2 dL_law_334 ?_
  refine wp_ald0 dL_law_335 ?_
  refine wp_ild3 dL_law_336 ?_
  refine wp_iconst (v := 1) dL_law_337 (by decide) ?_
  refine wp_iaddN (a := i) (b := 1) rfl (by decide) dL_law_338 ?_
  refine wp_tald (v := .int (xs (i + 1))) dL_law_339 hsc (nI_in (by omega) (by omega)) (by show Value.int (xs (nt (nI (i + 1)))) = _; rw [ntn (by omega)]) ?_
  refine wp_ald0 dL_law_340 ?_
  refine wp_ild3 dL_law_341 ?_
  refine wp_iconst (v := 2) dL_law_342 (by decide) ?_
  refine wp_iaddN (a := i) (b := 2) rfl (by decide) dL_law_343 ?_
  refine wp_tald (v := .int (xs (i + 2))) dL_law_344 hsc (nI_in (by omega) (by omega)) (by show Value.int (xs (nt (nI (i + 2)))) = _; rw [ntn (by omega)]) ?_
  refine wp_callV (As := [.int (xs (i + 1)), .int (xs (i + 2))]) dL_law_345 kL_34 c2 yy1 yy2 rfl rfl (by omega) (by omega) (by omega) rfl (Nat.le_of_ble_eq_true rfl) ?_
  refine wp_icmp_eq (tgt := 1158) dL_law_348 (by decide) (fun _ => ?_) (fun z => absurd rfl z)
  exact kw
theorem lc_await (hsc : (FieldType.int, a, N, fun j => Value.int (xs j)) ∈ gS G) (hN : N ≤ 2048) (hi : i + 4 ≤ N) (hx : XS G X S b m t M) (hd : 1 ≤ d) (hst : Sty G X (d - 1) S b m M n r yX11_await iX11_await yX12_await iX12_await [.int (xs (i + 1)), .int (xs (i + 2)), .int (xs (i + 3))]) (h1 : k + (700 - m) ≤ mc) (h2 : q + 2 * (700 - m) ≤ ms) (tl : ∀ (M2 : Mem) (S2 : Nat → Nat → Int32) (b2 m2 : Nat) (t2 : List Nat), XS G X S2 b2 m2 t2 M2 → SR S2 (n + 100) (r + 20000) → ∀ k2 q2, k2 + (700 - m2) ≤ mc → q2 + 2 * (700 - m2) ≤ ms → ∃ M', WP G iL_law d mc ms (some (.int 1)) M' 1158 [some (.ref a), some (.ref X), some (.ref (X + 248)), some (.int (nI i))] [] M2 k2 q2) : ∃ M', WP G iL_law d mc ms (some (.int 1)) M' 353 [some (.ref a), some (.ref X), some (.ref (X + 248)), some (.int (nI i))] [] M k q := by
  obtain ⟨M1, M2, S2, b2, m2, t2, v, c1, c2, x2, s2, le, S1, b1, t1, x1⟩ := hst
  have hm2 := x2.m7
  obtain ⟨fs, yy1, yy2⟩ := x1.y
  obtain ⟨M', kw⟩ := tl M2 S2 b2 m2 t2 x2 s2 (k + (m2 - m)) (q + 2 * (m2 - m)) (by omega) (by omega)
  refine ⟨M', ?_⟩
  refine wp_ald1 dL_law_353 ?_
  refine wp_ald0 dL_law_354 ?_
  refine wp_ild3 dL_law_355 ?_
  refine wp_iconst (v := 1) dL_law_356 (by decide) ?_
  refine wp_iaddN (a := i) (b := 1) rfl (by decide) dL_law_357 ?_
  refine wp_tald (v := .int (xs (i + 1))) dL_law_358 hsc (nI_in (by omega) (by omega)) (by show Value.int (xs (nt (nI (i + 1)))) = _; rw [ntn (by omega)]) ?_
  refine wp_ald0 dL_law_359 ?_
  refine wp_ild3 dL_law_360 ?_
  refine wp_iconst (v := 2) dL_law_361 (by decide) ?_
  refine wp_iaddN (a := i) (b := 2) rfl (by decide) dL_law_362 ?_
  refine wp_tald (v := .int (xs (i + 2))) dL_law_363 hsc (nI_in (by omega) (by omega)) (by show Value.int (xs (nt (nI (i + 2)))) = _; rw [ntn (by omega)]) ?_
  refine wp_ald0 dL_law_364 ?_
  refine wp_ild3 dL_law_365 ?_
  refine wp_iconst (v := 3) dL_law_366 (by decide) ?_
  refine wp_iaddN (a := i) (b := 3) rfl (by decide) dL_law_367 ?_
  refine wp_tald (v := .int (xs (i + 3))) dL_law_368 hsc (nI_in (by omega) (by omega)) (by show Value.int (xs (nt (nI (i + 3)))) = _; rw [ntn (by omega)]) ?_
  refine wp_callV (As := [.int (xs (i + 1)), .int (xs (i + 2)), .int (xs (i + 3))]) dL_law_369 kL_35 c1 (hx.2.1 0 (by omega)) hx.x rfl rfl (by omega) (by omega) (by omega) rfl (Nat.le_of_ble_eq_true rfl) ?_
  refine wp_ald2 dL_law_372 ?_
  refine wp_ald0 dL_law_373 ?_
  refine wp_ild3 dL_law_374 ?_
  refine wp_iconst (v := 1) dL_law_375 (by decide) ?_
  refine wp_iaddN (a := i) (b := 1) rfl (by decide) dL_law_376 ?_
  refine wp_tald (v := .int (xs (i + 1))) dL_law_377 hsc (nI_in (by omega) (by omega)) (by show Value.int (xs (nt (nI (i + 1)))) = _; rw [ntn (by omega)]) ?_
  refine wp_ald0 dL_law_378 ?_
  refine wp_ild3 dL_law_379 ?_
  refine wp_iconst (v := 2) dL_law_380 (by decide) ?_
  refine wp_iaddN (a := i) (b := 2) rfl (by decide) dL_law_381 ?_
  refine wp_tald (v := .int (xs (i + 2))) dL_law_382 hsc (nI_in (by omega) (by omega)) (by show Value.int (xs (nt (nI (i + 2)))) = _; rw [ntn (by omega)]) ?_
  refine wp_ald0 dL_law_383 ?_
  refine wp_ild3 dL_law_384 ?_
  refine wp_iconst (v := 3) dL_law_385 (by decide) ?_
  refine wp_iaddN (a := i) (b := 3) rfl (by decide) dL_law_386 ?_
  refine wp_tald (v := .int (xs (i + 3))) dL_law_387 hsc (nI_in (by omega) (by omega)) (by show Value.int (xs (nt (nI (i + 3)))) = _; rw [ntn (by omega)]) ?_
  refine wp_callV (As := [.int (xs (i + 1)), .int (xs (i + 2)), .int (xs (i + 3))]) dL_law_388 kL_39 c2 yy1 yy2 rfl rfl (by omega) (by omega) (by omega) rfl (Nat.le_of_ble_eq_true rfl) ?_
  refine wp_icmp_eq (tgt := 1158) dL_law_391 (by decide) (fun _ => ?_) (fun z => absurd rfl z)
  exact kw
theorem lc_signal (hsc : (FieldType.int, a, N, fun j => Value.int (xs j)) ∈ gS G) (hN : N ≤ 2048) (hi : i + 4 ≤ N) (hx : XS G X S b m t M) (hd : 1 ≤ d) (hst : Sty G X (d - 1) S b m M n r yX11_signal iX11_signal yX12_signal iX12_signal [.int (xs (i + 1)), .int (xs (i + 2))]) (h1 : k + (700 - m) ≤ mc) (h2 : q + 2 * (700 - m) ≤ ms) (tl : ∀ (M2 : Mem) (S2 : Nat → Nat → Int32) (b2 m2 : Nat) (t2 : List Nat), XS G X S2 b2 m2 t2 M2 → SR S2 (n + 100) (r + 20000) → ∀ k2 q2, k2 + (700 - m2) ≤ mc → q2 + 2 * (700 - m2) ≤ ms → ∃ M', WP G iL_law d mc ms (some (.int 1)) M' 1158 [some (.ref a), some (.ref X), some (.ref (X + 248)), some (.int (nI i))] [] M2 k2 q2) : ∃ M', WP G iL_law d mc ms (some (.int 1)) M' 396 [some (.ref a), some (.ref X), some (.ref (X + 248)), some (.int (nI i))] [] M k q := by
  obtain ⟨M1, M2, S2, b2, m2, t2, v, c1, c2, x2, s2, le, S1, b1, t1, x1⟩ := hst
  have hm2 := x2.m7
  obtain ⟨fs, yy1, yy2⟩ := x1.y
  obtain ⟨M', kw⟩ := tl M2 S2 b2 m2 t2 x2 s2 (k + (m2 - m)) (q + 2 * (m2 - m)) (by omega) (by omega)
  refine ⟨M', ?_⟩
  refine wp_ald1 dL_law_396 ?_
  refine wp_ald0 dL_law_397 ?_
  refine wp_ild3 dL_law_398 ?_
  refine wp_iconst (v := 1) dL_law_399 (by decide) ?_
  refine wp_iaddN (a := i) (b := 1) rfl (by decide) dL_law_400 ?_
  refine wp_tald (v := .int (xs (i + 1))) dL_law_401 hsc (nI_in (by omega) (by omega)) (by show Value.int (xs (nt (nI (i + 1)))) = _; rw [ntn (by omega)]) ?_
  refine wp_ald0 dL_law_402 ?_
  refine wp_ild3 dL_law_403 ?_
  refine wp_iconst (v := 2) dL_law_404 (by decide) ?_
  refine wp_iaddN (a := i) (b := 2) rfl (by decide) dL_law_405 ?_
  refine wp_tald (v := .int (xs (i + 2))) dL_law_406 hsc (nI_in (by omega) (by omega)) (by show Value.int (xs (nt (nI (i + 2)))) = _; rw [ntn (by omega)]) ?_
  refine wp_callV (As := [.int (xs (i + 1)), .int (xs (i + 2))]) dL_law_407 kL_40 c1 (hx.2.1 0 (by omega)) hx.x rfl rfl (by omega) (by omega) (by omega) rfl (Nat.le_of_ble_eq_true rfl) ?_
  refine wp_ald2 dL_law_410 ?_
  refine wp_ald0 dL_law_411 ?_
  refine wp_ild3 dL_law_412 ?_
  refine wp_iconst (v := 1) dL_law_413 (by decide) ?_
  refine wp_iaddN (a := i) (b := 1) rfl (by decide) dL_law_414 ?_
  refine wp_tald (v := .int (xs (i + 1))) dL_law_415 hsc (nI_in (by omega) (by omega)) (by show Value.int (xs (nt (nI (i + 1)))) = _; rw [ntn (by omega)]) ?_
  refine wp_ald0 dL_law_416 ?_
  refine wp_ild3 dL_law_417 ?_
  refine wp_iconst (v := 2) dL_law_418 (by decide) ?_
  refine wp_iaddN (a := i) (b := 2) rfl (by decide) dL_law_419 ?_
  refine wp_tald (v := .int (xs (i + 2))) dL_law_420 hsc (nI_in (by omega) (by omega)) (by show Value.int (xs (nt (nI (i + 2)))) = _; rw [ntn (by omega)]) ?_
  refine wp_callV (As := [.int (xs (i + 1)), .int (xs (i + 2))]) dL_law_421 kL_43 c2 yy1 yy2 rfl rfl (by omega) (by omega) (by omega) rfl (Nat.le_of_ble_eq_true rfl) ?_
  refine wp_icmp_eq (tgt := 1158) dL_law_424 (by decide) (fun _ => ?_) (fun z => absurd rfl z)
  exact kw
theorem lc_signalAll (hsc : (FieldType.int, a, N, fun j => Value.int (xs j)) ∈ gS G) (hN : N ≤ 2048) (hi : i + 4 ≤ N) (hx : XS G X S b m t M) (hd : 1 ≤ d) (hst : Sty G X (d - 1) S b m M n r yX11_signalAll iX11_signalAll yX12_signalAll iX12_signalAll [.int (xs (i + 1)), .int (xs (i + 2))]) (h1 : k + (700 - m) ≤ mc) (h2 : q + 2 * (700 - m) ≤ ms) (tl : ∀ (M2 : Mem) (S2 : Nat → Nat → Int32) (b2 m2 : Nat) (t2 : List Nat), XS G X S2 b2 m2 t2 M2 → SR S2 (n + 100) (r + 20000) → ∀ k2 q2, k2 + (700 - m2) ≤ mc → q2 + 2 * (700 - m2) ≤ ms → ∃ M', WP G iL_law d mc ms (some (.int 1)) M' 1158 [some (.ref a), some (.ref X), some (.ref (X + 248)), some (.int (nI i))] [] M2 k2 q2) : ∃ M', WP G iL_law d mc ms (some (.int 1)) M' 429 [some (.ref a), some (.ref X), some (.ref (X + 248)), some (.int (nI i))] [] M k q := by
  obtain ⟨M1, M2, S2, b2, m2, t2, v, c1, c2, x2, s2, le, S1, b1, t1, x1⟩ := hst
  have hm2 := x2.m7
  obtain ⟨fs, yy1, yy2⟩ := x1.y
  obtain ⟨M', kw⟩ := tl M2 S2 b2 m2 t2 x2 s2 (k + (m2 - m)) (q + 2 * (m2 - m)) (by omega) (by omega)
  refine ⟨M', ?_⟩
  refine wp_ald1 dL_law_429 ?_
  refine wp_ald0 dL_law_430 ?_
  refine wp_ild3 dL_law_431 ?_
  refine wp_iconst (v := 1) dL_law_432 (by decide) ?_
  refine wp_iaddN (a := i) (b := 1) rfl (by decide) dL_law_433 ?_
  refine wp_tald (v := .int (xs (i + 1))) dL_law_434 hsc (nI_in (by omega) (by omega)) (by show Value.int (xs (nt (nI (i + 1)))) = _; rw [ntn (by omega)]) ?_
  refine wp_ald0 dL_law_435 ?_
  refine wp_ild3 dL_law_436 ?_
  refine wp_iconst (v := 2) dL_law_437 (by decide) ?_
  refine wp_iaddN (a := i) (b := 2) rfl (by decide) dL_law_438 ?_
  refine wp_tald (v := .int (xs (i + 2))) dL_law_439 hsc (nI_in (by omega) (by omega)) (by show Value.int (xs (nt (nI (i + 2)))) = _; rw [ntn (by omega)]) ?_
  refine wp_callV (As := [.int (xs (i + 1)), .int (xs (i + 2))]) dL_law_440 kL_44 c1 (hx.2.1 0 (by omega)) hx.x rfl rfl (by omega) (by omega) (by omega) rfl (Nat.le_of_ble_eq_true rfl) ?_
  refine wp_ald2 dL_law_443 ?_
  refine wp_ald0 dL_law_444 ?_
  refine wp_ild3 dL_law_445 ?_
  refine wp_iconst (v := 1) dL_law_446 (by decide) ?_
  refine wp_iaddN (a := i) (b := 1) rfl (by decide) dL_law_447 ?_
  refine wp_tald (v := .int (xs (i + 1))) dL_law_448 hsc (nI_in (by omega) (by omega)) (by show Value.int (xs (nt (nI (i + 1)))) = _; rw [ntn (by omega)]) ?_
  refine wp_ald0 dL_law_449 ?_
  refine wp_ild3 dL_law_450 ?_
  refine wp_iconst (v := 2) dL_law_451 (by decide) ?_
  refine wp_iaddN (a := i) (b := 2) rfl (by decide) dL_law_452 ?_
  refine wp_tald (v := .int (xs (i + 2))) dL_law_453 hsc (nI_in (by omega) (by omega)) (by show Value.int (xs (nt (nI (i + 2)))) = _; rw [ntn (by omega)]) ?_
  refine wp_callV (As := [.int (xs (i + 1)), .int (xs (i + 2))]) dL_law_454 kL_47 c2 yy1 yy2 rfl rfl (by omega) (by omega) (by omega) rfl (Nat.le_of_ble_eq_true rfl) ?_
  refine wp_icmp_eq (tgt := 1158) dL_law_457 (by decide) (fun _ => ?_) (fun z => absurd rfl z)
  exact kw
theorem lc_interrupt (hsc : (FieldType.int, a, N, fun j => Value.int (xs j)) ∈ gS G) (hN : N ≤ 2048) (hi : i + 4 ≤ N) (hx : XS G X S b m t M) (hd : 1 ≤ d) (hst : Sty G X (d - 1) S b m M n r yX11_interrupt iX11_interrupt yX12_interrupt iX12_interrupt [.int (xs (i + 1))]) (h1 : k + (700 - m) ≤ mc) (h2 : q + 2 * (700 - m) ≤ ms) (tl : ∀ (M2 : Mem) (S2 : Nat → Nat → Int32) (b2 m2 : Nat) (t2 : List Nat), XS G X S2 b2 m2 t2 M2 → SR S2 (n + 100) (r + 20000) → ∀ k2 q2, k2 + (700 - m2) ≤ mc → q2 + 2 * (700 - m2) ≤ ms → ∃ M', WP G iL_law d mc ms (some (.int 1)) M' 1158 [some (.ref a), some (.ref X), some (.ref (X + 248)), some (.int (nI i))] [] M2 k2 q2) : ∃ M', WP G iL_law d mc ms (some (.int 1)) M' 462 [some (.ref a), some (.ref X), some (.ref (X + 248)), some (.int (nI i))] [] M k q := by
  obtain ⟨M1, M2, S2, b2, m2, t2, v, c1, c2, x2, s2, le, S1, b1, t1, x1⟩ := hst
  have hm2 := x2.m7
  obtain ⟨fs, yy1, yy2⟩ := x1.y
  obtain ⟨M', kw⟩ := tl M2 S2 b2 m2 t2 x2 s2 (k + (m2 - m)) (q + 2 * (m2 - m)) (by omega) (by omega)
  refine ⟨M', ?_⟩
  refine wp_ald1 dL_law_462 ?_
  refine wp_ald0 dL_law_463 ?_
  refine wp_ild3 dL_law_464 ?_
  refine wp_iconst (v := 1) dL_law_465 (by decide) ?_
  refine wp_iaddN (a := i) (b := 1) rfl (by decide) dL_law_466 ?_
  refine wp_tald (v := .int (xs (i + 1))) dL_law_467 hsc (nI_in (by omega) (by omega)) (by show Value.int (xs (nt (nI (i + 1)))) = _; rw [ntn (by omega)]) ?_
  refine wp_callV (As := [.int (xs (i + 1))]) dL_law_468 kL_48 c1 (hx.2.1 0 (by omega)) hx.x rfl rfl (by omega) (by omega) (by omega) rfl (Nat.le_of_ble_eq_true rfl) ?_
  refine wp_ald2 dL_law_471 ?_
  refine wp_ald0 dL_law_472 ?_
  refine wp_ild3 dL_law_473 ?_
  refine wp_iconst (v := 1) dL_law_474 (by decide) ?_
  refine wp_iaddN (a := i) (b := 1) rfl (by decide) dL_law_475 ?_
  refine wp_tald (v := .int (xs (i + 1))) dL_law_476 hsc (nI_in (by omega) (by omega)) (by show Value.int (xs (nt (nI (i + 1)))) = _; rw [ntn (by omega)]) ?_
  refine wp_callV (As := [.int (xs (i + 1))]) dL_law_477 kL_51 c2 yy1 yy2 rfl rfl (by omega) (by omega) (by omega) rfl (Nat.le_of_ble_eq_true rfl) ?_
  refine wp_icmp_eq (tgt := 1158) dL_law_480 (by decide) (fun _ => ?_) (fun z => absurd rfl z)
  exact kw
theorem lc_die (hsc : (FieldType.int, a, N, fun j => Value.int (xs j)) ∈ gS G) (hN : N ≤ 2048) (hi : i + 4 ≤ N) (hx : XS G X S b m t M) (hd : 1 ≤ d) (hst : Sty G X (d - 1) S b m M n r yX11_die iX11_die yX12_die iX12_die [.int (xs (i + 1))]) (h1 : k + (700 - m) ≤ mc) (h2 : q + 2 * (700 - m) ≤ ms) (tl : ∀ (M2 : Mem) (S2 : Nat → Nat → Int32) (b2 m2 : Nat) (t2 : List Nat), XS G X S2 b2 m2 t2 M2 → SR S2 (n + 100) (r + 20000) → ∀ k2 q2, k2 + (700 - m2) ≤ mc → q2 + 2 * (700 - m2) ≤ ms → ∃ M', WP G iL_law d mc ms (some (.int 1)) M' 1158 [some (.ref a), some (.ref X), some (.ref (X + 248)), some (.int (nI i))] [] M2 k2 q2) : ∃ M', WP G iL_law d mc ms (some (.int 1)) M' 485 [some (.ref a), some (.ref X), some (.ref (X + 248)), some (.int (nI i))] [] M k q := by
  obtain ⟨M1, M2, S2, b2, m2, t2, v, c1, c2, x2, s2, le, S1, b1, t1, x1⟩ := hst
  have hm2 := x2.m7
  obtain ⟨fs, yy1, yy2⟩ := x1.y
  obtain ⟨M', kw⟩ := tl M2 S2 b2 m2 t2 x2 s2 (k + (m2 - m)) (q + 2 * (m2 - m)) (by omega) (by omega)
  refine ⟨M', ?_⟩
  refine wp_ald1 dL_law_485 ?_
  refine wp_ald0 dL_law_486 ?_
  refine wp_ild3 dL_law_487 ?_
  refine wp_iconst (v := 1) dL_law_488 (by decide) ?_
  refine wp_iaddN (a := i) (b := 1) rfl (by decide) dL_law_489 ?_
  refine wp_tald (v := .int (xs (i + 1))) dL_law_490 hsc (nI_in (by omega) (by omega)) (by show Value.int (xs (nt (nI (i + 1)))) = _; rw [ntn (by omega)]) ?_
  refine wp_callV (As := [.int (xs (i + 1))]) dL_law_491 kL_52 c1 (hx.2.1 0 (by omega)) hx.x rfl rfl (by omega) (by omega) (by omega) rfl (Nat.le_of_ble_eq_true rfl) ?_
  refine wp_ald2 dL_law_494 ?_
  refine wp_ald0 dL_law_495 ?_
  refine wp_ild3 dL_law_496 ?_
  refine wp_iconst (v := 1) dL_law_497 (by decide) ?_
  refine wp_iaddN (a := i) (b := 1) rfl (by decide) dL_law_498 ?_
  refine wp_tald (v := .int (xs (i + 1))) dL_law_499 hsc (nI_in (by omega) (by omega)) (by show Value.int (xs (nt (nI (i + 1)))) = _; rw [ntn (by omega)]) ?_
  refine wp_callV (As := [.int (xs (i + 1))]) dL_law_500 kL_55 c2 yy1 yy2 rfl rfl (by omega) (by omega) (by omega) rfl (Nat.le_of_ble_eq_true rfl) ?_
  refine wp_icmp_eq (tgt := 1158) dL_law_503 (by decide) (fun _ => ?_) (fun z => absurd rfl z)
  exact kw
theorem lc_start (hsc : (FieldType.int, a, N, fun j => Value.int (xs j)) ∈ gS G) (hN : N ≤ 2048) (hi : i + 4 ≤ N) (hx : XS G X S b m t M) (hd : 1 ≤ d) (hst : Sty G X (d - 1) S b m M n r yX11_start iX11_start yX12_start iX12_start [.int (xs (i + 1))]) (h1 : k + (700 - m) ≤ mc) (h2 : q + 2 * (700 - m) ≤ ms) (tl : ∀ (M2 : Mem) (S2 : Nat → Nat → Int32) (b2 m2 : Nat) (t2 : List Nat), XS G X S2 b2 m2 t2 M2 → SR S2 (n + 100) (r + 20000) → ∀ k2 q2, k2 + (700 - m2) ≤ mc → q2 + 2 * (700 - m2) ≤ ms → ∃ M', WP G iL_law d mc ms (some (.int 1)) M' 1158 [some (.ref a), some (.ref X), some (.ref (X + 248)), some (.int (nI i))] [] M2 k2 q2) : ∃ M', WP G iL_law d mc ms (some (.int 1)) M' 508 [some (.ref a), some (.ref X), some (.ref (X + 248)), some (.int (nI i))] [] M k q := by
  obtain ⟨M1, M2, S2, b2, m2, t2, v, c1, c2, x2, s2, le, S1, b1, t1, x1⟩ := hst
  have hm2 := x2.m7
  obtain ⟨fs, yy1, yy2⟩ := x1.y
  obtain ⟨M', kw⟩ := tl M2 S2 b2 m2 t2 x2 s2 (k + (m2 - m)) (q + 2 * (m2 - m)) (by omega) (by omega)
  refine ⟨M', ?_⟩
  refine wp_ald1 dL_law_508 ?_
  refine wp_ald0 dL_law_509 ?_
  refine wp_ild3 dL_law_510 ?_
  refine wp_iconst (v := 1) dL_law_511 (by decide) ?_
  refine wp_iaddN (a := i) (b := 1) rfl (by decide) dL_law_512 ?_
  refine wp_tald (v := .int (xs (i + 1))) dL_law_513 hsc (nI_in (by omega) (by omega)) (by show Value.int (xs (nt (nI (i + 1)))) = _; rw [ntn (by omega)]) ?_
  refine wp_callV (As := [.int (xs (i + 1))]) dL_law_514 kL_56 c1 (hx.2.1 0 (by omega)) hx.x rfl rfl (by omega) (by omega) (by omega) rfl (Nat.le_of_ble_eq_true rfl) ?_
  refine wp_ald2 dL_law_517 ?_
  refine wp_ald0 dL_law_518 ?_
  refine wp_ild3 dL_law_519 ?_
  refine wp_iconst (v := 1) dL_law_520 (by decide) ?_
  refine wp_iaddN (a := i) (b := 1) rfl (by decide) dL_law_521 ?_
  refine wp_tald (v := .int (xs (i + 1))) dL_law_522 hsc (nI_in (by omega) (by omega)) (by show Value.int (xs (nt (nI (i + 1)))) = _; rw [ntn (by omega)]) ?_
  refine wp_callV (As := [.int (xs (i + 1))]) dL_law_523 kL_59 c2 yy1 yy2 rfl rfl (by omega) (by omega) (by omega) rfl (Nat.le_of_ble_eq_true rfl) ?_
  refine wp_icmp_eq (tgt := 1158) dL_law_526 (by decide) (fun _ => ?_) (fun z => absurd rfl z)
  exact kw
theorem lc_hash (hsc : (FieldType.int, a, N, fun j => Value.int (xs j)) ∈ gS G) (hN : N ≤ 2048) (hi : i + 4 ≤ N) (hx : XS G X S b m t M) (hd : 1 ≤ d) (hst : Sty G X (d - 1) S b m M n r yX11_hash iX11_hash yX12_hash iX12_hash [.int (xs (i + 1))]) (h1 : k + (700 - m) ≤ mc) (h2 : q + 2 * (700 - m) ≤ ms) (tl : ∀ (M2 : Mem) (S2 : Nat → Nat → Int32) (b2 m2 : Nat) (t2 : List Nat), XS G X S2 b2 m2 t2 M2 → SR S2 (n + 100) (r + 20000) → ∀ k2 q2, k2 + (700 - m2) ≤ mc → q2 + 2 * (700 - m2) ≤ ms → ∃ M', WP G iL_law d mc ms (some (.int 1)) M' 1158 [some (.ref a), some (.ref X), some (.ref (X + 248)), some (.int (nI i))] [] M2 k2 q2) : ∃ M', WP G iL_law d mc ms (some (.int 1)) M' 531 [some (.ref a), some (.ref X), some (.ref (X + 248)), some (.int (nI i))] [] M k q := by
  obtain ⟨M1, M2, S2, b2, m2, t2, v, c1, c2, x2, s2, le, S1, b1, t1, x1⟩ := hst
  have hm2 := x2.m7
  obtain ⟨fs, yy1, yy2⟩ := x1.y
  obtain ⟨M', kw⟩ := tl M2 S2 b2 m2 t2 x2 s2 (k + (m2 - m)) (q + 2 * (m2 - m)) (by omega) (by omega)
  refine ⟨M', ?_⟩
  refine wp_ald1 dL_law_531 ?_
  refine wp_ald0 dL_law_532 ?_
  refine wp_ild3 dL_law_533 ?_
  refine wp_iconst (v := 1) dL_law_534 (by decide) ?_
  refine wp_iaddN (a := i) (b := 1) rfl (by decide) dL_law_535 ?_
  refine wp_tald (v := .int (xs (i + 1))) dL_law_536 hsc (nI_in (by omega) (by omega)) (by show Value.int (xs (nt (nI (i + 1)))) = _; rw [ntn (by omega)]) ?_
  refine wp_callV (As := [.int (xs (i + 1))]) dL_law_537 kL_60 c1 (hx.2.1 0 (by omega)) hx.x rfl rfl (by omega) (by omega) (by omega) rfl (Nat.le_of_ble_eq_true rfl) ?_
  refine wp_ald2 dL_law_540 ?_
  refine wp_ald0 dL_law_541 ?_
  refine wp_ild3 dL_law_542 ?_
  refine wp_iconst (v := 1) dL_law_543 (by decide) ?_
  refine wp_iaddN (a := i) (b := 1) rfl (by decide) dL_law_544 ?_
  refine wp_tald (v := .int (xs (i + 1))) dL_law_545 hsc (nI_in (by omega) (by omega)) (by show Value.int (xs (nt (nI (i + 1)))) = _; rw [ntn (by omega)]) ?_
  refine wp_callV (As := [.int (xs (i + 1))]) dL_law_546 kL_63 c2 yy1 yy2 rfl rfl (by omega) (by omega) (by omega) rfl (Nat.le_of_ble_eq_true rfl) ?_
  refine wp_icmp_eq (tgt := 1158) dL_law_549 (by decide) (fun _ => ?_) (fun z => absurd rfl z)
  exact kw
theorem lc_tick (hsc : (FieldType.int, a, N, fun j => Value.int (xs j)) ∈ gS G) (hN : N ≤ 2048) (hi : i + 4 ≤ N) (hx : XS G X S b m t M) (hd : 1 ≤ d) (hst : Sty G X (d - 1) S b m M n r yX11_tick iX11_tick yX12_tick iX12_tick [.int (xs (i + 1))]) (h1 : k + (700 - m) ≤ mc) (h2 : q + 2 * (700 - m) ≤ ms) (tl : ∀ (M2 : Mem) (S2 : Nat → Nat → Int32) (b2 m2 : Nat) (t2 : List Nat), XS G X S2 b2 m2 t2 M2 → SR S2 (n + 100) (r + 20000) → ∀ k2 q2, k2 + (700 - m2) ≤ mc → q2 + 2 * (700 - m2) ≤ ms → ∃ M', WP G iL_law d mc ms (some (.int 1)) M' 1158 [some (.ref a), some (.ref X), some (.ref (X + 248)), some (.int (nI i))] [] M2 k2 q2) : ∃ M', WP G iL_law d mc ms (some (.int 1)) M' 554 [some (.ref a), some (.ref X), some (.ref (X + 248)), some (.int (nI i))] [] M k q := by
  obtain ⟨M1, M2, S2, b2, m2, t2, v, c1, c2, x2, s2, le, S1, b1, t1, x1⟩ := hst
  have hm2 := x2.m7
  obtain ⟨fs, yy1, yy2⟩ := x1.y
  obtain ⟨M', kw⟩ := tl M2 S2 b2 m2 t2 x2 s2 (k + (m2 - m)) (q + 2 * (m2 - m)) (by omega) (by omega)
  refine ⟨M', ?_⟩
  refine wp_ald1 dL_law_554 ?_
  refine wp_ald0 dL_law_555 ?_
  refine wp_ild3 dL_law_556 ?_
  refine wp_iconst (v := 1) dL_law_557 (by decide) ?_
  refine wp_iaddN (a := i) (b := 1) rfl (by decide) dL_law_558 ?_
  refine wp_tald (v := .int (xs (i + 1))) dL_law_559 hsc (nI_in (by omega) (by omega)) (by show Value.int (xs (nt (nI (i + 1)))) = _; rw [ntn (by omega)]) ?_
  refine wp_callV (As := [.int (xs (i + 1))]) dL_law_560 kL_64 c1 (hx.2.1 0 (by omega)) hx.x rfl rfl (by omega) (by omega) (by omega) rfl (Nat.le_of_ble_eq_true rfl) ?_
  refine wp_ald2 dL_law_563 ?_
  refine wp_ald0 dL_law_564 ?_
  refine wp_ild3 dL_law_565 ?_
  refine wp_iconst (v := 1) dL_law_566 (by decide) ?_
  refine wp_iaddN (a := i) (b := 1) rfl (by decide) dL_law_567 ?_
  refine wp_tald (v := .int (xs (i + 1))) dL_law_568 hsc (nI_in (by omega) (by omega)) (by show Value.int (xs (nt (nI (i + 1)))) = _; rw [ntn (by omega)]) ?_
  refine wp_callV (As := [.int (xs (i + 1))]) dL_law_569 kL_67 c2 yy1 yy2 rfl rfl (by omega) (by omega) (by omega) rfl (Nat.le_of_ble_eq_true rfl) ?_
  refine wp_icmp_eq (tgt := 1158) dL_law_572 (by decide) (fun _ => ?_) (fun z => absurd rfl z)
  exact kw
theorem lc_threads (hsc : (FieldType.int, a, N, fun j => Value.int (xs j)) ∈ gS G) (hN : N ≤ 2048) (hi : i + 4 ≤ N) (hx : XS G X S b m t M) (hd : 1 ≤ d) (hst : Sty G X (d - 1) S b m M n r yX11_threads iX11_threads yX12_threads iX12_threads []) (h1 : k + (700 - m) ≤ mc) (h2 : q + 2 * (700 - m) ≤ ms) (tl : ∀ (M2 : Mem) (S2 : Nat → Nat → Int32) (b2 m2 : Nat) (t2 : List Nat), XS G X S2 b2 m2 t2 M2 → SR S2 (n + 100) (r + 20000) → ∀ k2 q2, k2 + (700 - m2) ≤ mc → q2 + 2 * (700 - m2) ≤ ms → ∃ M', WP G iL_law d mc ms (some (.int 1)) M' 1158 [some (.ref a), some (.ref X), some (.ref (X + 248)), some (.int (nI i))] [] M2 k2 q2) : ∃ M', WP G iL_law d mc ms (some (.int 1)) M' 577 [some (.ref a), some (.ref X), some (.ref (X + 248)), some (.int (nI i))] [] M k q := by
  obtain ⟨M1, M2, S2, b2, m2, t2, v, c1, c2, x2, s2, le, S1, b1, t1, x1⟩ := hst
  have hm2 := x2.m7
  obtain ⟨fs, yy1, yy2⟩ := x1.y
  obtain ⟨M', kw⟩ := tl M2 S2 b2 m2 t2 x2 s2 (k + (m2 - m)) (q + 2 * (m2 - m)) (by omega) (by omega)
  refine ⟨M', ?_⟩
  refine wp_ald1 dL_law_577 ?_
  refine wp_callV (As := []) dL_law_578 kL_68 c1 (hx.2.1 0 (by omega)) hx.x rfl rfl (by omega) (by omega) (by omega) rfl (Nat.le_of_ble_eq_true rfl) ?_
  refine wp_ald2 dL_law_581 ?_
  refine wp_callV (As := []) dL_law_582 kL_72 c2 yy1 yy2 rfl rfl (by omega) (by omega) (by omega) rfl (Nat.le_of_ble_eq_true rfl) ?_
  refine wp_icmp_eq (tgt := 1158) dL_law_585 (by decide) (fun _ => ?_) (fun z => absurd rfl z)
  exact kw
theorem lc_threadState (hsc : (FieldType.int, a, N, fun j => Value.int (xs j)) ∈ gS G) (hN : N ≤ 2048) (hi : i + 4 ≤ N) (hx : XS G X S b m t M) (hd : 1 ≤ d) (hst : Sty G X (d - 1) S b m M n r yX11_threadState iX11_threadState yX12_threadState iX12_threadState [.int (xs (i + 1))]) (h1 : k + (700 - m) ≤ mc) (h2 : q + 2 * (700 - m) ≤ ms) (tl : ∀ (M2 : Mem) (S2 : Nat → Nat → Int32) (b2 m2 : Nat) (t2 : List Nat), XS G X S2 b2 m2 t2 M2 → SR S2 (n + 100) (r + 20000) → ∀ k2 q2, k2 + (700 - m2) ≤ mc → q2 + 2 * (700 - m2) ≤ ms → ∃ M', WP G iL_law d mc ms (some (.int 1)) M' 1158 [some (.ref a), some (.ref X), some (.ref (X + 248)), some (.int (nI i))] [] M2 k2 q2) : ∃ M', WP G iL_law d mc ms (some (.int 1)) M' 590 [some (.ref a), some (.ref X), some (.ref (X + 248)), some (.int (nI i))] [] M k q := by
  obtain ⟨M1, M2, S2, b2, m2, t2, v, c1, c2, x2, s2, le, S1, b1, t1, x1⟩ := hst
  have hm2 := x2.m7
  obtain ⟨fs, yy1, yy2⟩ := x1.y
  obtain ⟨M', kw⟩ := tl M2 S2 b2 m2 t2 x2 s2 (k + (m2 - m)) (q + 2 * (m2 - m)) (by omega) (by omega)
  refine ⟨M', ?_⟩
  refine wp_ald1 dL_law_590 ?_
  refine wp_ald0 dL_law_591 ?_
  refine wp_ild3 dL_law_592 ?_
  refine wp_iconst (v := 1) dL_law_593 (by decide) ?_
  refine wp_iaddN (a := i) (b := 1) rfl (by decide) dL_law_594 ?_
  refine wp_tald (v := .int (xs (i + 1))) dL_law_595 hsc (nI_in (by omega) (by omega)) (by show Value.int (xs (nt (nI (i + 1)))) = _; rw [ntn (by omega)]) ?_
  refine wp_callV (As := [.int (xs (i + 1))]) dL_law_596 kL_73 c1 (hx.2.1 0 (by omega)) hx.x rfl rfl (by omega) (by omega) (by omega) rfl (Nat.le_of_ble_eq_true rfl) ?_
  refine wp_ald2 dL_law_599 ?_
  refine wp_ald0 dL_law_600 ?_
  refine wp_ild3 dL_law_601 ?_
  refine wp_iconst (v := 1) dL_law_602 (by decide) ?_
  refine wp_iaddN (a := i) (b := 1) rfl (by decide) dL_law_603 ?_
  refine wp_tald (v := .int (xs (i + 1))) dL_law_604 hsc (nI_in (by omega) (by omega)) (by show Value.int (xs (nt (nI (i + 1)))) = _; rw [ntn (by omega)]) ?_
  refine wp_callV (As := [.int (xs (i + 1))]) dL_law_605 kL_76 c2 yy1 yy2 rfl rfl (by omega) (by omega) (by omega) rfl (Nat.le_of_ble_eq_true rfl) ?_
  refine wp_icmp_eq (tgt := 1158) dL_law_608 (by decide) (fun _ => ?_) (fun z => absurd rfl z)
  exact kw
theorem lc_threadAt (hsc : (FieldType.int, a, N, fun j => Value.int (xs j)) ∈ gS G) (hN : N ≤ 2048) (hi : i + 4 ≤ N) (hx : XS G X S b m t M) (hd : 1 ≤ d) (hst : Sty G X (d - 1) S b m M n r yX11_threadAt iX11_threadAt yX12_threadAt iX12_threadAt [.int (xs (i + 1))]) (h1 : k + (700 - m) ≤ mc) (h2 : q + 2 * (700 - m) ≤ ms) (tl : ∀ (M2 : Mem) (S2 : Nat → Nat → Int32) (b2 m2 : Nat) (t2 : List Nat), XS G X S2 b2 m2 t2 M2 → SR S2 (n + 100) (r + 20000) → ∀ k2 q2, k2 + (700 - m2) ≤ mc → q2 + 2 * (700 - m2) ≤ ms → ∃ M', WP G iL_law d mc ms (some (.int 1)) M' 1158 [some (.ref a), some (.ref X), some (.ref (X + 248)), some (.int (nI i))] [] M2 k2 q2) : ∃ M', WP G iL_law d mc ms (some (.int 1)) M' 613 [some (.ref a), some (.ref X), some (.ref (X + 248)), some (.int (nI i))] [] M k q := by
  obtain ⟨M1, M2, S2, b2, m2, t2, v, c1, c2, x2, s2, le, S1, b1, t1, x1⟩ := hst
  have hm2 := x2.m7
  obtain ⟨fs, yy1, yy2⟩ := x1.y
  obtain ⟨M', kw⟩ := tl M2 S2 b2 m2 t2 x2 s2 (k + (m2 - m)) (q + 2 * (m2 - m)) (by omega) (by omega)
  refine ⟨M', ?_⟩
  refine wp_ald1 dL_law_613 ?_
  refine wp_ald0 dL_law_614 ?_
  refine wp_ild3 dL_law_615 ?_
  refine wp_iconst (v := 1) dL_law_616 (by decide) ?_
  refine wp_iaddN (a := i) (b := 1) rfl (by decide) dL_law_617 ?_
  refine wp_tald (v := .int (xs (i + 1))) dL_law_618 hsc (nI_in (by omega) (by omega)) (by show Value.int (xs (nt (nI (i + 1)))) = _; rw [ntn (by omega)]) ?_
  refine wp_callV (As := [.int (xs (i + 1))]) dL_law_619 kL_77 c1 (hx.2.1 0 (by omega)) hx.x rfl rfl (by omega) (by omega) (by omega) rfl (Nat.le_of_ble_eq_true rfl) ?_
  refine wp_ald2 dL_law_622 ?_
  refine wp_ald0 dL_law_623 ?_
  refine wp_ild3 dL_law_624 ?_
  refine wp_iconst (v := 1) dL_law_625 (by decide) ?_
  refine wp_iaddN (a := i) (b := 1) rfl (by decide) dL_law_626 ?_
  refine wp_tald (v := .int (xs (i + 1))) dL_law_627 hsc (nI_in (by omega) (by omega)) (by show Value.int (xs (nt (nI (i + 1)))) = _; rw [ntn (by omega)]) ?_
  refine wp_callV (As := [.int (xs (i + 1))]) dL_law_628 kL_80 c2 yy1 yy2 rfl rfl (by omega) (by omega) (by omega) rfl (Nat.le_of_ble_eq_true rfl) ?_
  refine wp_icmp_eq (tgt := 1158) dL_law_631 (by decide) (fun _ => ?_) (fun z => absurd rfl z)
  exact kw
theorem lc_held (hsc : (FieldType.int, a, N, fun j => Value.int (xs j)) ∈ gS G) (hN : N ≤ 2048) (hi : i + 4 ≤ N) (hx : XS G X S b m t M) (hd : 1 ≤ d) (hst : Sty G X (d - 1) S b m M n r yX11_held iX11_held yX12_held iX12_held [.int (xs (i + 1))]) (h1 : k + (700 - m) ≤ mc) (h2 : q + 2 * (700 - m) ≤ ms) (tl : ∀ (M2 : Mem) (S2 : Nat → Nat → Int32) (b2 m2 : Nat) (t2 : List Nat), XS G X S2 b2 m2 t2 M2 → SR S2 (n + 100) (r + 20000) → ∀ k2 q2, k2 + (700 - m2) ≤ mc → q2 + 2 * (700 - m2) ≤ ms → ∃ M', WP G iL_law d mc ms (some (.int 1)) M' 1158 [some (.ref a), some (.ref X), some (.ref (X + 248)), some (.int (nI i))] [] M2 k2 q2) : ∃ M', WP G iL_law d mc ms (some (.int 1)) M' 636 [some (.ref a), some (.ref X), some (.ref (X + 248)), some (.int (nI i))] [] M k q := by
  obtain ⟨M1, M2, S2, b2, m2, t2, v, c1, c2, x2, s2, le, S1, b1, t1, x1⟩ := hst
  have hm2 := x2.m7
  obtain ⟨fs, yy1, yy2⟩ := x1.y
  obtain ⟨M', kw⟩ := tl M2 S2 b2 m2 t2 x2 s2 (k + (m2 - m)) (q + 2 * (m2 - m)) (by omega) (by omega)
  refine ⟨M', ?_⟩
  refine wp_ald1 dL_law_636 ?_
  refine wp_ald0 dL_law_637 ?_
  refine wp_ild3 dL_law_638 ?_
  refine wp_iconst (v := 1) dL_law_639 (by decide) ?_
  refine wp_iaddN (a := i) (b := 1) rfl (by decide) dL_law_640 ?_
  refine wp_tald (v := .int (xs (i + 1))) dL_law_641 hsc (nI_in (by omega) (by omega)) (by show Value.int (xs (nt (nI (i + 1)))) = _; rw [ntn (by omega)]) ?_
  refine wp_callV (As := [.int (xs (i + 1))]) dL_law_642 kL_81 c1 (hx.2.1 0 (by omega)) hx.x rfl rfl (by omega) (by omega) (by omega) rfl (Nat.le_of_ble_eq_true rfl) ?_
  refine wp_ald2 dL_law_645 ?_
  refine wp_ald0 dL_law_646 ?_
  refine wp_ild3 dL_law_647 ?_
  refine wp_iconst (v := 1) dL_law_648 (by decide) ?_
  refine wp_iaddN (a := i) (b := 1) rfl (by decide) dL_law_649 ?_
  refine wp_tald (v := .int (xs (i + 1))) dL_law_650 hsc (nI_in (by omega) (by omega)) (by show Value.int (xs (nt (nI (i + 1)))) = _; rw [ntn (by omega)]) ?_
  refine wp_callV (As := [.int (xs (i + 1))]) dL_law_651 kL_84 c2 yy1 yy2 rfl rfl (by omega) (by omega) (by omega) rfl (Nat.le_of_ble_eq_true rfl) ?_
  refine wp_icmp_eq (tgt := 1158) dL_law_654 (by decide) (fun _ => ?_) (fun z => absurd rfl z)
  exact kw
theorem lc_waitEnd (hsc : (FieldType.int, a, N, fun j => Value.int (xs j)) ∈ gS G) (hN : N ≤ 2048) (hi : i + 4 ≤ N) (hx : XS G X S b m t M) (hd : 1 ≤ d) (hst : Sty G X (d - 1) S b m M n r yX11_waitEnd iX11_waitEnd yX12_waitEnd iX12_waitEnd [.int (xs (i + 1))]) (h1 : k + (700 - m) ≤ mc) (h2 : q + 2 * (700 - m) ≤ ms) (tl : ∀ (M2 : Mem) (S2 : Nat → Nat → Int32) (b2 m2 : Nat) (t2 : List Nat), XS G X S2 b2 m2 t2 M2 → SR S2 (n + 100) (r + 20000) → ∀ k2 q2, k2 + (700 - m2) ≤ mc → q2 + 2 * (700 - m2) ≤ ms → ∃ M', WP G iL_law d mc ms (some (.int 1)) M' 1158 [some (.ref a), some (.ref X), some (.ref (X + 248)), some (.int (nI i))] [] M2 k2 q2) : ∃ M', WP G iL_law d mc ms (some (.int 1)) M' 659 [some (.ref a), some (.ref X), some (.ref (X + 248)), some (.int (nI i))] [] M k q := by
  obtain ⟨M1, M2, S2, b2, m2, t2, v, c1, c2, x2, s2, le, S1, b1, t1, x1⟩ := hst
  have hm2 := x2.m7
  obtain ⟨fs, yy1, yy2⟩ := x1.y
  obtain ⟨M', kw⟩ := tl M2 S2 b2 m2 t2 x2 s2 (k + (m2 - m)) (q + 2 * (m2 - m)) (by omega) (by omega)
  refine ⟨M', ?_⟩
  refine wp_ald1 dL_law_659 ?_
  refine wp_ald0 dL_law_660 ?_
  refine wp_ild3 dL_law_661 ?_
  refine wp_iconst (v := 1) dL_law_662 (by decide) ?_
  refine wp_iaddN (a := i) (b := 1) rfl (by decide) dL_law_663 ?_
  refine wp_tald (v := .int (xs (i + 1))) dL_law_664 hsc (nI_in (by omega) (by omega)) (by show Value.int (xs (nt (nI (i + 1)))) = _; rw [ntn (by omega)]) ?_
  refine wp_callV (As := [.int (xs (i + 1))]) dL_law_665 kL_85 c1 (hx.2.1 0 (by omega)) hx.x rfl rfl (by omega) (by omega) (by omega) rfl (Nat.le_of_ble_eq_true rfl) ?_
  refine wp_ald2 dL_law_668 ?_
  refine wp_ald0 dL_law_669 ?_
  refine wp_ild3 dL_law_670 ?_
  refine wp_iconst (v := 1) dL_law_671 (by decide) ?_
  refine wp_iaddN (a := i) (b := 1) rfl (by decide) dL_law_672 ?_
  refine wp_tald (v := .int (xs (i + 1))) dL_law_673 hsc (nI_in (by omega) (by omega)) (by show Value.int (xs (nt (nI (i + 1)))) = _; rw [ntn (by omega)]) ?_
  refine wp_callV (As := [.int (xs (i + 1))]) dL_law_674 kL_88 c2 yy1 yy2 rfl rfl (by omega) (by omega) (by omega) rfl (Nat.le_of_ble_eq_true rfl) ?_
  refine wp_icmp_eq (tgt := 1158) dL_law_677 (by decide) (fun _ => ?_) (fun z => absurd rfl z)
  exact kw
theorem lc_deadlocked (hsc : (FieldType.int, a, N, fun j => Value.int (xs j)) ∈ gS G) (hN : N ≤ 2048) (hi : i + 4 ≤ N) (hx : XS G X S b m t M) (hd : 1 ≤ d) (hst : Sty G X (d - 1) S b m M n r yX11_deadlocked iX11_deadlocked yX12_deadlocked iX12_deadlocked []) (h1 : k + (700 - m) ≤ mc) (h2 : q + 2 * (700 - m) ≤ ms) (tl : ∀ (M2 : Mem) (S2 : Nat → Nat → Int32) (b2 m2 : Nat) (t2 : List Nat), XS G X S2 b2 m2 t2 M2 → SR S2 (n + 100) (r + 20000) → ∀ k2 q2, k2 + (700 - m2) ≤ mc → q2 + 2 * (700 - m2) ≤ ms → ∃ M', WP G iL_law d mc ms (some (.int 1)) M' 1158 [some (.ref a), some (.ref X), some (.ref (X + 248)), some (.int (nI i))] [] M2 k2 q2) : ∃ M', WP G iL_law d mc ms (some (.int 1)) M' 682 [some (.ref a), some (.ref X), some (.ref (X + 248)), some (.int (nI i))] [] M k q := by
  obtain ⟨M1, M2, S2, b2, m2, t2, v, c1, c2, x2, s2, le, S1, b1, t1, x1⟩ := hst
  have hm2 := x2.m7
  obtain ⟨fs, yy1, yy2⟩ := x1.y
  obtain ⟨M', kw⟩ := tl M2 S2 b2 m2 t2 x2 s2 (k + (m2 - m)) (q + 2 * (m2 - m)) (by omega) (by omega)
  refine ⟨M', ?_⟩
  refine wp_ald1 dL_law_682 ?_
  refine wp_callV (As := []) dL_law_683 kL_89 c1 (hx.2.1 0 (by omega)) hx.x rfl rfl (by omega) (by omega) (by omega) rfl (Nat.le_of_ble_eq_true rfl) ?_
  refine wp_ald2 dL_law_686 ?_
  refine wp_callV (As := []) dL_law_687 kL_92 c2 yy1 yy2 rfl rfl (by omega) (by omega) (by omega) rfl (Nat.le_of_ble_eq_true rfl) ?_
  refine wp_icmp_eq (tgt := 1158) dL_law_690 (by decide) (fun _ => ?_) (fun z => absurd rfl z)
  exact kw
theorem lc_lockState (hsc : (FieldType.int, a, N, fun j => Value.int (xs j)) ∈ gS G) (hN : N ≤ 2048) (hi : i + 4 ≤ N) (hx : XS G X S b m t M) (hd : 1 ≤ d) (hst : Sty G X (d - 1) S b m M n r yX11_lockState iX11_lockState yX12_lockState iX12_lockState [.int (xs (i + 1))]) (h1 : k + (700 - m) ≤ mc) (h2 : q + 2 * (700 - m) ≤ ms) (tl : ∀ (M2 : Mem) (S2 : Nat → Nat → Int32) (b2 m2 : Nat) (t2 : List Nat), XS G X S2 b2 m2 t2 M2 → SR S2 (n + 100) (r + 20000) → ∀ k2 q2, k2 + (700 - m2) ≤ mc → q2 + 2 * (700 - m2) ≤ ms → ∃ M', WP G iL_law d mc ms (some (.int 1)) M' 1158 [some (.ref a), some (.ref X), some (.ref (X + 248)), some (.int (nI i))] [] M2 k2 q2) : ∃ M', WP G iL_law d mc ms (some (.int 1)) M' 695 [some (.ref a), some (.ref X), some (.ref (X + 248)), some (.int (nI i))] [] M k q := by
  obtain ⟨M1, M2, S2, b2, m2, t2, v, c1, c2, x2, s2, le, S1, b1, t1, x1⟩ := hst
  have hm2 := x2.m7
  obtain ⟨fs, yy1, yy2⟩ := x1.y
  obtain ⟨M', kw⟩ := tl M2 S2 b2 m2 t2 x2 s2 (k + (m2 - m)) (q + 2 * (m2 - m)) (by omega) (by omega)
  refine ⟨M', ?_⟩
  refine wp_ald1 dL_law_695 ?_
  refine wp_ald0 dL_law_696 ?_
  refine wp_ild3 dL_law_697 ?_
  refine wp_iconst (v := 1) dL_law_698 (by decide) ?_
  refine wp_iaddN (a := i) (b := 1) rfl (by decide) dL_law_699 ?_
  refine wp_tald (v := .int (xs (i + 1))) dL_law_700 hsc (nI_in (by omega) (by omega)) (by show Value.int (xs (nt (nI (i + 1)))) = _; rw [ntn (by omega)]) ?_
  refine wp_callV (As := [.int (xs (i + 1))]) dL_law_701 kL_93 c1 (hx.2.1 0 (by omega)) hx.x rfl rfl (by omega) (by omega) (by omega) rfl (Nat.le_of_ble_eq_true rfl) ?_
  refine wp_ald2 dL_law_704 ?_
  refine wp_ald0 dL_law_705 ?_
  refine wp_ild3 dL_law_706 ?_
  refine wp_iconst (v := 1) dL_law_707 (by decide) ?_
  refine wp_iaddN (a := i) (b := 1) rfl (by decide) dL_law_708 ?_
  refine wp_tald (v := .int (xs (i + 1))) dL_law_709 hsc (nI_in (by omega) (by omega)) (by show Value.int (xs (nt (nI (i + 1)))) = _; rw [ntn (by omega)]) ?_
  refine wp_callV (As := [.int (xs (i + 1))]) dL_law_710 kL_96 c2 yy1 yy2 rfl rfl (by omega) (by omega) (by omega) rfl (Nat.le_of_ble_eq_true rfl) ?_
  refine wp_icmp_eq (tgt := 1158) dL_law_713 (by decide) (fun _ => ?_) (fun z => absurd rfl z)
  exact kw
theorem lc_owner (hsc : (FieldType.int, a, N, fun j => Value.int (xs j)) ∈ gS G) (hN : N ≤ 2048) (hi : i + 4 ≤ N) (hx : XS G X S b m t M) (hd : 1 ≤ d) (hst : Sty G X (d - 1) S b m M n r yX11_owner iX11_owner yX12_owner iX12_owner [.int (xs (i + 1))]) (h1 : k + (700 - m) ≤ mc) (h2 : q + 2 * (700 - m) ≤ ms) (tl : ∀ (M2 : Mem) (S2 : Nat → Nat → Int32) (b2 m2 : Nat) (t2 : List Nat), XS G X S2 b2 m2 t2 M2 → SR S2 (n + 100) (r + 20000) → ∀ k2 q2, k2 + (700 - m2) ≤ mc → q2 + 2 * (700 - m2) ≤ ms → ∃ M', WP G iL_law d mc ms (some (.int 1)) M' 1158 [some (.ref a), some (.ref X), some (.ref (X + 248)), some (.int (nI i))] [] M2 k2 q2) : ∃ M', WP G iL_law d mc ms (some (.int 1)) M' 718 [some (.ref a), some (.ref X), some (.ref (X + 248)), some (.int (nI i))] [] M k q := by
  obtain ⟨M1, M2, S2, b2, m2, t2, v, c1, c2, x2, s2, le, S1, b1, t1, x1⟩ := hst
  have hm2 := x2.m7
  obtain ⟨fs, yy1, yy2⟩ := x1.y
  obtain ⟨M', kw⟩ := tl M2 S2 b2 m2 t2 x2 s2 (k + (m2 - m)) (q + 2 * (m2 - m)) (by omega) (by omega)
  refine ⟨M', ?_⟩
  refine wp_ald1 dL_law_718 ?_
  refine wp_ald0 dL_law_719 ?_
  refine wp_ild3 dL_law_720 ?_
  refine wp_iconst (v := 1) dL_law_721 (by decide) ?_
  refine wp_iaddN (a := i) (b := 1) rfl (by decide) dL_law_722 ?_
  refine wp_tald (v := .int (xs (i + 1))) dL_law_723 hsc (nI_in (by omega) (by omega)) (by show Value.int (xs (nt (nI (i + 1)))) = _; rw [ntn (by omega)]) ?_
  refine wp_callV (As := [.int (xs (i + 1))]) dL_law_724 kL_97 c1 (hx.2.1 0 (by omega)) hx.x rfl rfl (by omega) (by omega) (by omega) rfl (Nat.le_of_ble_eq_true rfl) ?_
  refine wp_ald2 dL_law_727 ?_
  refine wp_ald0 dL_law_728 ?_
  refine wp_ild3 dL_law_729 ?_
  refine wp_iconst (v := 1) dL_law_730 (by decide) ?_
  refine wp_iaddN (a := i) (b := 1) rfl (by decide) dL_law_731 ?_
  refine wp_tald (v := .int (xs (i + 1))) dL_law_732 hsc (nI_in (by omega) (by omega)) (by show Value.int (xs (nt (nI (i + 1)))) = _; rw [ntn (by omega)]) ?_
  refine wp_callV (As := [.int (xs (i + 1))]) dL_law_733 kL_100 c2 yy1 yy2 rfl rfl (by omega) (by omega) (by omega) rfl (Nat.le_of_ble_eq_true rfl) ?_
  refine wp_icmp_eq (tgt := 1158) dL_law_736 (by decide) (fun _ => ?_) (fun z => absurd rfl z)
  exact kw
theorem lc_count (hsc : (FieldType.int, a, N, fun j => Value.int (xs j)) ∈ gS G) (hN : N ≤ 2048) (hi : i + 4 ≤ N) (hx : XS G X S b m t M) (hd : 1 ≤ d) (hst : Sty G X (d - 1) S b m M n r yX11_count iX11_count yX12_count iX12_count [.int (xs (i + 1))]) (h1 : k + (700 - m) ≤ mc) (h2 : q + 2 * (700 - m) ≤ ms) (tl : ∀ (M2 : Mem) (S2 : Nat → Nat → Int32) (b2 m2 : Nat) (t2 : List Nat), XS G X S2 b2 m2 t2 M2 → SR S2 (n + 100) (r + 20000) → ∀ k2 q2, k2 + (700 - m2) ≤ mc → q2 + 2 * (700 - m2) ≤ ms → ∃ M', WP G iL_law d mc ms (some (.int 1)) M' 1158 [some (.ref a), some (.ref X), some (.ref (X + 248)), some (.int (nI i))] [] M2 k2 q2) : ∃ M', WP G iL_law d mc ms (some (.int 1)) M' 741 [some (.ref a), some (.ref X), some (.ref (X + 248)), some (.int (nI i))] [] M k q := by
  obtain ⟨M1, M2, S2, b2, m2, t2, v, c1, c2, x2, s2, le, S1, b1, t1, x1⟩ := hst
  have hm2 := x2.m7
  obtain ⟨fs, yy1, yy2⟩ := x1.y
  obtain ⟨M', kw⟩ := tl M2 S2 b2 m2 t2 x2 s2 (k + (m2 - m)) (q + 2 * (m2 - m)) (by omega) (by omega)
  refine ⟨M', ?_⟩
  refine wp_ald1 dL_law_741 ?_
  refine wp_ald0 dL_law_742 ?_
  refine wp_ild3 dL_law_743 ?_
  refine wp_iconst (v := 1) dL_law_744 (by decide) ?_
  refine wp_iaddN (a := i) (b := 1) rfl (by decide) dL_law_745 ?_
  refine wp_tald (v := .int (xs (i + 1))) dL_law_746 hsc (nI_in (by omega) (by omega)) (by show Value.int (xs (nt (nI (i + 1)))) = _; rw [ntn (by omega)]) ?_
  refine wp_callV (As := [.int (xs (i + 1))]) dL_law_747 kL_101 c1 (hx.2.1 0 (by omega)) hx.x rfl rfl (by omega) (by omega) (by omega) rfl (Nat.le_of_ble_eq_true rfl) ?_
  refine wp_ald2 dL_law_750 ?_
  refine wp_ald0 dL_law_751 ?_
  refine wp_ild3 dL_law_752 ?_
  refine wp_iconst (v := 1) dL_law_753 (by decide) ?_
  refine wp_iaddN (a := i) (b := 1) rfl (by decide) dL_law_754 ?_
  refine wp_tald (v := .int (xs (i + 1))) dL_law_755 hsc (nI_in (by omega) (by omega)) (by show Value.int (xs (nt (nI (i + 1)))) = _; rw [ntn (by omega)]) ?_
  refine wp_callV (As := [.int (xs (i + 1))]) dL_law_756 kL_104 c2 yy1 yy2 rfl rfl (by omega) (by omega) (by omega) rfl (Nat.le_of_ble_eq_true rfl) ?_
  refine wp_icmp_eq (tgt := 1158) dL_law_759 (by decide) (fun _ => ?_) (fun z => absurd rfl z)
  exact kw
theorem lc_bias (hsc : (FieldType.int, a, N, fun j => Value.int (xs j)) ∈ gS G) (hN : N ≤ 2048) (hi : i + 4 ≤ N) (hx : XS G X S b m t M) (hd : 1 ≤ d) (hst : Sty G X (d - 1) S b m M n r yX11_bias iX11_bias yX12_bias iX12_bias [.int (xs (i + 1))]) (h1 : k + (700 - m) ≤ mc) (h2 : q + 2 * (700 - m) ≤ ms) (tl : ∀ (M2 : Mem) (S2 : Nat → Nat → Int32) (b2 m2 : Nat) (t2 : List Nat), XS G X S2 b2 m2 t2 M2 → SR S2 (n + 100) (r + 20000) → ∀ k2 q2, k2 + (700 - m2) ≤ mc → q2 + 2 * (700 - m2) ≤ ms → ∃ M', WP G iL_law d mc ms (some (.int 1)) M' 1158 [some (.ref a), some (.ref X), some (.ref (X + 248)), some (.int (nI i))] [] M2 k2 q2) : ∃ M', WP G iL_law d mc ms (some (.int 1)) M' 764 [some (.ref a), some (.ref X), some (.ref (X + 248)), some (.int (nI i))] [] M k q := by
  obtain ⟨M1, M2, S2, b2, m2, t2, v, c1, c2, x2, s2, le, S1, b1, t1, x1⟩ := hst
  have hm2 := x2.m7
  obtain ⟨fs, yy1, yy2⟩ := x1.y
  obtain ⟨M', kw⟩ := tl M2 S2 b2 m2 t2 x2 s2 (k + (m2 - m)) (q + 2 * (m2 - m)) (by omega) (by omega)
  refine ⟨M', ?_⟩
  refine wp_ald1 dL_law_764 ?_
  refine wp_ald0 dL_law_765 ?_
  refine wp_ild3 dL_law_766 ?_
  refine wp_iconst (v := 1) dL_law_767 (by decide) ?_
  refine wp_iaddN (a := i) (b := 1) rfl (by decide) dL_law_768 ?_
  refine wp_tald (v := .int (xs (i + 1))) dL_law_769 hsc (nI_in (by omega) (by omega)) (by show Value.int (xs (nt (nI (i + 1)))) = _; rw [ntn (by omega)]) ?_
  refine wp_callV (As := [.int (xs (i + 1))]) dL_law_770 kL_105 c1 (hx.2.1 0 (by omega)) hx.x rfl rfl (by omega) (by omega) (by omega) rfl (Nat.le_of_ble_eq_true rfl) ?_
  refine wp_ald2 dL_law_773 ?_
  refine wp_ald0 dL_law_774 ?_
  refine wp_ild3 dL_law_775 ?_
  refine wp_iconst (v := 1) dL_law_776 (by decide) ?_
  refine wp_iaddN (a := i) (b := 1) rfl (by decide) dL_law_777 ?_
  refine wp_tald (v := .int (xs (i + 1))) dL_law_778 hsc (nI_in (by omega) (by omega)) (by show Value.int (xs (nt (nI (i + 1)))) = _; rw [ntn (by omega)]) ?_
  refine wp_callV (As := [.int (xs (i + 1))]) dL_law_779 kL_108 c2 yy1 yy2 rfl rfl (by omega) (by omega) (by omega) rfl (Nat.le_of_ble_eq_true rfl) ?_
  refine wp_icmp_eq (tgt := 1158) dL_law_782 (by decide) (fun _ => ?_) (fun z => absurd rfl z)
  exact kw
theorem lc_queued (hsc : (FieldType.int, a, N, fun j => Value.int (xs j)) ∈ gS G) (hN : N ≤ 2048) (hi : i + 4 ≤ N) (hx : XS G X S b m t M) (hd : 1 ≤ d) (hst : Sty G X (d - 1) S b m M n r yX11_queued iX11_queued yX12_queued iX12_queued [.int (xs (i + 1)), .int (xs (i + 2))]) (h1 : k + (700 - m) ≤ mc) (h2 : q + 2 * (700 - m) ≤ ms) (tl : ∀ (M2 : Mem) (S2 : Nat → Nat → Int32) (b2 m2 : Nat) (t2 : List Nat), XS G X S2 b2 m2 t2 M2 → SR S2 (n + 100) (r + 20000) → ∀ k2 q2, k2 + (700 - m2) ≤ mc → q2 + 2 * (700 - m2) ≤ ms → ∃ M', WP G iL_law d mc ms (some (.int 1)) M' 1158 [some (.ref a), some (.ref X), some (.ref (X + 248)), some (.int (nI i))] [] M2 k2 q2) : ∃ M', WP G iL_law d mc ms (some (.int 1)) M' 787 [some (.ref a), some (.ref X), some (.ref (X + 248)), some (.int (nI i))] [] M k q := by
  obtain ⟨M1, M2, S2, b2, m2, t2, v, c1, c2, x2, s2, le, S1, b1, t1, x1⟩ := hst
  have hm2 := x2.m7
  obtain ⟨fs, yy1, yy2⟩ := x1.y
  obtain ⟨M', kw⟩ := tl M2 S2 b2 m2 t2 x2 s2 (k + (m2 - m)) (q + 2 * (m2 - m)) (by omega) (by omega)
  refine ⟨M', ?_⟩
  refine wp_ald1 dL_law_787 ?_
  refine wp_ald0 dL_law_788 ?_
  refine wp_ild3 dL_law_789 ?_
  refine wp_iconst (v := 1) dL_law_790 (by decide) ?_
  refine wp_iaddN (a := i) (b := 1) rfl (by decide) dL_law_791 ?_
  refine wp_tald (v := .int (xs (i + 1))) dL_law_792 hsc (nI_in (by omega) (by omega)) (by show Value.int (xs (nt (nI (i + 1)))) = _; rw [ntn (by omega)]) ?_
  refine wp_ald0 dL_law_793 ?_
  refine wp_ild3 dL_law_794 ?_
  refine wp_iconst (v := 2) dL_law_795 (by decide) ?_
  refine wp_iaddN (a := i) (b := 2) rfl (by decide) dL_law_796 ?_
  refine wp_tald (v := .int (xs (i + 2))) dL_law_797 hsc (nI_in (by omega) (by omega)) (by show Value.int (xs (nt (nI (i + 2)))) = _; rw [ntn (by omega)]) ?_
  refine wp_callV (As := [.int (xs (i + 1)), .int (xs (i + 2))]) dL_law_798 kL_109 c1 (hx.2.1 0 (by omega)) hx.x rfl rfl (by omega) (by omega) (by omega) rfl (Nat.le_of_ble_eq_true rfl) ?_
  refine wp_ald2 dL_law_801 ?_
  refine wp_ald0 dL_law_802 ?_
  refine wp_ild3 dL_law_803 ?_
  refine wp_iconst (v := 1) dL_law_804 (by decide) ?_
  refine wp_iaddN (a := i) (b := 1) rfl (by decide) dL_law_805 ?_
  refine wp_tald (v := .int (xs (i + 1))) dL_law_806 hsc (nI_in (by omega) (by omega)) (by show Value.int (xs (nt (nI (i + 1)))) = _; rw [ntn (by omega)]) ?_
  refine wp_ald0 dL_law_807 ?_
  refine wp_ild3 dL_law_808 ?_
  refine wp_iconst (v := 2) dL_law_809 (by decide) ?_
  refine wp_iaddN (a := i) (b := 2) rfl (by decide) dL_law_810 ?_
  refine wp_tald (v := .int (xs (i + 2))) dL_law_811 hsc (nI_in (by omega) (by omega)) (by show Value.int (xs (nt (nI (i + 2)))) = _; rw [ntn (by omega)]) ?_
  refine wp_callV (As := [.int (xs (i + 1)), .int (xs (i + 2))]) dL_law_812 kL_112 c2 yy1 yy2 rfl rfl (by omega) (by omega) (by omega) rfl (Nat.le_of_ble_eq_true rfl) ?_
  refine wp_icmp_eq (tgt := 1158) dL_law_815 (by decide) (fun _ => ?_) (fun z => absurd rfl z)
  exact kw
theorem lc_waiting (hsc : (FieldType.int, a, N, fun j => Value.int (xs j)) ∈ gS G) (hN : N ≤ 2048) (hi : i + 4 ≤ N) (hx : XS G X S b m t M) (hd : 1 ≤ d) (hst : Sty G X (d - 1) S b m M n r yX11_waiting iX11_waiting yX12_waiting iX12_waiting [.int (xs (i + 1)), .int (xs (i + 2))]) (h1 : k + (700 - m) ≤ mc) (h2 : q + 2 * (700 - m) ≤ ms) (tl : ∀ (M2 : Mem) (S2 : Nat → Nat → Int32) (b2 m2 : Nat) (t2 : List Nat), XS G X S2 b2 m2 t2 M2 → SR S2 (n + 100) (r + 20000) → ∀ k2 q2, k2 + (700 - m2) ≤ mc → q2 + 2 * (700 - m2) ≤ ms → ∃ M', WP G iL_law d mc ms (some (.int 1)) M' 1158 [some (.ref a), some (.ref X), some (.ref (X + 248)), some (.int (nI i))] [] M2 k2 q2) : ∃ M', WP G iL_law d mc ms (some (.int 1)) M' 820 [some (.ref a), some (.ref X), some (.ref (X + 248)), some (.int (nI i))] [] M k q := by
  obtain ⟨M1, M2, S2, b2, m2, t2, v, c1, c2, x2, s2, le, S1, b1, t1, x1⟩ := hst
  have hm2 := x2.m7
  obtain ⟨fs, yy1, yy2⟩ := x1.y
  obtain ⟨M', kw⟩ := tl M2 S2 b2 m2 t2 x2 s2 (k + (m2 - m)) (q + 2 * (m2 - m)) (by omega) (by omega)
  refine ⟨M', ?_⟩
  refine wp_ald1 dL_law_820 ?_
  refine wp_ald0 dL_law_821 ?_
  refine wp_ild3 dL_law_822 ?_
  refine wp_iconst (v := 1) dL_law_823 (by decide) ?_
  refine wp_iaddN (a := i) (b := 1) rfl (by decide) dL_law_824 ?_
  refine wp_tald (v := .int (xs (i + 1))) dL_law_825 hsc (nI_in (by omega) (by omega)) (by show Value.int (xs (nt (nI (i + 1)))) = _; rw [ntn (by omega)]) ?_
  refine wp_ald0 dL_law_826 ?_
  refine wp_ild3 dL_law_827 ?_
  refine wp_iconst (v := 2) dL_law_828 (by decide) ?_
  refine wp_iaddN (a := i) (b := 2) rfl (by decide) dL_law_829 ?_
  refine wp_tald (v := .int (xs (i + 2))) dL_law_830 hsc (nI_in (by omega) (by omega)) (by show Value.int (xs (nt (nI (i + 2)))) = _; rw [ntn (by omega)]) ?_
  refine wp_callV (As := [.int (xs (i + 1)), .int (xs (i + 2))]) dL_law_831 kL_113 c1 (hx.2.1 0 (by omega)) hx.x rfl rfl (by omega) (by omega) (by omega) rfl (Nat.le_of_ble_eq_true rfl) ?_
  refine wp_ald2 dL_law_834 ?_
  refine wp_ald0 dL_law_835 ?_
  refine wp_ild3 dL_law_836 ?_
  refine wp_iconst (v := 1) dL_law_837 (by decide) ?_
  refine wp_iaddN (a := i) (b := 1) rfl (by decide) dL_law_838 ?_
  refine wp_tald (v := .int (xs (i + 1))) dL_law_839 hsc (nI_in (by omega) (by omega)) (by show Value.int (xs (nt (nI (i + 1)))) = _; rw [ntn (by omega)]) ?_
  refine wp_ald0 dL_law_840 ?_
  refine wp_ild3 dL_law_841 ?_
  refine wp_iconst (v := 2) dL_law_842 (by decide) ?_
  refine wp_iaddN (a := i) (b := 2) rfl (by decide) dL_law_843 ?_
  refine wp_tald (v := .int (xs (i + 2))) dL_law_844 hsc (nI_in (by omega) (by omega)) (by show Value.int (xs (nt (nI (i + 2)))) = _; rw [ntn (by omega)]) ?_
  refine wp_callV (As := [.int (xs (i + 1)), .int (xs (i + 2))]) dL_law_845 kL_116 c2 yy1 yy2 rfl rfl (by omega) (by omega) (by omega) rfl (Nat.le_of_ble_eq_true rfl) ?_
  refine wp_icmp_eq (tgt := 1158) dL_law_848 (by decide) (fun _ => ?_) (fun z => absurd rfl z)
  exact kw
theorem lc_describe (hsc : (FieldType.int, a, N, fun j => Value.int (xs j)) ∈ gS G) (hN : N ≤ 2048) (hi : i + 4 ≤ N) (hx : XS G X S b m t M) (hd : 1 ≤ d) (hst : Sty G X (d - 1) S b m M n r yX11_describe iX11_describe yX12_describe iX12_describe [.int (xs (i + 1)), .int (xs (i + 2))]) (h1 : k + (700 - m) ≤ mc) (h2 : q + 2 * (700 - m) ≤ ms) (tl : ∀ (M2 : Mem) (S2 : Nat → Nat → Int32) (b2 m2 : Nat) (t2 : List Nat), XS G X S2 b2 m2 t2 M2 → SR S2 (n + 100) (r + 20000) → ∀ k2 q2, k2 + (700 - m2) ≤ mc → q2 + 2 * (700 - m2) ≤ ms → ∃ M', WP G iL_law d mc ms (some (.int 1)) M' 1158 [some (.ref a), some (.ref X), some (.ref (X + 248)), some (.int (nI i))] [] M2 k2 q2) : ∃ M', WP G iL_law d mc ms (some (.int 1)) M' 853 [some (.ref a), some (.ref X), some (.ref (X + 248)), some (.int (nI i))] [] M k q := by
  obtain ⟨M1, M2, S2, b2, m2, t2, v, c1, c2, x2, s2, le, S1, b1, t1, x1⟩ := hst
  have hm2 := x2.m7
  obtain ⟨fs, yy1, yy2⟩ := x1.y
  obtain ⟨M', kw⟩ := tl M2 S2 b2 m2 t2 x2 s2 (k + (m2 - m)) (q + 2 * (m2 - m)) (by omega) (by omega)
  refine ⟨M', ?_⟩
  refine wp_ald1 dL_law_853 ?_
  refine wp_ald0 dL_law_854 ?_
  refine wp_ild3 dL_law_855 ?_
  refine wp_iconst (v := 1) dL_law_856 (by decide) ?_
  refine wp_iaddN (a := i) (b := 1) rfl (by decide) dL_law_857 ?_
  refine wp_tald (v := .int (xs (i + 1))) dL_law_858 hsc (nI_in (by omega) (by omega)) (by show Value.int (xs (nt (nI (i + 1)))) = _; rw [ntn (by omega)]) ?_
  refine wp_ald0 dL_law_859 ?_
  refine wp_ild3 dL_law_860 ?_
  refine wp_iconst (v := 2) dL_law_861 (by decide) ?_
  refine wp_iaddN (a := i) (b := 2) rfl (by decide) dL_law_862 ?_
  refine wp_tald (v := .int (xs (i + 2))) dL_law_863 hsc (nI_in (by omega) (by omega)) (by show Value.int (xs (nt (nI (i + 2)))) = _; rw [ntn (by omega)]) ?_
  refine wp_callV (As := [.int (xs (i + 1)), .int (xs (i + 2))]) dL_law_864 kL_117 c1 (hx.2.1 0 (by omega)) hx.x rfl rfl (by omega) (by omega) (by omega) rfl (Nat.le_of_ble_eq_true rfl) ?_
  refine wp_ald2 dL_law_867 ?_
  refine wp_ald0 dL_law_868 ?_
  refine wp_ild3 dL_law_869 ?_
  refine wp_iconst (v := 1) dL_law_870 (by decide) ?_
  refine wp_iaddN (a := i) (b := 1) rfl (by decide) dL_law_871 ?_
  refine wp_tald (v := .int (xs (i + 1))) dL_law_872 hsc (nI_in (by omega) (by omega)) (by show Value.int (xs (nt (nI (i + 1)))) = _; rw [ntn (by omega)]) ?_
  refine wp_ald0 dL_law_873 ?_
  refine wp_ild3 dL_law_874 ?_
  refine wp_iconst (v := 2) dL_law_875 (by decide) ?_
  refine wp_iaddN (a := i) (b := 2) rfl (by decide) dL_law_876 ?_
  refine wp_tald (v := .int (xs (i + 2))) dL_law_877 hsc (nI_in (by omega) (by omega)) (by show Value.int (xs (nt (nI (i + 2)))) = _; rw [ntn (by omega)]) ?_
  refine wp_callV (As := [.int (xs (i + 1)), .int (xs (i + 2))]) dL_law_878 kL_120 c2 yy1 yy2 rfl rfl (by omega) (by omega) (by omega) rfl (Nat.le_of_ble_eq_true rfl) ?_
  refine wp_icmp_eq (tgt := 1158) dL_law_881 (by decide) (fun _ => ?_) (fun z => absurd rfl z)
  exact kw
theorem lc_type (hsc : (FieldType.int, a, N, fun j => Value.int (xs j)) ∈ gS G) (hN : N ≤ 2048) (hi : i + 4 ≤ N) (hx : XS G X S b m t M) (hd : 1 ≤ d) (hst : Sty G X (d - 1) S b m M n r yX11_type iX11_type yX12_type iX12_type [.int (xs (i + 1)), .int (xs (i + 2))]) (h1 : k + (700 - m) ≤ mc) (h2 : q + 2 * (700 - m) ≤ ms) (tl : ∀ (M2 : Mem) (S2 : Nat → Nat → Int32) (b2 m2 : Nat) (t2 : List Nat), XS G X S2 b2 m2 t2 M2 → SR S2 (n + 100) (r + 20000) → ∀ k2 q2, k2 + (700 - m2) ≤ mc → q2 + 2 * (700 - m2) ≤ ms → ∃ M', WP G iL_law d mc ms (some (.int 1)) M' 1158 [some (.ref a), some (.ref X), some (.ref (X + 248)), some (.int (nI i))] [] M2 k2 q2) : ∃ M', WP G iL_law d mc ms (some (.int 1)) M' 886 [some (.ref a), some (.ref X), some (.ref (X + 248)), some (.int (nI i))] [] M k q := by
  obtain ⟨M1, M2, S2, b2, m2, t2, v, c1, c2, x2, s2, le, S1, b1, t1, x1⟩ := hst
  have hm2 := x2.m7
  obtain ⟨fs, yy1, yy2⟩ := x1.y
  obtain ⟨M', kw⟩ := tl M2 S2 b2 m2 t2 x2 s2 (k + (m2 - m)) (q + 2 * (m2 - m)) (by omega) (by omega)
  refine ⟨M', ?_⟩
  refine wp_ald1 dL_law_886 ?_
  refine wp_ald0 dL_law_887 ?_
  refine wp_ild3 dL_law_888 ?_
  refine wp_iconst (v := 1) dL_law_889 (by decide) ?_
  refine wp_iaddN (a := i) (b := 1) rfl (by decide) dL_law_890 ?_
  refine wp_tald (v := .int (xs (i + 1))) dL_law_891 hsc (nI_in (by omega) (by omega)) (by show Value.int (xs (nt (nI (i + 1)))) = _; rw [ntn (by omega)]) ?_
  refine wp_ald0 dL_law_892 ?_
  refine wp_ild3 dL_law_893 ?_
  refine wp_iconst (v := 2) dL_law_894 (by decide) ?_
  refine wp_iaddN (a := i) (b := 2) rfl (by decide) dL_law_895 ?_
  refine wp_tald (v := .int (xs (i + 2))) dL_law_896 hsc (nI_in (by omega) (by omega)) (by show Value.int (xs (nt (nI (i + 2)))) = _; rw [ntn (by omega)]) ?_
  refine wp_callV (As := [.int (xs (i + 1)), .int (xs (i + 2))]) dL_law_897 kL_121 c1 (hx.2.1 0 (by omega)) hx.x rfl rfl (by omega) (by omega) (by omega) rfl (Nat.le_of_ble_eq_true rfl) ?_
  refine wp_ald2 dL_law_900 ?_
  refine wp_ald0 dL_law_901 ?_
  refine wp_ild3 dL_law_902 ?_
  refine wp_iconst (v := 1) dL_law_903 (by decide) ?_
  refine wp_iaddN (a := i) (b := 1) rfl (by decide) dL_law_904 ?_
  refine wp_tald (v := .int (xs (i + 1))) dL_law_905 hsc (nI_in (by omega) (by omega)) (by show Value.int (xs (nt (nI (i + 1)))) = _; rw [ntn (by omega)]) ?_
  refine wp_ald0 dL_law_906 ?_
  refine wp_ild3 dL_law_907 ?_
  refine wp_iconst (v := 2) dL_law_908 (by decide) ?_
  refine wp_iaddN (a := i) (b := 2) rfl (by decide) dL_law_909 ?_
  refine wp_tald (v := .int (xs (i + 2))) dL_law_910 hsc (nI_in (by omega) (by omega)) (by show Value.int (xs (nt (nI (i + 2)))) = _; rw [ntn (by omega)]) ?_
  refine wp_callV (As := [.int (xs (i + 1)), .int (xs (i + 2))]) dL_law_911 kL_124 c2 yy1 yy2 rfl rfl (by omega) (by omega) (by omega) rfl (Nat.le_of_ble_eq_true rfl) ?_
  refine wp_icmp_eq (tgt := 1158) dL_law_914 (by decide) (fun _ => ?_) (fun z => absurd rfl z)
  exact kw
theorem lc_time (hsc : (FieldType.int, a, N, fun j => Value.int (xs j)) ∈ gS G) (hN : N ≤ 2048) (hi : i + 4 ≤ N) (hx : XS G X S b m t M) (hd : 1 ≤ d) (hst : Sty G X (d - 1) S b m M n r yX11_time iX11_time yX12_time iX12_time []) (h1 : k + (700 - m) ≤ mc) (h2 : q + 2 * (700 - m) ≤ ms) (tl : ∀ (M2 : Mem) (S2 : Nat → Nat → Int32) (b2 m2 : Nat) (t2 : List Nat), XS G X S2 b2 m2 t2 M2 → SR S2 (n + 100) (r + 20000) → ∀ k2 q2, k2 + (700 - m2) ≤ mc → q2 + 2 * (700 - m2) ≤ ms → ∃ M', WP G iL_law d mc ms (some (.int 1)) M' 1158 [some (.ref a), some (.ref X), some (.ref (X + 248)), some (.int (nI i))] [] M2 k2 q2) : ∃ M', WP G iL_law d mc ms (some (.int 1)) M' 919 [some (.ref a), some (.ref X), some (.ref (X + 248)), some (.int (nI i))] [] M k q := by
  obtain ⟨M1, M2, S2, b2, m2, t2, v, c1, c2, x2, s2, le, S1, b1, t1, x1⟩ := hst
  have hm2 := x2.m7
  obtain ⟨fs, yy1, yy2⟩ := x1.y
  obtain ⟨M', kw⟩ := tl M2 S2 b2 m2 t2 x2 s2 (k + (m2 - m)) (q + 2 * (m2 - m)) (by omega) (by omega)
  refine ⟨M', ?_⟩
  refine wp_ald1 dL_law_919 ?_
  refine wp_callV (As := []) dL_law_920 kL_125 c1 (hx.2.1 0 (by omega)) hx.x rfl rfl (by omega) (by omega) (by omega) rfl (Nat.le_of_ble_eq_true rfl) ?_
  refine wp_ald2 dL_law_923 ?_
  refine wp_callV (As := []) dL_law_924 kL_128 c2 yy1 yy2 rfl rfl (by omega) (by omega) (by omega) rfl (Nat.le_of_ble_eq_true rfl) ?_
  refine wp_icmp_eq (tgt := 1158) dL_law_927 (by decide) (fun _ => ?_) (fun z => absurd rfl z)
  exact kw
theorem lc_monitors (hsc : (FieldType.int, a, N, fun j => Value.int (xs j)) ∈ gS G) (hN : N ≤ 2048) (hi : i + 4 ≤ N) (hx : XS G X S b m t M) (hd : 1 ≤ d) (hst : Sty G X (d - 1) S b m M n r yX11_monitors iX11_monitors yX12_monitors iX12_monitors []) (h1 : k + (700 - m) ≤ mc) (h2 : q + 2 * (700 - m) ≤ ms) (tl : ∀ (M2 : Mem) (S2 : Nat → Nat → Int32) (b2 m2 : Nat) (t2 : List Nat), XS G X S2 b2 m2 t2 M2 → SR S2 (n + 100) (r + 20000) → ∀ k2 q2, k2 + (700 - m2) ≤ mc → q2 + 2 * (700 - m2) ≤ ms → ∃ M', WP G iL_law d mc ms (some (.int 1)) M' 1158 [some (.ref a), some (.ref X), some (.ref (X + 248)), some (.int (nI i))] [] M2 k2 q2) : ∃ M', WP G iL_law d mc ms (some (.int 1)) M' 932 [some (.ref a), some (.ref X), some (.ref (X + 248)), some (.int (nI i))] [] M k q := by
  obtain ⟨M1, M2, S2, b2, m2, t2, v, c1, c2, x2, s2, le, S1, b1, t1, x1⟩ := hst
  have hm2 := x2.m7
  obtain ⟨fs, yy1, yy2⟩ := x1.y
  obtain ⟨M', kw⟩ := tl M2 S2 b2 m2 t2 x2 s2 (k + (m2 - m)) (q + 2 * (m2 - m)) (by omega) (by omega)
  refine ⟨M', ?_⟩
  refine wp_ald1 dL_law_932 ?_
  refine wp_callV (As := []) dL_law_933 kL_129 c1 (hx.2.1 0 (by omega)) hx.x rfl rfl (by omega) (by omega) (by omega) rfl (Nat.le_of_ble_eq_true rfl) ?_
  refine wp_ald2 dL_law_936 ?_
  refine wp_callV (As := []) dL_law_937 kL_132 c2 yy1 yy2 rfl rfl (by omega) (by omega) (by omega) rfl (Nat.le_of_ble_eq_true rfl) ?_
  refine wp_icmp_eq (tgt := 1158) dL_law_940 (by decide) (fun _ => ?_) (fun z => absurd rfl z)
  exact kw
theorem lc_counted (hsc : (FieldType.int, a, N, fun j => Value.int (xs j)) ∈ gS G) (hN : N ≤ 2048) (hi : i + 4 ≤ N) (hx : XS G X S b m t M) (hd : 1 ≤ d) (hst : Sty G X (d - 1) S b m M n r yX11_counted iX11_counted yX12_counted iX12_counted [.int (xs (i + 1))]) (h1 : k + (700 - m) ≤ mc) (h2 : q + 2 * (700 - m) ≤ ms) (tl : ∀ (M2 : Mem) (S2 : Nat → Nat → Int32) (b2 m2 : Nat) (t2 : List Nat), XS G X S2 b2 m2 t2 M2 → SR S2 (n + 100) (r + 20000) → ∀ k2 q2, k2 + (700 - m2) ≤ mc → q2 + 2 * (700 - m2) ≤ ms → ∃ M', WP G iL_law d mc ms (some (.int 1)) M' 1158 [some (.ref a), some (.ref X), some (.ref (X + 248)), some (.int (nI i))] [] M2 k2 q2) : ∃ M', WP G iL_law d mc ms (some (.int 1)) M' 945 [some (.ref a), some (.ref X), some (.ref (X + 248)), some (.int (nI i))] [] M k q := by
  obtain ⟨M1, M2, S2, b2, m2, t2, v, c1, c2, x2, s2, le, S1, b1, t1, x1⟩ := hst
  have hm2 := x2.m7
  obtain ⟨fs, yy1, yy2⟩ := x1.y
  obtain ⟨M', kw⟩ := tl M2 S2 b2 m2 t2 x2 s2 (k + (m2 - m)) (q + 2 * (m2 - m)) (by omega) (by omega)
  refine ⟨M', ?_⟩
  refine wp_ald1 dL_law_945 ?_
  refine wp_ald0 dL_law_946 ?_
  refine wp_ild3 dL_law_947 ?_
  refine wp_iconst (v := 1) dL_law_948 (by decide) ?_
  refine wp_iaddN (a := i) (b := 1) rfl (by decide) dL_law_949 ?_
  refine wp_tald (v := .int (xs (i + 1))) dL_law_950 hsc (nI_in (by omega) (by omega)) (by show Value.int (xs (nt (nI (i + 1)))) = _; rw [ntn (by omega)]) ?_
  refine wp_callV (As := [.int (xs (i + 1))]) dL_law_951 kL_133 c1 (hx.2.1 0 (by omega)) hx.x rfl rfl (by omega) (by omega) (by omega) rfl (Nat.le_of_ble_eq_true rfl) ?_
  refine wp_ald2 dL_law_954 ?_
  refine wp_ald0 dL_law_955 ?_
  refine wp_ild3 dL_law_956 ?_
  refine wp_iconst (v := 1) dL_law_957 (by decide) ?_
  refine wp_iaddN (a := i) (b := 1) rfl (by decide) dL_law_958 ?_
  refine wp_tald (v := .int (xs (i + 1))) dL_law_959 hsc (nI_in (by omega) (by omega)) (by show Value.int (xs (nt (nI (i + 1)))) = _; rw [ntn (by omega)]) ?_
  refine wp_callV (As := [.int (xs (i + 1))]) dL_law_960 kL_136 c2 yy1 yy2 rfl rfl (by omega) (by omega) (by omega) rfl (Nat.le_of_ble_eq_true rfl) ?_
  refine wp_icmp_eq (tgt := 1158) dL_law_963 (by decide) (fun _ => ?_) (fun z => absurd rfl z)
  exact kw
theorem lc_cost (hsc : (FieldType.int, a, N, fun j => Value.int (xs j)) ∈ gS G) (hN : N ≤ 2048) (hi : i + 4 ≤ N) (hx : XS G X S b m t M) (hd : 1 ≤ d) (hst : Sty G X (d - 1) S b m M n r yX11_cost iX11_cost yX12_cost iX12_cost []) (h1 : k + (700 - m) ≤ mc) (h2 : q + 2 * (700 - m) ≤ ms) (tl : ∀ (M2 : Mem) (S2 : Nat → Nat → Int32) (b2 m2 : Nat) (t2 : List Nat), XS G X S2 b2 m2 t2 M2 → SR S2 (n + 100) (r + 20000) → ∀ k2 q2, k2 + (700 - m2) ≤ mc → q2 + 2 * (700 - m2) ≤ ms → ∃ M', WP G iL_law d mc ms (some (.int 1)) M' 1158 [some (.ref a), some (.ref X), some (.ref (X + 248)), some (.int (nI i))] [] M2 k2 q2) : ∃ M', WP G iL_law d mc ms (some (.int 1)) M' 968 [some (.ref a), some (.ref X), some (.ref (X + 248)), some (.int (nI i))] [] M k q := by
  obtain ⟨M1, M2, S2, b2, m2, t2, v, c1, c2, x2, s2, le, S1, b1, t1, x1⟩ := hst
  have hm2 := x2.m7
  obtain ⟨fs, yy1, yy2⟩ := x1.y
  obtain ⟨M', kw⟩ := tl M2 S2 b2 m2 t2 x2 s2 (k + (m2 - m)) (q + 2 * (m2 - m)) (by omega) (by omega)
  refine ⟨M', ?_⟩
  refine wp_ald1 dL_law_968 ?_
  refine wp_callV (As := []) dL_law_969 kL_137 c1 (hx.2.1 0 (by omega)) hx.x rfl rfl (by omega) (by omega) (by omega) rfl (Nat.le_of_ble_eq_true rfl) ?_
  refine wp_ald2 dL_law_972 ?_
  refine wp_callV (As := []) dL_law_973 kL_140 c2 yy1 yy2 rfl rfl (by omega) (by omega) (by omega) rfl (Nat.le_of_ble_eq_true rfl) ?_
  refine wp_icmp_eq (tgt := 1158) dL_law_976 (by decide) (fun _ => ?_) (fun z => absurd rfl z)
  exact kw
theorem lc_recorded (hsc : (FieldType.int, a, N, fun j => Value.int (xs j)) ∈ gS G) (hN : N ≤ 2048) (hi : i + 4 ≤ N) (hx : XS G X S b m t M) (hd : 1 ≤ d) (hst : Sty G X (d - 1) S b m M n r yX11_recorded iX11_recorded yX12_recorded iX12_recorded []) (h1 : k + (700 - m) ≤ mc) (h2 : q + 2 * (700 - m) ≤ ms) (tl : ∀ (M2 : Mem) (S2 : Nat → Nat → Int32) (b2 m2 : Nat) (t2 : List Nat), XS G X S2 b2 m2 t2 M2 → SR S2 (n + 100) (r + 20000) → ∀ k2 q2, k2 + (700 - m2) ≤ mc → q2 + 2 * (700 - m2) ≤ ms → ∃ M', WP G iL_law d mc ms (some (.int 1)) M' 1158 [some (.ref a), some (.ref X), some (.ref (X + 248)), some (.int (nI i))] [] M2 k2 q2) : ∃ M', WP G iL_law d mc ms (some (.int 1)) M' 981 [some (.ref a), some (.ref X), some (.ref (X + 248)), some (.int (nI i))] [] M k q := by
  obtain ⟨M1, M2, S2, b2, m2, t2, v, c1, c2, x2, s2, le, S1, b1, t1, x1⟩ := hst
  have hm2 := x2.m7
  obtain ⟨fs, yy1, yy2⟩ := x1.y
  obtain ⟨M', kw⟩ := tl M2 S2 b2 m2 t2 x2 s2 (k + (m2 - m)) (q + 2 * (m2 - m)) (by omega) (by omega)
  refine ⟨M', ?_⟩
  refine wp_ald1 dL_law_981 ?_
  refine wp_callV (As := []) dL_law_982 kL_141 c1 (hx.2.1 0 (by omega)) hx.x rfl rfl (by omega) (by omega) (by omega) rfl (Nat.le_of_ble_eq_true rfl) ?_
  refine wp_ald2 dL_law_985 ?_
  refine wp_callV (As := []) dL_law_986 kL_144 c2 yy1 yy2 rfl rfl (by omega) (by omega) (by omega) rfl (Nat.le_of_ble_eq_true rfl) ?_
  refine wp_icmp_eq (tgt := 1158) dL_law_989 (by decide) (fun _ => ?_) (fun z => absurd rfl z)
  exact kw
theorem lc_replayCost (hsc : (FieldType.int, a, N, fun j => Value.int (xs j)) ∈ gS G) (hN : N ≤ 2048) (hi : i + 4 ≤ N) (hx : XS G X S b m t M) (hd : 1 ≤ d) (hst : Sty G X (d - 1) S b m M n r yX11_replayCost iX11_replayCost yX12_replayCost iX12_replayCost [.int (xs (i + 1)), .int (xs (i + 2))]) (h1 : k + (700 - m) ≤ mc) (h2 : q + 2 * (700 - m) ≤ ms) (tl : ∀ (M2 : Mem) (S2 : Nat → Nat → Int32) (b2 m2 : Nat) (t2 : List Nat), XS G X S2 b2 m2 t2 M2 → SR S2 (n + 100) (r + 20000) → ∀ k2 q2, k2 + (700 - m2) ≤ mc → q2 + 2 * (700 - m2) ≤ ms → ∃ M', WP G iL_law d mc ms (some (.int 1)) M' 1158 [some (.ref a), some (.ref X), some (.ref (X + 248)), some (.int (nI i))] [] M2 k2 q2) : ∃ M', WP G iL_law d mc ms (some (.int 1)) M' 994 [some (.ref a), some (.ref X), some (.ref (X + 248)), some (.int (nI i))] [] M k q := by
  obtain ⟨M1, M2, S2, b2, m2, t2, v, c1, c2, x2, s2, le, S1, b1, t1, x1⟩ := hst
  have hm2 := x2.m7
  obtain ⟨fs, yy1, yy2⟩ := x1.y
  obtain ⟨M', kw⟩ := tl M2 S2 b2 m2 t2 x2 s2 (k + (m2 - m)) (q + 2 * (m2 - m)) (by omega) (by omega)
  refine ⟨M', ?_⟩
  refine wp_ald1 dL_law_994 ?_
  refine wp_ald0 dL_law_995 ?_
  refine wp_ild3 dL_law_996 ?_
  refine wp_iconst (v := 1) dL_law_997 (by decide) ?_
  refine wp_iaddN (a := i) (b := 1) rfl (by decide) dL_law_998 ?_
  refine wp_tald (v := .int (xs (i + 1))) dL_law_999 hsc (nI_in (by omega) (by omega)) (by show Value.int (xs (nt (nI (i + 1)))) = _; rw [ntn (by omega)]) ?_
  refine wp_ald0 dL_law_1000 ?_
  refine wp_ild3 dL_law_1001 ?_
  refine wp_iconst (v := 2) dL_law_1002 (by decide) ?_
  refine wp_iaddN (a := i) (b := 2) rfl (by decide) dL_law_1003 ?_
  refine wp_tald (v := .int (xs (i + 2))) dL_law_1004 hsc (nI_in (by omega) (by omega)) (by show Value.int (xs (nt (nI (i + 2)))) = _; rw [ntn (by omega)]) ?_
  refine wp_callV (As := [.int (xs (i + 1)), .int (xs (i + 2))]) dL_law_1005 kL_145 c1 (hx.2.1 0 (by omega)) hx.x rfl rfl (by omega) (by omega) (by omega) rfl (Nat.le_of_ble_eq_true rfl) ?_
  refine wp_ald2 dL_law_1008 ?_
  refine wp_ald0 dL_law_1009 ?_
  refine wp_ild3 dL_law_1010 ?_
  refine wp_iconst (v := 1) dL_law_1011 (by decide) ?_
  refine wp_iaddN (a := i) (b := 1) rfl (by decide) dL_law_1012 ?_
  refine wp_tald (v := .int (xs (i + 1))) dL_law_1013 hsc (nI_in (by omega) (by omega)) (by show Value.int (xs (nt (nI (i + 1)))) = _; rw [ntn (by omega)]) ?_
  refine wp_ald0 dL_law_1014 ?_
  refine wp_ild3 dL_law_1015 ?_
  refine wp_iconst (v := 2) dL_law_1016 (by decide) ?_
  refine wp_iaddN (a := i) (b := 2) rfl (by decide) dL_law_1017 ?_
  refine wp_tald (v := .int (xs (i + 2))) dL_law_1018 hsc (nI_in (by omega) (by omega)) (by show Value.int (xs (nt (nI (i + 2)))) = _; rw [ntn (by omega)]) ?_
  refine wp_callV (As := [.int (xs (i + 1)), .int (xs (i + 2))]) dL_law_1019 kL_148 c2 yy1 yy2 rfl rfl (by omega) (by omega) (by omega) rfl (Nat.le_of_ble_eq_true rfl) ?_
  refine wp_icmp_eq (tgt := 1158) dL_law_1022 (by decide) (fun _ => ?_) (fun z => absurd rfl z)
  exact kw
theorem lc_bestValue (hsc : (FieldType.int, a, N, fun j => Value.int (xs j)) ∈ gS G) (hN : N ≤ 2048) (hi : i + 4 ≤ N) (hx : XS G X S b m t M) (hd : 1 ≤ d) (hst : Sty G X (d - 1) S b m M n r yX11_bestValue iX11_bestValue yX12_bestValue iX12_bestValue [.int (xs (i + 1))]) (h1 : k + (700 - m) ≤ mc) (h2 : q + 2 * (700 - m) ≤ ms) (tl : ∀ (M2 : Mem) (S2 : Nat → Nat → Int32) (b2 m2 : Nat) (t2 : List Nat), XS G X S2 b2 m2 t2 M2 → SR S2 (n + 100) (r + 20000) → ∀ k2 q2, k2 + (700 - m2) ≤ mc → q2 + 2 * (700 - m2) ≤ ms → ∃ M', WP G iL_law d mc ms (some (.int 1)) M' 1158 [some (.ref a), some (.ref X), some (.ref (X + 248)), some (.int (nI i))] [] M2 k2 q2) : ∃ M', WP G iL_law d mc ms (some (.int 1)) M' 1027 [some (.ref a), some (.ref X), some (.ref (X + 248)), some (.int (nI i))] [] M k q := by
  obtain ⟨M1, M2, S2, b2, m2, t2, v, c1, c2, x2, s2, le, S1, b1, t1, x1⟩ := hst
  have hm2 := x2.m7
  obtain ⟨fs, yy1, yy2⟩ := x1.y
  obtain ⟨M', kw⟩ := tl M2 S2 b2 m2 t2 x2 s2 (k + (m2 - m)) (q + 2 * (m2 - m)) (by omega) (by omega)
  refine ⟨M', ?_⟩
  refine wp_ald1 dL_law_1027 ?_
  refine wp_ald0 dL_law_1028 ?_
  refine wp_ild3 dL_law_1029 ?_
  refine wp_iconst (v := 1) dL_law_1030 (by decide) ?_
  refine wp_iaddN (a := i) (b := 1) rfl (by decide) dL_law_1031 ?_
  refine wp_tald (v := .int (xs (i + 1))) dL_law_1032 hsc (nI_in (by omega) (by omega)) (by show Value.int (xs (nt (nI (i + 1)))) = _; rw [ntn (by omega)]) ?_
  refine wp_callV (As := [.int (xs (i + 1))]) dL_law_1033 kL_149 c1 (hx.2.1 0 (by omega)) hx.x rfl rfl (by omega) (by omega) (by omega) rfl (Nat.le_of_ble_eq_true rfl) ?_
  refine wp_ald2 dL_law_1036 ?_
  refine wp_ald0 dL_law_1037 ?_
  refine wp_ild3 dL_law_1038 ?_
  refine wp_iconst (v := 1) dL_law_1039 (by decide) ?_
  refine wp_iaddN (a := i) (b := 1) rfl (by decide) dL_law_1040 ?_
  refine wp_tald (v := .int (xs (i + 1))) dL_law_1041 hsc (nI_in (by omega) (by omega)) (by show Value.int (xs (nt (nI (i + 1)))) = _; rw [ntn (by omega)]) ?_
  refine wp_callV (As := [.int (xs (i + 1))]) dL_law_1042 kL_152 c2 yy1 yy2 rfl rfl (by omega) (by omega) (by omega) rfl (Nat.le_of_ble_eq_true rfl) ?_
  refine wp_icmp_eq (tgt := 1158) dL_law_1045 (by decide) (fun _ => ?_) (fun z => absurd rfl z)
  exact kw
theorem lc_write (hsc : (FieldType.int, a, N, fun j => Value.int (xs j)) ∈ gS G) (hN : N ≤ 2048) (hi : i + 4 ≤ N) (hx : XS G X S b m t M) (hd : 1 ≤ d) (hst : Sty G X (d - 1) S b m M n r yX11_write iX11_write yX12_write iX12_write [.int (xs (i + 1))]) (h1 : k + (700 - m) ≤ mc) (h2 : q + 2 * (700 - m) ≤ ms) (tl : ∀ (M2 : Mem) (S2 : Nat → Nat → Int32) (b2 m2 : Nat) (t2 : List Nat), XS G X S2 b2 m2 t2 M2 → SR S2 (n + 100) (r + 20000) → ∀ k2 q2, k2 + (700 - m2) ≤ mc → q2 + 2 * (700 - m2) ≤ ms → ∃ M', WP G iL_law d mc ms (some (.int 1)) M' 1158 [some (.ref a), some (.ref X), some (.ref (X + 248)), some (.int (nI i))] [] M2 k2 q2) : ∃ M', WP G iL_law d mc ms (some (.int 1)) M' 1050 [some (.ref a), some (.ref X), some (.ref (X + 248)), some (.int (nI i))] [] M k q := by
  obtain ⟨M1, M2, S2, b2, m2, t2, v, c1, c2, x2, s2, le, S1, b1, t1, x1⟩ := hst
  have hm2 := x2.m7
  obtain ⟨fs, yy1, yy2⟩ := x1.y
  obtain ⟨M', kw⟩ := tl M2 S2 b2 m2 t2 x2 s2 (k + (m2 - m)) (q + 2 * (m2 - m)) (by omega) (by omega)
  refine ⟨M', ?_⟩
  refine wp_ald1 dL_law_1050 ?_
  refine wp_ald0 dL_law_1051 ?_
  refine wp_ild3 dL_law_1052 ?_
  refine wp_iconst (v := 1) dL_law_1053 (by decide) ?_
  refine wp_iaddN (a := i) (b := 1) rfl (by decide) dL_law_1054 ?_
  refine wp_tald (v := .int (xs (i + 1))) dL_law_1055 hsc (nI_in (by omega) (by omega)) (by show Value.int (xs (nt (nI (i + 1)))) = _; rw [ntn (by omega)]) ?_
  refine wp_callV (As := [.int (xs (i + 1))]) dL_law_1056 kL_153 c1 (hx.2.1 0 (by omega)) hx.x rfl rfl (by omega) (by omega) (by omega) rfl (Nat.le_of_ble_eq_true rfl) ?_
  refine wp_ald2 dL_law_1059 ?_
  refine wp_ald0 dL_law_1060 ?_
  refine wp_ild3 dL_law_1061 ?_
  refine wp_iconst (v := 1) dL_law_1062 (by decide) ?_
  refine wp_iaddN (a := i) (b := 1) rfl (by decide) dL_law_1063 ?_
  refine wp_tald (v := .int (xs (i + 1))) dL_law_1064 hsc (nI_in (by omega) (by omega)) (by show Value.int (xs (nt (nI (i + 1)))) = _; rw [ntn (by omega)]) ?_
  refine wp_callV (As := [.int (xs (i + 1))]) dL_law_1065 kL_156 c2 yy1 yy2 rfl rfl (by omega) (by omega) (by omega) rfl (Nat.le_of_ble_eq_true rfl) ?_
  refine wp_icmp_eq (tgt := 1158) dL_law_1068 (by decide) (fun _ => ?_) (fun z => absurd rfl z)
  exact kw
theorem lc_wipe (hsc : (FieldType.int, a, N, fun j => Value.int (xs j)) ∈ gS G) (hN : N ≤ 2048) (hi : i + 4 ≤ N) (hx : XS G X S b m t M) (hd : 1 ≤ d) (hst : Sty G X (d - 1) S b m M n r yX11_wipe iX11_wipe yX12_wipe iX12_wipe []) (h1 : k + (700 - m) ≤ mc) (h2 : q + 2 * (700 - m) ≤ ms) (tl : ∀ (M2 : Mem) (S2 : Nat → Nat → Int32) (b2 m2 : Nat) (t2 : List Nat), XS G X S2 b2 m2 t2 M2 → SR S2 (n + 100) (r + 20000) → ∀ k2 q2, k2 + (700 - m2) ≤ mc → q2 + 2 * (700 - m2) ≤ ms → ∃ M', WP G iL_law d mc ms (some (.int 1)) M' 1158 [some (.ref a), some (.ref X), some (.ref (X + 248)), some (.int (nI i))] [] M2 k2 q2) : ∃ M', WP G iL_law d mc ms (some (.int 1)) M' 1073 [some (.ref a), some (.ref X), some (.ref (X + 248)), some (.int (nI i))] [] M k q := by
  obtain ⟨M1, M2, S2, b2, m2, t2, v, c1, c2, x2, s2, le, S1, b1, t1, x1⟩ := hst
  have hm2 := x2.m7
  obtain ⟨fs, yy1, yy2⟩ := x1.y
  obtain ⟨M', kw⟩ := tl M2 S2 b2 m2 t2 x2 s2 (k + (m2 - m)) (q + 2 * (m2 - m)) (by omega) (by omega)
  refine ⟨M', ?_⟩
  refine wp_ald1 dL_law_1073 ?_
  refine wp_callV (As := []) dL_law_1074 kL_157 c1 (hx.2.1 0 (by omega)) hx.x rfl rfl (by omega) (by omega) (by omega) rfl (Nat.le_of_ble_eq_true rfl) ?_
  refine wp_ald2 dL_law_1077 ?_
  refine wp_callV (As := []) dL_law_1078 kL_160 c2 yy1 yy2 rfl rfl (by omega) (by omega) (by omega) rfl (Nat.le_of_ble_eq_true rfl) ?_
  refine wp_icmp_eq (tgt := 1158) dL_law_1081 (by decide) (fun _ => ?_) (fun z => absurd rfl z)
  exact kw
theorem lc_fault (hsc : (FieldType.int, a, N, fun j => Value.int (xs j)) ∈ gS G) (hN : N ≤ 2048) (hi : i + 4 ≤ N) (hx : XS G X S b m t M) (hd : 1 ≤ d) (hst : Sty G X (d - 1) S b m M n r yX11_fault iX11_fault yX12_fault iX12_fault []) (h1 : k + (700 - m) ≤ mc) (h2 : q + 2 * (700 - m) ≤ ms) (tl : ∀ (M2 : Mem) (S2 : Nat → Nat → Int32) (b2 m2 : Nat) (t2 : List Nat), XS G X S2 b2 m2 t2 M2 → SR S2 (n + 100) (r + 20000) → ∀ k2 q2, k2 + (700 - m2) ≤ mc → q2 + 2 * (700 - m2) ≤ ms → ∃ M', WP G iL_law d mc ms (some (.int 1)) M' 1158 [some (.ref a), some (.ref X), some (.ref (X + 248)), some (.int (nI i))] [] M2 k2 q2) : ∃ M', WP G iL_law d mc ms (some (.int 1)) M' 1086 [some (.ref a), some (.ref X), some (.ref (X + 248)), some (.int (nI i))] [] M k q := by
  obtain ⟨M1, M2, S2, b2, m2, t2, v, c1, c2, x2, s2, le, S1, b1, t1, x1⟩ := hst
  have hm2 := x2.m7
  obtain ⟨fs, yy1, yy2⟩ := x1.y
  obtain ⟨M', kw⟩ := tl M2 S2 b2 m2 t2 x2 s2 (k + (m2 - m)) (q + 2 * (m2 - m)) (by omega) (by omega)
  refine ⟨M', ?_⟩
  refine wp_ald1 dL_law_1086 ?_
  refine wp_callV (As := []) dL_law_1087 kL_161 c1 (hx.2.1 0 (by omega)) hx.x rfl rfl (by omega) (by omega) (by omega) rfl (Nat.le_of_ble_eq_true rfl) ?_
  refine wp_ald2 dL_law_1090 ?_
  refine wp_callV (As := []) dL_law_1091 kL_164 c2 yy1 yy2 rfl rfl (by omega) (by omega) (by omega) rfl (Nat.le_of_ble_eq_true rfl) ?_
  refine wp_icmp_eq (tgt := 1158) dL_law_1094 (by decide) (fun _ => ?_) (fun z => absurd rfl z)
  exact kw
theorem lc_run (hsc : (FieldType.int, a, N, fun j => Value.int (xs j)) ∈ gS G) (hN : N ≤ 2048) (hi : i + 4 ≤ N) (hx : XS G X S b m t M) (hd : 1 ≤ d) (hst : Sty G X (d - 1) S b m M n r yX11_run iX11_run yX12_run iX12_run []) (h1 : k + (700 - m) ≤ mc) (h2 : q + 2 * (700 - m) ≤ ms) (tl : ∀ (M2 : Mem) (S2 : Nat → Nat → Int32) (b2 m2 : Nat) (t2 : List Nat), XS G X S2 b2 m2 t2 M2 → SR S2 (n + 100) (r + 20000) → ∀ k2 q2, k2 + (700 - m2) ≤ mc → q2 + 2 * (700 - m2) ≤ ms → ∃ M', WP G iL_law d mc ms (some (.int 1)) M' 1158 [some (.ref a), some (.ref X), some (.ref (X + 248)), some (.int (nI i))] [] M2 k2 q2) : ∃ M', WP G iL_law d mc ms (some (.int 1)) M' 1099 [some (.ref a), some (.ref X), some (.ref (X + 248)), some (.int (nI i))] [] M k q := by
  obtain ⟨M1, M2, S2, b2, m2, t2, v, c1, c2, x2, s2, le, S1, b1, t1, x1⟩ := hst
  have hm2 := x2.m7
  obtain ⟨fs, yy1, yy2⟩ := x1.y
  obtain ⟨M', kw⟩ := tl M2 S2 b2 m2 t2 x2 s2 (k + (m2 - m)) (q + 2 * (m2 - m)) (by omega) (by omega)
  refine ⟨M', ?_⟩
  refine wp_ald1 dL_law_1099 ?_
  refine wp_callV (As := []) dL_law_1100 kL_165 c1 (hx.2.1 0 (by omega)) hx.x rfl rfl (by omega) (by omega) (by omega) rfl (Nat.le_of_ble_eq_true rfl) ?_
  refine wp_ald2 dL_law_1103 ?_
  refine wp_callV (As := []) dL_law_1104 kL_168 c2 yy1 yy2 rfl rfl (by omega) (by omega) (by omega) rfl (Nat.le_of_ble_eq_true rfl) ?_
  refine wp_icmp_eq (tgt := 1158) dL_law_1107 (by decide) (fun _ => ?_) (fun z => absurd rfl z)
  exact kw
theorem lc_save (hsc : (FieldType.int, a, N, fun j => Value.int (xs j)) ∈ gS G) (hN : N ≤ 2048) (hi : i + 4 ≤ N) (hx : XS G X S b m t M) (hd : 1 ≤ d) (hst : Sty G X (d - 1) S b m M n r yX11_save iX11_save yX12_save iX12_save [.int (xs (i + 1))]) (h1 : k + (700 - m) ≤ mc) (h2 : q + 2 * (700 - m) ≤ ms) (tl : ∀ (M2 : Mem) (S2 : Nat → Nat → Int32) (b2 m2 : Nat) (t2 : List Nat), XS G X S2 b2 m2 t2 M2 → SR S2 (n + 100) (r + 20000) → ∀ k2 q2, k2 + (700 - m2) ≤ mc → q2 + 2 * (700 - m2) ≤ ms → ∃ M', WP G iL_law d mc ms (some (.int 1)) M' 1158 [some (.ref a), some (.ref X), some (.ref (X + 248)), some (.int (nI i))] [] M2 k2 q2) : ∃ M', WP G iL_law d mc ms (some (.int 1)) M' 1112 [some (.ref a), some (.ref X), some (.ref (X + 248)), some (.int (nI i))] [] M k q := by
  obtain ⟨M1, M2, S2, b2, m2, t2, v, c1, c2, x2, s2, le, S1, b1, t1, x1⟩ := hst
  have hm2 := x2.m7
  obtain ⟨fs, yy1, yy2⟩ := x1.y
  obtain ⟨M', kw⟩ := tl M2 S2 b2 m2 t2 x2 s2 (k + (m2 - m)) (q + 2 * (m2 - m)) (by omega) (by omega)
  refine ⟨M', ?_⟩
  refine wp_ald1 dL_law_1112 ?_
  refine wp_ald0 dL_law_1113 ?_
  refine wp_ild3 dL_law_1114 ?_
  refine wp_iconst (v := 1) dL_law_1115 (by decide) ?_
  refine wp_iaddN (a := i) (b := 1) rfl (by decide) dL_law_1116 ?_
  refine wp_tald (v := .int (xs (i + 1))) dL_law_1117 hsc (nI_in (by omega) (by omega)) (by show Value.int (xs (nt (nI (i + 1)))) = _; rw [ntn (by omega)]) ?_
  refine wp_callV (As := [.int (xs (i + 1))]) dL_law_1118 kL_169 c1 (hx.2.1 0 (by omega)) hx.x rfl rfl (by omega) (by omega) (by omega) rfl (Nat.le_of_ble_eq_true rfl) ?_
  refine wp_ald2 dL_law_1121 ?_
  refine wp_ald0 dL_law_1122 ?_
  refine wp_ild3 dL_law_1123 ?_
  refine wp_iconst (v := 1) dL_law_1124 (by decide) ?_
  refine wp_iaddN (a := i) (b := 1) rfl (by decide) dL_law_1125 ?_
  refine wp_tald (v := .int (xs (i + 1))) dL_law_1126 hsc (nI_in (by omega) (by omega)) (by show Value.int (xs (nt (nI (i + 1)))) = _; rw [ntn (by omega)]) ?_
  refine wp_callV (As := [.int (xs (i + 1))]) dL_law_1127 kL_172 c2 yy1 yy2 rfl rfl (by omega) (by omega) (by omega) rfl (Nat.le_of_ble_eq_true rfl) ?_
  refine wp_icmp_eq (tgt := 1158) dL_law_1130 (by decide) (fun _ => ?_) (fun z => absurd rfl z)
  exact kw
theorem lc_restore (hsc : (FieldType.int, a, N, fun j => Value.int (xs j)) ∈ gS G) (hN : N ≤ 2048) (hi : i + 4 ≤ N) (hx : XS G X S b m t M) (hd : 1 ≤ d) (hst : Sty G X (d - 1) S b m M n r yX11_restore iX11_restore yX12_restore iX12_restore [.int (xs (i + 1))]) (h1 : k + (700 - m) ≤ mc) (h2 : q + 2 * (700 - m) ≤ ms) (tl : ∀ (M2 : Mem) (S2 : Nat → Nat → Int32) (b2 m2 : Nat) (t2 : List Nat), XS G X S2 b2 m2 t2 M2 → SR S2 (n + 100) (r + 20000) → ∀ k2 q2, k2 + (700 - m2) ≤ mc → q2 + 2 * (700 - m2) ≤ ms → ∃ M', WP G iL_law d mc ms (some (.int 1)) M' 1158 [some (.ref a), some (.ref X), some (.ref (X + 248)), some (.int (nI i))] [] M2 k2 q2) : ∃ M', WP G iL_law d mc ms (some (.int 1)) M' 1135 [some (.ref a), some (.ref X), some (.ref (X + 248)), some (.int (nI i))] [] M k q := by
  obtain ⟨M1, M2, S2, b2, m2, t2, v, c1, c2, x2, s2, le, S1, b1, t1, x1⟩ := hst
  have hm2 := x2.m7
  obtain ⟨fs, yy1, yy2⟩ := x1.y
  obtain ⟨M', kw⟩ := tl M2 S2 b2 m2 t2 x2 s2 (k + (m2 - m)) (q + 2 * (m2 - m)) (by omega) (by omega)
  refine ⟨M', ?_⟩
  refine wp_ald1 dL_law_1135 ?_
  refine wp_ald0 dL_law_1136 ?_
  refine wp_ild3 dL_law_1137 ?_
  refine wp_iconst (v := 1) dL_law_1138 (by decide) ?_
  refine wp_iaddN (a := i) (b := 1) rfl (by decide) dL_law_1139 ?_
  refine wp_tald (v := .int (xs (i + 1))) dL_law_1140 hsc (nI_in (by omega) (by omega)) (by show Value.int (xs (nt (nI (i + 1)))) = _; rw [ntn (by omega)]) ?_
  refine wp_callV (As := [.int (xs (i + 1))]) dL_law_1141 kL_173 c1 (hx.2.1 0 (by omega)) hx.x rfl rfl (by omega) (by omega) (by omega) rfl (Nat.le_of_ble_eq_true rfl) ?_
  refine wp_ald2 dL_law_1144 ?_
  refine wp_ald0 dL_law_1145 ?_
  refine wp_ild3 dL_law_1146 ?_
  refine wp_iconst (v := 1) dL_law_1147 (by decide) ?_
  refine wp_iaddN (a := i) (b := 1) rfl (by decide) dL_law_1148 ?_
  refine wp_tald (v := .int (xs (i + 1))) dL_law_1149 hsc (nI_in (by omega) (by omega)) (by show Value.int (xs (nt (nI (i + 1)))) = _; rw [ntn (by omega)]) ?_
  refine wp_callV (As := [.int (xs (i + 1))]) dL_law_1150 kL_176 c2 yy1 yy2 rfl rfl (by omega) (by omega) (by omega) rfl (Nat.le_of_ble_eq_true rfl) ?_
  refine wp_icmp_eq (tgt := 1158) dL_law_1153 (by decide) (fun _ => ?_) (fun z => absurd rfl z)
  exact kw
end LC
