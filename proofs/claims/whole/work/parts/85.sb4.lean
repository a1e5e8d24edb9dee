/-! StringBuilder: numbers, ends -/
theorem SB.obj {G : GG} {A b m : Nat} {t : List Nat} {M : Mem} (h : SB G A b m t M) : ∃ fs, A ∈ M.1 ∧ M.2.1 A = .inr (0, fs) := by
  obtain ⟨f, ml, h1, h2, -⟩ := h
  exact ⟨_, h1.1.1, h2⟩
theorem sx_appI0 {G : GG} {M : Mem} {d : Nat} {A b m V : Nat} {t : List Nat} {fm : Value} (hG : GOK G) (hN : GNS G fm) (hg : GDg G) (h : SB G A b m t M) (hV : V < 1000000000) (hq : t.length ≤ 280) (hdp : 4 ≤ d) : ∃ M1 b1 m1, Ct G d yJ5_append_c97b9 iJ5_append_c97b9 [.ref A, .int (nI V)] M (m1 - m) (2 * (m1 - m)) (some (.ref A)) M1 ∧ SB G A b1 m1 (t ++ numN V) M1 ∧ Sx A M b m M1 b1 m1 := by
  have hdg := sb_dg_in V
  have h0 := h
  obtain ⟨f0, ml0, ⟨⟨hA0, hb0⟩, -⟩, hEA0, -⟩ := h0
  obtain ⟨M1, b1, m1, hct, h1, hx, hqm⟩ := sx_ens (d := d - 1) (q := t.length + sb_dg V) hG h (by omega) (by omega)
  have h1' := h1
  obtain ⟨f, ml, hmem, hEA, hEb, ⟨hnm, hm⟩, hf, hfi, hc⟩ := h1
  obtain ⟨f', hgc, g1, g2, g3⟩ := sx_getChars (d := d - 1) (n := t.length) hG hg hmem.1.2 hEb hm hV hqm
  have hl : (numN V).length = sb_dg V := ndg_len V _
  refine ⟨_, b1, m1, ?_, SB.put (f := f) (g := f') (l := numN V) (ml := ml) hmem ⟨by omega, hm⟩ (g3 hf) hfi g1 (fun i hi => ?_) hc (ndg_lt V _), hx.tr Sx.put⟩
  · refine Ct.of 2 (by decide) rfl (by decide) (Nat.le_of_ble_eq_true rfl) ?_
    show WP _ _ _ _ _ _ _ 0 [some (.ref A), some (.int (nI V)), none, none] [] _ 0 0
    refine wp_ald0 dJ5_append_c97b9_0 ?_
    refine wp_get dJ5_append_c97b9_1 fJ5_79 hA0 hEA0 rfl ?_
    refine wp_ist2 dJ5_append_c97b9_4 (by decide) rfl ?_
    refine wp_ild2 dJ5_append_c97b9_5 ?_
    refine wp_ild1 dJ5_append_c97b9_6 ?_
    refine ci_1 dJ5_append_c97b9_7 kJ5_245 (sx_size (d := d - 1) hV) (by omega) (Nat.le_of_ble_eq_true rfl) (by omega) (by omega) ?_
    refine wp_iaddN (a := t.length) (b := sb_dg V) rfl rfl dJ5_append_c97b9_10 ?_
    refine wp_ist3 dJ5_append_c97b9_11 (by decide) rfl ?_
    refine wp_ald0 dJ5_append_c97b9_12 ?_
    refine wp_ild3 dJ5_append_c97b9_13 ?_
    refine wp_callU (As := [.int (nI (t.length + sb_dg V))]) dJ5_append_c97b9_14 uJ5_100 hct hA0 hEA0 rfl rfl (by omega) (by omega) (by omega) rfl (Nat.le_of_ble_eq_true rfl) ?_
    refine wp_ald0 dJ5_append_c97b9_17 ?_
    refine wp_callU (As := []) dJ5_append_c97b9_18 uJ5_83 (sx_isLatin1 (d := d - 1) hN h1') hmem.1.1 hEA rfl rfl (by omega) (by omega) (by omega) rfl (Nat.le_of_ble_eq_true rfl) ?_
    refine wp_if_eq (tgt := 37) dJ5_append_c97b9_21 (by decide) (fun h => absurd h (by decide)) (fun _ => ?_)
    refine wp_ild1 dJ5_append_c97b9_24 ?_
    refine wp_ild3 dJ5_append_c97b9_25 ?_
    refine wp_ald0 dJ5_append_c97b9_26 ?_
    refine wp_get dJ5_append_c97b9_27 fJ5_15 hmem.1.1 hEA rfl ?_
    refine wp_callS (As := [.int (nI V), .int (nI (t.length + sb_dg V)), .ref b1]) dJ5_append_c97b9_30 kJ5_248 hgc rfl (by omega) (by omega) (by omega) rfl (Nat.le_of_ble_eq_true rfl) ?_
    have hEA2 : (ups M1 b1 (.inl (cyB G, m1, .inl f'))).2.1 A = .inr (0, [.ref b1, .int 0, .int ml, .int (nI t.length)]) := (vu_ne hmem.2.1).trans hEA
    refine wp_pop dJ5_append_c97b9_33 rfl ?_
    refine wp_goto (tgt := 48) dJ5_append_c97b9_34 (by decide) ?_
    refine wp_ald0 dJ5_append_c97b9_48 ?_
    refine wp_ild3 dJ5_append_c97b9_49 ?_
    refine wp_put dJ5_append_c97b9_50 pJ5_79 hmem.1.1 hEA2 (by show 3 < 4; decide) rfl rfl ?_
    refine wp_ald0 dJ5_append_c97b9_53 ?_
    rw [hl]
    exact wp_aret dJ5_append_c97b9_54 rfl (Or.inl ⟨_, rfl⟩) (Or.inr ⟨_, rfl⟩) (by omega) (by omega) rfl rfl
  · rw [hl] at hi
    have := g2 (sb_dg V - 1 - i) (by omega)
    rw [show t.length + sb_dg V - 1 - (sb_dg V - 1 - i) = t.length + i by omega] at this
    rw [this, ndg_at V (sb_dg V) i hi]
theorem sx_appI {G : GG} {M : Mem} {d : Nat} {A b m V : Nat} {t : List Nat} {fm : Value} (hG : GOK G) (hN : GNS G fm) (hg : GDg G) (h : SB G A b m t M) (hV : V < 1000000000) (hq : t.length ≤ 280) (hdp : 5 ≤ d) : ∃ M1 b1 m1, Ct G d yJ4_append_bf812 iJ4_append_bf812 [.ref A, .int (nI V)] M (m1 - m) (2 * (m1 - m)) (some (.ref A)) M1 ∧ SB G A b1 m1 (t ++ numN V) M1 ∧ Sx A M b m M1 b1 m1 := by
  obtain ⟨M1, b1, m1, hct, h1, hx⟩ := sx_appI0 (d := d - 1) hG hN hg h hV hq (by omega)
  obtain ⟨f0, ml0, ⟨⟨hA0, hb0⟩, -⟩, hEA0, -⟩ := h
  refine ⟨M1, b1, m1, ?_, h1, hx⟩
  refine Ct.of 0 (by decide) rfl (by decide) (Nat.le_of_ble_eq_true rfl) ?_
  show WP _ _ _ _ _ _ _ 0 [some (.ref A), some (.int (nI V))] [] _ 0 0
  refine wp_ald0 dJ4_append_bf812_0 ?_
  refine wp_ild1 dJ4_append_bf812_1 ?_
  refine wp_callP (As := [.int (nI V)]) dJ4_append_bf812_2 uJ4_53 hct hA0 hEA0 rfl rfl (by omega) (by omega) (by omega) rfl (Nat.le_of_ble_eq_true rfl) ?_
  refine wp_pop dJ4_append_bf812_5 rfl ?_
  refine wp_ald0 dJ4_append_bf812_6 ?_
  exact wp_aret dJ4_append_bf812_7 rfl (Or.inl ⟨_, rfl⟩) (Or.inr ⟨_, rfl⟩) (by omega) (by omega) rfl rfl
theorem sx_length {G : GG} {M : Mem} {d : Nat} {A b m : Nat} {t : List Nat} (h : SB G A b m t M) (hdp : 1 ≤ d) : Ct G d yJ4_length_8abf5 iJ4_length_8abf5 [.ref A] M 0 0 (some (.int (nI t.length))) M := by
  obtain ⟨f, ml, ⟨⟨hA, hb⟩, -⟩, hEA, -⟩ := h
  have h0 : Ct G (d - 1) yJ5_length_8abf5 iJ5_length_8abf5 [.ref A] M 0 0 (some (.int (nI t.length))) M := by
    refine Ct.of 0 (by decide) rfl (by decide) (Nat.le_of_ble_eq_true rfl) ?_
    show WP _ _ _ _ _ _ _ 0 [some (.ref A)] [] _ 0 0
    refine wp_ald0 dJ5_length_8abf5_0 ?_
    refine wp_get dJ5_length_8abf5_1 fJ5_79 hA hEA rfl ?_
    exact wp_iret dJ5_length_8abf5_4 rfl (Nat.le_refl _) (Nat.le_refl _) rfl rfl
  refine Ct.of 0 (by decide) rfl (by decide) (Nat.le_of_ble_eq_true rfl) ?_
  show WP _ _ _ _ _ _ _ 0 [some (.ref A)] [] _ 0 0
  refine wp_ald0 dJ4_length_8abf5_0 ?_
  refine wp_callP (As := []) dJ4_length_8abf5_1 uJ4_343 h0 hA hEA rfl rfl (by omega) (Nat.le_refl _) (Nat.le_refl _) rfl (Nat.le_of_ble_eq_true rfl) ?_
  exact wp_iret dJ4_length_8abf5_4 rfl (Nat.le_refl _) (Nat.le_refl _) rfl rfl
theorem sx_charAt {G : GG} {M : Mem} {d : Nat} {A b m i : Nat} {t : List Nat} {fm : Value} (hG : GOK G) (hN : GNS G fm) (h : SB G A b m t M) (hi : i < t.length) (hdp : 3 ≤ d) : Ct G d yJ4_charAt_5068e iJ4_charAt_5068e [.ref A, .int (nI i)] M 0 0 (some (.int (nI (t.getD i 0)))) M := by
  obtain ⟨f, ml, ⟨⟨hA, hb⟩, -⟩, hEA, hEb, ⟨hnm, hm⟩, hf, hfi, hc⟩ := h
  have h0 : Ct G (d - 1) yJ5_charAt_5068e iJ5_charAt_5068e [.ref A, .int (nI i)] M 0 0 (some (.int (nI (t.getD i 0)))) M := by
    refine Ct.of 3 (by decide) rfl (by decide) (Nat.le_of_ble_eq_true rfl) ?_
    show WP _ _ _ _ _ _ _ 0 [some (.ref A), some (.int (nI i)), none, none, none] [] _ 0 0
    refine wp_ald0 dJ5_charAt_5068e_0 ?_
    refine wp_get dJ5_charAt_5068e_1 fJ5_22 hA hEA rfl ?_
    refine wp_ist2 dJ5_charAt_5068e_4 (by decide) rfl ?_
    refine wp_ald0 dJ5_charAt_5068e_5 ?_
    refine wp_get dJ5_charAt_5068e_6 fJ5_15 hA hEA rfl ?_
    refine wp_ast3 dJ5_charAt_5068e_9 (by decide) rfl ?_
    refine wp_ald0 dJ5_charAt_5068e_10 ?_
    refine wp_get dJ5_charAt_5068e_11 fJ5_79 hA hEA rfl ?_
    refine wp_ald3 dJ5_charAt_5068e_14 ?_
    refine wp_alen dJ5_charAt_5068e_15 hG.2.1 hb hEb (v := nI m) rfl ?_
    refine wp_ild2 dJ5_charAt_5068e_16 ?_
    refine wp_ishr dJ5_charAt_5068e_17 ?_
    rw [sb_shr0]
    refine wp_min dJ5_charAt_5068e_18 kJ5_138 (by omega) (Nat.le_of_ble_eq_true rfl) (Nat.le_refl _) (Nat.le_refl _) ?_
    rw [if_neg (nI_nlt (by omega) (by omega))]
    refine wp_ist4 dJ5_charAt_5068e_21 (by decide) rfl ?_
    refine wp_ild1 dJ5_charAt_5068e_23 ?_
    refine wp_ild4 dJ5_charAt_5068e_24 ?_
    refine cv_2 dJ5_charAt_5068e_26 kJ5_144 (js_check (d := d - 1 - 1) hN hi (by omega) (by omega)) (by omega) (Nat.le_of_ble_eq_true rfl) (Nat.le_refl _) (Nat.le_refl _) ?_
    refine wp_ild2 dJ5_charAt_5068e_29 ?_
    refine wp_if_ne (tgt := 42) dJ5_charAt_5068e_30 (by decide) (fun h => absurd rfl h) (fun _ => ?_)
    refine wp_ald3 dJ5_charAt_5068e_33 ?_
    refine wp_ild1 dJ5_charAt_5068e_34 ?_
    refine wp_bald (v := nI (t.getD i 0)) dJ5_charAt_5068e_35 hG.2.1 hb hEb (nI_in (by omega) (by omega)) (by rw [nI_clamp (by omega)]; exact hfi i hi) ?_
    refine wp_sipush (v := 255) dJ5_charAt_5068e_36 (by decide) ?_
    refine wp_iand dJ5_charAt_5068e_39 ?_
    refine wp_i2c dJ5_charAt_5068e_40 ?_
    rw [chr_ok _ (getD_lt hc i)]
    exact wp_zret dJ5_charAt_5068e_41 rfl (chr_nar (getD_lt hc i)) (Nat.le_refl _) (Nat.le_refl _) rfl rfl
  refine Ct.of 0 (by decide) rfl (by decide) (Nat.le_of_ble_eq_true rfl) ?_
  show WP _ _ _ _ _ _ _ 0 [some (.ref A), some (.int (nI i))] [] _ 0 0
  refine wp_ald0 dJ4_charAt_5068e_0 ?_
  refine wp_ild1 dJ4_charAt_5068e_1 ?_
  refine wp_callP (As := [.int (nI i)]) dJ4_charAt_5068e_2 uJ4_329 h0 hA hEA rfl rfl (by omega) (Nat.le_refl _) (Nat.le_refl _) rfl (Nat.le_of_ble_eq_true rfl) ?_
  exact wp_zret dJ4_charAt_5068e_5 rfl (chr_nar (getD_lt hc i)) (Nat.le_refl _) (Nat.le_refl _) rfl rfl
theorem sx_setLen {G : GG} {M : Mem} {d : Nat} {A b m : Nat} {t : List Nat} {fm : Value} (hG : GOK G) (h : SB G A b m t M) (hdp : 5 ≤ d) : ∃ M1 b1 m1, Ct G d yJ4_setLength_d00df iJ4_setLength_d00df [.ref A, .int 0] M (m1 - m) (2 * (m1 - m)) none M1 ∧ SB G A b1 m1 [] M1 ∧ Sx A M b m M1 b1 m1 := by
  have h0 := h
  obtain ⟨f0, ml0, ⟨⟨hA0, hb0⟩, -⟩, hEA0, -⟩ := h0
  obtain ⟨M1, b1, m1, hct, h1, hx, -⟩ := sx_ens (d := d - 2) (q := 0) hG h (by omega) (by omega)
  obtain ⟨f, ml, hmem, hEA, hEb, ⟨hnm, hm⟩, hf, hfi, hc⟩ := h1
  have key : ∃ ml', Ct G (d - 1) yJ5_setLength_d00df iJ5_setLength_d00df [.ref A, .int 0] M (m1 - m) (2 * (m1 - m)) none (ups M1 A (.inr (0, [.ref b1, .int 0, .int ml', .int 0]))) := by
    by_cases ht : t.length = 0
    · refine ⟨ml, ?_⟩
      refine Ct.of 0 (by decide) rfl (by decide) (Nat.le_of_ble_eq_true rfl) ?_
      show WP _ _ _ _ _ _ _ 0 [some (.ref A), some (.int 0)] [] _ 0 0
      refine wp_ild1 dJ5_setLength_d00df_0 ?_
      refine wp_if_ge (tgt := 13) dJ5_setLength_d00df_1 (by decide) (fun _ => ?_) (fun h => absurd (by decide) h)
      refine wp_ald0 dJ5_setLength_d00df_13 ?_
      refine wp_ild1 dJ5_setLength_d00df_14 ?_
      refine wp_callU (As := [.int 0]) dJ5_setLength_d00df_15 uJ5_100 hct hA0 hEA0 rfl rfl (by omega) (by omega) (by omega) rfl (Nat.le_of_ble_eq_true rfl) ?_
      refine wp_ald0 dJ5_setLength_d00df_18 ?_
      refine wp_get dJ5_setLength_d00df_19 fJ5_79 hmem.1.1 hEA rfl ?_
      refine wp_ild1 dJ5_setLength_d00df_22 ?_
      refine wp_icmp_ge (tgt := 63) dJ5_setLength_d00df_23 (by decide) (fun _ => ?_) (fun h => absurd (nI_pos' (by omega)) h)
      refine wp_ald0 dJ5_setLength_d00df_63 ?_
      refine wp_get dJ5_setLength_d00df_64 fJ5_79 hmem.1.1 hEA rfl ?_
      refine wp_ild1 dJ5_setLength_d00df_67 ?_
      refine wp_icmp_le (tgt := 76) dJ5_setLength_d00df_68 (by decide) (fun _ => ?_) (fun h => absurd (by rw [ht]; decide) h)
      refine wp_ald0 dJ5_setLength_d00df_76 ?_
      refine wp_ild1 dJ5_setLength_d00df_77 ?_
      refine wp_put dJ5_setLength_d00df_78 pJ5_79 hmem.1.1 hEA (by show 3 < 4; decide) rfl rfl ?_
      exact wp_vret dJ5_setLength_d00df_81 rfl (by omega) (by omega) rfl rfl
    · refine ⟨1, ?_⟩
      refine Ct.of 0 (by decide) rfl (by decide) (Nat.le_of_ble_eq_true rfl) ?_
      show WP _ _ _ _ _ _ _ 0 [some (.ref A), some (.int 0)] [] _ 0 0
      refine wp_ild1 dJ5_setLength_d00df_0 ?_
      refine wp_if_ge (tgt := 13) dJ5_setLength_d00df_1 (by decide) (fun _ => ?_) (fun h => absurd (by decide) h)
      refine wp_ald0 dJ5_setLength_d00df_13 ?_
      refine wp_ild1 dJ5_setLength_d00df_14 ?_
      refine wp_callU (As := [.int 0]) dJ5_setLength_d00df_15 uJ5_100 hct hA0 hEA0 rfl rfl (by omega) (by omega) (by omega) rfl (Nat.le_of_ble_eq_true rfl) ?_
      refine wp_ald0 dJ5_setLength_d00df_18 ?_
      refine wp_get dJ5_setLength_d00df_19 fJ5_79 hmem.1.1 hEA rfl ?_
      refine wp_ild1 dJ5_setLength_d00df_22 ?_
      refine wp_icmp_ge (tgt := 63) dJ5_setLength_d00df_23 (by decide) (fun _ => ?_) (fun h => absurd (nI_pos' (by omega)) h)
      refine wp_ald0 dJ5_setLength_d00df_63 ?_
      refine wp_get dJ5_setLength_d00df_64 fJ5_79 hmem.1.1 hEA rfl ?_
      refine wp_ild1 dJ5_setLength_d00df_67 ?_
      refine wp_icmp_le (tgt := 76) dJ5_setLength_d00df_68 (by decide) (fun h => absurd ((nI_leI (b := 0) (by omega) (by decide)).mp h) (by omega)) (fun _ => ?_)
      refine wp_ald0 dJ5_setLength_d00df_71 ?_
      refine wp_iconst (v := 1) dJ5_setLength_d00df_72 (by decide) ?_
      refine wp_put dJ5_setLength_d00df_73 pJ5_73 hmem.1.1 hEA (by show 2 < 4; decide) rfl rfl ?_
      refine wp_ald0 dJ5_setLength_d00df_76 ?_
      refine wp_ild1 dJ5_setLength_d00df_77 ?_
      refine wp_put dJ5_setLength_d00df_78 pJ5_79 hmem.1.1 vu_eq (by show 3 < 4; decide) rfl rfl ?_
      exact wp_vret dJ5_setLength_d00df_81 rfl (by omega) (by omega) rfl ups_twice
  obtain ⟨ml', hk⟩ := key
  refine ⟨ups M1 A (.inr (0, [.ref b1, .int 0, .int ml', .int 0])), b1, m1, ?_, ⟨f, ml', hmem, vu_eq, (vu_ne (fun q => hmem.2.1 q.symm)).trans hEb, ⟨Nat.zero_le _, hm⟩, hf, fun i hi => absurd hi (Nat.not_lt_zero _), fun c hcc => by simp at hcc⟩, hx.tr ⟨⟨fun _ h => h, Nat.le_refl _, fun a h1 h2 h3 => vu_ne h2⟩, Or.inl rfl, Nat.le_refl _⟩⟩
  refine Ct.of 0 (by decide) rfl (by decide) (Nat.le_of_ble_eq_true rfl) ?_
  show WP _ _ _ _ _ _ _ 0 [some (.ref A), some (.int 0)] [] _ 0 0
  refine wp_ald0 dJ4_setLength_d00df_0 ?_
  refine wp_ild1 dJ4_setLength_d00df_1 ?_
  refine wp_callP (As := [.int 0]) dJ4_setLength_d00df_2 uJ4_333 hk hA0 hEA0 rfl rfl (by omega) (by omega) (by omega) rfl (Nat.le_of_ble_eq_true rfl) ?_
  exact wp_vret dJ4_setLength_d00df_5 rfl (by omega) (by omega) rfl rfl
theorem sx_init {G : GG} {M : Mem} {d : Nat} {A : Nat} {fm : Value} (hG : GOK G) (hN : GNS G fm) (hA : A ∈ M.1) (hAl : A < M.2.2) (hE : M.2.1 A = .inr (0, [.null, .int 0, .int 0, .int 0])) (hdp : 2 ≤ d) : Ct G d yJ4_init_da8c8 iJ4_init_da8c8 [.ref A] M 1 16 none (ups (pushM M (.inl (cyB G, 16, .inl (fun _ => 0)))) A (.inr (0, [.ref M.2.2, .int 0, .int 0, .int 0]))) := by
  have h0 : Ct G (d - 1) yJ5_init_d00df iJ5_init_d00df [.ref A, .int 16] M 1 16 none (ups (pushM M (.inl (cyB G, 16, .inl (fun _ => 0)))) A (.inr (0, [.ref M.2.2, .int 0, .int 0, .int 0]))) := by
    have hEp : (pushM M (.inl (cyB G, 16, .inl (fun _ => 0)))).2.1 A = .inr (0, [.null, .int 0, .int 0, .int 0]) := (vu_ne (by omega)).trans hE
    have hAp : A ∈ (pushM M (.inl (cyB G, 16, .inl (fun _ => 0)))).1 := List.mem_append_left _ hA
    refine Ct.of 0 (by decide) rfl (by decide) (Nat.le_of_ble_eq_true rfl) ?_
    show WP _ _ _ _ _ _ _ 0 [some (.ref A), some (.int 16)] [] _ 0 0
    refine wp_ald0 dJ5_init_d00df_0 ?_
    refine wp_objInit dJ5_init_d00df_1 kJ5_3 mw_oi1 mw_oi2 (by omega) (Nat.le_of_ble_eq_true rfl) ?_
    refine wp_gets dJ5_init_d00df_4 hN.1 sJ5_18 ?_
    refine wp_if_eq (tgt := 25) dJ5_init_d00df_7 (by decide) (fun h => absurd h (by decide)) (fun _ => ?_)
    refine wp_ald0 dJ5_init_d00df_10 ?_
    refine wp_ild1 dJ5_init_d00df_11 ?_
    refine wp_newa (atype := .byte) (N := 16) dJ5_init_d00df_12 (Or.inr rfl) mw_aB hG.2.1 (by decide) (by decide) (by decide) (by decide) (by decide) ?_
    refine wp_put dJ5_init_d00df_14 pJ5_15 hAp hEp (by show 0 < 4; decide) rfl rfl ?_
    refine wp_ald0 dJ5_init_d00df_17 ?_
    refine wp_iconst (v := 0) dJ5_init_d00df_18 (by decide) ?_
    refine wp_put dJ5_init_d00df_19 pJ5_22 hAp vu_eq (by show 1 < 4; decide) rfl rfl ?_
    refine wp_goto (tgt := 38) dJ5_init_d00df_22 (by decide) ?_
    exact wp_vret dJ5_init_d00df_38 rfl (Nat.le_refl _) (Nat.le_refl _) rfl ups_twice
  refine Ct.of 0 (by decide) rfl (by decide) (Nat.le_of_ble_eq_true rfl) ?_
  show WP _ _ _ _ _ _ _ 0 [some (.ref A)] [] _ 0 0
  refine wp_ald0 dJ4_init_da8c8_0 ?_
  refine wp_bipush (v := 16) dJ4_init_da8c8_1 (by decide) ?_
  refine wp_callI (As := [.int 16]) dJ4_init_da8c8_3 kJ4_1 h0 rfl (by omega) (Nat.le_refl _) (Nat.le_refl _) rfl (Nat.le_of_ble_eq_true rfl) ?_
  exact wp_vret dJ4_init_da8c8_6 rfl (Nat.le_refl _) (Nat.le_refl _) rfl rfl
