/-! StringBuilder: its text grows -/
def GDg (G : GG) : Prop := ∃ ao at_, (("java/lang/Integer", "DigitOnes", "[B", Value.ref ao) ∈ gZ G ∧ (FieldType.byte, ao, 100, fun j => Value.int (nI (48 + j % 10))) ∈ gS G) ∧ (("java/lang/Integer", "DigitTens", "[B", Value.ref at_) ∈ gZ G ∧ (FieldType.byte, at_, 100, fun j => Value.int (nI (48 + j / 10))) ∈ gS G)
theorem sx_isLatin1 {G : GG} {M : Mem} {d : Nat} {A b m : Nat} {t : List Nat} {fm : Value} (hN : GNS G fm) (h : SB G A b m t M) : Ct G d yJ5_isLatin1_aae02 iJ5_isLatin1_aae02 [.ref A] M 0 0 (some (.int 1)) M := by
  obtain ⟨f, ml, ⟨⟨hA, hb⟩, -⟩, hEA, -⟩ := h
  refine Ct.of 0 (by decide) rfl (by decide) (Nat.le_of_ble_eq_true rfl) ?_
  show WP _ _ _ _ _ _ _ 0 [some (.ref A)] [] _ 0 0
  refine wp_gets dJ5_isLatin1_aae02_0 hN.1 sJ5_18 ?_
  refine wp_if_eq (tgt := 17) dJ5_isLatin1_aae02_3 (by decide) (fun h => absurd h (by decide)) (fun _ => ?_)
  refine wp_ald0 dJ5_isLatin1_aae02_6 ?_
  refine wp_get dJ5_isLatin1_aae02_7 fJ5_22 hA hEA rfl ?_
  refine wp_if_ne (tgt := 17) dJ5_isLatin1_aae02_10 (by decide) (fun h => absurd rfl h) (fun _ => ?_)
  refine wp_iconst (v := 1) dJ5_isLatin1_aae02_13 (by decide) ?_
  refine wp_goto (tgt := 18) dJ5_isLatin1_aae02_14 (by decide) ?_
  exact wp_zret dJ5_isLatin1_aae02_18 rfl rfl (Nat.le_refl _) (Nat.le_refl _) rfl rfl
theorem sx_inflIf {G : GG} {M : Mem} {d : Nat} {A b m a : Nat} {t l : List Nat} {fm : Value} (hN : GNS G fm) (h : SB G A b m t M) (hs : StrOK G a l) (hdp : 1 ≤ d) : Ct G d yJ5_inflateIfNeededFor_a7421 iJ5_inflateIfNeededFor_a7421 [.ref A, .ref a] M 0 0 none M := by
  obtain ⟨f, ml, ⟨⟨hA, hb⟩, -⟩, hEA, -⟩ := h
  refine Ct.of 0 (by decide) rfl (by decide) (Nat.le_of_ble_eq_true rfl) ?_
  show WP _ _ _ _ _ _ _ 0 [some (.ref A), some (.ref a)] [] _ 0 0
  refine wp_gets dJ5_inflateIfNeededFor_a7421_0 hN.1 sJ5_18 ?_
  refine wp_if_eq (tgt := 21) dJ5_inflateIfNeededFor_a7421_3 (by decide) (fun h => absurd h (by decide)) (fun _ => ?_)
  refine wp_ald0 dJ5_inflateIfNeededFor_a7421_6 ?_
  refine wp_get dJ5_inflateIfNeededFor_a7421_7 fJ5_22 hA hEA rfl ?_
  refine wp_ald1 dJ5_inflateIfNeededFor_a7421_10 ?_
  refine oi_0 dJ5_inflateIfNeededFor_a7421_11 kJ5_40 (js_coder (d := d - 1) hN hs) hs.1 (by omega) (Nat.le_of_ble_eq_true rfl) (Nat.le_refl _) (Nat.le_refl _) ?_
  refine wp_icmp_eq (tgt := 21) dJ5_inflateIfNeededFor_a7421_14 (by decide) (fun _ => ?_) (fun h => absurd rfl h)
  exact wp_vret dJ5_inflateIfNeededFor_a7421_21 rfl (Nat.le_refl _) (Nat.le_refl _) rfl rfl
theorem sx_getBytes {G : GG} {M : Mem} {d : Nat} {b m a n : Nat} {l : List Nat} {f : Nat → Int32} {fm : Value} (hG : GOK G) (hN : GNS G fm) (hs : StrOK G a l) (hb : b ∈ M.1) (hEb : M.2.1 b = .inl (cyB G, m, .inl f)) (hm : m ≤ 700) (hnm : n + l.length ≤ m) (hdp : 1 ≤ d) : Ct G d yJ0_getBytes_840e7 iJ0_getBytes_840e7 [.ref a, .ref b, .int (nI n), .int 0] M 0 0 none (ups M b (.inl (cyB G, m, .inl (va_cpy (fun j => nI (l.getD j 0)) f 0 n l.length)))) := by
  have hs' := hs
  obtain ⟨hO, ⟨hl, hc⟩, b0, h3, -, h5⟩ := hs
  refine Ct.of 0 (by decide) rfl (by decide) (Nat.le_of_ble_eq_true rfl) ?_
  show WP _ _ _ _ _ _ _ 0 [some (.ref a), some (.ref b), some (.int (nI n)), some (.int 0)] [] _ 0 0
  refine wp_ald0 dJ0_getBytes_840e7_0 ?_
  refine oi_0 dJ0_getBytes_840e7_1 kJ0_335 (js_coder (d := d - 1) hN hs') hO (by omega) (Nat.le_of_ble_eq_true rfl) (Nat.le_refl _) (Nat.le_refl _) ?_
  refine wp_ild3 dJ0_getBytes_840e7_4 ?_
  refine wp_icmp_ne (tgt := 28) dJ0_getBytes_840e7_5 (by decide) (fun h => absurd rfl h) (fun _ => ?_)
  refine wp_ald0 dJ0_getBytes_840e7_8 ?_
  refine wp_getO dJ0_getBytes_840e7_9 h3 gJ0_9 ?_
  refine wp_iconst (v := 0) dJ0_getBytes_840e7_12 (by decide) ?_
  refine wp_ald1 dJ0_getBytes_840e7_13 ?_
  refine wp_ild2 dJ0_getBytes_840e7_14 ?_
  refine wp_ild3 dJ0_getBytes_840e7_15 ?_
  refine wp_ishl dJ0_getBytes_840e7_16 ?_
  rw [sb_shl0]
  refine wp_ald0 dJ0_getBytes_840e7_17 ?_
  refine wp_getO dJ0_getBytes_840e7_18 h3 gJ0_9 ?_
  refine wp_tlen dJ0_getBytes_840e7_21 h5 rfl ?_
  refine wp_copy (t := 1) (c1 := cyB G) (n0 := l.length) (n1 := m) (f := fun j => nI (l.getD j 0)) (z := nI l.length) dJ0_getBytes_840e7_22 kJ0_212 mw_ac1 mw_ac2 mw_ac3 hG.2.1 rfl (Or.inr h5) hb hEb (by decide) (nI_pos (by omega)) (nI_pos (by omega)) (by rw [nI_clamp (by omega)]; show 0 + _ ≤ _; omega) (by rw [nI_clamp (by omega), nI_clamp (by omega)]; exact hnm) (fun i _ => byte_fit _ (getD_lt hc _)) hdp (Nat.le_of_ble_eq_true rfl) ?_
  rw [nI_clamp (show l.length < 2 ^ 31 by omega), nI_clamp (show n < 2 ^ 31 by omega)]
  refine wp_goto (tgt := 43) dJ0_getBytes_840e7_25 (by decide) ?_
  exact wp_vret dJ0_getBytes_840e7_43 rfl (Nat.le_refl _) (Nat.le_refl _) rfl rfl
theorem cpy_at {f g : Nat → Int32} {n w j : Nat} : va_cpy f g 0 n w j = if n ≤ j ∧ j < n + w then f (j - n) else g j := by
  unfold va_cpy
  by_cases h : n ≤ j ∧ j < n + w
  · rw [if_pos h, if_pos (by omega)]; congr 1; omega
  · rw [if_neg h, if_neg (by omega)]
theorem getD_app {t l : List Nat} {i : Nat} : (t ++ l).getD i 0 = if i < t.length then t.getD i 0 else l.getD (i - t.length) 0 := by
  simp only [List.getD_eq_getElem?_getD]
  by_cases h : i < t.length
  · rw [if_pos h, List.getElem?_append_left h]
  · rw [if_neg h, List.getElem?_append_right (by omega)]
/-- the text written behind, and counted -/
theorem SB.put {G : GG} {A b m : Nat} {t l : List Nat} {M : Mem} {f g : Nat → Int32} {ml : Int32} (hb : (A ∈ M.1 ∧ b ∈ M.1) ∧ (A ≠ b ∧ A < M.2.2 ∧ b < M.2.2)) (hm : t.length + l.length ≤ m ∧ m ≤ 700) (hf : sb_Fit g) (hfi : ∀ i, i < t.length → f i = nI (t.getD i 0)) (hg : ∀ i, i < t.length → g i = f i) (hg2 : ∀ i, i < l.length → g (t.length + i) = nI (l.getD i 0)) (hc : ∀ c, c ∈ t → c < 128) (hcl : ∀ c, c ∈ l → c < 128) : SB G A b m (t ++ l) (ups (ups M b (.inl (cyB G, m, .inl g))) A (.inr (0, [.ref b, .int 0, .int ml, .int (nI (t.length + l.length))]))) := by
  refine ⟨g, ml, hb, ?_, ?_, ?_, hf, fun i hi => ?_, fun c hcc => ?_⟩
  · rw [List.length_append]; exact vu_eq
  · show va_up (va_up M.2.1 b _) A _ b = _
    rw [vu_ne (fun q => hb.2.1 q.symm), vu_eq]
  · rw [List.length_append]; exact hm
  · rw [getD_app]
    rw [List.length_append] at hi
    by_cases h : i < t.length
    · rw [if_pos h, hg i h, hfi i h]
    · rw [if_neg h]
      have := hg2 (i - t.length) (by omega)
      rwa [show t.length + (i - t.length) = i by omega] at this
  · rcases List.mem_append.mp hcc with q | q
    · exact hc c q
    · exact hcl c q
theorem Sx.put {A b m : Nat} {M : Mem} {e e' : va_E} : Sx A M b m (ups (ups M b e) A e') b m := ⟨⟨fun _ h => h, Nat.le_refl _, fun a h1 h2 h3 => by
    show va_up (va_up M.2.1 b _) A _ a = _
    rw [vu_ne h2, vu_ne h3]⟩, Or.inl rfl, Nat.le_refl _⟩
theorem sx_putStr {G : GG} {M : Mem} {d : Nat} {A b m a : Nat} {t l : List Nat} {f : Nat → Int32} {ml : Int32} {fm : Value} (hG : GOK G) (hN : GNS G fm) (h : SB G A b m t M) (hs : StrOK G a l) (hEA : M.2.1 A = .inr (0, [.ref b, .int 0, .int ml, .int (nI t.length)])) (hEb : M.2.1 b = .inl (cyB G, m, .inl f)) (hnm : t.length + l.length ≤ m) (hdp : 2 ≤ d) : Ct G d yJ5_putStringAt_47b60 iJ5_putStringAt_47b60 [.ref A, .int (nI t.length), .ref a] M 0 0 none (ups M b (.inl (cyB G, m, .inl (va_cpy (fun j => nI (l.getD j 0)) f 0 t.length l.length)))) := by
  have h' := h
  obtain ⟨f', ml', ⟨⟨hA, hb⟩, -⟩, -, -, ⟨-, hm⟩, -⟩ := h
  refine Ct.of 0 (by decide) rfl (by decide) (Nat.le_of_ble_eq_true rfl) ?_
  show WP _ _ _ _ _ _ _ 0 [some (.ref A), some (.int (nI t.length)), some (.ref a)] [] _ 0 0
  refine wp_ald0 dJ5_putStringAt_47b60_0 ?_
  refine wp_ald2 dJ5_putStringAt_47b60_1 ?_
  refine wp_callU (As := [.ref a]) dJ5_putStringAt_47b60_2 uJ5_397 (sx_inflIf (d := d - 1) hN h' hs (by omega)) hA hEA rfl rfl (by omega) (Nat.le_refl _) (Nat.le_refl _) rfl (Nat.le_of_ble_eq_true rfl) ?_
  refine wp_ald2 dJ5_putStringAt_47b60_5 ?_
  refine wp_ald0 dJ5_putStringAt_47b60_6 ?_
  refine wp_get dJ5_putStringAt_47b60_7 fJ5_15 hA hEA rfl ?_
  refine wp_ild1 dJ5_putStringAt_47b60_10 ?_
  refine wp_ald0 dJ5_putStringAt_47b60_11 ?_
  refine wp_get dJ5_putStringAt_47b60_12 fJ5_22 hA hEA rfl ?_
  refine ov_3 dJ5_putStringAt_47b60_15 kJ5_399 (sx_getBytes (d := d - 1) hG hN hs hb hEb hm hnm (by omega)) hs.1 (by omega) (Nat.le_of_ble_eq_true rfl) (Nat.le_refl _) (Nat.le_refl _) ?_
  exact wp_vret dJ5_putStringAt_47b60_18 rfl (Nat.le_refl _) (Nat.le_refl _) rfl rfl
theorem sx_appS0 {G : GG} {M : Mem} {d : Nat} {A b m a : Nat} {t l : List Nat} {fm : Value} (hG : GOK G) (hN : GNS G fm) (h : SB G A b m t M) (hs : StrOK G a l) (hq : t.length + l.length ≤ 300) (hdp : 4 ≤ d) : ∃ M1 b1 m1, Ct G d yJ5_append_cf1ce iJ5_append_cf1ce [.ref A, .ref a] M (m1 - m) (2 * (m1 - m)) (some (.ref A)) M1 ∧ SB G A b1 m1 (t ++ l) M1 ∧ Sx A M b m M1 b1 m1 := by
  have h0 := h
  obtain ⟨f0, ml0, ⟨⟨hA0, hb0⟩, -⟩, hEA0, -⟩ := h0
  obtain ⟨M1, b1, m1, hct, h1, hx, hqm⟩ := sx_ens (d := d - 1) (q := t.length + l.length) hG h hq (by omega)
  have h1' := h1
  obtain ⟨f, ml, hmem, hEA, hEb, ⟨hnm, hm⟩, hf, hfi, hc⟩ := h1
  refine ⟨_, b1, m1, ?_, SB.put (f := f) (g := va_cpy (fun j => nI (l.getD j 0)) f 0 t.length l.length) (l := l) (ml := ml) hmem ⟨hqm, hm⟩ (fun j => ?_) hfi (fun i hi => ?_) (fun i hi => ?_) hc hs.2.1.2, hx.tr Sx.put⟩
  · refine Ct.of 1 (by decide) rfl (by decide) (Nat.le_of_ble_eq_true rfl) ?_
    show WP _ _ _ _ _ _ _ 0 [some (.ref A), some (.ref a), none] [] _ 0 0
    refine wp_ald1 dJ5_append_cf1ce_0 ?_
    refine wp_ifnonnull (tgt := 9) dJ5_append_cf1ce_1 (by decide) ?_
    refine wp_ald1 dJ5_append_cf1ce_9 ?_
    refine oi_0 dJ5_append_cf1ce_10 kJ5_32 (js_length (d := d - 1) hN hs (by omega)) hs.1 (by omega) (Nat.le_of_ble_eq_true rfl) (by omega) (by omega) ?_
    refine wp_ist2 dJ5_append_cf1ce_13 (by decide) rfl ?_
    refine wp_ald0 dJ5_append_cf1ce_14 ?_
    refine wp_ald0 dJ5_append_cf1ce_15 ?_
    refine wp_get dJ5_append_cf1ce_16 fJ5_79 hA0 hEA0 rfl ?_
    refine wp_ild2 dJ5_append_cf1ce_19 ?_
    refine wp_iaddN (a := t.length) (b := l.length) rfl rfl dJ5_append_cf1ce_20 ?_
    refine wp_callU (As := [.int (nI (t.length + l.length))]) dJ5_append_cf1ce_21 uJ5_100 hct hA0 hEA0 rfl rfl (by omega) (by omega) (by omega) rfl (Nat.le_of_ble_eq_true rfl) ?_
    refine wp_ald0 dJ5_append_cf1ce_24 ?_
    refine wp_ald0 dJ5_append_cf1ce_25 ?_
    refine wp_get dJ5_append_cf1ce_26 fJ5_79 hmem.1.1 hEA rfl ?_
    refine wp_ald1 dJ5_append_cf1ce_29 ?_
    refine wp_callU (As := [.int (nI t.length), .ref a]) dJ5_append_cf1ce_30 uJ5_208 (sx_putStr (d := d - 1) hG hN h1' hs hEA hEb hqm (by omega)) hmem.1.1 hEA rfl rfl (by omega) (by omega) (by omega) rfl (Nat.le_of_ble_eq_true rfl) ?_
    have hEA2 : (ups M1 b1 (.inl (cyB G, m1, .inl (va_cpy (fun j => nI (l.getD j 0)) f 0 t.length l.length)))).2.1 A = .inr (0, [.ref b1, .int 0, .int ml, .int (nI t.length)]) := (vu_ne hmem.2.1).trans hEA
    refine wp_ald0 dJ5_append_cf1ce_33 ?_
    refine wp_dup dJ5_append_cf1ce_34 rfl ?_
    refine wp_get dJ5_append_cf1ce_35 fJ5_79 hmem.1.1 hEA2 rfl ?_
    refine wp_ild2 dJ5_append_cf1ce_38 ?_
    refine wp_iaddN (a := t.length) (b := l.length) rfl rfl dJ5_append_cf1ce_39 ?_
    refine wp_put dJ5_append_cf1ce_40 pJ5_79 hmem.1.1 hEA2 (by show 3 < 4; decide) rfl rfl ?_
    refine wp_ald0 dJ5_append_cf1ce_43 ?_
    exact wp_aret dJ5_append_cf1ce_44 rfl (Or.inl ⟨_, rfl⟩) (Or.inr ⟨_, rfl⟩) (by omega) (by omega) rfl rfl
  · rw [cpy_at]
    split
    · exact byte_fit _ (getD_lt hs.2.1.2 _)
    · exact hf j
  · rw [cpy_at, if_neg (by omega)]
  · rw [cpy_at, if_pos (by omega)]; congr 2; omega
theorem sx_appS {G : GG} {M : Mem} {d : Nat} {A b m a : Nat} {t l : List Nat} {fm : Value} (hG : GOK G) (hN : GNS G fm) (h : SB G A b m t M) (hs : StrOK G a l) (hq : t.length + l.length ≤ 300) (hdp : 5 ≤ d) : ∃ M1 b1 m1, Ct G d yJ4_append_15ec4 iJ4_append_15ec4 [.ref A, .ref a] M (m1 - m) (2 * (m1 - m)) (some (.ref A)) M1 ∧ SB G A b1 m1 (t ++ l) M1 ∧ Sx A M b m M1 b1 m1 := by
  obtain ⟨M1, b1, m1, hct, h1, hx⟩ := sx_appS0 (d := d - 1) hG hN h hs hq (by omega)
  obtain ⟨f0, ml0, ⟨⟨hA0, hb0⟩, -⟩, hEA0, -⟩ := h
  refine ⟨M1, b1, m1, ?_, h1, hx⟩
  refine Ct.of 0 (by decide) rfl (by decide) (Nat.le_of_ble_eq_true rfl) ?_
  show WP _ _ _ _ _ _ _ 0 [some (.ref A), some (.ref a)] [] _ 0 0
  refine wp_ald0 dJ4_append_15ec4_0 ?_
  refine wp_ald1 dJ4_append_15ec4_1 ?_
  refine wp_callP (As := [.ref a]) dJ4_append_15ec4_2 uJ4_29 hct hA0 hEA0 rfl rfl (by omega) (by omega) (by omega) rfl (Nat.le_of_ble_eq_true rfl) ?_
  refine wp_pop dJ4_append_15ec4_5 rfl ?_
  refine wp_ald0 dJ4_append_15ec4_6 ?_
  exact wp_aret dJ4_append_15ec4_7 rfl (Or.inl ⟨_, rfl⟩) (Or.inr ⟨_, rfl⟩) (by omega) (by omega) rfl rfl
