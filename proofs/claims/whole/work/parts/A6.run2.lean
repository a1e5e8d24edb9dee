/-! a text that is run -/
theorem CR.sm {S S' : Nat → Nat → Int32} {F F' : Nat → Int32} {n r : Nat} (h : CR S F n r) (h1 : S' 1 = S 1) (h3 : S' 3 = S 3) (hF : ∀ k, k < 482 → F' k = F k) : CR S' F' n r := by
  obtain ⟨a, b, c, ⟨d1, d2⟩, e⟩ := h
  unfold CR
  rw [h1, h3]
  refine ⟨a.lo (fun k hk => hF k (by omega)), b.lo (fun k hk => hF k (by omega)), ?_, ⟨?_, fun i hi => ?_⟩, fun i hi => ?_⟩
  · obtain ⟨m, m1, m2⟩ := c
    exact ⟨m, m1, (hF 241 (by omega)).trans m2⟩
  · rw [hF 241 (by omega)]; exact d1
  · obtain ⟨m, m1, m2⟩ := c
    rw [hF 241 (by omega)] at hi
    have hi' : i < m := by rw [m2, ntn (by omega)] at hi; exact hi
    rw [hF (242 + 4 * i) (by omega), hF (242 + 4 * i + 1) (by omega), hF (242 + 4 * i + 2) (by omega), hF (242 + 4 * i + 3) (by omega)]
    exact d2 i hi
  · obtain ⟨m, m1, m2⟩ := c
    rw [hF 241 (by omega)] at hi
    have hi' : i < m := by rw [m2, ntn (by omega)] at hi; exact hi
    rw [hF (242 + 4 * i) (by omega)]
    exact e i hi
theorem CR.mo {S : Nat → Nat → Int32} {F : Nat → Int32} {n r n' r' : Nat} (h : CR S F n r) (h1 : n ≤ n') (h2 : r ≤ r') (h3 : n' ≤ 100000) (h4 : r' ≤ 100000000) : CR S F n' r' := ⟨h.1, h.2.1.mono h1 h2 h3 h4, h.2.2⟩
theorem run_eq {F : Nat → Int32} {tx : Nat → Int32} {Ln : Nat} (ht : TOK F tx Ln) (h : TS F) (hr : OKr F) : runM F tx Ln = if ftR tx Ln 200 0 0 = -8 then rnA (itL tx Ln 200 0) (faultM F tx Ln).2 0 else (-7, (faultM F tx Ln).2) := by
  obtain ⟨g1, g2, g3, g4⟩ := fault_all ht
  unfold runM
  rw [g2, ntn (by omega)]
  show (if ftR tx Ln 200 0 0 = -8 then _ else _) = _
  rw [rnL_A (itL tx Ln 200 0) 0 _ 0 (h.sm g1) (hr.sm g1) (fun q x hx => by rw [Nat.zero_add]; exact g4 q x hx)]
set_option maxHeartbeats 2000000 in
theorem cX_run {G : GG} {X : Nat} {S : Nat → Nat → Int32} {E : Nat → va_E} {L : List Nat} {sz d : Nat} {tx : Nat → Int32} {Ln : Nat} {fm : Value} {fa : Nat → Nat} {F : Nat → Int32} {q r : Nat} (hG : GOK G) (hX : XIn X L) (hN : GNS G fm) (hf : GFm G fa) (ht : POK (S 4) tx Ln) (ha : OKa (S 4)) (hT : TOK F tx Ln) (hC : CR S F q r) (hq : q + 100 ≤ 100000) (hr : r + 20000 ≤ 100000000) (hdp : 7 ≤ d) : ∃ S', (POK (S' 4) tx Ln ∧ OKa (S' 4) ∧ TOK (runM F tx Ln).2 tx Ln ∧ CR S' (runM F tx Ln).2 (q + 100) (r + 20000) ∧ (∀ k, k ≠ 1 → k ≠ 3 → k ≠ 4 → S' k = S k) ∧ (∀ k, (1482 ≤ k ∧ k < 6000) ∨ k = 9000 → (runM F tx Ln).2 k = F k)) ∧ Ct G d yX11_run iX11_run [.ref X] (Xm G X S E L sz) 0 0 (some (.int (runM F tx Ln).1)) (Xm G X S' E L sz) := by
  rw [run_eq hT hC.2.1.2.1 hC.2.2.1]
  obtain ⟨g1, g2, g3, g4⟩ := fault_all hT
  have e4 : updS S 4 (fiL tx Ln 200 0 0 (S 4)).2 4 = (fiL tx Ln 200 0 0 (S 4)).2 := updS_eq
  have t1 : POK (updS S 4 (fiL tx Ln 200 0 0 (S 4)).2 4) tx Ln := by rw [e4]; exact (fiL_ok 200 0 0 _).t ht
  have a1 : OKa (updS S 4 (fiL tx Ln 200 0 0 (S 4)).2 4) := by rw [e4]; exact fiL_a 200 0 0 _ ha
  have T1 : TOK (faultM F tx Ln).2 tx Ln := ⟨(g1 9001 (by omega)).trans hT.1, hT.2.1, fun k hk => (g1 (5000 + k) (by omega)).trans (hT.2.2 k hk)⟩
  have C1 : CR (updS S 4 (fiL tx Ln 200 0 0 (S 4)).2) (faultM F tx Ln).2 q r := hC.sm (updS_ne (by decide)) (updS_ne (by decide)) (fun k hk => g1 k (by omega))
  have ef : (fiL tx Ln 200 0 0 (S 4)).1 = ftR tx Ln 200 0 0 := fi_ft 200 0 0 (S 4) (Nat.zero_le _)
  have hdp' := hdp
  by_cases z : ftR tx Ln 200 0 0 = -8
  · rw [if_pos z]
    obtain ⟨S', ⟨f1, f2, f3, f4, f5, f6⟩, kw⟩ := lx_run (E := E) (sz := sz) hG hX hN hf hdp 200 0 0 0 (updS S 4 (fiL tx Ln 200 0 0 (S 4)).2) 0 (faultM F tx Ln).2 q r rfl (Nat.zero_le _) z (Nat.le_refl _) t1 a1 T1 C1 (by omega) (by omega)
    have hz : (fiL tx Ln 200 0 0 (S 4)).1 = -8 := ef.trans z
    refine ⟨S', ⟨f1, f2, f3, f4.mo (by omega) (by omega) hq hr, fun k k1 k3 k4 => (f5 k k1 k3 k4).trans (updS_ne k4), fun k hk => (f6.2.2 k (by omega)).trans (g1 k (by omega))⟩, ?_⟩
    refine Ct.of 5 (by decide) rfl (by decide) (Nat.le_of_ble_eq_true rfl) ?_
    show WP _ _ _ _ _ _ _ 0 [some (.ref X), none, none, none, none, none] [] _ 0 0
    refine wp_ald0 dX11_run_0 ?_
    refine gX_script dX11_run_1 fX11_29 hX ?_
    refine xPi_0 dX11_run_4 kX11_242 (xp_faulty (d := d - 1) hG hX hN hf ht (by omega)) hX rfl (by omega) (Nat.le_of_ble_eq_true rfl) (Nat.le_refl _) (Nat.le_refl _) ?_
    refine wp_bipush (v := (-8)) dX11_run_7 (by decide) ?_
    refine wp_icmp_eq (tgt := 15) dX11_run_9 (by decide) (fun c_9 => ?_) (fun c_9 => absurd hz c_9)
    refine wp_iconst (v := 0) dX11_run_15 (by decide) ?_
    refine wp_ist1 dX11_run_16 (by decide) rfl ?_
    refine wp_iconst (v := 0) dX11_run_17 (by decide) ?_
    refine wp_ist2 dX11_run_18 (by decide) rfl ?_
    refine wp_iconst (v := 0) dX11_run_19 (by decide) ?_
    refine wp_ist3 dX11_run_20 (by decide) rfl ?_
    exact WP.fg (by simp [lcle, nI_0]) kw
  · rw [if_neg z]
    have hz : ¬ (fiL tx Ln 200 0 0 (S 4)).1 = -8 := fun y => z (ef.symm.trans y)
    refine ⟨updS S 4 (fiL tx Ln 200 0 0 (S 4)).2, ⟨t1, a1, T1, C1.mo (by omega) (by omega) hq hr, fun k k1 k3 k4 => updS_ne k4, fun k hk => g1 k (by omega)⟩, ?_⟩
    refine Ct.of 5 (by decide) rfl (by decide) (Nat.le_of_ble_eq_true rfl) ?_
    show WP _ _ _ _ _ _ _ 0 [some (.ref X), none, none, none, none, none] [] _ 0 0
    refine wp_ald0 dX11_run_0 ?_
    refine gX_script dX11_run_1 fX11_29 hX ?_
    refine xPi_0 dX11_run_4 kX11_242 (xp_faulty (d := d - 1) hG hX hN hf ht (by omega)) hX rfl (by omega) (Nat.le_of_ble_eq_true rfl) (Nat.le_refl _) (Nat.le_refl _) ?_
    refine wp_bipush (v := (-8)) dX11_run_7 (by decide) ?_
    refine wp_icmp_eq (tgt := 15) dX11_run_9 (by decide) (fun c_9 => absurd c_9 hz) (fun c_9 => ?_)
    refine wp_bipush (v := (-7)) dX11_run_12 (by decide) ?_
    exact wp_iret dX11_run_14 rfl (Nat.le_refl _) (Nat.le_refl _) (by rfl) (by rfl)
