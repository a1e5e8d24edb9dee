/-! replays with another value, and the best value -/
set_option maxHeartbeats 2000000 in
theorem cX_replayCost {G : GG} {X : Nat} {S : Nat → Nat → Int32} {E : Nat → va_E} {L : List Nat} {sz d : Nat} {F : Nat → Int32} {q r : Nat} {aL aG aF aP : Nat} (hZ : GSt G aL aG aF aP) {x v : Int32} (hG : GOK G) (hX : XIn X L) (hC : CR S F q r) (hdp : 7 ≤ d) : ∃ S', (∀ k, k ≠ 2 → S' k = S k) ∧ Ct G d yX11_replayCost iX11_replayCost [.ref X, .int x, .int v] (Xm G X S E L sz) 0 0 (some (.int (rcostM F x v).1)) (Xm G X S' E L sz) := by
  unfold rcostM
  by_cases hv : allP x v
  · obtain ⟨j, hj, rfl⟩ := isOb_nat (y := x) (all_val.mp hv).1
    rw [if_pos (all_val.mp hv), ntn (show j < 2 ^ 31 by omega)]
    obtain ⟨S', f1, hct⟩ := cX_costWith (E := E) (sz := sz) (d := d - 1) hZ hG hX hC hj hv (by omega)
    refine ⟨S', f1, ?_⟩
    refine Ct.of 0 (by decide) rfl (by decide) (Nat.le_of_ble_eq_true rfl) ?_
    show WP _ _ _ _ _ _ _ 0 [some (.ref X), some (.int (nI j)), some (.int v)] [] _ 0 0
    refine wp_ild1 dX11_replayCost_0 ?_
    refine wp_ild2 dX11_replayCost_1 ?_
    refine ci_2 dX11_replayCost_2 kX11_58 (ct_allows (d := d - 1) hZ (by omega)) (by omega) (Nat.le_of_ble_eq_true rfl) (Nat.le_refl _) (Nat.le_refl _) ?_
    refine wp_ifB_eq (tgt := 17) dX11_replayCost_5 (by decide) (fun c_5 => absurd hv c_5) (fun c_5 => ?_)
    refine wp_ald0 dX11_replayCost_8 ?_
    refine wp_ild1 dX11_replayCost_9 ?_
    refine wp_ild2 dX11_replayCost_10 ?_
    refine xXi_2 dX11_replayCost_11 kX11_211 hct hX rfl (by omega) (Nat.le_of_ble_eq_true rfl) (Nat.le_refl _) (Nat.le_refl _) ?_
    refine wp_goto (tgt := 19) dX11_replayCost_14 (by decide) ?_
    exact wp_iret dX11_replayCost_19 rfl (Nat.le_refl _) (Nat.le_refl _) (by rfl) (by rfl)
  · rw [if_neg (fun z => hv (all_val.mpr z))]
    refine ⟨S, fun _ _ => rfl, ?_⟩
    refine Ct.of 0 (by decide) rfl (by decide) (Nat.le_of_ble_eq_true rfl) ?_
    show WP _ _ _ _ _ _ _ 0 [some (.ref X), some (.int x), some (.int v)] [] _ 0 0
    refine wp_ild1 dX11_replayCost_0 ?_
    refine wp_ild2 dX11_replayCost_1 ?_
    refine ci_2 dX11_replayCost_2 kX11_58 (ct_allows (d := d - 1) hZ (by omega)) (by omega) (Nat.le_of_ble_eq_true rfl) (Nat.le_refl _) (Nat.le_refl _) ?_
    refine wp_ifB_eq (tgt := 17) dX11_replayCost_5 (by decide) (fun c_5 => ?_) (fun c_5 => absurd c_5 hv)
    refine wp_bipush (v := (-3)) dX11_replayCost_17 (by decide) ?_
    exact wp_iret dX11_replayCost_19 rfl (Nat.le_refl _) (Nat.le_refl _) (by rfl) (by rfl)
theorem lims : ∀ j, j < 8 → sLeast j = nI (nt (sLeast j)) ∧ sGreat j = nI (nt (sGreat j)) ∧ leaM (nI j) = sLeast j ∧ mosM (nI j) = sGreat j ∧ nt (sLeast j) ≤ nt (sGreat j) ∧ nt (sGreat j) ≤ 20 ∧ isO (nI j) := by decide +kernel
set_option maxHeartbeats 2000000 in
theorem lx_bv {G : GG} {X : Nat} {E : Nat → va_E} {L : List Nat} {sz d j lo g q r : Nat} {aL aG aF aP : Nat} (hZ : GSt G aL aG aF aP) (hG : GOK G) (hX : XIn X L) (hj : j < 8) (hlo : lo = nt (sLeast j)) (hgo : g = nt (sGreat j)) (hdp : 7 ≤ d) (n : Nat) : ∀ (i : Nat) (S : Nat → Nat → Int32) (F : Nat → Int32) (b c : Int32), i + n = g + 1 → lo ≤ i → CR S F q r → ∃ S', (∀ k, k ≠ 2 → S' k = S k) ∧ WP G iX11_bestValue d 0 0 (some (.int (bvL j n i F b c).1)) (Xm G X S' E L sz) 27 [some (.ref X), some (.int (nI j)), some (.int b), some (.int c), some (.int (nI i)), none] [] (Xm G X S E L sz) 0 0 := by
  obtain ⟨l1, l2, l3, l4, l5, l6, l7⟩ := lims j hj
  have hg : (if isO (nI j) then sGreat (nt (nI j)) else 0) = nI g := by rw [if_pos l7, ntn (by omega), hgo]; exact l2
  induction n with
  | zero =>
    intro i S F b c hi hli hC
    refine ⟨S, fun _ _ => rfl, ?_⟩
    show WP _ _ _ _ _ (some (.int b)) _ _ _ _ _ _ _
    refine wp_ild4 dX11_bestValue_27 ?_
    refine wp_ild1 dX11_bestValue_29 ?_
    refine ci_1 dX11_bestValue_30 kX11_218 (ct_greatest (d := d - 1) hZ (by omega)) (by omega) (Nat.le_of_ble_eq_true rfl) (Nat.le_refl _) (Nat.le_refl _) ?_
    refine wp_icmp_gt (tgt := 63) dX11_bestValue_33 (by decide) (fun c_33 => ?_) (fun c_33 => absurd (by rw [hg]; exact nI_lt (by omega) (by omega)) c_33)
    refine wp_ild2 dX11_bestValue_63 ?_
    exact wp_iret dX11_bestValue_64 rfl (Nat.le_refl _) (Nat.le_refl _) (by rfl) (by rfl)
  | succ n ih =>
    intro i S F b c hi hli hC
    have hv : allP (nI j) (nI i) := ⟨l7, by rw [ntn (by omega), l1]; exact nI_nlt (by omega) (by omega), by rw [ntn (by omega), l2]; exact nI_nlt (by omega) (by omega)⟩
    obtain ⟨S1, f1, hct⟩ := cX_costWith (E := E) (sz := sz) (d := d - 1) hZ hG hX hC hj hv (by omega)
    have hC1 : CR S1 (rpM F j (nI i)).2 q r := hC.sm (f1 1 (by decide)) (f1 3 (by decide)) (fun k hk => rp_same hC.1.1 hj k (by omega))
    show ∃ S', _ ∧ WP _ _ _ _ _ (some (.int (if c ≤ (rpM F j (nI i)).1 then bvL j n (i + 1) (rpM F j (nI i)).2 b c else bvL j n (i + 1) (rpM F j (nI i)).2 (nI i) (rpM F j (nI i)).1).1)) _ _ _ _ _ _ _
    by_cases z : c ≤ (rpM F j (nI i)).1
    · rw [if_pos z]
      obtain ⟨S', f2, kw⟩ := ih (i + 1) S1 _ b c (by omega) (by omega) hC1
      refine ⟨S', fun k hk => (f2 k hk).trans (f1 k hk), ?_⟩
      refine wp_ild4 dX11_bestValue_27 ?_
      refine wp_ild1 dX11_bestValue_29 ?_
      refine ci_1 dX11_bestValue_30 kX11_218 (ct_greatest (d := d - 1) hZ (by omega)) (by omega) (Nat.le_of_ble_eq_true rfl) (Nat.le_refl _) (Nat.le_refl _) ?_
      refine wp_icmp_gt (tgt := 63) dX11_bestValue_33 (by decide) (fun c_33 => absurd c_33 (by rw [hg]; exact nI_nlt (by omega) (by omega))) (fun c_33 => ?_)
      refine wp_ald0 dX11_bestValue_36 ?_
      refine wp_ild1 dX11_bestValue_37 ?_
      refine wp_ild4 dX11_bestValue_38 ?_
      refine xXi_2 dX11_bestValue_40 kX11_211 hct hX rfl (by omega) (Nat.le_of_ble_eq_true rfl) (Nat.le_refl _) (Nat.le_refl _) ?_
      refine wp_ist5 dX11_bestValue_43 (by decide) rfl ?_
      refine wp_ild5 dX11_bestValue_45 ?_
      refine wp_ild3 dX11_bestValue_47 ?_
      refine wp_icmp_ge (tgt := 57) dX11_bestValue_48 (by decide) (fun c_48 => ?_) (fun c_48 => absurd z c_48)
      refine wp_inc4 dX11_bestValue_57 (by decide) rfl ?_
      refine wp_goto (tgt := 27) dX11_bestValue_60 (by decide) ?_
      exact WP.fg (by simp [lcle]) kw
    · rw [if_neg z]
      obtain ⟨S', f2, kw⟩ := ih (i + 1) S1 _ (nI i) (rpM F j (nI i)).1 (by omega) (by omega) hC1
      refine ⟨S', fun k hk => (f2 k hk).trans (f1 k hk), ?_⟩
      refine wp_ild4 dX11_bestValue_27 ?_
      refine wp_ild1 dX11_bestValue_29 ?_
      refine ci_1 dX11_bestValue_30 kX11_218 (ct_greatest (d := d - 1) hZ (by omega)) (by omega) (Nat.le_of_ble_eq_true rfl) (Nat.le_refl _) (Nat.le_refl _) ?_
      refine wp_icmp_gt (tgt := 63) dX11_bestValue_33 (by decide) (fun c_33 => absurd c_33 (by rw [hg]; exact nI_nlt (by omega) (by omega))) (fun c_33 => ?_)
      refine wp_ald0 dX11_bestValue_36 ?_
      refine wp_ild1 dX11_bestValue_37 ?_
      refine wp_ild4 dX11_bestValue_38 ?_
      refine xXi_2 dX11_bestValue_40 kX11_211 hct hX rfl (by omega) (Nat.le_of_ble_eq_true rfl) (Nat.le_refl _) (Nat.le_refl _) ?_
      refine wp_ist5 dX11_bestValue_43 (by decide) rfl ?_
      refine wp_ild5 dX11_bestValue_45 ?_
      refine wp_ild3 dX11_bestValue_47 ?_
      refine wp_icmp_ge (tgt := 57) dX11_bestValue_48 (by decide) (fun c_48 => absurd c_48 z) (fun c_48 => ?_)
      refine wp_ild4 dX11_bestValue_51 ?_
      refine wp_ist2 dX11_bestValue_53 (by decide) rfl ?_
      refine wp_ild5 dX11_bestValue_54 ?_
      refine wp_ist3 dX11_bestValue_56 (by decide) rfl ?_
      refine wp_inc4 dX11_bestValue_57 (by decide) rfl ?_
      refine wp_goto (tgt := 27) dX11_bestValue_60 (by decide) ?_
      exact WP.fg (by simp [lcle]) kw
set_option maxHeartbeats 2000000 in
theorem cX_bestValue {G : GG} {X : Nat} {S : Nat → Nat → Int32} {E : Nat → va_E} {L : List Nat} {sz d : Nat} {F : Nat → Int32} {q r : Nat} {aL aG aF aP : Nat} (hZ : GSt G aL aG aF aP) {x : Int32} (hG : GOK G) (hX : XIn X L) (hC : CR S F q r) (hdp : 7 ≤ d) : ∃ S', (∀ k, k ≠ 2 → S' k = S k) ∧ Ct G d yX11_bestValue iX11_bestValue [.ref X, .int x] (Xm G X S E L sz) 0 0 (some (.int (bestM F x).1)) (Xm G X S' E L sz) := by
  unfold bestM
  by_cases hv : isO x
  · have q7 : inP x 0 7 := isO_iff.mp hv
    obtain ⟨j, hj, rfl⟩ := isOb_nat (y := x) q7
    obtain ⟨l1, l2, l3, l4, l5, l6, l7⟩ := lims j hj
    rw [if_pos q7, ntn (show j < 2 ^ 31 by omega), l3, l4]
    have hl : (if isO (nI j) then sLeast (nt (nI j)) else 0) = nI (nt (sLeast j)) := by rw [if_pos l7, ntn (by omega)]; exact l1
    generalize hlo : nt (sLeast j) = lo at *
    generalize hgo : nt (sGreat j) = g at *
    rw [l1]
    have hv2 : allP (nI j) (nI lo) := ⟨l7, by rw [ntn (by omega), l1]; exact nI_nlt (by omega) (by omega), by rw [ntn (by omega), l2]; exact nI_nlt (by omega) (by omega)⟩
    obtain ⟨S1, f1, hct⟩ := cX_costWith (E := E) (sz := sz) (d := d - 1) hZ hG hX hC hj hv2 (by omega)
    have hC1 : CR S1 (rpM F j (nI lo)).2 q r := hC.sm (f1 1 (by decide)) (f1 3 (by decide)) (fun k hk => rp_same hC.1.1 hj k (by omega))
    obtain ⟨S', f2, kw⟩ := lx_bv (E := E) (sz := sz) hZ hG hX hj hlo.symm hgo.symm hdp (g - lo) (lo + 1) S1 _ (nI lo) (rpM F j (nI lo)).1 (by omega) (by omega) hC1
    refine ⟨S', fun k hk => (f2 k hk).trans (f1 k hk), ?_⟩
    refine Ct.of 4 (by decide) rfl (by decide) (Nat.le_of_ble_eq_true rfl) ?_
    show WP _ _ _ _ _ _ _ 0 [some (.ref X), some (.int (nI j)), none, none, none, none] [] _ 0 0
    refine wp_ild1 dX11_bestValue_0 ?_
    refine ci_1 dX11_bestValue_1 kX11_80 (ct_exists (d := d - 1)) (by omega) (Nat.le_of_ble_eq_true rfl) (Nat.le_refl _) (Nat.le_refl _) ?_
    refine wp_ifB_ne (tgt := 10) dX11_bestValue_4 (by decide) (fun c_4 => ?_) (fun c_4 => absurd hv c_4)
    refine wp_ild1 dX11_bestValue_10 ?_
    refine ci_1 dX11_bestValue_11 kX11_215 (ct_least (d := d - 1) hZ (by omega)) (by omega) (Nat.le_of_ble_eq_true rfl) (Nat.le_refl _) (Nat.le_refl _) ?_
    rw [hl]
    refine wp_ist2 dX11_bestValue_14 (by decide) rfl ?_
    refine wp_ald0 dX11_bestValue_15 ?_
    refine wp_ild1 dX11_bestValue_16 ?_
    refine wp_ild2 dX11_bestValue_17 ?_
    refine xXi_2 dX11_bestValue_18 kX11_211 hct hX rfl (by omega) (Nat.le_of_ble_eq_true rfl) (Nat.le_refl _) (Nat.le_refl _) ?_
    refine wp_ist3 dX11_bestValue_21 (by decide) rfl ?_
    refine wp_ild2 dX11_bestValue_22 ?_
    refine wp_iconst (v := 1) dX11_bestValue_23 (by decide) ?_
    refine wp_iaddN (a := lo) (b := 1) rfl (by decide) dX11_bestValue_24 ?_
    refine wp_ist4 dX11_bestValue_25 (by decide) rfl ?_
    exact WP.fg (by simp [lcle]) kw
  · rw [if_neg (show ¬ inP x 0 7 from fun z => hv (isO_iff.mpr z))]
    refine ⟨S, fun _ _ => rfl, ?_⟩
    refine Ct.of 4 (by decide) rfl (by decide) (Nat.le_of_ble_eq_true rfl) ?_
    show WP _ _ _ _ _ _ _ 0 [some (.ref X), some (.int x), none, none, none, none] [] _ 0 0
    refine wp_ild1 dX11_bestValue_0 ?_
    refine ci_1 dX11_bestValue_1 kX11_80 (ct_exists (d := d - 1)) (by omega) (Nat.le_of_ble_eq_true rfl) (Nat.le_refl _) (Nat.le_refl _) ?_
    refine wp_ifB_ne (tgt := 10) dX11_bestValue_4 (by decide) (fun c_4 => absurd c_4 hv) (fun c_4 => ?_)
    refine wp_bipush (v := (-3)) dX11_bestValue_7 (by decide) ?_
    exact wp_iret dX11_bestValue_9 rfl (Nat.le_refl _) (Nat.le_refl _) (by rfl) (by rfl)
