/-- the walk of a drop: n places are left, from k on; 'to' are kept -/
def drp (p : Nat) (x : Int32) : Nat → Nat → Nat → (Nat → Int32) → (Nat → Int32) × Nat
  | 0, _, t, C => (C, t)
  | n + 1, k, t, C => if C (p + k) = x then drp p x n (k + 1) t C else drp p x n (k + 1) (t + 1) (upd C (p + t) (C (p + k)))
def dropF (C : Nat → Int32) (q p : Nat) (x : Int32) : Nat → Int32 := upd (drp p x (C q).toNatClampNeg 0 0 C).1 q (nI (drp p x (C q).toNatClampNeg 0 0 C).2)
set_option maxHeartbeats 1000000 in
theorem lp_drop {G : GG} {B : Nat} {E0 : Nat → va_E} {L : List Nat} {sz d : Nat} {j q p s : Nat} {x : Int32} (hG : GOK G) (hL : rIn (wR G B) L) (hN : LN G B j q p) (hpq : ∀ i, i < 6 → p + i ≠ q) (hs6 : s ≤ 6) (n : Nat) : ∀ (k t : Nat) (C : Nat → Int32), k + n = s → t ≤ k → C q = nI s → WP G iX2_drop d 0 0 none (Wm G B (upd (drp p x n k t C).1 q (nI (drp p x n k t C).2)) E0 L sz) 4 [some (.ref (B + j)), some (.int x), some (.int (nI t)), some (.int (nI k))] [] (Wm G B C E0 L sz) 0 0 := by
  induction n with
  | zero =>
    intro k t C hk ht hq
    refine wp_ild3 dX2_drop_4 ?_
    refine wp_ald0 dX2_drop_5 ?_
    refine g_Line_size dX2_drop_6 fX2_15 hL hN ?_
    refine wp_icmp_ge (tgt := 43) dX2_drop_9 (by decide) (fun c_9 => ?_) (fun c_9 => absurd (by rw [hq, show k = s by omega]; exact Int32.le_refl _) c_9)
    refine wp_ald0 dX2_drop_43 ?_
    refine wp_ild2 dX2_drop_44 ?_
    refine p_Line_size dX2_drop_45 pX2_15 hL hN ?_
    exact wp_vret dX2_drop_48 rfl (Nat.le_refl _) (Nat.le_refl _) (by first | rfl | (simp only [drp]; done) | (simp only [drp]; rfl)) (by first | rfl | (simp only [drp]; done) | (simp only [drp]; rfl))
  | succ n ih =>
    intro k t C hk ht hq
    refine wp_ild3 dX2_drop_4 ?_
    refine wp_ald0 dX2_drop_5 ?_
    refine g_Line_size dX2_drop_6 fX2_15 hL hN ?_
    refine wp_icmp_ge (tgt := 43) dX2_drop_9 (by decide) (fun c_9 => absurd c_9 (by rw [hq]; exact nI_ge (by omega) (by omega))) (fun c_9 => ?_)
    refine wp_ald0 dX2_drop_12 ?_
    refine g_Line_members dX2_drop_13 fX2_9 hL hN ?_
    refine wp_ild3 dX2_drop_16 ?_
    refine r_Line_members (i' := k) dX2_drop_17 hG hL hN rfl (by first | assumption | omega) ?_
    refine wp_ild1 dX2_drop_18 ?_
    refine wp_icmp_eq (tgt := 37) dX2_drop_19 (by decide) (fun c_19 => ?_) (fun c_19 => ?_)
    · refine wp_inc3 dX2_drop_37 (by decide) rfl ?_
      refine wp_goto (tgt := 4) dX2_drop_40 (by decide) ?_
      simp only [drp, if_pos c_19]
      exact ih (k + 1) t C (by omega) (by omega) hq
    · refine wp_ald0 dX2_drop_22 ?_
      refine g_Line_members dX2_drop_23 fX2_9 hL hN ?_
      refine wp_ild2 dX2_drop_26 ?_
      refine wp_ald0 dX2_drop_27 ?_
      refine g_Line_members dX2_drop_28 fX2_9 hL hN ?_
      refine wp_ild3 dX2_drop_31 ?_
      refine r_Line_members (i' := k) dX2_drop_32 hG hL hN rfl (by first | assumption | omega) ?_
      refine s_Line_members (i' := t) dX2_drop_33 hG hL hN rfl (by first | assumption | omega) ?_
      refine wp_inc2 dX2_drop_34 (by decide) rfl ?_
      refine wp_inc3 dX2_drop_37 (by decide) rfl ?_
      refine wp_goto (tgt := 4) dX2_drop_40 (by decide) ?_
      simp only [drp, if_neg c_19]
      exact ih (k + 1) (t + 1) (upd C (p + t) (C (p + k))) (by omega) (by omega) (by rw [upd_ne (fun e => hpq t (by omega) e.symm)]; exact hq)
set_option maxHeartbeats 1000000 in
theorem ct_drop {G : GG} {B : Nat} {C : Nat → Int32} {E0 : Nat → va_E} {L : List Nat} {sz d : Nat} {j q p : Nat} {x : Int32} (hG : GOK G) (hL : rIn (wR G B) L) (hN : LN G B j q p) (hpq : ∀ i, i < 6 → p + i ≠ q) (hs : OKs C q) : Ct G d yX2_drop iX2_drop [.ref (B + j), .int x] (Wm G B C E0 L sz) 0 0 none (Wm G B (dropF C q p x) E0 L sz) := by
  refine Ct.of 2 (by decide) rfl (by decide) (Nat.le_of_ble_eq_true rfl) ?_
  show WP _ _ _ _ _ _ _ 0 [some (.ref (B + j)), some (.int x), none, none] [] _ 0 0
  refine wp_iconst (v := 0) dX2_drop_0 (by decide) ?_
  refine wp_ist2 dX2_drop_1 (by decide) rfl ?_
  refine wp_iconst (v := 0) dX2_drop_2 (by decide) ?_
  refine wp_ist3 dX2_drop_3 (by decide) rfl ?_
  exact lp_drop hG hL hN hpq hs.nat.2 _ 0 0 C (by omega) (by omega) hs.nat.1

theorem nI_dec (k : Nat) : nI (k + 1) + Int32.ofInt (-1) = nI k := by
  rw [show Int32.ofInt (-1) = (-1 : Int32) by decide]
  exact sb_m1 (p := k + 1) (by omega)
def shf (p : Nat) : Nat → (Nat → Int32) → (Nat → Int32)
  | 0, C => C
  | k + 1, C => shf p k (upd C (p + (k + 1)) (C (p + k)))
theorem shf_out {p q : Nat} : ∀ (k : Nat) (C : Nat → Int32), (∀ i, i ≤ k → p + i ≠ q) → shf p k C q = C q
  | 0, C, _ => rfl
  | k + 1, C, h => by
    show shf p k _ q = _
    rw [shf_out k _ (fun i hi => h i (by omega)), upd_ne (fun e => h (k + 1) (by omega) e.symm)]
def pfiF (C : Nat → Int32) (q p : Nat) (x : Int32) : Nat → Int32 := if 6 ≤ C q then C else upd (upd (shf p (C q).toNatClampNeg C) (p + 0) x) q (upd (shf p (C q).toNatClampNeg C) (p + 0) x q + 1)
set_option maxHeartbeats 1000000 in
theorem lp_putFirst {G : GG} {B : Nat} {E0 : Nat → va_E} {L : List Nat} {sz d : Nat} {j q p : Nat} {x : Int32} (hG : GOK G) (hL : rIn (wR G B) L) (hN : LN G B j q p) (k : Nat) : ∀ (C : Nat → Int32), k ≤ 5 → WP G iX2_putFirst d 0 0 none (Wm G B (upd (upd (shf p k C) (p + 0) x) q (upd (shf p k C) (p + 0) x q + 1)) E0 L sz) 14 [some (.ref (B + j)), some (.int x), some (.int (nI k))] [] (Wm G B C E0 L sz) 0 0 := by
  induction k with
  | zero =>
    intro C hk
    refine wp_ild2 dX2_putFirst_14 ?_
    refine wp_if_le (tgt := 38) dX2_putFirst_15 (by decide) (fun c_15 => ?_) (fun c_15 => absurd (by decide) c_15)
    refine wp_ald0 dX2_putFirst_38 ?_
    refine g_Line_members dX2_putFirst_39 fX2_9 hL hN ?_
    refine wp_iconst (v := 0) dX2_putFirst_42 (by decide) ?_
    refine wp_ild1 dX2_putFirst_43 ?_
    refine s_Line_members (i' := 0) dX2_putFirst_44 hG hL hN (by decide) (by decide) ?_
    refine wp_ald0 dX2_putFirst_45 ?_
    refine wp_dup dX2_putFirst_46 rfl ?_
    refine g_Line_size dX2_putFirst_47 fX2_15 hL hN ?_
    refine wp_iconst (v := 1) dX2_putFirst_50 (by decide) ?_
    refine wp_iadd dX2_putFirst_51 ?_
    refine p_Line_size dX2_putFirst_52 pX2_15 hL hN ?_
    exact wp_vret dX2_putFirst_55 rfl (Nat.le_refl _) (Nat.le_refl _) (by first | rfl | (simp only [shf]; done) | (simp only [shf]; rfl)) (by first | rfl | (simp only [shf]; done) | (simp only [shf]; rfl))
  | succ k ih =>
    intro C hk
    refine wp_ild2 dX2_putFirst_14 ?_
    refine wp_if_le (tgt := 38) dX2_putFirst_15 (by decide) (fun c_15 => absurd c_15 (nI_nle (by omega) (by omega))) (fun c_15 => ?_)
    refine wp_ald0 dX2_putFirst_18 ?_
    refine g_Line_members dX2_putFirst_19 fX2_9 hL hN ?_
    refine wp_ild2 dX2_putFirst_22 ?_
    refine wp_ald0 dX2_putFirst_23 ?_
    refine g_Line_members dX2_putFirst_24 fX2_9 hL hN ?_
    refine wp_ild2 dX2_putFirst_27 ?_
    refine wp_iconst (v := 1) dX2_putFirst_28 (by decide) ?_
    refine wp_isub dX2_putFirst_29 ?_
    refine r_Line_members (i' := k) dX2_putFirst_30 hG hL hN (nI_pred k) (by omega) ?_
    refine s_Line_members (i' := (k + 1)) dX2_putFirst_31 hG hL hN rfl (by first | assumption | omega) ?_
    refine wp_iinc2 dX2_putFirst_32 (by decide) rfl ?_
    rw [nI_dec k]
    refine wp_goto (tgt := 14) dX2_putFirst_35 (by decide) ?_
    exact ih (upd C (p + (k + 1)) (C (p + k))) (by omega)
set_option maxHeartbeats 1000000 in
theorem ct_putFirst {G : GG} {B : Nat} {C : Nat → Int32} {E0 : Nat → va_E} {L : List Nat} {sz d : Nat} {j q p : Nat} {x : Int32} (hG : GOK G) (hL : rIn (wR G B) L) (hN : LN G B j q p) (hs : OKs C q) : Ct G d yX2_putFirst iX2_putFirst [.ref (B + j), .int x] (Wm G B C E0 L sz) 0 0 none (Wm G B (pfiF C q p x) E0 L sz) := by
  refine Ct.of 1 (by decide) rfl (by decide) (Nat.le_of_ble_eq_true rfl) ?_
  show WP _ _ _ _ _ _ _ 0 [some (.ref (B + j)), some (.int x), none] [] _ 0 0
  refine wp_ald0 dX2_putFirst_0 ?_
  refine g_Line_size dX2_putFirst_1 fX2_15 hL hN ?_
  refine wp_bipush (v := 6) dX2_putFirst_4 (by decide) ?_
  refine wp_icmp_ge (tgt := 55) dX2_putFirst_6 (by decide) (fun c_6 => ?_) (fun c_6 => ?_)
  · exact wp_vret dX2_putFirst_55 rfl (Nat.le_refl _) (Nat.le_refl _) (by first | rfl | (simp only [pfiF, if_pos c_6]; done) | (simp only [pfiF, if_pos c_6]; rfl)) (by first | rfl | (simp only [pfiF, if_pos c_6]; done) | (simp only [pfiF, if_pos c_6]; rfl))
  · refine wp_ald0 dX2_putFirst_9 ?_
    refine g_Line_size dX2_putFirst_10 fX2_15 hL hN ?_
    refine wp_ist2 dX2_putFirst_13 (by decide) rfl ?_
    rw [show C q = nI (C q).toNatClampNeg from hs.nat.1]
    simp only [pfiF, if_neg c_6]
    exact lp_putFirst hG hL hN _ C (by rcases Nat.lt_or_ge (C q).toNatClampNeg 6 with h | h; omega; exact absurd (by rw [hs.nat.1, show (C q).toNatClampNeg = 6 from Nat.le_antisymm hs.nat.2 h]; decide) c_6)

