/-! the law's loop -/
section LW
variable {G : GG} {X a N d mc ms : Nat} {xs : Nat → Int32}
theorem lw_cmp {i : Nat} (hN : N ≤ 2048) (hi : i ≤ 4096) (h : ¬ nI N - 4 < nI i) : i + 4 ≤ N := by
  refine Decidable.not_not.mp (fun z => h ?_)
  by_cases q : 4 ≤ N
  · rw [show (4 : Int32) = nI 4 from rfl, nJ_sub q]
    exact nI_lt (by omega) (by omega)
  · refine Int32.lt_of_lt_of_le ?_ (Int32.not_lt.mp (nI_pos (show i < 2 ^ 31 by omega)))
    have q : N < 4 := by omega
    match N, q with
    | 0, _ => decide
    | 1, _ => decide
    | 2, _ => decide
    | 3, _ => decide
theorem swl {x : Int32} (h0 : ¬ x = 0) (h1 : ¬ x = 1) (h2 : ¬ x = 2) (h3 : ¬ x = 3) (h4 : ¬ x = 4) (h5 : ¬ x = 5) (h6 : ¬ x = 6) (h7 : ¬ x = 7) (h8 : ¬ x = 8) (h9 : ¬ x = 9) (h10 : ¬ x = 10) (h11 : ¬ x = 11) (h12 : ¬ x = 12) (h13 : ¬ x = 13) (h14 : ¬ x = 14) (h15 : ¬ x = 15) (h16 : ¬ x = 16) (h17 : ¬ x = 17) (h18 : ¬ x = 18) (h19 : ¬ x = 19) (h20 : ¬ x = 20) (h21 : ¬ x = 21) (h22 : ¬ x = 22) (h23 : ¬ x = 23) (h24 : ¬ x = 24) (h25 : ¬ x = 25) (h26 : ¬ x = 26) (h27 : ¬ x = 27) (h28 : ¬ x = 28) (h29 : ¬ x = 29) (h30 : ¬ x = 30) (h31 : ¬ x = 31) (h32 : ¬ x = 32) (h33 : ¬ x = 33) (h34 : ¬ x = 34) (h35 : ¬ x = 35) (h36 : ¬ x = 36) (h37 : ¬ x = 37) (h38 : ¬ x = 38) (h39 : ¬ x = 39) : x.toInt < 0 ∨ (39 : Int) < x.toInt := sw_out 39 (by decide) (fun i hi => by
  by_cases e0 : i = 0
  · subst e0; exact h0
  by_cases e1 : i = 1
  · subst e1; exact h1
  by_cases e2 : i = 2
  · subst e2; exact h2
  by_cases e3 : i = 3
  · subst e3; exact h3
  by_cases e4 : i = 4
  · subst e4; exact h4
  by_cases e5 : i = 5
  · subst e5; exact h5
  by_cases e6 : i = 6
  · subst e6; exact h6
  by_cases e7 : i = 7
  · subst e7; exact h7
  by_cases e8 : i = 8
  · subst e8; exact h8
  by_cases e9 : i = 9
  · subst e9; exact h9
  by_cases e10 : i = 10
  · subst e10; exact h10
  by_cases e11 : i = 11
  · subst e11; exact h11
  by_cases e12 : i = 12
  · subst e12; exact h12
  by_cases e13 : i = 13
  · subst e13; exact h13
  by_cases e14 : i = 14
  · subst e14; exact h14
  by_cases e15 : i = 15
  · subst e15; exact h15
  by_cases e16 : i = 16
  · subst e16; exact h16
  by_cases e17 : i = 17
  · subst e17; exact h17
  by_cases e18 : i = 18
  · subst e18; exact h18
  by_cases e19 : i = 19
  · subst e19; exact h19
  by_cases e20 : i = 20
  · subst e20; exact h20
  by_cases e21 : i = 21
  · subst e21; exact h21
  by_cases e22 : i = 22
  · subst e22; exact h22
  by_cases e23 : i = 23
  · subst e23; exact h23
  by_cases e24 : i = 24
  · subst e24; exact h24
  by_cases e25 : i = 25
  · subst e25; exact h25
  by_cases e26 : i = 26
  · subst e26; exact h26
  by_cases e27 : i = 27
  · subst e27; exact h27
  by_cases e28 : i = 28
  · subst e28; exact h28
  by_cases e29 : i = 29
  · subst e29; exact h29
  by_cases e30 : i = 30
  · subst e30; exact h30
  by_cases e31 : i = 31
  · subst e31; exact h31
  by_cases e32 : i = 32
  · subst e32; exact h32
  by_cases e33 : i = 33
  · subst e33; exact h33
  by_cases e34 : i = 34
  · subst e34; exact h34
  by_cases e35 : i = 35
  · subst e35; exact h35
  by_cases e36 : i = 36
  · subst e36; exact h36
  by_cases e37 : i = 37
  · subst e37; exact h37
  by_cases e38 : i = 38
  · subst e38; exact h38
  by_cases e39 : i = 39
  · subst e39; exact h39
  omega)
set_option maxHeartbeats 4000000 in
theorem lw_loop {aL aG aF aP : Nat} {fm : Value} {fa la : Nat → Nat} (hG : GOK G) (hZ : GSt G aL aG aF aP) (hNS : GNS G fm) (hf : GFm G fa) (hJ : GSJ G) (hg : GDg G) (hK : GLk G la) (hsc : (FieldType.int, a, N, fun j => Value.int (xs j)) ∈ gS G) (hN : N ≤ 2048) (hd10 : 10 ≤ d) (f : Nat) : ∀ (i : Nat) (M : Mem) (S : Nat → Nat → Int32) (b m : Nat) (t : List Nat) (n r k q : Nat), N ≤ i + 4 * f → i ≤ 2052 → XS G X S b m t M → SR S n r → n + 100 * f ≤ 100000 → r + 20000 * f ≤ 100000000 → k + (700 - m) ≤ mc → q + 2 * (700 - m) ≤ ms → ∃ M', WP G iL_law d mc ms (some (.int 1)) M' 18 [some (.ref a), some (.ref X), some (.ref (X + 248)), some (.int (nI i))] [] M k q := by
  induction f with
  | zero =>
    intro i M S b m t n r k q hf0 hi hx h g1 g2 h1 h2
    refine ⟨M, ?_⟩
    refine wp_ild3 dL_law_18 ?_
    refine wp_ald0 dL_law_19 ?_
    refine wp_tlen (v := nI N) dL_law_20 hsc rfl ?_
    refine wp_iconst (v := 4) dL_law_21 (by decide) ?_
    refine wp_isub dL_law_22 ?_
    refine wp_icmp_gt (tgt := 1164) dL_law_23 (by decide) (fun c => ?_) (fun c => absurd (lw_cmp hN (by omega) c) (by omega))
    refine wp_iconst (v := 1) dL_law_1164 (by decide) ?_
    exact wp_zret dL_law_1165 rfl rfl (by omega) (by omega) rfl rfl
  | succ f ih =>
    intro i M S b m t n r k q hf0 hi hx h g1 g2 h1 h2
    by_cases c23 : nI N - 4 < nI i
    · refine ⟨M, ?_⟩
      refine wp_ild3 dL_law_18 ?_
      refine wp_ald0 dL_law_19 ?_
      refine wp_tlen (v := nI N) dL_law_20 hsc rfl ?_
      refine wp_iconst (v := 4) dL_law_21 (by decide) ?_
      refine wp_isub dL_law_22 ?_
      refine wp_icmp_gt (tgt := 1164) dL_law_23 (by decide) (fun c => ?_) (fun c => absurd c23 c)
      refine wp_iconst (v := 1) dL_law_1164 (by decide) ?_
      exact wp_zret dL_law_1165 rfl rfl (by omega) (by omega) rfl rfl
    · have hi4 := lw_cmp hN (by omega) c23
      have b1 : n + 100 ≤ 100000 := by omega
      have b2 : r + 20000 ≤ 100000000 := Nat.le_trans (Nat.add_le_add_left (Nat.le_mul_of_pos_right 20000 (Nat.succ_pos f)) r) g2
      have hd : ∀ (M' : Mem) (k q : Nat), WP G iL_law d mc ms (some (.int 1)) M' 32 [some (.ref a), some (.ref X), some (.ref (X + 248)), some (.int (nI i))] [.int (xs i &&& 63)] M k q → WP G iL_law d mc ms (some (.int 1)) M' 18 [some (.ref a), some (.ref X), some (.ref (X + 248)), some (.int (nI i))] [] M k q := fun M' k q kw => by
        refine wp_ild3 dL_law_18 ?_
        refine wp_ald0 dL_law_19 ?_
        refine wp_tlen (v := nI N) dL_law_20 hsc rfl ?_
        refine wp_iconst (v := 4) dL_law_21 (by decide) ?_
        refine wp_isub dL_law_22 ?_
        refine wp_icmp_gt (tgt := 1164) dL_law_23 (by decide) (fun c => absurd c c23) (fun c => ?_)
        refine wp_ald0 dL_law_26 ?_
        refine wp_ild3 dL_law_27 ?_
        refine wp_tald (v := .int (xs i)) dL_law_28 hsc (nI_in (by omega) (by omega)) (by show Value.int (xs (nt (nI i))) = _; rw [ntn (by omega)]) ?_
        refine wp_bipush (v := 63) dL_law_29 (by decide) ?_
        refine wp_iand dL_law_31 ?_
        exact kw
      have tl : ∀ (M2 : Mem) (S2 : Nat → Nat → Int32) (b2 m2 : Nat) (t2 : List Nat), XS G X S2 b2 m2 t2 M2 → SR S2 (n + 100) (r + 20000) → ∀ k2 q2, k2 + (700 - m2) ≤ mc → q2 + 2 * (700 - m2) ≤ ms → ∃ M', WP G iL_law d mc ms (some (.int 1)) M' 1158 [some (.ref a), some (.ref X), some (.ref (X + 248)), some (.int (nI i))] [] M2 k2 q2 := fun M2 S2 b2 m2 t2 x2 s2 k2 q2 e1 e2 => by
        obtain ⟨M', kw⟩ := ih (i + 4) M2 S2 b2 m2 t2 (n + 100) (r + 20000) k2 q2 (by omega) (by omega) x2 s2 (by omega) (by omega) e1 e2
        refine ⟨M', ?_⟩
        refine wp_iinc3 dL_law_1158 (by decide) rfl ?_
        rw [show nI i + Int32.ofInt 4 = nI (i + 4) from nI_add i 4]
        exact wp_goto (tgt := 18) dL_law_1161 (by decide) kw
      by_cases s0 : xs i &&& 63 = 0
      · obtain ⟨M', kw⟩ := lc_reset (n := n) (r := r) hsc hN hi4 hx (by omega) (Sty.of hx (st_reset (d := d - 1) hG hx.2.1 h b1 b2 (by omega))) h1 h2 tl
        exact ⟨M', hd _ _ _ (wp_tableIn (off := 176) (tgt := 208) dL_law_32 (by rw [s0]; decide) (by rw [s0]; decide) (by rw [s0]; rfl) (by decide) kw)⟩
      by_cases s1 : xs i &&& 63 = 1
      · obtain ⟨M', kw⟩ := lc_set (n := n) (r := r) hsc hN hi4 hx (by omega) (Sty.of hx (st_set (d := d - 1) hZ hG hx.2.1 h b1 b2 (by omega))) h1 h2 tl
        exact ⟨M', hd _ _ _ (wp_tableIn (off := 199) (tgt := 231) dL_law_32 (by rw [s1]; decide) (by rw [s1]; decide) (by rw [s1]; rfl) (by decide) kw)⟩
      by_cases s2 : xs i &&& 63 = 2
      · obtain ⟨M', kw⟩ := lc_setting (n := n) (r := r) hsc hN hi4 hx (by omega) (Sty.of hx (st_setting (d := d - 1) hG hx.2.1 h b1 b2 (by omega))) h1 h2 tl
        exact ⟨M', hd _ _ _ (wp_tableIn (off := 232) (tgt := 264) dL_law_32 (by rw [s2]; decide) (by rw [s2]; decide) (by rw [s2]; rfl) (by decide) kw)⟩
      by_cases s3 : xs i &&& 63 = 3
      · obtain ⟨M', kw⟩ := lc_enter (n := n) (r := r) hsc hN hi4 hx (by omega) (Sty.of hx (st_enter (d := d - 1) hG hx.2.1 h b1 b2 (by omega))) h1 h2 tl
        exact ⟨M', hd _ _ _ (wp_tableIn (off := 255) (tgt := 287) dL_law_32 (by rw [s3]; decide) (by rw [s3]; decide) (by rw [s3]; rfl) (by decide) kw)⟩
      by_cases s4 : xs i &&& 63 = 4
      · obtain ⟨M', kw⟩ := lc_exit (n := n) (r := r) hsc hN hi4 hx (by omega) (Sty.of hx (st_exit (d := d - 1) hG hx.2.1 h b1 b2 (by omega))) h1 h2 tl
        exact ⟨M', hd _ _ _ (wp_tableIn (off := 288) (tgt := 320) dL_law_32 (by rw [s4]; decide) (by rw [s4]; decide) (by rw [s4]; rfl) (by decide) kw)⟩
      by_cases s5 : xs i &&& 63 = 5
      · obtain ⟨M', kw⟩ := lc_await (n := n) (r := r) hsc hN hi4 hx (by omega) (Sty.of hx (st_await (d := d - 1) hG hx.2.1 h b1 b2 (by omega))) h1 h2 tl
        exact ⟨M', hd _ _ _ (wp_tableIn (off := 321) (tgt := 353) dL_law_32 (by rw [s5]; decide) (by rw [s5]; decide) (by rw [s5]; rfl) (by decide) kw)⟩
      by_cases s6 : xs i &&& 63 = 6
      · obtain ⟨M', kw⟩ := lc_signal (n := n) (r := r) hsc hN hi4 hx (by omega) (Sty.of hx (st_signal (d := d - 1) hG hx.2.1 h b1 b2 (by omega))) h1 h2 tl
        exact ⟨M', hd _ _ _ (wp_tableIn (off := 364) (tgt := 396) dL_law_32 (by rw [s6]; decide) (by rw [s6]; decide) (by rw [s6]; rfl) (by decide) kw)⟩
      by_cases s7 : xs i &&& 63 = 7
      · obtain ⟨M', kw⟩ := lc_signalAll (n := n) (r := r) hsc hN hi4 hx (by omega) (Sty.of hx (st_signalAll (d := d - 1) hG hx.2.1 h b1 b2 (by omega))) h1 h2 tl
        exact ⟨M', hd _ _ _ (wp_tableIn (off := 397) (tgt := 429) dL_law_32 (by rw [s7]; decide) (by rw [s7]; decide) (by rw [s7]; rfl) (by decide) kw)⟩
      by_cases s8 : xs i &&& 63 = 8
      · obtain ⟨M', kw⟩ := lc_interrupt (n := n) (r := r) hsc hN hi4 hx (by omega) (Sty.of hx (st_interrupt (d := d - 1) hG hx.2.1 h b1 b2 (by omega))) h1 h2 tl
        exact ⟨M', hd _ _ _ (wp_tableIn (off := 430) (tgt := 462) dL_law_32 (by rw [s8]; decide) (by rw [s8]; decide) (by rw [s8]; rfl) (by decide) kw)⟩
      by_cases s9 : xs i &&& 63 = 9
      · obtain ⟨M', kw⟩ := lc_die (n := n) (r := r) hsc hN hi4 hx (by omega) (Sty.of hx (st_die (d := d - 1) hG hx.2.1 h b1 b2 (by omega))) h1 h2 tl
        exact ⟨M', hd _ _ _ (wp_tableIn (off := 453) (tgt := 485) dL_law_32 (by rw [s9]; decide) (by rw [s9]; decide) (by rw [s9]; rfl) (by decide) kw)⟩
      by_cases s10 : xs i &&& 63 = 10
      · obtain ⟨M', kw⟩ := lc_start (n := n) (r := r) hsc hN hi4 hx (by omega) (Sty.of hx (st_start (d := d - 1) hG hx.2.1 h b1 b2 (by omega))) h1 h2 tl
        exact ⟨M', hd _ _ _ (wp_tableIn (off := 476) (tgt := 508) dL_law_32 (by rw [s10]; decide) (by rw [s10]; decide) (by rw [s10]; rfl) (by decide) kw)⟩
      by_cases s11 : xs i &&& 63 = 11
      · obtain ⟨M', kw⟩ := lc_hash (n := n) (r := r) hsc hN hi4 hx (by omega) (Sty.of hx (st_hash (d := d - 1) hG hx.2.1 h b1 b2 (by omega))) h1 h2 tl
        exact ⟨M', hd _ _ _ (wp_tableIn (off := 499) (tgt := 531) dL_law_32 (by rw [s11]; decide) (by rw [s11]; decide) (by rw [s11]; rfl) (by decide) kw)⟩
      by_cases s12 : xs i &&& 63 = 12
      · obtain ⟨M', kw⟩ := lc_tick (n := n) (r := r) hsc hN hi4 hx (by omega) (Sty.of hx (st_tick (d := d - 1) hG hx.2.1 h b1 b2 (by omega))) h1 h2 tl
        exact ⟨M', hd _ _ _ (wp_tableIn (off := 522) (tgt := 554) dL_law_32 (by rw [s12]; decide) (by rw [s12]; decide) (by rw [s12]; rfl) (by decide) kw)⟩
      by_cases s13 : xs i &&& 63 = 13
      · obtain ⟨M', kw⟩ := lc_threads (n := n) (r := r) hsc hN hi4 hx (by omega) (Sty.of hx (st_threads (d := d - 1) hG hx.2.1 h b1 b2 (by omega))) h1 h2 tl
        exact ⟨M', hd _ _ _ (wp_tableIn (off := 545) (tgt := 577) dL_law_32 (by rw [s13]; decide) (by rw [s13]; decide) (by rw [s13]; rfl) (by decide) kw)⟩
      by_cases s14 : xs i &&& 63 = 14
      · obtain ⟨M', kw⟩ := lc_threadState (n := n) (r := r) hsc hN hi4 hx (by omega) (Sty.of hx (st_threadState (d := d - 1) hG hx.2.1 h b1 b2 (by omega))) h1 h2 tl
        exact ⟨M', hd _ _ _ (wp_tableIn (off := 558) (tgt := 590) dL_law_32 (by rw [s14]; decide) (by rw [s14]; decide) (by rw [s14]; rfl) (by decide) kw)⟩
      by_cases s15 : xs i &&& 63 = 15
      · obtain ⟨M', kw⟩ := lc_threadAt (n := n) (r := r) hsc hN hi4 hx (by omega) (Sty.of hx (st_threadAt (d := d - 1) hG hx.2.1 h b1 b2 (by omega))) h1 h2 tl
        exact ⟨M', hd _ _ _ (wp_tableIn (off := 581) (tgt := 613) dL_law_32 (by rw [s15]; decide) (by rw [s15]; decide) (by rw [s15]; rfl) (by decide) kw)⟩
      by_cases s16 : xs i &&& 63 = 16
      · obtain ⟨M', kw⟩ := lc_held (n := n) (r := r) hsc hN hi4 hx (by omega) (Sty.of hx (st_held (d := d - 1) hG hx.2.1 h b1 b2 (by omega))) h1 h2 tl
        exact ⟨M', hd _ _ _ (wp_tableIn (off := 604) (tgt := 636) dL_law_32 (by rw [s16]; decide) (by rw [s16]; decide) (by rw [s16]; rfl) (by decide) kw)⟩
      by_cases s17 : xs i &&& 63 = 17
      · obtain ⟨M', kw⟩ := lc_waitEnd (n := n) (r := r) hsc hN hi4 hx (by omega) (Sty.of hx (st_waitEnd (d := d - 1) hG hx.2.1 h b1 b2 (by omega))) h1 h2 tl
        exact ⟨M', hd _ _ _ (wp_tableIn (off := 627) (tgt := 659) dL_law_32 (by rw [s17]; decide) (by rw [s17]; decide) (by rw [s17]; rfl) (by decide) kw)⟩
      by_cases s18 : xs i &&& 63 = 18
      · obtain ⟨M', kw⟩ := lc_deadlocked (n := n) (r := r) hsc hN hi4 hx (by omega) (Sty.of hx (st_deadlocked (d := d - 1) hG hx.2.1 h b1 b2 (by omega))) h1 h2 tl
        exact ⟨M', hd _ _ _ (wp_tableIn (off := 650) (tgt := 682) dL_law_32 (by rw [s18]; decide) (by rw [s18]; decide) (by rw [s18]; rfl) (by decide) kw)⟩
      by_cases s19 : xs i &&& 63 = 19
      · obtain ⟨M', kw⟩ := lc_lockState (n := n) (r := r) hsc hN hi4 hx (by omega) (Sty.of hx (st_lockState (d := d - 1) hG hx.2.1 h b1 b2 (by omega))) h1 h2 tl
        exact ⟨M', hd _ _ _ (wp_tableIn (off := 663) (tgt := 695) dL_law_32 (by rw [s19]; decide) (by rw [s19]; decide) (by rw [s19]; rfl) (by decide) kw)⟩
      by_cases s20 : xs i &&& 63 = 20
      · obtain ⟨M', kw⟩ := lc_owner (n := n) (r := r) hsc hN hi4 hx (by omega) (Sty.of hx (st_owner (d := d - 1) hG hx.2.1 h b1 b2 (by omega))) h1 h2 tl
        exact ⟨M', hd _ _ _ (wp_tableIn (off := 686) (tgt := 718) dL_law_32 (by rw [s20]; decide) (by rw [s20]; decide) (by rw [s20]; rfl) (by decide) kw)⟩
      by_cases s21 : xs i &&& 63 = 21
      · obtain ⟨M', kw⟩ := lc_count (n := n) (r := r) hsc hN hi4 hx (by omega) (Sty.of hx (st_count (d := d - 1) hG hx.2.1 h b1 b2 (by omega))) h1 h2 tl
        exact ⟨M', hd _ _ _ (wp_tableIn (off := 709) (tgt := 741) dL_law_32 (by rw [s21]; decide) (by rw [s21]; decide) (by rw [s21]; rfl) (by decide) kw)⟩
      by_cases s22 : xs i &&& 63 = 22
      · obtain ⟨M', kw⟩ := lc_bias (n := n) (r := r) hsc hN hi4 hx (by omega) (Sty.of hx (st_bias (d := d - 1) hG hx.2.1 h b1 b2 (by omega))) h1 h2 tl
        exact ⟨M', hd _ _ _ (wp_tableIn (off := 732) (tgt := 764) dL_law_32 (by rw [s22]; decide) (by rw [s22]; decide) (by rw [s22]; rfl) (by decide) kw)⟩
      by_cases s23 : xs i &&& 63 = 23
      · obtain ⟨M', kw⟩ := lc_queued (n := n) (r := r) hsc hN hi4 hx (by omega) (Sty.of hx (st_queued (d := d - 1) hG hx.2.1 h b1 b2 (by omega))) h1 h2 tl
        exact ⟨M', hd _ _ _ (wp_tableIn (off := 755) (tgt := 787) dL_law_32 (by rw [s23]; decide) (by rw [s23]; decide) (by rw [s23]; rfl) (by decide) kw)⟩
      by_cases s24 : xs i &&& 63 = 24
      · obtain ⟨M', kw⟩ := lc_waiting (n := n) (r := r) hsc hN hi4 hx (by omega) (Sty.of hx (st_waiting (d := d - 1) hG hx.2.1 h b1 b2 (by omega))) h1 h2 tl
        exact ⟨M', hd _ _ _ (wp_tableIn (off := 788) (tgt := 820) dL_law_32 (by rw [s24]; decide) (by rw [s24]; decide) (by rw [s24]; rfl) (by decide) kw)⟩
      by_cases s25 : xs i &&& 63 = 25
      · obtain ⟨M', kw⟩ := lc_describe (n := n) (r := r) hsc hN hi4 hx (by omega) (st_describe (d := d - 1) hG hNS hg hK hJ hx h b1 b2 (by omega)) h1 h2 tl
        exact ⟨M', hd _ _ _ (wp_tableIn (off := 821) (tgt := 853) dL_law_32 (by rw [s25]; decide) (by rw [s25]; decide) (by rw [s25]; rfl) (by decide) kw)⟩
      by_cases s26 : xs i &&& 63 = 26
      · obtain ⟨M', kw⟩ := lc_type (n := n) (r := r) hsc hN hi4 hx (by omega) (Sty.of hx (st_type (d := d - 1) hG hx.2.1 h b1 b2 (by omega))) h1 h2 tl
        exact ⟨M', hd _ _ _ (wp_tableIn (off := 854) (tgt := 886) dL_law_32 (by rw [s26]; decide) (by rw [s26]; decide) (by rw [s26]; rfl) (by decide) kw)⟩
      by_cases s27 : xs i &&& 63 = 27
      · obtain ⟨M', kw⟩ := lc_time (n := n) (r := r) hsc hN hi4 hx (by omega) (Sty.of hx (st_time (d := d - 1) hG hx.2.1 h b1 b2 (by omega))) h1 h2 tl
        exact ⟨M', hd _ _ _ (wp_tableIn (off := 887) (tgt := 919) dL_law_32 (by rw [s27]; decide) (by rw [s27]; decide) (by rw [s27]; rfl) (by decide) kw)⟩
      by_cases s28 : xs i &&& 63 = 28
      · obtain ⟨M', kw⟩ := lc_monitors (n := n) (r := r) hsc hN hi4 hx (by omega) (Sty.of hx (st_monitors (d := d - 1) hG hx.2.1 h b1 b2 (by omega))) h1 h2 tl
        exact ⟨M', hd _ _ _ (wp_tableIn (off := 900) (tgt := 932) dL_law_32 (by rw [s28]; decide) (by rw [s28]; decide) (by rw [s28]; rfl) (by decide) kw)⟩
      by_cases s29 : xs i &&& 63 = 29
      · obtain ⟨M', kw⟩ := lc_counted (n := n) (r := r) hsc hN hi4 hx (by omega) (Sty.of hx (st_counted (d := d - 1) hG hx.2.1 h b1 b2 (by omega))) h1 h2 tl
        exact ⟨M', hd _ _ _ (wp_tableIn (off := 913) (tgt := 945) dL_law_32 (by rw [s29]; decide) (by rw [s29]; decide) (by rw [s29]; rfl) (by decide) kw)⟩
      by_cases s30 : xs i &&& 63 = 30
      · obtain ⟨M', kw⟩ := lc_cost (n := n) (r := r) hsc hN hi4 hx (by omega) (Sty.of hx (st_cost (d := d - 1) hZ hG hx.2.1 h b1 b2 (by omega))) h1 h2 tl
        exact ⟨M', hd _ _ _ (wp_tableIn (off := 936) (tgt := 968) dL_law_32 (by rw [s30]; decide) (by rw [s30]; decide) (by rw [s30]; rfl) (by decide) kw)⟩
      by_cases s31 : xs i &&& 63 = 31
      · obtain ⟨M', kw⟩ := lc_recorded (n := n) (r := r) hsc hN hi4 hx (by omega) (Sty.of hx (st_recorded (d := d - 1) hG hx.2.1 h b1 b2)) h1 h2 tl
        exact ⟨M', hd _ _ _ (wp_tableIn (off := 949) (tgt := 981) dL_law_32 (by rw [s31]; decide) (by rw [s31]; decide) (by rw [s31]; rfl) (by decide) kw)⟩
      by_cases s32 : xs i &&& 63 = 32
      · obtain ⟨M', kw⟩ := lc_replayCost (n := n) (r := r) hsc hN hi4 hx (by omega) (Sty.of hx (st_replayCost (d := d - 1) hZ hG hx.2.1 h b1 b2 (by omega))) h1 h2 tl
        exact ⟨M', hd _ _ _ (wp_tableIn (off := 962) (tgt := 994) dL_law_32 (by rw [s32]; decide) (by rw [s32]; decide) (by rw [s32]; rfl) (by decide) kw)⟩
      by_cases s33 : xs i &&& 63 = 33
      · obtain ⟨M', kw⟩ := lc_bestValue (n := n) (r := r) hsc hN hi4 hx (by omega) (Sty.of hx (st_bestValue (d := d - 1) hZ hG hx.2.1 h b1 b2 (by omega))) h1 h2 tl
        exact ⟨M', hd _ _ _ (wp_tableIn (off := 995) (tgt := 1027) dL_law_32 (by rw [s33]; decide) (by rw [s33]; decide) (by rw [s33]; rfl) (by decide) kw)⟩
      by_cases s34 : xs i &&& 63 = 34
      · obtain ⟨M', kw⟩ := lc_write (n := n) (r := r) hsc hN hi4 hx (by omega) (Sty.of hx (st_write (d := d - 1) hG hx.2.1 h b1 b2 (by omega))) h1 h2 tl
        exact ⟨M', hd _ _ _ (wp_tableIn (off := 1018) (tgt := 1050) dL_law_32 (by rw [s34]; decide) (by rw [s34]; decide) (by rw [s34]; rfl) (by decide) kw)⟩
      by_cases s35 : xs i &&& 63 = 35
      · obtain ⟨M', kw⟩ := lc_wipe (n := n) (r := r) hsc hN hi4 hx (by omega) (Sty.of hx (st_wipe (d := d - 1) hG hx.2.1 h b1 b2)) h1 h2 tl
        exact ⟨M', hd _ _ _ (wp_tableIn (off := 1041) (tgt := 1073) dL_law_32 (by rw [s35]; decide) (by rw [s35]; decide) (by rw [s35]; rfl) (by decide) kw)⟩
      by_cases s36 : xs i &&& 63 = 36
      · obtain ⟨M', kw⟩ := lc_fault (n := n) (r := r) hsc hN hi4 hx (by omega) (Sty.of hx (st_fault (d := d - 1) hNS hf hJ hG hx.2.1 h b1 b2 (by omega))) h1 h2 tl
        exact ⟨M', hd _ _ _ (wp_tableIn (off := 1054) (tgt := 1086) dL_law_32 (by rw [s36]; decide) (by rw [s36]; decide) (by rw [s36]; rfl) (by decide) kw)⟩
      by_cases s37 : xs i &&& 63 = 37
      · obtain ⟨M', kw⟩ := lc_run (n := n) (r := r) hsc hN hi4 hx (by omega) (Sty.of hx (st_run (d := d - 1) hNS hf hJ hG hx.2.1 h b1 b2 (by omega))) h1 h2 tl
        exact ⟨M', hd _ _ _ (wp_tableIn (off := 1067) (tgt := 1099) dL_law_32 (by rw [s37]; decide) (by rw [s37]; decide) (by rw [s37]; rfl) (by decide) kw)⟩
      by_cases s38 : xs i &&& 63 = 38
      · obtain ⟨M', kw⟩ := lc_save (n := n) (r := r) hsc hN hi4 hx (by omega) (Sty.of hx (st_save (d := d - 1) hG hx.2.1 h b1 b2 (by omega))) h1 h2 tl
        exact ⟨M', hd _ _ _ (wp_tableIn (off := 1080) (tgt := 1112) dL_law_32 (by rw [s38]; decide) (by rw [s38]; decide) (by rw [s38]; rfl) (by decide) kw)⟩
      by_cases s39 : xs i &&& 63 = 39
      · obtain ⟨M', kw⟩ := lc_restore (n := n) (r := r) hsc hN hi4 hx (by omega) (Sty.of hx (st_restore (d := d - 1) hG hx.2.1 h b1 b2 (by omega))) h1 h2 tl
        exact ⟨M', hd _ _ _ (wp_tableIn (off := 1103) (tgt := 1135) dL_law_32 (by rw [s39]; decide) (by rw [s39]; decide) (by rw [s39]; rfl) (by decide) kw)⟩
      obtain ⟨M', kw⟩ := tl M S b m t hx (SR.mo h (Nat.le_add_right n 100) (Nat.le_add_right r 20000) b1 b2) k q h1 h2
      exact ⟨M', hd _ _ _ (wp_tableOut (tgt := 1158) dL_law_32 (swl s0 s1 s2 s3 s4 s5 s6 s7 s8 s9 s10 s11 s12 s13 s14 s15 s16 s17 s18 s19 s20 s21 s22 s23 s24 s25 s26 s27 s28 s29 s30 s31 s32 s33 s34 s35 s36 s37 s38 s39) (by decide) kw)⟩
end LW
