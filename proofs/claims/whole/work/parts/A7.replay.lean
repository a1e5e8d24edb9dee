/-! costs and replays -/
set_option maxHeartbeats 1000000 in
theorem lp_price {G : GG} {B : Nat} {C : Nat → Int32} {E0 : Nat → va_E} {L : List Nat} {sz d : Nat} {aL aG aF aP : Nat} (hZ : GSt G aL aG aF aP) (hG : GOK G) (hL : rIn (wR G B) L) (n : Nat) : ∀ (i : Nat) (a : Int32), i + n = 9 → WP G iX9_price d 0 0 (some (.int (pcC C n i a))) (Wm G B C E0 L sz) 4 [some (.ref (B + 3)), some (.int a), some (.int (nI i))] [] (Wm G B C E0 L sz) 0 0 := by
  induction n with
  | zero =>
    intro i a hi
    refine wp_ild2 dX9_price_4 ?_
    refine wp_bipush (v := 9) dX9_price_5 (by decide) ?_
    refine wp_icmp_ge (tgt := 34) dX9_price_7 (by decide) (fun c_7 => ?_) (fun c_7 => absurd (nI_le (a := 9) (b := i) (by omega) (by omega)) c_7)
    refine wp_ild1 dX9_price_34 ?_
    exact wp_iret dX9_price_35 rfl (Nat.le_refl _) (Nat.le_refl _) (by first | with_reducible rfl | (simp only [pcC]; done) | (simp only [pcC]; rfl) | rfl) (by first | with_reducible rfl | (simp only [pcC]; done) | (simp only [pcC]; rfl) | rfl)
  | succ n ih =>
    intro i a hi
    refine wp_ild2 dX9_price_4 ?_
    refine wp_bipush (v := 9) dX9_price_5 (by decide) ?_
    refine wp_icmp_ge (tgt := 34) dX9_price_7 (by decide) (fun c_7 => absurd c_7 (nI_ge (a := i) (b := 9) (by omega) (by omega))) (fun c_7 => ?_)
    refine wp_ild2 dX9_price_10 ?_
    refine wp_ald0 dX9_price_11 ?_
    refine l_counts dX9_price_12 hG hL ?_
    refine wp_icmp_ge (tgt := 34) dX9_price_13 (by decide) (fun c_13 => absurd c_13 (nI_ge (a := i) (b := 9) (by omega) (by omega))) (fun c_13 => ?_)
    refine wp_ild1 dX9_price_16 ?_
    refine wp_gets dX9_price_17 hZ.2.2.2.1 sX9_9 ?_
    refine wp_ild2 dX9_price_20 ?_
    refine wp_tald (v := .int (sPrice i)) dX9_price_21 hZ.2.2.2.2 (nI_in (by omega) (by decide)) (by show Value.int (sPrice (nt (nI i))) = _; rw [ntn (by omega)]) ?_
    refine wp_ald0 dX9_price_22 ?_
    refine wp_ild2 dX9_price_23 ?_
    refine r_counts (i' := i) dX9_price_24 hG hL rfl (by first | assumption | omega) ?_
    refine wp_imul dX9_price_25 ?_
    refine wp_iadd dX9_price_26 ?_
    refine wp_ist1 dX9_price_27 (by decide) rfl ?_
    refine wp_inc2 dX9_price_28 (by decide) rfl ?_
    refine wp_goto (tgt := 4) dX9_price_31 (by decide) ?_
    simp only [pcC]
    exact WP.fg (by simp [lcle]) (ih (i + 1) _ (by omega))
set_option maxHeartbeats 1000000 in
theorem ct_price {G : GG} {B : Nat} {C : Nat → Int32} {E0 : Nat → va_E} {L : List Nat} {sz d : Nat}  (hG : GOK G) (hL : rIn (wR G B) L) {aL aG aF aP : Nat} (hZ : GSt G aL aG aF aP) : Ct G d yX9_price iX9_price [.ref (B + 3)] (Wm G B C E0 L sz) 0 0 (some (.int (pcC C 9 0 0))) (Wm G B (C) E0 L sz) := by
  refine Ct.of 2 (by decide) rfl (by decide) (Nat.le_of_ble_eq_true rfl) ?_
  show WP _ _ _ _ _ _ _ 0 [some (.ref (B + 3)), none, none] [] _ 0 0
  refine wp_iconst (v := 0) dX9_price_0 (by decide) ?_
  refine wp_ist1 dX9_price_1 (by decide) rfl ?_
  refine wp_iconst (v := 0) dX9_price_2 (by decide) ?_
  refine wp_ist2 dX9_price_3 (by decide) rfl ?_
  exact WP.fg (by simp [lcle, nI_0]) (lp_price hZ hG hL 9 0 0 rfl)

set_option maxHeartbeats 1000000 in
theorem cx_cost {G : GG} {X : Nat} {C : Nat → Int32} {E0 : Nat → va_E} {L : List Nat} {sz d : Nat}  (hG : GOK G) (hL : rIn (wR G (X + 1)) L) (hX : XO X L E0) {aL aG aF aP : Nat} (hZ : GSt G aL aG aF aP) (hdp : 1 ≤ d) : Ct G d yX11_cost iX11_cost [.ref X] (Wm G (X + 1) (C) E0 L sz) 0 0 (some (.int (pcC C 9 0 0))) (Wm G (X + 1) (C) E0 L sz) := by
  refine Ct.of 0 (by decide) rfl (by decide) (Nat.le_of_ble_eq_true rfl) ?_
  show WP _ _ _ _ _ _ _ 0 [some (.ref X)] [] _ 0 0
  refine wp_ald0 dX11_cost_0 ?_
  refine gx_world dX11_cost_1 fX11_10 hX ?_
  refine g_World_counts dX11_cost_4 fX11_200 hL ?_
  refine ci_1 dX11_cost_7 kX11_204 (ct_price (d := d - 1) hG hL hZ) (by omega) (Nat.le_of_ble_eq_true rfl) (Nat.le_refl _) (Nat.le_refl _) ?_
  exact wp_iret dX11_cost_10 rfl (Nat.le_refl _) (Nat.le_refl _) (by rfl) (by rfl)

theorem xs_copy2 {G : GG} {X : Nat} {S : Nat → Nat → Int32} {E : Nat → va_E} {L : List Nat} {sz d : Nat}  (hG : GOK G) (hX : XIn X L)  (hdp : 1 ≤ d) : Ct G d yX6_copyFrom iX6_copyFrom [.ref (X + 57 + 1), .ref (X + 1 + 1)] (Xm G X S E L sz) 0 0 none (Xm G X (updS S 2 (blk 1 8 (S 1) (S 2))) E L sz) := Ct.xm (i := 2) (by decide) (cc_settings (B := X + 57) (B2 := X + 1) (C2 := S 1) hG (hX.r (G := G) (i := 2) (by decide)) (hX.r (G := G) (i := 1) (by decide)) (xr_dj G X 2 1 (by decide) (by decide) (by decide)) (Xm_at (i := 1) (by decide)) hdp)
theorem xs_change2 {G : GG} {X : Nat} {S : Nat → Nat → Int32} {E : Nat → va_E} {L : List Nat} {sz d : Nat} {x v : Int32} {aL aG aF aP : Nat} (hZ : GSt G aL aG aF aP) (hG : GOK G) (hX : XIn X L)  (hdp : 2 ≤ d) : Ct G d yX6_change iX6_change [.ref (X + 57 + 1), .int x, .int v] (Xm G X S E L sz) 0 0 none (Xm G X (updS S 2 (chgF (S 2) x v)) E L sz) := Ct.xm (i := 2) (by decide) (ct_change (B := X + 57) hG (hX.r (G := G) (i := 2) (by decide)) hZ hdp)
theorem xw_begin2 {G : GG} {X : Nat} {S : Nat → Nat → Int32} {E : Nat → va_E} {L : List Nat} {sz d : Nat} {T : Int32} (hG : GOK G) (hX : XIn X L)  (hdp : 2 ≤ d) : Ct G d yX10_begin iX10_begin [.ref (X + 57), .int T] (Xm G X S E L sz) 0 0 none (Xm G X (updS S 2 (begF (S 2) T)) E L sz) := Ct.xm (i := 2) (by decide) (ct_begin (B := X + 57) hG (hX.r (G := G) (i := 2) (by decide)) hdp)
theorem xw_perform2 {G : GG} {X : Nat} {S : Nat → Nat → Int32} {E : Nat → va_E} {L : List Nat} {sz d : Nat} {op a b c : Int32} (hG : GOK G) (hX : XIn X L) (hW : WI (S 2)) (hdp : 5 ≤ d) : Ct G d yX10_perform iX10_perform [.ref (X + 57), .int op, .int a, .int b, .int c] (Xm G X S E L sz) 0 0 (some (.int ((perfF (S 2) op a b c).1))) (Xm G X (updS S 2 (perfF (S 2) op a b c).2) E L sz) := Ct.xm (i := 2) (by decide) (ct_perform (B := X + 57) hG (hX.r (G := G) (i := 2) (by decide)) hW hdp)
theorem xw_price2 {G : GG} {X : Nat} {S : Nat → Nat → Int32} {E : Nat → va_E} {L : List Nat} {sz d : Nat} {aL aG aF aP : Nat} (hZ : GSt G aL aG aF aP) (hG : GOK G) (hX : XIn X L)  : Ct G d yX9_price iX9_price [.ref (X + 57 + 3)] (Xm G X S E L sz) 0 0 (some (.int (pcC (S 2) 9 0 0))) (Xm G X (S) E L sz) := Ct.xq (i := 2) (by decide) (ct_price (B := X + 57) hG (hX.r (G := G) (i := 2) (by decide)) hZ)
/-- the record that is replayed -/
def RPJ (J F : Nat → Int32) (m : Nat) : Prop := ∀ k, k < m → isOp (J k) ∧ F (2000 + (242 + 4 * k)) = J k ∧ F (2000 + (242 + 4 * k + 1)) = J (100 + k) ∧ F (2000 + (242 + 4 * k + 2)) = J (200 + k) ∧ F (2000 + (242 + 4 * k + 3)) = J (300 + k)
set_option maxHeartbeats 2000000 in
theorem lx_cw {G : GG} {X : Nat} {E : Nat → va_E} {L : List Nat} {sz d m : Nat} {aL aG aF aP : Nat} (hZ : GSt G aL aG aF aP) (hG : GOK G) (hX : XIn X L) (hm : m ≤ 60) (hdp : 6 ≤ d) (n : Nat) : ∀ (i : Nat) (S : Nat → Nat → Int32) (F : Nat → Int32) (q r : Nat), i + n = m → S 3 400 = nI m → RPJ (S 3) F m → Rel (S 2) F → INV F q r → OKr F → q + n ≤ 100000 → r + 200 * n ≤ 100000000 → ∃ S', (∀ k, k ≠ 2 → S' k = S k) ∧ WP G iX11_costWith d 0 0 (some (.int (costQ (rpL n i F)))) (Xm G X S' E L sz) 45 [some (.ref X), none, none, some (.int (nI i))] [] (Xm G X S E L sz) 0 0 := by
  induction n with
  | zero =>
    intro i S F q r hi hJ hP hR hI hr h1 h2
    refine ⟨S, fun _ _ => rfl, ?_⟩
    show WP _ _ _ _ _ (some (.int (costQ F))) _ _ _ _ _ _ _
    rw [← q_cost hR]
    refine wp_ild3 dX11_costWith_45 ?_
    refine wp_ald0 dX11_costWith_46 ?_
    refine gX_journal dX11_costWith_47 fX11_22 hX ?_
    refine gX_Jsize dX11_costWith_50 fX11_208 hX ?_
    refine wp_icmp_ge (tgt := 106) dX11_costWith_53 (by decide) (fun c_53 => ?_) (fun c_53 => absurd (by rw [hJ]; exact nI_le (by omega) (by omega)) c_53)
    refine wp_ald0 dX11_costWith_106 ?_
    refine gX_trial dX11_costWith_107 fX11_16 hX ?_
    refine gX_counts2 dX11_costWith_110 fX11_200 hX ?_
    refine ci_1 dX11_costWith_113 kX11_204 (xw_price2 (d := d - 1) hZ hG hX) (by omega) (Nat.le_of_ble_eq_true rfl) (Nat.le_refl _) (Nat.le_refl _) ?_
    exact wp_iret dX11_costWith_116 rfl (Nat.le_refl _) (Nat.le_refl _) (by rfl) (by rfl)
  | succ n ih =>
    intro i S F q r hi hJ hP hR hI hr h1 h2
    obtain ⟨p0, p1, p2, p3, p4⟩ := hP i (by omega)
    have eS : rpS F i = (opM F (S 3 i) (S 3 (100 + i)) (S 3 (200 + i)) (S 3 (300 + i))).2 := by
      unfold rpS
      rw [p1, p2, p3, p4]
    obtain ⟨o1, o2, o3⟩ := op_all (a := S 3 (100 + i)) (b := S 3 (200 + i)) (c := S 3 (300 + i)) hR hI hr (by omega) (by omega) p0
    have ro := ro_op (op := S 3 i) (a := S 3 (100 + i)) (b := S 3 (200 + i)) (c := S 3 (300 + i)) hI.2.1 hr
    have g3 : updS S 2 (perfF (S 2) (S 3 i) (S 3 (100 + i)) (S 3 (200 + i)) (S 3 (300 + i))).2 3 = S 3 := updS_ne (by decide)
    have g2 : updS S 2 (perfF (S 2) (S 3 i) (S 3 (100 + i)) (S 3 (200 + i)) (S 3 (300 + i))).2 2 = (perfF (S 2) (S 3 i) (S 3 (100 + i)) (S 3 (200 + i)) (S 3 (300 + i))).2 := updS_eq
    obtain ⟨S', f1, kw⟩ := ih (i + 1) (updS S 2 (perfF (S 2) (S 3 i) (S 3 (100 + i)) (S 3 (200 + i)) (S 3 (300 + i))).2) (rpS F i) (q + 1) (r + 200) (by omega) (by rw [g3]; exact hJ) (by
      rw [g3, eS]
      intro k hk
      obtain ⟨a0, a1, a2, a3, a4⟩ := hP k hk
      exact ⟨a0, (ro.2.2 _ (by omega)).trans a1, (ro.2.2 _ (by omega)).trans a2, (ro.2.2 _ (by omega)).trans a3, (ro.2.2 _ (by omega)).trans a4⟩) (by rw [g2, eS]; exact o2) (by rw [eS]; exact o3) (by rw [eS]; exact ro.2.1) (by omega) (by omega)
    refine ⟨S', fun k hk => (f1 k hk).trans (updS_ne hk), ?_⟩
    show WP _ _ _ _ _ (some (.int (costQ (rpL n (i + 1) (rpS F i))))) _ _ _ _ _ _ _
    refine wp_ild3 dX11_costWith_45 ?_
    refine wp_ald0 dX11_costWith_46 ?_
    refine gX_journal dX11_costWith_47 fX11_22 hX ?_
    refine gX_Jsize dX11_costWith_50 fX11_208 hX ?_
    refine wp_icmp_ge (tgt := 106) dX11_costWith_53 (by decide) (fun c_53 => absurd c_53 (by rw [hJ]; exact nI_ge (by omega) (by omega))) (fun c_53 => ?_)
    refine wp_ald0 dX11_costWith_56 ?_
    refine gX_trial dX11_costWith_57 fX11_16 hX ?_
    refine wp_ald0 dX11_costWith_60 ?_
    refine gX_journal dX11_costWith_61 fX11_22 hX ?_
    refine gX_Joperations dX11_costWith_64 fX11_225 hX ?_
    refine wp_ild3 dX11_costWith_67 ?_
    refine rX_operations (i' := i) dX11_costWith_68 hG hX rfl (by first | assumption | omega) ?_
    refine wp_ald0 dX11_costWith_69 ?_
    refine gX_journal dX11_costWith_70 fX11_22 hX ?_
    refine gX_Jfirsts dX11_costWith_73 fX11_228 hX ?_
    refine wp_ild3 dX11_costWith_76 ?_
    refine rX_firsts (i' := i) dX11_costWith_77 hG hX rfl (by first | assumption | omega) ?_
    refine wp_ald0 dX11_costWith_78 ?_
    refine gX_journal dX11_costWith_79 fX11_22 hX ?_
    refine gX_Jseconds dX11_costWith_82 fX11_231 hX ?_
    refine wp_ild3 dX11_costWith_85 ?_
    refine rX_seconds (i' := i) dX11_costWith_86 hG hX rfl (by first | assumption | omega) ?_
    refine wp_ald0 dX11_costWith_87 ?_
    refine gX_journal dX11_costWith_88 fX11_22 hX ?_
    refine gX_Jthirds dX11_costWith_91 fX11_234 hX ?_
    refine wp_ild3 dX11_costWith_94 ?_
    refine rX_thirds (i' := i) dX11_costWith_95 hG hX rfl (by first | assumption | omega) ?_
    refine xW2i_4 dX11_costWith_96 kX11_90 (xw_perform2 (d := d - 1) hG hX hR.wc (by omega)) hX rfl (by omega) (Nat.le_of_ble_eq_true rfl) (Nat.le_refl _) (Nat.le_refl _) ?_
    refine wp_pop dX11_costWith_99 rfl ?_
    refine wp_inc3 dX11_costWith_100 (by decide) rfl ?_
    refine wp_goto (tgt := 45) dX11_costWith_103 (by decide) ?_
    exact WP.fg (by simp [lcle]) kw
theorem rpB_at {F : Nat → Int32} {j k : Nat} {v : Int32} (hj : j < 8) (hk : k < 482) : rpB F j v (2000 + k) = F k := by
  unfold rpB
  rw [begM_at, if_neg (by omega), if_neg (by omega), if_neg (by omega), if_neg (by omega), if_neg (by omega), if_neg (by omega), upd_ne (by omega), cpK_at 482 0 F _ (by omega), if_pos (by omega), show 2000 + k - 2000 = k by omega]
set_option maxHeartbeats 2000000 in
theorem cX_costWith {G : GG} {X : Nat} {S : Nat → Nat → Int32} {E : Nat → va_E} {L : List Nat} {sz d j : Nat} {v : Int32} {F : Nat → Int32} {q r : Nat} {aL aG aF aP : Nat} (hZ : GSt G aL aG aF aP) (hG : GOK G) (hX : XIn X L) (hC : CR S F q r) (hj : j < 8) (hv : allP (nI j) v) (hdp : 6 ≤ d) : ∃ S', (∀ k, k ≠ 2 → S' k = S k) ∧ Ct G d yX11_costWith iX11_costWith [.ref X, .int (nI j), .int v] (Xm G X S E L sz) 0 0 (some (.int (rpM F j v).1)) (Xm G X S' E L sz) := by
  obtain ⟨c1, c2, c3, c4, c5⟩ := hC
  obtain ⟨T, t1, t2, t3, t4⟩ := c2.T
  obtain ⟨m, m1, m2⟩ := c3
  have em : nt (F 241) = m := by rw [m2]; exact ntn (by omega)
  have e0 : upd (cpK 482 0 F) (1 + j) v 0 = nI T := by rw [upd_ne (by omega), cpK_at 482 0 F 0 (by omega), if_neg (by omega)]; exact t3
  have s0 : S 1 0 = nI T := (c1.e (q := 0) (by omega)).trans t3
  have eB : rpB F j v = begM (upd (cpK 482 0 F) (1 + j) v) (nI T) := by unfold rpB; rw [e0]
  have ec : chgF (updS S 2 (blk 1 8 (S 1) (S 2)) 2) (nI j) v = upd (blk 1 8 (S 1) (S 2)) (1 + j) v := by
    unfold chgF
    rw [if_pos hv, updS_eq, ntn (by omega)]
  have hR : Rel (begF (upd (blk 1 8 (S 1) (S 2)) (1 + j) v) (nI T)) (rpB F j v) := by
    rw [eB]
    refine Rel.beg (fun k k1 k2 => ?_) t2
    by_cases z : k = 1 + j
    · subst z; rw [upd_eq, upd_eq]
    · rw [upd_ne z, upd_ne z, cpK_at 482 0 F k (by omega), if_neg (by omega)]
      unfold blk
      rw [if_pos (by omega)]
      exact c1.e (by omega)
  have hI : INV (rpB F j v) 1 0 := by rw [eB]; exact INV.beg t1 t2 (by omega) (by omega) (by omega)
  have hO := (rpB_ok (j := j) (v := v) c1.1 hj).2.1
  have u3 : updS (updS (updS S 2 (blk 1 8 (S 1) (S 2))) 2 (chgF (updS S 2 (blk 1 8 (S 1) (S 2)) 2) (nI j) v)) 2 (begF (updS (updS S 2 (blk 1 8 (S 1) (S 2))) 2 (chgF (updS S 2 (blk 1 8 (S 1) (S 2)) 2) (nI j) v) 2) (updS (updS S 2 (blk 1 8 (S 1) (S 2))) 2 (chgF (updS S 2 (blk 1 8 (S 1) (S 2)) 2) (nI j) v) 1 0)) = updS S 2 (begF (upd (blk 1 8 (S 1) (S 2)) (1 + j) v) (nI T)) := by
    rw [ec, updS_twice, updS_eq, updS_twice, updS_ne (show 1 ≠ 2 by decide), updS_ne (show 1 ≠ 2 by decide), s0]
  have g3 : updS S 2 (begF (upd (blk 1 8 (S 1) (S 2)) (1 + j) v) (nI T)) 3 = S 3 := updS_ne (by decide)
  have g2 : updS S 2 (begF (upd (blk 1 8 (S 1) (S 2)) (1 + j) v) (nI T)) 2 = begF (upd (blk 1 8 (S 1) (S 2)) (1 + j) v) (nI T) := updS_eq
  obtain ⟨S', f1, kw⟩ := lx_cw (E := E) (sz := sz) hZ hG hX m1 hdp m 0 (updS S 2 (begF (upd (blk 1 8 (S 1) (S 2)) (1 + j) v) (nI T))) (rpB F j v) 1 0 (by omega) (by rw [g3]; exact c4.1.trans m2) (by
    rw [g3]
    intro k hk
    obtain ⟨a1, a2, a3, a4⟩ := c4.2 k (by omega)
    rw [rpB_at hj (by omega), rpB_at hj (by omega), rpB_at hj (by omega), rpB_at hj (by omega)]
    exact ⟨by rw [a1]; exact c5 k (by omega), a1.symm, a2.symm, a3.symm, a4.symm⟩) (by rw [g2]; exact hR) hI hO (by omega) (by omega)
  refine ⟨S', fun k hk => (f1 k hk).trans (updS_ne hk), ?_⟩
  have eR : (rpM F j v).1 = costQ (rpL m 0 (rpB F j v)) := by unfold rpM rpE; rw [em]
  rw [eR]
  refine Ct.of 1 (by decide) rfl (by decide) (Nat.le_of_ble_eq_true rfl) ?_
  show WP _ _ _ _ _ _ _ 0 [some (.ref X), some (.int (nI j)), some (.int v), none] [] _ 0 0
  refine wp_ald0 dX11_costWith_0 ?_
  refine gX_trial dX11_costWith_1 fX11_16 hX ?_
  refine gX_settings2 dX11_costWith_4 fX11_68 hX ?_
  refine wp_ald0 dX11_costWith_7 ?_
  refine gX_world dX11_costWith_8 fX11_10 hX ?_
  refine gX_settings1 dX11_costWith_11 fX11_68 hX ?_
  refine xS2v_1 dX11_costWith_14 kX11_221 (xs_copy2 (d := d - 1) hG hX (by omega)) hX rfl (by omega) (Nat.le_of_ble_eq_true rfl) (Nat.le_refl _) (Nat.le_refl _) ?_
  refine wp_ald0 dX11_costWith_17 ?_
  refine gX_trial dX11_costWith_18 fX11_16 hX ?_
  refine gX_settings2 dX11_costWith_21 fX11_68 hX ?_
  refine wp_ild1 dX11_costWith_24 ?_
  refine wp_ild2 dX11_costWith_25 ?_
  refine xS2v_2 dX11_costWith_26 kX11_76 (xs_change2 (d := d - 1) hZ hG hX (by omega)) hX rfl (by omega) (Nat.le_of_ble_eq_true rfl) (Nat.le_refl _) (Nat.le_refl _) ?_
  refine wp_ald0 dX11_costWith_29 ?_
  refine gX_trial dX11_costWith_30 fX11_16 hX ?_
  refine wp_ald0 dX11_costWith_33 ?_
  refine gX_world dX11_costWith_34 fX11_10 hX ?_
  refine gX_threadCount1 dX11_costWith_37 fX11_47 hX ?_
  refine xW2v_1 dX11_costWith_40 kX11_51 (xw_begin2 (d := d - 1) hG hX (by omega)) hX rfl (by omega) (Nat.le_of_ble_eq_true rfl) (Nat.le_refl _) (Nat.le_refl _) ?_
  refine wp_iconst (v := 0) dX11_costWith_43 (by decide) ?_
  refine wp_ist3 dX11_costWith_44 (by decide) rfl ?_
  rw [u3]
  exact WP.fg (by simp [lcle, nI_0]) kw
