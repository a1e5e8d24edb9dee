theorem WI.eowL {T : Nat} : ∀ (n i : Nat) (C : Nat → Int32), i + n = T → T ≤ 6 → WI C → WI (eowL n i C)
  | 0, _, _, _, _, h => h
  | n + 1, i, C, hn, hT, h => WI.eowL (T := T) n (i + 1) _ (by omega) hT (h.eow (by omega))
theorem WI.eowF {C : Nat → Int32} (hW : WI C) : WI (eowF C) := WI.eowL (T := nt (C 0)) _ _ _ (by omega) hW.thr.2 hW
theorem WI.wkL : ∀ (n i : Nat) (C : Nat → Int32) (a : Int32), i + n = 8 → WI C → WI (wkL n i C a).2
  | 0, _, _, _, _, h => h
  | n + 1, i, C, a, hn, h => WI.wkL n (i + 1) _ _ (by omega) (h.wk (by omega))
theorem WI.wkF {C : Nat → Int32} (hW : WI C) : WI (wkF C).2 := WI.wkL _ _ _ _ rfl hW
theorem WI.dfoF {C : Nat → Int32} (hW : WI C) : WI (dfoF C) := hW.of (SameS.dfoL _ _ _ rfl)
def tick1 (C : Nat → Int32) : Int32 × (Nat → Int32) := ((wkF (eowF (upd C 9 (C 9 + 1)))).1, dfoF (wkF (eowF (upd C 9 (C 9 + 1)))).2)
theorem WI.tk1 {C : Nat → Int32} (hW : WI C) : WI (tick1 C).2 := by
  simp only [tick1]
  exact (hW.up (by omega)).eowF.wkF.dfoF
def tkL : Nat → (Nat → Int32) → Int32 → Int32 × (Nat → Int32)
  | 0, C, a => (a, C)
  | n + 1, C, a => tkL n (tick1 C).2 (a + (tick1 C).1)
def tickF (C : Nat → Int32) (z : Int32) : Int32 × (Nat → Int32) := if z < 1 then (-3, C) else if z ≤ 20 then tkL (nt z) C 0 else (-3, C)
theorem nat_of21 {z : Int32} (h0 : ¬ z < 1) (h1 : z ≤ 20) : z = nI (nt z) ∧ nt z < 21 := by
  refine nat_of ?_ ?_ (by decide)
  · intro h
    apply h0
    have a := Int32.lt_iff_toInt_lt.mp h
    exact Int32.lt_iff_toInt_lt.mpr (by have : (1 : Int32).toInt = 1 := by decide
                                        have : (0 : Int32).toInt = 0 := by decide
                                        omega)
  · intro h
    have a := Int32.le_iff_toInt_le.mp h
    have b := Int32.le_iff_toInt_le.mp h1
    have : (nI 21).toInt = 21 := by decide
    have : (20 : Int32).toInt = 20 := by decide
    omega
set_option maxHeartbeats 1000000 in
theorem lp_tick {G : GG} {B : Nat} {E0 : Nat → va_E} {L : List Nat} {sz d : Nat} {z : Int32} {N : Nat} (hG : GOK G) (hL : rIn (wR G B) L) (hz : z = nI N) (hN : N < 21) (hdp : 3 ≤ d) (n : Nat) : ∀ (i : Nat) (C : Nat → Int32) (a : Int32), i + n = N → WI C → WP G iX10_letPass d 0 0 (some (.int (tkL n C a).1)) (Wm G B (tkL n C a).2 E0 L sz) 18 [some (.ref B), some (.int z), some (.int a), some (.int (nI i))] [] (Wm G B C E0 L sz) 0 0 := by
  induction n with
  | zero =>
    intro i C a hi hW
    refine wp_ild3 dX10_letPass_18 ?_
    refine wp_ild1 dX10_letPass_19 ?_
    refine wp_icmp_ge (tgt := 54) dX10_letPass_20 (by decide) (fun c_20 => ?_) (fun c_20 => absurd (by rw [hz]; exact nI_le (by omega) (by omega)) c_20)
    refine wp_ild2 dX10_letPass_54 ?_
    exact wp_iret dX10_letPass_55 rfl (Nat.le_refl _) (Nat.le_refl _) (by first | with_reducible rfl | (simp only [tkL]; done) | (simp only [tkL]; rfl) | rfl) (by first | with_reducible rfl | (simp only [tkL]; done) | (simp only [tkL]; rfl) | rfl)
  | succ n ih =>
    intro i C a hi hW
    refine wp_ild3 dX10_letPass_18 ?_
    refine wp_ild1 dX10_letPass_19 ?_
    refine wp_icmp_ge (tgt := 54) dX10_letPass_20 (by decide) (fun c_20 => absurd c_20 (by rw [hz]; exact nI_ge (by omega) (by omega))) (fun c_20 => ?_)
    refine wp_ald0 dX10_letPass_23 ?_
    refine wp_dup dX10_letPass_24 rfl ?_
    refine g_World_now dX10_letPass_25 fX10_54 hL ?_
    refine wp_iconst (v := 1) dX10_letPass_28 (by decide) ?_
    refine wp_iadd dX10_letPass_29 ?_
    refine p_World_now dX10_letPass_30 pX10_54 hL ?_
    refine wp_ald0 dX10_letPass_33 ?_
    refine vv_World0 dX10_letPass_34 kX10_307 (ct_endOverdueWaits (d := d - 1) hG hL (hW.up (by omega)) (by omega)) hL rfl (by omega) (Nat.le_of_ble_eq_true rfl) (Nat.le_refl _) (Nat.le_refl _) ?_
    refine wp_ild2 dX10_letPass_37 ?_
    refine wp_ald0 dX10_letPass_38 ?_
    refine vi_World0 dX10_letPass_39 kX10_310 (ct_wakeQueues (d := d - 1) hG hL (hW.up (by omega)).eowF (by omega)) hL rfl (by omega) (Nat.le_of_ble_eq_true rfl) (Nat.le_refl _) (Nat.le_refl _) ?_
    refine wp_iadd dX10_letPass_42 ?_
    refine wp_ist2 dX10_letPass_43 (by decide) rfl ?_
    refine wp_ald0 dX10_letPass_44 ?_
    refine vv_World0 dX10_letPass_45 kX10_313 (ct_deflateOverdue (d := d - 1) hG hL (by omega)) hL rfl (by omega) (Nat.le_of_ble_eq_true rfl) (Nat.le_refl _) (Nat.le_refl _) ?_
    refine wp_inc3 dX10_letPass_48 (by decide) rfl ?_
    refine wp_goto (tgt := 18) dX10_letPass_51 (by decide) ?_
    simp only [tkL, tick1]
    exact ih (i + 1) _ _ (by omega) (hW.up (by omega)).eowF.wkF.dfoF
set_option maxHeartbeats 1000000 in
theorem ct_letPass {G : GG} {B : Nat} {C : Nat → Int32} {E0 : Nat → va_E} {L : List Nat} {sz d : Nat} {z : Int32} (hG : GOK G) (hL : rIn (wR G B) L) (hW : WI C) (hdp : 3 ≤ d) : Ct G d yX10_letPass iX10_letPass [.ref B, .int z] (Wm G B C E0 L sz) 0 0 (some (.int (tickF C z).1)) (Wm G B ((tickF C z).2) E0 L sz) := by
  refine Ct.of 2 (by decide) rfl (by decide) (Nat.le_of_ble_eq_true rfl) ?_
  show WP _ _ _ _ _ _ _ 0 [some (.ref B), some (.int z), none, none] [] _ 0 0
  refine wp_ild1 dX10_letPass_0 ?_
  refine wp_iconst (v := 1) dX10_letPass_1 (by decide) ?_
  refine wp_icmp_lt (tgt := 11) dX10_letPass_2 (by decide) (fun c_2 => ?_) (fun c_2 => ?_)
  · refine wp_bipush (v := (-3)) dX10_letPass_11 (by decide) ?_
    exact wp_iret dX10_letPass_13 rfl (Nat.le_refl _) (Nat.le_refl _) (by first | with_reducible rfl | (simp only [tickF, if_pos c_2]; done) | (simp only [tickF, if_pos c_2]; rfl) | rfl) (by first | with_reducible rfl | (simp only [tickF, if_pos c_2]; done) | (simp only [tickF, if_pos c_2]; rfl) | rfl)
  · refine wp_ild1 dX10_letPass_5 ?_
    refine wp_bipush (v := 20) dX10_letPass_6 (by decide) ?_
    refine wp_icmp_le (tgt := 14) dX10_letPass_8 (by decide) (fun c_8 => ?_) (fun c_8 => ?_)
    · refine wp_iconst (v := 0) dX10_letPass_14 (by decide) ?_
      refine wp_ist2 dX10_letPass_15 (by decide) rfl ?_
      refine wp_iconst (v := 0) dX10_letPass_16 (by decide) ?_
      refine wp_ist3 dX10_letPass_17 (by decide) rfl ?_
      simp only [tickF, if_neg c_2, if_pos c_8]
      obtain ⟨hz, hz21⟩ := nat_of21 c_2 c_8
      exact WP.fg (by simp [lcle, nI_0]) (lp_tick hG hL hz hz21 hdp (nt z) 0 C 0 (by omega) hW)
    · refine wp_bipush (v := (-3)) dX10_letPass_11 (by decide) ?_
      exact wp_iret dX10_letPass_13 rfl (Nat.le_refl _) (Nat.le_refl _) (by first | with_reducible rfl | (simp only [tickF, if_neg c_2, if_neg c_8]; done) | (simp only [tickF, if_neg c_2, if_neg c_8]; rfl) | rfl) (by first | with_reducible rfl | (simp only [tickF, if_neg c_2, if_neg c_8]; done) | (simp only [tickF, if_neg c_2, if_neg c_8]; rfl) | rfl)

def wfF (C : Nat → Int32) (x : Int32) : Int32 := if hasT C x then (if C (10 + nt x) = 1 then (if isO (C (28 + nt x)) then C (54 + nt (C (28 + nt x))) else -8) else -8) else -8
def wsL (C : Nat → Int32) (x : Int32) : Nat → Int32 → Bool
  | 0, _ => false
  | n + 1, y => if wfF C y = x then true else wsL C x n (wfF C y)
set_option maxHeartbeats 1000000 in
theorem ct_waitedFor {G : GG} {B : Nat} {C : Nat → Int32} {E0 : Nat → va_E} {L : List Nat} {sz d : Nat} {x : Int32} (hG : GOK G) (hL : rIn (wR G B) L)  (hdp : 1 ≤ d) : Ct G d yX10_waitedFor iX10_waitedFor [.ref B, .int x] (Wm G B C E0 L sz) 0 0 (some (.int (wfF C x))) (Wm G B (C) E0 L sz) := by
  refine Ct.of 2 (by decide) rfl (by decide) (Nat.le_of_ble_eq_true rfl) ?_
  show WP _ _ _ _ _ _ _ 0 [some (.ref B), some (.int x), none, none] [] _ 0 0
  refine wp_ald0 dX10_waitedFor_0 ?_
  refine wp_ild1 dX10_waitedFor_1 ?_
  refine vi_World1 dX10_waitedFor_2 kX10_128 (ct_hasThread (d := d - 1) hG hL) hL rfl (by omega) (Nat.le_of_ble_eq_true rfl) (Nat.le_refl _) (Nat.le_refl _) ?_
  refine wp_ifB_ne (tgt := 11) dX10_waitedFor_5 (by decide) (fun c_5 => ?_) (fun c_5 => ?_)
  · obtain ⟨hx, hxb⟩ := nat_of6 c_5.1 c_5.2.2
    refine wp_ald0 dX10_waitedFor_11 ?_
    refine g_World_strands dX10_waitedFor_12 fX10_26 hL ?_
    refine wp_ild1 dX10_waitedFor_15 ?_
    refine r_strands (i' := nt x) dX10_waitedFor_16 hG hL hx (by first | assumption | omega) ?_
    refine wp_ast2 dX10_waitedFor_17 (by decide) rfl ?_
    refine wp_ald2 dX10_waitedFor_18 ?_
    refine g_Strand_state dX10_waitedFor_19 fX10_135 hL (by assumption) ?_
    refine wp_iconst (v := 1) dX10_waitedFor_22 (by decide) ?_
    refine wp_icmp_ne (tgt := 40) dX10_waitedFor_23 (by decide) (fun c_23 => ?_) (fun c_23 => ?_)
    · refine wp_iconst (v := 0) dX10_waitedFor_40 (by decide) ?_
      refine wp_ist3 dX10_waitedFor_41 (by decide) rfl ?_
      refine wp_ild3 dX10_waitedFor_42 ?_
      refine wp_if_eq (tgt := 61) dX10_waitedFor_43 (by decide) (fun _ => ?_) (fun h => absurd h (by decide))
      refine wp_bipush (v := (-8)) dX10_waitedFor_61 (by decide) ?_
      exact wp_iret dX10_waitedFor_63 rfl (Nat.le_refl _) (Nat.le_refl _) (by first | with_reducible rfl | (simp only [wfF, if_pos c_5, if_neg c_23]; done) | (simp only [wfF, if_pos c_5, if_neg c_23]; rfl) | rfl) (by first | with_reducible rfl | (simp only [wfF, if_pos c_5, if_neg c_23]; done) | (simp only [wfF, if_pos c_5, if_neg c_23]; rfl) | rfl)
    · refine wp_ald2 dX10_waitedFor_26 ?_
      refine g_Strand_place dX10_waitedFor_27 fX10_216 hL (by assumption) ?_
      refine ci_isObj rfl dX10_waitedFor_30 (ct_isObject (d := d - 1)) (by omega) (Nat.le_of_ble_eq_true rfl) (Nat.le_refl _) (Nat.le_refl _) ?_
      refine wp_ifB_eq (tgt := 40) dX10_waitedFor_33 (by decide) (fun c_33 => ?_) (fun c_33 => ?_)
      · refine wp_iconst (v := 0) dX10_waitedFor_40 (by decide) ?_
        refine wp_ist3 dX10_waitedFor_41 (by decide) rfl ?_
        refine wp_ild3 dX10_waitedFor_42 ?_
        refine wp_if_eq (tgt := 61) dX10_waitedFor_43 (by decide) (fun _ => ?_) (fun h => absurd h (by decide))
        refine wp_bipush (v := (-8)) dX10_waitedFor_61 (by decide) ?_
        exact wp_iret dX10_waitedFor_63 rfl (Nat.le_refl _) (Nat.le_refl _) (by first | with_reducible rfl | (simp only [wfF, if_pos c_5, if_pos c_23, if_neg c_33]; done) | (simp only [wfF, if_pos c_5, if_pos c_23, if_neg c_33]; rfl) | rfl) (by first | with_reducible rfl | (simp only [wfF, if_pos c_5, if_pos c_23, if_neg c_33]; done) | (simp only [wfF, if_pos c_5, if_pos c_23, if_neg c_33]; rfl) | rfl)
      · refine wp_iconst (v := 1) dX10_waitedFor_36 (by decide) ?_
        refine wp_goto (tgt := 41) dX10_waitedFor_37 (by decide) ?_
        refine wp_ist3 dX10_waitedFor_41 (by decide) rfl ?_
        refine wp_ild3 dX10_waitedFor_42 ?_
        refine wp_if_eq (tgt := 61) dX10_waitedFor_43 (by decide) (fun h => absurd h (by decide)) (fun _ => ?_)
        refine wp_ald0 dX10_waitedFor_46 ?_
        refine g_World_locks dX10_waitedFor_47 fX10_32 hL ?_
        refine wp_ald2 dX10_waitedFor_50 ?_
        refine g_Strand_place dX10_waitedFor_51 fX10_216 hL (by assumption) ?_
        obtain ⟨hp, hpb⟩ := nat_of8 c_33.1 c_33.2
        refine r_locks (i' := nt (C (28 + nt x))) dX10_waitedFor_54 hG hL hp (by first | assumption | omega) ?_
        refine g_Lock_holder dX10_waitedFor_55 fX10_184 hL (by assumption) ?_
        refine wp_goto (tgt := 63) dX10_waitedFor_58 (by decide) ?_
        exact wp_iret dX10_waitedFor_63 rfl (Nat.le_refl _) (Nat.le_refl _) (by first | with_reducible rfl | (simp only [wfF, if_pos c_5, if_pos c_23, if_pos c_33]; done) | (simp only [wfF, if_pos c_5, if_pos c_23, if_pos c_33]; rfl) | rfl) (by first | with_reducible rfl | (simp only [wfF, if_pos c_5, if_pos c_23, if_pos c_33]; done) | (simp only [wfF, if_pos c_5, if_pos c_23, if_pos c_33]; rfl) | rfl)
  · refine wp_bipush (v := (-8)) dX10_waitedFor_8 (by decide) ?_
    exact wp_iret dX10_waitedFor_10 rfl (Nat.le_refl _) (Nat.le_refl _) (by first | with_reducible rfl | (simp only [wfF, if_neg c_5]; done) | (simp only [wfF, if_neg c_5]; rfl) | rfl) (by first | with_reducible rfl | (simp only [wfF, if_neg c_5]; done) | (simp only [wfF, if_neg c_5]; rfl) | rfl)

set_option maxHeartbeats 1000000 in
theorem lp_ws {G : GG} {B : Nat} {C : Nat → Int32} {E0 : Nat → va_E} {L : List Nat} {sz d : Nat} {T : Nat} {x : Int32} (hG : GOK G) (hL : rIn (wR G B) L) (hT : C 0 = nI T) (hT6 : T ≤ 6) (hdp : 2 ≤ d) (n : Nat) : ∀ (i : Nat) (y : Int32), i + n = T → WP G iX10_waitsForItself d 0 0 (some (.int (bI (wsL C x n y = true)))) (Wm G B C E0 L sz) 4 [some (.ref B), some (.int x), some (.int y), some (.int (nI i))] [] (Wm G B C E0 L sz) 0 0 := by
  induction n with
  | zero =>
    intro i y hi
    refine wp_ild3 dX10_waitsForItself_4 ?_
    refine wp_ald0 dX10_waitsForItself_5 ?_
    refine g_World_threadCount dX10_waitsForItself_6 fX10_50 hL ?_
    refine wp_icmp_ge (tgt := 31) dX10_waitsForItself_9 (by decide) (fun c_9 => ?_) (fun c_9 => absurd (by rw [hT]; exact nI_le (by omega) (by omega)) c_9)
    refine wp_iconst (v := 0) dX10_waitsForItself_31 (by decide) ?_
    exact wp_zret dX10_waitsForItself_32 rfl rfl (Nat.le_refl _) (Nat.le_refl _) (by first | with_reducible rfl | (simp [bI, wsL, ]; done)) (by first | with_reducible rfl | (simp [bI, wsL, ]; done))
  | succ n ih =>
    intro i y hi
    refine wp_ild3 dX10_waitsForItself_4 ?_
    refine wp_ald0 dX10_waitsForItself_5 ?_
    refine g_World_threadCount dX10_waitsForItself_6 fX10_50 hL ?_
    refine wp_icmp_ge (tgt := 31) dX10_waitsForItself_9 (by decide) (fun c_9 => absurd c_9 (by rw [hT]; exact nI_ge (by omega) (by omega))) (fun c_9 => ?_)
    have hi6 : i < 6 := by omega
    refine wp_ald0 dX10_waitsForItself_12 ?_
    refine wp_ild2 dX10_waitsForItself_13 ?_
    refine vi_World1 dX10_waitsForItself_14 kX10_316 (ct_waitedFor (d := d - 1) hG hL (by omega)) hL rfl (by omega) (Nat.le_of_ble_eq_true rfl) (Nat.le_refl _) (Nat.le_refl _) ?_
    refine wp_ist2 dX10_waitsForItself_17 (by decide) rfl ?_
    refine wp_ild2 dX10_waitsForItself_18 ?_
    refine wp_ild1 dX10_waitsForItself_19 ?_
    refine wp_icmp_ne (tgt := 25) dX10_waitsForItself_20 (by decide) (fun c_20 => ?_) (fun c_20 => ?_)
    · refine wp_inc3 dX10_waitsForItself_25 (by decide) rfl ?_
      refine wp_goto (tgt := 4) dX10_waitsForItself_28 (by decide) ?_
      rw [show wsL C x (n + 1) y = wsL C x n (wfF C y) by simp [wsL, c_20]]
      exact ih (i + 1) _ (by omega)
    · refine wp_iconst (v := 1) dX10_waitsForItself_23 (by decide) ?_
      exact wp_zret dX10_waitsForItself_24 rfl rfl (Nat.le_refl _) (Nat.le_refl _) (by first | with_reducible rfl | (simp [bI, wsL, c_20]; done)) (by first | with_reducible rfl | (simp [bI, wsL, c_20]; done))
set_option maxHeartbeats 1000000 in
theorem ct_waitsForItself {G : GG} {B : Nat} {C : Nat → Int32} {E0 : Nat → va_E} {L : List Nat} {sz d : Nat} {x : Int32} (hG : GOK G) (hL : rIn (wR G B) L) (hW : WI C) (hdp : 2 ≤ d) : Ct G d yX10_waitsForItself iX10_waitsForItself [.ref B, .int x] (Wm G B C E0 L sz) 0 0 (some (.int (bI (wsL C x (nt (C 0)) x = true)))) (Wm G B (C) E0 L sz) := by
  refine Ct.of 2 (by decide) rfl (by decide) (Nat.le_of_ble_eq_true rfl) ?_
  show WP _ _ _ _ _ _ _ 0 [some (.ref B), some (.int x), none, none] [] _ 0 0
  refine wp_ild1 dX10_waitsForItself_0 ?_
  refine wp_ist2 dX10_waitsForItself_1 (by decide) rfl ?_
  refine wp_iconst (v := 0) dX10_waitsForItself_2 (by decide) ?_
  refine wp_ist3 dX10_waitsForItself_3 (by decide) rfl ?_
  exact WP.fg (by simp [lcle, nI_0]) (lp_ws hG hL hW.thr.1 hW.thr.2 hdp _ 0 x (by omega))

theorem sw10 {x : Int32} (h0 : ¬ x = 0) (h1 : ¬ x = 1) (h2 : ¬ x = 2) (h3 : ¬ x = 3) (h4 : ¬ x = 4) (h5 : ¬ x = 5) (h6 : ¬ x = 6) (h7 : ¬ x = 7) (h8 : ¬ x = 8) (h9 : ¬ x = 9) : x.toInt < 0 ∨ (9 : Int) < x.toInt := sw_out 9 (by decide) (fun i hi => by
  match i, hi with
  | 0, _ => exact h0
  | 1, _ => exact h1
  | 2, _ => exact h2
  | 3, _ => exact h3
  | 4, _ => exact h4
  | 5, _ => exact h5
  | 6, _ => exact h6
  | 7, _ => exact h7
  | 8, _ => exact h8
  | 9, _ => exact h9
  | i + 10, hi => omega)
def perfF (C : Nat → Int32) (op a b c : Int32) : Int32 × (Nat → Int32) := if op = 0 then enterF C a b else if op = 1 then exitF C a b else if op = 2 then awaitF C a b c else if op = 3 then nfF C a b else if op = 4 then neF C a b else if op = 5 then intF C a else if op = 6 then dieF C a else if op = 7 then startF C a else if op = 8 then hashF C a else if op = 9 then tickF C a else (-3, C)
set_option maxHeartbeats 1000000 in
theorem ct_perform {G : GG} {B : Nat} {C : Nat → Int32} {E0 : Nat → va_E} {L : List Nat} {sz d : Nat} {op a b c : Int32} (hG : GOK G) (hL : rIn (wR G B) L) (hW : WI C) (hdp : 5 ≤ d) : Ct G d yX10_perform iX10_perform [.ref B, .int op, .int a, .int b, .int c] (Wm G B C E0 L sz) 0 0 (some (.int (perfF C op a b c).1)) (Wm G B ((perfF C op a b c).2) E0 L sz) := by
  refine Ct.of 0 (by decide) rfl (by decide) (Nat.le_of_ble_eq_true rfl) ?_
  show WP _ _ _ _ _ _ _ 0 [some (.ref B), some (.int op), some (.int a), some (.int b), some (.int c)] [] _ 0 0
  refine wp_ild1 dX10_perform_0 ?_
  by_cases s1_0 : op = 0
  · refine wp_tableIn (off := 55) (tgt := 56) dX10_perform_1 (by rw [s1_0]; decide) (by rw [s1_0]; decide) (by rw [s1_0]; rfl) (by decide) ?_
    refine wp_ald0 dX10_perform_56 ?_
    refine wp_ild2 dX10_perform_57 ?_
    refine wp_ild3 dX10_perform_58 ?_
    refine vi_World2 dX10_perform_59 kX10_96 (ct_enterObject (d := d - 1) hG hL hW (by omega)) hL rfl (by omega) (Nat.le_of_ble_eq_true rfl) (Nat.le_refl _) (Nat.le_refl _) ?_
    exact wp_iret dX10_perform_62 rfl (Nat.le_refl _) (Nat.le_refl _) (by first | with_reducible rfl | (simp only [perfF, if_pos s1_0]; done) | (simp only [perfF, if_pos s1_0]; rfl) | rfl) (by first | with_reducible rfl | (simp only [perfF, if_pos s1_0]; done) | (simp only [perfF, if_pos s1_0]; rfl) | rfl)
  · by_cases s1_1 : op = 1
    · refine wp_tableIn (off := 62) (tgt := 63) dX10_perform_1 (by rw [s1_1]; decide) (by rw [s1_1]; decide) (by rw [s1_1]; rfl) (by decide) ?_
      refine wp_ald0 dX10_perform_63 ?_
      refine wp_ild2 dX10_perform_64 ?_
      refine wp_ild3 dX10_perform_65 ?_
      refine vi_World2 dX10_perform_66 kX10_100 (ct_exitObject (d := d - 1) hG hL hW (by omega)) hL rfl (by omega) (Nat.le_of_ble_eq_true rfl) (Nat.le_refl _) (Nat.le_refl _) ?_
      exact wp_iret dX10_perform_69 rfl (Nat.le_refl _) (Nat.le_refl _) (by first | with_reducible rfl | (simp only [perfF, if_neg s1_0, if_pos s1_1]; done) | (simp only [perfF, if_neg s1_0, if_pos s1_1]; rfl) | rfl) (by first | with_reducible rfl | (simp only [perfF, if_neg s1_0, if_pos s1_1]; done) | (simp only [perfF, if_neg s1_0, if_pos s1_1]; rfl) | rfl)
    · by_cases s1_2 : op = 2
      · refine wp_tableIn (off := 69) (tgt := 70) dX10_perform_1 (by rw [s1_2]; decide) (by rw [s1_2]; decide) (by rw [s1_2]; rfl) (by decide) ?_
        refine wp_ald0 dX10_perform_70 ?_
        refine wp_ild2 dX10_perform_71 ?_
        refine wp_ild3 dX10_perform_72 ?_
        refine wp_ild4 dX10_perform_73 ?_
        refine vi_World3 dX10_perform_75 kX10_103 (ct_awaitAt (d := d - 1) hG hL hW (by omega)) hL rfl (by omega) (Nat.le_of_ble_eq_true rfl) (Nat.le_refl _) (Nat.le_refl _) ?_
        exact wp_iret dX10_perform_78 rfl (Nat.le_refl _) (Nat.le_refl _) (by first | with_reducible rfl | (simp only [perfF, if_neg s1_0, if_neg s1_1, if_pos s1_2]; done) | (simp only [perfF, if_neg s1_0, if_neg s1_1, if_pos s1_2]; rfl) | rfl) (by first | with_reducible rfl | (simp only [perfF, if_neg s1_0, if_neg s1_1, if_pos s1_2]; done) | (simp only [perfF, if_neg s1_0, if_neg s1_1, if_pos s1_2]; rfl) | rfl)
      · by_cases s1_3 : op = 3
        · refine wp_tableIn (off := 78) (tgt := 79) dX10_perform_1 (by rw [s1_3]; decide) (by rw [s1_3]; decide) (by rw [s1_3]; rfl) (by decide) ?_
          refine wp_ald0 dX10_perform_79 ?_
          refine wp_ild2 dX10_perform_80 ?_
          refine wp_ild3 dX10_perform_81 ?_
          refine vi_World2 dX10_perform_82 kX10_107 (ct_notifyFirst (d := d - 1) hG hL hW (by omega)) hL rfl (by omega) (Nat.le_of_ble_eq_true rfl) (Nat.le_refl _) (Nat.le_refl _) ?_
          exact wp_iret dX10_perform_85 rfl (Nat.le_refl _) (Nat.le_refl _) (by first | with_reducible rfl | (simp only [perfF, if_neg s1_0, if_neg s1_1, if_neg s1_2, if_pos s1_3]; done) | (simp only [perfF, if_neg s1_0, if_neg s1_1, if_neg s1_2, if_pos s1_3]; rfl) | rfl) (by first | with_reducible rfl | (simp only [perfF, if_neg s1_0, if_neg s1_1, if_neg s1_2, if_pos s1_3]; done) | (simp only [perfF, if_neg s1_0, if_neg s1_1, if_neg s1_2, if_pos s1_3]; rfl) | rfl)
        · by_cases s1_4 : op = 4
          · refine wp_tableIn (off := 85) (tgt := 86) dX10_perform_1 (by rw [s1_4]; decide) (by rw [s1_4]; decide) (by rw [s1_4]; rfl) (by decide) ?_
            refine wp_ald0 dX10_perform_86 ?_
            refine wp_ild2 dX10_perform_87 ?_
            refine wp_ild3 dX10_perform_88 ?_
            refine vi_World2 dX10_perform_89 kX10_110 (ct_notifyEach (d := d - 1) hG hL hW (by omega)) hL rfl (by omega) (Nat.le_of_ble_eq_true rfl) (Nat.le_refl _) (Nat.le_refl _) ?_
            exact wp_iret dX10_perform_92 rfl (Nat.le_refl _) (Nat.le_refl _) (by first | with_reducible rfl | (simp only [perfF, if_neg s1_0, if_neg s1_1, if_neg s1_2, if_neg s1_3, if_pos s1_4]; done) | (simp only [perfF, if_neg s1_0, if_neg s1_1, if_neg s1_2, if_neg s1_3, if_pos s1_4]; rfl) | rfl) (by first | with_reducible rfl | (simp only [perfF, if_neg s1_0, if_neg s1_1, if_neg s1_2, if_neg s1_3, if_pos s1_4]; done) | (simp only [perfF, if_neg s1_0, if_neg s1_1, if_neg s1_2, if_neg s1_3, if_pos s1_4]; rfl) | rfl)
          · by_cases s1_5 : op = 5
            · refine wp_tableIn (off := 92) (tgt := 93) dX10_perform_1 (by rw [s1_5]; decide) (by rw [s1_5]; decide) (by rw [s1_5]; rfl) (by decide) ?_
              refine wp_ald0 dX10_perform_93 ?_
              refine wp_ild2 dX10_perform_94 ?_
              refine vi_World1 dX10_perform_95 kX10_113 (ct_interruptThread (d := d - 1) hG hL hW (by omega)) hL rfl (by omega) (Nat.le_of_ble_eq_true rfl) (Nat.le_refl _) (Nat.le_refl _) ?_
              exact wp_iret dX10_perform_98 rfl (Nat.le_refl _) (Nat.le_refl _) (by first | with_reducible rfl | (simp only [perfF, if_neg s1_0, if_neg s1_1, if_neg s1_2, if_neg s1_3, if_neg s1_4, if_pos s1_5]; done) | (simp only [perfF, if_neg s1_0, if_neg s1_1, if_neg s1_2, if_neg s1_3, if_neg s1_4, if_pos s1_5]; rfl) | rfl) (by first | with_reducible rfl | (simp only [perfF, if_neg s1_0, if_neg s1_1, if_neg s1_2, if_neg s1_3, if_neg s1_4, if_pos s1_5]; done) | (simp only [perfF, if_neg s1_0, if_neg s1_1, if_neg s1_2, if_neg s1_3, if_neg s1_4, if_pos s1_5]; rfl) | rfl)
            · by_cases s1_6 : op = 6
              · refine wp_tableIn (off := 98) (tgt := 99) dX10_perform_1 (by rw [s1_6]; decide) (by rw [s1_6]; decide) (by rw [s1_6]; rfl) (by decide) ?_
                refine wp_ald0 dX10_perform_99 ?_
                refine wp_ild2 dX10_perform_100 ?_
                refine vi_World1 dX10_perform_101 kX10_116 (ct_endThread (d := d - 1) hG hL hW (by omega)) hL rfl (by omega) (Nat.le_of_ble_eq_true rfl) (Nat.le_refl _) (Nat.le_refl _) ?_
                exact wp_iret dX10_perform_104 rfl (Nat.le_refl _) (Nat.le_refl _) (by first | with_reducible rfl | (simp only [perfF, if_neg s1_0, if_neg s1_1, if_neg s1_2, if_neg s1_3, if_neg s1_4, if_neg s1_5, if_pos s1_6]; done) | (simp only [perfF, if_neg s1_0, if_neg s1_1, if_neg s1_2, if_neg s1_3, if_neg s1_4, if_neg s1_5, if_pos s1_6]; rfl) | rfl) (by first | with_reducible rfl | (simp only [perfF, if_neg s1_0, if_neg s1_1, if_neg s1_2, if_neg s1_3, if_neg s1_4, if_neg s1_5, if_pos s1_6]; done) | (simp only [perfF, if_neg s1_0, if_neg s1_1, if_neg s1_2, if_neg s1_3, if_neg s1_4, if_neg s1_5, if_pos s1_6]; rfl) | rfl)
              · by_cases s1_7 : op = 7
                · refine wp_tableIn (off := 104) (tgt := 105) dX10_perform_1 (by rw [s1_7]; decide) (by rw [s1_7]; decide) (by rw [s1_7]; rfl) (by decide) ?_
                  refine wp_ald0 dX10_perform_105 ?_
                  refine wp_ild2 dX10_perform_106 ?_
                  refine vi_World1 dX10_perform_107 kX10_119 (ct_startThread (d := d - 1) hG hL hW (by omega)) hL rfl (by omega) (Nat.le_of_ble_eq_true rfl) (Nat.le_refl _) (Nat.le_refl _) ?_
                  exact wp_iret dX10_perform_110 rfl (Nat.le_refl _) (Nat.le_refl _) (by first | with_reducible rfl | (simp only [perfF, if_neg s1_0, if_neg s1_1, if_neg s1_2, if_neg s1_3, if_neg s1_4, if_neg s1_5, if_neg s1_6, if_pos s1_7]; done) | (simp only [perfF, if_neg s1_0, if_neg s1_1, if_neg s1_2, if_neg s1_3, if_neg s1_4, if_neg s1_5, if_neg s1_6, if_pos s1_7]; rfl) | rfl) (by first | with_reducible rfl | (simp only [perfF, if_neg s1_0, if_neg s1_1, if_neg s1_2, if_neg s1_3, if_neg s1_4, if_neg s1_5, if_neg s1_6, if_pos s1_7]; done) | (simp only [perfF, if_neg s1_0, if_neg s1_1, if_neg s1_2, if_neg s1_3, if_neg s1_4, if_neg s1_5, if_neg s1_6, if_pos s1_7]; rfl) | rfl)
                · by_cases s1_8 : op = 8
                  · refine wp_tableIn (off := 110) (tgt := 111) dX10_perform_1 (by rw [s1_8]; decide) (by rw [s1_8]; decide) (by rw [s1_8]; rfl) (by decide) ?_
                    refine wp_ald0 dX10_perform_111 ?_
                    refine wp_ild2 dX10_perform_112 ?_
                    refine vi_World1 dX10_perform_113 kX10_122 (ct_hashOf (d := d - 1) hG hL hW (by omega)) hL rfl (by omega) (Nat.le_of_ble_eq_true rfl) (Nat.le_refl _) (Nat.le_refl _) ?_
                    exact wp_iret dX10_perform_116 rfl (Nat.le_refl _) (Nat.le_refl _) (by first | with_reducible rfl | (simp only [perfF, if_neg s1_0, if_neg s1_1, if_neg s1_2, if_neg s1_3, if_neg s1_4, if_neg s1_5, if_neg s1_6, if_neg s1_7, if_pos s1_8]; done) | (simp only [perfF, if_neg s1_0, if_neg s1_1, if_neg s1_2, if_neg s1_3, if_neg s1_4, if_neg s1_5, if_neg s1_6, if_neg s1_7, if_pos s1_8]; rfl) | rfl) (by first | with_reducible rfl | (simp only [perfF, if_neg s1_0, if_neg s1_1, if_neg s1_2, if_neg s1_3, if_neg s1_4, if_neg s1_5, if_neg s1_6, if_neg s1_7, if_pos s1_8]; done) | (simp only [perfF, if_neg s1_0, if_neg s1_1, if_neg s1_2, if_neg s1_3, if_neg s1_4, if_neg s1_5, if_neg s1_6, if_neg s1_7, if_pos s1_8]; rfl) | rfl)
                  · by_cases s1_9 : op = 9
                    · refine wp_tableIn (off := 116) (tgt := 117) dX10_perform_1 (by rw [s1_9]; decide) (by rw [s1_9]; decide) (by rw [s1_9]; rfl) (by decide) ?_
                      refine wp_ald0 dX10_perform_117 ?_
                      refine wp_ild2 dX10_perform_118 ?_
                      refine vi_World1 dX10_perform_119 kX10_125 (ct_letPass (d := d - 1) hG hL hW (by omega)) hL rfl (by omega) (Nat.le_of_ble_eq_true rfl) (Nat.le_refl _) (Nat.le_refl _) ?_
                      exact wp_iret dX10_perform_122 rfl (Nat.le_refl _) (Nat.le_refl _) (by first | with_reducible rfl | (simp only [perfF, if_neg s1_0, if_neg s1_1, if_neg s1_2, if_neg s1_3, if_neg s1_4, if_neg s1_5, if_neg s1_6, if_neg s1_7, if_neg s1_8, if_pos s1_9]; done) | (simp only [perfF, if_neg s1_0, if_neg s1_1, if_neg s1_2, if_neg s1_3, if_neg s1_4, if_neg s1_5, if_neg s1_6, if_neg s1_7, if_neg s1_8, if_pos s1_9]; rfl) | rfl) (by first | with_reducible rfl | (simp only [perfF, if_neg s1_0, if_neg s1_1, if_neg s1_2, if_neg s1_3, if_neg s1_4, if_neg s1_5, if_neg s1_6, if_neg s1_7, if_neg s1_8, if_pos s1_9]; done) | (simp only [perfF, if_neg s1_0, if_neg s1_1, if_neg s1_2, if_neg s1_3, if_neg s1_4, if_neg s1_5, if_neg s1_6, if_neg s1_7, if_neg s1_8, if_pos s1_9]; rfl) | rfl)
                    · refine wp_tableOut (tgt := 123) dX10_perform_1 (sw10 s1_0 s1_1 s1_2 s1_3 s1_4 s1_5 s1_6 s1_7 s1_8 s1_9) (by decide) ?_
                      refine wp_bipush (v := (-3)) dX10_perform_123 (by decide) ?_
                      exact wp_iret dX10_perform_125 rfl (Nat.le_refl _) (Nat.le_refl _) (by first | with_reducible rfl | (simp only [perfF, if_neg s1_0, if_neg s1_1, if_neg s1_2, if_neg s1_3, if_neg s1_4, if_neg s1_5, if_neg s1_6, if_neg s1_7, if_neg s1_8, if_neg s1_9]; done) | (simp only [perfF, if_neg s1_0, if_neg s1_1, if_neg s1_2, if_neg s1_3, if_neg s1_4, if_neg s1_5, if_neg s1_6, if_neg s1_7, if_neg s1_8, if_neg s1_9]; rfl) | rfl) (by first | with_reducible rfl | (simp only [perfF, if_neg s1_0, if_neg s1_1, if_neg s1_2, if_neg s1_3, if_neg s1_4, if_neg s1_5, if_neg s1_6, if_neg s1_7, if_neg s1_8, if_neg s1_9]; done) | (simp only [perfF, if_neg s1_0, if_neg s1_1, if_neg s1_2, if_neg s1_3, if_neg s1_4, if_neg s1_5, if_neg s1_6, if_neg s1_7, if_neg s1_8, if_neg s1_9]; rfl) | rfl)

