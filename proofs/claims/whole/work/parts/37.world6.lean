def dieS (C : Nat → Int32) (x : Int32) (i : Nat) : Nat → Int32 := if ¬ C (62 + i) ≤ 0 ∧ C (54 + i) = x then relF (upd C (86 + i) 1) i else C
def dieL (x : Int32) : Nat → Nat → (Nat → Int32) → Int32 → Int32 × (Nat → Int32)
  | 0, _, C, a => (a, C)
  | n + 1, i, C, a => dieL x n (i + 1) (dieS C x i) (if ¬ C (62 + i) ≤ 0 ∧ C (54 + i) = x then a + 1 else a)
def dieT (C : Nat → Int32) (x : Int32) : Int32 × (Nat → Int32) := dieL x 8 0 (upd (leaveF C (nt x) 3) (16 + nt x) 0) 0
theorem WI.die {C : Nat → Int32} {x : Int32} {i : Nat} (hW : WI C) (hi : i < 8) : WI (dieS C x i) := by
  unfold dieS
  split
  · exact (hW.up (by omega)).rel hi
  · exact hW
theorem WI.leave {C : Nat → Int32} {t : Nat} {x : Int32} (hW : WI C) (ht : t < 6) : WI (leaveF C t x) := (hW.up (by omega)).up (by omega)
set_option maxHeartbeats 1000000 in
theorem lp_die {G : GG} {B : Nat} {E0 : Nat → va_E} {L : List Nat} {sz d : Nat} {x : Int32} (hG : GOK G) (hL : rIn (wR G B) L) (hdp : 3 ≤ d) (n : Nat) : ∀ (i : Nat) (C : Nat → Int32) (a : Int32), i + n = 8 → WI C → WP G iX10_endThread d 0 0 (some (.int (dieL x n i C a).1)) (Wm G B (dieL x n i C a).2 E0 L sz) 96 [some (.ref B), some (.int x), none, some (.int a), some (.ref (B + 5)), some (.int (nI 8)), some (.int (nI i)), none] [] (Wm G B C E0 L sz) 0 0 := by
  induction n with
  | zero =>
    intro i C a hi hW
    refine wp_ild6 dX10_endThread_96 ?_
    refine wp_ild5 dX10_endThread_98 ?_
    refine wp_icmp_ge (tgt := 140) dX10_endThread_100 (by decide) (fun c_100 => ?_) (fun c_100 => absurd (by rw [show i = 8 by omega]; exact Int32.le_refl _) c_100)
    refine wp_ild3 dX10_endThread_140 ?_
    exact wp_iret dX10_endThread_141 rfl (Nat.le_refl _) (Nat.le_refl _) (by first | with_reducible rfl | (simp only [dieL]; done) | (simp only [dieL]; rfl) | rfl) (by first | with_reducible rfl | (simp only [dieL]; done) | (simp only [dieL]; rfl) | rfl)
  | succ n ih =>
    intro i C a hi hW
    refine wp_ild6 dX10_endThread_96 ?_
    refine wp_ild5 dX10_endThread_98 ?_
    refine wp_icmp_ge (tgt := 140) dX10_endThread_100 (by decide) (fun c_100 => absurd c_100 (nI_ge (by omega) (by decide))) (fun c_100 => ?_)
    have hi8 : i < 8 := by omega
    refine wp_ald4 dX10_endThread_103 ?_
    refine wp_ild6 dX10_endThread_105 ?_
    refine r_locks (i' := i) dX10_endThread_107 hG hL rfl (by first | assumption | omega) ?_
    refine wp_ast7 dX10_endThread_108 (by decide) rfl ?_
    refine wp_ald7 dX10_endThread_110 ?_
    refine wp_ild1 dX10_endThread_112 ?_
    refine vi_Lock1 dX10_endThread_113 kX10_141 (ct_isHeldBy (d := d - 1) hG hL (by assumption) (by omega)) hL (by assumption) rfl (by omega) (Nat.le_of_ble_eq_true rfl) (Nat.le_refl _) (Nat.le_refl _) ?_
    refine wp_ifB_eq (tgt := 134) dX10_endThread_116 (by decide) (fun c_116 => ?_) (fun c_116 => ?_)
    · refine wp_inc6 dX10_endThread_134 (by decide) rfl ?_
      refine wp_goto (tgt := 96) dX10_endThread_137 (by decide) ?_
      have e : dieS C x i = C := by simp only [dieS, if_neg c_116]
      have hW1 := hW.die (x := x) hi8
      simp only [dieL, if_neg c_116]
      rw [e] at hW1 ⊢
      exact WP.fg (by simp [lcle]) (ih (i + 1) _ a (by omega) hW1)
    · refine wp_ald7 dX10_endThread_119 ?_
      refine wp_iconst (v := 1) dX10_endThread_121 (by decide) ?_
      refine p_Lock_abandoned dX10_endThread_122 pX10_222 hL (by assumption) rfl rfl ?_
      refine wp_ald0 dX10_endThread_125 ?_
      refine wp_ald7 dX10_endThread_126 ?_
      refine vv_World1 dX10_endThread_128 kX10_264 (ct_release (d := d - 1) hG hL hi8 ((hW.up (by omega)).q hi8) (by omega)) hL rfl (by omega) (Nat.le_of_ble_eq_true rfl) (Nat.le_refl _) (Nat.le_refl _) ?_
      refine wp_iinc3 dX10_endThread_131 (by decide) rfl ?_
      refine wp_inc6 dX10_endThread_134 (by decide) rfl ?_
      refine wp_goto (tgt := 96) dX10_endThread_137 (by decide) ?_
      have e : dieS C x i = relF (upd C (86 + i) 1) i := by simp only [dieS, if_pos c_116]
      have hW1 := hW.die (x := x) hi8
      simp only [dieL, if_pos c_116]
      rw [e] at hW1 ⊢
      exact WP.fg (by simp [lcle]) (ih (i + 1) _ (a + 1) (by omega) hW1)
set_option maxHeartbeats 2000000 in
theorem tl_dieT {G : GG} {B : Nat} {C : Nat → Int32} {E0 : Nat → va_E} {L : List Nat} {sz d : Nat} {x : Int32} (hG : GOK G) (hL : rIn (wR G B) L) (hxb : nt x < 6) (hW : WI C) (hdp : 3 ≤ d) : WP G iX10_endThread d 0 0 (some (.int (dieT C x).1)) (Wm G B ((dieT C x).2) E0 L sz) 70 [some (.ref B), some (.int x), some (.ref (aSt B (nt x))), none, none, none, none, none] [] (Wm G B C E0 L sz) 0 0 := by
  refine wp_ald2 dX10_endThread_70 ?_
  refine wp_iconst (v := 3) dX10_endThread_71 (by decide) ?_
  refine vv_Strand1 dX10_endThread_72 kX10_279 (ct_leave (d := d - 1) hG hL hxb) hL (by assumption) rfl (by omega) (Nat.le_of_ble_eq_true rfl) (Nat.le_refl _) (Nat.le_refl _) ?_
  refine wp_ald2 dX10_endThread_75 ?_
  refine wp_iconst (v := 0) dX10_endThread_76 (by decide) ?_
  refine p_Strand_interrupted dX10_endThread_77 pX10_282 hL (by assumption) rfl rfl ?_
  refine wp_iconst (v := 0) dX10_endThread_80 (by decide) ?_
  refine wp_ist3 dX10_endThread_81 (by decide) rfl ?_
  refine wp_ald0 dX10_endThread_82 ?_
  refine g_World_locks dX10_endThread_83 fX10_32 hL ?_
  refine wp_ast4 dX10_endThread_86 (by decide) rfl ?_
  refine wp_ald4 dX10_endThread_88 ?_
  refine l_locks dX10_endThread_90 hG hL ?_
  refine wp_ist5 dX10_endThread_91 (by decide) rfl ?_
  refine wp_iconst (v := 0) dX10_endThread_93 (by decide) ?_
  refine wp_ist6 dX10_endThread_94 (by decide) rfl ?_
  simp only [dieT]
  exact WP.fg (by simp [lcle, nI_0]) (lp_die hG hL hdp 8 0 _ 0 rfl ((hW.leave hxb).up (by omega)))
def die1 (C : Nat → Int32) (x : Int32) (o : Nat) : Nat → Int32 := dropF C (110 + o) (126 + 6 * o) x
def die2 (C : Nat → Int32) (x : Int32) (o : Nat) : Nat → Int32 := dropF (die1 C x o) (118 + o) (174 + 6 * o) x
def dieF (C : Nat → Int32) (x : Int32) : Int32 × (Nat → Int32) := if hasT C x then (if C (10 + nt x) = 3 then (-7, C) else if isO (C (28 + nt x)) then dieT (die2 C x (nt (C (28 + nt x)))) x else dieT C x) else (-1, C)
set_option maxHeartbeats 1000000 in
theorem ct_endThread {G : GG} {B : Nat} {C : Nat → Int32} {E0 : Nat → va_E} {L : List Nat} {sz d : Nat} {x : Int32} (hG : GOK G) (hL : rIn (wR G B) L) (hW : WI C) (hdp : 3 ≤ d) : Ct G d yX10_endThread iX10_endThread [.ref B, .int x] (Wm G B C E0 L sz) 0 0 (some (.int (dieF C x).1)) (Wm G B ((dieF C x).2) E0 L sz) := by
  refine Ct.of 6 (by decide) rfl (by decide) (Nat.le_of_ble_eq_true rfl) ?_
  show WP _ _ _ _ _ _ _ 0 [some (.ref B), some (.int x), none, none, none, none, none, none] [] _ 0 0
  refine wp_ald0 dX10_endThread_0 ?_
  refine wp_ild1 dX10_endThread_1 ?_
  refine vi_World1 dX10_endThread_2 kX10_128 (ct_hasThread (d := d - 1) hG hL) hL rfl (by omega) (Nat.le_of_ble_eq_true rfl) (Nat.le_refl _) (Nat.le_refl _) ?_
  refine wp_ifB_ne (tgt := 10) dX10_endThread_5 (by decide) (fun c_5 => ?_) (fun c_5 => ?_)
  · obtain ⟨hx, hxb⟩ := nat_of6 c_5.1 c_5.2.2
    refine wp_ald0 dX10_endThread_10 ?_
    refine g_World_strands dX10_endThread_11 fX10_26 hL ?_
    refine wp_ild1 dX10_endThread_14 ?_
    refine r_strands (i' := nt x) dX10_endThread_15 hG hL hx (by first | assumption | omega) ?_
    refine wp_ast2 dX10_endThread_16 (by decide) rfl ?_
    refine wp_ald2 dX10_endThread_17 ?_
    refine g_Strand_state dX10_endThread_18 fX10_135 hL (by assumption) ?_
    refine wp_iconst (v := 3) dX10_endThread_21 (by decide) ?_
    refine wp_icmp_ne (tgt := 28) dX10_endThread_22 (by decide) (fun c_22 => ?_) (fun c_22 => ?_)
    · refine wp_ald2 dX10_endThread_28 ?_
      refine g_Strand_place dX10_endThread_29 fX10_216 hL (by assumption) ?_
      refine ci_isObj rfl dX10_endThread_32 (ct_isObject (d := d - 1)) (by omega) (Nat.le_of_ble_eq_true rfl) (Nat.le_refl _) (Nat.le_refl _) ?_
      refine wp_ifB_eq (tgt := 70) dX10_endThread_35 (by decide) (fun c_35 => ?_) (fun c_35 => ?_)
      · simp only [dieF, if_pos c_5, if_neg c_22, if_neg c_35]
        exact WP.fg (by simp [lcle]) (tl_dieT hG hL hxb hW hdp)
      · refine wp_ald0 dX10_endThread_38 ?_
        refine g_World_locks dX10_endThread_39 fX10_32 hL ?_
        refine wp_ald2 dX10_endThread_42 ?_
        refine g_Strand_place dX10_endThread_43 fX10_216 hL (by assumption) ?_
        obtain ⟨hp, hpb⟩ := nat_of8 c_35.1 c_35.2
        refine r_locks (i' := nt (C (28 + nt x))) dX10_endThread_46 hG hL hp (by first | assumption | omega) ?_
        refine g_Lock_queue dX10_endThread_47 fX10_194 hL (by assumption) ?_
        refine wp_ild1 dX10_endThread_50 ?_
        refine vv_Line1 (j := 14 + 5 * nt (C (28 + nt x))) dX10_endThread_51 kX10_276 (ct_drop (d := d - 1) hG hL (LNq hpb) (by intros; omega) (hW.q hpb)) hL (LNq (by assumption)) rfl (by omega) (Nat.le_of_ble_eq_true rfl) (Nat.le_refl _) (Nat.le_refl _) ?_
        refine wp_ald0 dX10_endThread_54 ?_
        refine g_World_locks dX10_endThread_55 fX10_32 hL ?_
        refine wp_ald2 dX10_endThread_58 ?_
        refine g_Strand_place dX10_endThread_59 fX10_216 hL (by assumption) ?_
        rw [show dropF C (110 + nt (C (28 + nt x))) (126 + 6 * nt (C (28 + nt x))) x (28 + nt x) = C (28 + nt x) from dropF_out (hW.q hpb) (by omega) (by omega)]
        refine r_locks (i' := nt (C (28 + nt x))) dX10_endThread_62 hG hL hp (by first | assumption | omega) ?_
        refine g_Lock_waitSet dX10_endThread_63 fX10_295 hL (by assumption) ?_
        refine wp_ild1 dX10_endThread_66 ?_
        refine vv_Line1 (j := 16 + 5 * nt (C (28 + nt x))) dX10_endThread_67 kX10_276 (ct_drop (d := d - 1) hG hL (LNw hpb) (by intros; omega) ((hW.dropq hpb).w hpb)) hL (LNw (by assumption)) rfl (by omega) (Nat.le_of_ble_eq_true rfl) (Nat.le_refl _) (Nat.le_refl _) ?_
        simp only [dieF, if_pos c_5, if_neg c_22, if_pos c_35]
        exact WP.fg (by simp [lcle]) (tl_dieT hG hL hxb ((hW.dropq hpb).dropw hpb) hdp)
    · refine wp_bipush (v := (-7)) dX10_endThread_25 (by decide) ?_
      exact wp_iret dX10_endThread_27 rfl (Nat.le_refl _) (Nat.le_refl _) (by first | with_reducible rfl | (simp only [dieF, if_pos c_5, if_pos c_22]; done) | (simp only [dieF, if_pos c_5, if_pos c_22]; rfl) | rfl) (by first | with_reducible rfl | (simp only [dieF, if_pos c_5, if_pos c_22]; done) | (simp only [dieF, if_pos c_5, if_pos c_22]; rfl) | rfl)
  · refine wp_iconst (v := (-1)) dX10_endThread_8 (by decide) ?_
    exact wp_iret dX10_endThread_9 rfl (Nat.le_refl _) (Nat.le_refl _) (by first | with_reducible rfl | (simp only [dieF, if_neg c_5]; done) | (simp only [dieF, if_neg c_5]; rfl) | rfl) (by first | with_reducible rfl | (simp only [dieF, if_neg c_5]; done) | (simp only [dieF, if_neg c_5]; rfl) | rfl)

def eowS (C : Nat → Int32) (i : Nat) : Nat → Int32 := if C (10 + i) = 2 then (if C (34 + i) = -1 then C else if C 9 < C (34 + i) then C else if isO (C (28 + i)) then appF (ewF C (nI i) (nt (C (28 + i))) 2) (110 + nt (C (28 + i))) (126 + 6 * nt (C (28 + i))) (nI i) else C) else C
def eowL : Nat → Nat → (Nat → Int32) → (Nat → Int32)
  | 0, _, C => C
  | n + 1, i, C => eowL n (i + 1) (eowS C i)
def eowF (C : Nat → Int32) : Nat → Int32 := eowL (nt (C 0)) 0 C
theorem ntn {i : Nat} (h : i < 2 ^ 31) : nt (nI i) = i := nI_clamp h
theorem WI.eow {C : Nat → Int32} {i : Nat} (hW : WI C) (hi : i < 6) : WI (eowS C i) := by
  unfold eowS
  split
  · split
    · exact hW
    · split
      · exact hW
      · split
        · rename_i h
          have hb := (nat_of8 h.1 h.2).2
          exact (hW.ew hb (by rw [ntn (by omega)]; exact hi)).appq hb
        · exact hW
  · exact hW
theorem eowS_0 {C : Nat → Int32} {i : Nat} (hW : WI C) (hi : i < 6) : eowS C i 0 = C 0 := by
  unfold eowS
  split
  · split
    · rfl
    · split
      · rfl
      · split
        · rename_i h
          have hb := (nat_of8 h.1 h.2).2
          have hi' : nt (nI i) < 6 := by rw [ntn (by omega)]; exact hi
          rw [appF_out ((hW.ew hb hi').q hb) (by omega) (by omega)]
          unfold ewF
          rw [upd_ne (by omega), upd_ne (by omega), dropF_out (hW.w hb) (by omega) (by omega)]
        · rfl
  · rfl
set_option maxHeartbeats 1000000 in
theorem lp_eow {G : GG} {B : Nat} {E0 : Nat → va_E} {L : List Nat} {sz d : Nat} {T : Nat} (hG : GOK G) (hL : rIn (wR G B) L) (hdp : 2 ≤ d) (hT6 : T ≤ 6) (n : Nat) : ∀ (i : Nat) (C : Nat → Int32), i + n = T → WI C → C 0 = nI T → WP G iX10_endOverdueWaits d 0 0 none (Wm G B (eowL n i C) E0 L sz) 2 [some (.ref B), some (.int (nI i)), none, none, none] [] (Wm G B C E0 L sz) 0 0 := by
  induction n with
  | zero =>
    intro i C hi hW hT
    refine wp_ild1 dX10_endOverdueWaits_2 ?_
    refine wp_ald0 dX10_endOverdueWaits_3 ?_
    refine g_World_threadCount dX10_endOverdueWaits_4 fX10_50 hL ?_
    refine wp_icmp_ge (tgt := 98) dX10_endOverdueWaits_7 (by decide) (fun c_7 => ?_) (fun c_7 => absurd (by rw [hT]; exact nI_le (by omega) (by omega)) c_7)
    exact wp_vret dX10_endOverdueWaits_98 rfl (Nat.le_refl _) (Nat.le_refl _) (by first | with_reducible rfl | (simp only [eowL]; done) | (simp only [eowL]; rfl) | rfl) (by first | with_reducible rfl | (simp only [eowL]; done) | (simp only [eowL]; rfl) | rfl)
  | succ n ih =>
    intro i C hi hW hT
    have hin : nI i = nI (nt (nI i)) := by rw [ntn (by omega)]
    have hinb : nt (nI i) < 6 := by rw [ntn (by omega)]; omega
    refine wp_ild1 dX10_endOverdueWaits_2 ?_
    refine wp_ald0 dX10_endOverdueWaits_3 ?_
    refine g_World_threadCount dX10_endOverdueWaits_4 fX10_50 hL ?_
    refine wp_icmp_ge (tgt := 98) dX10_endOverdueWaits_7 (by decide) (fun c_7 => absurd c_7 (by rw [hT]; exact nI_ge (by omega) (by omega))) (fun c_7 => ?_)
    have hi6 : i < 6 := by omega
    refine wp_ald0 dX10_endOverdueWaits_10 ?_
    refine g_World_strands dX10_endOverdueWaits_11 fX10_26 hL ?_
    refine wp_ild1 dX10_endOverdueWaits_14 ?_
    refine r_strands (i' := i) dX10_endOverdueWaits_15 hG hL rfl (by first | assumption | omega) ?_
    refine wp_ast2 dX10_endOverdueWaits_16 (by decide) rfl ?_
    refine wp_ald2 dX10_endOverdueWaits_17 ?_
    refine g_Strand_state dX10_endOverdueWaits_18 fX10_135 hL (by assumption) ?_
    refine wp_iconst (v := 2) dX10_endOverdueWaits_21 (by decide) ?_
    refine wp_icmp_ne (tgt := 37) dX10_endOverdueWaits_22 (by decide) (fun c_22 => ?_) (fun c_22 => ?_)
    · refine wp_iconst (v := 0) dX10_endOverdueWaits_37 (by decide) ?_
      refine wp_ist3 dX10_endOverdueWaits_38 (by decide) rfl ?_
      refine wp_ild3 dX10_endOverdueWaits_39 ?_
      refine wp_if_eq (tgt := 92) dX10_endOverdueWaits_40 (by decide) (fun _ => ?_) (fun h => absurd h (by decide))
      refine wp_inc1 dX10_endOverdueWaits_92 (by decide) rfl ?_
      refine wp_goto (tgt := 2) dX10_endOverdueWaits_95 (by decide) ?_
      have e : eowS C i = C := by simp only [eowS, if_neg c_22]
      have hW1 := hW.eow hi6
      have h0 := eowS_0 hW hi6
      simp only [eowL]
      rw [e] at hW1 h0 ⊢
      exact WP.fg (by simp [lcle]) (ih (i + 1) _ (by omega) hW1 (h0.trans hT))
    · refine wp_ald2 dX10_endOverdueWaits_25 ?_
      refine g_Strand_limit dX10_endOverdueWaits_26 fX10_292 hL (by assumption) ?_
      refine wp_iconst (v := (-1)) dX10_endOverdueWaits_29 (by decide) ?_
      refine wp_icmp_eq (tgt := 37) dX10_endOverdueWaits_30 (by decide) (fun c_30 => ?_) (fun c_30 => ?_)
      · refine wp_iconst (v := 0) dX10_endOverdueWaits_37 (by decide) ?_
        refine wp_ist3 dX10_endOverdueWaits_38 (by decide) rfl ?_
        refine wp_ild3 dX10_endOverdueWaits_39 ?_
        refine wp_if_eq (tgt := 92) dX10_endOverdueWaits_40 (by decide) (fun _ => ?_) (fun h => absurd h (by decide))
        refine wp_inc1 dX10_endOverdueWaits_92 (by decide) rfl ?_
        refine wp_goto (tgt := 2) dX10_endOverdueWaits_95 (by decide) ?_
        have e : eowS C i = C := by simp only [eowS, if_pos c_22, if_pos c_30]
        have hW1 := hW.eow hi6
        have h0 := eowS_0 hW hi6
        simp only [eowL]
        rw [e] at hW1 h0 ⊢
        exact WP.fg (by simp [lcle]) (ih (i + 1) _ (by omega) hW1 (h0.trans hT))
      · refine wp_iconst (v := 1) dX10_endOverdueWaits_33 (by decide) ?_
        refine wp_goto (tgt := 38) dX10_endOverdueWaits_34 (by decide) ?_
        refine wp_ist3 dX10_endOverdueWaits_38 (by decide) rfl ?_
        refine wp_ild3 dX10_endOverdueWaits_39 ?_
        refine wp_if_eq (tgt := 92) dX10_endOverdueWaits_40 (by decide) (fun h => absurd h (by decide)) (fun _ => ?_)
        refine wp_ald2 dX10_endOverdueWaits_43 ?_
        refine g_Strand_limit dX10_endOverdueWaits_44 fX10_292 hL (by assumption) ?_
        refine wp_ald0 dX10_endOverdueWaits_47 ?_
        refine g_World_now dX10_endOverdueWaits_48 fX10_54 hL ?_
        refine wp_icmp_gt (tgt := 92) dX10_endOverdueWaits_51 (by decide) (fun c_51 => ?_) (fun c_51 => ?_)
        · refine wp_inc1 dX10_endOverdueWaits_92 (by decide) rfl ?_
          refine wp_goto (tgt := 2) dX10_endOverdueWaits_95 (by decide) ?_
          have e : eowS C i = C := by simp only [eowS, if_pos c_22, if_neg c_30, if_pos c_51]
          have hW1 := hW.eow hi6
          have h0 := eowS_0 hW hi6
          simp only [eowL]
          rw [e] at hW1 h0 ⊢
          exact WP.fg (by simp [lcle]) (ih (i + 1) _ (by omega) hW1 (h0.trans hT))
        · refine wp_ald2 dX10_endOverdueWaits_54 ?_
          refine g_Strand_place dX10_endOverdueWaits_55 fX10_216 hL (by assumption) ?_
          refine ci_isObj rfl dX10_endOverdueWaits_58 (ct_isObject (d := d - 1)) (by omega) (Nat.le_of_ble_eq_true rfl) (Nat.le_refl _) (Nat.le_refl _) ?_
          refine wp_ifB_eq (tgt := 92) dX10_endOverdueWaits_61 (by decide) (fun c_61 => ?_) (fun c_61 => ?_)
          · refine wp_inc1 dX10_endOverdueWaits_92 (by decide) rfl ?_
            refine wp_goto (tgt := 2) dX10_endOverdueWaits_95 (by decide) ?_
            have e : eowS C i = C := by simp only [eowS, if_pos c_22, if_neg c_30, if_neg c_51, if_neg c_61]
            have hW1 := hW.eow hi6
            have h0 := eowS_0 hW hi6
            simp only [eowL]
            rw [e] at hW1 h0 ⊢
            exact WP.fg (by simp [lcle]) (ih (i + 1) _ (by omega) hW1 (h0.trans hT))
          · refine wp_ald0 dX10_endOverdueWaits_64 ?_
            refine g_World_locks dX10_endOverdueWaits_65 fX10_32 hL ?_
            refine wp_ald2 dX10_endOverdueWaits_68 ?_
            refine g_Strand_place dX10_endOverdueWaits_69 fX10_216 hL (by assumption) ?_
            obtain ⟨hp, hpb⟩ := nat_of8 c_61.1 c_61.2
            refine r_locks (i' := nt (C (28 + i))) dX10_endOverdueWaits_72 hG hL hp (by first | assumption | omega) ?_
            refine wp_ast4 dX10_endOverdueWaits_73 (by decide) rfl ?_
            refine wp_ald0 dX10_endOverdueWaits_75 ?_
            refine wp_ild1 dX10_endOverdueWaits_76 ?_
            refine wp_ald4 dX10_endOverdueWaits_77 ?_
            refine wp_iconst (v := 2) dX10_endOverdueWaits_79 (by decide) ?_
            refine vv_World3 dX10_endOverdueWaits_80 kX10_298 (ct_endWait (d := d - 1) hG hL hpb hin hinb (hW.w hpb) (by omega)) hL rfl (by omega) (Nat.le_of_ble_eq_true rfl) (Nat.le_refl _) (Nat.le_refl _) ?_
            refine wp_ald4 dX10_endOverdueWaits_83 ?_
            refine g_Lock_queue dX10_endOverdueWaits_85 fX10_194 hL (by assumption) ?_
            refine wp_ild1 dX10_endOverdueWaits_88 ?_
            refine vv_Line1 (j := 14 + 5 * nt (C (28 + i))) dX10_endOverdueWaits_89 kX10_210 (ct_append (d := d - 1) hG hL (LNq hpb) ((hW.ew hpb hinb).q hpb)) hL (LNq (by assumption)) rfl (by omega) (Nat.le_of_ble_eq_true rfl) (Nat.le_refl _) (Nat.le_refl _) ?_
            refine wp_inc1 dX10_endOverdueWaits_92 (by decide) rfl ?_
            refine wp_goto (tgt := 2) dX10_endOverdueWaits_95 (by decide) ?_
            have e : eowS C i = appF (ewF C (nI i) (nt (C (28 + i))) 2) (110 + nt (C (28 + i))) (126 + 6 * nt (C (28 + i))) (nI i) := by simp only [eowS, if_pos c_22, if_neg c_30, if_neg c_51, if_pos c_61]
            have hW1 := hW.eow hi6
            have h0 := eowS_0 hW hi6
            simp only [eowL]
            rw [e] at hW1 h0 ⊢
            exact WP.fg (by simp [lcle]) (ih (i + 1) _ (by omega) hW1 (h0.trans hT))
set_option maxHeartbeats 1000000 in
theorem ct_endOverdueWaits {G : GG} {B : Nat} {C : Nat → Int32} {E0 : Nat → va_E} {L : List Nat} {sz d : Nat}  (hG : GOK G) (hL : rIn (wR G B) L) (hW : WI C) (hdp : 2 ≤ d) : Ct G d yX10_endOverdueWaits iX10_endOverdueWaits [.ref B] (Wm G B C E0 L sz) 0 0 none (Wm G B (eowF C) E0 L sz) := by
  refine Ct.of 4 (by decide) rfl (by decide) (Nat.le_of_ble_eq_true rfl) ?_
  show WP _ _ _ _ _ _ _ 0 [some (.ref B), none, none, none, none] [] _ 0 0
  refine wp_iconst (v := 0) dX10_endOverdueWaits_0 (by decide) ?_
  refine wp_ist1 dX10_endOverdueWaits_1 (by decide) rfl ?_
  simp only [eowF]
  exact WP.fg (by simp [lcle, nI_0]) (lp_eow hG hL hdp hW.thr.2 _ 0 C (by omega) hW hW.thr.1)

def wkS (C : Nat → Int32) (i : Nat) : Int32 × (Nat → Int32) := if C (46 + i) = 4 then (if ¬ C (62 + i) ≤ 0 then (0, C) else if C (110 + i) = 0 then (0, C) else (1, g2fF (upd C (231 + 5) (C (231 + 5) + 1)) i)) else (0, C)
def wkL : Nat → Nat → (Nat → Int32) → Int32 → Int32 × (Nat → Int32)
  | 0, _, C, a => (a, C)
  | n + 1, i, C, a => wkL n (i + 1) (wkS C i).2 (if (wkS C i).1 = 1 then a + 1 else a)
def wkF (C : Nat → Int32) : Int32 × (Nat → Int32) := wkL 8 0 C 0
theorem WI.wk {C : Nat → Int32} {i : Nat} (hW : WI C) (hi : i < 8) : WI (wkS C i).2 := by
  unfold wkS
  split
  · split
    · exact hW
    · split
      · exact hW
      · exact (hW.up (by omega)).g2f hi
  · exact hW
set_option maxHeartbeats 1000000 in
theorem lp_wk {G : GG} {B : Nat} {E0 : Nat → va_E} {L : List Nat} {sz d : Nat} (hG : GOK G) (hL : rIn (wR G B) L) (hdp : 2 ≤ d) (n : Nat) : ∀ (i : Nat) (C : Nat → Int32) (a : Int32), i + n = 8 → WI C → WP G iX10_wakeQueues d 0 0 (some (.int (wkL n i C a).1)) (Wm G B (wkL n i C a).2 E0 L sz) 13 [some (.ref B), some (.int a), some (.ref (B + 5)), some (.int (nI 8)), some (.int (nI i)), none] [] (Wm G B C E0 L sz) 0 0 := by
  induction n with
  | zero =>
    intro i C a hi hW
    refine wp_ild4 dX10_wakeQueues_13 ?_
    refine wp_ild3 dX10_wakeQueues_15 ?_
    refine wp_icmp_ge (tgt := 78) dX10_wakeQueues_16 (by decide) (fun c_16 => ?_) (fun c_16 => absurd (by rw [show i = 8 by omega]; exact Int32.le_refl _) c_16)
    refine wp_ild1 dX10_wakeQueues_78 ?_
    exact wp_iret dX10_wakeQueues_79 rfl (Nat.le_refl _) (Nat.le_refl _) (by first | with_reducible rfl | (simp only [wkL]; done) | (simp only [wkL]; rfl) | rfl) (by first | with_reducible rfl | (simp only [wkL]; done) | (simp only [wkL]; rfl) | rfl)
  | succ n ih =>
    intro i C a hi hW
    refine wp_ild4 dX10_wakeQueues_13 ?_
    refine wp_ild3 dX10_wakeQueues_15 ?_
    refine wp_icmp_ge (tgt := 78) dX10_wakeQueues_16 (by decide) (fun c_16 => absurd c_16 (nI_ge (by omega) (by decide))) (fun c_16 => ?_)
    have hi8 : i < 8 := by omega
    refine wp_ald2 dX10_wakeQueues_19 ?_
    refine wp_ild4 dX10_wakeQueues_20 ?_
    refine r_locks (i' := i) dX10_wakeQueues_22 hG hL rfl (by first | assumption | omega) ?_
    refine wp_ast5 dX10_wakeQueues_23 (by decide) rfl ?_
    refine wp_ald5 dX10_wakeQueues_25 ?_
    refine g_Lock_state dX10_wakeQueues_27 fX10_152 hL (by assumption) ?_
    refine wp_iconst (v := 4) dX10_wakeQueues_30 (by decide) ?_
    refine wp_icmp_ne (tgt := 72) dX10_wakeQueues_31 (by decide) (fun c_31 => ?_) (fun c_31 => ?_)
    · refine wp_inc4 dX10_wakeQueues_72 (by decide) rfl ?_
      refine wp_goto (tgt := 13) dX10_wakeQueues_75 (by decide) ?_
      have e : wkS C i = (0, C) := by simp only [wkS, if_neg c_31]
      have hW1 := hW.wk hi8
      simp only [wkL]
      rw [e] at hW1 ⊢
      rw [if_neg (show ¬ (0 : Int32) = 1 by decide)]
      exact WP.fg (by simp [lcle]) (ih (i + 1) _ a (by omega) hW1)
    · refine wp_ald5 dX10_wakeQueues_34 ?_
      refine vi_Lock0 dX10_wakeQueues_36 kX10_169 (ct_isHeld (d := d - 1) hG hL (by assumption)) hL (by assumption) rfl (by omega) (Nat.le_of_ble_eq_true rfl) (Nat.le_refl _) (Nat.le_refl _) ?_
      refine wp_ifB_ne (tgt := 72) dX10_wakeQueues_39 (by decide) (fun c_39 => ?_) (fun c_39 => ?_)
      · refine wp_inc4 dX10_wakeQueues_72 (by decide) rfl ?_
        refine wp_goto (tgt := 13) dX10_wakeQueues_75 (by decide) ?_
        have e : wkS C i = (0, C) := by simp only [wkS, if_pos c_31, if_pos c_39]
        have hW1 := hW.wk hi8
        simp only [wkL]
        rw [e] at hW1 ⊢
        rw [if_neg (show ¬ (0 : Int32) = 1 by decide)]
        exact WP.fg (by simp [lcle]) (ih (i + 1) _ a (by omega) hW1)
      · refine wp_ald5 dX10_wakeQueues_42 ?_
        refine g_Lock_queue dX10_wakeQueues_44 fX10_194 hL (by assumption) ?_
        refine vi_Line0 (j := 14 + 5 * i) dX10_wakeQueues_47 kX10_198 (ct_isEmpty (d := d - 1) hG hL (LNq hi8)) hL (LNq (by assumption)) rfl (by omega) (Nat.le_of_ble_eq_true rfl) (Nat.le_refl _) (Nat.le_refl _) ?_
        refine wp_ifB_ne (tgt := 72) dX10_wakeQueues_50 (by decide) (fun c_50 => ?_) (fun c_50 => ?_)
        · refine wp_inc4 dX10_wakeQueues_72 (by decide) rfl ?_
          refine wp_goto (tgt := 13) dX10_wakeQueues_75 (by decide) ?_
          have e : wkS C i = (0, C) := by simp only [wkS, if_pos c_31, if_neg c_39, if_pos c_50]
          have hW1 := hW.wk hi8
          simp only [wkL]
          rw [e] at hW1 ⊢
          rw [if_neg (show ¬ (0 : Int32) = 1 by decide)]
          exact WP.fg (by simp [lcle]) (ih (i + 1) _ a (by omega) hW1)
        · refine wp_ald0 dX10_wakeQueues_53 ?_
          refine g_World_counts dX10_wakeQueues_54 fX10_20 hL ?_
          refine wp_iconst (v := 5) dX10_wakeQueues_57 (by decide) ?_
          refine wp_dup2 dX10_wakeQueues_58 rfl rfl ?_
          refine r_counts (i' := 5) dX10_wakeQueues_59 hG hL (by decide) (by decide) ?_
          refine wp_iconst (v := 1) dX10_wakeQueues_60 (by decide) ?_
          refine wp_iadd dX10_wakeQueues_61 ?_
          refine s_counts (i' := 5) dX10_wakeQueues_62 hG hL (by decide) (by decide) ?_
          refine wp_ald0 dX10_wakeQueues_63 ?_
          refine wp_ald5 dX10_wakeQueues_64 ?_
          refine vv_World1 dX10_wakeQueues_66 kX10_270 (ct_giveToFirst (d := d - 1) hG hL hi8 ((hW.up (by omega)).q hi8) (by omega)) hL rfl (by omega) (Nat.le_of_ble_eq_true rfl) (Nat.le_refl _) (Nat.le_refl _) ?_
          refine wp_iinc1 dX10_wakeQueues_69 (by decide) rfl ?_
          refine wp_inc4 dX10_wakeQueues_72 (by decide) rfl ?_
          refine wp_goto (tgt := 13) dX10_wakeQueues_75 (by decide) ?_
          have e : wkS C i = (1, g2fF (upd C (231 + 5) (C (231 + 5) + 1)) i) := by simp only [wkS, if_pos c_31, if_neg c_39, if_neg c_50]
          have hW1 := hW.wk hi8
          simp only [wkL]
          rw [e] at hW1 ⊢
          rw [if_pos rfl]
          exact WP.fg (by simp [lcle]) (ih (i + 1) _ (a + 1) (by omega) hW1)
set_option maxHeartbeats 1000000 in
theorem ct_wakeQueues {G : GG} {B : Nat} {C : Nat → Int32} {E0 : Nat → va_E} {L : List Nat} {sz d : Nat}  (hG : GOK G) (hL : rIn (wR G B) L) (hW : WI C) (hdp : 2 ≤ d) : Ct G d yX10_wakeQueues iX10_wakeQueues [.ref B] (Wm G B C E0 L sz) 0 0 (some (.int (wkF C).1)) (Wm G B ((wkF C).2) E0 L sz) := by
  refine Ct.of 5 (by decide) rfl (by decide) (Nat.le_of_ble_eq_true rfl) ?_
  show WP _ _ _ _ _ _ _ 0 [some (.ref B), none, none, none, none, none] [] _ 0 0
  refine wp_iconst (v := 0) dX10_wakeQueues_0 (by decide) ?_
  refine wp_ist1 dX10_wakeQueues_1 (by decide) rfl ?_
  refine wp_ald0 dX10_wakeQueues_2 ?_
  refine g_World_locks dX10_wakeQueues_3 fX10_32 hL ?_
  refine wp_ast2 dX10_wakeQueues_6 (by decide) rfl ?_
  refine wp_ald2 dX10_wakeQueues_7 ?_
  refine l_locks dX10_wakeQueues_8 hG hL ?_
  refine wp_ist3 dX10_wakeQueues_9 (by decide) rfl ?_
  refine wp_iconst (v := 0) dX10_wakeQueues_10 (by decide) ?_
  refine wp_ist4 dX10_wakeQueues_11 (by decide) rfl ?_
  simp only [wkF]
  exact WP.fg (by simp [lcle, nI_0]) (lp_wk hG hL hdp 8 0 C 0 rfl hW)

def dfoS (C : Nat → Int32) (i : Nat) (z : Int32) : Nat → Int32 := if idlP C i then (if C 9 - C (102 + i) < z then C else deflF C i) else C
def dfoL (z : Int32) : Nat → Nat → (Nat → Int32) → (Nat → Int32)
  | 0, _, C => C
  | n + 1, i, C => dfoL z n (i + 1) (dfoS C i z)
def dfoF (C : Nat → Int32) : Nat → Int32 := dfoL (valF C 5) 8 0 C
theorem SameS.dfoS {C : Nat → Int32} {i : Nat} {z : Int32} (hi : i < 8) : SameS C (dfoS C i z) := by
  show SameS C (if idlP C i then (if C 9 - C (102 + i) < z then C else deflF C i) else C)
  split
  · split
    · exact SameS.rf
    · exact SameS.defl hi
  · exact SameS.rf
theorem SameS.dfoL {z : Int32} : ∀ (n i : Nat) (C : Nat → Int32), i + n = 8 → SameS C (dfoL z n i C)
  | 0, _, _, _ => SameS.rf
  | n + 1, i, C, h => (SameS.dfoS (by omega)).tr (SameS.dfoL n (i + 1) _ (by omega))
set_option maxHeartbeats 1000000 in
theorem lp_dfo {G : GG} {B : Nat} {E0 : Nat → va_E} {L : List Nat} {sz d : Nat} {z : Int32} (hG : GOK G) (hL : rIn (wR G B) L) (hdp : 1 ≤ d) (n : Nat) : ∀ (i : Nat) (C : Nat → Int32), i + n = 8 → WP G iX10_deflateOverdue d 0 0 none (Wm G B (dfoL z n i C) E0 L sz) 20 [some (.ref B), some (.int z), some (.ref (B + 5)), some (.int (nI 8)), some (.int (nI i)), none] [] (Wm G B C E0 L sz) 0 0 := by
  induction n with
  | zero =>
    intro i C hi
    refine wp_ild4 dX10_deflateOverdue_20 ?_
    refine wp_ild3 dX10_deflateOverdue_22 ?_
    refine wp_icmp_ge (tgt := 66) dX10_deflateOverdue_23 (by decide) (fun c_23 => ?_) (fun c_23 => absurd (by rw [show i = 8 by omega]; exact Int32.le_refl _) c_23)
    exact wp_vret dX10_deflateOverdue_66 rfl (Nat.le_refl _) (Nat.le_refl _) (by first | with_reducible rfl | (simp only [dfoL]; done) | (simp only [dfoL]; rfl) | rfl) (by first | with_reducible rfl | (simp only [dfoL]; done) | (simp only [dfoL]; rfl) | rfl)
  | succ n ih =>
    intro i C hi
    refine wp_ild4 dX10_deflateOverdue_20 ?_
    refine wp_ild3 dX10_deflateOverdue_22 ?_
    refine wp_icmp_ge (tgt := 66) dX10_deflateOverdue_23 (by decide) (fun c_23 => absurd c_23 (nI_ge (by omega) (by decide))) (fun c_23 => ?_)
    have hi8 : i < 8 := by omega
    refine wp_ald2 dX10_deflateOverdue_26 ?_
    refine wp_ild4 dX10_deflateOverdue_27 ?_
    refine r_locks (i' := i) dX10_deflateOverdue_29 hG hL rfl (by first | assumption | omega) ?_
    refine wp_ast5 dX10_deflateOverdue_30 (by decide) rfl ?_
    refine wp_ald5 dX10_deflateOverdue_32 ?_
    refine vi_Lock0 dX10_deflateOverdue_34 kX10_252 (ct_isIdle (d := d - 1) hG hL (by assumption)) hL (by assumption) rfl (by omega) (Nat.le_of_ble_eq_true rfl) (Nat.le_refl _) (Nat.le_refl _) ?_
    refine wp_ifB_eq (tgt := 60) dX10_deflateOverdue_37 (by decide) (fun c_37 => ?_) (fun c_37 => ?_)
    · refine wp_inc4 dX10_deflateOverdue_60 (by decide) rfl ?_
      refine wp_goto (tgt := 20) dX10_deflateOverdue_63 (by decide) ?_
      have e : dfoS C i z = C := by simp only [dfoS, if_neg c_37]
      simp only [dfoL]
      rw [e]
      exact WP.fg (by simp [lcle]) (ih (i + 1) _ (by omega))
    · refine wp_ald0 dX10_deflateOverdue_40 ?_
      refine g_World_now dX10_deflateOverdue_41 fX10_54 hL ?_
      refine wp_ald5 dX10_deflateOverdue_44 ?_
      refine g_Lock_idleSince dX10_deflateOverdue_46 fX10_255 hL (by assumption) ?_
      refine wp_isub dX10_deflateOverdue_49 ?_
      refine wp_ild1 dX10_deflateOverdue_50 ?_
      refine wp_icmp_lt (tgt := 60) dX10_deflateOverdue_51 (by decide) (fun c_51 => ?_) (fun c_51 => ?_)
      · refine wp_inc4 dX10_deflateOverdue_60 (by decide) rfl ?_
        refine wp_goto (tgt := 20) dX10_deflateOverdue_63 (by decide) ?_
        have e : dfoS C i z = C := by simp only [dfoS, if_pos c_37, if_pos c_51]
        simp only [dfoL]
        rw [e]
        exact WP.fg (by simp [lcle]) (ih (i + 1) _ (by omega))
      · refine wp_ald0 dX10_deflateOverdue_54 ?_
        refine wp_ald5 dX10_deflateOverdue_55 ?_
        refine vv_World1 dX10_deflateOverdue_57 kX10_258 (ct_deflate (d := d - 1) hG hL hi8) hL rfl (by omega) (Nat.le_of_ble_eq_true rfl) (Nat.le_refl _) (Nat.le_refl _) ?_
        refine wp_inc4 dX10_deflateOverdue_60 (by decide) rfl ?_
        refine wp_goto (tgt := 20) dX10_deflateOverdue_63 (by decide) ?_
        have e : dfoS C i z = deflF C i := by simp only [dfoS, if_pos c_37, if_neg c_51]
        simp only [dfoL]
        rw [e]
        exact WP.fg (by simp [lcle]) (ih (i + 1) _ (by omega))
set_option maxHeartbeats 1000000 in
theorem ct_deflateOverdue {G : GG} {B : Nat} {C : Nat → Int32} {E0 : Nat → va_E} {L : List Nat} {sz d : Nat}  (hG : GOK G) (hL : rIn (wR G B) L)  (hdp : 1 ≤ d) : Ct G d yX10_deflateOverdue iX10_deflateOverdue [.ref B] (Wm G B C E0 L sz) 0 0 none (Wm G B (dfoF C) E0 L sz) := by
  refine Ct.of 5 (by decide) rfl (by decide) (Nat.le_of_ble_eq_true rfl) ?_
  show WP _ _ _ _ _ _ _ 0 [some (.ref B), none, none, none, none, none] [] _ 0 0
  refine wp_ald0 dX10_deflateOverdue_0 ?_
  refine g_World_settings dX10_deflateOverdue_1 fX10_12 hL ?_
  refine wp_iconst (v := 5) dX10_deflateOverdue_4 (by decide) ?_
  refine vi_Settings1 dX10_deflateOverdue_5 kX10_69 (ct_valueOf (d := d - 1) hG hL) hL rfl (by omega) (Nat.le_of_ble_eq_true rfl) (Nat.le_refl _) (Nat.le_refl _) ?_
  refine wp_ist1 dX10_deflateOverdue_8 (by decide) rfl ?_
  refine wp_ald0 dX10_deflateOverdue_9 ?_
  refine g_World_locks dX10_deflateOverdue_10 fX10_32 hL ?_
  refine wp_ast2 dX10_deflateOverdue_13 (by decide) rfl ?_
  refine wp_ald2 dX10_deflateOverdue_14 ?_
  refine l_locks dX10_deflateOverdue_15 hG hL ?_
  refine wp_ist3 dX10_deflateOverdue_16 (by decide) rfl ?_
  refine wp_iconst (v := 0) dX10_deflateOverdue_17 (by decide) ?_
  refine wp_ist4 dX10_deflateOverdue_18 (by decide) rfl ?_
  simp only [dfoF]
  exact WP.fg (by simp [lcle, nI_0]) (lp_dfo hG hL hdp 8 0 C rfl)

