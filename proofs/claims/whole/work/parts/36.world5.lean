def ewF (C : Nat → Int32) (x : Int32) (o : Nat) (h : Int32) : Nat → Int32 := upd (upd (dropF C (118 + o) (174 + 6 * o) x) (10 + nt x) 1) (22 + nt x) h
theorem WI.ew {C : Nat → Int32} {x : Int32} {o : Nat} {h : Int32} (hW : WI C) (ho : o < 8) (hxb : nt x < 6) : WI (ewF C x o h) := ((hW.dropw ho).up (by omega)).up (by omega)
set_option maxHeartbeats 1000000 in
theorem ct_endWait {G : GG} {B : Nat} {C : Nat → Int32} {E0 : Nat → va_E} {L : List Nat} {sz d : Nat} {o : Nat} {x h : Int32} (hG : GOK G) (hL : rIn (wR G B) L) (ho : o < 8) (hx : x = nI (nt x)) (hxb : nt x < 6) (hs : OKs C (118 + o)) (hdp : 1 ≤ d) : Ct G d yX10_endWait iX10_endWait [.ref B, .int x, .ref (aLk B o), .int h] (Wm G B C E0 L sz) 0 0 none (Wm G B (ewF C x o h) E0 L sz) := by
  refine Ct.of 1 (by decide) rfl (by decide) (Nat.le_of_ble_eq_true rfl) ?_
  show WP _ _ _ _ _ _ _ 0 [some (.ref B), some (.int x), some (.ref (aLk B o)), some (.int h), none] [] _ 0 0
  refine wp_ald2 dX10_endWait_0 ?_
  refine g_Lock_waitSet dX10_endWait_1 fX10_295 hL (by assumption) ?_
  refine wp_ild1 dX10_endWait_4 ?_
  refine vv_Line1 (j := 16 + 5 * o) dX10_endWait_5 kX10_276 (ct_drop (d := d - 1) hG hL (LNw ho) (by intros; omega) hs) hL (LNw (by assumption)) rfl (by omega) (Nat.le_of_ble_eq_true rfl) (Nat.le_refl _) (Nat.le_refl _) ?_
  refine wp_ald0 dX10_endWait_8 ?_
  refine g_World_strands dX10_endWait_9 fX10_26 hL ?_
  refine wp_ild1 dX10_endWait_12 ?_
  refine r_strands (i' := nt x) dX10_endWait_13 hG hL hx (by first | assumption | omega) ?_
  refine wp_ast4 dX10_endWait_14 (by decide) rfl ?_
  refine wp_ald4 dX10_endWait_16 ?_
  refine wp_iconst (v := 1) dX10_endWait_18 (by decide) ?_
  refine p_Strand_state dX10_endWait_19 pX10_135 hL (by assumption) ?_
  refine wp_ald4 dX10_endWait_22 ?_
  refine wp_ild3 dX10_endWait_24 ?_
  refine p_Strand_waitEnding dX10_endWait_25 pX10_285 hL (by assumption) ?_
  exact wp_vret dX10_endWait_28 rfl (Nat.le_refl _) (Nat.le_refl _) (by first | with_reducible rfl | (simp only [ewF]; done) | (simp only [ewF]; rfl) | rfl) (by first | with_reducible rfl | (simp only [ewF]; done) | (simp only [ewF]; rfl) | rfl)

def nfF (C : Nat → Int32) (x y : Int32) : Int32 × (Nat → Int32) := if oErrF C x y = 0 then (if hasT C (atF C (118 + nt y) (174 + 6 * nt y) 0) then ((atF C (118 + nt y) (174 + 6 * nt y) 0), if valF (ewF C (atF C (118 + nt y) (174 + 6 * nt y) 0) (nt y) 1) 7 = 1 then pfiF (ewF C (atF C (118 + nt y) (174 + 6 * nt y) 0) (nt y) 1) (110 + nt y) (126 + 6 * nt y) (atF C (118 + nt y) (174 + 6 * nt y) 0) else appF (ewF C (atF C (118 + nt y) (174 + 6 * nt y) 0) (nt y) 1) (110 + nt y) (126 + 6 * nt y) (atF C (118 + nt y) (174 + 6 * nt y) 0)) else (-8, C)) else (oErrF C x y, C)
set_option maxHeartbeats 1000000 in
theorem ct_notifyFirst {G : GG} {B : Nat} {C : Nat → Int32} {E0 : Nat → va_E} {L : List Nat} {sz d : Nat} {x y : Int32} (hG : GOK G) (hL : rIn (wR G B) L) (hW : WI C) (hdp : 3 ≤ d) : Ct G d yX10_notifyFirst iX10_notifyFirst [.ref B, .int x, .int y] (Wm G B C E0 L sz) 0 0 (some (.int (nfF C x y).1)) (Wm G B ((nfF C x y).2) E0 L sz) := by
  refine Ct.of 3 (by decide) rfl (by decide) (Nat.le_of_ble_eq_true rfl) ?_
  show WP _ _ _ _ _ _ _ 0 [some (.ref B), some (.int x), some (.int y), none, none, none] [] _ 0 0
  refine wp_ald0 dX10_notifyFirst_0 ?_
  refine wp_ild1 dX10_notifyFirst_1 ?_
  refine wp_ild2 dX10_notifyFirst_2 ?_
  refine vi_World2 dX10_notifyFirst_3 kX10_261 (ct_ownerError (d := d - 1) hG hL (by omega)) hL rfl (by omega) (Nat.le_of_ble_eq_true rfl) (Nat.le_refl _) (Nat.le_refl _) ?_
  refine wp_ist3 dX10_notifyFirst_6 (by decide) rfl ?_
  refine wp_ild3 dX10_notifyFirst_7 ?_
  refine wp_if_eq (tgt := 13) dX10_notifyFirst_8 (by decide) (fun c_8 => ?_) (fun c_8 => ?_)
  · obtain ⟨⟨hx, hxb⟩, hy, hyb⟩ := oErrN c_8
    refine wp_ald0 dX10_notifyFirst_13 ?_
    refine g_World_locks dX10_notifyFirst_14 fX10_32 hL ?_
    refine wp_ild2 dX10_notifyFirst_17 ?_
    refine r_locks (i' := nt y) dX10_notifyFirst_18 hG hL hy (by first | assumption | omega) ?_
    refine wp_ast4 dX10_notifyFirst_19 (by decide) rfl ?_
    refine wp_ald4 dX10_notifyFirst_21 ?_
    refine g_Lock_waitSet dX10_notifyFirst_23 fX10_295 hL (by assumption) ?_
    refine wp_iconst (v := 0) dX10_notifyFirst_26 (by decide) ?_
    refine vi_Line1 (j := 16 + 5 * nt y) dX10_notifyFirst_27 kX10_273 (ct_at (d := d - 1) hG hL (LNw hyb) (hW.w hyb)) hL (LNw (by assumption)) rfl (by omega) (Nat.le_of_ble_eq_true rfl) (Nat.le_refl _) (Nat.le_refl _) ?_
    refine wp_ist5 dX10_notifyFirst_30 (by decide) rfl ?_
    refine wp_ald0 dX10_notifyFirst_32 ?_
    refine wp_ild5 dX10_notifyFirst_33 ?_
    refine vi_World1 dX10_notifyFirst_35 kX10_128 (ct_hasThread (d := d - 1) hG hL) hL rfl (by omega) (Nat.le_of_ble_eq_true rfl) (Nat.le_refl _) (Nat.le_refl _) ?_
    refine wp_ifB_ne (tgt := 44) dX10_notifyFirst_38 (by decide) (fun c_38 => ?_) (fun c_38 => ?_)
    · obtain ⟨hn, hnb⟩ := nat_of6 c_38.1 c_38.2.2
      refine wp_ald0 dX10_notifyFirst_44 ?_
      refine wp_ild5 dX10_notifyFirst_45 ?_
      refine wp_ald4 dX10_notifyFirst_47 ?_
      refine wp_iconst (v := 1) dX10_notifyFirst_49 (by decide) ?_
      refine vv_World3 dX10_notifyFirst_50 kX10_298 (ct_endWait (d := d - 1) hG hL hyb hn hnb (hW.w hyb) (by omega)) hL rfl (by omega) (Nat.le_of_ble_eq_true rfl) (Nat.le_refl _) (Nat.le_refl _) ?_
      refine wp_ald0 dX10_notifyFirst_53 ?_
      refine g_World_settings dX10_notifyFirst_54 fX10_12 hL ?_
      refine wp_bipush (v := 7) dX10_notifyFirst_57 (by decide) ?_
      refine vi_Settings1 dX10_notifyFirst_59 kX10_69 (ct_valueOf (d := d - 1) hG hL) hL rfl (by omega) (Nat.le_of_ble_eq_true rfl) (Nat.le_refl _) (Nat.le_refl _) ?_
      refine wp_iconst (v := 1) dX10_notifyFirst_62 (by decide) ?_
      refine wp_icmp_ne (tgt := 79) dX10_notifyFirst_63 (by decide) (fun c_63 => ?_) (fun c_63 => ?_)
      · refine wp_ald4 dX10_notifyFirst_79 ?_
        refine g_Lock_queue dX10_notifyFirst_81 fX10_194 hL (by assumption) ?_
        refine wp_ild5 dX10_notifyFirst_84 ?_
        refine vv_Line1 (j := 14 + 5 * nt y) dX10_notifyFirst_86 kX10_210 (ct_append (d := d - 1) hG hL (LNq hyb) ((hW.ew hyb hnb).q hyb)) hL (LNq (by assumption)) rfl (by omega) (Nat.le_of_ble_eq_true rfl) (Nat.le_refl _) (Nat.le_refl _) ?_
        refine wp_ild5 dX10_notifyFirst_89 ?_
        exact wp_iret dX10_notifyFirst_91 rfl (Nat.le_refl _) (Nat.le_refl _) (by first | with_reducible rfl | (simp only [nfF, if_pos c_8, if_pos c_38, if_neg c_63]; done) | (simp only [nfF, if_pos c_8, if_pos c_38, if_neg c_63]; rfl) | rfl) (by first | with_reducible rfl | (simp only [nfF, if_pos c_8, if_pos c_38, if_neg c_63]; done) | (simp only [nfF, if_pos c_8, if_pos c_38, if_neg c_63]; rfl) | rfl)
      · refine wp_ald4 dX10_notifyFirst_66 ?_
        refine g_Lock_queue dX10_notifyFirst_68 fX10_194 hL (by assumption) ?_
        refine wp_ild5 dX10_notifyFirst_71 ?_
        refine vv_Line1 (j := 14 + 5 * nt y) dX10_notifyFirst_73 kX10_301 (ct_putFirst (d := d - 1) hG hL (LNq hyb) ((hW.ew hyb hnb).q hyb)) hL (LNq (by assumption)) rfl (by omega) (Nat.le_of_ble_eq_true rfl) (Nat.le_refl _) (Nat.le_refl _) ?_
        refine wp_goto (tgt := 89) dX10_notifyFirst_76 (by decide) ?_
        refine wp_ild5 dX10_notifyFirst_89 ?_
        exact wp_iret dX10_notifyFirst_91 rfl (Nat.le_refl _) (Nat.le_refl _) (by first | with_reducible rfl | (simp only [nfF, if_pos c_8, if_pos c_38, if_pos c_63]; done) | (simp only [nfF, if_pos c_8, if_pos c_38, if_pos c_63]; rfl) | rfl) (by first | with_reducible rfl | (simp only [nfF, if_pos c_8, if_pos c_38, if_pos c_63]; done) | (simp only [nfF, if_pos c_8, if_pos c_38, if_pos c_63]; rfl) | rfl)
    · refine wp_bipush (v := (-8)) dX10_notifyFirst_41 (by decide) ?_
      exact wp_iret dX10_notifyFirst_43 rfl (Nat.le_refl _) (Nat.le_refl _) (by first | with_reducible rfl | (simp only [nfF, if_pos c_8, if_neg c_38]; done) | (simp only [nfF, if_pos c_8, if_neg c_38]; rfl) | rfl) (by first | with_reducible rfl | (simp only [nfF, if_pos c_8, if_neg c_38]; done) | (simp only [nfF, if_pos c_8, if_neg c_38]; rfl) | rfl)
  · refine wp_ild3 dX10_notifyFirst_11 ?_
    exact wp_iret dX10_notifyFirst_12 rfl (Nat.le_refl _) (Nat.le_refl _) (by first | with_reducible rfl | (simp only [nfF, if_neg c_8]; done) | (simp only [nfF, if_neg c_8]; rfl) | rfl) (by first | with_reducible rfl | (simp only [nfF, if_neg c_8]; done) | (simp only [nfF, if_neg c_8]; rfl) | rfl)

def neS (C : Nat → Int32) (o : Nat) : Nat → Int32 := if hasT C (atF C (118 + o) (174 + 6 * o) 0) then appF (ewF C (atF C (118 + o) (174 + 6 * o) 0) o 1) (110 + o) (126 + 6 * o) (atF C (118 + o) (174 + 6 * o) 0) else C
def neL (o : Nat) : Nat → (Nat → Int32) → Int32 → Int32 × (Nat → Int32)
  | 0, C, a => (a, C)
  | n + 1, C, a => neL o n (neS C o) (if hasT C (atF C (118 + o) (174 + 6 * o) 0) then a + 1 else a)
def neF (C : Nat → Int32) (x y : Int32) : Int32 × (Nat → Int32) := if oErrF C x y = 0 then neL (nt y) 6 C 0 else (oErrF C x y, C)
theorem WI.ne {C : Nat → Int32} {o : Nat} (hW : WI C) (ho : o < 8) : WI (neS C o) := by
  unfold neS
  split
  · rename_i h
    exact (hW.ew ho (nat_of6 h.1 h.2.2).2).appq ho
  · exact hW
set_option maxHeartbeats 1000000 in
theorem lp_ne {G : GG} {B : Nat} {E0 : Nat → va_E} {L : List Nat} {sz d : Nat} {o : Nat} (hG : GOK G) (hL : rIn (wR G B) L) (ho : o < 8) (hdp : 3 ≤ d) (n : Nat) : ∀ (i : Nat) (C : Nat → Int32) (a : Int32), i + n = 6 → WI C → WP G iX10_notifyEach d 0 0 (some (.int (neL o n C a).1)) (Wm G B (neL o n C a).2 E0 L sz) 27 [some (.ref B), none, none, none, some (.ref (aLk B o)), some (.int a), some (.int (nI i)), none] [] (Wm G B C E0 L sz) 0 0 := by
  induction n with
  | zero =>
    intro i C a hi hW
    refine wp_ild6 dX10_notifyEach_27 ?_
    refine wp_bipush (v := 6) dX10_notifyEach_29 (by decide) ?_
    refine wp_icmp_ge (tgt := 82) dX10_notifyEach_31 (by decide) (fun c_31 => ?_) (fun c_31 => absurd (nI_le (a := 6) (b := i) (by omega) (by omega)) c_31)
    refine wp_ild5 dX10_notifyEach_82 ?_
    exact wp_iret dX10_notifyEach_84 rfl (Nat.le_refl _) (Nat.le_refl _) (by first | with_reducible rfl | (simp only [neL]; done) | (simp only [neL]; rfl) | rfl) (by first | with_reducible rfl | (simp only [neL]; done) | (simp only [neL]; rfl) | rfl)
  | succ n ih =>
    intro i C a hi hW
    refine wp_ild6 dX10_notifyEach_27 ?_
    refine wp_bipush (v := 6) dX10_notifyEach_29 (by decide) ?_
    refine wp_icmp_ge (tgt := 82) dX10_notifyEach_31 (by decide) (fun c_31 => absurd c_31 (nI_ge (a := i) (b := 6) (by omega) (by omega))) (fun c_31 => ?_)
    refine wp_ald4 dX10_notifyEach_34 ?_
    refine g_Lock_waitSet dX10_notifyEach_36 fX10_295 hL (by assumption) ?_
    refine wp_iconst (v := 0) dX10_notifyEach_39 (by decide) ?_
    refine vi_Line1 (j := 16 + 5 * o) dX10_notifyEach_40 kX10_273 (ct_at (d := d - 1) hG hL (LNw ho) (hW.w ho)) hL (LNw (by assumption)) rfl (by omega) (Nat.le_of_ble_eq_true rfl) (Nat.le_refl _) (Nat.le_refl _) ?_
    refine wp_ist7 dX10_notifyEach_43 (by decide) rfl ?_
    refine wp_ald0 dX10_notifyEach_45 ?_
    refine wp_ild7 dX10_notifyEach_46 ?_
    refine vi_World1 dX10_notifyEach_48 kX10_128 (ct_hasThread (d := d - 1) hG hL) hL rfl (by omega) (Nat.le_of_ble_eq_true rfl) (Nat.le_refl _) (Nat.le_refl _) ?_
    refine wp_ifB_eq (tgt := 76) dX10_notifyEach_51 (by decide) (fun c_51 => ?_) (fun c_51 => ?_)
    · refine wp_inc6 dX10_notifyEach_76 (by decide) rfl ?_
      refine wp_goto (tgt := 27) dX10_notifyEach_79 (by decide) ?_
      have e : neS C o = C := by simp only [neS, if_neg c_51]
      have hW1 := hW.ne ho
      simp only [neL, if_neg c_51]
      rw [e] at hW1 ⊢
      exact WP.fg (by simp [lcle]) (ih (i + 1) _ a (by omega) hW1)
    · obtain ⟨hn, hnb⟩ := nat_of6 c_51.1 c_51.2.2
      refine wp_ald0 dX10_notifyEach_54 ?_
      refine wp_ild7 dX10_notifyEach_55 ?_
      refine wp_ald4 dX10_notifyEach_57 ?_
      refine wp_iconst (v := 1) dX10_notifyEach_59 (by decide) ?_
      refine vv_World3 dX10_notifyEach_60 kX10_298 (ct_endWait (d := d - 1) hG hL ho hn hnb (hW.w ho) (by omega)) hL rfl (by omega) (Nat.le_of_ble_eq_true rfl) (Nat.le_refl _) (Nat.le_refl _) ?_
      refine wp_ald4 dX10_notifyEach_63 ?_
      refine g_Lock_queue dX10_notifyEach_65 fX10_194 hL (by assumption) ?_
      refine wp_ild7 dX10_notifyEach_68 ?_
      refine vv_Line1 (j := 14 + 5 * o) dX10_notifyEach_70 kX10_210 (ct_append (d := d - 1) hG hL (LNq ho) ((hW.ew ho hnb).q ho)) hL (LNq (by assumption)) rfl (by omega) (Nat.le_of_ble_eq_true rfl) (Nat.le_refl _) (Nat.le_refl _) ?_
      refine wp_iinc5 dX10_notifyEach_73 (by decide) rfl ?_
      refine wp_inc6 dX10_notifyEach_76 (by decide) rfl ?_
      refine wp_goto (tgt := 27) dX10_notifyEach_79 (by decide) ?_
      have e : neS C o = appF (ewF C (atF C (118 + o) (174 + 6 * o) 0) o 1) (110 + o) (126 + 6 * o) (atF C (118 + o) (174 + 6 * o) 0) := by simp only [neS, if_pos c_51]
      have hW1 := hW.ne ho
      simp only [neL, if_pos c_51]
      rw [e] at hW1 ⊢
      exact WP.fg (by simp [lcle]) (ih (i + 1) _ (a + 1) (by omega) hW1)
set_option maxHeartbeats 1000000 in
theorem ct_notifyEach {G : GG} {B : Nat} {C : Nat → Int32} {E0 : Nat → va_E} {L : List Nat} {sz d : Nat} {x y : Int32} (hG : GOK G) (hL : rIn (wR G B) L) (hW : WI C) (hdp : 3 ≤ d) : Ct G d yX10_notifyEach iX10_notifyEach [.ref B, .int x, .int y] (Wm G B C E0 L sz) 0 0 (some (.int (neF C x y).1)) (Wm G B ((neF C x y).2) E0 L sz) := by
  refine Ct.of 5 (by decide) rfl (by decide) (Nat.le_of_ble_eq_true rfl) ?_
  show WP _ _ _ _ _ _ _ 0 [some (.ref B), some (.int x), some (.int y), none, none, none, none, none] [] _ 0 0
  refine wp_ald0 dX10_notifyEach_0 ?_
  refine wp_ild1 dX10_notifyEach_1 ?_
  refine wp_ild2 dX10_notifyEach_2 ?_
  refine vi_World2 dX10_notifyEach_3 kX10_261 (ct_ownerError (d := d - 1) hG hL (by omega)) hL rfl (by omega) (Nat.le_of_ble_eq_true rfl) (Nat.le_refl _) (Nat.le_refl _) ?_
  refine wp_ist3 dX10_notifyEach_6 (by decide) rfl ?_
  refine wp_ild3 dX10_notifyEach_7 ?_
  refine wp_if_eq (tgt := 13) dX10_notifyEach_8 (by decide) (fun c_8 => ?_) (fun c_8 => ?_)
  · obtain ⟨⟨hx, hxb⟩, hy, hyb⟩ := oErrN c_8
    refine wp_ald0 dX10_notifyEach_13 ?_
    refine g_World_locks dX10_notifyEach_14 fX10_32 hL ?_
    refine wp_ild2 dX10_notifyEach_17 ?_
    refine r_locks (i' := nt y) dX10_notifyEach_18 hG hL hy (by first | assumption | omega) ?_
    refine wp_ast4 dX10_notifyEach_19 (by decide) rfl ?_
    refine wp_iconst (v := 0) dX10_notifyEach_21 (by decide) ?_
    refine wp_ist5 dX10_notifyEach_22 (by decide) rfl ?_
    refine wp_iconst (v := 0) dX10_notifyEach_24 (by decide) ?_
    refine wp_ist6 dX10_notifyEach_25 (by decide) rfl ?_
    simp only [neF, if_pos c_8]
    exact WP.fg (by simp [lcle, nI_0]) (lp_ne hG hL hyb hdp 6 0 C 0 rfl hW)
  · refine wp_ild3 dX10_notifyEach_11 ?_
    exact wp_iret dX10_notifyEach_12 rfl (Nat.le_refl _) (Nat.le_refl _) (by first | with_reducible rfl | (simp only [neF, if_neg c_8]; done) | (simp only [neF, if_neg c_8]; rfl) | rfl) (by first | with_reducible rfl | (simp only [neF, if_neg c_8]; done) | (simp only [neF, if_neg c_8]; rfl) | rfl)

def intF (C : Nat → Int32) (x : Int32) : Int32 × (Nat → Int32) := if hasT C x then (if C (10 + nt x) = 3 then (-7, C) else if C (10 + nt x) = 2 then (if isO (C (28 + nt x)) then (1, appF (ewF C x (nt (C (28 + nt x))) 3) (110 + nt (C (28 + nt x))) (126 + 6 * nt (C (28 + nt x))) x) else (0, upd C (16 + nt x) 1)) else (0, upd C (16 + nt x) 1)) else (-1, C)
set_option maxHeartbeats 1000000 in
theorem ct_interruptThread {G : GG} {B : Nat} {C : Nat → Int32} {E0 : Nat → va_E} {L : List Nat} {sz d : Nat} {x : Int32} (hG : GOK G) (hL : rIn (wR G B) L) (hW : WI C) (hdp : 2 ≤ d) : Ct G d yX10_interruptThread iX10_interruptThread [.ref B, .int x] (Wm G B C E0 L sz) 0 0 (some (.int (intF C x).1)) (Wm G B ((intF C x).2) E0 L sz) := by
  refine Ct.of 2 (by decide) rfl (by decide) (Nat.le_of_ble_eq_true rfl) ?_
  show WP _ _ _ _ _ _ _ 0 [some (.ref B), some (.int x), none, none] [] _ 0 0
  refine wp_ald0 dX10_interruptThread_0 ?_
  refine wp_ild1 dX10_interruptThread_1 ?_
  refine vi_World1 dX10_interruptThread_2 kX10_128 (ct_hasThread (d := d - 1) hG hL) hL rfl (by omega) (Nat.le_of_ble_eq_true rfl) (Nat.le_refl _) (Nat.le_refl _) ?_
  refine wp_ifB_ne (tgt := 10) dX10_interruptThread_5 (by decide) (fun c_5 => ?_) (fun c_5 => ?_)
  · obtain ⟨hx, hxb⟩ := nat_of6 c_5.1 c_5.2.2
    refine wp_ald0 dX10_interruptThread_10 ?_
    refine g_World_strands dX10_interruptThread_11 fX10_26 hL ?_
    refine wp_ild1 dX10_interruptThread_14 ?_
    refine r_strands (i' := nt x) dX10_interruptThread_15 hG hL hx (by first | assumption | omega) ?_
    refine wp_ast2 dX10_interruptThread_16 (by decide) rfl ?_
    refine wp_ald2 dX10_interruptThread_17 ?_
    refine g_Strand_state dX10_interruptThread_18 fX10_135 hL (by assumption) ?_
    refine wp_iconst (v := 3) dX10_interruptThread_21 (by decide) ?_
    refine wp_icmp_ne (tgt := 28) dX10_interruptThread_22 (by decide) (fun c_22 => ?_) (fun c_22 => ?_)
    · refine wp_ald2 dX10_interruptThread_28 ?_
      refine g_Strand_state dX10_interruptThread_29 fX10_135 hL (by assumption) ?_
      refine wp_iconst (v := 2) dX10_interruptThread_32 (by decide) ?_
      refine wp_icmp_ne (tgt := 73) dX10_interruptThread_33 (by decide) (fun c_33 => ?_) (fun c_33 => ?_)
      · refine wp_ald2 dX10_interruptThread_73 ?_
        refine wp_iconst (v := 1) dX10_interruptThread_74 (by decide) ?_
        refine p_Strand_interrupted dX10_interruptThread_75 pX10_282 hL (by assumption) rfl rfl ?_
        refine wp_iconst (v := 0) dX10_interruptThread_78 (by decide) ?_
        exact wp_iret dX10_interruptThread_79 rfl (Nat.le_refl _) (Nat.le_refl _) (by first | with_reducible rfl | (simp only [intF, if_pos c_5, if_neg c_22, if_neg c_33]; done) | (simp only [intF, if_pos c_5, if_neg c_22, if_neg c_33]; rfl) | rfl) (by first | with_reducible rfl | (simp only [intF, if_pos c_5, if_neg c_22, if_neg c_33]; done) | (simp only [intF, if_pos c_5, if_neg c_22, if_neg c_33]; rfl) | rfl)
      · refine wp_ald2 dX10_interruptThread_36 ?_
        refine g_Strand_place dX10_interruptThread_37 fX10_216 hL (by assumption) ?_
        refine ci_isObj rfl dX10_interruptThread_40 (ct_isObject (d := d - 1)) (by omega) (Nat.le_of_ble_eq_true rfl) (Nat.le_refl _) (Nat.le_refl _) ?_
        refine wp_ifB_eq (tgt := 73) dX10_interruptThread_43 (by decide) (fun c_43 => ?_) (fun c_43 => ?_)
        · refine wp_ald2 dX10_interruptThread_73 ?_
          refine wp_iconst (v := 1) dX10_interruptThread_74 (by decide) ?_
          refine p_Strand_interrupted dX10_interruptThread_75 pX10_282 hL (by assumption) rfl rfl ?_
          refine wp_iconst (v := 0) dX10_interruptThread_78 (by decide) ?_
          exact wp_iret dX10_interruptThread_79 rfl (Nat.le_refl _) (Nat.le_refl _) (by first | with_reducible rfl | (simp only [intF, if_pos c_5, if_neg c_22, if_pos c_33, if_neg c_43]; done) | (simp only [intF, if_pos c_5, if_neg c_22, if_pos c_33, if_neg c_43]; rfl) | rfl) (by first | with_reducible rfl | (simp only [intF, if_pos c_5, if_neg c_22, if_pos c_33, if_neg c_43]; done) | (simp only [intF, if_pos c_5, if_neg c_22, if_pos c_33, if_neg c_43]; rfl) | rfl)
        · refine wp_ald0 dX10_interruptThread_46 ?_
          refine g_World_locks dX10_interruptThread_47 fX10_32 hL ?_
          refine wp_ald2 dX10_interruptThread_50 ?_
          refine g_Strand_place dX10_interruptThread_51 fX10_216 hL (by assumption) ?_
          obtain ⟨hp, hpb⟩ := nat_of8 c_43.1 c_43.2
          refine r_locks (i' := nt (C (28 + nt x))) dX10_interruptThread_54 hG hL hp (by first | assumption | omega) ?_
          refine wp_ast3 dX10_interruptThread_55 (by decide) rfl ?_
          refine wp_ald0 dX10_interruptThread_56 ?_
          refine wp_ild1 dX10_interruptThread_57 ?_
          refine wp_ald3 dX10_interruptThread_58 ?_
          refine wp_iconst (v := 3) dX10_interruptThread_59 (by decide) ?_
          refine vv_World3 dX10_interruptThread_60 kX10_298 (ct_endWait (d := d - 1) hG hL hpb hx hxb (hW.w hpb) (by omega)) hL rfl (by omega) (Nat.le_of_ble_eq_true rfl) (Nat.le_refl _) (Nat.le_refl _) ?_
          refine wp_ald3 dX10_interruptThread_63 ?_
          refine g_Lock_queue dX10_interruptThread_64 fX10_194 hL (by assumption) ?_
          refine wp_ild1 dX10_interruptThread_67 ?_
          refine vv_Line1 (j := 14 + 5 * nt (C (28 + nt x))) dX10_interruptThread_68 kX10_210 (ct_append (d := d - 1) hG hL (LNq hpb) ((hW.ew hpb hxb).q hpb)) hL (LNq (by assumption)) rfl (by omega) (Nat.le_of_ble_eq_true rfl) (Nat.le_refl _) (Nat.le_refl _) ?_
          refine wp_iconst (v := 1) dX10_interruptThread_71 (by decide) ?_
          exact wp_iret dX10_interruptThread_72 rfl (Nat.le_refl _) (Nat.le_refl _) (by first | with_reducible rfl | (simp only [intF, if_pos c_5, if_neg c_22, if_pos c_33, if_pos c_43]; done) | (simp only [intF, if_pos c_5, if_neg c_22, if_pos c_33, if_pos c_43]; rfl) | rfl) (by first | with_reducible rfl | (simp only [intF, if_pos c_5, if_neg c_22, if_pos c_33, if_pos c_43]; done) | (simp only [intF, if_pos c_5, if_neg c_22, if_pos c_33, if_pos c_43]; rfl) | rfl)
    · refine wp_bipush (v := (-7)) dX10_interruptThread_25 (by decide) ?_
      exact wp_iret dX10_interruptThread_27 rfl (Nat.le_refl _) (Nat.le_refl _) (by first | with_reducible rfl | (simp only [intF, if_pos c_5, if_pos c_22]; done) | (simp only [intF, if_pos c_5, if_pos c_22]; rfl) | rfl) (by first | with_reducible rfl | (simp only [intF, if_pos c_5, if_pos c_22]; done) | (simp only [intF, if_pos c_5, if_pos c_22]; rfl) | rfl)
  · refine wp_iconst (v := (-1)) dX10_interruptThread_8 (by decide) ?_
    exact wp_iret dX10_interruptThread_9 rfl (Nat.le_refl _) (Nat.le_refl _) (by first | with_reducible rfl | (simp only [intF, if_neg c_5]; done) | (simp only [intF, if_neg c_5]; rfl) | rfl) (by first | with_reducible rfl | (simp only [intF, if_neg c_5]; done) | (simp only [intF, if_neg c_5]; rfl) | rfl)

def hsT (C : Nat → Int32) (y : Int32) : Int32 × (Nat → Int32) := (upd (upd C 240 (C 240 + 1)) (94 + nt y) (7919 * upd C 240 (C 240 + 1) 240 + 13 * y - (7919 * upd C 240 (C 240 + 1) 240 + 13 * y) / 1000 * 1000) (94 + nt y), upd (upd C 240 (C 240 + 1)) (94 + nt y) (7919 * upd C 240 (C 240 + 1) 240 + 13 * y - (7919 * upd C 240 (C 240 + 1) 240 + 13 * y) / 1000 * 1000))
def hsN (C : Nat → Int32) (y : Int32) : Int32 × (Nat → Int32) := if C (46 + nt y) = 4 then hsT C y else hsT (upd C (46 + nt y) 0) y
def hashF (C : Nat → Int32) (y : Int32) : Int32 × (Nat → Int32) := if isO y then (if C (94 + nt y) = -1 then (if ¬ C (62 + nt y) ≤ 0 then (if C (46 + nt y) = 4 then hsN C y else if cinP C then hsT (inflF C (nt y)) y else (-6, C)) else hsN C y) else (C (94 + nt y), C)) else (-2, C)
set_option maxHeartbeats 2000000 in
theorem tl_hsT {G : GG} {B : Nat} {C : Nat → Int32} {E0 : Nat → va_E} {L : List Nat} {sz d : Nat} {y : Int32} (hG : GOK G) (hL : rIn (wR G B) L) (hyb : nt y < 8) (hdp : 0 ≤ d) : WP G iX10_hashOf d 0 0 (some (.int (hsT C y).1)) (Wm G B ((hsT C y).2) E0 L sz) 76 [some (.ref B), some (.int y), some (.ref (aLk B (nt y)))] [] (Wm G B C E0 L sz) 0 0 := by
  refine wp_ald0 dX10_hashOf_76 ?_
  refine wp_dup dX10_hashOf_77 rfl ?_
  refine g_World_hashesMade dX10_hashOf_78 fX10_57 hL ?_
  refine wp_iconst (v := 1) dX10_hashOf_81 (by decide) ?_
  refine wp_iadd dX10_hashOf_82 ?_
  refine p_World_hashesMade dX10_hashOf_83 pX10_57 hL ?_
  refine wp_ald2 dX10_hashOf_86 ?_
  refine wp_sipush (v := 7919) dX10_hashOf_87 (by decide) ?_
  refine wp_ald0 dX10_hashOf_90 ?_
  refine g_World_hashesMade dX10_hashOf_91 fX10_57 hL ?_
  refine wp_imul dX10_hashOf_94 ?_
  refine wp_bipush (v := 13) dX10_hashOf_95 (by decide) ?_
  refine wp_ild1 dX10_hashOf_97 ?_
  refine wp_imul dX10_hashOf_98 ?_
  refine wp_iadd dX10_hashOf_99 ?_
  refine wp_sipush (v := 1000) dX10_hashOf_100 (by decide) ?_
  refine wp_irem dX10_hashOf_103 (by decide) ?_
  refine p_Lock_hashValue dX10_hashOf_104 pX10_304 hL (by assumption) ?_
  refine wp_ald2 dX10_hashOf_107 ?_
  refine g_Lock_hashValue dX10_hashOf_108 fX10_304 hL (by assumption) ?_
  exact wp_iret dX10_hashOf_111 rfl (Nat.le_refl _) (Nat.le_refl _) (by first | with_reducible rfl | (simp only [hsT]; done) | (simp only [hsT]; rfl) | rfl) (by first | with_reducible rfl | (simp only [hsT]; done) | (simp only [hsT]; rfl) | rfl)
set_option maxHeartbeats 2000000 in
theorem tl_hsN {G : GG} {B : Nat} {C : Nat → Int32} {E0 : Nat → va_E} {L : List Nat} {sz d : Nat} {y : Int32} (hG : GOK G) (hL : rIn (wR G B) L) (hyb : nt y < 8) (hdp : 0 ≤ d) : WP G iX10_hashOf d 0 0 (some (.int (hsN C y).1)) (Wm G B ((hsN C y).2) E0 L sz) 63 [some (.ref B), some (.int y), some (.ref (aLk B (nt y)))] [] (Wm G B C E0 L sz) 0 0 := by
  refine wp_ald2 dX10_hashOf_63 ?_
  refine g_Lock_state dX10_hashOf_64 fX10_152 hL (by assumption) ?_
  refine wp_iconst (v := 4) dX10_hashOf_67 (by decide) ?_
  refine wp_icmp_eq (tgt := 76) dX10_hashOf_68 (by decide) (fun c_68 => ?_) (fun c_68 => ?_)
  · simp only [hsN, if_pos c_68]
    exact tl_hsT hG hL hyb hdp
  · refine wp_ald2 dX10_hashOf_71 ?_
    refine wp_iconst (v := 0) dX10_hashOf_72 (by decide) ?_
    refine p_Lock_state dX10_hashOf_73 pX10_152 hL (by assumption) ?_
    simp only [hsN, if_neg c_68]
    exact tl_hsT hG hL hyb hdp
set_option maxHeartbeats 1000000 in
theorem ct_hashOf {G : GG} {B : Nat} {C : Nat → Int32} {E0 : Nat → va_E} {L : List Nat} {sz d : Nat} {y : Int32} (hG : GOK G) (hL : rIn (wR G B) L) (hW : WI C) (hdp : 3 ≤ d) : Ct G d yX10_hashOf iX10_hashOf [.ref B, .int y] (Wm G B C E0 L sz) 0 0 (some (.int (hashF C y).1)) (Wm G B ((hashF C y).2) E0 L sz) := by
  refine Ct.of 1 (by decide) rfl (by decide) (Nat.le_of_ble_eq_true rfl) ?_
  show WP _ _ _ _ _ _ _ 0 [some (.ref B), some (.int y), none] [] _ 0 0
  refine wp_ild1 dX10_hashOf_0 ?_
  refine ci_isObj rfl dX10_hashOf_1 (ct_isObject (d := d - 1)) (by omega) (Nat.le_of_ble_eq_true rfl) (Nat.le_refl _) (Nat.le_refl _) ?_
  refine wp_ifB_ne (tgt := 10) dX10_hashOf_4 (by decide) (fun c_4 => ?_) (fun c_4 => ?_)
  · obtain ⟨hy, hyb⟩ := nat_of8 c_4.1 c_4.2
    refine wp_ald0 dX10_hashOf_10 ?_
    refine g_World_locks dX10_hashOf_11 fX10_32 hL ?_
    refine wp_ild1 dX10_hashOf_14 ?_
    refine r_locks (i' := nt y) dX10_hashOf_15 hG hL hy (by first | assumption | omega) ?_
    refine wp_ast2 dX10_hashOf_16 (by decide) rfl ?_
    refine wp_ald2 dX10_hashOf_17 ?_
    refine g_Lock_hashValue dX10_hashOf_18 fX10_304 hL (by assumption) ?_
    refine wp_iconst (v := (-1)) dX10_hashOf_21 (by decide) ?_
    refine wp_icmp_eq (tgt := 30) dX10_hashOf_22 (by decide) (fun c_22 => ?_) (fun c_22 => ?_)
    · refine wp_ald2 dX10_hashOf_30 ?_
      refine vi_Lock0 dX10_hashOf_31 kX10_169 (ct_isHeld (d := d - 1) hG hL (by assumption)) hL (by assumption) rfl (by omega) (Nat.le_of_ble_eq_true rfl) (Nat.le_refl _) (Nat.le_refl _) ?_
      refine wp_ifB_eq (tgt := 63) dX10_hashOf_34 (by decide) (fun c_34 => ?_) (fun c_34 => ?_)
      · simp only [hashF, if_pos c_4, if_pos c_22, if_neg c_34]
        exact tl_hsN hG hL hyb (by omega)
      · refine wp_ald2 dX10_hashOf_37 ?_
        refine g_Lock_state dX10_hashOf_38 fX10_152 hL (by assumption) ?_
        refine wp_iconst (v := 4) dX10_hashOf_41 (by decide) ?_
        refine wp_icmp_eq (tgt := 63) dX10_hashOf_42 (by decide) (fun c_42 => ?_) (fun c_42 => ?_)
        · simp only [hashF, if_pos c_4, if_pos c_22, if_pos c_34, if_pos c_42]
          exact tl_hsN hG hL hyb (by omega)
        · refine wp_ald0 dX10_hashOf_45 ?_
          refine vi_World0 dX10_hashOf_46 kX10_148 (ct_canInflate (d := d - 1) hG hL (by omega)) hL rfl (by omega) (Nat.le_of_ble_eq_true rfl) (Nat.le_refl _) (Nat.le_refl _) ?_
          refine wp_ifB_ne (tgt := 55) dX10_hashOf_49 (by decide) (fun c_49 => ?_) (fun c_49 => ?_)
          · refine wp_ald0 dX10_hashOf_55 ?_
            refine wp_ald2 dX10_hashOf_56 ?_
            refine vv_World1 dX10_hashOf_57 kX10_163 (ct_inflate (d := d - 1) hG hL hyb (by omega)) hL rfl (by omega) (Nat.le_of_ble_eq_true rfl) (Nat.le_refl _) (Nat.le_refl _) ?_
            refine wp_goto (tgt := 76) dX10_hashOf_60 (by decide) ?_
            simp only [hashF, if_pos c_4, if_pos c_22, if_pos c_34, if_neg c_42, if_pos c_49]
            exact tl_hsT hG hL hyb (by omega)
          · refine wp_bipush (v := (-6)) dX10_hashOf_52 (by decide) ?_
            exact wp_iret dX10_hashOf_54 rfl (Nat.le_refl _) (Nat.le_refl _) (by first | with_reducible rfl | (simp only [hashF, if_pos c_4, if_pos c_22, if_pos c_34, if_neg c_42, if_neg c_49]; done) | (simp only [hashF, if_pos c_4, if_pos c_22, if_pos c_34, if_neg c_42, if_neg c_49]; rfl) | rfl) (by first | with_reducible rfl | (simp only [hashF, if_pos c_4, if_pos c_22, if_pos c_34, if_neg c_42, if_neg c_49]; done) | (simp only [hashF, if_pos c_4, if_pos c_22, if_pos c_34, if_neg c_42, if_neg c_49]; rfl) | rfl)
    · refine wp_ald2 dX10_hashOf_25 ?_
      refine g_Lock_hashValue dX10_hashOf_26 fX10_304 hL (by assumption) ?_
      exact wp_iret dX10_hashOf_29 rfl (Nat.le_refl _) (Nat.le_refl _) (by first | with_reducible rfl | (simp only [hashF, if_pos c_4, if_neg c_22]; done) | (simp only [hashF, if_pos c_4, if_neg c_22]; rfl) | rfl) (by first | with_reducible rfl | (simp only [hashF, if_pos c_4, if_neg c_22]; done) | (simp only [hashF, if_pos c_4, if_neg c_22]; rfl) | rfl)
  · refine wp_bipush (v := (-2)) dX10_hashOf_7 (by decide) ?_
    exact wp_iret dX10_hashOf_9 rfl (Nat.le_refl _) (Nat.le_refl _) (by first | with_reducible rfl | (simp only [hashF, if_neg c_4]; done) | (simp only [hashF, if_neg c_4]; rfl) | rfl) (by first | with_reducible rfl | (simp only [hashF, if_neg c_4]; done) | (simp only [hashF, if_neg c_4]; rfl) | rfl)

def stL (C : Nat → Int32) : Nat → Nat → Int32 → Int32
  | 0, _, a => a
  | n + 1, i, a => stL C n (i + 1) (if C (10 + i) = 3 then a else a + 1)
def startF (C : Nat → Int32) (x : Int32) : Int32 × (Nat → Int32) := if hasT C x then (if C (10 + nt x) = 3 then (stL (upd C (10 + nt x) 0) (nt (C 0)) 0 0, upd C (10 + nt x) 0) else (-7, C)) else (-1, C)
theorem WI.thr {C : Nat → Int32} (hW : WI C) : C 0 = nI (nt (C 0)) ∧ nt (C 0) ≤ 6 := by
  obtain ⟨T, h1, h2⟩ := hW.1
  rw [h2]
  have : nt (nI T) = T := nI_clamp (by omega)
  rw [this]
  exact ⟨rfl, h1⟩
set_option maxHeartbeats 1000000 in
theorem lp_st {G : GG} {B : Nat} {C : Nat → Int32} {E0 : Nat → va_E} {L : List Nat} {sz d : Nat} {T : Nat} (hG : GOK G) (hL : rIn (wR G B) L) (hT : C 0 = nI T) (hT6 : T ≤ 6) (n : Nat) : ∀ (i : Nat) (a : Int32), i + n = T → WP G iX10_startThread d 0 0 (some (.int (stL C n i a))) (Wm G B C E0 L sz) 40 [some (.ref B), none, some (.int a), some (.int (nI i))] [] (Wm G B C E0 L sz) 0 0 := by
  induction n with
  | zero =>
    intro i a hi
    refine wp_ild3 dX10_startThread_40 ?_
    refine wp_ald0 dX10_startThread_41 ?_
    refine g_World_threadCount dX10_startThread_42 fX10_50 hL ?_
    refine wp_icmp_ge (tgt := 70) dX10_startThread_45 (by decide) (fun c_45 => ?_) (fun c_45 => absurd (by rw [hT]; exact nI_le (by omega) (by omega)) c_45)
    refine wp_ild2 dX10_startThread_70 ?_
    exact wp_iret dX10_startThread_71 rfl (Nat.le_refl _) (Nat.le_refl _) (by first | with_reducible rfl | (simp only [stL]; done) | (simp only [stL]; rfl) | rfl) (by first | with_reducible rfl | (simp only [stL]; done) | (simp only [stL]; rfl) | rfl)
  | succ n ih =>
    intro i a hi
    refine wp_ild3 dX10_startThread_40 ?_
    refine wp_ald0 dX10_startThread_41 ?_
    refine g_World_threadCount dX10_startThread_42 fX10_50 hL ?_
    refine wp_icmp_ge (tgt := 70) dX10_startThread_45 (by decide) (fun c_45 => absurd c_45 (by rw [hT]; exact nI_ge (by omega) (by omega))) (fun c_45 => ?_)
    have hi6 : i < 6 := by omega
    refine wp_ald0 dX10_startThread_48 ?_
    refine g_World_strands dX10_startThread_49 fX10_26 hL ?_
    refine wp_ild3 dX10_startThread_52 ?_
    refine r_strands (i' := i) dX10_startThread_53 hG hL rfl (by first | assumption | omega) ?_
    refine g_Strand_state dX10_startThread_54 fX10_135 hL (by assumption) ?_
    refine wp_iconst (v := 3) dX10_startThread_57 (by decide) ?_
    refine wp_icmp_eq (tgt := 64) dX10_startThread_58 (by decide) (fun c_58 => ?_) (fun c_58 => ?_)
    · refine wp_inc3 dX10_startThread_64 (by decide) rfl ?_
      refine wp_goto (tgt := 40) dX10_startThread_67 (by decide) ?_
      simp only [stL, if_pos c_58]
      exact WP.fg (by simp [lcle]) (ih (i + 1) _ (by omega))
    · refine wp_iinc2 dX10_startThread_61 (by decide) rfl ?_
      refine wp_inc3 dX10_startThread_64 (by decide) rfl ?_
      refine wp_goto (tgt := 40) dX10_startThread_67 (by decide) ?_
      simp only [stL, if_neg c_58]
      exact WP.fg (by simp [lcle]) (ih (i + 1) _ (by omega))
set_option maxHeartbeats 1000000 in
theorem ct_startThread {G : GG} {B : Nat} {C : Nat → Int32} {E0 : Nat → va_E} {L : List Nat} {sz d : Nat} {x : Int32} (hG : GOK G) (hL : rIn (wR G B) L) (hW : WI C) (hdp : 1 ≤ d) : Ct G d yX10_startThread iX10_startThread [.ref B, .int x] (Wm G B C E0 L sz) 0 0 (some (.int (startF C x).1)) (Wm G B ((startF C x).2) E0 L sz) := by
  refine Ct.of 2 (by decide) rfl (by decide) (Nat.le_of_ble_eq_true rfl) ?_
  show WP _ _ _ _ _ _ _ 0 [some (.ref B), some (.int x), none, none] [] _ 0 0
  refine wp_ald0 dX10_startThread_0 ?_
  refine wp_ild1 dX10_startThread_1 ?_
  refine vi_World1 dX10_startThread_2 kX10_128 (ct_hasThread (d := d - 1) hG hL) hL rfl (by omega) (Nat.le_of_ble_eq_true rfl) (Nat.le_refl _) (Nat.le_refl _) ?_
  refine wp_ifB_ne (tgt := 10) dX10_startThread_5 (by decide) (fun c_5 => ?_) (fun c_5 => ?_)
  · obtain ⟨hx, hxb⟩ := nat_of6 c_5.1 c_5.2.2
    refine wp_ald0 dX10_startThread_10 ?_
    refine g_World_strands dX10_startThread_11 fX10_26 hL ?_
    refine wp_ild1 dX10_startThread_14 ?_
    refine r_strands (i' := nt x) dX10_startThread_15 hG hL hx (by first | assumption | omega) ?_
    refine g_Strand_state dX10_startThread_16 fX10_135 hL (by assumption) ?_
    refine wp_iconst (v := 3) dX10_startThread_19 (by decide) ?_
    refine wp_icmp_eq (tgt := 26) dX10_startThread_20 (by decide) (fun c_20 => ?_) (fun c_20 => ?_)
    · refine wp_ald0 dX10_startThread_26 ?_
      refine g_World_strands dX10_startThread_27 fX10_26 hL ?_
      refine wp_ild1 dX10_startThread_30 ?_
      refine r_strands (i' := nt x) dX10_startThread_31 hG hL hx (by first | assumption | omega) ?_
      refine wp_iconst (v := 0) dX10_startThread_32 (by decide) ?_
      refine p_Strand_state dX10_startThread_33 pX10_135 hL (by assumption) ?_
      refine wp_iconst (v := 0) dX10_startThread_36 (by decide) ?_
      refine wp_ist2 dX10_startThread_37 (by decide) rfl ?_
      refine wp_iconst (v := 0) dX10_startThread_38 (by decide) ?_
      refine wp_ist3 dX10_startThread_39 (by decide) rfl ?_
      simp only [startF, if_pos c_5, if_pos c_20]
      exact WP.fg (by simp [lcle, nI_0]) (lp_st hG hL (by rw [upd_ne (by omega)]; exact hW.thr.1) hW.thr.2 _ 0 0 (by omega))
    · refine wp_bipush (v := (-7)) dX10_startThread_23 (by decide) ?_
      exact wp_iret dX10_startThread_25 rfl (Nat.le_refl _) (Nat.le_refl _) (by first | with_reducible rfl | (simp only [startF, if_pos c_5, if_neg c_20]; done) | (simp only [startF, if_pos c_5, if_neg c_20]; rfl) | rfl) (by first | with_reducible rfl | (simp only [startF, if_pos c_5, if_neg c_20]; done) | (simp only [startF, if_pos c_5, if_neg c_20]; rfl) | rfl)
  · refine wp_iconst (v := (-1)) dX10_startThread_8 (by decide) ?_
    exact wp_iret dX10_startThread_9 rfl (Nat.le_refl _) (Nat.le_refl _) (by first | with_reducible rfl | (simp only [startF, if_neg c_5]; done) | (simp only [startF, if_neg c_5]; rfl) | rfl) (by first | with_reducible rfl | (simp only [startF, if_neg c_5]; done) | (simp only [startF, if_neg c_5]; rfl) | rfl)

