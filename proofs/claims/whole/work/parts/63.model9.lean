set_option maxHeartbeats 2000000 in
theorem cm_threads {G : GG} {Y : Nat} {F : Nat → Int32} {E0 : Nat → va_E} {L : List Nat} {sz d : Nat}  (hG : GOK G) (hM : rIn (mR G Y) L)  : Ct G d yX12_threads iX12_threads [.ref Y] (Mm G Y F E0 L sz) 0 0 (some (.int (F 0))) (Mm G Y (F) E0 L sz) := by
  refine Ct.of 0 (by decide) rfl (by decide) (Nat.le_of_ble_eq_true rfl) ?_
  show WP _ _ _ _ _ _ _ 0 [some (.ref Y)] [] _ 0 0
  refine wp_ald0 dX12_threads_0 ?_
  refine gm_w dX12_threads_1 fX12_7 hM ?_
  refine wp_iconst (v := 0) dX12_threads_4 (by decide) ?_
  refine rm_w (i' := 0) dX12_threads_5 hG hM (by decide) (by decide) ?_
  exact wp_iret dX12_threads_6 rfl (Nat.le_refl _) (Nat.le_refl _) (by rfl) (by rfl)

set_option maxHeartbeats 2000000 in
theorem cm_time {G : GG} {Y : Nat} {F : Nat → Int32} {E0 : Nat → va_E} {L : List Nat} {sz d : Nat}  (hG : GOK G) (hM : rIn (mR G Y) L)  : Ct G d yX12_time iX12_time [.ref Y] (Mm G Y F E0 L sz) 0 0 (some (.int (F 9))) (Mm G Y (F) E0 L sz) := by
  refine Ct.of 0 (by decide) rfl (by decide) (Nat.le_of_ble_eq_true rfl) ?_
  show WP _ _ _ _ _ _ _ 0 [some (.ref Y)] [] _ 0 0
  refine wp_ald0 dX12_time_0 ?_
  refine gm_w dX12_time_1 fX12_7 hM ?_
  refine wp_bipush (v := 9) dX12_time_4 (by decide) ?_
  refine rm_w (i' := 9) dX12_time_6 hG hM (by decide) (by decide) ?_
  exact wp_iret dX12_time_7 rfl (Nat.le_refl _) (Nat.le_refl _) (by rfl) (by rfl)

set_option maxHeartbeats 2000000 in
theorem cm_recorded {G : GG} {Y : Nat} {F : Nat → Int32} {E0 : Nat → va_E} {L : List Nat} {sz d : Nat}  (hG : GOK G) (hM : rIn (mR G Y) L)  : Ct G d yX12_recorded iX12_recorded [.ref Y] (Mm G Y F E0 L sz) 0 0 (some (.int (F 241))) (Mm G Y (F) E0 L sz) := by
  refine Ct.of 0 (by decide) rfl (by decide) (Nat.le_of_ble_eq_true rfl) ?_
  show WP _ _ _ _ _ _ _ 0 [some (.ref Y)] [] _ 0 0
  refine wp_ald0 dX12_recorded_0 ?_
  refine gm_w dX12_recorded_1 fX12_7 hM ?_
  refine wp_sipush (v := 241) dX12_recorded_4 (by decide) ?_
  refine rm_w (i' := 241) dX12_recorded_7 hG hM (by decide) (by decide) ?_
  exact wp_iret dX12_recorded_8 rfl (Nat.le_refl _) (Nat.le_refl _) (by rfl) (by rfl)

def threadStateQ (F : Nat → Int32) (x : Int32) : Int32 := if isT F x then F (10 + nt x) + 10 * F (16 + nt x) else -1
set_option maxHeartbeats 2000000 in
theorem cm_threadState {G : GG} {Y : Nat} {F : Nat → Int32} {E0 : Nat → va_E} {L : List Nat} {sz d : Nat} {x : Int32} (hG : GOK G) (hM : rIn (mR G Y) L) (h : TS F) (hdp : 2 ≤ d) : Ct G d yX12_threadState iX12_threadState [.ref Y, .int x] (Mm G Y F E0 L sz) 0 0 (some (.int (threadStateQ F x))) (Mm G Y (F) E0 L sz) := by
  refine Ct.of 0 (by decide) rfl (by decide) (Nat.le_of_ble_eq_true rfl) ?_
  show WP _ _ _ _ _ _ _ 0 [some (.ref Y), some (.int x)] [] _ 0 0
  refine wp_ald0 dX12_threadState_0 ?_
  refine wp_ild1 dX12_threadState_1 ?_
  refine mi_1 dX12_threadState_2 kX12_101 (cm_isThread (d := d - 1) hG hM (by omega)) hM rfl (by omega) (Nat.le_of_ble_eq_true rfl) (Nat.le_refl _) (Nat.le_refl _) ?_
  refine wp_ifB_eq (tgt := 33) dX12_threadState_5 (by decide) (fun c_5 => ?_) (fun c_5 => ?_)
  · refine wp_iconst (v := (-1)) dX12_threadState_33 (by decide) ?_
    exact wp_iret dX12_threadState_34 rfl (Nat.le_refl _) (Nat.le_refl _) (by first | with_reducible rfl | (simp only [threadStateQ, if_neg c_5]; done) | (simp only [threadStateQ, if_neg c_5]; rfl) | rfl) (by first | with_reducible rfl | (simp only [threadStateQ, if_neg c_5]; done) | (simp only [threadStateQ, if_neg c_5]; rfl) | rfl)
  · obtain ⟨t, ht, htT, rfl⟩ := isT_nat h.1 c_5
    have e1 : nt (nI t) = t := ntn (by omega)
    refine wp_ald0 dX12_threadState_8 ?_
    refine gm_w dX12_threadState_9 fX12_7 hM ?_
    refine wp_bipush (v := 10) dX12_threadState_12 (by decide) ?_
    refine wp_ild1 dX12_threadState_14 ?_
    refine wp_iaddN (a := 10) (b := t) (by decide) rfl dX12_threadState_15 ?_
    refine rm_w (i' := (10 + t)) dX12_threadState_16 hG hM rfl (by first | assumption | omega) ?_
    refine wp_bipush (v := 10) dX12_threadState_17 (by decide) ?_
    refine wp_ald0 dX12_threadState_19 ?_
    refine gm_w dX12_threadState_20 fX12_7 hM ?_
    refine wp_bipush (v := 16) dX12_threadState_23 (by decide) ?_
    refine wp_ild1 dX12_threadState_25 ?_
    refine wp_iaddN (a := 16) (b := t) (by decide) rfl dX12_threadState_26 ?_
    refine rm_w (i' := (16 + t)) dX12_threadState_27 hG hM rfl (by first | assumption | omega) ?_
    refine wp_imul dX12_threadState_28 ?_
    refine wp_iadd dX12_threadState_29 ?_
    refine wp_goto (tgt := 34) dX12_threadState_30 (by decide) ?_
    exact wp_iret dX12_threadState_34 rfl (Nat.le_refl _) (Nat.le_refl _) (by first | with_reducible rfl | (simp only [threadStateQ, if_pos c_5, e1]; done) | (simp only [threadStateQ, if_pos c_5, e1]; rfl) | rfl) (by first | with_reducible rfl | (simp only [threadStateQ, if_pos c_5, e1]; done) | (simp only [threadStateQ, if_pos c_5, e1]; rfl) | rfl)

def threadAtQ (F : Nat → Int32) (x : Int32) : Int32 := if isT F x then F (28 + nt x) else -1
set_option maxHeartbeats 2000000 in
theorem cm_threadAt {G : GG} {Y : Nat} {F : Nat → Int32} {E0 : Nat → va_E} {L : List Nat} {sz d : Nat} {x : Int32} (hG : GOK G) (hM : rIn (mR G Y) L) (h : TS F) (hdp : 2 ≤ d) : Ct G d yX12_threadAt iX12_threadAt [.ref Y, .int x] (Mm G Y F E0 L sz) 0 0 (some (.int (threadAtQ F x))) (Mm G Y (F) E0 L sz) := by
  refine Ct.of 0 (by decide) rfl (by decide) (Nat.le_of_ble_eq_true rfl) ?_
  show WP _ _ _ _ _ _ _ 0 [some (.ref Y), some (.int x)] [] _ 0 0
  refine wp_ald0 dX12_threadAt_0 ?_
  refine wp_ild1 dX12_threadAt_1 ?_
  refine mi_1 dX12_threadAt_2 kX12_101 (cm_isThread (d := d - 1) hG hM (by omega)) hM rfl (by omega) (Nat.le_of_ble_eq_true rfl) (Nat.le_refl _) (Nat.le_refl _) ?_
  refine wp_ifB_eq (tgt := 20) dX12_threadAt_5 (by decide) (fun c_5 => ?_) (fun c_5 => ?_)
  · refine wp_iconst (v := (-1)) dX12_threadAt_20 (by decide) ?_
    exact wp_iret dX12_threadAt_21 rfl (Nat.le_refl _) (Nat.le_refl _) (by first | with_reducible rfl | (simp only [threadAtQ, if_neg c_5]; done) | (simp only [threadAtQ, if_neg c_5]; rfl) | rfl) (by first | with_reducible rfl | (simp only [threadAtQ, if_neg c_5]; done) | (simp only [threadAtQ, if_neg c_5]; rfl) | rfl)
  · obtain ⟨t, ht, htT, rfl⟩ := isT_nat h.1 c_5
    have e1 : nt (nI t) = t := ntn (by omega)
    refine wp_ald0 dX12_threadAt_8 ?_
    refine gm_w dX12_threadAt_9 fX12_7 hM ?_
    refine wp_bipush (v := 28) dX12_threadAt_12 (by decide) ?_
    refine wp_ild1 dX12_threadAt_14 ?_
    refine wp_iaddN (a := 28) (b := t) (by decide) rfl dX12_threadAt_15 ?_
    refine rm_w (i' := (28 + t)) dX12_threadAt_16 hG hM rfl (by first | assumption | omega) ?_
    refine wp_goto (tgt := 21) dX12_threadAt_17 (by decide) ?_
    exact wp_iret dX12_threadAt_21 rfl (Nat.le_refl _) (Nat.le_refl _) (by first | with_reducible rfl | (simp only [threadAtQ, if_pos c_5, e1]; done) | (simp only [threadAtQ, if_pos c_5, e1]; rfl) | rfl) (by first | with_reducible rfl | (simp only [threadAtQ, if_pos c_5, e1]; done) | (simp only [threadAtQ, if_pos c_5, e1]; rfl) | rfl)

def waitEndQ (F : Nat → Int32) (x : Int32) : Int32 := if isT F x then F (22 + nt x) else -1
set_option maxHeartbeats 2000000 in
theorem cm_waitEnd {G : GG} {Y : Nat} {F : Nat → Int32} {E0 : Nat → va_E} {L : List Nat} {sz d : Nat} {x : Int32} (hG : GOK G) (hM : rIn (mR G Y) L) (h : TS F) (hdp : 2 ≤ d) : Ct G d yX12_waitEnd iX12_waitEnd [.ref Y, .int x] (Mm G Y F E0 L sz) 0 0 (some (.int (waitEndQ F x))) (Mm G Y (F) E0 L sz) := by
  refine Ct.of 0 (by decide) rfl (by decide) (Nat.le_of_ble_eq_true rfl) ?_
  show WP _ _ _ _ _ _ _ 0 [some (.ref Y), some (.int x)] [] _ 0 0
  refine wp_ald0 dX12_waitEnd_0 ?_
  refine wp_ild1 dX12_waitEnd_1 ?_
  refine mi_1 dX12_waitEnd_2 kX12_101 (cm_isThread (d := d - 1) hG hM (by omega)) hM rfl (by omega) (Nat.le_of_ble_eq_true rfl) (Nat.le_refl _) (Nat.le_refl _) ?_
  refine wp_ifB_eq (tgt := 20) dX12_waitEnd_5 (by decide) (fun c_5 => ?_) (fun c_5 => ?_)
  · refine wp_iconst (v := (-1)) dX12_waitEnd_20 (by decide) ?_
    exact wp_iret dX12_waitEnd_21 rfl (Nat.le_refl _) (Nat.le_refl _) (by first | with_reducible rfl | (simp only [waitEndQ, if_neg c_5]; done) | (simp only [waitEndQ, if_neg c_5]; rfl) | rfl) (by first | with_reducible rfl | (simp only [waitEndQ, if_neg c_5]; done) | (simp only [waitEndQ, if_neg c_5]; rfl) | rfl)
  · obtain ⟨t, ht, htT, rfl⟩ := isT_nat h.1 c_5
    have e1 : nt (nI t) = t := ntn (by omega)
    refine wp_ald0 dX12_waitEnd_8 ?_
    refine gm_w dX12_waitEnd_9 fX12_7 hM ?_
    refine wp_bipush (v := 22) dX12_waitEnd_12 (by decide) ?_
    refine wp_ild1 dX12_waitEnd_14 ?_
    refine wp_iaddN (a := 22) (b := t) (by decide) rfl dX12_waitEnd_15 ?_
    refine rm_w (i' := (22 + t)) dX12_waitEnd_16 hG hM rfl (by first | assumption | omega) ?_
    refine wp_goto (tgt := 21) dX12_waitEnd_17 (by decide) ?_
    exact wp_iret dX12_waitEnd_21 rfl (Nat.le_refl _) (Nat.le_refl _) (by first | with_reducible rfl | (simp only [waitEndQ, if_pos c_5, e1]; done) | (simp only [waitEndQ, if_pos c_5, e1]; rfl) | rfl) (by first | with_reducible rfl | (simp only [waitEndQ, if_pos c_5, e1]; done) | (simp only [waitEndQ, if_pos c_5, e1]; rfl) | rfl)

def lockStateQ (F : Nat → Int32) (y : Int32) : Int32 := if isOb y then F (46 + nt y) + 10 * F (86 + nt y) else -2
set_option maxHeartbeats 2000000 in
theorem cm_lockState {G : GG} {Y : Nat} {F : Nat → Int32} {E0 : Nat → va_E} {L : List Nat} {sz d : Nat} {y : Int32} (hG : GOK G) (hM : rIn (mR G Y) L)  (hdp : 2 ≤ d) : Ct G d yX12_lockState iX12_lockState [.ref Y, .int y] (Mm G Y F E0 L sz) 0 0 (some (.int (lockStateQ F y))) (Mm G Y (F) E0 L sz) := by
  refine Ct.of 0 (by decide) rfl (by decide) (Nat.le_of_ble_eq_true rfl) ?_
  show WP _ _ _ _ _ _ _ 0 [some (.ref Y), some (.int y)] [] _ 0 0
  refine wp_ild1 dX12_lockState_0 ?_
  refine ci_1 dX12_lockState_1 kX12_104 (cm_isObject (d := d - 1) (by omega)) (by omega) (Nat.le_of_ble_eq_true rfl) (Nat.le_refl _) (Nat.le_refl _) ?_
  refine wp_ifB_eq (tgt := 32) dX12_lockState_4 (by decide) (fun c_4 => ?_) (fun c_4 => ?_)
  · refine wp_bipush (v := (-2)) dX12_lockState_32 (by decide) ?_
    exact wp_iret dX12_lockState_34 rfl (Nat.le_refl _) (Nat.le_refl _) (by first | with_reducible rfl | (simp only [lockStateQ, if_neg c_4]; done) | (simp only [lockStateQ, if_neg c_4]; rfl) | rfl) (by first | with_reducible rfl | (simp only [lockStateQ, if_neg c_4]; done) | (simp only [lockStateQ, if_neg c_4]; rfl) | rfl)
  · obtain ⟨o, ho, rfl⟩ := isOb_nat c_4
    have e2 : nt (nI o) = o := ntn (by omega)
    refine wp_ald0 dX12_lockState_7 ?_
    refine gm_w dX12_lockState_8 fX12_7 hM ?_
    refine wp_bipush (v := 46) dX12_lockState_11 (by decide) ?_
    refine wp_ild1 dX12_lockState_13 ?_
    refine wp_iaddN (a := 46) (b := o) (by decide) rfl dX12_lockState_14 ?_
    refine rm_w (i' := (46 + o)) dX12_lockState_15 hG hM rfl (by first | assumption | omega) ?_
    refine wp_bipush (v := 10) dX12_lockState_16 (by decide) ?_
    refine wp_ald0 dX12_lockState_18 ?_
    refine gm_w dX12_lockState_19 fX12_7 hM ?_
    refine wp_bipush (v := 86) dX12_lockState_22 (by decide) ?_
    refine wp_ild1 dX12_lockState_24 ?_
    refine wp_iaddN (a := 86) (b := o) (by decide) rfl dX12_lockState_25 ?_
    refine rm_w (i' := (86 + o)) dX12_lockState_26 hG hM rfl (by first | assumption | omega) ?_
    refine wp_imul dX12_lockState_27 ?_
    refine wp_iadd dX12_lockState_28 ?_
    refine wp_goto (tgt := 34) dX12_lockState_29 (by decide) ?_
    exact wp_iret dX12_lockState_34 rfl (Nat.le_refl _) (Nat.le_refl _) (by first | with_reducible rfl | (simp only [lockStateQ, if_pos c_4, e2]; done) | (simp only [lockStateQ, if_pos c_4, e2]; rfl) | rfl) (by first | with_reducible rfl | (simp only [lockStateQ, if_pos c_4, e2]; done) | (simp only [lockStateQ, if_pos c_4, e2]; rfl) | rfl)

def ownerQ (F : Nat → Int32) (y : Int32) : Int32 := if isOb y then (if ¬ F (62 + nt y) ≤ 0 then F (54 + nt y) else -8) else -2
set_option maxHeartbeats 2000000 in
theorem cm_owner {G : GG} {Y : Nat} {F : Nat → Int32} {E0 : Nat → va_E} {L : List Nat} {sz d : Nat} {y : Int32} (hG : GOK G) (hM : rIn (mR G Y) L)  (hdp : 2 ≤ d) : Ct G d yX12_owner iX12_owner [.ref Y, .int y] (Mm G Y F E0 L sz) 0 0 (some (.int (ownerQ F y))) (Mm G Y (F) E0 L sz) := by
  refine Ct.of 0 (by decide) rfl (by decide) (Nat.le_of_ble_eq_true rfl) ?_
  show WP _ _ _ _ _ _ _ 0 [some (.ref Y), some (.int y)] [] _ 0 0
  refine wp_ild1 dX12_owner_0 ?_
  refine ci_1 dX12_owner_1 kX12_104 (cm_isObject (d := d - 1) (by omega)) (by omega) (Nat.le_of_ble_eq_true rfl) (Nat.le_refl _) (Nat.le_refl _) ?_
  refine wp_ifB_ne (tgt := 10) dX12_owner_4 (by decide) (fun c_4 => ?_) (fun c_4 => ?_)
  · obtain ⟨o, ho, rfl⟩ := isOb_nat c_4
    have e2 : nt (nI o) = o := ntn (by omega)
    refine wp_ald0 dX12_owner_10 ?_
    refine wp_ild1 dX12_owner_11 ?_
    refine mi_1 dX12_owner_12 kX12_54 (cm_isHeld (d := d - 1) hG hM (by first | assumption | omega)) hM rfl (by omega) (Nat.le_of_ble_eq_true rfl) (Nat.le_refl _) (Nat.le_refl _) ?_
    refine wp_ifB_eq (tgt := 30) dX12_owner_15 (by decide) (fun c_15 => ?_) (fun c_15 => ?_)
    · refine wp_bipush (v := (-8)) dX12_owner_30 (by decide) ?_
      exact wp_iret dX12_owner_32 rfl (Nat.le_refl _) (Nat.le_refl _) (by first | with_reducible rfl | (simp only [ownerQ, if_pos c_4, e2, if_neg c_15]; done) | (simp only [ownerQ, if_pos c_4, e2, if_neg c_15]; rfl) | rfl) (by first | with_reducible rfl | (simp only [ownerQ, if_pos c_4, e2, if_neg c_15]; done) | (simp only [ownerQ, if_pos c_4, e2, if_neg c_15]; rfl) | rfl)
    · refine wp_ald0 dX12_owner_18 ?_
      refine gm_w dX12_owner_19 fX12_7 hM ?_
      refine wp_bipush (v := 54) dX12_owner_22 (by decide) ?_
      refine wp_ild1 dX12_owner_24 ?_
      refine wp_iaddN (a := 54) (b := o) (by decide) rfl dX12_owner_25 ?_
      refine rm_w (i' := (54 + o)) dX12_owner_26 hG hM rfl (by first | assumption | omega) ?_
      refine wp_goto (tgt := 32) dX12_owner_27 (by decide) ?_
      exact wp_iret dX12_owner_32 rfl (Nat.le_refl _) (Nat.le_refl _) (by first | with_reducible rfl | (simp only [ownerQ, if_pos c_4, e2, if_pos c_15]; done) | (simp only [ownerQ, if_pos c_4, e2, if_pos c_15]; rfl) | rfl) (by first | with_reducible rfl | (simp only [ownerQ, if_pos c_4, e2, if_pos c_15]; done) | (simp only [ownerQ, if_pos c_4, e2, if_pos c_15]; rfl) | rfl)
  · refine wp_bipush (v := (-2)) dX12_owner_7 (by decide) ?_
    exact wp_iret dX12_owner_9 rfl (Nat.le_refl _) (Nat.le_refl _) (by first | with_reducible rfl | (simp only [ownerQ, if_neg c_4]; done) | (simp only [ownerQ, if_neg c_4]; rfl) | rfl) (by first | with_reducible rfl | (simp only [ownerQ, if_neg c_4]; done) | (simp only [ownerQ, if_neg c_4]; rfl) | rfl)

def countQ (F : Nat → Int32) (y : Int32) : Int32 := if isOb y then F (62 + nt y) else -2
set_option maxHeartbeats 2000000 in
theorem cm_count {G : GG} {Y : Nat} {F : Nat → Int32} {E0 : Nat → va_E} {L : List Nat} {sz d : Nat} {y : Int32} (hG : GOK G) (hM : rIn (mR G Y) L)  (hdp : 2 ≤ d) : Ct G d yX12_count iX12_count [.ref Y, .int y] (Mm G Y F E0 L sz) 0 0 (some (.int (countQ F y))) (Mm G Y (F) E0 L sz) := by
  refine Ct.of 0 (by decide) rfl (by decide) (Nat.le_of_ble_eq_true rfl) ?_
  show WP _ _ _ _ _ _ _ 0 [some (.ref Y), some (.int y)] [] _ 0 0
  refine wp_ild1 dX12_count_0 ?_
  refine ci_1 dX12_count_1 kX12_104 (cm_isObject (d := d - 1) (by omega)) (by omega) (Nat.le_of_ble_eq_true rfl) (Nat.le_refl _) (Nat.le_refl _) ?_
  refine wp_ifB_eq (tgt := 19) dX12_count_4 (by decide) (fun c_4 => ?_) (fun c_4 => ?_)
  · refine wp_bipush (v := (-2)) dX12_count_19 (by decide) ?_
    exact wp_iret dX12_count_21 rfl (Nat.le_refl _) (Nat.le_refl _) (by first | with_reducible rfl | (simp only [countQ, if_neg c_4]; done) | (simp only [countQ, if_neg c_4]; rfl) | rfl) (by first | with_reducible rfl | (simp only [countQ, if_neg c_4]; done) | (simp only [countQ, if_neg c_4]; rfl) | rfl)
  · obtain ⟨o, ho, rfl⟩ := isOb_nat c_4
    have e2 : nt (nI o) = o := ntn (by omega)
    refine wp_ald0 dX12_count_7 ?_
    refine gm_w dX12_count_8 fX12_7 hM ?_
    refine wp_bipush (v := 62) dX12_count_11 (by decide) ?_
    refine wp_ild1 dX12_count_13 ?_
    refine wp_iaddN (a := 62) (b := o) (by decide) rfl dX12_count_14 ?_
    refine rm_w (i' := (62 + o)) dX12_count_15 hG hM rfl (by first | assumption | omega) ?_
    refine wp_goto (tgt := 21) dX12_count_16 (by decide) ?_
    exact wp_iret dX12_count_21 rfl (Nat.le_refl _) (Nat.le_refl _) (by first | with_reducible rfl | (simp only [countQ, if_pos c_4, e2]; done) | (simp only [countQ, if_pos c_4, e2]; rfl) | rfl) (by first | with_reducible rfl | (simp only [countQ, if_pos c_4, e2]; done) | (simp only [countQ, if_pos c_4, e2]; rfl) | rfl)

def biasQ (F : Nat → Int32) (y : Int32) : Int32 := if isOb y then (if F (46 + nt y) = 2 then F (70 + nt y) + (if bOK F (nt y) then 0 else 10) else -8) else -2
set_option maxHeartbeats 2000000 in
theorem cm_bias {G : GG} {Y : Nat} {F : Nat → Int32} {E0 : Nat → va_E} {L : List Nat} {sz d : Nat} {y : Int32} (hG : GOK G) (hM : rIn (mR G Y) L)  (hdp : 2 ≤ d) : Ct G d yX12_bias iX12_bias [.ref Y, .int y] (Mm G Y F E0 L sz) 0 0 (some (.int (biasQ F y))) (Mm G Y (F) E0 L sz) := by
  refine Ct.of 0 (by decide) rfl (by decide) (Nat.le_of_ble_eq_true rfl) ?_
  show WP _ _ _ _ _ _ _ 0 [some (.ref Y), some (.int y)] [] _ 0 0
  refine wp_ild1 dX12_bias_0 ?_
  refine ci_1 dX12_bias_1 kX12_104 (cm_isObject (d := d - 1) (by omega)) (by omega) (Nat.le_of_ble_eq_true rfl) (Nat.le_refl _) (Nat.le_refl _) ?_
  refine wp_ifB_ne (tgt := 10) dX12_bias_4 (by decide) (fun c_4 => ?_) (fun c_4 => ?_)
  · obtain ⟨o, ho, rfl⟩ := isOb_nat c_4
    have e2 : nt (nI o) = o := ntn (by omega)
    refine wp_ald0 dX12_bias_10 ?_
    refine gm_w dX12_bias_11 fX12_7 hM ?_
    refine wp_bipush (v := 46) dX12_bias_14 (by decide) ?_
    refine wp_ild1 dX12_bias_16 ?_
    refine wp_iaddN (a := 46) (b := o) (by decide) rfl dX12_bias_17 ?_
    refine rm_w (i' := (46 + o)) dX12_bias_18 hG hM rfl (by first | assumption | omega) ?_
    refine wp_iconst (v := 2) dX12_bias_19 (by decide) ?_
    refine wp_icmp_eq (tgt := 28) dX12_bias_20 (by decide) (fun c_20 => ?_) (fun c_20 => ?_)
    · refine wp_ald0 dX12_bias_28 ?_
      refine gm_w dX12_bias_29 fX12_7 hM ?_
      refine wp_bipush (v := 70) dX12_bias_32 (by decide) ?_
      refine wp_ild1 dX12_bias_34 ?_
      refine wp_iaddN (a := 70) (b := o) (by decide) rfl dX12_bias_35 ?_
      refine rm_w (i' := (70 + o)) dX12_bias_36 hG hM rfl (by first | assumption | omega) ?_
      refine wp_ald0 dX12_bias_37 ?_
      refine wp_ild1 dX12_bias_38 ?_
      refine mi_1 dX12_bias_39 kX12_84 (cm_isValid (d := d - 1) hG hM ho) hM rfl (by omega) (Nat.le_of_ble_eq_true rfl) (Nat.le_refl _) (Nat.le_refl _) ?_
      refine wp_ifB_eq (tgt := 49) dX12_bias_42 (by decide) (fun c_42 => ?_) (fun c_42 => ?_)
      · refine wp_bipush (v := 10) dX12_bias_49 (by decide) ?_
        refine wp_iadd dX12_bias_51 ?_
        exact wp_iret dX12_bias_52 rfl (Nat.le_refl _) (Nat.le_refl _) (by first | with_reducible rfl | (simp only [biasQ, if_pos c_4, e2, if_pos c_20, if_neg c_42]; done) | (simp only [biasQ, if_pos c_4, e2, if_pos c_20, if_neg c_42]; rfl) | rfl) (by first | with_reducible rfl | (simp only [biasQ, if_pos c_4, e2, if_pos c_20, if_neg c_42]; done) | (simp only [biasQ, if_pos c_4, e2, if_pos c_20, if_neg c_42]; rfl) | rfl)
      · refine wp_iconst (v := 0) dX12_bias_45 (by decide) ?_
        refine wp_goto (tgt := 51) dX12_bias_46 (by decide) ?_
        refine wp_iadd dX12_bias_51 ?_
        exact wp_iret dX12_bias_52 rfl (Nat.le_refl _) (Nat.le_refl _) (by first | with_reducible rfl | (simp only [biasQ, if_pos c_4, e2, if_pos c_20, if_pos c_42]; done) | (simp only [biasQ, if_pos c_4, e2, if_pos c_20, if_pos c_42]; rfl) | rfl) (by first | with_reducible rfl | (simp only [biasQ, if_pos c_4, e2, if_pos c_20, if_pos c_42]; done) | (simp only [biasQ, if_pos c_4, e2, if_pos c_20, if_pos c_42]; rfl) | rfl)
    · refine wp_bipush (v := (-8)) dX12_bias_23 (by decide) ?_
      refine wp_goto (tgt := 52) dX12_bias_25 (by decide) ?_
      exact wp_iret dX12_bias_52 rfl (Nat.le_refl _) (Nat.le_refl _) (by first | with_reducible rfl | (simp only [biasQ, if_pos c_4, e2, if_neg c_20]; done) | (simp only [biasQ, if_pos c_4, e2, if_neg c_20]; rfl) | rfl) (by first | with_reducible rfl | (simp only [biasQ, if_pos c_4, e2, if_neg c_20]; done) | (simp only [biasQ, if_pos c_4, e2, if_neg c_20]; rfl) | rfl)
  · refine wp_bipush (v := (-2)) dX12_bias_7 (by decide) ?_
    exact wp_iret dX12_bias_9 rfl (Nat.le_refl _) (Nat.le_refl _) (by first | with_reducible rfl | (simp only [biasQ, if_neg c_4]; done) | (simp only [biasQ, if_neg c_4]; rfl) | rfl) (by first | with_reducible rfl | (simp only [biasQ, if_neg c_4]; done) | (simp only [biasQ, if_neg c_4]; rfl) | rfl)

def queuedQ (F : Nat → Int32) (y k : Int32) : Int32 := if isOb y then (if 0 ≤ k then (if F (46 + nt y) = 4 then (if F (110 + nt y) ≤ k then -8 else F (126 + 6 * nt y + nt k)) else -8) else -3) else -2
set_option maxHeartbeats 2000000 in
theorem cm_queued {G : GG} {Y : Nat} {F : Nat → Int32} {E0 : Nat → va_E} {L : List Nat} {sz d : Nat} {y k : Int32} (hG : GOK G) (hM : rIn (mR G Y) L) (h : WI F) (hdp : 2 ≤ d) : Ct G d yX12_queued iX12_queued [.ref Y, .int y, .int k] (Mm G Y F E0 L sz) 0 0 (some (.int (queuedQ F y k))) (Mm G Y (F) E0 L sz) := by
  refine Ct.of 0 (by decide) rfl (by decide) (Nat.le_of_ble_eq_true rfl) ?_
  show WP _ _ _ _ _ _ _ 0 [some (.ref Y), some (.int y), some (.int k)] [] _ 0 0
  refine wp_ild1 dX12_queued_0 ?_
  refine ci_1 dX12_queued_1 kX12_104 (cm_isObject (d := d - 1) (by omega)) (by omega) (Nat.le_of_ble_eq_true rfl) (Nat.le_refl _) (Nat.le_refl _) ?_
  refine wp_ifB_ne (tgt := 10) dX12_queued_4 (by decide) (fun c_4 => ?_) (fun c_4 => ?_)
  · obtain ⟨o, ho, rfl⟩ := isOb_nat c_4
    have e2 : nt (nI o) = o := ntn (by omega)
    refine wp_ild2 dX12_queued_10 ?_
    refine wp_if_ge (tgt := 17) dX12_queued_11 (by decide) (fun c_11 => ?_) (fun c_11 => ?_)
    · refine wp_ald0 dX12_queued_17 ?_
      refine gm_w dX12_queued_18 fX12_7 hM ?_
      refine wp_bipush (v := 46) dX12_queued_21 (by decide) ?_
      refine wp_ild1 dX12_queued_23 ?_
      refine wp_iaddN (a := 46) (b := o) (by decide) rfl dX12_queued_24 ?_
      refine rm_w (i' := (46 + o)) dX12_queued_25 hG hM rfl (by first | assumption | omega) ?_
      refine wp_iconst (v := 4) dX12_queued_26 (by decide) ?_
      refine wp_icmp_ne (tgt := 60) dX12_queued_27 (by decide) (fun c_27 => ?_) (fun c_27 => ?_)
      · refine wp_bipush (v := (-8)) dX12_queued_60 (by decide) ?_
        exact wp_iret dX12_queued_62 rfl (Nat.le_refl _) (Nat.le_refl _) (by first | with_reducible rfl | (simp only [queuedQ, if_pos c_4, e2, if_pos c_11, if_neg c_27]; done) | (simp only [queuedQ, if_pos c_4, e2, if_pos c_11, if_neg c_27]; rfl) | rfl) (by first | with_reducible rfl | (simp only [queuedQ, if_pos c_4, e2, if_pos c_11, if_neg c_27]; done) | (simp only [queuedQ, if_pos c_4, e2, if_pos c_11, if_neg c_27]; rfl) | rfl)
      · refine wp_ild2 dX12_queued_30 ?_
        refine wp_ald0 dX12_queued_31 ?_
        refine gm_w dX12_queued_32 fX12_7 hM ?_
        refine wp_bipush (v := 110) dX12_queued_35 (by decide) ?_
        refine wp_ild1 dX12_queued_37 ?_
        refine wp_iaddN (a := 110) (b := o) (by decide) rfl dX12_queued_38 ?_
        refine rm_w (i' := (110 + o)) dX12_queued_39 hG hM rfl (by first | assumption | omega) ?_
        refine wp_icmp_ge (tgt := 60) dX12_queued_40 (by decide) (fun c_40 => ?_) (fun c_40 => ?_)
        · refine wp_bipush (v := (-8)) dX12_queued_60 (by decide) ?_
          exact wp_iret dX12_queued_62 rfl (Nat.le_refl _) (Nat.le_refl _) (by first | with_reducible rfl | (simp only [queuedQ, if_pos c_4, e2, if_pos c_11, if_pos c_27, if_pos c_40]; done) | (simp only [queuedQ, if_pos c_4, e2, if_pos c_11, if_pos c_27, if_pos c_40]; rfl) | rfl) (by first | with_reducible rfl | (simp only [queuedQ, if_pos c_4, e2, if_pos c_11, if_pos c_27, if_pos c_40]; done) | (simp only [queuedQ, if_pos c_4, e2, if_pos c_11, if_pos c_27, if_pos c_40]; rfl) | rfl)
        · obtain ⟨hk, hkb⟩ := nat_of (Int32.not_lt.mpr c_11) (by rw [← (h.q ho).nat.1]; exact c_40) (by have := (h.q ho).nat.2; omega)
          have hk6 : nt k < 6 := Nat.lt_of_lt_of_le hkb (h.q ho).nat.2
          refine wp_ald0 dX12_queued_43 ?_
          refine gm_w dX12_queued_44 fX12_7 hM ?_
          refine wp_bipush (v := 126) dX12_queued_47 (by decide) ?_
          refine wp_bipush (v := 6) dX12_queued_49 (by decide) ?_
          refine wp_ild1 dX12_queued_51 ?_
          refine wp_imulN (a := 6) (b := o) (by decide) rfl dX12_queued_52 ?_
          refine wp_iaddN (a := 126) (b := (6 * o)) (by decide) rfl dX12_queued_53 ?_
          refine wp_ild2 dX12_queued_54 ?_
          refine wp_iaddN (a := (126 + (6 * o))) (b := nt k) rfl hk dX12_queued_55 ?_
          refine rm_w (i' := ((126 + (6 * o)) + nt k)) dX12_queued_56 hG hM rfl (by first | assumption | omega) ?_
          refine wp_goto (tgt := 62) dX12_queued_57 (by decide) ?_
          exact wp_iret dX12_queued_62 rfl (Nat.le_refl _) (Nat.le_refl _) (by first | with_reducible rfl | (simp only [queuedQ, if_pos c_4, e2, if_pos c_11, if_pos c_27, if_neg c_40]; done) | (simp only [queuedQ, if_pos c_4, e2, if_pos c_11, if_pos c_27, if_neg c_40]; rfl) | rfl) (by first | with_reducible rfl | (simp only [queuedQ, if_pos c_4, e2, if_pos c_11, if_pos c_27, if_neg c_40]; done) | (simp only [queuedQ, if_pos c_4, e2, if_pos c_11, if_pos c_27, if_neg c_40]; rfl) | rfl)
    · refine wp_bipush (v := (-3)) dX12_queued_14 (by decide) ?_
      exact wp_iret dX12_queued_16 rfl (Nat.le_refl _) (Nat.le_refl _) (by first | with_reducible rfl | (simp only [queuedQ, if_pos c_4, e2, if_neg c_11]; done) | (simp only [queuedQ, if_pos c_4, e2, if_neg c_11]; rfl) | rfl) (by first | with_reducible rfl | (simp only [queuedQ, if_pos c_4, e2, if_neg c_11]; done) | (simp only [queuedQ, if_pos c_4, e2, if_neg c_11]; rfl) | rfl)
  · refine wp_bipush (v := (-2)) dX12_queued_7 (by decide) ?_
    exact wp_iret dX12_queued_9 rfl (Nat.le_refl _) (Nat.le_refl _) (by first | with_reducible rfl | (simp only [queuedQ, if_neg c_4]; done) | (simp only [queuedQ, if_neg c_4]; rfl) | rfl) (by first | with_reducible rfl | (simp only [queuedQ, if_neg c_4]; done) | (simp only [queuedQ, if_neg c_4]; rfl) | rfl)

def waitingQ (F : Nat → Int32) (y k : Int32) : Int32 := if isOb y then (if 0 ≤ k then (if F (46 + nt y) = 4 then (if F (118 + nt y) ≤ k then -8 else F (174 + 6 * nt y + nt k)) else -8) else -3) else -2
set_option maxHeartbeats 2000000 in
theorem cm_waiting {G : GG} {Y : Nat} {F : Nat → Int32} {E0 : Nat → va_E} {L : List Nat} {sz d : Nat} {y k : Int32} (hG : GOK G) (hM : rIn (mR G Y) L) (h : WI F) (hdp : 2 ≤ d) : Ct G d yX12_waiting iX12_waiting [.ref Y, .int y, .int k] (Mm G Y F E0 L sz) 0 0 (some (.int (waitingQ F y k))) (Mm G Y (F) E0 L sz) := by
  refine Ct.of 0 (by decide) rfl (by decide) (Nat.le_of_ble_eq_true rfl) ?_
  show WP _ _ _ _ _ _ _ 0 [some (.ref Y), some (.int y), some (.int k)] [] _ 0 0
  refine wp_ild1 dX12_waiting_0 ?_
  refine ci_1 dX12_waiting_1 kX12_104 (cm_isObject (d := d - 1) (by omega)) (by omega) (Nat.le_of_ble_eq_true rfl) (Nat.le_refl _) (Nat.le_refl _) ?_
  refine wp_ifB_ne (tgt := 10) dX12_waiting_4 (by decide) (fun c_4 => ?_) (fun c_4 => ?_)
  · obtain ⟨o, ho, rfl⟩ := isOb_nat c_4
    have e2 : nt (nI o) = o := ntn (by omega)
    refine wp_ild2 dX12_waiting_10 ?_
    refine wp_if_ge (tgt := 17) dX12_waiting_11 (by decide) (fun c_11 => ?_) (fun c_11 => ?_)
    · refine wp_ald0 dX12_waiting_17 ?_
      refine gm_w dX12_waiting_18 fX12_7 hM ?_
      refine wp_bipush (v := 46) dX12_waiting_21 (by decide) ?_
      refine wp_ild1 dX12_waiting_23 ?_
      refine wp_iaddN (a := 46) (b := o) (by decide) rfl dX12_waiting_24 ?_
      refine rm_w (i' := (46 + o)) dX12_waiting_25 hG hM rfl (by first | assumption | omega) ?_
      refine wp_iconst (v := 4) dX12_waiting_26 (by decide) ?_
      refine wp_icmp_ne (tgt := 61) dX12_waiting_27 (by decide) (fun c_27 => ?_) (fun c_27 => ?_)
      · refine wp_bipush (v := (-8)) dX12_waiting_61 (by decide) ?_
        exact wp_iret dX12_waiting_63 rfl (Nat.le_refl _) (Nat.le_refl _) (by first | with_reducible rfl | (simp only [waitingQ, if_pos c_4, e2, if_pos c_11, if_neg c_27]; done) | (simp only [waitingQ, if_pos c_4, e2, if_pos c_11, if_neg c_27]; rfl) | rfl) (by first | with_reducible rfl | (simp only [waitingQ, if_pos c_4, e2, if_pos c_11, if_neg c_27]; done) | (simp only [waitingQ, if_pos c_4, e2, if_pos c_11, if_neg c_27]; rfl) | rfl)
      · refine wp_ild2 dX12_waiting_30 ?_
        refine wp_ald0 dX12_waiting_31 ?_
        refine gm_w dX12_waiting_32 fX12_7 hM ?_
        refine wp_bipush (v := 118) dX12_waiting_35 (by decide) ?_
        refine wp_ild1 dX12_waiting_37 ?_
        refine wp_iaddN (a := 118) (b := o) (by decide) rfl dX12_waiting_38 ?_
        refine rm_w (i' := (118 + o)) dX12_waiting_39 hG hM rfl (by first | assumption | omega) ?_
        refine wp_icmp_ge (tgt := 61) dX12_waiting_40 (by decide) (fun c_40 => ?_) (fun c_40 => ?_)
        · refine wp_bipush (v := (-8)) dX12_waiting_61 (by decide) ?_
          exact wp_iret dX12_waiting_63 rfl (Nat.le_refl _) (Nat.le_refl _) (by first | with_reducible rfl | (simp only [waitingQ, if_pos c_4, e2, if_pos c_11, if_pos c_27, if_pos c_40]; done) | (simp only [waitingQ, if_pos c_4, e2, if_pos c_11, if_pos c_27, if_pos c_40]; rfl) | rfl) (by first | with_reducible rfl | (simp only [waitingQ, if_pos c_4, e2, if_pos c_11, if_pos c_27, if_pos c_40]; done) | (simp only [waitingQ, if_pos c_4, e2, if_pos c_11, if_pos c_27, if_pos c_40]; rfl) | rfl)
        · obtain ⟨hk, hkb⟩ := nat_of (Int32.not_lt.mpr c_11) (by rw [← (h.w ho).nat.1]; exact c_40) (by have := (h.w ho).nat.2; omega)
          have hk6 : nt k < 6 := Nat.lt_of_lt_of_le hkb (h.w ho).nat.2
          refine wp_ald0 dX12_waiting_43 ?_
          refine gm_w dX12_waiting_44 fX12_7 hM ?_
          refine wp_sipush (v := 174) dX12_waiting_47 (by decide) ?_
          refine wp_bipush (v := 6) dX12_waiting_50 (by decide) ?_
          refine wp_ild1 dX12_waiting_52 ?_
          refine wp_imulN (a := 6) (b := o) (by decide) rfl dX12_waiting_53 ?_
          refine wp_iaddN (a := 174) (b := (6 * o)) (by decide) rfl dX12_waiting_54 ?_
          refine wp_ild2 dX12_waiting_55 ?_
          refine wp_iaddN (a := (174 + (6 * o))) (b := nt k) rfl hk dX12_waiting_56 ?_
          refine rm_w (i' := ((174 + (6 * o)) + nt k)) dX12_waiting_57 hG hM rfl (by first | assumption | omega) ?_
          refine wp_goto (tgt := 63) dX12_waiting_58 (by decide) ?_
          exact wp_iret dX12_waiting_63 rfl (Nat.le_refl _) (Nat.le_refl _) (by first | with_reducible rfl | (simp only [waitingQ, if_pos c_4, e2, if_pos c_11, if_pos c_27, if_neg c_40]; done) | (simp only [waitingQ, if_pos c_4, e2, if_pos c_11, if_pos c_27, if_neg c_40]; rfl) | rfl) (by first | with_reducible rfl | (simp only [waitingQ, if_pos c_4, e2, if_pos c_11, if_pos c_27, if_neg c_40]; done) | (simp only [waitingQ, if_pos c_4, e2, if_pos c_11, if_pos c_27, if_neg c_40]; rfl) | rfl)
    · refine wp_bipush (v := (-3)) dX12_waiting_14 (by decide) ?_
      exact wp_iret dX12_waiting_16 rfl (Nat.le_refl _) (Nat.le_refl _) (by first | with_reducible rfl | (simp only [waitingQ, if_pos c_4, e2, if_neg c_11]; done) | (simp only [waitingQ, if_pos c_4, e2, if_neg c_11]; rfl) | rfl) (by first | with_reducible rfl | (simp only [waitingQ, if_pos c_4, e2, if_neg c_11]; done) | (simp only [waitingQ, if_pos c_4, e2, if_neg c_11]; rfl) | rfl)
  · refine wp_bipush (v := (-2)) dX12_waiting_7 (by decide) ?_
    exact wp_iret dX12_waiting_9 rfl (Nat.le_refl _) (Nat.le_refl _) (by first | with_reducible rfl | (simp only [waitingQ, if_neg c_4]; done) | (simp only [waitingQ, if_neg c_4]; rfl) | rfl) (by first | with_reducible rfl | (simp only [waitingQ, if_neg c_4]; done) | (simp only [waitingQ, if_neg c_4]; rfl) | rfl)

def hdL (F : Nat → Int32) (x : Int32) : Nat → Nat → Int32 → Int32
  | 0, _, a => a
  | n + 1, i, a => hdL F x n (i + 1) (if ¬ F (62 + i) ≤ 0 then (if F (54 + i) = x then a ||| (1 <<< (nI i &&& 31)) else a ||| 0) else a ||| 0)
def heldQ (F : Nat → Int32) (x : Int32) : Int32 := if isT F x then hdL F x 8 0 0 else -1
set_option maxHeartbeats 2000000 in
theorem lm_held {G : GG} {Y : Nat} {F : Nat → Int32} {E0 : Nat → va_E} {L : List Nat} {sz d : Nat} {x : Int32} (hG : GOK G) (hM : rIn (mR G Y) L) (hdp : 1 ≤ d) (n : Nat) : ∀ (i : Nat) (a : Int32), i + n = 8 → WP G iX12_held d 0 0 (some (.int (hdL F x n i a))) (Mm G Y F E0 L sz) 14 [some (.ref Y), some (.int x), some (.int a), some (.int (nI i))] [] (Mm G Y F E0 L sz) 0 0 := by
  induction n with
  | zero =>
    intro i a hi
    refine wp_ild3 dX12_held_14 ?_
    refine wp_bipush (v := 8) dX12_held_15 (by decide) ?_
    refine wp_icmp_ge (tgt := 57) dX12_held_17 (by decide) (fun c_17 => ?_) (fun c_17 => absurd (nI_le (a := 8) (b := i) (by omega) (by omega)) c_17)
    refine wp_ild2 dX12_held_57 ?_
    exact wp_iret dX12_held_58 rfl (Nat.le_refl _) (Nat.le_refl _) (by first | with_reducible rfl | (simp only [hdL]; done) | (simp only [hdL]; rfl) | rfl) (by first | with_reducible rfl | (simp only [hdL]; done) | (simp only [hdL]; rfl) | rfl)
  | succ n ih =>
    intro i a hi
    refine wp_ild3 dX12_held_14 ?_
    refine wp_bipush (v := 8) dX12_held_15 (by decide) ?_
    refine wp_icmp_ge (tgt := 57) dX12_held_17 (by decide) (fun c_17 => absurd c_17 (nI_ge (a := i) (b := 8) (by omega) (by omega))) (fun c_17 => ?_)
    have hi8 : i < 8 := by omega
    refine wp_ild2 dX12_held_20 ?_
    refine wp_ald0 dX12_held_21 ?_
    refine wp_ild3 dX12_held_22 ?_
    refine mi_1 dX12_held_23 kX12_54 (cm_isHeld (d := d - 1) hG hM (by first | assumption | omega)) hM rfl (by omega) (Nat.le_of_ble_eq_true rfl) (Nat.le_refl _) (Nat.le_refl _) ?_
    refine wp_ifB_eq (tgt := 48) dX12_held_26 (by decide) (fun c_26 => ?_) (fun c_26 => ?_)
    · refine wp_iconst (v := 0) dX12_held_48 (by decide) ?_
      refine wp_ior dX12_held_49 ?_
      refine wp_ist2 dX12_held_50 (by decide) rfl ?_
      refine wp_inc3 dX12_held_51 (by decide) rfl ?_
      refine wp_goto (tgt := 14) dX12_held_54 (by decide) ?_
      simp only [hdL, if_neg c_26]
      exact ih (i + 1) _ (by omega)
    · refine wp_ald0 dX12_held_29 ?_
      refine gm_w dX12_held_30 fX12_7 hM ?_
      refine wp_bipush (v := 54) dX12_held_33 (by decide) ?_
      refine wp_ild3 dX12_held_35 ?_
      refine wp_iaddN (a := 54) (b := i) (by decide) rfl dX12_held_36 ?_
      refine rm_w (i' := (54 + i)) dX12_held_37 hG hM rfl (by first | assumption | omega) ?_
      refine wp_ild1 dX12_held_38 ?_
      refine wp_icmp_ne (tgt := 48) dX12_held_39 (by decide) (fun c_39 => ?_) (fun c_39 => ?_)
      · refine wp_iconst (v := 0) dX12_held_48 (by decide) ?_
        refine wp_ior dX12_held_49 ?_
        refine wp_ist2 dX12_held_50 (by decide) rfl ?_
        refine wp_inc3 dX12_held_51 (by decide) rfl ?_
        refine wp_goto (tgt := 14) dX12_held_54 (by decide) ?_
        simp only [hdL, if_pos c_26, if_neg c_39]
        exact ih (i + 1) _ (by omega)
      · refine wp_iconst (v := 1) dX12_held_42 (by decide) ?_
        refine wp_ild3 dX12_held_43 ?_
        refine wp_ishl dX12_held_44 ?_
        refine wp_goto (tgt := 49) dX12_held_45 (by decide) ?_
        refine wp_ior dX12_held_49 ?_
        refine wp_ist2 dX12_held_50 (by decide) rfl ?_
        refine wp_inc3 dX12_held_51 (by decide) rfl ?_
        refine wp_goto (tgt := 14) dX12_held_54 (by decide) ?_
        simp only [hdL, if_pos c_26, if_pos c_39]
        exact ih (i + 1) _ (by omega)
set_option maxHeartbeats 2000000 in
theorem cm_held {G : GG} {Y : Nat} {F : Nat → Int32} {E0 : Nat → va_E} {L : List Nat} {sz d : Nat} {x : Int32} (hG : GOK G) (hM : rIn (mR G Y) L) (h : TS F) (hdp : 2 ≤ d) : Ct G d yX12_held iX12_held [.ref Y, .int x] (Mm G Y F E0 L sz) 0 0 (some (.int (heldQ F x))) (Mm G Y (F) E0 L sz) := by
  refine Ct.of 2 (by decide) rfl (by decide) (Nat.le_of_ble_eq_true rfl) ?_
  show WP _ _ _ _ _ _ _ 0 [some (.ref Y), some (.int x), none, none] [] _ 0 0
  refine wp_ald0 dX12_held_0 ?_
  refine wp_ild1 dX12_held_1 ?_
  refine mi_1 dX12_held_2 kX12_101 (cm_isThread (d := d - 1) hG hM (by omega)) hM rfl (by omega) (Nat.le_of_ble_eq_true rfl) (Nat.le_refl _) (Nat.le_refl _) ?_
  refine wp_ifB_ne (tgt := 10) dX12_held_5 (by decide) (fun c_5 => ?_) (fun c_5 => ?_)
  · refine wp_iconst (v := 0) dX12_held_10 (by decide) ?_
    refine wp_ist2 dX12_held_11 (by decide) rfl ?_
    refine wp_iconst (v := 0) dX12_held_12 (by decide) ?_
    refine wp_ist3 dX12_held_13 (by decide) rfl ?_
    simp only [heldQ, if_pos c_5]
    exact WP.fg (by simp [lcle, nI_0]) (lm_held hG hM (by omega) 8 0 0 rfl)
  · refine wp_iconst (v := (-1)) dX12_held_8 (by decide) ?_
    exact wp_iret dX12_held_9 rfl (Nat.le_refl _) (Nat.le_refl _) (by first | with_reducible rfl | (simp only [heldQ, if_neg c_5]; done) | (simp only [heldQ, if_neg c_5]; rfl) | rfl) (by first | with_reducible rfl | (simp only [heldQ, if_neg c_5]; done) | (simp only [heldQ, if_neg c_5]; rfl) | rfl)

theorem in_nat {x : Int32} {b : Int32} {B : Nat} (h : inP x 0 b) (hb : b = nI B) (hB : B < 1000) : x = nI (nt x) ∧ nt x ≤ B := by
  obtain ⟨a, c⟩ := h
  have hc : ¬ nI (B + 1) ≤ x := fun q => c (by
    have q := Int32.le_iff_toInt_le.mp q
    rw [nI_toInt (by omega)] at q
    exact Int32.lt_iff_toInt_lt.mpr (by rw [hb, nI_toInt (by omega)]; omega))
  obtain ⟨e1, e2⟩ := nat_of a hc (by omega)
  exact ⟨e1, by show x.toNatClampNeg ≤ B; omega⟩
def typeQ (F : Nat → Int32) (x k : Int32) : Int32 := if inP x 0 2 then (if inP k 0 2 then (if k = 0 then F (222 + nt x) else if k = 1 then F (225 + nt x) else F (228 + nt x)) else -3) else -3
def countedQ (F : Nat → Int32) (x : Int32) : Int32 := if inP x 0 8 then F (231 + nt x) else -3
def settingQ (F : Nat → Int32) (x : Int32) : Int32 := if inP x 0 7 then F (1 + nt x) else -3
def costQ (F : Nat → Int32) : Int32 := 2 * F 231 + 20 * F 232 + 10 * F 233 + 5 * F 234 + 30 * F 235 + 5 * F 236 + 3 * F 237
set_option maxHeartbeats 2000000 in
theorem cm_type {G : GG} {Y : Nat} {F : Nat → Int32} {E0 : Nat → va_E} {L : List Nat} {sz d : Nat} {x k : Int32} (hG : GOK G) (hM : rIn (mR G Y) L)  (hdp : 1 ≤ d) : Ct G d yX12_type iX12_type [.ref Y, .int x, .int k] (Mm G Y F E0 L sz) 0 0 (some (.int (typeQ F x k))) (Mm G Y (F) E0 L sz) := by
  refine Ct.of 0 (by decide) rfl (by decide) (Nat.le_of_ble_eq_true rfl) ?_
  show WP _ _ _ _ _ _ _ 0 [some (.ref Y), some (.int x), some (.int k)] [] _ 0 0
  refine wp_ild1 dX12_type_0 ?_
  refine wp_iconst (v := 0) dX12_type_1 (by decide) ?_
  refine wp_iconst (v := 2) dX12_type_2 (by decide) ?_
  refine ci_3 dX12_type_3 kX12_35 (cm_isIn (d := d - 1)) (by omega) (Nat.le_of_ble_eq_true rfl) (Nat.le_refl _) (Nat.le_refl _) ?_
  refine wp_ifB_eq (tgt := 18) dX12_type_6 (by decide) (fun c_6 => ?_) (fun c_6 => ?_)
  · refine wp_bipush (v := (-3)) dX12_type_18 (by decide) ?_
    exact wp_iret dX12_type_20 rfl (Nat.le_refl _) (Nat.le_refl _) (by first | with_reducible rfl | (simp only [typeQ, if_neg c_6]; done) | (simp only [typeQ, if_neg c_6]; rfl) | rfl) (by first | with_reducible rfl | (simp only [typeQ, if_neg c_6]; done) | (simp only [typeQ, if_neg c_6]; rfl) | rfl)
  · refine wp_ild2 dX12_type_9 ?_
    refine wp_iconst (v := 0) dX12_type_10 (by decide) ?_
    refine wp_iconst (v := 2) dX12_type_11 (by decide) ?_
    refine ci_3 dX12_type_12 kX12_35 (cm_isIn (d := d - 1)) (by omega) (Nat.le_of_ble_eq_true rfl) (Nat.le_refl _) (Nat.le_refl _) ?_
    refine wp_ifB_ne (tgt := 21) dX12_type_15 (by decide) (fun c_15 => ?_) (fun c_15 => ?_)
    · obtain ⟨hx, hxb⟩ := in_nat (B := 2) c_6 (by decide) (by decide)
      refine wp_ild2 dX12_type_21 ?_
      refine wp_if_ne (tgt := 38) dX12_type_22 (by decide) (fun c_22 => ?_) (fun c_22 => ?_)
      · refine wp_ild2 dX12_type_38 ?_
        refine wp_iconst (v := 1) dX12_type_39 (by decide) ?_
        refine wp_icmp_ne (tgt := 56) dX12_type_40 (by decide) (fun c_40 => ?_) (fun c_40 => ?_)
        · refine wp_ald0 dX12_type_56 ?_
          refine gm_w dX12_type_57 fX12_7 hM ?_
          refine wp_sipush (v := 228) dX12_type_60 (by decide) ?_
          refine wp_ild1 dX12_type_63 ?_
          refine wp_iaddN (a := 228) (b := nt x) (by decide) hx dX12_type_64 ?_
          refine rm_w (i' := (228 + nt x)) dX12_type_65 hG hM rfl (by first | assumption | omega) ?_
          exact wp_iret dX12_type_66 rfl (Nat.le_refl _) (Nat.le_refl _) (by first | with_reducible rfl | (simp only [typeQ, if_pos c_6, if_pos c_15, if_neg c_22, if_neg c_40]; done) | (simp only [typeQ, if_pos c_6, if_pos c_15, if_neg c_22, if_neg c_40]; rfl) | rfl) (by first | with_reducible rfl | (simp only [typeQ, if_pos c_6, if_pos c_15, if_neg c_22, if_neg c_40]; done) | (simp only [typeQ, if_pos c_6, if_pos c_15, if_neg c_22, if_neg c_40]; rfl) | rfl)
        · refine wp_ald0 dX12_type_43 ?_
          refine gm_w dX12_type_44 fX12_7 hM ?_
          refine wp_sipush (v := 225) dX12_type_47 (by decide) ?_
          refine wp_ild1 dX12_type_50 ?_
          refine wp_iaddN (a := 225) (b := nt x) (by decide) hx dX12_type_51 ?_
          refine rm_w (i' := (225 + nt x)) dX12_type_52 hG hM rfl (by first | assumption | omega) ?_
          refine wp_goto (tgt := 66) dX12_type_53 (by decide) ?_
          exact wp_iret dX12_type_66 rfl (Nat.le_refl _) (Nat.le_refl _) (by first | with_reducible rfl | (simp only [typeQ, if_pos c_6, if_pos c_15, if_neg c_22, if_pos c_40]; done) | (simp only [typeQ, if_pos c_6, if_pos c_15, if_neg c_22, if_pos c_40]; rfl) | rfl) (by first | with_reducible rfl | (simp only [typeQ, if_pos c_6, if_pos c_15, if_neg c_22, if_pos c_40]; done) | (simp only [typeQ, if_pos c_6, if_pos c_15, if_neg c_22, if_pos c_40]; rfl) | rfl)
      · refine wp_ald0 dX12_type_25 ?_
        refine gm_w dX12_type_26 fX12_7 hM ?_
        refine wp_sipush (v := 222) dX12_type_29 (by decide) ?_
        refine wp_ild1 dX12_type_32 ?_
        refine wp_iaddN (a := 222) (b := nt x) (by decide) hx dX12_type_33 ?_
        refine rm_w (i' := (222 + nt x)) dX12_type_34 hG hM rfl (by first | assumption | omega) ?_
        refine wp_goto (tgt := 66) dX12_type_35 (by decide) ?_
        exact wp_iret dX12_type_66 rfl (Nat.le_refl _) (Nat.le_refl _) (by first | with_reducible rfl | (simp only [typeQ, if_pos c_6, if_pos c_15, if_pos c_22]; done) | (simp only [typeQ, if_pos c_6, if_pos c_15, if_pos c_22]; rfl) | rfl) (by first | with_reducible rfl | (simp only [typeQ, if_pos c_6, if_pos c_15, if_pos c_22]; done) | (simp only [typeQ, if_pos c_6, if_pos c_15, if_pos c_22]; rfl) | rfl)
    · refine wp_bipush (v := (-3)) dX12_type_18 (by decide) ?_
      exact wp_iret dX12_type_20 rfl (Nat.le_refl _) (Nat.le_refl _) (by first | with_reducible rfl | (simp only [typeQ, if_pos c_6, if_neg c_15]; done) | (simp only [typeQ, if_pos c_6, if_neg c_15]; rfl) | rfl) (by first | with_reducible rfl | (simp only [typeQ, if_pos c_6, if_neg c_15]; done) | (simp only [typeQ, if_pos c_6, if_neg c_15]; rfl) | rfl)

set_option maxHeartbeats 2000000 in
theorem cm_counted {G : GG} {Y : Nat} {F : Nat → Int32} {E0 : Nat → va_E} {L : List Nat} {sz d : Nat} {x : Int32} (hG : GOK G) (hM : rIn (mR G Y) L)  (hdp : 1 ≤ d) : Ct G d yX12_counted iX12_counted [.ref Y, .int x] (Mm G Y F E0 L sz) 0 0 (some (.int (countedQ F x))) (Mm G Y (F) E0 L sz) := by
  refine Ct.of 0 (by decide) rfl (by decide) (Nat.le_of_ble_eq_true rfl) ?_
  show WP _ _ _ _ _ _ _ 0 [some (.ref Y), some (.int x)] [] _ 0 0
  refine wp_ild1 dX12_counted_0 ?_
  refine wp_iconst (v := 0) dX12_counted_1 (by decide) ?_
  refine wp_bipush (v := 8) dX12_counted_2 (by decide) ?_
  refine ci_3 dX12_counted_4 kX12_35 (cm_isIn (d := d - 1)) (by omega) (Nat.le_of_ble_eq_true rfl) (Nat.le_refl _) (Nat.le_refl _) ?_
  refine wp_ifB_eq (tgt := 23) dX12_counted_7 (by decide) (fun c_7 => ?_) (fun c_7 => ?_)
  · refine wp_bipush (v := (-3)) dX12_counted_23 (by decide) ?_
    exact wp_iret dX12_counted_25 rfl (Nat.le_refl _) (Nat.le_refl _) (by first | with_reducible rfl | (simp only [countedQ, if_neg c_7]; done) | (simp only [countedQ, if_neg c_7]; rfl) | rfl) (by first | with_reducible rfl | (simp only [countedQ, if_neg c_7]; done) | (simp only [countedQ, if_neg c_7]; rfl) | rfl)
  · obtain ⟨hx, hxb⟩ := in_nat (B := 8) c_7 (by decide) (by decide)
    refine wp_ald0 dX12_counted_10 ?_
    refine gm_w dX12_counted_11 fX12_7 hM ?_
    refine wp_sipush (v := 231) dX12_counted_14 (by decide) ?_
    refine wp_ild1 dX12_counted_17 ?_
    refine wp_iaddN (a := 231) (b := nt x) (by decide) hx dX12_counted_18 ?_
    refine rm_w (i' := (231 + nt x)) dX12_counted_19 hG hM rfl (by first | assumption | omega) ?_
    refine wp_goto (tgt := 25) dX12_counted_20 (by decide) ?_
    exact wp_iret dX12_counted_25 rfl (Nat.le_refl _) (Nat.le_refl _) (by first | with_reducible rfl | (simp only [countedQ, if_pos c_7]; done) | (simp only [countedQ, if_pos c_7]; rfl) | rfl) (by first | with_reducible rfl | (simp only [countedQ, if_pos c_7]; done) | (simp only [countedQ, if_pos c_7]; rfl) | rfl)

set_option maxHeartbeats 2000000 in
theorem cm_setting {G : GG} {Y : Nat} {F : Nat → Int32} {E0 : Nat → va_E} {L : List Nat} {sz d : Nat} {x : Int32} (hG : GOK G) (hM : rIn (mR G Y) L)  (hdp : 1 ≤ d) : Ct G d yX12_setting iX12_setting [.ref Y, .int x] (Mm G Y F E0 L sz) 0 0 (some (.int (settingQ F x))) (Mm G Y (F) E0 L sz) := by
  refine Ct.of 0 (by decide) rfl (by decide) (Nat.le_of_ble_eq_true rfl) ?_
  show WP _ _ _ _ _ _ _ 0 [some (.ref Y), some (.int x)] [] _ 0 0
  refine wp_ild1 dX12_setting_0 ?_
  refine wp_iconst (v := 0) dX12_setting_1 (by decide) ?_
  refine wp_bipush (v := 7) dX12_setting_2 (by decide) ?_
  refine ci_3 dX12_setting_4 kX12_35 (cm_isIn (d := d - 1)) (by omega) (Nat.le_of_ble_eq_true rfl) (Nat.le_refl _) (Nat.le_refl _) ?_
  refine wp_ifB_eq (tgt := 21) dX12_setting_7 (by decide) (fun c_7 => ?_) (fun c_7 => ?_)
  · refine wp_bipush (v := (-3)) dX12_setting_21 (by decide) ?_
    exact wp_iret dX12_setting_23 rfl (Nat.le_refl _) (Nat.le_refl _) (by first | with_reducible rfl | (simp only [settingQ, if_neg c_7]; done) | (simp only [settingQ, if_neg c_7]; rfl) | rfl) (by first | with_reducible rfl | (simp only [settingQ, if_neg c_7]; done) | (simp only [settingQ, if_neg c_7]; rfl) | rfl)
  · obtain ⟨hx, hxb⟩ := in_nat (B := 7) c_7 (by decide) (by decide)
    refine wp_ald0 dX12_setting_10 ?_
    refine gm_w dX12_setting_11 fX12_7 hM ?_
    refine wp_iconst (v := 1) dX12_setting_14 (by decide) ?_
    refine wp_ild1 dX12_setting_15 ?_
    refine wp_iaddN (a := 1) (b := nt x) (by decide) hx dX12_setting_16 ?_
    refine rm_w (i' := (1 + nt x)) dX12_setting_17 hG hM rfl (by first | assumption | omega) ?_
    refine wp_goto (tgt := 23) dX12_setting_18 (by decide) ?_
    exact wp_iret dX12_setting_23 rfl (Nat.le_refl _) (Nat.le_refl _) (by first | with_reducible rfl | (simp only [settingQ, if_pos c_7]; done) | (simp only [settingQ, if_pos c_7]; rfl) | rfl) (by first | with_reducible rfl | (simp only [settingQ, if_pos c_7]; done) | (simp only [settingQ, if_pos c_7]; rfl) | rfl)

set_option maxHeartbeats 2000000 in
theorem cm_cost {G : GG} {Y : Nat} {F : Nat → Int32} {E0 : Nat → va_E} {L : List Nat} {sz d : Nat}  (hG : GOK G) (hM : rIn (mR G Y) L)  : Ct G d yX12_cost iX12_cost [.ref Y] (Mm G Y F E0 L sz) 0 0 (some (.int (costQ F))) (Mm G Y (F) E0 L sz) := by
  refine Ct.of 0 (by decide) rfl (by decide) (Nat.le_of_ble_eq_true rfl) ?_
  show WP _ _ _ _ _ _ _ 0 [some (.ref Y)] [] _ 0 0
  refine wp_iconst (v := 2) dX12_cost_0 (by decide) ?_
  refine wp_ald0 dX12_cost_1 ?_
  refine gm_w dX12_cost_2 fX12_7 hM ?_
  refine wp_sipush (v := 231) dX12_cost_5 (by decide) ?_
  refine rm_w (i' := 231) dX12_cost_8 hG hM (by decide) (by decide) ?_
  refine wp_imul dX12_cost_9 ?_
  refine wp_bipush (v := 20) dX12_cost_10 (by decide) ?_
  refine wp_ald0 dX12_cost_12 ?_
  refine gm_w dX12_cost_13 fX12_7 hM ?_
  refine wp_sipush (v := 232) dX12_cost_16 (by decide) ?_
  refine rm_w (i' := 232) dX12_cost_19 hG hM (by decide) (by decide) ?_
  refine wp_imul dX12_cost_20 ?_
  refine wp_iadd dX12_cost_21 ?_
  refine wp_bipush (v := 10) dX12_cost_22 (by decide) ?_
  refine wp_ald0 dX12_cost_24 ?_
  refine gm_w dX12_cost_25 fX12_7 hM ?_
  refine wp_sipush (v := 233) dX12_cost_28 (by decide) ?_
  refine rm_w (i' := 233) dX12_cost_31 hG hM (by decide) (by decide) ?_
  refine wp_imul dX12_cost_32 ?_
  refine wp_iadd dX12_cost_33 ?_
  refine wp_iconst (v := 5) dX12_cost_34 (by decide) ?_
  refine wp_ald0 dX12_cost_35 ?_
  refine gm_w dX12_cost_36 fX12_7 hM ?_
  refine wp_sipush (v := 234) dX12_cost_39 (by decide) ?_
  refine rm_w (i' := 234) dX12_cost_42 hG hM (by decide) (by decide) ?_
  refine wp_imul dX12_cost_43 ?_
  refine wp_iadd dX12_cost_44 ?_
  refine wp_bipush (v := 30) dX12_cost_45 (by decide) ?_
  refine wp_ald0 dX12_cost_47 ?_
  refine gm_w dX12_cost_48 fX12_7 hM ?_
  refine wp_sipush (v := 235) dX12_cost_51 (by decide) ?_
  refine rm_w (i' := 235) dX12_cost_54 hG hM (by decide) (by decide) ?_
  refine wp_imul dX12_cost_55 ?_
  refine wp_iadd dX12_cost_56 ?_
  refine wp_iconst (v := 5) dX12_cost_57 (by decide) ?_
  refine wp_ald0 dX12_cost_58 ?_
  refine gm_w dX12_cost_59 fX12_7 hM ?_
  refine wp_sipush (v := 236) dX12_cost_62 (by decide) ?_
  refine rm_w (i' := 236) dX12_cost_65 hG hM (by decide) (by decide) ?_
  refine wp_imul dX12_cost_66 ?_
  refine wp_iadd dX12_cost_67 ?_
  refine wp_iconst (v := 3) dX12_cost_68 (by decide) ?_
  refine wp_ald0 dX12_cost_69 ?_
  refine gm_w dX12_cost_70 fX12_7 hM ?_
  refine wp_sipush (v := 237) dX12_cost_73 (by decide) ?_
  refine rm_w (i' := 237) dX12_cost_76 hG hM (by decide) (by decide) ?_
  refine wp_imul dX12_cost_77 ?_
  refine wp_iadd dX12_cost_78 ?_
  exact wp_iret dX12_cost_79 rfl (Nat.le_refl _) (Nat.le_refl _) (by first | with_reducible rfl | (simp only [costQ]; done) | (simp only [costQ]; rfl) | rfl) (by first | with_reducible rfl | (simp only [costQ]; done) | (simp only [costQ]; rfl) | rfl)

def setM (F : Nat → Int32) (x v : Int32) : Int32 × (Nat → Int32) := if valP x v then (if x = 6 then (if monF F ≤ v then (F (1 + nt x), upd F (1 + nt x) v) else (-7, F)) else (F (1 + nt x), upd F (1 + nt x) v)) else (-3, F)
set_option maxHeartbeats 2000000 in
theorem cm_set {G : GG} {Y : Nat} {F : Nat → Int32} {E0 : Nat → va_E} {L : List Nat} {sz d : Nat} {x v : Int32} (hG : GOK G) (hM : rIn (mR G Y) L)  (hdp : 2 ≤ d) : Ct G d yX12_set iX12_set [.ref Y, .int x, .int v] (Mm G Y F E0 L sz) 0 0 (some (.int (setM F x v).1)) (Mm G Y ((setM F x v).2) E0 L sz) := by
  refine Ct.of 1 (by decide) rfl (by decide) (Nat.le_of_ble_eq_true rfl) ?_
  show WP _ _ _ _ _ _ _ 0 [some (.ref Y), some (.int x), some (.int v), none] [] _ 0 0
  refine wp_ild1 dX12_set_0 ?_
  refine wp_ild2 dX12_set_1 ?_
  refine ci_2 dX12_set_2 kX12_46 (cm_isValue (d := d - 1) (by omega)) (by omega) (Nat.le_of_ble_eq_true rfl) (Nat.le_refl _) (Nat.le_refl _) ?_
  refine wp_ifB_ne (tgt := 11) dX12_set_5 (by decide) (fun c_5 => ?_) (fun c_5 => ?_)
  · refine wp_ild1 dX12_set_11 ?_
    refine wp_bipush (v := 6) dX12_set_12 (by decide) ?_
    refine wp_icmp_ne (tgt := 28) dX12_set_14 (by decide) (fun c_14 => ?_) (fun c_14 => ?_)
    · obtain ⟨hx, hxb⟩ := in_nat (B := 7) c_5.1 (by decide) (by decide)
      refine wp_ald0 dX12_set_28 ?_
      refine gm_w dX12_set_29 fX12_7 hM ?_
      refine wp_iconst (v := 1) dX12_set_32 (by decide) ?_
      refine wp_ild1 dX12_set_33 ?_
      refine wp_iaddN (a := 1) (b := nt x) (by decide) hx dX12_set_34 ?_
      refine rm_w (i' := (1 + nt x)) dX12_set_35 hG hM rfl (by first | assumption | omega) ?_
      refine wp_ist3 dX12_set_36 (by decide) rfl ?_
      refine wp_ald0 dX12_set_37 ?_
      refine gm_w dX12_set_38 fX12_7 hM ?_
      refine wp_iconst (v := 1) dX12_set_41 (by decide) ?_
      refine wp_ild1 dX12_set_42 ?_
      refine wp_iaddN (a := 1) (b := nt x) (by decide) hx dX12_set_43 ?_
      refine wp_ild2 dX12_set_44 ?_
      refine sm_w (i' := (1 + nt x)) dX12_set_45 hG hM rfl (by first | assumption | omega) ?_
      refine wp_ild3 dX12_set_46 ?_
      exact wp_iret dX12_set_47 rfl (Nat.le_refl _) (Nat.le_refl _) (by first | with_reducible rfl | (simp only [setM, if_pos c_5, if_neg c_14]; done) | (simp only [setM, if_pos c_5, if_neg c_14]; rfl) | rfl) (by first | with_reducible rfl | (simp only [setM, if_pos c_5, if_neg c_14]; done) | (simp only [setM, if_pos c_5, if_neg c_14]; rfl) | rfl)
    · refine wp_ild2 dX12_set_17 ?_
      refine wp_ald0 dX12_set_18 ?_
      refine mi_0 dX12_set_19 kX12_50 (cm_monitors (d := d - 1) hG hM) hM rfl (by omega) (Nat.le_of_ble_eq_true rfl) (Nat.le_refl _) (Nat.le_refl _) ?_
      refine wp_icmp_ge (tgt := 28) dX12_set_22 (by decide) (fun c_22 => ?_) (fun c_22 => ?_)
      · obtain ⟨hx, hxb⟩ := in_nat (B := 7) c_5.1 (by decide) (by decide)
        refine wp_ald0 dX12_set_28 ?_
        refine gm_w dX12_set_29 fX12_7 hM ?_
        refine wp_iconst (v := 1) dX12_set_32 (by decide) ?_
        refine wp_ild1 dX12_set_33 ?_
        refine wp_iaddN (a := 1) (b := nt x) (by decide) hx dX12_set_34 ?_
        refine rm_w (i' := (1 + nt x)) dX12_set_35 hG hM rfl (by first | assumption | omega) ?_
        refine wp_ist3 dX12_set_36 (by decide) rfl ?_
        refine wp_ald0 dX12_set_37 ?_
        refine gm_w dX12_set_38 fX12_7 hM ?_
        refine wp_iconst (v := 1) dX12_set_41 (by decide) ?_
        refine wp_ild1 dX12_set_42 ?_
        refine wp_iaddN (a := 1) (b := nt x) (by decide) hx dX12_set_43 ?_
        refine wp_ild2 dX12_set_44 ?_
        refine sm_w (i' := (1 + nt x)) dX12_set_45 hG hM rfl (by first | assumption | omega) ?_
        refine wp_ild3 dX12_set_46 ?_
        exact wp_iret dX12_set_47 rfl (Nat.le_refl _) (Nat.le_refl _) (by first | with_reducible rfl | (simp only [setM, if_pos c_5, if_pos c_14, if_pos c_22]; done) | (simp only [setM, if_pos c_5, if_pos c_14, if_pos c_22]; rfl) | rfl) (by first | with_reducible rfl | (simp only [setM, if_pos c_5, if_pos c_14, if_pos c_22]; done) | (simp only [setM, if_pos c_5, if_pos c_14, if_pos c_22]; rfl) | rfl)
      · refine wp_bipush (v := (-7)) dX12_set_25 (by decide) ?_
        exact wp_iret dX12_set_27 rfl (Nat.le_refl _) (Nat.le_refl _) (by first | with_reducible rfl | (simp only [setM, if_pos c_5, if_pos c_14, if_neg c_22]; done) | (simp only [setM, if_pos c_5, if_pos c_14, if_neg c_22]; rfl) | rfl) (by first | with_reducible rfl | (simp only [setM, if_pos c_5, if_pos c_14, if_neg c_22]; done) | (simp only [setM, if_pos c_5, if_pos c_14, if_neg c_22]; rfl) | rfl)
  · refine wp_bipush (v := (-3)) dX12_set_8 (by decide) ?_
    exact wp_iret dX12_set_10 rfl (Nat.le_refl _) (Nat.le_refl _) (by first | with_reducible rfl | (simp only [setM, if_neg c_5]; done) | (simp only [setM, if_neg c_5]; rfl) | rfl) (by first | with_reducible rfl | (simp only [setM, if_neg c_5]; done) | (simp only [setM, if_neg c_5]; rfl) | rfl)

def bz1 : Nat → Nat → (Nat → Int32) → (Nat → Int32)
  | 0, _, F => F
  | n + 1, i, F => bz1 n (i + 1) (upd F i 0)
def bz2 : Nat → Nat → (Nat → Int32) → (Nat → Int32)
  | 0, _, F => F
  | n + 1, i, F => bz2 n (i + 1) (upd (upd F (22 + i) (-8)) (28 + i) (-8))
def bz3 : Nat → Nat → (Nat → Int32) → (Nat → Int32)
  | 0, _, F => F
  | n + 1, i, F => bz3 n (i + 1) (upd (upd (upd (upd F (46 + i) (if F 1 = 1 then 1 else 0)) (54 + i) (-8)) (70 + i) (-8)) (94 + i) (-8))
def bz4 : Nat → Nat → (Nat → Int32) → (Nat → Int32)
  | 0, _, F => F
  | n + 1, i, F => bz4 n (i + 1) (upd F (228 + i) 1)
def begM (F : Nat → Int32) (T : Int32) : Nat → Int32 := bz4 3 0 (bz3 8 0 (bz2 6 0 (upd (bz1 473 9 F) 0 T)))
set_option maxHeartbeats 2000000 in
theorem lm_bz4 {G : GG} {Y : Nat} {E0 : Nat → va_E} {L : List Nat} {sz d : Nat} {T : Int32} (hG : GOK G) (hM : rIn (mR G Y) L) (n : Nat) : ∀ (i : Nat) (F : Nat → Int32), i + n = 3 → WP G iX12_begin d 0 0 none (Mm G Y (bz4 n i F) E0 L sz) 139 [some (.ref Y), some (.int T), some (.int (nI i))] [] (Mm G Y F E0 L sz) 0 0 := by
  induction n with
  | zero =>
    intro i F hi
    refine wp_ild2 dX12_begin_139 ?_
    refine wp_iconst (v := 3) dX12_begin_140 (by decide) ?_
    refine wp_icmp_ge (tgt := 161) dX12_begin_141 (by decide) (fun c_141 => ?_) (fun c_141 => absurd (nI_le (a := 3) (b := i) (by omega) (by omega)) c_141)
    exact wp_vret dX12_begin_161 rfl (Nat.le_refl _) (Nat.le_refl _) (by first | with_reducible rfl | (simp only [bz4]; done) | (simp only [bz4]; rfl) | rfl) (by first | with_reducible rfl | (simp only [bz4]; done) | (simp only [bz4]; rfl) | rfl)
  | succ n ih =>
    intro i F hi
    refine wp_ild2 dX12_begin_139 ?_
    refine wp_iconst (v := 3) dX12_begin_140 (by decide) ?_
    refine wp_icmp_ge (tgt := 161) dX12_begin_141 (by decide) (fun c_141 => absurd c_141 (nI_ge (a := i) (b := 3) (by omega) (by omega))) (fun c_141 => ?_)
    have hib : i < 3 := by omega
    refine wp_ald0 dX12_begin_144 ?_
    refine gm_w dX12_begin_145 fX12_7 hM ?_
    refine wp_sipush (v := 228) dX12_begin_148 (by decide) ?_
    refine wp_ild2 dX12_begin_151 ?_
    refine wp_iaddN (a := 228) (b := i) (by decide) rfl dX12_begin_152 ?_
    refine wp_iconst (v := 1) dX12_begin_153 (by decide) ?_
    refine sm_w (i' := (228 + i)) dX12_begin_154 hG hM rfl (by first | assumption | omega) ?_
    refine wp_inc2 dX12_begin_155 (by decide) rfl ?_
    refine wp_goto (tgt := 139) dX12_begin_158 (by decide) ?_
    exact ih (i + 1) _ (by omega)
set_option maxHeartbeats 2000000 in
theorem lm_bz3 {G : GG} {Y : Nat} {E0 : Nat → va_E} {L : List Nat} {sz d : Nat} {T : Int32} (hG : GOK G) (hM : rIn (mR G Y) L) (n : Nat) : ∀ (i : Nat) (F : Nat → Int32), i + n = 8 → WP G iX12_begin d 0 0 none (Mm G Y (bz4 3 0 (bz3 n i F)) E0 L sz) 68 [some (.ref Y), some (.int T), some (.int (nI i))] [] (Mm G Y F E0 L sz) 0 0 := by
  induction n with
  | zero =>
    intro i F hi
    refine wp_ild2 dX12_begin_68 ?_
    refine wp_bipush (v := 8) dX12_begin_69 (by decide) ?_
    refine wp_icmp_ge (tgt := 137) dX12_begin_71 (by decide) (fun c_71 => ?_) (fun c_71 => absurd (nI_le (a := 8) (b := i) (by omega) (by omega)) c_71)
    refine wp_iconst (v := 0) dX12_begin_137 (by decide) ?_
    refine wp_ist2 dX12_begin_138 (by decide) rfl ?_
    simp only [bz3]
    exact WP.fg (by simp [lcle, nI_0]) (lm_bz4 (T := T) hG hM 3 0 F rfl)
  | succ n ih =>
    intro i F hi
    refine wp_ild2 dX12_begin_68 ?_
    refine wp_bipush (v := 8) dX12_begin_69 (by decide) ?_
    refine wp_icmp_ge (tgt := 137) dX12_begin_71 (by decide) (fun c_71 => absurd c_71 (nI_ge (a := i) (b := 8) (by omega) (by omega))) (fun c_71 => ?_)
    have hib : i < 8 := by omega
    refine wp_ald0 dX12_begin_74 ?_
    refine gm_w dX12_begin_75 fX12_7 hM ?_
    refine wp_bipush (v := 46) dX12_begin_78 (by decide) ?_
    refine wp_ild2 dX12_begin_80 ?_
    refine wp_iaddN (a := 46) (b := i) (by decide) rfl dX12_begin_81 ?_
    refine wp_ald0 dX12_begin_82 ?_
    refine gm_w dX12_begin_83 fX12_7 hM ?_
    refine wp_iconst (v := 1) dX12_begin_86 (by decide) ?_
    refine rm_w (i' := 1) dX12_begin_87 hG hM (by decide) (by decide) ?_
    refine wp_iconst (v := 1) dX12_begin_88 (by decide) ?_
    refine wp_icmp_ne (tgt := 96) dX12_begin_89 (by decide) (fun c_89 => ?_) (fun c_89 => ?_)
    · refine wp_iconst (v := 0) dX12_begin_96 (by decide) ?_
      refine sm_w (i' := (46 + i)) dX12_begin_97 hG hM rfl (by first | assumption | omega) ?_
      refine wp_ald0 dX12_begin_98 ?_
      refine gm_w dX12_begin_99 fX12_7 hM ?_
      refine wp_bipush (v := 54) dX12_begin_102 (by decide) ?_
      refine wp_ild2 dX12_begin_104 ?_
      refine wp_iaddN (a := 54) (b := i) (by decide) rfl dX12_begin_105 ?_
      refine wp_bipush (v := (-8)) dX12_begin_106 (by decide) ?_
      refine sm_w (i' := (54 + i)) dX12_begin_108 hG hM rfl (by first | assumption | omega) ?_
      refine wp_ald0 dX12_begin_109 ?_
      refine gm_w dX12_begin_110 fX12_7 hM ?_
      refine wp_bipush (v := 70) dX12_begin_113 (by decide) ?_
      refine wp_ild2 dX12_begin_115 ?_
      refine wp_iaddN (a := 70) (b := i) (by decide) rfl dX12_begin_116 ?_
      refine wp_bipush (v := (-8)) dX12_begin_117 (by decide) ?_
      refine sm_w (i' := (70 + i)) dX12_begin_119 hG hM rfl (by first | assumption | omega) ?_
      refine wp_ald0 dX12_begin_120 ?_
      refine gm_w dX12_begin_121 fX12_7 hM ?_
      refine wp_bipush (v := 94) dX12_begin_124 (by decide) ?_
      refine wp_ild2 dX12_begin_126 ?_
      refine wp_iaddN (a := 94) (b := i) (by decide) rfl dX12_begin_127 ?_
      refine wp_bipush (v := (-8)) dX12_begin_128 (by decide) ?_
      refine sm_w (i' := (94 + i)) dX12_begin_130 hG hM rfl (by first | assumption | omega) ?_
      refine wp_inc2 dX12_begin_131 (by decide) rfl ?_
      refine wp_goto (tgt := 68) dX12_begin_134 (by decide) ?_
      simp only [bz3, if_neg c_89]
      exact ih (i + 1) _ (by omega)
    · refine wp_iconst (v := 1) dX12_begin_92 (by decide) ?_
      refine wp_goto (tgt := 97) dX12_begin_93 (by decide) ?_
      refine sm_w (i' := (46 + i)) dX12_begin_97 hG hM rfl (by first | assumption | omega) ?_
      refine wp_ald0 dX12_begin_98 ?_
      refine gm_w dX12_begin_99 fX12_7 hM ?_
      refine wp_bipush (v := 54) dX12_begin_102 (by decide) ?_
      refine wp_ild2 dX12_begin_104 ?_
      refine wp_iaddN (a := 54) (b := i) (by decide) rfl dX12_begin_105 ?_
      refine wp_bipush (v := (-8)) dX12_begin_106 (by decide) ?_
      refine sm_w (i' := (54 + i)) dX12_begin_108 hG hM rfl (by first | assumption | omega) ?_
      refine wp_ald0 dX12_begin_109 ?_
      refine gm_w dX12_begin_110 fX12_7 hM ?_
      refine wp_bipush (v := 70) dX12_begin_113 (by decide) ?_
      refine wp_ild2 dX12_begin_115 ?_
      refine wp_iaddN (a := 70) (b := i) (by decide) rfl dX12_begin_116 ?_
      refine wp_bipush (v := (-8)) dX12_begin_117 (by decide) ?_
      refine sm_w (i' := (70 + i)) dX12_begin_119 hG hM rfl (by first | assumption | omega) ?_
      refine wp_ald0 dX12_begin_120 ?_
      refine gm_w dX12_begin_121 fX12_7 hM ?_
      refine wp_bipush (v := 94) dX12_begin_124 (by decide) ?_
      refine wp_ild2 dX12_begin_126 ?_
      refine wp_iaddN (a := 94) (b := i) (by decide) rfl dX12_begin_127 ?_
      refine wp_bipush (v := (-8)) dX12_begin_128 (by decide) ?_
      refine sm_w (i' := (94 + i)) dX12_begin_130 hG hM rfl (by first | assumption | omega) ?_
      refine wp_inc2 dX12_begin_131 (by decide) rfl ?_
      refine wp_goto (tgt := 68) dX12_begin_134 (by decide) ?_
      simp only [bz3, if_pos c_89]
      exact ih (i + 1) _ (by omega)
set_option maxHeartbeats 2000000 in
theorem lm_bz2 {G : GG} {Y : Nat} {E0 : Nat → va_E} {L : List Nat} {sz d : Nat} {T : Int32} (hG : GOK G) (hM : rIn (mR G Y) L) (n : Nat) : ∀ (i : Nat) (F : Nat → Int32), i + n = 6 → WP G iX12_begin d 0 0 none (Mm G Y (bz4 3 0 (bz3 8 0 (bz2 n i F))) E0 L sz) 32 [some (.ref Y), some (.int T), some (.int (nI i))] [] (Mm G Y F E0 L sz) 0 0 := by
  induction n with
  | zero =>
    intro i F hi
    refine wp_ild2 dX12_begin_32 ?_
    refine wp_bipush (v := 6) dX12_begin_33 (by decide) ?_
    refine wp_icmp_ge (tgt := 66) dX12_begin_35 (by decide) (fun c_35 => ?_) (fun c_35 => absurd (nI_le (a := 6) (b := i) (by omega) (by omega)) c_35)
    refine wp_iconst (v := 0) dX12_begin_66 (by decide) ?_
    refine wp_ist2 dX12_begin_67 (by decide) rfl ?_
    simp only [bz2]
    exact WP.fg (by simp [lcle, nI_0]) (lm_bz3 (T := T) hG hM 8 0 F rfl)
  | succ n ih =>
    intro i F hi
    refine wp_ild2 dX12_begin_32 ?_
    refine wp_bipush (v := 6) dX12_begin_33 (by decide) ?_
    refine wp_icmp_ge (tgt := 66) dX12_begin_35 (by decide) (fun c_35 => absurd c_35 (nI_ge (a := i) (b := 6) (by omega) (by omega))) (fun c_35 => ?_)
    have hib : i < 6 := by omega
    refine wp_ald0 dX12_begin_38 ?_
    refine gm_w dX12_begin_39 fX12_7 hM ?_
    refine wp_bipush (v := 22) dX12_begin_42 (by decide) ?_
    refine wp_ild2 dX12_begin_44 ?_
    refine wp_iaddN (a := 22) (b := i) (by decide) rfl dX12_begin_45 ?_
    refine wp_bipush (v := (-8)) dX12_begin_46 (by decide) ?_
    refine sm_w (i' := (22 + i)) dX12_begin_48 hG hM rfl (by first | assumption | omega) ?_
    refine wp_ald0 dX12_begin_49 ?_
    refine gm_w dX12_begin_50 fX12_7 hM ?_
    refine wp_bipush (v := 28) dX12_begin_53 (by decide) ?_
    refine wp_ild2 dX12_begin_55 ?_
    refine wp_iaddN (a := 28) (b := i) (by decide) rfl dX12_begin_56 ?_
    refine wp_bipush (v := (-8)) dX12_begin_57 (by decide) ?_
    refine sm_w (i' := (28 + i)) dX12_begin_59 hG hM rfl (by first | assumption | omega) ?_
    refine wp_inc2 dX12_begin_60 (by decide) rfl ?_
    refine wp_goto (tgt := 32) dX12_begin_63 (by decide) ?_
    exact ih (i + 1) _ (by omega)
set_option maxHeartbeats 2000000 in
theorem lm_bz1 {G : GG} {Y : Nat} {E0 : Nat → va_E} {L : List Nat} {sz d : Nat} {T : Int32} (hG : GOK G) (hM : rIn (mR G Y) L) (n : Nat) : ∀ (i : Nat) (F : Nat → Int32), i + n = 482 → WP G iX12_begin d 0 0 none (Mm G Y (bz4 3 0 (bz3 8 0 (bz2 6 0 (upd (bz1 n i F) 0 T)))) E0 L sz) 3 [some (.ref Y), some (.int T), some (.int (nI i))] [] (Mm G Y F E0 L sz) 0 0 := by
  induction n with
  | zero =>
    intro i F hi
    refine wp_ild2 dX12_begin_3 ?_
    refine wp_sipush (v := 482) dX12_begin_4 (by decide) ?_
    refine wp_icmp_ge (tgt := 23) dX12_begin_7 (by decide) (fun c_7 => ?_) (fun c_7 => absurd (nI_le (a := 482) (b := i) (by omega) (by omega)) c_7)
    refine wp_ald0 dX12_begin_23 ?_
    refine gm_w dX12_begin_24 fX12_7 hM ?_
    refine wp_iconst (v := 0) dX12_begin_27 (by decide) ?_
    refine wp_ild1 dX12_begin_28 ?_
    refine sm_w (i' := 0) dX12_begin_29 hG hM (by decide) (by decide) ?_
    refine wp_iconst (v := 0) dX12_begin_30 (by decide) ?_
    refine wp_ist2 dX12_begin_31 (by decide) rfl ?_
    simp only [bz1]
    exact WP.fg (by simp [lcle, nI_0]) (lm_bz2 (T := T) hG hM 6 0 _ rfl)
  | succ n ih =>
    intro i F hi
    refine wp_ild2 dX12_begin_3 ?_
    refine wp_sipush (v := 482) dX12_begin_4 (by decide) ?_
    refine wp_icmp_ge (tgt := 23) dX12_begin_7 (by decide) (fun c_7 => absurd c_7 (nI_ge (a := i) (b := 482) (by omega) (by omega))) (fun c_7 => ?_)
    have hib : i < 482 := by omega
    refine wp_ald0 dX12_begin_10 ?_
    refine gm_w dX12_begin_11 fX12_7 hM ?_
    refine wp_ild2 dX12_begin_14 ?_
    refine wp_iconst (v := 0) dX12_begin_15 (by decide) ?_
    refine sm_w (i' := i) dX12_begin_16 hG hM rfl (by first | assumption | omega) ?_
    refine wp_inc2 dX12_begin_17 (by decide) rfl ?_
    refine wp_goto (tgt := 3) dX12_begin_20 (by decide) ?_
    exact ih (i + 1) _ (by omega)
set_option maxHeartbeats 2000000 in
theorem cm_begin {G : GG} {Y : Nat} {F : Nat → Int32} {E0 : Nat → va_E} {L : List Nat} {sz d : Nat} {T : Int32} (hG : GOK G) (hM : rIn (mR G Y) L)  : Ct G d yX12_begin iX12_begin [.ref Y, .int T] (Mm G Y F E0 L sz) 0 0 none (Mm G Y (begM F T) E0 L sz) := by
  refine Ct.of 1 (by decide) rfl (by decide) (Nat.le_of_ble_eq_true rfl) ?_
  show WP _ _ _ _ _ _ _ 0 [some (.ref Y), some (.int T), none] [] _ 0 0
  refine wp_bipush (v := 9) dX12_begin_0 (by decide) ?_
  refine wp_ist2 dX12_begin_2 (by decide) rfl ?_
  simp only [begM]
  exact WP.fg (by simp [lcle]; rfl) (lm_bz1 (T := T) hG hM 473 9 F rfl)

def resetM (F : Nat → Int32) (x : Int32) : Int32 × (Nat → Int32) := if inP x 2 6 then (F 0, begM F x) else (-3, F)
set_option maxHeartbeats 2000000 in
theorem cm_reset {G : GG} {Y : Nat} {F : Nat → Int32} {E0 : Nat → va_E} {L : List Nat} {sz d : Nat} {x : Int32} (hG : GOK G) (hM : rIn (mR G Y) L)  (hdp : 1 ≤ d) : Ct G d yX12_reset iX12_reset [.ref Y, .int x] (Mm G Y F E0 L sz) 0 0 (some (.int (resetM F x).1)) (Mm G Y ((resetM F x).2) E0 L sz) := by
  refine Ct.of 1 (by decide) rfl (by decide) (Nat.le_of_ble_eq_true rfl) ?_
  show WP _ _ _ _ _ _ _ 0 [some (.ref Y), some (.int x), none] [] _ 0 0
  refine wp_ild1 dX12_reset_0 ?_
  refine wp_iconst (v := 2) dX12_reset_1 (by decide) ?_
  refine wp_bipush (v := 6) dX12_reset_2 (by decide) ?_
  refine ci_3 dX12_reset_4 kX12_35 (cm_isIn (d := d - 1)) (by omega) (Nat.le_of_ble_eq_true rfl) (Nat.le_refl _) (Nat.le_refl _) ?_
  refine wp_ifB_ne (tgt := 13) dX12_reset_7 (by decide) (fun c_7 => ?_) (fun c_7 => ?_)
  · refine wp_ald0 dX12_reset_13 ?_
    refine gm_w dX12_reset_14 fX12_7 hM ?_
    refine wp_iconst (v := 0) dX12_reset_17 (by decide) ?_
    refine rm_w (i' := 0) dX12_reset_18 hG hM (by decide) (by decide) ?_
    refine wp_ist2 dX12_reset_19 (by decide) rfl ?_
    refine wp_ald0 dX12_reset_20 ?_
    refine wp_ild1 dX12_reset_21 ?_
    refine mv_1 dX12_reset_22 kX12_31 (cm_begin (d := d - 1) hG hM) hM rfl (by omega) (Nat.le_of_ble_eq_true rfl) (Nat.le_refl _) (Nat.le_refl _) ?_
    refine wp_ild2 dX12_reset_25 ?_
    exact wp_iret dX12_reset_26 rfl (Nat.le_refl _) (Nat.le_refl _) (by first | with_reducible rfl | (simp only [resetM, if_pos c_7]; done) | (simp only [resetM, if_pos c_7]; rfl) | rfl) (by first | with_reducible rfl | (simp only [resetM, if_pos c_7]; done) | (simp only [resetM, if_pos c_7]; rfl) | rfl)
  · refine wp_bipush (v := (-3)) dX12_reset_10 (by decide) ?_
    exact wp_iret dX12_reset_12 rfl (Nat.le_refl _) (Nat.le_refl _) (by first | with_reducible rfl | (simp only [resetM, if_neg c_7]; done) | (simp only [resetM, if_neg c_7]; rfl) | rfl) (by first | with_reducible rfl | (simp only [resetM, if_neg c_7]; done) | (simp only [resetM, if_neg c_7]; rfl) | rfl)

def OKt (F : Nat → Int32) : Prop := ∃ m, m ≤ 200 ∧ F 9001 = nI m
theorem OKt.nat {F : Nat → Int32} (h : OKt F) : F 9001 = nI (nt (F 9001)) ∧ nt (F 9001) ≤ 200 := by
  obtain ⟨s, h1, h2⟩ := h
  rw [h2, ntn (by omega)]
  exact ⟨rfl, h1⟩
def writeM (F : Nat → Int32) (x : Int32) : Int32 × (Nat → Int32) := if inP x 32 126 then (if F 9001 = 200 then (-6, F) else (upd (upd F (5000 + nt (F 9001)) x) 9001 (upd F (5000 + nt (F 9001)) x 9001 + 1) 9001, upd (upd F (5000 + nt (F 9001)) x) 9001 (upd F (5000 + nt (F 9001)) x 9001 + 1))) else (-3, F)
def wipeM (F : Nat → Int32) : Int32 × (Nat → Int32) := (F 9001, upd F 9001 0)
set_option maxHeartbeats 2000000 in
theorem cm_write {G : GG} {Y : Nat} {F : Nat → Int32} {E0 : Nat → va_E} {L : List Nat} {sz d : Nat} {x : Int32} (hG : GOK G) (hM : rIn (mR G Y) L) (ht : OKt F) (hdp : 1 ≤ d) : Ct G d yX12_write iX12_write [.ref Y, .int x] (Mm G Y F E0 L sz) 0 0 (some (.int (writeM F x).1)) (Mm G Y ((writeM F x).2) E0 L sz) := by
  refine Ct.of 0 (by decide) rfl (by decide) (Nat.le_of_ble_eq_true rfl) ?_
  show WP _ _ _ _ _ _ _ 0 [some (.ref Y), some (.int x)] [] _ 0 0
  refine wp_ild1 dX12_write_0 ?_
  refine wp_bipush (v := 32) dX12_write_1 (by decide) ?_
  refine wp_bipush (v := 126) dX12_write_3 (by decide) ?_
  refine ci_3 dX12_write_5 kX12_35 (cm_isIn (d := d - 1)) (by omega) (Nat.le_of_ble_eq_true rfl) (Nat.le_refl _) (Nat.le_refl _) ?_
  refine wp_ifB_ne (tgt := 14) dX12_write_8 (by decide) (fun c_8 => ?_) (fun c_8 => ?_)
  · refine wp_ald0 dX12_write_14 ?_
    refine gm_length dX12_write_15 fX12_235 hM ?_
    refine wp_sipush (v := 200) dX12_write_18 (by decide) ?_
    refine wp_icmp_ne (tgt := 27) dX12_write_21 (by decide) (fun c_21 => ?_) (fun c_21 => ?_)
    · refine wp_ald0 dX12_write_27 ?_
      refine gm_text dX12_write_28 fX12_22 hM ?_
      refine wp_ald0 dX12_write_31 ?_
      refine gm_length dX12_write_32 fX12_235 hM ?_
      refine wp_ild1 dX12_write_35 ?_
      obtain ⟨hl, hlb⟩ := ht.nat
      have hl2 : nt (F 9001) < 200 := by
          rcases Nat.lt_or_ge (nt (F 9001)) 200 with q | q
          · exact q
          · exact absurd (by rw [hl, show nt (F 9001) = 200 from Nat.le_antisymm hlb q]; decide) c_21
      refine sm_text (i' := nt (F 9001)) dX12_write_36 hG hM hl (by first | assumption | omega) ?_
      refine wp_ald0 dX12_write_37 ?_
      refine wp_dup dX12_write_38 rfl ?_
      refine gm_length dX12_write_39 fX12_235 hM ?_
      refine wp_iconst (v := 1) dX12_write_42 (by decide) ?_
      refine wp_iadd dX12_write_43 ?_
      refine pm_length dX12_write_44 pX12_235 hM ?_
      refine wp_ald0 dX12_write_47 ?_
      refine gm_length dX12_write_48 fX12_235 hM ?_
      exact wp_iret dX12_write_51 rfl (Nat.le_refl _) (Nat.le_refl _) (by first | with_reducible rfl | (simp only [writeM, if_pos c_8, if_neg c_21]; done) | (simp only [writeM, if_pos c_8, if_neg c_21]; rfl) | rfl) (by first | with_reducible rfl | (simp only [writeM, if_pos c_8, if_neg c_21]; done) | (simp only [writeM, if_pos c_8, if_neg c_21]; rfl) | rfl)
    · refine wp_bipush (v := (-6)) dX12_write_24 (by decide) ?_
      exact wp_iret dX12_write_26 rfl (Nat.le_refl _) (Nat.le_refl _) (by first | with_reducible rfl | (simp only [writeM, if_pos c_8, if_pos c_21]; done) | (simp only [writeM, if_pos c_8, if_pos c_21]; rfl) | rfl) (by first | with_reducible rfl | (simp only [writeM, if_pos c_8, if_pos c_21]; done) | (simp only [writeM, if_pos c_8, if_pos c_21]; rfl) | rfl)
  · refine wp_bipush (v := (-3)) dX12_write_11 (by decide) ?_
    exact wp_iret dX12_write_13 rfl (Nat.le_refl _) (Nat.le_refl _) (by first | with_reducible rfl | (simp only [writeM, if_neg c_8]; done) | (simp only [writeM, if_neg c_8]; rfl) | rfl) (by first | with_reducible rfl | (simp only [writeM, if_neg c_8]; done) | (simp only [writeM, if_neg c_8]; rfl) | rfl)

set_option maxHeartbeats 2000000 in
theorem cm_wipe {G : GG} {Y : Nat} {F : Nat → Int32} {E0 : Nat → va_E} {L : List Nat} {sz d : Nat}  (hG : GOK G) (hM : rIn (mR G Y) L)  : Ct G d yX12_wipe iX12_wipe [.ref Y] (Mm G Y F E0 L sz) 0 0 (some (.int (wipeM F).1)) (Mm G Y ((wipeM F).2) E0 L sz) := by
  refine Ct.of 1 (by decide) rfl (by decide) (Nat.le_of_ble_eq_true rfl) ?_
  show WP _ _ _ _ _ _ _ 0 [some (.ref Y), none] [] _ 0 0
  refine wp_ald0 dX12_wipe_0 ?_
  refine gm_length dX12_wipe_1 fX12_235 hM ?_
  refine wp_ist1 dX12_wipe_4 (by decide) rfl ?_
  refine wp_ald0 dX12_wipe_5 ?_
  refine wp_iconst (v := 0) dX12_wipe_6 (by decide) ?_
  refine pm_length dX12_wipe_7 pX12_235 hM ?_
  refine wp_ild1 dX12_wipe_10 ?_
  exact wp_iret dX12_wipe_11 rfl (Nat.le_refl _) (Nat.le_refl _) (by first | with_reducible rfl | (simp only [wipeM]; done) | (simp only [wipeM]; rfl) | rfl) (by first | with_reducible rfl | (simp only [wipeM]; done) | (simp only [wipeM]; rfl) | rfl)

