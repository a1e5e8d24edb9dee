def sigM (F : Nat → Int32) (x y : Int32) : Int32 × (Nat → Int32) := if 0 ≤ fbM F x y then (if F (46 + nt y) = 4 then (if F (118 + nt y) ≤ 0 then (-8, rcdM F 3 x y 0) else if F 8 = 1 then (F (174 + 6 * nt y), rcdM (ewM F (nt (F (174 + 6 * nt y))) (nt y) 1 1) 3 x y 0) else (F (174 + 6 * nt y), rcdM (ewM F (nt (F (174 + 6 * nt y))) (nt y) 1 0) 3 x y 0)) else (-8, rcdM F 3 x y 0)) else (fbM F x y, F)
set_option maxHeartbeats 2000000 in
theorem cm_signal {G : GG} {Y : Nat} {F : Nat → Int32} {E0 : Nat → va_E} {L : List Nat} {sz d : Nat} {x y : Int32} (hG : GOK G) (hM : rIn (mR G Y) L) (h : TS F) (hr : OKr F) (hdp : 3 ≤ d) : Ct G d yX12_signal iX12_signal [.ref Y, .int x, .int y] (Mm G Y F E0 L sz) 0 0 (some (.int (sigM F x y).1)) (Mm G Y ((sigM F x y).2) E0 L sz) := by
  refine Ct.of 2 (by decide) rfl (by decide) (Nat.le_of_ble_eq_true rfl) ?_
  show WP _ _ _ _ _ _ _ 0 [some (.ref Y), some (.int x), some (.int y), none, none] [] _ 0 0
  refine wp_ald0 dX12_signal_0 ?_
  refine wp_ild1 dX12_signal_1 ?_
  refine wp_ild2 dX12_signal_2 ?_
  refine mi_2 dX12_signal_3 kX12_114 (cm_forbidden (d := d - 1) hG hM h (by omega)) hM rfl (by omega) (Nat.le_of_ble_eq_true rfl) (Nat.le_refl _) (Nat.le_refl _) ?_
  refine wp_ist3 dX12_signal_6 (by decide) rfl ?_
  refine wp_ild3 dX12_signal_7 ?_
  refine wp_if_ge (tgt := 13) dX12_signal_8 (by decide) (fun c_8 => ?_) (fun c_8 => ?_)
  · obtain ⟨t, o, ⟨ht, htT⟩, ho, rfl, rfl, hrun, hheld, hown⟩ := fb_ok h.1 c_8
    have e1 : nt (nI t) = t := ntn (by omega)
    have e2 : nt (nI o) = o := ntn (by omega)
    refine wp_bipush (v := (-8)) dX12_signal_13 (by decide) ?_
    refine wp_ist4 dX12_signal_15 (by decide) rfl ?_
    refine wp_ald0 dX12_signal_17 ?_
    refine gm_w dX12_signal_18 fX12_7 hM ?_
    refine wp_bipush (v := 46) dX12_signal_21 (by decide) ?_
    refine wp_ild2 dX12_signal_23 ?_
    refine wp_iaddN (a := 46) (b := o) (by decide) rfl dX12_signal_24 ?_
    refine rm_w (i' := (46 + o)) dX12_signal_25 hG hM rfl (by first | assumption | omega) ?_
    refine wp_iconst (v := 4) dX12_signal_26 (by decide) ?_
    refine wp_icmp_ne (tgt := 80) dX12_signal_27 (by decide) (fun c_27 => ?_) (fun c_27 => ?_)
    · refine wp_ald0 dX12_signal_80 ?_
      refine wp_iconst (v := 3) dX12_signal_81 (by decide) ?_
      refine wp_ild1 dX12_signal_82 ?_
      refine wp_ild2 dX12_signal_83 ?_
      refine wp_iconst (v := 0) dX12_signal_84 (by decide) ?_
      refine mv_4 dX12_signal_85 kX12_110 (cm_record (d := d - 1) hG hM (by first | exact hr | exact (Hi.rf.ew h.1 hu ho).r hr)) hM rfl (by omega) (Nat.le_of_ble_eq_true rfl) (Nat.le_refl _) (Nat.le_refl _) ?_
      refine wp_ild4 dX12_signal_88 ?_
      exact wp_iret dX12_signal_90 rfl (Nat.le_refl _) (Nat.le_refl _) (by first | with_reducible rfl | (simp only [sigM, if_pos c_8, e1, e2, if_neg c_27]; done) | (simp only [sigM, if_pos c_8, e1, e2, if_neg c_27]; rfl) | rfl) (by first | with_reducible rfl | (simp only [sigM, if_pos c_8, e1, e2, if_neg c_27]; done) | (simp only [sigM, if_pos c_8, e1, e2, if_neg c_27]; rfl) | rfl)
    · refine wp_ald0 dX12_signal_30 ?_
      refine gm_w dX12_signal_31 fX12_7 hM ?_
      refine wp_bipush (v := 118) dX12_signal_34 (by decide) ?_
      refine wp_ild2 dX12_signal_36 ?_
      refine wp_iaddN (a := 118) (b := o) (by decide) rfl dX12_signal_37 ?_
      refine rm_w (i' := (118 + o)) dX12_signal_38 hG hM rfl (by first | assumption | omega) ?_
      refine wp_if_le (tgt := 80) dX12_signal_39 (by decide) (fun c_39 => ?_) (fun c_39 => ?_)
      · refine wp_ald0 dX12_signal_80 ?_
        refine wp_iconst (v := 3) dX12_signal_81 (by decide) ?_
        refine wp_ild1 dX12_signal_82 ?_
        refine wp_ild2 dX12_signal_83 ?_
        refine wp_iconst (v := 0) dX12_signal_84 (by decide) ?_
        refine mv_4 dX12_signal_85 kX12_110 (cm_record (d := d - 1) hG hM (by first | exact hr | exact (Hi.rf.ew h.1 hu ho).r hr)) hM rfl (by omega) (Nat.le_of_ble_eq_true rfl) (Nat.le_refl _) (Nat.le_refl _) ?_
        refine wp_ild4 dX12_signal_88 ?_
        exact wp_iret dX12_signal_90 rfl (Nat.le_refl _) (Nat.le_refl _) (by first | with_reducible rfl | (simp only [sigM, if_pos c_8, e1, e2, if_pos c_27, if_pos c_39]; done) | (simp only [sigM, if_pos c_8, e1, e2, if_pos c_27, if_pos c_39]; rfl) | rfl) (by first | with_reducible rfl | (simp only [sigM, if_pos c_8, e1, e2, if_pos c_27, if_pos c_39]; done) | (simp only [sigM, if_pos c_8, e1, e2, if_pos c_27, if_pos c_39]; rfl) | rfl)
      · refine wp_ald0 dX12_signal_42 ?_
        refine gm_w dX12_signal_43 fX12_7 hM ?_
        refine wp_sipush (v := 174) dX12_signal_46 (by decide) ?_
        refine wp_bipush (v := 6) dX12_signal_49 (by decide) ?_
        refine wp_ild2 dX12_signal_51 ?_
        refine wp_imulN (a := 6) (b := o) (by decide) rfl dX12_signal_52 ?_
        refine wp_iaddN (a := 174) (b := (6 * o)) (by decide) rfl dX12_signal_53 ?_
        refine rm_w (i' := (174 + (6 * o))) dX12_signal_54 hG hM rfl (by first | assumption | omega) ?_
        obtain ⟨u, huT, hu1, hu2, hu3, hu4⟩ := h.wd ho c_39
        have hT6 := h.1.thr.2
        have hu : u < 6 := by omega
        have e3 : nt (nI u) = u := ntn (by omega)
        rw [hu1]
        refine wp_ist4 dX12_signal_55 (by decide) rfl ?_
        refine wp_ald0 dX12_signal_57 ?_
        refine wp_ild4 dX12_signal_58 ?_
        refine wp_iconst (v := 1) dX12_signal_60 (by decide) ?_
        refine wp_ald0 dX12_signal_61 ?_
        refine gm_w dX12_signal_62 fX12_7 hM ?_
        refine wp_bipush (v := 8) dX12_signal_65 (by decide) ?_
        refine rm_w (i' := 8) dX12_signal_67 hG hM (by decide) (by decide) ?_
        refine wp_iconst (v := 1) dX12_signal_68 (by decide) ?_
        refine wp_icmp_ne (tgt := 76) dX12_signal_69 (by decide) (fun c_69 => ?_) (fun c_69 => ?_)
        · refine wp_iconst (v := 0) dX12_signal_76 (by decide) ?_
          refine mv_3 dX12_signal_77 kX12_120 (cm_endWait (d := d - 1) hG hM hu ho hu3 h.1 (by omega)) hM rfl (by omega) (Nat.le_of_ble_eq_true rfl) (Nat.le_refl _) (Nat.le_refl _) ?_
          refine wp_ald0 dX12_signal_80 ?_
          refine wp_iconst (v := 3) dX12_signal_81 (by decide) ?_
          refine wp_ild1 dX12_signal_82 ?_
          refine wp_ild2 dX12_signal_83 ?_
          refine wp_iconst (v := 0) dX12_signal_84 (by decide) ?_
          refine mv_4 dX12_signal_85 kX12_110 (cm_record (d := d - 1) hG hM (by first | exact hr | exact (Hi.rf.ew h.1 hu ho).r hr)) hM rfl (by omega) (Nat.le_of_ble_eq_true rfl) (Nat.le_refl _) (Nat.le_refl _) ?_
          refine wp_ild4 dX12_signal_88 ?_
          exact wp_iret dX12_signal_90 rfl (Nat.le_refl _) (Nat.le_refl _) (by first | with_reducible rfl | (simp only [sigM, if_pos c_8, e1, e2, if_pos c_27, if_neg c_39, hu1, e3, if_neg c_69]; done) | (simp only [sigM, if_pos c_8, e1, e2, if_pos c_27, if_neg c_39, hu1, e3, if_neg c_69]; rfl) | rfl) (by first | with_reducible rfl | (simp only [sigM, if_pos c_8, e1, e2, if_pos c_27, if_neg c_39, hu1, e3, if_neg c_69]; done) | (simp only [sigM, if_pos c_8, e1, e2, if_pos c_27, if_neg c_39, hu1, e3, if_neg c_69]; rfl) | rfl)
        · refine wp_iconst (v := 1) dX12_signal_72 (by decide) ?_
          refine wp_goto (tgt := 77) dX12_signal_73 (by decide) ?_
          refine mv_3 dX12_signal_77 kX12_120 (cm_endWait (d := d - 1) hG hM hu ho hu3 h.1 (by omega)) hM rfl (by omega) (Nat.le_of_ble_eq_true rfl) (Nat.le_refl _) (Nat.le_refl _) ?_
          refine wp_ald0 dX12_signal_80 ?_
          refine wp_iconst (v := 3) dX12_signal_81 (by decide) ?_
          refine wp_ild1 dX12_signal_82 ?_
          refine wp_ild2 dX12_signal_83 ?_
          refine wp_iconst (v := 0) dX12_signal_84 (by decide) ?_
          refine mv_4 dX12_signal_85 kX12_110 (cm_record (d := d - 1) hG hM (by first | exact hr | exact (Hi.rf.ew h.1 hu ho).r hr)) hM rfl (by omega) (Nat.le_of_ble_eq_true rfl) (Nat.le_refl _) (Nat.le_refl _) ?_
          refine wp_ild4 dX12_signal_88 ?_
          exact wp_iret dX12_signal_90 rfl (Nat.le_refl _) (Nat.le_refl _) (by first | with_reducible rfl | (simp only [sigM, if_pos c_8, e1, e2, if_pos c_27, if_neg c_39, hu1, e3, if_pos c_69]; done) | (simp only [sigM, if_pos c_8, e1, e2, if_pos c_27, if_neg c_39, hu1, e3, if_pos c_69]; rfl) | rfl) (by first | with_reducible rfl | (simp only [sigM, if_pos c_8, e1, e2, if_pos c_27, if_neg c_39, hu1, e3, if_pos c_69]; done) | (simp only [sigM, if_pos c_8, e1, e2, if_pos c_27, if_neg c_39, hu1, e3, if_pos c_69]; rfl) | rfl)
  · refine wp_ild3 dX12_signal_11 ?_
    exact wp_iret dX12_signal_12 rfl (Nat.le_refl _) (Nat.le_refl _) (by first | with_reducible rfl | (simp only [sigM, if_neg c_8]; done) | (simp only [sigM, if_neg c_8]; rfl) | rfl) (by first | with_reducible rfl | (simp only [sigM, if_neg c_8]; done) | (simp only [sigM, if_neg c_8]; rfl) | rfl)

theorem ewM_ws {F : Nat → Int32} {t o : Nat} {a v : Int32} (hW : WI F) (ht : t < 6) (ho : o < 8) (hlt : nt (F (110 + o)) < 6) : Ws (ewM F t o a v) o = (Ws F o).filter (fun y => !(y == nI t)) := by
  have hWd : WI (upd (dropF F (118 + o) (174 + 6 * o) (nI t)) (22 + t) a) := (hW.dropw ho).up (by omega)
  have e1 : upd (dropF F (118 + o) (174 + 6 * o) (nI t)) (22 + t) a (110 + o) = F (110 + o) := by rw [upd_ne (by omega), dropF_out (hW.w ho) (by omega) (by omega)]
  have hl : nt (upd (dropF F (118 + o) (174 + 6 * o) (nI t)) (22 + t) a (110 + o)) < 6 := by rw [e1]; exact hlt
  have e2 : Ws (upd (dropF F (118 + o) (174 + 6 * o) (nI t)) (22 + t) a) o = (Ws F o).filter (fun y => !(y == nI t)) := (lst_upd ((hW.dropw ho).w ho) (by omega) (by omega)).trans ((Ws_dropw hW ho ho).trans (if_pos rfl))
  rw [← e2]
  unfold ewM
  split
  · rw [quM_app (hWd.q ho) hl]
    exact ((lst_upd (((hWd.appq ho).up (by omega)).w ho) (by omega) (by omega)).trans (lst_upd ((hWd.appq ho).w ho) (by omega) (by omega))).trans (Ws_appq hWd ho ho)
  · rw [qfM_pfi (hWd.q ho) hl]
    exact ((lst_upd (((hWd.pfiq ho).up (by omega)).w ho) (by omega) (by omega)).trans (lst_upd ((hWd.pfiq ho).w ho) (by omega) (by omega))).trans (Ws_pfiq hWd ho ho hl)
theorem filt_lt {l : List Int32} {x : Int32} (h : x ∈ l) : (l.filter (fun y => !(y == x))).length < l.length := by
  induction l with
  | nil => cases h
  | cons a l ih =>
    by_cases e : a = x
    · rw [List.filter_cons_of_neg (by simp [e])]
      have := List.length_filter_le (fun y => !(y == x)) l
      simp only [List.length_cons]
      omega
    · rw [List.filter_cons_of_pos (by simp [e])]
      have := ih (List.mem_of_ne_of_mem (fun q => e q.symm) h)
      simp only [List.length_cons]
      omega
theorem ewM_dec {F : Nat → Int32} {t o : Nat} {a v : Int32} (h : TS F) (ht : t < nt (F 0)) (ho : o < 8) (hs : F (10 + t) = 2) (hm : nI t ∈ Ws F o) : nt (ewM F t o a v (118 + o)) < nt (F (118 + o)) := by
  have hT := h.1.thr.2
  have hlt : nt (F (110 + o)) < 6 := h.roomq ht ho (h.notq ht ho (fun q => absurd (hs.symm.trans q.1) (by decide)))
  have := filt_lt hm
  rw [← ewM_ws (a := a) (v := v) h.1 (by omega) ho hlt, lst_len, lst_len] at this
  exact this
theorem ewM_0 {F : Nat → Int32} {t o k : Nat} {a v : Int32} (hW : WI F) (ht : t < 6) (ho : o < 8) (hk : (k < 10 ∨ (16 ≤ k ∧ k < 22) ∨ (34 ≤ k ∧ k < 110)) ∨ 222 ≤ k) : ewM F t o a v k = F k := by
  have h6 : nt (upd (dropF F (118 + o) (174 + 6 * o) (nI t)) (22 + t) a (110 + o)) ≤ 6 := (((hW.dropw ho).up (k := 22 + t) (x := a) (by omega)).q ho).nat.2
  unfold ewM
  split
  · unfold quM
    rw [upd_ne (by omega), upd_ne (by omega), upd_ne (by omega), upd_ne (by omega), upd_ne (by omega), dropF_out (hW.w ho) (by omega) (by omega)]
  · unfold qfM
    rw [upd_ne (by omega), upd_ne (by omega), upd_ne (by omega), upd_ne (by omega), shf_out _ _ (fun i hi => by omega), upd_ne (by omega), dropF_out (hW.w ho) (by omega) (by omega)]
def saL (o : Nat) : Nat → (Nat → Int32) → Int32 → Int32 × (Nat → Int32)
  | 0, F, a => (a, F)
  | n + 1, F, a => if F (46 + o) = 4 then (if F (118 + o) ≤ 0 then (a, F) else saL o n (ewM F (nt (F (174 + 6 * o))) o 1 0) (a + 1)) else (a, F)
theorem saL_done {o : Nat} : ∀ (n : Nat) (F : Nat → Int32) (a : Int32), (¬ F (46 + o) = 4 ∨ F (118 + o) ≤ 0) → saL o n F a = (a, F)
  | 0, _, _, _ => rfl
  | n + 1, F, a, h => by
    simp only [saL]
    split
    · rename_i q
      rw [if_pos (h.resolve_left (fun z => z q))]
    · rfl
theorem OKs_le0 {F : Nat → Int32} {q : Nat} (hs : OKs F q) (h : nt (F q) ≤ 0) : F q ≤ 0 := by
  rw [show F q = nI (nt (F q)) from hs.nat.1, show nt (F q) = 0 by omega]
  decide
def saE (F : Nat → Int32) (t o : Nat) : Nat → Int32 := rcdM F 4 (nI t) (nI o) 0
set_option maxHeartbeats 2000000 in
theorem tm_sa66 {G : GG} {Y : Nat} {F : Nat → Int32} {E0 : Nat → va_E} {L : List Nat} {sz d : Nat} {t o : Nat} {a : Int32} (hG : GOK G) (hM : rIn (mR G Y) L) (ht : t < 6) (ho : o < 8) (hr : OKr F) (hdp : 1 ≤ d) : WP G iX12_signalAll d 0 0 (some (.int a)) (Mm G Y (saE F t o) E0 L sz) 66 [some (.ref Y), some (.int (nI t)), some (.int (nI o)), none, some (.int a)] [] (Mm G Y F E0 L sz) 0 0 := by
  refine wp_ald0 dX12_signalAll_66 ?_
  refine wp_iconst (v := 4) dX12_signalAll_67 (by decide) ?_
  refine wp_ild1 dX12_signalAll_68 ?_
  refine wp_ild2 dX12_signalAll_69 ?_
  refine wp_iconst (v := 0) dX12_signalAll_70 (by decide) ?_
  refine mv_4 dX12_signalAll_71 kX12_110 (cm_record (d := d - 1) hG hM hr) hM rfl (by omega) (Nat.le_of_ble_eq_true rfl) (Nat.le_refl _) (Nat.le_refl _) ?_
  refine wp_ild4 dX12_signalAll_74 ?_
  exact wp_iret dX12_signalAll_76 rfl (Nat.le_refl _) (Nat.le_refl _) (by first | with_reducible rfl | (simp only [saE]; done) | (simp only [saE]; rfl) | rfl) (by first | with_reducible rfl | (simp only [saE]; done) | (simp only [saE]; rfl) | rfl)
set_option maxHeartbeats 2000000 in
theorem lm_sa {G : GG} {Y : Nat} {E0 : Nat → va_E} {L : List Nat} {sz d : Nat} {t o : Nat} (hG : GOK G) (hM : rIn (mR G Y) L) (ht : t < 6) (ho : o < 8) (hdp : 2 ≤ d) (n : Nat) : ∀ (F : Nat → Int32) (a : Int32), nt (F (118 + o)) ≤ n → TS F → OKr F → WP G iX12_signalAll d 0 0 (some (.int (saL o n F a).1)) (Mm G Y (saE (saL o n F a).2 t o) E0 L sz) 16 [some (.ref Y), some (.int (nI t)), some (.int (nI o)), none, some (.int a)] [] (Mm G Y F E0 L sz) 0 0 := by
  induction n with
  | zero =>
    intro F a hn h hr
    refine wp_ald0 dX12_signalAll_16 ?_
    refine gm_w dX12_signalAll_17 fX12_7 hM ?_
    refine wp_bipush (v := 46) dX12_signalAll_20 (by decide) ?_
    refine wp_ild2 dX12_signalAll_22 ?_
    refine wp_iaddN (a := 46) (b := o) (by decide) rfl dX12_signalAll_23 ?_
    refine rm_w (i' := (46 + o)) dX12_signalAll_24 hG hM rfl (by first | assumption | omega) ?_
    refine wp_iconst (v := 4) dX12_signalAll_25 (by decide) ?_
    refine wp_icmp_ne (tgt := 66) dX12_signalAll_26 (by decide) (fun c_26 => ?_) (fun c_26 => ?_)
    · rw [saL_done _ F a (Or.inl c_26)]
      exact tm_sa66 hG hM ht ho hr (by omega)
    · refine wp_ald0 dX12_signalAll_29 ?_
      refine gm_w dX12_signalAll_30 fX12_7 hM ?_
      refine wp_bipush (v := 118) dX12_signalAll_33 (by decide) ?_
      refine wp_ild2 dX12_signalAll_35 ?_
      refine wp_iaddN (a := 118) (b := o) (by decide) rfl dX12_signalAll_36 ?_
      refine rm_w (i' := (118 + o)) dX12_signalAll_37 hG hM rfl (by first | assumption | omega) ?_
      refine wp_if_le (tgt := 66) dX12_signalAll_38 (by decide) (fun c_38 => ?_) (fun c_38 => absurd (OKs_le0 (h.1.w ho) hn) c_38)
      rw [saL_done _ F a (Or.inr c_38)]
      exact tm_sa66 hG hM ht ho hr (by omega)
  | succ n ih =>
    intro F a hn h hr
    refine wp_ald0 dX12_signalAll_16 ?_
    refine gm_w dX12_signalAll_17 fX12_7 hM ?_
    refine wp_bipush (v := 46) dX12_signalAll_20 (by decide) ?_
    refine wp_ild2 dX12_signalAll_22 ?_
    refine wp_iaddN (a := 46) (b := o) (by decide) rfl dX12_signalAll_23 ?_
    refine rm_w (i' := (46 + o)) dX12_signalAll_24 hG hM rfl (by first | assumption | omega) ?_
    refine wp_iconst (v := 4) dX12_signalAll_25 (by decide) ?_
    refine wp_icmp_ne (tgt := 66) dX12_signalAll_26 (by decide) (fun c_26 => ?_) (fun c_26 => ?_)
    · rw [saL_done _ F a (Or.inl c_26)]
      exact tm_sa66 hG hM ht ho hr (by omega)
    · refine wp_ald0 dX12_signalAll_29 ?_
      refine gm_w dX12_signalAll_30 fX12_7 hM ?_
      refine wp_bipush (v := 118) dX12_signalAll_33 (by decide) ?_
      refine wp_ild2 dX12_signalAll_35 ?_
      refine wp_iaddN (a := 118) (b := o) (by decide) rfl dX12_signalAll_36 ?_
      refine rm_w (i' := (118 + o)) dX12_signalAll_37 hG hM rfl (by first | assumption | omega) ?_
      refine wp_if_le (tgt := 66) dX12_signalAll_38 (by decide) (fun c_38 => ?_) (fun c_38 => ?_)
      · rw [saL_done _ F a (Or.inr c_38)]
        exact tm_sa66 hG hM ht ho hr (by omega)
      · refine wp_ald0 dX12_signalAll_41 ?_
        refine wp_ald0 dX12_signalAll_42 ?_
        refine gm_w dX12_signalAll_43 fX12_7 hM ?_
        refine wp_sipush (v := 174) dX12_signalAll_46 (by decide) ?_
        refine wp_bipush (v := 6) dX12_signalAll_49 (by decide) ?_
        refine wp_ild2 dX12_signalAll_51 ?_
        refine wp_imulN (a := 6) (b := o) (by decide) rfl dX12_signalAll_52 ?_
        refine wp_iaddN (a := 174) (b := (6 * o)) (by decide) rfl dX12_signalAll_53 ?_
        refine rm_w (i' := (174 + (6 * o))) dX12_signalAll_54 hG hM rfl (by first | assumption | omega) ?_
        obtain ⟨u, huT, hu1, hu2, hu3, hu4⟩ := h.wd ho c_38
        have hT6 := h.1.thr.2
        have hu : u < 6 := by omega
        have e3 : nt (nI u) = u := ntn (by omega)
        rw [hu1]
        refine wp_iconst (v := 1) dX12_signalAll_55 (by decide) ?_
        refine wp_iconst (v := 0) dX12_signalAll_56 (by decide) ?_
        refine mv_3 dX12_signalAll_57 kX12_120 (cm_endWait (d := d - 1) hG hM hu ho hu3 h.1 (by omega)) hM rfl (by omega) (Nat.le_of_ble_eq_true rfl) (Nat.le_refl _) (Nat.le_refl _) ?_
        refine wp_iinc4 dX12_signalAll_60 (by decide) rfl ?_
        refine wp_goto (tgt := 16) dX12_signalAll_63 (by decide) ?_
        simp only [saL, if_pos c_26, if_neg c_38, hu1, e3]
        exact ih _ (a + 1) (by have := ewM_dec (a := 1) (v := 0) h huT ho hu2 hu4; omega) (h.ew huT ho hu2 hu3) ((Hi.rf.ew h.1 hu ho).r hr)
def sgaM (F : Nat → Int32) (x y : Int32) : Int32 × (Nat → Int32) := if 0 ≤ fbM F x y then ((saL (nt y) 6 F 0).1, saE (saL (nt y) 6 F 0).2 (nt x) (nt y)) else (fbM F x y, F)
set_option maxHeartbeats 2000000 in
theorem cm_signalAll {G : GG} {Y : Nat} {F : Nat → Int32} {E0 : Nat → va_E} {L : List Nat} {sz d : Nat} {x y : Int32} (hG : GOK G) (hM : rIn (mR G Y) L) (h : TS F) (hr : OKr F) (hdp : 3 ≤ d) : Ct G d yX12_signalAll iX12_signalAll [.ref Y, .int x, .int y] (Mm G Y F E0 L sz) 0 0 (some (.int (sgaM F x y).1)) (Mm G Y ((sgaM F x y).2) E0 L sz) := by
  refine Ct.of 2 (by decide) rfl (by decide) (Nat.le_of_ble_eq_true rfl) ?_
  show WP _ _ _ _ _ _ _ 0 [some (.ref Y), some (.int x), some (.int y), none, none] [] _ 0 0
  refine wp_ald0 dX12_signalAll_0 ?_
  refine wp_ild1 dX12_signalAll_1 ?_
  refine wp_ild2 dX12_signalAll_2 ?_
  refine mi_2 dX12_signalAll_3 kX12_114 (cm_forbidden (d := d - 1) hG hM h (by omega)) hM rfl (by omega) (Nat.le_of_ble_eq_true rfl) (Nat.le_refl _) (Nat.le_refl _) ?_
  refine wp_ist3 dX12_signalAll_6 (by decide) rfl ?_
  refine wp_ild3 dX12_signalAll_7 ?_
  refine wp_if_ge (tgt := 13) dX12_signalAll_8 (by decide) (fun c_8 => ?_) (fun c_8 => ?_)
  · obtain ⟨t, o, ⟨ht, htT⟩, ho, rfl, rfl, hrun, hheld, hown⟩ := fb_ok h.1 c_8
    have e1 : nt (nI t) = t := ntn (by omega)
    have e2 : nt (nI o) = o := ntn (by omega)
    refine wp_iconst (v := 0) dX12_signalAll_13 (by decide) ?_
    refine wp_ist4 dX12_signalAll_14 (by decide) rfl ?_
    simp only [sgaM, if_pos c_8, e1, e2]
    exact WP.fg (by simp [lcle]) (lm_sa hG hM ht ho (by omega) 6 F 0 (h.1.w ho).nat.2 h hr)
  · refine wp_ild3 dX12_signalAll_11 ?_
    exact wp_iret dX12_signalAll_12 rfl (Nat.le_refl _) (Nat.le_refl _) (by first | with_reducible rfl | (simp only [sgaM, if_neg c_8]; done) | (simp only [sgaM, if_neg c_8]; rfl) | rfl) (by first | with_reducible rfl | (simp only [sgaM, if_neg c_8]; done) | (simp only [sgaM, if_neg c_8]; rfl) | rfl)

def intM (F : Nat → Int32) (x : Int32) : Int32 × (Nat → Int32) := if isT F x then (if F (10 + nt x) = 3 then (-7, F) else if rcdM F 5 x 0 0 (10 + nt x) = 2 then (1, ewM (rcdM F 5 x 0 0) (nt x) (nt (rcdM F 5 x 0 0 (28 + nt x))) 3 0) else (0, upd (rcdM F 5 x 0 0) (16 + nt x) 1)) else (-1, F)
set_option maxHeartbeats 2000000 in
theorem cm_interrupt {G : GG} {Y : Nat} {F : Nat → Int32} {E0 : Nat → va_E} {L : List Nat} {sz d : Nat} {x : Int32} (hG : GOK G) (hM : rIn (mR G Y) L) (h : TS F) (hr : OKr F) (hdp : 3 ≤ d) : Ct G d yX12_interrupt iX12_interrupt [.ref Y, .int x] (Mm G Y F E0 L sz) 0 0 (some (.int (intM F x).1)) (Mm G Y ((intM F x).2) E0 L sz) := by
  refine Ct.of 0 (by decide) rfl (by decide) (Nat.le_of_ble_eq_true rfl) ?_
  show WP _ _ _ _ _ _ _ 0 [some (.ref Y), some (.int x)] [] _ 0 0
  refine wp_ald0 dX12_interrupt_0 ?_
  refine wp_ild1 dX12_interrupt_1 ?_
  refine mi_1 dX12_interrupt_2 kX12_101 (cm_isThread (d := d - 1) hG hM (by omega)) hM rfl (by omega) (Nat.le_of_ble_eq_true rfl) (Nat.le_refl _) (Nat.le_refl _) ?_
  refine wp_ifB_ne (tgt := 10) dX12_interrupt_5 (by decide) (fun c_5 => ?_) (fun c_5 => ?_)
  · obtain ⟨t, ht, htT, rfl⟩ := isT_nat h.1 c_5
    have e1 : nt (nI t) = t := ntn (by omega)
    refine wp_ald0 dX12_interrupt_10 ?_
    refine gm_w dX12_interrupt_11 fX12_7 hM ?_
    refine wp_bipush (v := 10) dX12_interrupt_14 (by decide) ?_
    refine wp_ild1 dX12_interrupt_16 ?_
    refine wp_iaddN (a := 10) (b := t) (by decide) rfl dX12_interrupt_17 ?_
    refine rm_w (i' := (10 + t)) dX12_interrupt_18 hG hM rfl (by first | assumption | omega) ?_
    refine wp_iconst (v := 3) dX12_interrupt_19 (by decide) ?_
    refine wp_icmp_ne (tgt := 26) dX12_interrupt_20 (by decide) (fun c_20 => ?_) (fun c_20 => ?_)
    · refine wp_ald0 dX12_interrupt_26 ?_
      refine wp_iconst (v := 5) dX12_interrupt_27 (by decide) ?_
      refine wp_ild1 dX12_interrupt_28 ?_
      refine wp_iconst (v := 0) dX12_interrupt_29 (by decide) ?_
      refine wp_iconst (v := 0) dX12_interrupt_30 (by decide) ?_
      refine mv_4 dX12_interrupt_31 kX12_110 (cm_record (d := d - 1) hG hM hr) hM rfl (by omega) (Nat.le_of_ble_eq_true rfl) (Nat.le_refl _) (Nat.le_refl _) ?_
      refine wp_ald0 dX12_interrupt_34 ?_
      refine gm_w dX12_interrupt_35 fX12_7 hM ?_
      refine wp_bipush (v := 10) dX12_interrupt_38 (by decide) ?_
      refine wp_ild1 dX12_interrupt_40 ?_
      refine wp_iaddN (a := 10) (b := t) (by decide) rfl dX12_interrupt_41 ?_
      refine rm_w (i' := (10 + t)) dX12_interrupt_42 hG hM rfl (by first | assumption | omega) ?_
      refine wp_iconst (v := 2) dX12_interrupt_43 (by decide) ?_
      refine wp_icmp_ne (tgt := 56) dX12_interrupt_44 (by decide) (fun c_44 => ?_) (fun c_44 => ?_)
      · refine wp_ald0 dX12_interrupt_56 ?_
        refine gm_w dX12_interrupt_57 fX12_7 hM ?_
        refine wp_bipush (v := 16) dX12_interrupt_60 (by decide) ?_
        refine wp_ild1 dX12_interrupt_62 ?_
        refine wp_iaddN (a := 16) (b := t) (by decide) rfl dX12_interrupt_63 ?_
        refine wp_iconst (v := 1) dX12_interrupt_64 (by decide) ?_
        refine sm_w (i' := (16 + t)) dX12_interrupt_65 hG hM rfl (by first | assumption | omega) ?_
        refine wp_iconst (v := 0) dX12_interrupt_66 (by decide) ?_
        exact wp_iret dX12_interrupt_67 rfl (Nat.le_refl _) (Nat.le_refl _) (by first | with_reducible rfl | (simp only [intM, if_pos c_5, e1, if_neg c_20, if_neg c_44]; done) | (simp only [intM, if_pos c_5, e1, if_neg c_20, if_neg c_44]; rfl) | rfl) (by first | with_reducible rfl | (simp only [intM, if_pos c_5, e1, if_neg c_20, if_neg c_44]; done) | (simp only [intM, if_pos c_5, e1, if_neg c_20, if_neg c_44]; rfl) | rfl)
      · have h1 : TS (rcdM F 5 (nI t) 0 0) := h.of SamT.rcd
        have h0 : rcdM F 5 (nI t) 0 0 0 = F 0 := SamT.rcd 0 (by omega)
        obtain ⟨o, ho, hat, -⟩ := h1.wait (by rw [h0]; exact htT) c_44
        have e2 : nt (nI o) = o := ntn (by omega)
        refine wp_ald0 dX12_interrupt_47 ?_
        refine wp_ild1 dX12_interrupt_48 ?_
        refine wp_iconst (v := 3) dX12_interrupt_49 (by decide) ?_
        refine wp_iconst (v := 0) dX12_interrupt_50 (by decide) ?_
        refine mv_3 dX12_interrupt_51 kX12_120 (cm_endWait (d := d - 1) hG hM ht ho hat h1.1 (by omega)) hM rfl (by omega) (Nat.le_of_ble_eq_true rfl) (Nat.le_refl _) (Nat.le_refl _) ?_
        refine wp_iconst (v := 1) dX12_interrupt_54 (by decide) ?_
        exact wp_iret dX12_interrupt_55 rfl (Nat.le_refl _) (Nat.le_refl _) (by first | with_reducible rfl | (simp only [intM, if_pos c_5, e1, if_neg c_20, if_pos c_44, hat, e2]; done) | (simp only [intM, if_pos c_5, e1, if_neg c_20, if_pos c_44, hat, e2]; rfl) | rfl) (by first | with_reducible rfl | (simp only [intM, if_pos c_5, e1, if_neg c_20, if_pos c_44, hat, e2]; done) | (simp only [intM, if_pos c_5, e1, if_neg c_20, if_pos c_44, hat, e2]; rfl) | rfl)
    · refine wp_bipush (v := (-7)) dX12_interrupt_23 (by decide) ?_
      exact wp_iret dX12_interrupt_25 rfl (Nat.le_refl _) (Nat.le_refl _) (by first | with_reducible rfl | (simp only [intM, if_pos c_5, e1, if_pos c_20]; done) | (simp only [intM, if_pos c_5, e1, if_pos c_20]; rfl) | rfl) (by first | with_reducible rfl | (simp only [intM, if_pos c_5, e1, if_pos c_20]; done) | (simp only [intM, if_pos c_5, e1, if_pos c_20]; rfl) | rfl)
  · refine wp_iconst (v := (-1)) dX12_interrupt_8 (by decide) ?_
    exact wp_iret dX12_interrupt_9 rfl (Nat.le_refl _) (Nat.le_refl _) (by first | with_reducible rfl | (simp only [intM, if_neg c_5]; done) | (simp only [intM, if_neg c_5]; rfl) | rfl) (by first | with_reducible rfl | (simp only [intM, if_neg c_5]; done) | (simp only [intM, if_neg c_5]; rfl) | rfl)

def strM (F : Nat → Int32) (x : Int32) : Int32 × (Nat → Int32) := if isT F x then (if F (10 + nt x) = 3 then (stL (rcdM (upd F (10 + nt x) 0) 7 x 0 0) (nt (F 0)) 0 0, rcdM (upd F (10 + nt x) 0) 7 x 0 0) else (-7, F)) else (-1, F)
set_option maxHeartbeats 2000000 in
theorem lm_st {G : GG} {Y : Nat} {F : Nat → Int32} {E0 : Nat → va_E} {L : List Nat} {sz d : Nat} {T : Nat} (hG : GOK G) (hM : rIn (mR G Y) L) (hT : F 0 = nI T) (hT6 : T ≤ 6) (n : Nat) : ∀ (i : Nat) (a : Int32), i + n = T → WP G iX12_start d 0 0 (some (.int (stL F n i a))) (Mm G Y F E0 L sz) 49 [some (.ref Y), none, some (.int a), some (.int (nI i))] [] (Mm G Y F E0 L sz) 0 0 := by
  induction n with
  | zero =>
    intro i a hi
    refine wp_ild3 dX12_start_49 ?_
    refine wp_ald0 dX12_start_50 ?_
    refine gm_w dX12_start_51 fX12_7 hM ?_
    refine wp_iconst (v := 0) dX12_start_54 (by decide) ?_
    refine rm_w (i' := 0) dX12_start_55 hG hM (by decide) (by decide) ?_
    refine wp_icmp_ge (tgt := 86) dX12_start_56 (by decide) (fun c_56 => ?_) (fun c_56 => absurd (by rw [hT]; exact nI_le (by omega) (by omega)) c_56)
    refine wp_ild2 dX12_start_86 ?_
    exact wp_iret dX12_start_87 rfl (Nat.le_refl _) (Nat.le_refl _) (by first | with_reducible rfl | (simp only [stL]; done) | (simp only [stL]; rfl) | rfl) (by first | with_reducible rfl | (simp only [stL]; done) | (simp only [stL]; rfl) | rfl)
  | succ n ih =>
    intro i a hi
    refine wp_ild3 dX12_start_49 ?_
    refine wp_ald0 dX12_start_50 ?_
    refine gm_w dX12_start_51 fX12_7 hM ?_
    refine wp_iconst (v := 0) dX12_start_54 (by decide) ?_
    refine rm_w (i' := 0) dX12_start_55 hG hM (by decide) (by decide) ?_
    refine wp_icmp_ge (tgt := 86) dX12_start_56 (by decide) (fun c_56 => absurd c_56 (by rw [hT]; exact nI_ge (by omega) (by omega))) (fun c_56 => ?_)
    have hi6 : i < 6 := by omega
    refine wp_ild2 dX12_start_59 ?_
    refine wp_ald0 dX12_start_60 ?_
    refine gm_w dX12_start_61 fX12_7 hM ?_
    refine wp_bipush (v := 10) dX12_start_64 (by decide) ?_
    refine wp_ild3 dX12_start_66 ?_
    refine wp_iaddN (a := 10) (b := i) (by decide) rfl dX12_start_67 ?_
    refine rm_w (i' := (10 + i)) dX12_start_68 hG hM rfl (by first | assumption | omega) ?_
    refine wp_iconst (v := 3) dX12_start_69 (by decide) ?_
    refine wp_icmp_eq (tgt := 77) dX12_start_70 (by decide) (fun c_70 => ?_) (fun c_70 => ?_)
    · refine wp_iconst (v := 0) dX12_start_77 (by decide) ?_
      refine wp_iadd dX12_start_78 ?_
      refine wp_ist2 dX12_start_79 (by decide) rfl ?_
      refine wp_inc3 dX12_start_80 (by decide) rfl ?_
      refine wp_goto (tgt := 49) dX12_start_83 (by decide) ?_
      simp only [stL, if_pos c_70]
      rw [Int32.add_zero]
      exact ih (i + 1) _ (by omega)
    · refine wp_iconst (v := 1) dX12_start_73 (by decide) ?_
      refine wp_goto (tgt := 78) dX12_start_74 (by decide) ?_
      refine wp_iadd dX12_start_78 ?_
      refine wp_ist2 dX12_start_79 (by decide) rfl ?_
      refine wp_inc3 dX12_start_80 (by decide) rfl ?_
      refine wp_goto (tgt := 49) dX12_start_83 (by decide) ?_
      simp only [stL, if_neg c_70]
      exact ih (i + 1) _ (by omega)
set_option maxHeartbeats 2000000 in
theorem cm_start {G : GG} {Y : Nat} {F : Nat → Int32} {E0 : Nat → va_E} {L : List Nat} {sz d : Nat} {x : Int32} (hG : GOK G) (hM : rIn (mR G Y) L) (h : TS F) (hr : OKr F) (hdp : 2 ≤ d) : Ct G d yX12_start iX12_start [.ref Y, .int x] (Mm G Y F E0 L sz) 0 0 (some (.int (strM F x).1)) (Mm G Y ((strM F x).2) E0 L sz) := by
  refine Ct.of 2 (by decide) rfl (by decide) (Nat.le_of_ble_eq_true rfl) ?_
  show WP _ _ _ _ _ _ _ 0 [some (.ref Y), some (.int x), none, none] [] _ 0 0
  refine wp_ald0 dX12_start_0 ?_
  refine wp_ild1 dX12_start_1 ?_
  refine mi_1 dX12_start_2 kX12_101 (cm_isThread (d := d - 1) hG hM (by omega)) hM rfl (by omega) (Nat.le_of_ble_eq_true rfl) (Nat.le_refl _) (Nat.le_refl _) ?_
  refine wp_ifB_ne (tgt := 10) dX12_start_5 (by decide) (fun c_5 => ?_) (fun c_5 => ?_)
  · obtain ⟨t, ht, htT, rfl⟩ := isT_nat h.1 c_5
    have e1 : nt (nI t) = t := ntn (by omega)
    refine wp_ald0 dX12_start_10 ?_
    refine gm_w dX12_start_11 fX12_7 hM ?_
    refine wp_bipush (v := 10) dX12_start_14 (by decide) ?_
    refine wp_ild1 dX12_start_16 ?_
    refine wp_iaddN (a := 10) (b := t) (by decide) rfl dX12_start_17 ?_
    refine rm_w (i' := (10 + t)) dX12_start_18 hG hM rfl (by first | assumption | omega) ?_
    refine wp_iconst (v := 3) dX12_start_19 (by decide) ?_
    refine wp_icmp_eq (tgt := 26) dX12_start_20 (by decide) (fun c_20 => ?_) (fun c_20 => ?_)
    · refine wp_ald0 dX12_start_26 ?_
      refine gm_w dX12_start_27 fX12_7 hM ?_
      refine wp_bipush (v := 10) dX12_start_30 (by decide) ?_
      refine wp_ild1 dX12_start_32 ?_
      refine wp_iaddN (a := 10) (b := t) (by decide) rfl dX12_start_33 ?_
      refine wp_iconst (v := 0) dX12_start_34 (by decide) ?_
      refine sm_w (i' := (10 + t)) dX12_start_35 hG hM rfl (by first | assumption | omega) ?_
      refine wp_ald0 dX12_start_36 ?_
      refine wp_bipush (v := 7) dX12_start_37 (by decide) ?_
      refine wp_ild1 dX12_start_39 ?_
      refine wp_iconst (v := 0) dX12_start_40 (by decide) ?_
      refine wp_iconst (v := 0) dX12_start_41 (by decide) ?_
      refine mv_4 dX12_start_42 kX12_110 (cm_record (d := d - 1) hG hM (OKr_up (by omega) hr)) hM rfl (by omega) (Nat.le_of_ble_eq_true rfl) (Nat.le_refl _) (Nat.le_refl _) ?_
      refine wp_iconst (v := 0) dX12_start_45 (by decide) ?_
      refine wp_ist2 dX12_start_46 (by decide) rfl ?_
      refine wp_iconst (v := 0) dX12_start_47 (by decide) ?_
      refine wp_ist3 dX12_start_48 (by decide) rfl ?_
      simp only [strM, if_pos c_5, e1, if_pos c_20]
      exact WP.fg (by simp [lcle, nI_0]) (lm_st hG hM (T := nt (F 0)) (by rw [SamT.rcd 0 (by omega), upd_ne (by omega)]; exact h.1.thr.1) h.1.thr.2 _ 0 0 (by omega))
    · refine wp_bipush (v := (-7)) dX12_start_23 (by decide) ?_
      exact wp_iret dX12_start_25 rfl (Nat.le_refl _) (Nat.le_refl _) (by first | with_reducible rfl | (simp only [strM, if_pos c_5, e1, if_neg c_20]; done) | (simp only [strM, if_pos c_5, e1, if_neg c_20]; rfl) | rfl) (by first | with_reducible rfl | (simp only [strM, if_pos c_5, e1, if_neg c_20]; done) | (simp only [strM, if_pos c_5, e1, if_neg c_20]; rfl) | rfl)
  · refine wp_iconst (v := (-1)) dX12_start_8 (by decide) ?_
    exact wp_iret dX12_start_9 rfl (Nat.le_refl _) (Nat.le_refl _) (by first | with_reducible rfl | (simp only [strM, if_neg c_5]; done) | (simp only [strM, if_neg c_5]; rfl) | rfl) (by first | with_reducible rfl | (simp only [strM, if_neg c_5]; done) | (simp only [strM, if_neg c_5]; rfl) | rfl)

