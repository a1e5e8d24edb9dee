theorem TS.teL {T : Nat} : ∀ (n i : Nat) (F : Nat → Int32), i + n = T → TS F → nt (F 0) = T → TS (teL n i F)
  | 0, _, _, _, h, _ => h
  | n + 1, i, F, hn, h, hT => TS.teL (T := T) n (i + 1) _ (by omega) (h.te (by omega)) (by rw [te_0 h (by omega)]; exact hT)
theorem Hi.teL {T : Nat} {F0 : Nat → Int32} : ∀ (n i : Nat) (F : Nat → Int32), i + n = T → TS F → nt (F 0) = T → Hi F0 F → Hi F0 (teL n i F)
  | 0, _, _, _, _, _, hh => hh
  | n + 1, i, F, hn, h, hT, hh => Hi.teL (T := T) n (i + 1) _ (by omega) (h.te (by omega)) (by rw [te_0 h (by omega)]; exact hT) (hh.te h (by omega))
theorem TS.twL : ∀ (n i : Nat) (F : Nat → Int32), i + n = 8 → TS F → TS (twL n i F)
  | 0, _, _, _, h => h
  | n + 1, i, F, hn, h => TS.twL n (i + 1) _ (by omega) (h.tw (by omega))
theorem Hi.twL {F0 : Nat → Int32} : ∀ (n i : Nat) (F : Nat → Int32), i + n = 8 → TS F → Hi F0 F → Hi F0 (twL n i F)
  | 0, _, _, _, _, hh => hh
  | n + 1, i, F, hn, h, hh => Hi.twL n (i + 1) _ (by omega) (h.tw (by omega)) (hh.tw h (by omega))
theorem SamT.tdL : ∀ (n i : Nat) (F : Nat → Int32), i + n = 8 → SamT F (tdL n i F)
  | 0, _, _, _ => SamT.rf
  | n + 1, i, F, hn => (SamT.td (by omega)).tr (SamT.tdL n (i + 1) _ (by omega))
theorem Hi.tdL {F0 : Nat → Int32} : ∀ (n i : Nat) (F : Nat → Int32), i + n = 8 → Hi F0 F → Hi F0 (tdL n i F)
  | 0, _, _, _, hh => hh
  | n + 1, i, F, hn, hh => Hi.tdL n (i + 1) _ (by omega) (hh.td (by omega))
theorem TS.tck {F : Nat → Int32} (h : TS F) : TS (tck1 F) := by
  unfold tck1
  refine TS.of ?_ (SamT.tdL 8 0 _ rfl)
  refine TS.twL 8 0 _ rfl ?_
  exact TS.teL (T := nt (F 0)) _ 0 _ (by omega) (h.up (by omega)) (by rw [upd_ne (by omega)])
theorem Hi.tck {F0 F : Nat → Int32} (hh : Hi F0 F) (h : TS F) : Hi F0 (tck1 F) := by
  unfold tck1
  refine Hi.tdL 8 0 _ rfl ?_
  refine Hi.twL 8 0 _ rfl (TS.teL (T := nt (F 0)) _ 0 _ (by omega) (h.up (by omega)) (by rw [upd_ne (by omega)])) ?_
  exact Hi.teL (T := nt (F 0)) _ 0 _ (by omega) (h.up (by omega)) (by rw [upd_ne (by omega)]) (hh.up (by omega))
def tkML : Nat → (Nat → Int32) → (Nat → Int32)
  | 0, F => F
  | n + 1, F => tkML n (tck1 F)
def tickM (F : Nat → Int32) (z : Int32) : Int32 × (Nat → Int32) := if inP z 1 20 then (rcdM (tkML (nt z) F) 9 z 0 0 236 - F 236, rcdM (tkML (nt z) F) 9 z 0 0) else (-3, F)
theorem TS.tkML : ∀ (n : Nat) (F : Nat → Int32), TS F → TS (tkML n F)
  | 0, _, h => h
  | n + 1, F, h => TS.tkML n _ h.tck
theorem Hi.tkML {F0 : Nat → Int32} : ∀ (n : Nat) (F : Nat → Int32), TS F → Hi F0 F → Hi F0 (tkML n F)
  | 0, _, _, hh => hh
  | n + 1, F, h, hh => Hi.tkML n _ h.tck (hh.tck h)
set_option maxHeartbeats 2000000 in
theorem lm_tick {G : GG} {Y : Nat} {E0 : Nat → va_E} {L : List Nat} {sz d : Nat} {z a : Int32} {N : Nat} (hG : GOK G) (hM : rIn (mR G Y) L) (hz : z = nI N) (hN : N < 21) (hdp : 3 ≤ d) (n : Nat) : ∀ (i : Nat) (F : Nat → Int32), i + n = N → TS F → OKr F → WP G iX12_tick d 0 0 (some (.int (rcdM (tkML n F) 9 z 0 0 236 - a))) (Mm G Y (rcdM (tkML n F) 9 z 0 0) E0 L sz) 24 [some (.ref Y), some (.int z), some (.int a), some (.int (nI i))] [] (Mm G Y F E0 L sz) 0 0 := by
  induction n with
  | zero =>
    intro i F hi h hr
    refine wp_ild3 dX12_tick_24 ?_
    refine wp_ild1 dX12_tick_25 ?_
    refine wp_icmp_ge (tgt := 39) dX12_tick_26 (by decide) (fun c_26 => ?_) (fun c_26 => absurd (by rw [hz]; exact nI_le (by omega) (by omega)) c_26)
    refine wp_ald0 dX12_tick_39 ?_
    refine wp_bipush (v := 9) dX12_tick_40 (by decide) ?_
    refine wp_ild1 dX12_tick_42 ?_
    refine wp_iconst (v := 0) dX12_tick_43 (by decide) ?_
    refine wp_iconst (v := 0) dX12_tick_44 (by decide) ?_
    refine mv_4 dX12_tick_45 kX12_110 (cm_record (d := d - 1) hG hM hr) hM rfl (by omega) (Nat.le_of_ble_eq_true rfl) (Nat.le_refl _) (Nat.le_refl _) ?_
    refine wp_ald0 dX12_tick_48 ?_
    refine gm_w dX12_tick_49 fX12_7 hM ?_
    refine wp_sipush (v := 236) dX12_tick_52 (by decide) ?_
    refine rm_w (i' := 236) dX12_tick_55 hG hM (by decide) (by decide) ?_
    refine wp_ild2 dX12_tick_56 ?_
    refine wp_isub dX12_tick_57 ?_
    exact wp_iret dX12_tick_58 rfl (Nat.le_refl _) (Nat.le_refl _) (by first | with_reducible rfl | (simp only [tkML]; done) | (simp only [tkML]; rfl) | rfl) (by first | with_reducible rfl | (simp only [tkML]; done) | (simp only [tkML]; rfl) | rfl)
  | succ n ih =>
    intro i F hi h hr
    refine wp_ild3 dX12_tick_24 ?_
    refine wp_ild1 dX12_tick_25 ?_
    refine wp_icmp_ge (tgt := 39) dX12_tick_26 (by decide) (fun c_26 => absurd c_26 (by rw [hz]; exact nI_ge (by omega) (by omega))) (fun c_26 => ?_)
    refine wp_ald0 dX12_tick_29 ?_
    refine mv_0 dX12_tick_30 kX12_124 (cm_tickOnce (d := d - 1) hG hM h (by omega)) hM rfl (by omega) (Nat.le_of_ble_eq_true rfl) (Nat.le_refl _) (Nat.le_refl _) ?_
    refine wp_inc3 dX12_tick_33 (by decide) rfl ?_
    refine wp_goto (tgt := 24) dX12_tick_36 (by decide) ?_
    simp only [tkML]
    exact ih (i + 1) _ (by omega) h.tck ((Hi.rf.tck h).r hr)
set_option maxHeartbeats 2000000 in
theorem cm_tick {G : GG} {Y : Nat} {F : Nat → Int32} {E0 : Nat → va_E} {L : List Nat} {sz d : Nat} {z : Int32} (hG : GOK G) (hM : rIn (mR G Y) L) (h : TS F) (hr : OKr F) (hdp : 3 ≤ d) : Ct G d yX12_tick iX12_tick [.ref Y, .int z] (Mm G Y F E0 L sz) 0 0 (some (.int (tickM F z).1)) (Mm G Y ((tickM F z).2) E0 L sz) := by
  refine Ct.of 2 (by decide) rfl (by decide) (Nat.le_of_ble_eq_true rfl) ?_
  show WP _ _ _ _ _ _ _ 0 [some (.ref Y), some (.int z), none, none] [] _ 0 0
  refine wp_ild1 dX12_tick_0 ?_
  refine wp_iconst (v := 1) dX12_tick_1 (by decide) ?_
  refine wp_bipush (v := 20) dX12_tick_2 (by decide) ?_
  refine ci_3 dX12_tick_4 kX12_35 (cm_isIn (d := d - 1)) (by omega) (Nat.le_of_ble_eq_true rfl) (Nat.le_refl _) (Nat.le_refl _) ?_
  refine wp_ifB_ne (tgt := 13) dX12_tick_7 (by decide) (fun c_7 => ?_) (fun c_7 => ?_)
  · refine wp_ald0 dX12_tick_13 ?_
    refine gm_w dX12_tick_14 fX12_7 hM ?_
    refine wp_sipush (v := 236) dX12_tick_17 (by decide) ?_
    refine rm_w (i' := 236) dX12_tick_20 hG hM (by decide) (by decide) ?_
    refine wp_ist2 dX12_tick_21 (by decide) rfl ?_
    refine wp_iconst (v := 0) dX12_tick_22 (by decide) ?_
    refine wp_ist3 dX12_tick_23 (by decide) rfl ?_
    simp only [tickM, if_pos c_7]
    obtain ⟨hz, hz21⟩ := nat_of21 c_7.1 (Int32.not_lt.mp c_7.2)
    exact WP.fg (by simp [lcle, nI_0]) (lm_tick hG hM hz hz21 hdp (nt z) 0 F (by omega) h hr)
  · refine wp_bipush (v := (-3)) dX12_tick_10 (by decide) ?_
    exact wp_iret dX12_tick_12 rfl (Nat.le_refl _) (Nat.le_refl _) (by first | with_reducible rfl | (simp only [tickM, if_neg c_7]; done) | (simp only [tickM, if_neg c_7]; rfl) | rfl) (by first | with_reducible rfl | (simp only [tickM, if_neg c_7]; done) | (simp only [tickM, if_neg c_7]; rfl) | rfl)

def opM (F : Nat → Int32) (op a b c : Int32) : Int32 × (Nat → Int32) := if op = 0 then enterM F a b else if op = 1 then exitM F a b else if op = 2 then awaitM F a b c else if op = 3 then sigM F a b else if op = 4 then sgaM F a b else if op = 5 then intM F a else if op = 6 then dieM F a else if op = 7 then strM F a else if op = 8 then hashM F a else tickM F a
theorem sw9 {x : Int32} (h0 : ¬ x = 0) (h1 : ¬ x = 1) (h2 : ¬ x = 2) (h3 : ¬ x = 3) (h4 : ¬ x = 4) (h5 : ¬ x = 5) (h6 : ¬ x = 6) (h7 : ¬ x = 7) (h8 : ¬ x = 8) : x.toInt < 0 ∨ (8 : Int) < x.toInt := sw_out 8 (by decide) (fun i hi => by
  match i, hi with
  | 0, _ => exact h0
  | 1, _ => exact h1
  | 2, _ => exact h2
  | 3, _ => exact h3
  | 4, _ => exact h4
  | 5, _ => exact h5
  | 6, _ => exact h6
  | 7, _ => exact h7
  | 8, _ => exact h8
  | i + 9, hi => omega)
set_option maxHeartbeats 2000000 in
theorem cm_operate {G : GG} {Y : Nat} {F : Nat → Int32} {E0 : Nat → va_E} {L : List Nat} {sz d : Nat} {op a b c : Int32} (hG : GOK G) (hM : rIn (mR G Y) L) (h : TS F) (hr : OKr F) (hdp : 6 ≤ d) : Ct G d yX12_operate iX12_operate [.ref Y, .int op, .int a, .int b, .int c] (Mm G Y F E0 L sz) 0 0 (some (.int (opM F op a b c).1)) (Mm G Y ((opM F op a b c).2) E0 L sz) := by
  refine Ct.of 0 (by decide) rfl (by decide) (Nat.le_of_ble_eq_true rfl) ?_
  show WP _ _ _ _ _ _ _ 0 [some (.ref Y), some (.int op), some (.int a), some (.int b), some (.int c)] [] _ 0 0
  refine wp_ild1 dX12_operate_0 ?_
  by_cases s1_0 : op = 0
  · refine wp_tableIn (off := 51) (tgt := 52) dX12_operate_1 (by rw [s1_0]; decide) (by rw [s1_0]; decide) (by rw [s1_0]; rfl) (by decide) ?_
    refine wp_ald0 dX12_operate_52 ?_
    refine wp_ild2 dX12_operate_53 ?_
    refine wp_ild3 dX12_operate_54 ?_
    refine mi_2 dX12_operate_55 kX12_194 (cm_enter (d := d - 1) hG hM h hr (by omega)) hM rfl (by omega) (Nat.le_of_ble_eq_true rfl) (Nat.le_refl _) (Nat.le_refl _) ?_
    exact wp_iret dX12_operate_58 rfl (Nat.le_refl _) (Nat.le_refl _) (by first | with_reducible rfl | (simp only [opM, if_pos s1_0]; done) | (simp only [opM, if_pos s1_0]; rfl) | rfl) (by first | with_reducible rfl | (simp only [opM, if_pos s1_0]; done) | (simp only [opM, if_pos s1_0]; rfl) | rfl)
  · by_cases s1_1 : op = 1
    · refine wp_tableIn (off := 58) (tgt := 59) dX12_operate_1 (by rw [s1_1]; decide) (by rw [s1_1]; decide) (by rw [s1_1]; rfl) (by decide) ?_
      refine wp_ald0 dX12_operate_59 ?_
      refine wp_ild2 dX12_operate_60 ?_
      refine wp_ild3 dX12_operate_61 ?_
      refine mi_2 dX12_operate_62 kX12_197 (cm_exit (d := d - 1) hG hM h hr (by omega)) hM rfl (by omega) (Nat.le_of_ble_eq_true rfl) (Nat.le_refl _) (Nat.le_refl _) ?_
      exact wp_iret dX12_operate_65 rfl (Nat.le_refl _) (Nat.le_refl _) (by first | with_reducible rfl | (simp only [opM, if_neg s1_0, if_pos s1_1]; done) | (simp only [opM, if_neg s1_0, if_pos s1_1]; rfl) | rfl) (by first | with_reducible rfl | (simp only [opM, if_neg s1_0, if_pos s1_1]; done) | (simp only [opM, if_neg s1_0, if_pos s1_1]; rfl) | rfl)
    · by_cases s1_2 : op = 2
      · refine wp_tableIn (off := 65) (tgt := 66) dX12_operate_1 (by rw [s1_2]; decide) (by rw [s1_2]; decide) (by rw [s1_2]; rfl) (by decide) ?_
        refine wp_ald0 dX12_operate_66 ?_
        refine wp_ild2 dX12_operate_67 ?_
        refine wp_ild3 dX12_operate_68 ?_
        refine wp_ild4 dX12_operate_69 ?_
        refine mi_3 dX12_operate_71 kX12_200 (cm_await (d := d - 1) hG hM h hr (by omega)) hM rfl (by omega) (Nat.le_of_ble_eq_true rfl) (Nat.le_refl _) (Nat.le_refl _) ?_
        exact wp_iret dX12_operate_74 rfl (Nat.le_refl _) (Nat.le_refl _) (by first | with_reducible rfl | (simp only [opM, if_neg s1_0, if_neg s1_1, if_pos s1_2]; done) | (simp only [opM, if_neg s1_0, if_neg s1_1, if_pos s1_2]; rfl) | rfl) (by first | with_reducible rfl | (simp only [opM, if_neg s1_0, if_neg s1_1, if_pos s1_2]; done) | (simp only [opM, if_neg s1_0, if_neg s1_1, if_pos s1_2]; rfl) | rfl)
      · by_cases s1_3 : op = 3
        · refine wp_tableIn (off := 74) (tgt := 75) dX12_operate_1 (by rw [s1_3]; decide) (by rw [s1_3]; decide) (by rw [s1_3]; rfl) (by decide) ?_
          refine wp_ald0 dX12_operate_75 ?_
          refine wp_ild2 dX12_operate_76 ?_
          refine wp_ild3 dX12_operate_77 ?_
          refine mi_2 dX12_operate_78 kX12_204 (cm_signal (d := d - 1) hG hM h hr (by omega)) hM rfl (by omega) (Nat.le_of_ble_eq_true rfl) (Nat.le_refl _) (Nat.le_refl _) ?_
          exact wp_iret dX12_operate_81 rfl (Nat.le_refl _) (Nat.le_refl _) (by first | with_reducible rfl | (simp only [opM, if_neg s1_0, if_neg s1_1, if_neg s1_2, if_pos s1_3]; done) | (simp only [opM, if_neg s1_0, if_neg s1_1, if_neg s1_2, if_pos s1_3]; rfl) | rfl) (by first | with_reducible rfl | (simp only [opM, if_neg s1_0, if_neg s1_1, if_neg s1_2, if_pos s1_3]; done) | (simp only [opM, if_neg s1_0, if_neg s1_1, if_neg s1_2, if_pos s1_3]; rfl) | rfl)
        · by_cases s1_4 : op = 4
          · refine wp_tableIn (off := 81) (tgt := 82) dX12_operate_1 (by rw [s1_4]; decide) (by rw [s1_4]; decide) (by rw [s1_4]; rfl) (by decide) ?_
            refine wp_ald0 dX12_operate_82 ?_
            refine wp_ild2 dX12_operate_83 ?_
            refine wp_ild3 dX12_operate_84 ?_
            refine mi_2 dX12_operate_85 kX12_207 (cm_signalAll (d := d - 1) hG hM h hr (by omega)) hM rfl (by omega) (Nat.le_of_ble_eq_true rfl) (Nat.le_refl _) (Nat.le_refl _) ?_
            exact wp_iret dX12_operate_88 rfl (Nat.le_refl _) (Nat.le_refl _) (by first | with_reducible rfl | (simp only [opM, if_neg s1_0, if_neg s1_1, if_neg s1_2, if_neg s1_3, if_pos s1_4]; done) | (simp only [opM, if_neg s1_0, if_neg s1_1, if_neg s1_2, if_neg s1_3, if_pos s1_4]; rfl) | rfl) (by first | with_reducible rfl | (simp only [opM, if_neg s1_0, if_neg s1_1, if_neg s1_2, if_neg s1_3, if_pos s1_4]; done) | (simp only [opM, if_neg s1_0, if_neg s1_1, if_neg s1_2, if_neg s1_3, if_pos s1_4]; rfl) | rfl)
          · by_cases s1_5 : op = 5
            · refine wp_tableIn (off := 88) (tgt := 89) dX12_operate_1 (by rw [s1_5]; decide) (by rw [s1_5]; decide) (by rw [s1_5]; rfl) (by decide) ?_
              refine wp_ald0 dX12_operate_89 ?_
              refine wp_ild2 dX12_operate_90 ?_
              refine mi_1 dX12_operate_91 kX12_210 (cm_interrupt (d := d - 1) hG hM h hr (by omega)) hM rfl (by omega) (Nat.le_of_ble_eq_true rfl) (Nat.le_refl _) (Nat.le_refl _) ?_
              exact wp_iret dX12_operate_94 rfl (Nat.le_refl _) (Nat.le_refl _) (by first | with_reducible rfl | (simp only [opM, if_neg s1_0, if_neg s1_1, if_neg s1_2, if_neg s1_3, if_neg s1_4, if_pos s1_5]; done) | (simp only [opM, if_neg s1_0, if_neg s1_1, if_neg s1_2, if_neg s1_3, if_neg s1_4, if_pos s1_5]; rfl) | rfl) (by first | with_reducible rfl | (simp only [opM, if_neg s1_0, if_neg s1_1, if_neg s1_2, if_neg s1_3, if_neg s1_4, if_pos s1_5]; done) | (simp only [opM, if_neg s1_0, if_neg s1_1, if_neg s1_2, if_neg s1_3, if_neg s1_4, if_pos s1_5]; rfl) | rfl)
            · by_cases s1_6 : op = 6
              · refine wp_tableIn (off := 94) (tgt := 95) dX12_operate_1 (by rw [s1_6]; decide) (by rw [s1_6]; decide) (by rw [s1_6]; rfl) (by decide) ?_
                refine wp_ald0 dX12_operate_95 ?_
                refine wp_ild2 dX12_operate_96 ?_
                refine mi_1 dX12_operate_97 kX12_213 (cm_die (d := d - 1) hG hM h hr (by omega)) hM rfl (by omega) (Nat.le_of_ble_eq_true rfl) (Nat.le_refl _) (Nat.le_refl _) ?_
                exact wp_iret dX12_operate_100 rfl (Nat.le_refl _) (Nat.le_refl _) (by first | with_reducible rfl | (simp only [opM, if_neg s1_0, if_neg s1_1, if_neg s1_2, if_neg s1_3, if_neg s1_4, if_neg s1_5, if_pos s1_6]; done) | (simp only [opM, if_neg s1_0, if_neg s1_1, if_neg s1_2, if_neg s1_3, if_neg s1_4, if_neg s1_5, if_pos s1_6]; rfl) | rfl) (by first | with_reducible rfl | (simp only [opM, if_neg s1_0, if_neg s1_1, if_neg s1_2, if_neg s1_3, if_neg s1_4, if_neg s1_5, if_pos s1_6]; done) | (simp only [opM, if_neg s1_0, if_neg s1_1, if_neg s1_2, if_neg s1_3, if_neg s1_4, if_neg s1_5, if_pos s1_6]; rfl) | rfl)
              · by_cases s1_7 : op = 7
                · refine wp_tableIn (off := 100) (tgt := 101) dX12_operate_1 (by rw [s1_7]; decide) (by rw [s1_7]; decide) (by rw [s1_7]; rfl) (by decide) ?_
                  refine wp_ald0 dX12_operate_101 ?_
                  refine wp_ild2 dX12_operate_102 ?_
                  refine mi_1 dX12_operate_103 kX12_216 (cm_start (d := d - 1) hG hM h hr (by omega)) hM rfl (by omega) (Nat.le_of_ble_eq_true rfl) (Nat.le_refl _) (Nat.le_refl _) ?_
                  exact wp_iret dX12_operate_106 rfl (Nat.le_refl _) (Nat.le_refl _) (by first | with_reducible rfl | (simp only [opM, if_neg s1_0, if_neg s1_1, if_neg s1_2, if_neg s1_3, if_neg s1_4, if_neg s1_5, if_neg s1_6, if_pos s1_7]; done) | (simp only [opM, if_neg s1_0, if_neg s1_1, if_neg s1_2, if_neg s1_3, if_neg s1_4, if_neg s1_5, if_neg s1_6, if_pos s1_7]; rfl) | rfl) (by first | with_reducible rfl | (simp only [opM, if_neg s1_0, if_neg s1_1, if_neg s1_2, if_neg s1_3, if_neg s1_4, if_neg s1_5, if_neg s1_6, if_pos s1_7]; done) | (simp only [opM, if_neg s1_0, if_neg s1_1, if_neg s1_2, if_neg s1_3, if_neg s1_4, if_neg s1_5, if_neg s1_6, if_pos s1_7]; rfl) | rfl)
                · by_cases s1_8 : op = 8
                  · refine wp_tableIn (off := 106) (tgt := 107) dX12_operate_1 (by rw [s1_8]; decide) (by rw [s1_8]; decide) (by rw [s1_8]; rfl) (by decide) ?_
                    refine wp_ald0 dX12_operate_107 ?_
                    refine wp_ild2 dX12_operate_108 ?_
                    refine mi_1 dX12_operate_109 kX12_219 (cm_hash (d := d - 1) hG hM h hr (by omega)) hM rfl (by omega) (Nat.le_of_ble_eq_true rfl) (Nat.le_refl _) (Nat.le_refl _) ?_
                    exact wp_iret dX12_operate_112 rfl (Nat.le_refl _) (Nat.le_refl _) (by first | with_reducible rfl | (simp only [opM, if_neg s1_0, if_neg s1_1, if_neg s1_2, if_neg s1_3, if_neg s1_4, if_neg s1_5, if_neg s1_6, if_neg s1_7, if_pos s1_8]; done) | (simp only [opM, if_neg s1_0, if_neg s1_1, if_neg s1_2, if_neg s1_3, if_neg s1_4, if_neg s1_5, if_neg s1_6, if_neg s1_7, if_pos s1_8]; rfl) | rfl) (by first | with_reducible rfl | (simp only [opM, if_neg s1_0, if_neg s1_1, if_neg s1_2, if_neg s1_3, if_neg s1_4, if_neg s1_5, if_neg s1_6, if_neg s1_7, if_pos s1_8]; done) | (simp only [opM, if_neg s1_0, if_neg s1_1, if_neg s1_2, if_neg s1_3, if_neg s1_4, if_neg s1_5, if_neg s1_6, if_neg s1_7, if_pos s1_8]; rfl) | rfl)
                  · refine wp_tableOut (tgt := 113) dX12_operate_1 (sw9 s1_0 s1_1 s1_2 s1_3 s1_4 s1_5 s1_6 s1_7 s1_8) (by decide) ?_
                    refine wp_ald0 dX12_operate_113 ?_
                    refine wp_ild2 dX12_operate_114 ?_
                    refine mi_1 dX12_operate_115 kX12_222 (cm_tick (d := d - 1) hG hM h hr (by omega)) hM rfl (by omega) (Nat.le_of_ble_eq_true rfl) (Nat.le_refl _) (Nat.le_refl _) ?_
                    exact wp_iret dX12_operate_118 rfl (Nat.le_refl _) (Nat.le_refl _) (by first | with_reducible rfl | (simp only [opM, if_neg s1_0, if_neg s1_1, if_neg s1_2, if_neg s1_3, if_neg s1_4, if_neg s1_5, if_neg s1_6, if_neg s1_7, if_neg s1_8]; done) | (simp only [opM, if_neg s1_0, if_neg s1_1, if_neg s1_2, if_neg s1_3, if_neg s1_4, if_neg s1_5, if_neg s1_6, if_neg s1_7, if_neg s1_8]; rfl) | rfl) (by first | with_reducible rfl | (simp only [opM, if_neg s1_0, if_neg s1_1, if_neg s1_2, if_neg s1_3, if_neg s1_4, if_neg s1_5, if_neg s1_6, if_neg s1_7, if_neg s1_8]; done) | (simp only [opM, if_neg s1_0, if_neg s1_1, if_neg s1_2, if_neg s1_3, if_neg s1_4, if_neg s1_5, if_neg s1_6, if_neg s1_7, if_neg s1_8]; rfl) | rfl)

