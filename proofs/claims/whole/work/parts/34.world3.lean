abbrev enmP (C : Nat → Int32) (x : Int32) (o : Nat) : Prop := ¬ C (62 + o) ≤ 0 ∧ ¬ C (46 + o) = 4 ∧ (¬ C (54 + o) = x ∨ (C (46 + o) = 3 ∧ ¬ C (62 + o) < valF C 4))
set_option maxHeartbeats 1000000 in
theorem ct_entryNeedsMonitor {G : GG} {B : Nat} {C : Nat → Int32} {E0 : Nat → va_E} {L : List Nat} {sz d : Nat} {o : Nat} {x : Int32} (hG : GOK G) (hL : rIn (wR G B) L) (ho : o < 8) (hdp : 1 ≤ d) : Ct G d yX10_entryNeedsMonitor iX10_entryNeedsMonitor [.ref B, .int x, .ref (aLk B o)] (Wm G B C E0 L sz) 0 0 (some (.int (bI (enmP C x o)))) (Wm G B (C) E0 L sz) := by
  refine Ct.of 0 (by decide) rfl (by decide) (Nat.le_of_ble_eq_true rfl) ?_
  show WP _ _ _ _ _ _ _ 0 [some (.ref B), some (.int x), some (.ref (aLk B o))] [] _ 0 0
  refine wp_ald2 dX10_entryNeedsMonitor_0 ?_
  refine vi_Lock0 dX10_entryNeedsMonitor_1 kX10_169 (ct_isHeld (d := d - 1) hG hL (by assumption)) hL (by assumption) rfl (by omega) (Nat.le_of_ble_eq_true rfl) (Nat.le_refl _) (Nat.le_refl _) ?_
  refine wp_ifB_eq (tgt := 15) dX10_entryNeedsMonitor_4 (by decide) (fun c_4 => ?_) (fun c_4 => ?_)
  · refine wp_iconst (v := 0) dX10_entryNeedsMonitor_15 (by decide) ?_
    exact wp_zret dX10_entryNeedsMonitor_16 rfl rfl (Nat.le_refl _) (Nat.le_refl _) (by first | rfl | (simp [bI, enmP, c_4]; done) | (simp_all [bI, isO, hasT, enmP]; done)) (by first | rfl | (simp [bI, enmP, c_4]; done) | (simp_all [bI, isO, hasT, enmP]; done))
  · refine wp_ald2 dX10_entryNeedsMonitor_7 ?_
    refine g_Lock_state dX10_entryNeedsMonitor_8 fX10_152 hL (by assumption) ?_
    refine wp_iconst (v := 4) dX10_entryNeedsMonitor_11 (by decide) ?_
    refine wp_icmp_ne (tgt := 17) dX10_entryNeedsMonitor_12 (by decide) (fun c_12 => ?_) (fun c_12 => ?_)
    · refine wp_ald2 dX10_entryNeedsMonitor_17 ?_
      refine g_Lock_holder dX10_entryNeedsMonitor_18 fX10_184 hL (by assumption) ?_
      refine wp_ild1 dX10_entryNeedsMonitor_21 ?_
      refine wp_icmp_eq (tgt := 27) dX10_entryNeedsMonitor_22 (by decide) (fun c_22 => ?_) (fun c_22 => ?_)
      · refine wp_ald2 dX10_entryNeedsMonitor_27 ?_
        refine g_Lock_state dX10_entryNeedsMonitor_28 fX10_152 hL (by assumption) ?_
        refine wp_iconst (v := 3) dX10_entryNeedsMonitor_31 (by decide) ?_
        refine wp_icmp_ne (tgt := 54) dX10_entryNeedsMonitor_32 (by decide) (fun c_32 => ?_) (fun c_32 => ?_)
        · refine wp_iconst (v := 0) dX10_entryNeedsMonitor_54 (by decide) ?_
          exact wp_zret dX10_entryNeedsMonitor_55 rfl rfl (Nat.le_refl _) (Nat.le_refl _) (by first | rfl | (simp [bI, enmP, c_4, c_12, c_22, c_32]; done) | (simp_all [bI, isO, hasT, enmP]; done)) (by first | rfl | (simp [bI, enmP, c_4, c_12, c_22, c_32]; done) | (simp_all [bI, isO, hasT, enmP]; done))
        · refine wp_ald2 dX10_entryNeedsMonitor_35 ?_
          refine g_Lock_entries dX10_entryNeedsMonitor_36 fX10_166 hL (by assumption) ?_
          refine wp_ald0 dX10_entryNeedsMonitor_39 ?_
          refine g_World_settings dX10_entryNeedsMonitor_40 fX10_12 hL ?_
          refine wp_iconst (v := 4) dX10_entryNeedsMonitor_43 (by decide) ?_
          refine vi_Settings1 dX10_entryNeedsMonitor_44 kX10_69 (ct_valueOf (d := d - 1) hG hL) hL rfl (by omega) (Nat.le_of_ble_eq_true rfl) (Nat.le_refl _) (Nat.le_refl _) ?_
          refine wp_icmp_lt (tgt := 54) dX10_entryNeedsMonitor_47 (by decide) (fun c_47 => ?_) (fun c_47 => ?_)
          · refine wp_iconst (v := 0) dX10_entryNeedsMonitor_54 (by decide) ?_
            exact wp_zret dX10_entryNeedsMonitor_55 rfl rfl (Nat.le_refl _) (Nat.le_refl _) (by first | rfl | (simp [bI, enmP, c_4, c_12, c_22, c_32, c_47]; done) | (simp_all [bI, isO, hasT, enmP]; done)) (by first | rfl | (simp [bI, enmP, c_4, c_12, c_22, c_32, c_47]; done) | (simp_all [bI, isO, hasT, enmP]; done))
          · refine wp_iconst (v := 1) dX10_entryNeedsMonitor_50 (by decide) ?_
            refine wp_goto (tgt := 55) dX10_entryNeedsMonitor_51 (by decide) ?_
            exact wp_zret dX10_entryNeedsMonitor_55 rfl rfl (Nat.le_refl _) (Nat.le_refl _) (by first | rfl | (simp [bI, enmP, c_4, c_12, c_22, c_32, c_47]; done) | (simp_all [bI, isO, hasT, enmP]; done)) (by first | rfl | (simp [bI, enmP, c_4, c_12, c_22, c_32, c_47]; done) | (simp_all [bI, isO, hasT, enmP]; done))
      · refine wp_iconst (v := 1) dX10_entryNeedsMonitor_25 (by decide) ?_
        exact wp_zret dX10_entryNeedsMonitor_26 rfl rfl (Nat.le_refl _) (Nat.le_refl _) (by first | rfl | (simp [bI, enmP, c_4, c_12, c_22]; done) | (simp_all [bI, isO, hasT, enmP]; done)) (by first | rfl | (simp [bI, enmP, c_4, c_12, c_22]; done) | (simp_all [bI, isO, hasT, enmP]; done))
    · refine wp_iconst (v := 0) dX10_entryNeedsMonitor_15 (by decide) ?_
      exact wp_zret dX10_entryNeedsMonitor_16 rfl rfl (Nat.le_refl _) (Nat.le_refl _) (by first | rfl | (simp [bI, enmP, c_4, c_12]; done) | (simp_all [bI, isO, hasT, enmP]; done)) (by first | rfl | (simp [bI, enmP, c_4, c_12]; done) | (simp_all [bI, isO, hasT, enmP]; done))

def tkb2 (C : Nat → Int32) (x : Int32) (o : Nat) : Nat → Int32 := upd (upd (upd (upd C (46 + o) 2) (70 + o) x) (78 + o) (upd (upd C (46 + o) 2) (70 + o) x (222 + o % 3))) (231 + 0) (upd (upd (upd C (46 + o) 2) (70 + o) x) (78 + o) (upd (upd C (46 + o) 2) (70 + o) x (222 + o % 3)) (231 + 0) + 1)
def tkbF (C : Nat → Int32) (x : Int32) (o : Nat) : Nat → Int32 := if giveF C o x 1 (46 + o) = 2 then (if giveF C o x 1 (70 + o) = x then (if bOK (giveF C o x 1) o then giveF C o x 1 else tkb2 (giveF C o x 1) x o) else tkb2 (giveF C o x 1) x o) else tkb2 (giveF C o x 1) x o
set_option maxHeartbeats 1000000 in
theorem ct_takeBiased {G : GG} {B : Nat} {C : Nat → Int32} {E0 : Nat → va_E} {L : List Nat} {sz d : Nat} {o : Nat} {x : Int32} (hG : GOK G) (hL : rIn (wR G B) L) (ho : o < 8) (hdp : 1 ≤ d) : Ct G d yX10_takeBiased iX10_takeBiased [.ref B, .int x, .ref (aLk B o)] (Wm G B C E0 L sz) 0 0 none (Wm G B (tkbF C x o) E0 L sz) := by
  have ho3 : o % 3 < 3 := Nat.mod_lt _ (by decide)
  refine Ct.of 0 (by decide) rfl (by decide) (Nat.le_of_ble_eq_true rfl) ?_
  show WP _ _ _ _ _ _ _ 0 [some (.ref B), some (.int x), some (.ref (aLk B o))] [] _ 0 0
  refine wp_ald2 dX10_takeBiased_0 ?_
  refine wp_ild1 dX10_takeBiased_1 ?_
  refine wp_iconst (v := 1) dX10_takeBiased_2 (by decide) ?_
  refine vv_Lock2 dX10_takeBiased_3 kX10_190 (ct_give (d := d - 1) hG hL ho) hL (by assumption) rfl (by omega) (Nat.le_of_ble_eq_true rfl) (Nat.le_refl _) (Nat.le_refl _) ?_
  refine wp_ald2 dX10_takeBiased_6 ?_
  refine g_Lock_state dX10_takeBiased_7 fX10_152 hL (by assumption) ?_
  refine wp_iconst (v := 2) dX10_takeBiased_10 (by decide) ?_
  refine wp_icmp_ne (tgt := 31) dX10_takeBiased_11 (by decide) (fun c_11 => ?_) (fun c_11 => ?_)
  · refine wp_ald2 dX10_takeBiased_31 ?_
    refine wp_iconst (v := 2) dX10_takeBiased_32 (by decide) ?_
    refine p_Lock_state dX10_takeBiased_33 pX10_152 hL (by assumption) ?_
    refine wp_ald2 dX10_takeBiased_36 ?_
    refine wp_ild1 dX10_takeBiased_37 ?_
    refine p_Lock_biasThread dX10_takeBiased_38 pX10_153 hL (by assumption) ?_
    refine wp_ald2 dX10_takeBiased_41 ?_
    refine wp_ald0 dX10_takeBiased_42 ?_
    refine g_World_kinds dX10_takeBiased_43 fX10_38 hL ?_
    refine wp_ald2 dX10_takeBiased_46 ?_
    refine g_Lock_kind dX10_takeBiased_47 fX10_203 hL (by assumption) ?_
    refine r_kinds (i' := (o % 3)) dX10_takeBiased_50 hG hL rfl (by first | assumption | omega) ?_
    refine g_Kind_epoch dX10_takeBiased_51 fX10_206 hL (by assumption) ?_
    refine p_Lock_epoch dX10_takeBiased_54 pX10_209 hL (by assumption) ?_
    refine wp_ald0 dX10_takeBiased_57 ?_
    refine g_World_counts dX10_takeBiased_58 fX10_20 hL ?_
    refine wp_iconst (v := 0) dX10_takeBiased_61 (by decide) ?_
    refine wp_dup2 dX10_takeBiased_62 rfl rfl ?_
    refine r_counts (i' := 0) dX10_takeBiased_63 hG hL (by decide) (by decide) ?_
    refine wp_iconst (v := 1) dX10_takeBiased_64 (by decide) ?_
    refine wp_iadd dX10_takeBiased_65 ?_
    refine s_counts (i' := 0) dX10_takeBiased_66 hG hL (by decide) (by decide) ?_
    exact wp_vret dX10_takeBiased_67 rfl (Nat.le_refl _) (Nat.le_refl _) (by first | with_reducible rfl | (simp only [tkbF, tkb2, if_neg c_11]; done) | (simp only [tkbF, tkb2, if_neg c_11]; rfl) | rfl) (by first | with_reducible rfl | (simp only [tkbF, tkb2, if_neg c_11]; done) | (simp only [tkbF, tkb2, if_neg c_11]; rfl) | rfl)
  · refine wp_ald2 dX10_takeBiased_14 ?_
    refine g_Lock_biasThread dX10_takeBiased_15 fX10_153 hL (by assumption) ?_
    refine wp_ild1 dX10_takeBiased_18 ?_
    refine wp_icmp_ne (tgt := 31) dX10_takeBiased_19 (by decide) (fun c_19 => ?_) (fun c_19 => ?_)
    · refine wp_ald2 dX10_takeBiased_31 ?_
      refine wp_iconst (v := 2) dX10_takeBiased_32 (by decide) ?_
      refine p_Lock_state dX10_takeBiased_33 pX10_152 hL (by assumption) ?_
      refine wp_ald2 dX10_takeBiased_36 ?_
      refine wp_ild1 dX10_takeBiased_37 ?_
      refine p_Lock_biasThread dX10_takeBiased_38 pX10_153 hL (by assumption) ?_
      refine wp_ald2 dX10_takeBiased_41 ?_
      refine wp_ald0 dX10_takeBiased_42 ?_
      refine g_World_kinds dX10_takeBiased_43 fX10_38 hL ?_
      refine wp_ald2 dX10_takeBiased_46 ?_
      refine g_Lock_kind dX10_takeBiased_47 fX10_203 hL (by assumption) ?_
      refine r_kinds (i' := (o % 3)) dX10_takeBiased_50 hG hL rfl (by first | assumption | omega) ?_
      refine g_Kind_epoch dX10_takeBiased_51 fX10_206 hL (by assumption) ?_
      refine p_Lock_epoch dX10_takeBiased_54 pX10_209 hL (by assumption) ?_
      refine wp_ald0 dX10_takeBiased_57 ?_
      refine g_World_counts dX10_takeBiased_58 fX10_20 hL ?_
      refine wp_iconst (v := 0) dX10_takeBiased_61 (by decide) ?_
      refine wp_dup2 dX10_takeBiased_62 rfl rfl ?_
      refine r_counts (i' := 0) dX10_takeBiased_63 hG hL (by decide) (by decide) ?_
      refine wp_iconst (v := 1) dX10_takeBiased_64 (by decide) ?_
      refine wp_iadd dX10_takeBiased_65 ?_
      refine s_counts (i' := 0) dX10_takeBiased_66 hG hL (by decide) (by decide) ?_
      exact wp_vret dX10_takeBiased_67 rfl (Nat.le_refl _) (Nat.le_refl _) (by first | with_reducible rfl | (simp only [tkbF, tkb2, if_pos c_11, if_neg c_19]; done) | (simp only [tkbF, tkb2, if_pos c_11, if_neg c_19]; rfl) | rfl) (by first | with_reducible rfl | (simp only [tkbF, tkb2, if_pos c_11, if_neg c_19]; done) | (simp only [tkbF, tkb2, if_pos c_11, if_neg c_19]; rfl) | rfl)
    · refine wp_ald0 dX10_takeBiased_22 ?_
      refine wp_ald2 dX10_takeBiased_23 ?_
      refine vi_World1 dX10_takeBiased_24 kX10_156 (ct_biasIsValid (d := d - 1) hG hL ho) hL rfl (by omega) (Nat.le_of_ble_eq_true rfl) (Nat.le_refl _) (Nat.le_refl _) ?_
      refine wp_ifB_eq (tgt := 31) dX10_takeBiased_27 (by decide) (fun c_27 => ?_) (fun c_27 => ?_)
      · refine wp_ald2 dX10_takeBiased_31 ?_
        refine wp_iconst (v := 2) dX10_takeBiased_32 (by decide) ?_
        refine p_Lock_state dX10_takeBiased_33 pX10_152 hL (by assumption) ?_
        refine wp_ald2 dX10_takeBiased_36 ?_
        refine wp_ild1 dX10_takeBiased_37 ?_
        refine p_Lock_biasThread dX10_takeBiased_38 pX10_153 hL (by assumption) ?_
        refine wp_ald2 dX10_takeBiased_41 ?_
        refine wp_ald0 dX10_takeBiased_42 ?_
        refine g_World_kinds dX10_takeBiased_43 fX10_38 hL ?_
        refine wp_ald2 dX10_takeBiased_46 ?_
        refine g_Lock_kind dX10_takeBiased_47 fX10_203 hL (by assumption) ?_
        refine r_kinds (i' := (o % 3)) dX10_takeBiased_50 hG hL rfl (by first | assumption | omega) ?_
        refine g_Kind_epoch dX10_takeBiased_51 fX10_206 hL (by assumption) ?_
        refine p_Lock_epoch dX10_takeBiased_54 pX10_209 hL (by assumption) ?_
        refine wp_ald0 dX10_takeBiased_57 ?_
        refine g_World_counts dX10_takeBiased_58 fX10_20 hL ?_
        refine wp_iconst (v := 0) dX10_takeBiased_61 (by decide) ?_
        refine wp_dup2 dX10_takeBiased_62 rfl rfl ?_
        refine r_counts (i' := 0) dX10_takeBiased_63 hG hL (by decide) (by decide) ?_
        refine wp_iconst (v := 1) dX10_takeBiased_64 (by decide) ?_
        refine wp_iadd dX10_takeBiased_65 ?_
        refine s_counts (i' := 0) dX10_takeBiased_66 hG hL (by decide) (by decide) ?_
        exact wp_vret dX10_takeBiased_67 rfl (Nat.le_refl _) (Nat.le_refl _) (by first | with_reducible rfl | (simp only [tkbF, tkb2, if_pos c_11, if_pos c_19, if_neg c_27]; done) | (simp only [tkbF, tkb2, if_pos c_11, if_pos c_19, if_neg c_27]; rfl) | rfl) (by first | with_reducible rfl | (simp only [tkbF, tkb2, if_pos c_11, if_pos c_19, if_neg c_27]; done) | (simp only [tkbF, tkb2, if_pos c_11, if_pos c_19, if_neg c_27]; rfl) | rfl)
      · exact wp_vret dX10_takeBiased_30 rfl (Nat.le_refl _) (Nat.le_refl _) (by first | with_reducible rfl | (simp only [tkbF, tkb2, if_pos c_11, if_pos c_19, if_pos c_27]; done) | (simp only [tkbF, tkb2, if_pos c_11, if_pos c_19, if_pos c_27]; rfl) | rfl) (by first | with_reducible rfl | (simp only [tkbF, tkb2, if_pos c_11, if_pos c_19, if_pos c_27]; done) | (simp only [tkbF, tkb2, if_pos c_11, if_pos c_19, if_pos c_27]; rfl) | rfl)

def takeF (C : Nat → Int32) (x : Int32) (o : Nat) : Int32 × (Nat → Int32) := if C (46 + o) = 0 then (2, upd (giveF (upd C (46 + o) 3) o x 1) (231 + 0) (giveF (upd C (46 + o) 3) o x 1 (231 + 0) + 1)) else if C (46 + o) = 1 then (1, tkbF C x o) else if C (46 + o) = 2 then (1, tkbF C x o) else (3, if upd (giveF C o x 1) (231 + 0) (giveF C o x 1 (231 + 0) + 1) (110 + o) = 0 then upd (giveF C o x 1) (231 + 0) (giveF C o x 1 (231 + 0) + 1) else upd (upd (giveF C o x 1) (231 + 0) (giveF C o x 1 (231 + 0) + 1)) (231 + 7) (upd (giveF C o x 1) (231 + 0) (giveF C o x 1 (231 + 0) + 1) (231 + 7) + 1))
set_option maxHeartbeats 1000000 in
theorem ct_take {G : GG} {B : Nat} {C : Nat → Int32} {E0 : Nat → va_E} {L : List Nat} {sz d : Nat} {o : Nat} {x : Int32} (hG : GOK G) (hL : rIn (wR G B) L) (ho : o < 8) (hdp : 2 ≤ d) : Ct G d yX10_take iX10_take [.ref B, .int x, .ref (aLk B o)] (Wm G B C E0 L sz) 0 0 (some (.int (takeF C x o).1)) (Wm G B ((takeF C x o).2) E0 L sz) := by
  refine Ct.of 0 (by decide) rfl (by decide) (Nat.le_of_ble_eq_true rfl) ?_
  show WP _ _ _ _ _ _ _ 0 [some (.ref B), some (.int x), some (.ref (aLk B o))] [] _ 0 0
  refine wp_ald2 dX10_take_0 ?_
  refine g_Lock_state dX10_take_1 fX10_152 hL (by assumption) ?_
  by_cases s4_0 : C (46 + o) = 0
  · refine wp_tableIn (off := 36) (tgt := 40) dX10_take_4 (by rw [s4_0]; decide) (by rw [s4_0]; decide) (by rw [s4_0]; rfl) (by decide) ?_
    refine wp_ald2 dX10_take_40 ?_
    refine wp_iconst (v := 3) dX10_take_41 (by decide) ?_
    refine p_Lock_state dX10_take_42 pX10_152 hL (by assumption) ?_
    refine wp_ald2 dX10_take_45 ?_
    refine wp_ild1 dX10_take_46 ?_
    refine wp_iconst (v := 1) dX10_take_47 (by decide) ?_
    refine vv_Lock2 dX10_take_48 kX10_190 (ct_give (d := d - 1) hG hL ho) hL (by assumption) rfl (by omega) (Nat.le_of_ble_eq_true rfl) (Nat.le_refl _) (Nat.le_refl _) ?_
    refine wp_ald0 dX10_take_51 ?_
    refine g_World_counts dX10_take_52 fX10_20 hL ?_
    refine wp_iconst (v := 0) dX10_take_55 (by decide) ?_
    refine wp_dup2 dX10_take_56 rfl rfl ?_
    refine r_counts (i' := 0) dX10_take_57 hG hL (by decide) (by decide) ?_
    refine wp_iconst (v := 1) dX10_take_58 (by decide) ?_
    refine wp_iadd dX10_take_59 ?_
    refine s_counts (i' := 0) dX10_take_60 hG hL (by decide) (by decide) ?_
    refine wp_iconst (v := 2) dX10_take_61 (by decide) ?_
    exact wp_iret dX10_take_62 rfl (Nat.le_refl _) (Nat.le_refl _) (by first | with_reducible rfl | (simp only [takeF, if_pos s4_0]; done) | (simp only [takeF, if_pos s4_0]; rfl) | rfl) (by first | with_reducible rfl | (simp only [takeF, if_pos s4_0]; done) | (simp only [takeF, if_pos s4_0]; rfl) | rfl)
  · by_cases s4_1 : C (46 + o) = 1
    · refine wp_tableIn (off := 28) (tgt := 32) dX10_take_4 (by rw [s4_1]; decide) (by rw [s4_1]; decide) (by rw [s4_1]; rfl) (by decide) ?_
      refine wp_ald0 dX10_take_32 ?_
      refine wp_ild1 dX10_take_33 ?_
      refine wp_ald2 dX10_take_34 ?_
      refine vv_World2 dX10_take_35 kX10_187 (ct_takeBiased (d := d - 1) hG hL ho (by omega)) hL rfl (by omega) (Nat.le_of_ble_eq_true rfl) (Nat.le_refl _) (Nat.le_refl _) ?_
      refine wp_iconst (v := 1) dX10_take_38 (by decide) ?_
      exact wp_iret dX10_take_39 rfl (Nat.le_refl _) (Nat.le_refl _) (by first | with_reducible rfl | (simp only [takeF, if_neg s4_0, if_pos s4_1]; done) | (simp only [takeF, if_neg s4_0, if_pos s4_1]; rfl) | rfl) (by first | with_reducible rfl | (simp only [takeF, if_neg s4_0, if_pos s4_1]; done) | (simp only [takeF, if_neg s4_0, if_pos s4_1]; rfl) | rfl)
    · by_cases s4_2 : C (46 + o) = 2
      · refine wp_tableIn (off := 28) (tgt := 32) dX10_take_4 (by rw [s4_2]; decide) (by rw [s4_2]; decide) (by rw [s4_2]; rfl) (by decide) ?_
        refine wp_ald0 dX10_take_32 ?_
        refine wp_ild1 dX10_take_33 ?_
        refine wp_ald2 dX10_take_34 ?_
        refine vv_World2 dX10_take_35 kX10_187 (ct_takeBiased (d := d - 1) hG hL ho (by omega)) hL rfl (by omega) (Nat.le_of_ble_eq_true rfl) (Nat.le_refl _) (Nat.le_refl _) ?_
        refine wp_iconst (v := 1) dX10_take_38 (by decide) ?_
        exact wp_iret dX10_take_39 rfl (Nat.le_refl _) (Nat.le_refl _) (by first | with_reducible rfl | (simp only [takeF, if_neg s4_0, if_neg s4_1, if_pos s4_2]; done) | (simp only [takeF, if_neg s4_0, if_neg s4_1, if_pos s4_2]; rfl) | rfl) (by first | with_reducible rfl | (simp only [takeF, if_neg s4_0, if_neg s4_1, if_pos s4_2]; done) | (simp only [takeF, if_neg s4_0, if_neg s4_1, if_pos s4_2]; rfl) | rfl)
      · refine wp_tableOut (tgt := 63) dX10_take_4 (sw3 s4_0 s4_1 s4_2) (by decide) ?_
        refine wp_ald2 dX10_take_63 ?_
        refine wp_ild1 dX10_take_64 ?_
        refine wp_iconst (v := 1) dX10_take_65 (by decide) ?_
        refine vv_Lock2 dX10_take_66 kX10_190 (ct_give (d := d - 1) hG hL ho) hL (by assumption) rfl (by omega) (Nat.le_of_ble_eq_true rfl) (Nat.le_refl _) (Nat.le_refl _) ?_
        refine wp_ald0 dX10_take_69 ?_
        refine g_World_counts dX10_take_70 fX10_20 hL ?_
        refine wp_iconst (v := 0) dX10_take_73 (by decide) ?_
        refine wp_dup2 dX10_take_74 rfl rfl ?_
        refine r_counts (i' := 0) dX10_take_75 hG hL (by decide) (by decide) ?_
        refine wp_iconst (v := 1) dX10_take_76 (by decide) ?_
        refine wp_iadd dX10_take_77 ?_
        refine s_counts (i' := 0) dX10_take_78 hG hL (by decide) (by decide) ?_
        refine wp_ald2 dX10_take_79 ?_
        refine g_Lock_queue dX10_take_80 fX10_194 hL (by assumption) ?_
        refine vi_Line0 (j := 14 + 5 * o) dX10_take_83 kX10_198 (ct_isEmpty (d := d - 1) hG hL (LNq ho)) hL (LNq (by assumption)) rfl (by omega) (Nat.le_of_ble_eq_true rfl) (Nat.le_refl _) (Nat.le_refl _) ?_
        refine wp_ifB_ne (tgt := 100) dX10_take_86 (by decide) (fun c_86 => ?_) (fun c_86 => ?_)
        · refine wp_iconst (v := 3) dX10_take_100 (by decide) ?_
          exact wp_iret dX10_take_101 rfl (Nat.le_refl _) (Nat.le_refl _) (by first | with_reducible rfl | (simp only [takeF, if_neg s4_0, if_neg s4_1, if_neg s4_2, if_pos c_86]; done) | (simp only [takeF, if_neg s4_0, if_neg s4_1, if_neg s4_2, if_pos c_86]; rfl) | rfl) (by first | with_reducible rfl | (simp only [takeF, if_neg s4_0, if_neg s4_1, if_neg s4_2, if_pos c_86]; done) | (simp only [takeF, if_neg s4_0, if_neg s4_1, if_neg s4_2, if_pos c_86]; rfl) | rfl)
        · refine wp_ald0 dX10_take_89 ?_
          refine g_World_counts dX10_take_90 fX10_20 hL ?_
          refine wp_bipush (v := 7) dX10_take_93 (by decide) ?_
          refine wp_dup2 dX10_take_95 rfl rfl ?_
          refine r_counts (i' := 7) dX10_take_96 hG hL (by decide) (by decide) ?_
          refine wp_iconst (v := 1) dX10_take_97 (by decide) ?_
          refine wp_iadd dX10_take_98 ?_
          refine s_counts (i' := 7) dX10_take_99 hG hL (by decide) (by decide) ?_
          refine wp_iconst (v := 3) dX10_take_100 (by decide) ?_
          exact wp_iret dX10_take_101 rfl (Nat.le_refl _) (Nat.le_refl _) (by first | with_reducible rfl | (simp only [takeF, if_neg s4_0, if_neg s4_1, if_neg s4_2, if_neg c_86]; done) | (simp only [takeF, if_neg s4_0, if_neg s4_1, if_neg s4_2, if_neg c_86]; rfl) | rfl) (by first | with_reducible rfl | (simp only [takeF, if_neg s4_0, if_neg s4_1, if_neg s4_2, if_neg c_86]; done) | (simp only [takeF, if_neg s4_0, if_neg s4_1, if_neg s4_2, if_neg c_86]; rfl) | rfl)

def blkF (C : Nat → Int32) (x : Int32) (o : Nat) : Nat → Int32 := upd (upd (upd (upd (appF C (110 + o) (126 + 6 * o) x) (10 + nt x) 1) (28 + nt x) (nI o)) (40 + nt x) 1) (231 + 4) (upd (upd (upd (appF C (110 + o) (126 + 6 * o) x) (10 + nt x) 1) (28 + nt x) (nI o)) (40 + nt x) 1 (231 + 4) + 1)
set_option maxHeartbeats 1000000 in
theorem ct_block {G : GG} {B : Nat} {C : Nat → Int32} {E0 : Nat → va_E} {L : List Nat} {sz d : Nat} {o : Nat} {x : Int32} (hG : GOK G) (hL : rIn (wR G B) L) (ho : o < 8) (hx : x = nI (nt x)) (hxb : nt x < 6) (hs : OKs C (110 + o)) (hdp : 1 ≤ d) : Ct G d yX10_block iX10_block [.ref B, .int x, .ref (aLk B o)] (Wm G B C E0 L sz) 0 0 none (Wm G B (blkF C x o) E0 L sz) := by
  refine Ct.of 1 (by decide) rfl (by decide) (Nat.le_of_ble_eq_true rfl) ?_
  show WP _ _ _ _ _ _ _ 0 [some (.ref B), some (.int x), some (.ref (aLk B o)), none] [] _ 0 0
  refine wp_ald2 dX10_block_0 ?_
  refine g_Lock_queue dX10_block_1 fX10_194 hL (by assumption) ?_
  refine wp_ild1 dX10_block_4 ?_
  refine vv_Line1 (j := 14 + 5 * o) dX10_block_5 kX10_210 (ct_append (d := d - 1) hG hL (LNq ho) hs) hL (LNq (by assumption)) rfl (by omega) (Nat.le_of_ble_eq_true rfl) (Nat.le_refl _) (Nat.le_refl _) ?_
  refine wp_ald0 dX10_block_8 ?_
  refine g_World_strands dX10_block_9 fX10_26 hL ?_
  refine wp_ild1 dX10_block_12 ?_
  refine r_strands (i' := nt x) dX10_block_13 hG hL hx (by first | assumption | omega) ?_
  refine wp_ast3 dX10_block_14 (by decide) rfl ?_
  refine wp_ald3 dX10_block_15 ?_
  refine wp_iconst (v := 1) dX10_block_16 (by decide) ?_
  refine p_Strand_state dX10_block_17 pX10_135 hL (by assumption) ?_
  refine wp_ald3 dX10_block_20 ?_
  refine wp_ald2 dX10_block_21 ?_
  refine g_Lock_number dX10_block_22 fX10_213 hL (by assumption) ?_
  refine p_Strand_place dX10_block_25 pX10_216 hL (by assumption) ?_
  refine wp_ald3 dX10_block_28 ?_
  refine wp_iconst (v := 1) dX10_block_29 (by decide) ?_
  refine p_Strand_dueEntries dX10_block_30 pX10_219 hL (by assumption) ?_
  refine wp_ald0 dX10_block_33 ?_
  refine g_World_counts dX10_block_34 fX10_20 hL ?_
  refine wp_iconst (v := 4) dX10_block_37 (by decide) ?_
  refine wp_dup2 dX10_block_38 rfl rfl ?_
  refine r_counts (i' := 4) dX10_block_39 hG hL (by decide) (by decide) ?_
  refine wp_iconst (v := 1) dX10_block_40 (by decide) ?_
  refine wp_iadd dX10_block_41 ?_
  refine s_counts (i' := 4) dX10_block_42 hG hL (by decide) (by decide) ?_
  exact wp_vret dX10_block_43 rfl (Nat.le_refl _) (Nat.le_refl _) (by first | with_reducible rfl | (simp only [blkF]; done) | (simp only [blkF]; rfl) | rfl) (by first | with_reducible rfl | (simp only [blkF]; done) | (simp only [blkF]; rfl) | rfl)

theorem nI_3 (k : Nat) : nI k + Int32.ofInt 3 = nI (k + 3) := by
  rw [nI_succ, nI_succ, nI_succ, Int32.add_assoc, Int32.add_assoc]
  rfl
def ebS (C : Nat → Int32) (k : Nat) : Nat → Int32 := if C (46 + k) = 1 then loseF C k else if C (46 + k) = 2 then loseF C k else C
def ebL : Nat → Nat → (Nat → Int32) → (Nat → Int32)
  | 0, _, C => C
  | n + 1, k, C => if 8 ≤ k then C else ebL n (k + 3) (ebS C k)
theorem ebL_done : ∀ (n k : Nat) (C : Nat → Int32), 8 ≤ k → ebL n k C = C
  | 0, _, _, _ => rfl
  | n + 1, k, C, h => by show (if 8 ≤ k then C else _) = C; rw [if_pos h]
def endbF (C : Nat → Int32) (c : Nat) : Nat → Int32 := ebL 3 c (upd C (228 + c) 0)
theorem SameS.lose {C : Nat → Int32} {o : Nat} (ho : o < 8) : SameS C (loseF C o) := SameS.rf.up (by omega)
theorem SameS.ebS {C : Nat → Int32} {o : Nat} (ho : o < 8) : SameS C (ebS C o) := by
  show SameS C (if C (46 + o) = 1 then loseF C o else if C (46 + o) = 2 then loseF C o else C)
  split
  · exact SameS.lose ho
  · split
    · exact SameS.lose ho
    · exact SameS.rf
theorem SameS.ebL : ∀ (n k : Nat) (C : Nat → Int32), SameS C (ebL n k C)
  | 0, _, _ => SameS.rf
  | n + 1, k, C => by
    show SameS C (if 8 ≤ k then C else _)
    split
    · exact SameS.rf
    · exact (SameS.ebS (by omega)).tr (SameS.ebL n (k + 3) _)
theorem SameS.endb {C : Nat → Int32} {c : Nat} (hc : c < 3) : SameS C (endbF C c) := (SameS.rf.up (by omega)).tr (SameS.ebL _ _ _)
set_option maxHeartbeats 1000000 in
theorem lp_endb {G : GG} {B : Nat} {E0 : Nat → va_E} {L : List Nat} {sz d : Nat} {c : Nat} (hG : GOK G) (hL : rIn (wR G B) L) (hc : c < 3) (hdp : 1 ≤ d) (n : Nat) : ∀ (k : Nat) (C : Nat → Int32), 8 ≤ k + 3 * n → k ≤ 20 → WP G iX10_endBiasing d 0 0 none (Wm G B (ebL n k C) E0 L sz) 12 [some (.ref B), some (.int (nI c)), some (.int (nI k)), none] [] (Wm G B C E0 L sz) 0 0 := by
  induction n with
  | zero =>
    intro k C hk hk2
    refine wp_ild2 dX10_endBiasing_12 ?_
    refine wp_bipush (v := 8) dX10_endBiasing_13 (by decide) ?_
    refine wp_icmp_ge (tgt := 51) dX10_endBiasing_15 (by decide) (fun c_15 => ?_) (fun c_15 => absurd (nI_le hk (by omega)) c_15)
    exact wp_vret dX10_endBiasing_51 rfl (Nat.le_refl _) (Nat.le_refl _) (by first | with_reducible rfl | (simp only [ebL]; done) | (simp only [ebL]; rfl) | rfl) (by first | with_reducible rfl | (simp only [ebL]; done) | (simp only [ebL]; rfl) | rfl)
  | succ n ih =>
    intro k C hk1 hk2
    refine wp_ild2 dX10_endBiasing_12 ?_
    refine wp_bipush (v := 8) dX10_endBiasing_13 (by decide) ?_
    by_cases hk : 8 ≤ k
    · refine wp_icmp_ge (tgt := 51) dX10_endBiasing_15 (by decide) (fun c_15 => ?_) (fun c_15 => absurd (nI_le hk (by omega)) c_15)
      exact wp_vret dX10_endBiasing_51 rfl (Nat.le_refl _) (Nat.le_refl _) (by first | with_reducible rfl | (simp only [ebL, if_pos hk]; done) | (simp only [ebL, if_pos hk]; rfl) | rfl) (by first | with_reducible rfl | (simp only [ebL, if_pos hk]; done) | (simp only [ebL, if_pos hk]; rfl) | rfl)
    · refine wp_icmp_ge (tgt := 51) dX10_endBiasing_15 (by decide) (fun c_15 => absurd c_15 (nI_ge (a := k) (b := 8) (by omega) (by decide))) (fun c_15 => ?_)
      have hk8 : k < 8 := by omega
      refine wp_ald0 dX10_endBiasing_18 ?_
      refine g_World_locks dX10_endBiasing_19 fX10_32 hL ?_
      refine wp_ild2 dX10_endBiasing_22 ?_
      refine r_locks (i' := k) dX10_endBiasing_23 hG hL rfl (by first | assumption | omega) ?_
      refine wp_ast3 dX10_endBiasing_24 (by decide) rfl ?_
      refine wp_ald3 dX10_endBiasing_25 ?_
      refine g_Lock_state dX10_endBiasing_26 fX10_152 hL (by assumption) ?_
      refine wp_iconst (v := 1) dX10_endBiasing_29 (by decide) ?_
      refine wp_icmp_eq (tgt := 41) dX10_endBiasing_30 (by decide) (fun c_30 => ?_) (fun c_30 => ?_)
      · refine wp_ald3 dX10_endBiasing_41 ?_
        refine vv_Lock0 dX10_endBiasing_42 kX10_235 (ct_loseBias (d := d - 1) hG hL (by assumption)) hL (by assumption) rfl (by omega) (Nat.le_of_ble_eq_true rfl) (Nat.le_refl _) (Nat.le_refl _) ?_
        refine wp_iinc2 dX10_endBiasing_45 (by decide) rfl ?_
        rw [nI_3 k]
        refine wp_goto (tgt := 12) dX10_endBiasing_48 (by decide) ?_
        have e : ebS C k = loseF C k := by simp only [ebS, if_pos c_30]
        simp only [ebL, if_neg hk]
        rw [e]
        exact WP.fg (by simp [lcle]) (ih (k + 3) (loseF C k) (by omega) (by omega))
      · refine wp_ald3 dX10_endBiasing_33 ?_
        refine g_Lock_state dX10_endBiasing_34 fX10_152 hL (by assumption) ?_
        refine wp_iconst (v := 2) dX10_endBiasing_37 (by decide) ?_
        refine wp_icmp_ne (tgt := 45) dX10_endBiasing_38 (by decide) (fun c_38 => ?_) (fun c_38 => ?_)
        · refine wp_iinc2 dX10_endBiasing_45 (by decide) rfl ?_
          rw [nI_3 k]
          refine wp_goto (tgt := 12) dX10_endBiasing_48 (by decide) ?_
          have e : ebS C k = C := by simp only [ebS, if_neg c_30, if_neg c_38]
          simp only [ebL, if_neg hk]
          rw [e]
          exact WP.fg (by simp [lcle]) (ih (k + 3) (C) (by omega) (by omega))
        · refine wp_ald3 dX10_endBiasing_41 ?_
          refine vv_Lock0 dX10_endBiasing_42 kX10_235 (ct_loseBias (d := d - 1) hG hL (by assumption)) hL (by assumption) rfl (by omega) (Nat.le_of_ble_eq_true rfl) (Nat.le_refl _) (Nat.le_refl _) ?_
          refine wp_iinc2 dX10_endBiasing_45 (by decide) rfl ?_
          rw [nI_3 k]
          refine wp_goto (tgt := 12) dX10_endBiasing_48 (by decide) ?_
          have e : ebS C k = loseF C k := by simp only [ebS, if_neg c_30, if_pos c_38]
          simp only [ebL, if_neg hk]
          rw [e]
          exact WP.fg (by simp [lcle]) (ih (k + 3) (loseF C k) (by omega) (by omega))
set_option maxHeartbeats 1000000 in
theorem ct_endBiasing {G : GG} {B : Nat} {C : Nat → Int32} {E0 : Nat → va_E} {L : List Nat} {sz d : Nat} {c : Nat} (hG : GOK G) (hL : rIn (wR G B) L) (hc : c < 3) (hdp : 1 ≤ d) : Ct G d yX10_endBiasing iX10_endBiasing [.ref B, .int (nI c)] (Wm G B C E0 L sz) 0 0 none (Wm G B (endbF C c) E0 L sz) := by
  refine Ct.of 2 (by decide) rfl (by decide) (Nat.le_of_ble_eq_true rfl) ?_
  show WP _ _ _ _ _ _ _ 0 [some (.ref B), some (.int (nI c)), none, none] [] _ 0 0
  refine wp_ald0 dX10_endBiasing_0 ?_
  refine g_World_kinds dX10_endBiasing_1 fX10_38 hL ?_
  refine wp_ild1 dX10_endBiasing_4 ?_
  refine r_kinds (i' := c) dX10_endBiasing_5 hG hL rfl (by first | assumption | omega) ?_
  refine wp_iconst (v := 0) dX10_endBiasing_6 (by decide) ?_
  refine p_Kind_biasable dX10_endBiasing_7 pX10_238 hL (by assumption) rfl rfl ?_
  refine wp_ild1 dX10_endBiasing_10 ?_
  refine wp_ist2 dX10_endBiasing_11 (by decide) rfl ?_
  exact lp_endb hG hL hc hdp 3 c _ (by omega) (by omega)

def beS (c : Nat) (C : Nat → Int32) (k : Nat) : Nat → Int32 := if C (46 + k) = 2 then (if ¬ C (62 + k) ≤ 0 then upd C (78 + k) (C (222 + c)) else C) else C
def beL (c : Nat) : Nat → Nat → (Nat → Int32) → (Nat → Int32)
  | 0, _, C => C
  | n + 1, k, C => if 8 ≤ k then C else beL c n (k + 3) (beS c C k)
def begeF (C : Nat → Int32) (c : Nat) : Nat → Int32 := beL c 3 c (upd C (222 + c) (C (222 + c) + 1))
theorem SameS.beS {c : Nat} {C : Nat → Int32} {o : Nat} (ho : o < 8) : SameS C (beS c C o) := by
  show SameS C (if C (46 + o) = 2 then (if ¬ C (62 + o) ≤ 0 then upd C (78 + o) (C (222 + c)) else C) else C)
  split
  · split
    · exact SameS.rf.up (by omega)
    · exact SameS.rf
  · exact SameS.rf
theorem SameS.beL {c : Nat} : ∀ (n k : Nat) (C : Nat → Int32), SameS C (beL c n k C)
  | 0, _, _ => SameS.rf
  | n + 1, k, C => by
    show SameS C (if 8 ≤ k then C else _)
    split
    · exact SameS.rf
    · exact (SameS.beS (by omega)).tr (SameS.beL n (k + 3) _)
theorem SameS.bege {C : Nat → Int32} {c : Nat} (hc : c < 3) : SameS C (begeF C c) := (SameS.rf.up (by omega)).tr (SameS.beL _ _ _)
set_option maxHeartbeats 1000000 in
theorem lp_bege {G : GG} {B : Nat} {E0 : Nat → va_E} {L : List Nat} {sz d : Nat} {c : Nat} (hG : GOK G) (hL : rIn (wR G B) L) (hc : c < 3) (hdp : 1 ≤ d) (n : Nat) : ∀ (k : Nat) (C : Nat → Int32), 8 ≤ k + 3 * n → k ≤ 20 → WP G iX10_beginEpoch d 0 0 none (Wm G B (beL c n k C) E0 L sz) 17 [some (.ref B), some (.int (nI c)), some (.int (nI k)), none] [] (Wm G B C E0 L sz) 0 0 := by
  induction n with
  | zero =>
    intro k C hk hk2
    refine wp_ild2 dX10_beginEpoch_17 ?_
    refine wp_bipush (v := 8) dX10_beginEpoch_18 (by decide) ?_
    refine wp_icmp_ge (tgt := 64) dX10_beginEpoch_20 (by decide) (fun c_20 => ?_) (fun c_20 => absurd (nI_le hk (by omega)) c_20)
    exact wp_vret dX10_beginEpoch_64 rfl (Nat.le_refl _) (Nat.le_refl _) (by first | with_reducible rfl | (simp only [beL]; done) | (simp only [beL]; rfl) | rfl) (by first | with_reducible rfl | (simp only [beL]; done) | (simp only [beL]; rfl) | rfl)
  | succ n ih =>
    intro k C hk1 hk2
    refine wp_ild2 dX10_beginEpoch_17 ?_
    refine wp_bipush (v := 8) dX10_beginEpoch_18 (by decide) ?_
    by_cases hk : 8 ≤ k
    · refine wp_icmp_ge (tgt := 64) dX10_beginEpoch_20 (by decide) (fun c_20 => ?_) (fun c_20 => absurd (nI_le hk (by omega)) c_20)
      exact wp_vret dX10_beginEpoch_64 rfl (Nat.le_refl _) (Nat.le_refl _) (by first | with_reducible rfl | (simp only [beL, if_pos hk]; done) | (simp only [beL, if_pos hk]; rfl) | rfl) (by first | with_reducible rfl | (simp only [beL, if_pos hk]; done) | (simp only [beL, if_pos hk]; rfl) | rfl)
    · refine wp_icmp_ge (tgt := 64) dX10_beginEpoch_20 (by decide) (fun c_20 => absurd c_20 (nI_ge (a := k) (b := 8) (by omega) (by decide))) (fun c_20 => ?_)
      have hk8 : k < 8 := by omega
      refine wp_ald0 dX10_beginEpoch_23 ?_
      refine g_World_locks dX10_beginEpoch_24 fX10_32 hL ?_
      refine wp_ild2 dX10_beginEpoch_27 ?_
      refine r_locks (i' := k) dX10_beginEpoch_28 hG hL rfl (by first | assumption | omega) ?_
      refine wp_ast3 dX10_beginEpoch_29 (by decide) rfl ?_
      refine wp_ald3 dX10_beginEpoch_30 ?_
      refine g_Lock_state dX10_beginEpoch_31 fX10_152 hL (by assumption) ?_
      refine wp_iconst (v := 2) dX10_beginEpoch_34 (by decide) ?_
      refine wp_icmp_ne (tgt := 58) dX10_beginEpoch_35 (by decide) (fun c_35 => ?_) (fun c_35 => ?_)
      · refine wp_iinc2 dX10_beginEpoch_58 (by decide) rfl ?_
        rw [nI_3 k]
        refine wp_goto (tgt := 17) dX10_beginEpoch_61 (by decide) ?_
        have e : beS c C k = C := by simp only [beS, if_neg c_35]
        simp only [beL, if_neg hk]
        rw [e]
        exact WP.fg (by simp [lcle]) (ih (k + 3) (C) (by omega) (by omega))
      · refine wp_ald3 dX10_beginEpoch_38 ?_
        refine vi_Lock0 dX10_beginEpoch_39 kX10_169 (ct_isHeld (d := d - 1) hG hL (by assumption)) hL (by assumption) rfl (by omega) (Nat.le_of_ble_eq_true rfl) (Nat.le_refl _) (Nat.le_refl _) ?_
        refine wp_ifB_eq (tgt := 58) dX10_beginEpoch_42 (by decide) (fun c_42 => ?_) (fun c_42 => ?_)
        · refine wp_iinc2 dX10_beginEpoch_58 (by decide) rfl ?_
          rw [nI_3 k]
          refine wp_goto (tgt := 17) dX10_beginEpoch_61 (by decide) ?_
          have e : beS c C k = C := by simp only [beS, if_pos c_35, if_neg c_42]
          simp only [beL, if_neg hk]
          rw [e]
          exact WP.fg (by simp [lcle]) (ih (k + 3) (C) (by omega) (by omega))
        · refine wp_ald3 dX10_beginEpoch_45 ?_
          refine wp_ald0 dX10_beginEpoch_46 ?_
          refine g_World_kinds dX10_beginEpoch_47 fX10_38 hL ?_
          refine wp_ild1 dX10_beginEpoch_50 ?_
          refine r_kinds (i' := c) dX10_beginEpoch_51 hG hL rfl (by first | assumption | omega) ?_
          refine g_Kind_epoch dX10_beginEpoch_52 fX10_206 hL (by assumption) ?_
          refine p_Lock_epoch dX10_beginEpoch_55 pX10_209 hL (by assumption) ?_
          refine wp_iinc2 dX10_beginEpoch_58 (by decide) rfl ?_
          rw [nI_3 k]
          refine wp_goto (tgt := 17) dX10_beginEpoch_61 (by decide) ?_
          have e : beS c C k = upd C (78 + k) (C (222 + c)) := by simp only [beS, if_pos c_35, if_pos c_42]
          simp only [beL, if_neg hk]
          rw [e]
          exact WP.fg (by simp [lcle]) (ih (k + 3) (upd C (78 + k) (C (222 + c))) (by omega) (by omega))
set_option maxHeartbeats 1000000 in
theorem ct_beginEpoch {G : GG} {B : Nat} {C : Nat → Int32} {E0 : Nat → va_E} {L : List Nat} {sz d : Nat} {c : Nat} (hG : GOK G) (hL : rIn (wR G B) L) (hc : c < 3) (hdp : 1 ≤ d) : Ct G d yX10_beginEpoch iX10_beginEpoch [.ref B, .int (nI c)] (Wm G B C E0 L sz) 0 0 none (Wm G B (begeF C c) E0 L sz) := by
  refine Ct.of 2 (by decide) rfl (by decide) (Nat.le_of_ble_eq_true rfl) ?_
  show WP _ _ _ _ _ _ _ 0 [some (.ref B), some (.int (nI c)), none, none] [] _ 0 0
  refine wp_ald0 dX10_beginEpoch_0 ?_
  refine g_World_kinds dX10_beginEpoch_1 fX10_38 hL ?_
  refine wp_ild1 dX10_beginEpoch_4 ?_
  refine r_kinds (i' := c) dX10_beginEpoch_5 hG hL rfl (by first | assumption | omega) ?_
  refine wp_dup dX10_beginEpoch_6 rfl ?_
  refine g_Kind_epoch dX10_beginEpoch_7 fX10_206 hL (by assumption) ?_
  refine wp_iconst (v := 1) dX10_beginEpoch_10 (by decide) ?_
  refine wp_iadd dX10_beginEpoch_11 ?_
  refine p_Kind_epoch dX10_beginEpoch_12 pX10_206 hL (by assumption) ?_
  refine wp_ild1 dX10_beginEpoch_15 ?_
  refine wp_ist2 dX10_beginEpoch_16 (by decide) rfl ?_
  exact lp_bege hG hL hc hdp 3 c _ (by omega) (by omega)

def rev0 (C : Nat → Int32) (o : Nat) : Nat → Int32 := upd (upd C (225 + o % 3) (C (225 + o % 3) + 1)) (231 + 1) (upd C (225 + o % 3) (C (225 + o % 3) + 1) (231 + 1) + 1)
def revF (C : Nat → Int32) (o : Nat) : Nat → Int32 := if rev0 C o (225 + o % 3) < valF (rev0 C o) 3 then (if rev0 C o (225 + o % 3) = valF (rev0 C o) 2 then (if ¬ begeF (rev0 C o) (o % 3) (62 + o) ≤ 0 then loseF (begeF (rev0 C o) (o % 3)) o else begeF (rev0 C o) (o % 3)) else loseF (rev0 C o) o) else endbF (rev0 C o) (o % 3)
theorem SameS.rev {C : Nat → Int32} {o : Nat} (ho : o < 8) : SameS C (revF C o) := by
  have h3 : o % 3 < 3 := Nat.mod_lt _ (by decide)
  have h0 : SameS C (rev0 C o) := (SameS.rf.up (by omega)).up (by omega)
  unfold revF
  split
  · split
    · split
      · exact (h0.tr (SameS.bege h3)).tr (SameS.lose ho)
      · exact h0.tr (SameS.bege h3)
    · exact h0.tr (SameS.lose ho)
  · exact h0.tr (SameS.endb h3)
set_option maxHeartbeats 1000000 in
theorem ct_revokeBias {G : GG} {B : Nat} {C : Nat → Int32} {E0 : Nat → va_E} {L : List Nat} {sz d : Nat} {o : Nat} (hG : GOK G) (hL : rIn (wR G B) L) (ho : o < 8) (hdp : 2 ≤ d) : Ct G d yX10_revokeBias iX10_revokeBias [.ref B, .ref (aLk B o)] (Wm G B C E0 L sz) 0 0 none (Wm G B (revF C o) E0 L sz) := by
  have ho3 : o % 3 < 3 := Nat.mod_lt _ (by decide)
  refine Ct.of 1 (by decide) rfl (by decide) (Nat.le_of_ble_eq_true rfl) ?_
  show WP _ _ _ _ _ _ _ 0 [some (.ref B), some (.ref (aLk B o)), none] [] _ 0 0
  refine wp_ald0 dX10_revokeBias_0 ?_
  refine g_World_kinds dX10_revokeBias_1 fX10_38 hL ?_
  refine wp_ald1 dX10_revokeBias_4 ?_
  refine g_Lock_kind dX10_revokeBias_5 fX10_203 hL (by assumption) ?_
  refine r_kinds (i' := (o % 3)) dX10_revokeBias_8 hG hL rfl (by first | assumption | omega) ?_
  refine wp_ast2 dX10_revokeBias_9 (by decide) rfl ?_
  refine wp_ald2 dX10_revokeBias_10 ?_
  refine wp_dup dX10_revokeBias_11 rfl ?_
  refine g_Kind_revocations dX10_revokeBias_12 fX10_226 hL (by assumption) ?_
  refine wp_iconst (v := 1) dX10_revokeBias_15 (by decide) ?_
  refine wp_iadd dX10_revokeBias_16 ?_
  refine p_Kind_revocations dX10_revokeBias_17 pX10_226 hL (by assumption) ?_
  refine wp_ald0 dX10_revokeBias_20 ?_
  refine g_World_counts dX10_revokeBias_21 fX10_20 hL ?_
  refine wp_iconst (v := 1) dX10_revokeBias_24 (by decide) ?_
  refine wp_dup2 dX10_revokeBias_25 rfl rfl ?_
  refine r_counts (i' := 1) dX10_revokeBias_26 hG hL (by decide) (by decide) ?_
  refine wp_iconst (v := 1) dX10_revokeBias_27 (by decide) ?_
  refine wp_iadd dX10_revokeBias_28 ?_
  refine s_counts (i' := 1) dX10_revokeBias_29 hG hL (by decide) (by decide) ?_
  change WP _ _ _ _ _ _ _ _ _ _ (Wm G B (rev0 C o) E0 L sz) _ _
  refine wp_ald2 dX10_revokeBias_30 ?_
  refine g_Kind_revocations dX10_revokeBias_31 fX10_226 hL (by assumption) ?_
  refine wp_ald0 dX10_revokeBias_34 ?_
  refine g_World_settings dX10_revokeBias_35 fX10_12 hL ?_
  refine wp_iconst (v := 3) dX10_revokeBias_38 (by decide) ?_
  refine vi_Settings1 dX10_revokeBias_39 kX10_69 (ct_valueOf (d := d - 1) hG hL) hL rfl (by omega) (Nat.le_of_ble_eq_true rfl) (Nat.le_refl _) (Nat.le_refl _) ?_
  refine wp_icmp_lt (tgt := 56) dX10_revokeBias_42 (by decide) (fun c_42 => ?_) (fun c_42 => ?_)
  · refine wp_ald2 dX10_revokeBias_56 ?_
    refine g_Kind_revocations dX10_revokeBias_57 fX10_226 hL (by assumption) ?_
    refine wp_ald0 dX10_revokeBias_60 ?_
    refine g_World_settings dX10_revokeBias_61 fX10_12 hL ?_
    refine wp_iconst (v := 2) dX10_revokeBias_64 (by decide) ?_
    refine vi_Settings1 dX10_revokeBias_65 kX10_69 (ct_valueOf (d := d - 1) hG hL) hL rfl (by omega) (Nat.le_of_ble_eq_true rfl) (Nat.le_refl _) (Nat.le_refl _) ?_
    refine wp_icmp_ne (tgt := 93) dX10_revokeBias_68 (by decide) (fun c_68 => ?_) (fun c_68 => ?_)
    · refine wp_ald1 dX10_revokeBias_93 ?_
      refine vv_Lock0 dX10_revokeBias_94 kX10_235 (ct_loseBias (d := d - 1) hG hL (by assumption)) hL (by assumption) rfl (by omega) (Nat.le_of_ble_eq_true rfl) (Nat.le_refl _) (Nat.le_refl _) ?_
      exact wp_vret dX10_revokeBias_97 rfl (Nat.le_refl _) (Nat.le_refl _) (by first | with_reducible rfl | (simp only [revF, if_pos c_42, if_neg c_68]; done) | (unfold revF; rw [if_pos c_42]; rw [if_neg c_68]; rfl) | rfl) (by first | with_reducible rfl | (simp only [revF, if_pos c_42, if_neg c_68]; done) | (unfold revF; rw [if_pos c_42]; rw [if_neg c_68]; rfl) | rfl)
    · refine wp_ald0 dX10_revokeBias_71 ?_
      refine wp_ald1 dX10_revokeBias_72 ?_
      refine g_Lock_kind dX10_revokeBias_73 fX10_203 hL (by assumption) ?_
      refine vv_World1 dX10_revokeBias_76 kX10_232 (ct_beginEpoch (d := d - 1) hG hL ho3 (by omega)) hL rfl (by omega) (Nat.le_of_ble_eq_true rfl) (Nat.le_refl _) (Nat.le_refl _) ?_
      refine wp_ald1 dX10_revokeBias_79 ?_
      refine vi_Lock0 dX10_revokeBias_80 kX10_169 (ct_isHeld (d := d - 1) hG hL (by assumption)) hL (by assumption) rfl (by omega) (Nat.le_of_ble_eq_true rfl) (Nat.le_refl _) (Nat.le_refl _) ?_
      refine wp_ifB_eq (tgt := 97) dX10_revokeBias_83 (by decide) (fun c_83 => ?_) (fun c_83 => ?_)
      · exact wp_vret dX10_revokeBias_97 rfl (Nat.le_refl _) (Nat.le_refl _) (by first | with_reducible rfl | (simp only [revF, if_pos c_42, if_pos c_68, if_neg c_83]; done) | (unfold revF; rw [if_pos c_42]; rw [if_pos c_68]; rw [if_neg c_83]; rfl) | rfl) (by first | with_reducible rfl | (simp only [revF, if_pos c_42, if_pos c_68, if_neg c_83]; done) | (unfold revF; rw [if_pos c_42]; rw [if_pos c_68]; rw [if_neg c_83]; rfl) | rfl)
      · refine wp_ald1 dX10_revokeBias_86 ?_
        refine vv_Lock0 dX10_revokeBias_87 kX10_235 (ct_loseBias (d := d - 1) hG hL (by assumption)) hL (by assumption) rfl (by omega) (Nat.le_of_ble_eq_true rfl) (Nat.le_refl _) (Nat.le_refl _) ?_
        refine wp_goto (tgt := 97) dX10_revokeBias_90 (by decide) ?_
        exact wp_vret dX10_revokeBias_97 rfl (Nat.le_refl _) (Nat.le_refl _) (by first | with_reducible rfl | (simp only [revF, if_pos c_42, if_pos c_68, if_pos c_83]; done) | (unfold revF; rw [if_pos c_42]; rw [if_pos c_68]; rw [if_pos c_83]; rfl) | rfl) (by first | with_reducible rfl | (simp only [revF, if_pos c_42, if_pos c_68, if_pos c_83]; done) | (unfold revF; rw [if_pos c_42]; rw [if_pos c_68]; rw [if_pos c_83]; rfl) | rfl)
  · refine wp_ald0 dX10_revokeBias_45 ?_
    refine wp_ald1 dX10_revokeBias_46 ?_
    refine g_Lock_kind dX10_revokeBias_47 fX10_203 hL (by assumption) ?_
    refine vv_World1 dX10_revokeBias_50 kX10_229 (ct_endBiasing (d := d - 1) hG hL ho3 (by omega)) hL rfl (by omega) (Nat.le_of_ble_eq_true rfl) (Nat.le_refl _) (Nat.le_refl _) ?_
    refine wp_goto (tgt := 97) dX10_revokeBias_53 (by decide) ?_
    exact wp_vret dX10_revokeBias_97 rfl (Nat.le_refl _) (Nat.le_refl _) (by first | with_reducible rfl | (simp only [revF, if_neg c_42]; done) | (unfold revF; rw [if_neg c_42]; rfl) | rfl) (by first | with_reducible rfl | (simp only [revF, if_neg c_42]; done) | (unfold revF; rw [if_neg c_42]; rfl) | rfl)

