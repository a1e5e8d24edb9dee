theorem rem3 {o : Nat} (ho : o < 8) : nI o - nI o / 3 * 3 = nI (o % 3) := by
  have key : ∀ o, o < 8 → nI o - nI o / 3 * 3 = nI (o % 3) := by decide +kernel
  exact key o ho
theorem dvd_trick : True := trivial
set_option maxHeartbeats 2000000 in
theorem lm_takeOut {G : GG} {Y : Nat} {E0 : Nat → va_E} {L : List Nat} {sz d : Nat} {q p s : Nat} {x : Int32} (hG : GOK G) (hM : rIn (mR G Y) L) (hpq : ∀ i, i < 6 → p + i ≠ q) (hp : p < 470) (hqb : q < 482) (hs6 : s ≤ 6) (n : Nat) : ∀ (k t : Nat) (F : Nat → Int32), k + n = s → t ≤ k → F q = nI s → WP G iX12_takeOut d 0 0 none (Mm G Y (upd (drp p x n k t F).1 q (nI (drp p x n k t F).2)) E0 L sz) 6 [some (.ref Y), some (.int x), some (.int (nI p)), some (.int (nI q)), some (.int (nI t)), some (.int (nI k)), none] [] (Mm G Y F E0 L sz) 0 0 := by
  induction n with
  | zero =>
    intro k t F hk ht hq
    refine wp_ild5 dX12_takeOut_6 ?_
    refine wp_ald0 dX12_takeOut_8 ?_
    refine gm_w dX12_takeOut_9 fX12_7 hM ?_
    refine wp_ild3 dX12_takeOut_12 ?_
    refine rm_w (i' := q) dX12_takeOut_13 hG hM rfl (by first | assumption | omega) ?_
    refine wp_icmp_ge (tgt := 54) dX12_takeOut_14 (by decide) (fun c_14 => ?_) (fun c_14 => absurd (by rw [hq, show k = s by omega]; exact Int32.le_refl _) c_14)
    refine wp_ald0 dX12_takeOut_54 ?_
    refine gm_w dX12_takeOut_55 fX12_7 hM ?_
    refine wp_ild3 dX12_takeOut_58 ?_
    refine wp_ild4 dX12_takeOut_59 ?_
    refine sm_w (i' := q) dX12_takeOut_61 hG hM rfl (by first | assumption | omega) ?_
    exact wp_vret dX12_takeOut_62 rfl (Nat.le_refl _) (Nat.le_refl _) (by first | with_reducible rfl | (simp only [drp]; done) | (simp only [drp]; rfl) | rfl) (by first | with_reducible rfl | (simp only [drp]; done) | (simp only [drp]; rfl) | rfl)
  | succ n ih =>
    intro k t F hk ht hq
    refine wp_ild5 dX12_takeOut_6 ?_
    refine wp_ald0 dX12_takeOut_8 ?_
    refine gm_w dX12_takeOut_9 fX12_7 hM ?_
    refine wp_ild3 dX12_takeOut_12 ?_
    refine rm_w (i' := q) dX12_takeOut_13 hG hM rfl (by first | assumption | omega) ?_
    refine wp_icmp_ge (tgt := 54) dX12_takeOut_14 (by decide) (fun c_14 => absurd c_14 (by rw [hq]; exact nI_ge (by omega) (by omega))) (fun c_14 => ?_)
    refine wp_ald0 dX12_takeOut_17 ?_
    refine gm_w dX12_takeOut_18 fX12_7 hM ?_
    refine wp_ild2 dX12_takeOut_21 ?_
    refine wp_ild5 dX12_takeOut_22 ?_
    refine wp_iaddN (a := p) (b := k) rfl rfl dX12_takeOut_24 ?_
    refine rm_w (i' := (p + k)) dX12_takeOut_25 hG hM rfl (by first | assumption | omega) ?_
    refine wp_ist6 dX12_takeOut_26 (by decide) rfl ?_
    refine wp_ild6 dX12_takeOut_28 ?_
    refine wp_ild1 dX12_takeOut_30 ?_
    refine wp_icmp_eq (tgt := 48) dX12_takeOut_31 (by decide) (fun c_31 => ?_) (fun c_31 => ?_)
    · refine wp_inc5 dX12_takeOut_48 (by decide) rfl ?_
      refine wp_goto (tgt := 6) dX12_takeOut_51 (by decide) ?_
      simp only [drp, if_pos c_31]
      exact WP.fg (by simp [lcle]) (ih (k + 1) t F (by omega) (by omega) hq)
    · refine wp_ald0 dX12_takeOut_34 ?_
      refine gm_w dX12_takeOut_35 fX12_7 hM ?_
      refine wp_ild2 dX12_takeOut_38 ?_
      refine wp_ild4 dX12_takeOut_39 ?_
      refine wp_iaddN (a := p) (b := t) rfl rfl dX12_takeOut_41 ?_
      refine wp_ild6 dX12_takeOut_42 ?_
      refine sm_w (i' := (p + t)) dX12_takeOut_44 hG hM rfl (by first | assumption | omega) ?_
      refine wp_inc4 dX12_takeOut_45 (by decide) rfl ?_
      refine wp_inc5 dX12_takeOut_48 (by decide) rfl ?_
      refine wp_goto (tgt := 6) dX12_takeOut_51 (by decide) ?_
      simp only [drp, if_neg c_31]
      exact WP.fg (by simp [lcle]) (ih (k + 1) (t + 1) (upd F (p + t) (F (p + k))) (by omega) (by omega) (by rw [upd_ne (fun e => hpq t (by omega) e.symm)]; exact hq))
set_option maxHeartbeats 2000000 in
theorem cm_takeOut {G : GG} {Y : Nat} {F : Nat → Int32} {E0 : Nat → va_E} {L : List Nat} {sz d : Nat} {q p : Nat} {x : Int32} (hG : GOK G) (hM : rIn (mR G Y) L) (hpq : ∀ i, i < 6 → p + i ≠ q) (hp : p < 470) (hqb : q < 482) (hs : OKs F q) : Ct G d yX12_takeOut iX12_takeOut [.ref Y, .int x, .int (nI p), .int (nI q)] (Mm G Y F E0 L sz) 0 0 none (Mm G Y (dropF F q p x) E0 L sz) := by
  refine Ct.of 3 (by decide) rfl (by decide) (Nat.le_of_ble_eq_true rfl) ?_
  show WP _ _ _ _ _ _ _ 0 [some (.ref Y), some (.int x), some (.int (nI p)), some (.int (nI q)), none, none, none] [] _ 0 0
  refine wp_iconst (v := 0) dX12_takeOut_0 (by decide) ?_
  refine wp_ist4 dX12_takeOut_1 (by decide) rfl ?_
  refine wp_iconst (v := 0) dX12_takeOut_3 (by decide) ?_
  refine wp_ist5 dX12_takeOut_4 (by decide) rfl ?_
  simp only [dropF]
  exact WP.fg (by simp [lcle, nI_0]) (lm_takeOut hG hM hpq hp hqb hs.nat.2 _ 0 0 F (by omega) (by omega) hs.nat.1)

def quM (F : Nat → Int32) (t o : Nat) : Nat → Int32 := upd (upd (upd (upd F (126 + 6 * o + nt (F (110 + o))) (nI t)) (110 + o) (upd F (126 + 6 * o + nt (F (110 + o))) (nI t) (110 + o) + 1)) (10 + t) 1) (28 + t) (nI o)
def qfM (F : Nat → Int32) (t o : Nat) : Nat → Int32 := upd (upd (upd (upd (shf (126 + 6 * o) (nt (F (110 + o))) F) (126 + 6 * o) (nI t)) (110 + o) (upd (shf (126 + 6 * o) (nt (F (110 + o))) F) (126 + 6 * o) (nI t) (110 + o) + 1)) (10 + t) 1) (28 + t) (nI o)
set_option maxHeartbeats 2000000 in
theorem cm_queueUp {G : GG} {Y : Nat} {F : Nat → Int32} {E0 : Nat → va_E} {L : List Nat} {sz d : Nat} {t o : Nat} (hG : GOK G) (hM : rIn (mR G Y) L) (ht : t < 6) (ho : o < 8) (hs : OKs F (110 + o)) : Ct G d yX12_queueUp iX12_queueUp [.ref Y, .int (nI t), .int (nI o)] (Mm G Y F E0 L sz) 0 0 none (Mm G Y (quM F t o) E0 L sz) := by
  obtain ⟨hs1, hs2⟩ : F (110 + o) = nI (nt (F (110 + o))) ∧ nt (F (110 + o)) ≤ 6 := hs.nat
  refine Ct.of 0 (by decide) rfl (by decide) (Nat.le_of_ble_eq_true rfl) ?_
  show WP _ _ _ _ _ _ _ 0 [some (.ref Y), some (.int (nI t)), some (.int (nI o))] [] _ 0 0
  refine wp_ald0 dX12_queueUp_0 ?_
  refine gm_w dX12_queueUp_1 fX12_7 hM ?_
  refine wp_bipush (v := 126) dX12_queueUp_4 (by decide) ?_
  refine wp_bipush (v := 6) dX12_queueUp_6 (by decide) ?_
  refine wp_ild2 dX12_queueUp_8 ?_
  refine wp_imulN (a := 6) (b := o) (by decide) rfl dX12_queueUp_9 ?_
  refine wp_iaddN (a := 126) (b := (6 * o)) (by decide) rfl dX12_queueUp_10 ?_
  refine wp_ald0 dX12_queueUp_11 ?_
  refine gm_w dX12_queueUp_12 fX12_7 hM ?_
  refine wp_bipush (v := 110) dX12_queueUp_15 (by decide) ?_
  refine wp_ild2 dX12_queueUp_17 ?_
  refine wp_iaddN (a := 110) (b := o) (by decide) rfl dX12_queueUp_18 ?_
  refine rm_w (i' := (110 + o)) dX12_queueUp_19 hG hM rfl (by first | assumption | omega) ?_
  refine wp_iaddN (a := (126 + (6 * o))) (b := nt (F (110 + o))) rfl hs1 dX12_queueUp_20 ?_
  refine wp_ild1 dX12_queueUp_21 ?_
  refine sm_w (i' := ((126 + (6 * o)) + nt (F (110 + o)))) dX12_queueUp_22 hG hM rfl (by first | assumption | omega) ?_
  refine wp_ald0 dX12_queueUp_23 ?_
  refine gm_w dX12_queueUp_24 fX12_7 hM ?_
  refine wp_bipush (v := 110) dX12_queueUp_27 (by decide) ?_
  refine wp_ild2 dX12_queueUp_29 ?_
  refine wp_iaddN (a := 110) (b := o) (by decide) rfl dX12_queueUp_30 ?_
  refine wp_dup2 dX12_queueUp_31 rfl rfl ?_
  refine rm_w (i' := (110 + o)) dX12_queueUp_32 hG hM rfl (by first | assumption | omega) ?_
  refine wp_iconst (v := 1) dX12_queueUp_33 (by decide) ?_
  refine wp_iadd dX12_queueUp_34 ?_
  refine sm_w (i' := (110 + o)) dX12_queueUp_35 hG hM rfl (by first | assumption | omega) ?_
  refine wp_ald0 dX12_queueUp_36 ?_
  refine gm_w dX12_queueUp_37 fX12_7 hM ?_
  refine wp_bipush (v := 10) dX12_queueUp_40 (by decide) ?_
  refine wp_ild1 dX12_queueUp_42 ?_
  refine wp_iaddN (a := 10) (b := t) (by decide) rfl dX12_queueUp_43 ?_
  refine wp_iconst (v := 1) dX12_queueUp_44 (by decide) ?_
  refine sm_w (i' := (10 + t)) dX12_queueUp_45 hG hM rfl (by first | assumption | omega) ?_
  refine wp_ald0 dX12_queueUp_46 ?_
  refine gm_w dX12_queueUp_47 fX12_7 hM ?_
  refine wp_bipush (v := 28) dX12_queueUp_50 (by decide) ?_
  refine wp_ild1 dX12_queueUp_52 ?_
  refine wp_iaddN (a := 28) (b := t) (by decide) rfl dX12_queueUp_53 ?_
  refine wp_ild2 dX12_queueUp_54 ?_
  refine sm_w (i' := (28 + t)) dX12_queueUp_55 hG hM rfl (by first | assumption | omega) ?_
  exact wp_vret dX12_queueUp_56 rfl (Nat.le_refl _) (Nat.le_refl _) (by first | with_reducible rfl | (simp only [quM]; done) | (simp only [quM]; rfl) | rfl) (by first | with_reducible rfl | (simp only [quM]; done) | (simp only [quM]; rfl) | rfl)

set_option maxHeartbeats 2000000 in
theorem lm_qf {G : GG} {Y : Nat} {E0 : Nat → va_E} {L : List Nat} {sz d : Nat} {t o : Nat} (hG : GOK G) (hM : rIn (mR G Y) L) (ht : t < 6) (ho : o < 8) (k : Nat) : ∀ (F : Nat → Int32), k ≤ 6 → WP G iX12_queueFirst d 0 0 none (Mm G Y (upd (upd (upd (upd (shf (126 + 6 * o) k F) (126 + 6 * o) (nI t)) (110 + o) (upd (shf (126 + 6 * o) k F) (126 + 6 * o) (nI t) (110 + o) + 1)) (10 + t) 1) (28 + t) (nI o)) E0 L sz) 10 [some (.ref Y), some (.int (nI t)), some (.int (nI o)), some (.int (nI k))] [] (Mm G Y F E0 L sz) 0 0 := by
  induction k with
  | zero =>
    intro F hk
    refine wp_ild3 dX12_queueFirst_10 ?_
    refine wp_if_le (tgt := 50) dX12_queueFirst_11 (by decide) (fun c_11 => ?_) (fun c_11 => absurd (by decide) c_11)
    refine wp_ald0 dX12_queueFirst_50 ?_
    refine gm_w dX12_queueFirst_51 fX12_7 hM ?_
    refine wp_bipush (v := 126) dX12_queueFirst_54 (by decide) ?_
    refine wp_bipush (v := 6) dX12_queueFirst_56 (by decide) ?_
    refine wp_ild2 dX12_queueFirst_58 ?_
    refine wp_imulN (a := 6) (b := o) (by decide) rfl dX12_queueFirst_59 ?_
    refine wp_iaddN (a := 126) (b := (6 * o)) (by decide) rfl dX12_queueFirst_60 ?_
    refine wp_ild1 dX12_queueFirst_61 ?_
    refine sm_w (i' := (126 + (6 * o))) dX12_queueFirst_62 hG hM rfl (by first | assumption | omega) ?_
    refine wp_ald0 dX12_queueFirst_63 ?_
    refine gm_w dX12_queueFirst_64 fX12_7 hM ?_
    refine wp_bipush (v := 110) dX12_queueFirst_67 (by decide) ?_
    refine wp_ild2 dX12_queueFirst_69 ?_
    refine wp_iaddN (a := 110) (b := o) (by decide) rfl dX12_queueFirst_70 ?_
    refine wp_dup2 dX12_queueFirst_71 rfl rfl ?_
    refine rm_w (i' := (110 + o)) dX12_queueFirst_72 hG hM rfl (by first | assumption | omega) ?_
    refine wp_iconst (v := 1) dX12_queueFirst_73 (by decide) ?_
    refine wp_iadd dX12_queueFirst_74 ?_
    refine sm_w (i' := (110 + o)) dX12_queueFirst_75 hG hM rfl (by first | assumption | omega) ?_
    refine wp_ald0 dX12_queueFirst_76 ?_
    refine gm_w dX12_queueFirst_77 fX12_7 hM ?_
    refine wp_bipush (v := 10) dX12_queueFirst_80 (by decide) ?_
    refine wp_ild1 dX12_queueFirst_82 ?_
    refine wp_iaddN (a := 10) (b := t) (by decide) rfl dX12_queueFirst_83 ?_
    refine wp_iconst (v := 1) dX12_queueFirst_84 (by decide) ?_
    refine sm_w (i' := (10 + t)) dX12_queueFirst_85 hG hM rfl (by first | assumption | omega) ?_
    refine wp_ald0 dX12_queueFirst_86 ?_
    refine gm_w dX12_queueFirst_87 fX12_7 hM ?_
    refine wp_bipush (v := 28) dX12_queueFirst_90 (by decide) ?_
    refine wp_ild1 dX12_queueFirst_92 ?_
    refine wp_iaddN (a := 28) (b := t) (by decide) rfl dX12_queueFirst_93 ?_
    refine wp_ild2 dX12_queueFirst_94 ?_
    refine sm_w (i' := (28 + t)) dX12_queueFirst_95 hG hM rfl (by first | assumption | omega) ?_
    exact wp_vret dX12_queueFirst_96 rfl (Nat.le_refl _) (Nat.le_refl _) (by first | with_reducible rfl | (simp only [shf]; done) | (simp only [shf]; rfl) | rfl) (by first | with_reducible rfl | (simp only [shf]; done) | (simp only [shf]; rfl) | rfl)
  | succ k ih =>
    intro F hk
    refine wp_ild3 dX12_queueFirst_10 ?_
    refine wp_if_le (tgt := 50) dX12_queueFirst_11 (by decide) (fun c_11 => absurd c_11 (nI_nle (by omega) (by omega))) (fun c_11 => ?_)
    refine wp_ald0 dX12_queueFirst_14 ?_
    refine gm_w dX12_queueFirst_15 fX12_7 hM ?_
    refine wp_bipush (v := 126) dX12_queueFirst_18 (by decide) ?_
    refine wp_bipush (v := 6) dX12_queueFirst_20 (by decide) ?_
    refine wp_ild2 dX12_queueFirst_22 ?_
    refine wp_imulN (a := 6) (b := o) (by decide) rfl dX12_queueFirst_23 ?_
    refine wp_iaddN (a := 126) (b := (6 * o)) (by decide) rfl dX12_queueFirst_24 ?_
    refine wp_ild3 dX12_queueFirst_25 ?_
    refine wp_iaddN (a := (126 + (6 * o))) (b := (k + 1)) rfl rfl dX12_queueFirst_26 ?_
    refine wp_ald0 dX12_queueFirst_27 ?_
    refine gm_w dX12_queueFirst_28 fX12_7 hM ?_
    refine wp_bipush (v := 126) dX12_queueFirst_31 (by decide) ?_
    refine wp_bipush (v := 6) dX12_queueFirst_33 (by decide) ?_
    refine wp_ild2 dX12_queueFirst_35 ?_
    refine wp_imulN (a := 6) (b := o) (by decide) rfl dX12_queueFirst_36 ?_
    refine wp_iaddN (a := 126) (b := (6 * o)) (by decide) rfl dX12_queueFirst_37 ?_
    refine wp_ild3 dX12_queueFirst_38 ?_
    refine wp_iaddN (a := (126 + (6 * o))) (b := (k + 1)) rfl rfl dX12_queueFirst_39 ?_
    refine wp_iconst (v := 1) dX12_queueFirst_40 (by decide) ?_
    refine wp_isubN (a := ((126 + (6 * o)) + (k + 1))) (b := 1) rfl (by decide) (by omega) dX12_queueFirst_41 ?_
    refine rm_w (i' := (((126 + (6 * o)) + (k + 1)) - 1)) dX12_queueFirst_42 hG hM rfl (by first | assumption | omega) ?_
    refine sm_w (i' := ((126 + (6 * o)) + (k + 1))) dX12_queueFirst_43 hG hM rfl (by first | assumption | omega) ?_
    refine wp_iinc3 dX12_queueFirst_44 (by decide) rfl ?_
    rw [nI_dec k]
    refine wp_goto (tgt := 10) dX12_queueFirst_47 (by decide) ?_
    exact ih _ (by omega)
set_option maxHeartbeats 2000000 in
theorem cm_queueFirst {G : GG} {Y : Nat} {F : Nat → Int32} {E0 : Nat → va_E} {L : List Nat} {sz d : Nat} {t o : Nat} (hG : GOK G) (hM : rIn (mR G Y) L) (ht : t < 6) (ho : o < 8) (hs : OKs F (110 + o)) : Ct G d yX12_queueFirst iX12_queueFirst [.ref Y, .int (nI t), .int (nI o)] (Mm G Y F E0 L sz) 0 0 none (Mm G Y (qfM F t o) E0 L sz) := by
  obtain ⟨hs1, hs2⟩ : F (110 + o) = nI (nt (F (110 + o))) ∧ nt (F (110 + o)) ≤ 6 := hs.nat
  refine Ct.of 1 (by decide) rfl (by decide) (Nat.le_of_ble_eq_true rfl) ?_
  show WP _ _ _ _ _ _ _ 0 [some (.ref Y), some (.int (nI t)), some (.int (nI o)), none] [] _ 0 0
  refine wp_ald0 dX12_queueFirst_0 ?_
  refine gm_w dX12_queueFirst_1 fX12_7 hM ?_
  refine wp_bipush (v := 110) dX12_queueFirst_4 (by decide) ?_
  refine wp_ild2 dX12_queueFirst_6 ?_
  refine wp_iaddN (a := 110) (b := o) (by decide) rfl dX12_queueFirst_7 ?_
  refine rm_w (i' := (110 + o)) dX12_queueFirst_8 hG hM rfl (by first | assumption | omega) ?_
  refine wp_ist3 dX12_queueFirst_9 (by decide) rfl ?_
  rw [hs1]
  simp only [qfM]
  exact lm_qf hG hM ht ho _ F hs2

def ewM (F : Nat → Int32) (t o : Nat) (h v : Int32) : Nat → Int32 := if v = 0 then quM (upd (dropF F (118 + o) (174 + 6 * o) (nI t)) (22 + t) h) t o else qfM (upd (dropF F (118 + o) (174 + 6 * o) (nI t)) (22 + t) h) t o
set_option maxHeartbeats 2000000 in
theorem cm_endWait {G : GG} {Y : Nat} {F : Nat → Int32} {E0 : Nat → va_E} {L : List Nat} {sz d : Nat} {t o : Nat} {h v : Int32} (hG : GOK G) (hM : rIn (mR G Y) L) (ht : t < 6) (ho : o < 8) (hat : F (28 + t) = nI o) (hW : WI F) (hdp : 1 ≤ d) : Ct G d yX12_endWait iX12_endWait [.ref Y, .int (nI t), .int h, .int v] (Mm G Y F E0 L sz) 0 0 none (Mm G Y (ewM F t o h v) E0 L sz) := by
  refine Ct.of 1 (by decide) rfl (by decide) (Nat.le_of_ble_eq_true rfl) ?_
  show WP _ _ _ _ _ _ _ 0 [some (.ref Y), some (.int (nI t)), some (.int h), some (.int v), none] [] _ 0 0
  refine wp_ald0 dX12_endWait_0 ?_
  refine gm_w dX12_endWait_1 fX12_7 hM ?_
  refine wp_bipush (v := 28) dX12_endWait_4 (by decide) ?_
  refine wp_ild1 dX12_endWait_6 ?_
  refine wp_iaddN (a := 28) (b := t) (by decide) rfl dX12_endWait_7 ?_
  refine rm_w (i' := (28 + t)) dX12_endWait_8 hG hM rfl (by first | assumption | omega) ?_
  rw [hat]
  refine wp_ist4 dX12_endWait_9 (by decide) rfl ?_
  refine wp_ald0 dX12_endWait_11 ?_
  refine wp_ild1 dX12_endWait_12 ?_
  refine wp_sipush (v := 174) dX12_endWait_13 (by decide) ?_
  refine wp_bipush (v := 6) dX12_endWait_16 (by decide) ?_
  refine wp_ild4 dX12_endWait_18 ?_
  refine wp_imulN (a := 6) (b := o) (by decide) rfl dX12_endWait_20 ?_
  refine wp_iaddN (a := 174) (b := (6 * o)) (by decide) rfl dX12_endWait_21 ?_
  refine wp_bipush (v := 118) dX12_endWait_22 (by decide) ?_
  refine wp_ild4 dX12_endWait_24 ?_
  refine wp_iaddN (a := 118) (b := o) (by decide) rfl dX12_endWait_26 ?_
  refine mv_3 dX12_endWait_27 kX12_64 (cm_takeOut (d := d - 1) (q := 118 + o) (p := 174 + 6 * o) hG hM (by intros; omega) (by omega) (by omega) (hW.w ho)) hM rfl (by omega) (Nat.le_of_ble_eq_true rfl) (Nat.le_refl _) (Nat.le_refl _) ?_
  refine wp_ald0 dX12_endWait_30 ?_
  refine gm_w dX12_endWait_31 fX12_7 hM ?_
  refine wp_bipush (v := 22) dX12_endWait_34 (by decide) ?_
  refine wp_ild1 dX12_endWait_36 ?_
  refine wp_iaddN (a := 22) (b := t) (by decide) rfl dX12_endWait_37 ?_
  refine wp_ild2 dX12_endWait_38 ?_
  refine sm_w (i' := (22 + t)) dX12_endWait_39 hG hM rfl (by first | assumption | omega) ?_
  refine wp_ild3 dX12_endWait_40 ?_
  refine wp_if_eq (tgt := 54) dX12_endWait_41 (by decide) (fun c_41 => ?_) (fun c_41 => ?_)
  · refine wp_ald0 dX12_endWait_54 ?_
    refine wp_ild1 dX12_endWait_55 ?_
    refine wp_ild4 dX12_endWait_56 ?_
    refine mv_2 dX12_endWait_58 kX12_72 (cm_queueUp (d := d - 1) hG hM ht ho (((hW.dropw ho).up (by omega)).q ho)) hM rfl (by omega) (Nat.le_of_ble_eq_true rfl) (Nat.le_refl _) (Nat.le_refl _) ?_
    exact wp_vret dX12_endWait_61 rfl (Nat.le_refl _) (Nat.le_refl _) (by first | with_reducible rfl | (simp only [ewM, if_pos c_41]; done) | (simp only [ewM, if_pos c_41]; rfl) | rfl) (by first | with_reducible rfl | (simp only [ewM, if_pos c_41]; done) | (simp only [ewM, if_pos c_41]; rfl) | rfl)
  · refine wp_ald0 dX12_endWait_44 ?_
    refine wp_ild1 dX12_endWait_45 ?_
    refine wp_ild4 dX12_endWait_46 ?_
    refine mv_2 dX12_endWait_48 kX12_68 (cm_queueFirst (d := d - 1) hG hM ht ho (((hW.dropw ho).up (by omega)).q ho)) hM rfl (by omega) (Nat.le_of_ble_eq_true rfl) (Nat.le_refl _) (Nat.le_refl _) ?_
    refine wp_goto (tgt := 61) dX12_endWait_51 (by decide) ?_
    exact wp_vret dX12_endWait_61 rfl (Nat.le_refl _) (Nat.le_refl _) (by first | with_reducible rfl | (simp only [ewM, if_neg c_41]; done) | (simp only [ewM, if_neg c_41]; rfl) | rfl) (by first | with_reducible rfl | (simp only [ewM, if_neg c_41]; done) | (simp only [ewM, if_neg c_41]; rfl) | rfl)

def hldM (F : Nat → Int32) (x : Int32) (o : Nat) (c : Int32) : Nat → Int32 := if upd (upd F (54 + o) x) (62 + o) c (86 + o) = 1 then upd (upd (upd (upd F (54 + o) x) (62 + o) c) (86 + o) 0) 239 (upd (upd (upd F (54 + o) x) (62 + o) c) (86 + o) 0 239 + 1) else upd (upd F (54 + o) x) (62 + o) c
set_option maxHeartbeats 2000000 in
theorem cm_hold {G : GG} {Y : Nat} {F : Nat → Int32} {E0 : Nat → va_E} {L : List Nat} {sz d : Nat} {o : Nat} {x c : Int32} (hG : GOK G) (hM : rIn (mR G Y) L) (ho : o < 8) : Ct G d yX12_hold iX12_hold [.ref Y, .int x, .int (nI o), .int c] (Mm G Y F E0 L sz) 0 0 none (Mm G Y (hldM F x o c) E0 L sz) := by
  refine Ct.of 0 (by decide) rfl (by decide) (Nat.le_of_ble_eq_true rfl) ?_
  show WP _ _ _ _ _ _ _ 0 [some (.ref Y), some (.int x), some (.int (nI o)), some (.int c)] [] _ 0 0
  refine wp_ald0 dX12_hold_0 ?_
  refine gm_w dX12_hold_1 fX12_7 hM ?_
  refine wp_bipush (v := 54) dX12_hold_4 (by decide) ?_
  refine wp_ild2 dX12_hold_6 ?_
  refine wp_iaddN (a := 54) (b := o) (by decide) rfl dX12_hold_7 ?_
  refine wp_ild1 dX12_hold_8 ?_
  refine sm_w (i' := (54 + o)) dX12_hold_9 hG hM rfl (by first | assumption | omega) ?_
  refine wp_ald0 dX12_hold_10 ?_
  refine gm_w dX12_hold_11 fX12_7 hM ?_
  refine wp_bipush (v := 62) dX12_hold_14 (by decide) ?_
  refine wp_ild2 dX12_hold_16 ?_
  refine wp_iaddN (a := 62) (b := o) (by decide) rfl dX12_hold_17 ?_
  refine wp_ild3 dX12_hold_18 ?_
  refine sm_w (i' := (62 + o)) dX12_hold_19 hG hM rfl (by first | assumption | omega) ?_
  refine wp_ald0 dX12_hold_20 ?_
  refine gm_w dX12_hold_21 fX12_7 hM ?_
  refine wp_bipush (v := 86) dX12_hold_24 (by decide) ?_
  refine wp_ild2 dX12_hold_26 ?_
  refine wp_iaddN (a := 86) (b := o) (by decide) rfl dX12_hold_27 ?_
  refine rm_w (i' := (86 + o)) dX12_hold_28 hG hM rfl (by first | assumption | omega) ?_
  refine wp_iconst (v := 1) dX12_hold_29 (by decide) ?_
  refine wp_icmp_ne (tgt := 55) dX12_hold_30 (by decide) (fun c_30 => ?_) (fun c_30 => ?_)
  · exact wp_vret dX12_hold_55 rfl (Nat.le_refl _) (Nat.le_refl _) (by first | with_reducible rfl | (simp only [hldM, if_neg c_30]; done) | (simp only [hldM, if_neg c_30]; rfl) | rfl) (by first | with_reducible rfl | (simp only [hldM, if_neg c_30]; done) | (simp only [hldM, if_neg c_30]; rfl) | rfl)
  · refine wp_ald0 dX12_hold_33 ?_
    refine gm_w dX12_hold_34 fX12_7 hM ?_
    refine wp_bipush (v := 86) dX12_hold_37 (by decide) ?_
    refine wp_ild2 dX12_hold_39 ?_
    refine wp_iaddN (a := 86) (b := o) (by decide) rfl dX12_hold_40 ?_
    refine wp_iconst (v := 0) dX12_hold_41 (by decide) ?_
    refine sm_w (i' := (86 + o)) dX12_hold_42 hG hM rfl (by first | assumption | omega) ?_
    refine wp_ald0 dX12_hold_43 ?_
    refine gm_w dX12_hold_44 fX12_7 hM ?_
    refine wp_sipush (v := 239) dX12_hold_47 (by decide) ?_
    refine wp_dup2 dX12_hold_50 rfl rfl ?_
    refine rm_w (i' := 239) dX12_hold_51 hG hM (by decide) (by decide) ?_
    refine wp_iconst (v := 1) dX12_hold_52 (by decide) ?_
    refine wp_iadd dX12_hold_53 ?_
    refine sm_w (i' := 239) dX12_hold_54 hG hM (by decide) (by decide) ?_
    exact wp_vret dX12_hold_55 rfl (Nat.le_refl _) (Nat.le_refl _) (by first | with_reducible rfl | (simp only [hldM, if_pos c_30]; done) | (simp only [hldM, if_pos c_30]; rfl) | rfl) (by first | with_reducible rfl | (simp only [hldM, if_pos c_30]; done) | (simp only [hldM, if_pos c_30]; rfl) | rfl)

def acq1 (F : Nat → Int32) (t o : Nat) : Nat → Int32 := upd (upd (dropF F (110 + o) (126 + 6 * o) (nI t)) (10 + t) 0) (28 + t) (-8)
def acqM (F : Nat → Int32) (t o : Nat) : Nat → Int32 := hldM (acq1 F t o) (nI t) o (acq1 F t o (40 + t))
set_option maxHeartbeats 2000000 in
theorem cm_acquire {G : GG} {Y : Nat} {F : Nat → Int32} {E0 : Nat → va_E} {L : List Nat} {sz d : Nat} {t o : Nat} (hG : GOK G) (hM : rIn (mR G Y) L) (ht : t < 6) (ho : o < 8) (hq : F (126 + 6 * o) = nI t) (hs : OKs F (110 + o)) (hdp : 1 ≤ d) : Ct G d yX12_acquire iX12_acquire [.ref Y, .int (nI o)] (Mm G Y F E0 L sz) 0 0 none (Mm G Y (acqM F t o) E0 L sz) := by
  refine Ct.of 1 (by decide) rfl (by decide) (Nat.le_of_ble_eq_true rfl) ?_
  show WP _ _ _ _ _ _ _ 0 [some (.ref Y), some (.int (nI o)), none] [] _ 0 0
  refine wp_ald0 dX12_acquire_0 ?_
  refine gm_w dX12_acquire_1 fX12_7 hM ?_
  refine wp_bipush (v := 126) dX12_acquire_4 (by decide) ?_
  refine wp_bipush (v := 6) dX12_acquire_6 (by decide) ?_
  refine wp_ild1 dX12_acquire_8 ?_
  refine wp_imulN (a := 6) (b := o) (by decide) rfl dX12_acquire_9 ?_
  refine wp_iaddN (a := 126) (b := (6 * o)) (by decide) rfl dX12_acquire_10 ?_
  refine rm_w (i' := (126 + (6 * o))) dX12_acquire_11 hG hM rfl (by first | assumption | omega) ?_
  rw [hq]
  refine wp_ist2 dX12_acquire_12 (by decide) rfl ?_
  refine wp_ald0 dX12_acquire_13 ?_
  refine wp_ild2 dX12_acquire_14 ?_
  refine wp_bipush (v := 126) dX12_acquire_15 (by decide) ?_
  refine wp_bipush (v := 6) dX12_acquire_17 (by decide) ?_
  refine wp_ild1 dX12_acquire_19 ?_
  refine wp_imulN (a := 6) (b := o) (by decide) rfl dX12_acquire_20 ?_
  refine wp_iaddN (a := 126) (b := (6 * o)) (by decide) rfl dX12_acquire_21 ?_
  refine wp_bipush (v := 110) dX12_acquire_22 (by decide) ?_
  refine wp_ild1 dX12_acquire_24 ?_
  refine wp_iaddN (a := 110) (b := o) (by decide) rfl dX12_acquire_25 ?_
  refine mv_3 dX12_acquire_26 kX12_64 (cm_takeOut (d := d - 1) (q := 110 + o) (p := 126 + 6 * o) hG hM (by intros; omega) (by omega) (by omega) hs) hM rfl (by omega) (Nat.le_of_ble_eq_true rfl) (Nat.le_refl _) (Nat.le_refl _) ?_
  refine wp_ald0 dX12_acquire_29 ?_
  refine gm_w dX12_acquire_30 fX12_7 hM ?_
  refine wp_bipush (v := 10) dX12_acquire_33 (by decide) ?_
  refine wp_ild2 dX12_acquire_35 ?_
  refine wp_iaddN (a := 10) (b := t) (by decide) rfl dX12_acquire_36 ?_
  refine wp_iconst (v := 0) dX12_acquire_37 (by decide) ?_
  refine sm_w (i' := (10 + t)) dX12_acquire_38 hG hM rfl (by first | assumption | omega) ?_
  refine wp_ald0 dX12_acquire_39 ?_
  refine gm_w dX12_acquire_40 fX12_7 hM ?_
  refine wp_bipush (v := 28) dX12_acquire_43 (by decide) ?_
  refine wp_ild2 dX12_acquire_45 ?_
  refine wp_iaddN (a := 28) (b := t) (by decide) rfl dX12_acquire_46 ?_
  refine wp_bipush (v := (-8)) dX12_acquire_47 (by decide) ?_
  refine sm_w (i' := (28 + t)) dX12_acquire_49 hG hM rfl (by first | assumption | omega) ?_
  refine wp_ald0 dX12_acquire_50 ?_
  refine wp_ild2 dX12_acquire_51 ?_
  refine wp_ild1 dX12_acquire_52 ?_
  refine wp_ald0 dX12_acquire_53 ?_
  refine gm_w dX12_acquire_54 fX12_7 hM ?_
  refine wp_bipush (v := 40) dX12_acquire_57 (by decide) ?_
  refine wp_ild2 dX12_acquire_59 ?_
  refine wp_iaddN (a := 40) (b := t) (by decide) rfl dX12_acquire_60 ?_
  refine rm_w (i' := (40 + t)) dX12_acquire_61 hG hM rfl (by first | assumption | omega) ?_
  refine mv_3 dX12_acquire_62 kX12_75 (cm_hold (d := d - 1) hG hM ho) hM rfl (by omega) (Nat.le_of_ble_eq_true rfl) (Nat.le_refl _) (Nat.le_refl _) ?_
  exact wp_vret dX12_acquire_65 rfl (Nat.le_refl _) (Nat.le_refl _) (by first | with_reducible rfl | (simp only [acqM, acq1]; done) | (simp only [acqM, acq1]; rfl) | rfl) (by first | with_reducible rfl | (simp only [acqM, acq1]; done) | (simp only [acqM, acq1]; rfl) | rfl)

def rel1 (F : Nat → Int32) (o : Nat) : Nat → Int32 := upd (upd F (54 + o) (-8)) (62 + o) 0
def relM (F : Nat → Int32) (o : Nat) : Nat → Int32 := if rel1 F o (46 + o) = 3 then upd (upd (rel1 F o) (46 + o) 0) 231 (upd (rel1 F o) (46 + o) 0 231 + 1) else if rel1 F o (46 + o) = 4 then (if upd (rel1 F o) (102 + o) (rel1 F o 9) (110 + o) ≤ 0 then upd (rel1 F o) (102 + o) (rel1 F o 9) else if upd (rel1 F o) (102 + o) (rel1 F o 9) 2 = 1 then acqM (upd (upd (rel1 F o) (102 + o) (rel1 F o 9)) 237 (upd (rel1 F o) (102 + o) (rel1 F o 9) 237 + 1)) (nt (F (126 + 6 * o))) o else upd (rel1 F o) (102 + o) (rel1 F o 9)) else rel1 F o
/-- the first of a queue is a thread -/
def HD (F : Nat → Int32) (o : Nat) : Prop := ¬ F (110 + o) ≤ 0 → F (126 + 6 * o) = nI (nt (F (126 + 6 * o))) ∧ nt (F (126 + 6 * o)) < 6
theorem rel_q {F : Nat → Int32} {o k : Nat} (ho : o < 8) (hk : 110 ≤ k ∧ k < 222) : upd (rel1 F o) (102 + o) (rel1 F o 9) k = F k := by
  unfold rel1
  rw [upd_ne (by omega), upd_ne (by omega), upd_ne (by omega)]
set_option maxHeartbeats 2000000 in
theorem cm_release {G : GG} {Y : Nat} {F : Nat → Int32} {E0 : Nat → va_E} {L : List Nat} {sz d : Nat} {o : Nat} (hG : GOK G) (hM : rIn (mR G Y) L) (ho : o < 8) (hs : OKs F (110 + o)) (hh : HD F o) (hdp : 2 ≤ d) : Ct G d yX12_release iX12_release [.ref Y, .int (nI o)] (Mm G Y F E0 L sz) 0 0 none (Mm G Y (relM F o) E0 L sz) := by
  refine Ct.of 0 (by decide) rfl (by decide) (Nat.le_of_ble_eq_true rfl) ?_
  show WP _ _ _ _ _ _ _ 0 [some (.ref Y), some (.int (nI o))] [] _ 0 0
  refine wp_ald0 dX12_release_0 ?_
  refine gm_w dX12_release_1 fX12_7 hM ?_
  refine wp_bipush (v := 54) dX12_release_4 (by decide) ?_
  refine wp_ild1 dX12_release_6 ?_
  refine wp_iaddN (a := 54) (b := o) (by decide) rfl dX12_release_7 ?_
  refine wp_bipush (v := (-8)) dX12_release_8 (by decide) ?_
  refine sm_w (i' := (54 + o)) dX12_release_10 hG hM rfl (by first | assumption | omega) ?_
  refine wp_ald0 dX12_release_11 ?_
  refine gm_w dX12_release_12 fX12_7 hM ?_
  refine wp_bipush (v := 62) dX12_release_15 (by decide) ?_
  refine wp_ild1 dX12_release_17 ?_
  refine wp_iaddN (a := 62) (b := o) (by decide) rfl dX12_release_18 ?_
  refine wp_iconst (v := 0) dX12_release_19 (by decide) ?_
  refine sm_w (i' := (62 + o)) dX12_release_20 hG hM rfl (by first | assumption | omega) ?_
  change WP _ _ _ _ _ _ _ _ _ _ (Mm G Y (rel1 F o) E0 L sz) _ _
  refine wp_ald0 dX12_release_21 ?_
  refine gm_w dX12_release_22 fX12_7 hM ?_
  refine wp_bipush (v := 46) dX12_release_25 (by decide) ?_
  refine wp_ild1 dX12_release_27 ?_
  refine wp_iaddN (a := 46) (b := o) (by decide) rfl dX12_release_28 ?_
  refine rm_w (i' := (46 + o)) dX12_release_29 hG hM rfl (by first | assumption | omega) ?_
  refine wp_iconst (v := 3) dX12_release_30 (by decide) ?_
  refine wp_icmp_ne (tgt := 59) dX12_release_31 (by decide) (fun c_31 => ?_) (fun c_31 => ?_)
  · refine wp_ald0 dX12_release_59 ?_
    refine gm_w dX12_release_60 fX12_7 hM ?_
    refine wp_bipush (v := 46) dX12_release_63 (by decide) ?_
    refine wp_ild1 dX12_release_65 ?_
    refine wp_iaddN (a := 46) (b := o) (by decide) rfl dX12_release_66 ?_
    refine rm_w (i' := (46 + o)) dX12_release_67 hG hM rfl (by first | assumption | omega) ?_
    refine wp_iconst (v := 4) dX12_release_68 (by decide) ?_
    refine wp_icmp_ne (tgt := 127) dX12_release_69 (by decide) (fun c_69 => ?_) (fun c_69 => ?_)
    · exact wp_vret dX12_release_127 rfl (Nat.le_refl _) (Nat.le_refl _) (by first | with_reducible rfl | (simp only [relM, if_neg c_31, if_neg c_69]; done) | (unfold relM; rw [if_neg c_31]; rw [if_neg c_69]) | (unfold relM; rw [if_neg c_31]; rw [if_neg c_69]; rfl)) (by first | with_reducible rfl | (simp only [relM, if_neg c_31, if_neg c_69]; done) | (unfold relM; rw [if_neg c_31]; rw [if_neg c_69]) | (unfold relM; rw [if_neg c_31]; rw [if_neg c_69]; rfl))
    · refine wp_ald0 dX12_release_72 ?_
      refine gm_w dX12_release_73 fX12_7 hM ?_
      refine wp_bipush (v := 102) dX12_release_76 (by decide) ?_
      refine wp_ild1 dX12_release_78 ?_
      refine wp_iaddN (a := 102) (b := o) (by decide) rfl dX12_release_79 ?_
      refine wp_ald0 dX12_release_80 ?_
      refine gm_w dX12_release_81 fX12_7 hM ?_
      refine wp_bipush (v := 9) dX12_release_84 (by decide) ?_
      refine rm_w (i' := 9) dX12_release_86 hG hM (by decide) (by decide) ?_
      refine sm_w (i' := (102 + o)) dX12_release_87 hG hM rfl (by first | assumption | omega) ?_
      refine wp_ald0 dX12_release_88 ?_
      refine gm_w dX12_release_89 fX12_7 hM ?_
      refine wp_bipush (v := 110) dX12_release_92 (by decide) ?_
      refine wp_ild1 dX12_release_94 ?_
      refine wp_iaddN (a := 110) (b := o) (by decide) rfl dX12_release_95 ?_
      refine rm_w (i' := (110 + o)) dX12_release_96 hG hM rfl (by first | assumption | omega) ?_
      refine wp_if_le (tgt := 127) dX12_release_97 (by decide) (fun c_97 => ?_) (fun c_97 => ?_)
      · exact wp_vret dX12_release_127 rfl (Nat.le_refl _) (Nat.le_refl _) (by first | with_reducible rfl | (simp only [relM, if_neg c_31, if_pos c_69, if_pos c_97]; done) | (unfold relM; rw [if_neg c_31]; rw [if_pos c_69]; rw [if_pos c_97]) | (unfold relM; rw [if_neg c_31]; rw [if_pos c_69]; rw [if_pos c_97]; rfl)) (by first | with_reducible rfl | (simp only [relM, if_neg c_31, if_pos c_69, if_pos c_97]; done) | (unfold relM; rw [if_neg c_31]; rw [if_pos c_69]; rw [if_pos c_97]) | (unfold relM; rw [if_neg c_31]; rw [if_pos c_69]; rw [if_pos c_97]; rfl))
      · refine wp_ald0 dX12_release_100 ?_
        refine gm_w dX12_release_101 fX12_7 hM ?_
        refine wp_iconst (v := 2) dX12_release_104 (by decide) ?_
        refine rm_w (i' := 2) dX12_release_105 hG hM (by decide) (by decide) ?_
        refine wp_iconst (v := 1) dX12_release_106 (by decide) ?_
        refine wp_icmp_ne (tgt := 127) dX12_release_107 (by decide) (fun c_107 => ?_) (fun c_107 => ?_)
        · exact wp_vret dX12_release_127 rfl (Nat.le_refl _) (Nat.le_refl _) (by first | with_reducible rfl | (simp only [relM, if_neg c_31, if_pos c_69, if_neg c_97, if_neg c_107]; done) | (unfold relM; rw [if_neg c_31]; rw [if_pos c_69]; rw [if_neg c_97]; rw [if_neg c_107]) | (unfold relM; rw [if_neg c_31]; rw [if_pos c_69]; rw [if_neg c_97]; rw [if_neg c_107]; rfl)) (by first | with_reducible rfl | (simp only [relM, if_neg c_31, if_pos c_69, if_neg c_97, if_neg c_107]; done) | (unfold relM; rw [if_neg c_31]; rw [if_pos c_69]; rw [if_neg c_97]; rw [if_neg c_107]) | (unfold relM; rw [if_neg c_31]; rw [if_pos c_69]; rw [if_neg c_97]; rw [if_neg c_107]; rfl))
        · refine wp_ald0 dX12_release_110 ?_
          refine gm_w dX12_release_111 fX12_7 hM ?_
          refine wp_sipush (v := 237) dX12_release_114 (by decide) ?_
          refine wp_dup2 dX12_release_117 rfl rfl ?_
          refine rm_w (i' := 237) dX12_release_118 hG hM (by decide) (by decide) ?_
          refine wp_iconst (v := 1) dX12_release_119 (by decide) ?_
          refine wp_iadd dX12_release_120 ?_
          refine sm_w (i' := 237) dX12_release_121 hG hM (by decide) (by decide) ?_
          refine wp_ald0 dX12_release_122 ?_
          refine wp_ild1 dX12_release_123 ?_
          refine mv_1 dX12_release_124 kX12_78 (cm_acquire (d := d - 1) hG hM (hh (by rw [← rel_q (F := F) ho (by omega)]; exact c_97)).2 ho (by rw [upd_ne (by omega), rel_q ho (by omega)]; exact (hh (by rw [← rel_q (F := F) ho (by omega)]; exact c_97)).1) (by refine OKs.upd (by omega) (OKs.upd (by omega) ?_); exact OKs.upd (by omega) (OKs.upd (by omega) hs)) (by omega)) hM rfl (by omega) (Nat.le_of_ble_eq_true rfl) (Nat.le_refl _) (Nat.le_refl _) ?_
          exact wp_vret dX12_release_127 rfl (Nat.le_refl _) (Nat.le_refl _) (by first | with_reducible rfl | (simp only [relM, if_neg c_31, if_pos c_69, if_neg c_97, if_pos c_107]; done) | (unfold relM; rw [if_neg c_31]; rw [if_pos c_69]; rw [if_neg c_97]; rw [if_pos c_107]) | (unfold relM; rw [if_neg c_31]; rw [if_pos c_69]; rw [if_neg c_97]; rw [if_pos c_107]; rfl)) (by first | with_reducible rfl | (simp only [relM, if_neg c_31, if_pos c_69, if_neg c_97, if_pos c_107]; done) | (unfold relM; rw [if_neg c_31]; rw [if_pos c_69]; rw [if_neg c_97]; rw [if_pos c_107]) | (unfold relM; rw [if_neg c_31]; rw [if_pos c_69]; rw [if_neg c_97]; rw [if_pos c_107]; rfl))
  · refine wp_ald0 dX12_release_34 ?_
    refine gm_w dX12_release_35 fX12_7 hM ?_
    refine wp_bipush (v := 46) dX12_release_38 (by decide) ?_
    refine wp_ild1 dX12_release_40 ?_
    refine wp_iaddN (a := 46) (b := o) (by decide) rfl dX12_release_41 ?_
    refine wp_iconst (v := 0) dX12_release_42 (by decide) ?_
    refine sm_w (i' := (46 + o)) dX12_release_43 hG hM rfl (by first | assumption | omega) ?_
    refine wp_ald0 dX12_release_44 ?_
    refine gm_w dX12_release_45 fX12_7 hM ?_
    refine wp_sipush (v := 231) dX12_release_48 (by decide) ?_
    refine wp_dup2 dX12_release_51 rfl rfl ?_
    refine rm_w (i' := 231) dX12_release_52 hG hM (by decide) (by decide) ?_
    refine wp_iconst (v := 1) dX12_release_53 (by decide) ?_
    refine wp_iadd dX12_release_54 ?_
    refine sm_w (i' := 231) dX12_release_55 hG hM (by decide) (by decide) ?_
    refine wp_goto (tgt := 127) dX12_release_56 (by decide) ?_
    exact wp_vret dX12_release_127 rfl (Nat.le_refl _) (Nat.le_refl _) (by first | with_reducible rfl | (simp only [relM, if_pos c_31]; done) | (unfold relM; rw [if_pos c_31]) | (unfold relM; rw [if_pos c_31]; rfl)) (by first | with_reducible rfl | (simp only [relM, if_pos c_31]; done) | (unfold relM; rw [if_pos c_31]) | (unfold relM; rw [if_pos c_31]; rfl))

def rcdM (F : Nat → Int32) (a b c e : Int32) : Nat → Int32 := if 60 ≤ F 241 then F else upd (upd (upd (upd (upd F (242 + 4 * nt (F 241)) a) (242 + 4 * nt (F 241) + 1) b) (242 + 4 * nt (F 241) + 2) c) (242 + 4 * nt (F 241) + 3) e) 241 (upd (upd (upd (upd F (242 + 4 * nt (F 241)) a) (242 + 4 * nt (F 241) + 1) b) (242 + 4 * nt (F 241) + 2) c) (242 + 4 * nt (F 241) + 3) e 241 + 1)
/-- the record's size -/
def OKr (F : Nat → Int32) : Prop := ∃ m, m ≤ 60 ∧ F 241 = nI m
theorem OKr.nat {F : Nat → Int32} (h : OKr F) : F 241 = nI (nt (F 241)) ∧ nt (F 241) ≤ 60 := by
  obtain ⟨s, h1, h2⟩ := h
  rw [h2, ntn (by omega)]
  exact ⟨rfl, h1⟩
set_option maxHeartbeats 2000000 in
theorem cm_record {G : GG} {Y : Nat} {F : Nat → Int32} {E0 : Nat → va_E} {L : List Nat} {sz d : Nat} {a b c e : Int32} (hG : GOK G) (hM : rIn (mR G Y) L) (hr : OKr F) : Ct G d yX12_record iX12_record [.ref Y, .int a, .int b, .int c, .int e] (Mm G Y F E0 L sz) 0 0 none (Mm G Y (rcdM F a b c e) E0 L sz) := by
  obtain ⟨hr1, hr2⟩ := hr.nat
  refine Ct.of 1 (by decide) rfl (by decide) (Nat.le_of_ble_eq_true rfl) ?_
  show WP _ _ _ _ _ _ _ 0 [some (.ref Y), some (.int a), some (.int b), some (.int c), some (.int e), none] [] _ 0 0
  refine wp_ald0 dX12_record_0 ?_
  refine gm_w dX12_record_1 fX12_7 hM ?_
  refine wp_sipush (v := 241) dX12_record_4 (by decide) ?_
  refine rm_w (i' := 241) dX12_record_7 hG hM (by decide) (by decide) ?_
  refine wp_bipush (v := 60) dX12_record_8 (by decide) ?_
  refine wp_icmp_ge (tgt := 80) dX12_record_10 (by decide) (fun c_10 => ?_) (fun c_10 => ?_)
  · exact wp_vret dX12_record_80 rfl (Nat.le_refl _) (Nat.le_refl _) (by first | with_reducible rfl | (simp only [rcdM, if_pos c_10]; done) | (simp only [rcdM, if_pos c_10]; rfl) | rfl) (by first | with_reducible rfl | (simp only [rcdM, if_pos c_10]; done) | (simp only [rcdM, if_pos c_10]; rfl) | rfl)
  · have hr3 : nt (F 241) < 60 := by
        rcases Nat.lt_or_ge (nt (F 241)) 60 with h | h
        · exact h
        · exact absurd (by rw [hr1, show nt (F 241) = 60 from Nat.le_antisymm hr2 h]; decide) c_10
    refine wp_sipush (v := 242) dX12_record_13 (by decide) ?_
    refine wp_iconst (v := 4) dX12_record_16 (by decide) ?_
    refine wp_ald0 dX12_record_17 ?_
    refine gm_w dX12_record_18 fX12_7 hM ?_
    refine wp_sipush (v := 241) dX12_record_21 (by decide) ?_
    refine rm_w (i' := 241) dX12_record_24 hG hM (by decide) (by decide) ?_
    refine wp_imulN (a := 4) (b := nt (F 241)) (by decide) hr1 dX12_record_25 ?_
    refine wp_iaddN (a := 242) (b := (4 * nt (F 241))) (by decide) rfl dX12_record_26 ?_
    refine wp_ist5 dX12_record_27 (by decide) rfl ?_
    refine wp_ald0 dX12_record_29 ?_
    refine gm_w dX12_record_30 fX12_7 hM ?_
    refine wp_ild5 dX12_record_33 ?_
    refine wp_ild1 dX12_record_35 ?_
    refine sm_w (i' := (242 + (4 * nt (F 241)))) dX12_record_36 hG hM rfl (by first | assumption | omega) ?_
    refine wp_ald0 dX12_record_37 ?_
    refine gm_w dX12_record_38 fX12_7 hM ?_
    refine wp_ild5 dX12_record_41 ?_
    refine wp_iconst (v := 1) dX12_record_43 (by decide) ?_
    refine wp_iaddN (a := (242 + (4 * nt (F 241)))) (b := 1) rfl (by decide) dX12_record_44 ?_
    refine wp_ild2 dX12_record_45 ?_
    refine sm_w (i' := ((242 + (4 * nt (F 241))) + 1)) dX12_record_46 hG hM rfl (by first | assumption | omega) ?_
    refine wp_ald0 dX12_record_47 ?_
    refine gm_w dX12_record_48 fX12_7 hM ?_
    refine wp_ild5 dX12_record_51 ?_
    refine wp_iconst (v := 2) dX12_record_53 (by decide) ?_
    refine wp_iaddN (a := (242 + (4 * nt (F 241)))) (b := 2) rfl (by decide) dX12_record_54 ?_
    refine wp_ild3 dX12_record_55 ?_
    refine sm_w (i' := ((242 + (4 * nt (F 241))) + 2)) dX12_record_56 hG hM rfl (by first | assumption | omega) ?_
    refine wp_ald0 dX12_record_57 ?_
    refine gm_w dX12_record_58 fX12_7 hM ?_
    refine wp_ild5 dX12_record_61 ?_
    refine wp_iconst (v := 3) dX12_record_63 (by decide) ?_
    refine wp_iaddN (a := (242 + (4 * nt (F 241)))) (b := 3) rfl (by decide) dX12_record_64 ?_
    refine wp_ild4 dX12_record_65 ?_
    refine sm_w (i' := ((242 + (4 * nt (F 241))) + 3)) dX12_record_67 hG hM rfl (by first | assumption | omega) ?_
    refine wp_ald0 dX12_record_68 ?_
    refine gm_w dX12_record_69 fX12_7 hM ?_
    refine wp_sipush (v := 241) dX12_record_72 (by decide) ?_
    refine wp_dup2 dX12_record_75 rfl rfl ?_
    refine rm_w (i' := 241) dX12_record_76 hG hM (by decide) (by decide) ?_
    refine wp_iconst (v := 1) dX12_record_77 (by decide) ?_
    refine wp_iadd dX12_record_78 ?_
    refine sm_w (i' := 241) dX12_record_79 hG hM (by decide) (by decide) ?_
    exact wp_vret dX12_record_80 rfl (Nat.le_refl _) (Nat.le_refl _) (by first | with_reducible rfl | (simp only [rcdM, if_neg c_10]; done) | (simp only [rcdM, if_neg c_10]; rfl) | rfl) (by first | with_reducible rfl | (simp only [rcdM, if_neg c_10]; done) | (simp only [rcdM, if_neg c_10]; rfl) | rfl)

set_option maxHeartbeats 2000000 in
theorem cm_isValid {G : GG} {Y : Nat} {F : Nat → Int32} {E0 : Nat → va_E} {L : List Nat} {sz d : Nat} {o : Nat} (hG : GOK G) (hM : rIn (mR G Y) L) (ho : o < 8) : Ct G d yX12_isValid iX12_isValid [.ref Y, .int (nI o)] (Mm G Y F E0 L sz) 0 0 (some (.int (bI (bOK F o)))) (Mm G Y (F) E0 L sz) := by
  have ho3 : o % 3 < 3 := Nat.mod_lt _ (by decide)
  refine Ct.of 0 (by decide) rfl (by decide) (Nat.le_of_ble_eq_true rfl) ?_
  show WP _ _ _ _ _ _ _ 0 [some (.ref Y), some (.int (nI o))] [] _ 0 0
  refine wp_ald0 dX12_isValid_0 ?_
  refine gm_w dX12_isValid_1 fX12_7 hM ?_
  refine wp_bipush (v := 78) dX12_isValid_4 (by decide) ?_
  refine wp_ild1 dX12_isValid_6 ?_
  refine wp_iaddN (a := 78) (b := o) (by decide) rfl dX12_isValid_7 ?_
  refine rm_w (i' := (78 + o)) dX12_isValid_8 hG hM rfl (by first | assumption | omega) ?_
  refine wp_ald0 dX12_isValid_9 ?_
  refine gm_w dX12_isValid_10 fX12_7 hM ?_
  refine wp_sipush (v := 222) dX12_isValid_13 (by decide) ?_
  refine wp_ild1 dX12_isValid_16 ?_
  refine wp_iconst (v := 3) dX12_isValid_17 (by decide) ?_
  refine wp_irem dX12_isValid_18 (by decide) ?_
  rw [rem3 ho]
  refine wp_iaddN (a := 222) (b := (o % 3)) (by decide) rfl dX12_isValid_19 ?_
  refine rm_w (i' := (222 + (o % 3))) dX12_isValid_20 hG hM rfl (by first | assumption | omega) ?_
  refine wp_icmp_ne (tgt := 28) dX12_isValid_21 (by decide) (fun c_21 => ?_) (fun c_21 => ?_)
  · refine wp_iconst (v := 0) dX12_isValid_28 (by decide) ?_
    exact wp_zret dX12_isValid_29 rfl rfl (Nat.le_refl _) (Nat.le_refl _) (by first | with_reducible rfl | (simp [bI, c_21]; done) | (simp_all [bI]; done)) (by first | with_reducible rfl | (simp [bI, c_21]; done) | (simp_all [bI]; done))
  · refine wp_iconst (v := 1) dX12_isValid_24 (by decide) ?_
    refine wp_goto (tgt := 29) dX12_isValid_25 (by decide) ?_
    exact wp_zret dX12_isValid_29 rfl rfl (Nat.le_refl _) (Nat.le_refl _) (by first | with_reducible rfl | (simp [bI, c_21]; done) | (simp_all [bI]; done)) (by first | with_reducible rfl | (simp [bI, c_21]; done) | (simp_all [bI]; done))

def ubM (F : Nat → Int32) (o : Nat) : Nat → Int32 := upd (upd F (46 + o) (if ¬ F (62 + o) ≤ 0 then 3 else 0)) (70 + o) (-8)
set_option maxHeartbeats 2000000 in
theorem cm_unbias {G : GG} {Y : Nat} {F : Nat → Int32} {E0 : Nat → va_E} {L : List Nat} {sz d : Nat} {o : Nat} (hG : GOK G) (hM : rIn (mR G Y) L) (ho : o < 8) (hdp : 1 ≤ d) : Ct G d yX12_unbias iX12_unbias [.ref Y, .int (nI o)] (Mm G Y F E0 L sz) 0 0 none (Mm G Y (ubM F o) E0 L sz) := by
  refine Ct.of 0 (by decide) rfl (by decide) (Nat.le_of_ble_eq_true rfl) ?_
  show WP _ _ _ _ _ _ _ 0 [some (.ref Y), some (.int (nI o))] [] _ 0 0
  refine wp_ald0 dX12_unbias_0 ?_
  refine gm_w dX12_unbias_1 fX12_7 hM ?_
  refine wp_bipush (v := 46) dX12_unbias_4 (by decide) ?_
  refine wp_ild1 dX12_unbias_6 ?_
  refine wp_iaddN (a := 46) (b := o) (by decide) rfl dX12_unbias_7 ?_
  refine wp_ald0 dX12_unbias_8 ?_
  refine wp_ild1 dX12_unbias_9 ?_
  refine mi_1 dX12_unbias_10 kX12_54 (cm_isHeld (d := d - 1) hG hM (by first | assumption | omega)) hM rfl (by omega) (Nat.le_of_ble_eq_true rfl) (Nat.le_refl _) (Nat.le_refl _) ?_
  refine wp_ifB_eq (tgt := 20) dX12_unbias_13 (by decide) (fun c_13 => ?_) (fun c_13 => ?_)
  · refine wp_iconst (v := 0) dX12_unbias_20 (by decide) ?_
    refine sm_w (i' := (46 + o)) dX12_unbias_21 hG hM rfl (by first | assumption | omega) ?_
    refine wp_ald0 dX12_unbias_22 ?_
    refine gm_w dX12_unbias_23 fX12_7 hM ?_
    refine wp_bipush (v := 70) dX12_unbias_26 (by decide) ?_
    refine wp_ild1 dX12_unbias_28 ?_
    refine wp_iaddN (a := 70) (b := o) (by decide) rfl dX12_unbias_29 ?_
    refine wp_bipush (v := (-8)) dX12_unbias_30 (by decide) ?_
    refine sm_w (i' := (70 + o)) dX12_unbias_32 hG hM rfl (by first | assumption | omega) ?_
    exact wp_vret dX12_unbias_33 rfl (Nat.le_refl _) (Nat.le_refl _) (by first | with_reducible rfl | (simp only [ubM, if_neg c_13]; done) | (simp only [ubM, if_neg c_13]; rfl) | rfl) (by first | with_reducible rfl | (simp only [ubM, if_neg c_13]; done) | (simp only [ubM, if_neg c_13]; rfl) | rfl)
  · refine wp_iconst (v := 3) dX12_unbias_16 (by decide) ?_
    refine wp_goto (tgt := 21) dX12_unbias_17 (by decide) ?_
    refine sm_w (i' := (46 + o)) dX12_unbias_21 hG hM rfl (by first | assumption | omega) ?_
    refine wp_ald0 dX12_unbias_22 ?_
    refine gm_w dX12_unbias_23 fX12_7 hM ?_
    refine wp_bipush (v := 70) dX12_unbias_26 (by decide) ?_
    refine wp_ild1 dX12_unbias_28 ?_
    refine wp_iaddN (a := 70) (b := o) (by decide) rfl dX12_unbias_29 ?_
    refine wp_bipush (v := (-8)) dX12_unbias_30 (by decide) ?_
    refine sm_w (i' := (70 + o)) dX12_unbias_32 hG hM rfl (by first | assumption | omega) ?_
    exact wp_vret dX12_unbias_33 rfl (Nat.le_refl _) (Nat.le_refl _) (by first | with_reducible rfl | (simp only [ubM, if_pos c_13]; done) | (simp only [ubM, if_pos c_13]; rfl) | rfl) (by first | with_reducible rfl | (simp only [ubM, if_pos c_13]; done) | (simp only [ubM, if_pos c_13]; rfl) | rfl)

