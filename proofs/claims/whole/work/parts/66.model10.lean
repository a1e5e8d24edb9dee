theorem TS.blk {F : Nat → Int32} {t : Nat} (h : TS F) (ht : t < nt (F 0)) (hw : F (10 + t) = 1) : ∃ o, o < 8 ∧ F (28 + t) = nI o := by
  rcases h.2.2.2.2 t ht with ⟨-, o, ho, g, -⟩ | ⟨g, -⟩ | ⟨g, -⟩
  · exact ⟨o, ho, g⟩
  · exact absurd (hw.symm.trans g) (by decide)
  · rcases g with g | g <;> exact absurd (hw.symm.trans g) (by decide)
def wfM (F : Nat → Int32) (t : Nat) : Int32 := if F (10 + t) = 1 then (if ¬ F (62 + nt (F (28 + t))) ≤ 0 then F (54 + nt (F (28 + t))) else -1) else -1
/-- who holds an object is a thread -/
def OWN (F : Nat → Int32) : Prop := ∀ o, o < 8 → ¬ F (62 + o) ≤ 0 → ∃ u, u < nt (F 0) ∧ F (54 + o) = nI u
abbrev okz (F : Nat → Int32) (z : Int32) : Prop := z < 0 ∨ ∃ u, u < nt (F 0) ∧ z = nI u
theorem wf_ok {F : Nat → Int32} {t : Nat} (h : TS F) (how : OWN F) (ht : t < nt (F 0)) : okz F (wfM F t) := by
  unfold wfM
  split
  · rename_i c
    obtain ⟨o, ho, hat⟩ := h.blk ht c
    rw [hat, ntn (by omega)]
    split
    · rename_i c2
      exact Or.inr (how o ho c2)
    · exact Or.inl (by decide)
  · exact Or.inl (by decide)
def dlI (F : Nat → Int32) (t : Nat) : Nat → Int32 → Int32
  | 0, z => z
  | n + 1, z => if z < 0 then z else if z = nI t then z else dlI F t n (wfM F (nt z))
def dlL (F : Nat → Int32) : Nat → Nat → Int32 → Int32
  | 0, _, a => a
  | n + 1, i, a => dlL F n (i + 1) (if dlI F i 6 (wfM F i) = nI i then a ||| (1 <<< (nI i &&& 31)) else a ||| 0)
def deadM (F : Nat → Int32) : Int32 := dlL F (nt (F 0)) 0 0
set_option maxHeartbeats 2000000 in
theorem cm_waitsFor {G : GG} {Y : Nat} {F : Nat → Int32} {E0 : Nat → va_E} {L : List Nat} {sz d : Nat} {t : Nat} (hG : GOK G) (hM : rIn (mR G Y) L) (h : TS F) (htT : t < nt (F 0)) (hdp : 1 ≤ d) : Ct G d yX12_waitsFor iX12_waitsFor [.ref Y, .int (nI t)] (Mm G Y F E0 L sz) 0 0 (some (.int (wfM F t))) (Mm G Y (F) E0 L sz) := by
  have hT6 := h.1.thr.2
  have ht : t < 6 := by omega
  refine Ct.of 0 (by decide) rfl (by decide) (Nat.le_of_ble_eq_true rfl) ?_
  show WP _ _ _ _ _ _ _ 0 [some (.ref Y), some (.int (nI t))] [] _ 0 0
  refine wp_ald0 dX12_waitsFor_0 ?_
  refine gm_w dX12_waitsFor_1 fX12_7 hM ?_
  refine wp_bipush (v := 10) dX12_waitsFor_4 (by decide) ?_
  refine wp_ild1 dX12_waitsFor_6 ?_
  refine wp_iaddN (a := 10) (b := t) (by decide) rfl dX12_waitsFor_7 ?_
  refine rm_w (i' := (10 + t)) dX12_waitsFor_8 hG hM rfl (by first | assumption | omega) ?_
  refine wp_iconst (v := 1) dX12_waitsFor_9 (by decide) ?_
  refine wp_icmp_ne (tgt := 29) dX12_waitsFor_10 (by decide) (fun c_10 => ?_) (fun c_10 => ?_)
  · refine wp_iconst (v := (-1)) dX12_waitsFor_29 (by decide) ?_
    exact wp_iret dX12_waitsFor_30 rfl (Nat.le_refl _) (Nat.le_refl _) (by first | with_reducible rfl | (simp only [wfM, if_neg c_10]; done) | (simp only [wfM, if_neg c_10]; rfl) | rfl) (by first | with_reducible rfl | (simp only [wfM, if_neg c_10]; done) | (simp only [wfM, if_neg c_10]; rfl) | rfl)
  · refine wp_ald0 dX12_waitsFor_13 ?_
    refine wp_ald0 dX12_waitsFor_14 ?_
    refine gm_w dX12_waitsFor_15 fX12_7 hM ?_
    refine wp_bipush (v := 28) dX12_waitsFor_18 (by decide) ?_
    refine wp_ild1 dX12_waitsFor_20 ?_
    refine wp_iaddN (a := 28) (b := t) (by decide) rfl dX12_waitsFor_21 ?_
    refine rm_w (i' := (28 + t)) dX12_waitsFor_22 hG hM rfl (by first | assumption | omega) ?_
    obtain ⟨o, ho, hat⟩ := h.blk htT c_10
    have e2 : nt (nI o) = o := ntn (by omega)
    rw [hat]
    refine mi_1 dX12_waitsFor_23 kX12_54 (cm_isHeld (d := d - 1) hG hM (by first | assumption | omega)) hM rfl (by omega) (Nat.le_of_ble_eq_true rfl) (Nat.le_refl _) (Nat.le_refl _) ?_
    refine wp_ifB_ne (tgt := 31) dX12_waitsFor_26 (by decide) (fun c_26 => ?_) (fun c_26 => ?_)
    · refine wp_ald0 dX12_waitsFor_31 ?_
      refine gm_w dX12_waitsFor_32 fX12_7 hM ?_
      refine wp_bipush (v := 54) dX12_waitsFor_35 (by decide) ?_
      refine wp_ald0 dX12_waitsFor_37 ?_
      refine gm_w dX12_waitsFor_38 fX12_7 hM ?_
      refine wp_bipush (v := 28) dX12_waitsFor_41 (by decide) ?_
      refine wp_ild1 dX12_waitsFor_43 ?_
      refine wp_iaddN (a := 28) (b := t) (by decide) rfl dX12_waitsFor_44 ?_
      refine rm_w (i' := (28 + t)) dX12_waitsFor_45 hG hM rfl (by first | assumption | omega) ?_
      rw [hat]
      refine wp_iaddN (a := 54) (b := o) (by decide) rfl dX12_waitsFor_46 ?_
      refine rm_w (i' := (54 + o)) dX12_waitsFor_47 hG hM rfl (by first | assumption | omega) ?_
      exact wp_iret dX12_waitsFor_48 rfl (Nat.le_refl _) (Nat.le_refl _) (by first | with_reducible rfl | (simp only [wfM, if_pos c_10, hat, e2, if_pos c_26]; done) | (simp only [wfM, if_pos c_10, hat, e2, if_pos c_26]; rfl) | rfl) (by first | with_reducible rfl | (simp only [wfM, if_pos c_10, hat, e2, if_pos c_26]; done) | (simp only [wfM, if_pos c_10, hat, e2, if_pos c_26]; rfl) | rfl)
    · refine wp_iconst (v := (-1)) dX12_waitsFor_29 (by decide) ?_
      exact wp_iret dX12_waitsFor_30 rfl (Nat.le_refl _) (Nat.le_refl _) (by first | with_reducible rfl | (simp only [wfM, if_pos c_10, hat, e2, if_neg c_26]; done) | (simp only [wfM, if_pos c_10, hat, e2, if_neg c_26]; rfl) | rfl) (by first | with_reducible rfl | (simp only [wfM, if_pos c_10, hat, e2, if_neg c_26]; done) | (simp only [wfM, if_pos c_10, hat, e2, if_neg c_26]; rfl) | rfl)

set_option maxHeartbeats 2000000 in
theorem lm_dlI {G : GG} {Y : Nat} {F : Nat → Int32} {E0 : Nat → va_E} {L : List Nat} {sz d : Nat} {t : Nat} {a : Int32} {res : Option Value} {M' : Mem} (hG : GOK G) (hM : rIn (mR G Y) L) (h : TS F) (how : OWN F) (hdp : 2 ≤ d) (n : Nat) : ∀ (k : Nat) (z : Int32), k + n = 6 → okz F z → WP G iX12_deadlocked d 0 0 res M' 51 [some (.ref Y), some (.int a), some (.int (nI t)), some (.int (dlI F t n z)), none] [] (Mm G Y F E0 L sz) 0 0 → WP G iX12_deadlocked d 0 0 res M' 23 [some (.ref Y), some (.int a), some (.int (nI t)), some (.int z), some (.int (nI k))] [] (Mm G Y F E0 L sz) 0 0 := by
  have hT6 := h.1.thr.2
  induction n with
  | zero =>
    intro k z hk hz kk
    refine wp_ild4 dX12_deadlocked_23 ?_
    refine wp_bipush (v := 6) dX12_deadlocked_25 (by decide) ?_
    refine wp_icmp_ge (tgt := 51) dX12_deadlocked_27 (by decide) (fun c_27 => ?_) (fun c_27 => absurd (nI_le (a := 6) (b := k) (by omega) (by omega)) c_27)
    exact WP.fg (by simp [lcle, dlI]) kk
  | succ n ih =>
    intro k z hk hz kk
    refine wp_ild4 dX12_deadlocked_23 ?_
    refine wp_bipush (v := 6) dX12_deadlocked_25 (by decide) ?_
    refine wp_icmp_ge (tgt := 51) dX12_deadlocked_27 (by decide) (fun c_27 => absurd c_27 (nI_ge (a := k) (b := 6) (by omega) (by omega))) (fun c_27 => ?_)
    have hk6 : k < 6 := by omega
    refine wp_ild3 dX12_deadlocked_30 ?_
    refine wp_if_lt (tgt := 51) dX12_deadlocked_31 (by decide) (fun c_31 => ?_) (fun c_31 => ?_)
    · simp only [dlI, if_pos c_31] at kk
      exact WP.fg (by simp [lcle, dlI]) kk
    · refine wp_ild3 dX12_deadlocked_34 ?_
      refine wp_ild2 dX12_deadlocked_35 ?_
      refine wp_icmp_eq (tgt := 51) dX12_deadlocked_36 (by decide) (fun c_36 => ?_) (fun c_36 => ?_)
      · simp only [dlI, if_neg c_31, if_pos c_36] at kk
        exact WP.fg (by simp [lcle, dlI]) kk
      · refine wp_ald0 dX12_deadlocked_39 ?_
        refine wp_ild3 dX12_deadlocked_40 ?_
        obtain ⟨u, huT, rfl⟩ : ∃ u, u < nt (F 0) ∧ z = nI u := hz.resolve_left c_31
        have e1 : nt (nI u) = u := ntn (by omega)
        refine mi_1 dX12_deadlocked_41 kX12_127 (cm_waitsFor (d := d - 1) hG hM h huT (by omega)) hM rfl (by omega) (Nat.le_of_ble_eq_true rfl) (Nat.le_refl _) (Nat.le_refl _) ?_
        refine wp_ist3 dX12_deadlocked_44 (by decide) rfl ?_
        refine wp_inc4 dX12_deadlocked_45 (by decide) rfl ?_
        refine wp_goto (tgt := 23) dX12_deadlocked_48 (by decide) ?_
        simp only [dlI, if_neg c_31, if_neg c_36, e1] at kk
        exact ih (k + 1) _ (by omega) (wf_ok h how huT) kk
set_option maxHeartbeats 2000000 in
theorem lm_dl {G : GG} {Y : Nat} {F : Nat → Int32} {E0 : Nat → va_E} {L : List Nat} {sz d : Nat} {T : Nat} (hG : GOK G) (hM : rIn (mR G Y) L) (h : TS F) (how : OWN F) (hT : F 0 = nI T) (hT6 : T ≤ 6) (hdp : 2 ≤ d) (n : Nat) : ∀ (i : Nat) (a : Int32), i + n = T → WP G iX12_deadlocked d 0 0 (some (.int (dlL F n i a))) (Mm G Y F E0 L sz) 4 [some (.ref Y), some (.int a), some (.int (nI i)), none, none] [] (Mm G Y F E0 L sz) 0 0 := by
  induction n with
  | zero =>
    intro i a hi
    refine wp_ild2 dX12_deadlocked_4 ?_
    refine wp_ald0 dX12_deadlocked_5 ?_
    refine gm_w dX12_deadlocked_6 fX12_7 hM ?_
    refine wp_iconst (v := 0) dX12_deadlocked_9 (by decide) ?_
    refine rm_w (i' := 0) dX12_deadlocked_10 hG hM (by decide) (by decide) ?_
    refine wp_icmp_ge (tgt := 72) dX12_deadlocked_11 (by decide) (fun c_11 => ?_) (fun c_11 => absurd (by rw [hT]; exact nI_le (by omega) (by omega)) c_11)
    refine wp_ild1 dX12_deadlocked_72 ?_
    exact wp_iret dX12_deadlocked_73 rfl (Nat.le_refl _) (Nat.le_refl _) (by first | with_reducible rfl | (simp only [dlL]; done) | (simp only [dlL]; rfl) | rfl) (by first | with_reducible rfl | (simp only [dlL]; done) | (simp only [dlL]; rfl) | rfl)
  | succ n ih =>
    intro i a hi
    have hiT : i < nt (F 0) := by rw [hT, ntn (by omega)]; omega
    refine wp_ild2 dX12_deadlocked_4 ?_
    refine wp_ald0 dX12_deadlocked_5 ?_
    refine gm_w dX12_deadlocked_6 fX12_7 hM ?_
    refine wp_iconst (v := 0) dX12_deadlocked_9 (by decide) ?_
    refine rm_w (i' := 0) dX12_deadlocked_10 hG hM (by decide) (by decide) ?_
    refine wp_icmp_ge (tgt := 72) dX12_deadlocked_11 (by decide) (fun c_11 => absurd c_11 (by rw [hT]; exact nI_ge (by omega) (by omega))) (fun c_11 => ?_)
    have hi6 : i < 6 := by omega
    refine wp_ald0 dX12_deadlocked_14 ?_
    refine wp_ild2 dX12_deadlocked_15 ?_
    refine mi_1 dX12_deadlocked_16 kX12_127 (cm_waitsFor (d := d - 1) hG hM h hiT (by omega)) hM rfl (by omega) (Nat.le_of_ble_eq_true rfl) (Nat.le_refl _) (Nat.le_refl _) ?_
    refine wp_ist3 dX12_deadlocked_19 (by decide) rfl ?_
    refine wp_iconst (v := 0) dX12_deadlocked_20 (by decide) ?_
    refine wp_ist4 dX12_deadlocked_21 (by decide) rfl ?_
    refine WP.fg (by simp [lcle, nI_0]) (lm_dlI (t := i) (a := a) hG hM h how (by omega) 6 0 (wfM F i) rfl (wf_ok h how hiT) ?_)
    refine wp_ild1 dX12_deadlocked_51 ?_
    refine wp_ild3 dX12_deadlocked_52 ?_
    refine wp_ild2 dX12_deadlocked_53 ?_
    refine wp_icmp_ne (tgt := 63) dX12_deadlocked_54 (by decide) (fun c_54 => ?_) (fun c_54 => ?_)
    · refine wp_iconst (v := 0) dX12_deadlocked_63 (by decide) ?_
      refine wp_ior dX12_deadlocked_64 ?_
      refine wp_ist1 dX12_deadlocked_65 (by decide) rfl ?_
      refine wp_inc2 dX12_deadlocked_66 (by decide) rfl ?_
      refine wp_goto (tgt := 4) dX12_deadlocked_69 (by decide) ?_
      simp only [dlL, if_neg c_54]
      exact WP.fg (by simp [lcle]) (ih (i + 1) _ (by omega))
    · refine wp_iconst (v := 1) dX12_deadlocked_57 (by decide) ?_
      refine wp_ild2 dX12_deadlocked_58 ?_
      refine wp_ishl dX12_deadlocked_59 ?_
      refine wp_goto (tgt := 64) dX12_deadlocked_60 (by decide) ?_
      refine wp_ior dX12_deadlocked_64 ?_
      refine wp_ist1 dX12_deadlocked_65 (by decide) rfl ?_
      refine wp_inc2 dX12_deadlocked_66 (by decide) rfl ?_
      refine wp_goto (tgt := 4) dX12_deadlocked_69 (by decide) ?_
      simp only [dlL, if_pos c_54]
      exact WP.fg (by simp [lcle]) (ih (i + 1) _ (by omega))
set_option maxHeartbeats 2000000 in
theorem cm_deadlocked {G : GG} {Y : Nat} {F : Nat → Int32} {E0 : Nat → va_E} {L : List Nat} {sz d : Nat}  (hG : GOK G) (hM : rIn (mR G Y) L) (h : TS F) (how : OWN F) (hdp : 2 ≤ d) : Ct G d yX12_deadlocked iX12_deadlocked [.ref Y] (Mm G Y F E0 L sz) 0 0 (some (.int (deadM F))) (Mm G Y (F) E0 L sz) := by
  refine Ct.of 4 (by decide) rfl (by decide) (Nat.le_of_ble_eq_true rfl) ?_
  show WP _ _ _ _ _ _ _ 0 [some (.ref Y), none, none, none, none] [] _ 0 0
  refine wp_iconst (v := 0) dX12_deadlocked_0 (by decide) ?_
  refine wp_ist1 dX12_deadlocked_1 (by decide) rfl ?_
  refine wp_iconst (v := 0) dX12_deadlocked_2 (by decide) ?_
  refine wp_ist2 dX12_deadlocked_3 (by decide) rfl ?_
  simp only [deadM]
  exact WP.fg (by simp [lcle, nI_0]) (lm_dl hG hM h how h.1.thr.1 h.1.thr.2 hdp _ 0 0 (by omega))

def cpK : Nat → Nat → (Nat → Int32) → (Nat → Int32)
  | 0, _, F => F
  | n + 1, i, F => cpK n (i + 1) (upd F (2000 + i) (F i))
def cpR : Nat → Nat → (Nat → Int32) → (Nat → Int32)
  | 0, _, F => F
  | n + 1, i, F => cpR n (i + 1) (upd F i (F (2000 + i)))
theorem cpK_at : ∀ (n i : Nat) (F : Nat → Int32) (k : Nat), i + n ≤ 482 → cpK n i F k = if 2000 + i ≤ k ∧ k < 2000 + i + n then F (k - 2000) else F k
  | 0, i, F, k, _ => by rw [if_neg (by omega)]; rfl
  | n + 1, i, F, k, h => by
    show cpK n (i + 1) (upd F (2000 + i) (F i)) k = _
    rw [cpK_at n (i + 1) _ k (by omega)]
    by_cases e : k = 2000 + i
    · subst e
      rw [if_neg (by omega), if_pos (by omega), upd_eq, show 2000 + i - 2000 = i by omega]
    · by_cases h1 : 2000 + (i + 1) ≤ k ∧ k < 2000 + (i + 1) + n
      · rw [if_pos h1, if_pos (by omega), upd_ne (by omega)]
      · rw [if_neg h1, if_neg (by omega), upd_ne e]
theorem cpR_at : ∀ (n i : Nat) (F : Nat → Int32) (k : Nat), i + n ≤ 482 → cpR n i F k = if i ≤ k ∧ k < i + n then F (2000 + k) else F k
  | 0, i, F, k, _ => by rw [if_neg (by omega)]; rfl
  | n + 1, i, F, k, h => by
    show cpR n (i + 1) (upd F i (F (2000 + i))) k = _
    rw [cpR_at n (i + 1) _ k (by omega)]
    by_cases e : k = i
    · subst e
      rw [if_neg (by omega), if_pos (by omega), upd_eq]
    · by_cases h1 : i + 1 ≤ k ∧ k < i + 1 + n
      · rw [if_pos h1, if_pos (by omega), upd_ne (by omega)]
      · rw [if_neg h1, if_neg (by omega), upd_ne e]
def rpS (F : Nat → Int32) (i : Nat) : Nat → Int32 := (opM F (F (2000 + (242 + (4 * i)))) (F (2000 + ((242 + (4 * i)) + 1))) (F (2000 + ((242 + (4 * i)) + 2))) (F (2000 + ((242 + (4 * i)) + 3)))).2
def rpL : Nat → Nat → (Nat → Int32) → (Nat → Int32)
  | 0, _, F => F
  | n + 1, i, F => rpL n (i + 1) (rpS F i)
def rpB (F : Nat → Int32) (j : Nat) (v : Int32) : Nat → Int32 := begM (upd (cpK 482 0 F) (1 + j) v) (upd (cpK 482 0 F) (1 + j) v 0)
def rpE (F : Nat → Int32) : Int32 × (Nat → Int32) := (costQ F, cpR 482 0 F)
def rpM (F : Nat → Int32) (j : Nat) (v : Int32) : Int32 × (Nat → Int32) := rpE (rpL (nt (F 241)) 0 (rpB F j v))
theorem RO.rpL : ∀ (n i : Nat) (F : Nat → Int32), TS F → OKr F → RO F (rpL n i F)
  | 0, _, F, h, hr => RO.rf h hr
  | n + 1, i, F, h, hr => (ro_op h hr).tr (RO.rpL n (i + 1) _ (ro_op h hr).1 (ro_op h hr).2.1)
set_option maxHeartbeats 2000000 in
theorem lm_cpR {G : GG} {Y : Nat} {E0 : Nat → va_E} {L : List Nat} {sz d : Nat} {a : Int32} (hG : GOK G) (hM : rIn (mR G Y) L)  (n : Nat) : ∀ (i : Nat) (F : Nat → Int32), i + n = 482 → WP G iX12_replayed d 0 0 (some (.int a)) (Mm G Y (cpR n i F) E0 L sz) 123 [some (.ref Y), none, none, some (.int a), some (.int (nI i)), none] [] (Mm G Y F E0 L sz) 0 0 := by
  induction n with
  | zero =>
    intro i F hi
    refine wp_ild4 dX12_replayed_123 ?_
    refine wp_sipush (v := 482) dX12_replayed_125 (by decide) ?_
    refine wp_icmp_ge (tgt := 151) dX12_replayed_128 (by decide) (fun c_128 => ?_) (fun c_128 => absurd (nI_le (a := 482) (b := i) (by omega) (by omega)) c_128)
    refine wp_ild3 dX12_replayed_151 ?_
    exact wp_iret dX12_replayed_152 rfl (Nat.le_refl _) (Nat.le_refl _) (by first | with_reducible rfl | (simp only [cpR]; done) | (simp only [cpR]; rfl) | rfl) (by first | with_reducible rfl | (simp only [cpR]; done) | (simp only [cpR]; rfl) | rfl)
  | succ n ih =>
    intro i F hi
    refine wp_ild4 dX12_replayed_123 ?_
    refine wp_sipush (v := 482) dX12_replayed_125 (by decide) ?_
    refine wp_icmp_ge (tgt := 151) dX12_replayed_128 (by decide) (fun c_128 => absurd c_128 (nI_ge (a := i) (b := 482) (by omega) (by omega))) (fun c_128 => ?_)
    have hib : i < 482 := by omega
    refine wp_ald0 dX12_replayed_131 ?_
    refine gm_w dX12_replayed_132 fX12_7 hM ?_
    refine wp_ild4 dX12_replayed_135 ?_
    refine wp_ald0 dX12_replayed_137 ?_
    refine gm_kept dX12_replayed_138 fX12_16 hM ?_
    refine wp_ild4 dX12_replayed_141 ?_
    refine rm_kept (i' := i) dX12_replayed_143 hG hM rfl (by first | assumption | omega) ?_
    refine sm_w (i' := i) dX12_replayed_144 hG hM rfl (by first | assumption | omega) ?_
    refine wp_inc4 dX12_replayed_145 (by decide) rfl ?_
    refine wp_goto (tgt := 123) dX12_replayed_148 (by decide) ?_
    exact ih (i + 1) _ (by omega)
set_option maxHeartbeats 2000000 in
theorem tm_rp115 {G : GG} {Y : Nat} {F : Nat → Int32} {E0 : Nat → va_E} {L : List Nat} {sz d : Nat}  (hG : GOK G) (hM : rIn (mR G Y) L)  (hdp : 1 ≤ d) : WP G iX12_replayed d 0 0 (some (.int (rpE F).1)) (Mm G Y ((rpE F).2) E0 L sz) 115 [some (.ref Y), none, none, none, none, none] [] (Mm G Y F E0 L sz) 0 0 := by
  refine wp_ald0 dX12_replayed_115 ?_
  refine mi_0 dX12_replayed_116 kX12_229 (cm_cost (d := d - 1) hG hM) hM rfl (by omega) (Nat.le_of_ble_eq_true rfl) (Nat.le_refl _) (Nat.le_refl _) ?_
  refine wp_ist3 dX12_replayed_119 (by decide) rfl ?_
  refine wp_iconst (v := 0) dX12_replayed_120 (by decide) ?_
  refine wp_ist4 dX12_replayed_121 (by decide) rfl ?_
  simp only [rpE]
  exact WP.fg (by simp [lcle, nI_0]) (lm_cpR hG hM 482 0 F rfl)
set_option maxHeartbeats 2000000 in
theorem lm_rp {G : GG} {Y : Nat} {E0 : Nat → va_E} {L : List Nat} {sz d : Nat} {m : Nat} (hG : GOK G) (hM : rIn (mR G Y) L) (hm60 : m ≤ 60) (hdp : 7 ≤ d) (n : Nat) : ∀ (i : Nat) (F : Nat → Int32), i + n = m → TS F → OKr F → F (2000 + 241) = nI m → WP G iX12_replayed d 0 0 (some (.int (rpE (rpL n i F)).1)) (Mm G Y (rpE (rpL n i F)).2 E0 L sz) 48 [some (.ref Y), none, none, some (.int (nI i)), none, none] [] (Mm G Y F E0 L sz) 0 0 := by
  induction n with
  | zero =>
    intro i F hi h hr hm
    refine wp_ild3 dX12_replayed_48 ?_
    refine wp_ald0 dX12_replayed_49 ?_
    refine gm_kept dX12_replayed_50 fX12_16 hM ?_
    refine wp_sipush (v := 241) dX12_replayed_53 (by decide) ?_
    refine rm_kept (i' := 241) dX12_replayed_56 hG hM (by decide) (by decide) ?_
    refine wp_icmp_ge (tgt := 115) dX12_replayed_57 (by decide) (fun c_57 => ?_) (fun c_57 => absurd (by rw [hm]; exact nI_le (by omega) (by omega)) c_57)
    exact WP.fg (by simp [lcle]) (tm_rp115 hG hM (by omega))
  | succ n ih =>
    intro i F hi h hr hm
    refine wp_ild3 dX12_replayed_48 ?_
    refine wp_ald0 dX12_replayed_49 ?_
    refine gm_kept dX12_replayed_50 fX12_16 hM ?_
    refine wp_sipush (v := 241) dX12_replayed_53 (by decide) ?_
    refine rm_kept (i' := 241) dX12_replayed_56 hG hM (by decide) (by decide) ?_
    refine wp_icmp_ge (tgt := 115) dX12_replayed_57 (by decide) (fun c_57 => absurd c_57 (by rw [hm]; exact nI_ge (by omega) (by omega))) (fun c_57 => ?_)
    have him : i < m := by omega
    refine wp_sipush (v := 242) dX12_replayed_60 (by decide) ?_
    refine wp_iconst (v := 4) dX12_replayed_63 (by decide) ?_
    refine wp_ild3 dX12_replayed_64 ?_
    refine wp_imulN (a := 4) (b := i) (by decide) rfl dX12_replayed_65 ?_
    refine wp_iaddN (a := 242) (b := (4 * i)) (by decide) rfl dX12_replayed_66 ?_
    refine wp_ist4 dX12_replayed_67 (by decide) rfl ?_
    refine wp_ald0 dX12_replayed_69 ?_
    refine wp_ald0 dX12_replayed_70 ?_
    refine gm_kept dX12_replayed_71 fX12_16 hM ?_
    refine wp_ild4 dX12_replayed_74 ?_
    refine rm_kept (i' := (242 + (4 * i))) dX12_replayed_76 hG hM rfl (by first | assumption | omega) ?_
    refine wp_ald0 dX12_replayed_77 ?_
    refine gm_kept dX12_replayed_78 fX12_16 hM ?_
    refine wp_ild4 dX12_replayed_81 ?_
    refine wp_iconst (v := 1) dX12_replayed_83 (by decide) ?_
    refine wp_iaddN (a := (242 + (4 * i))) (b := 1) rfl (by decide) dX12_replayed_84 ?_
    refine rm_kept (i' := ((242 + (4 * i)) + 1)) dX12_replayed_85 hG hM rfl (by first | assumption | omega) ?_
    refine wp_ald0 dX12_replayed_86 ?_
    refine gm_kept dX12_replayed_87 fX12_16 hM ?_
    refine wp_ild4 dX12_replayed_90 ?_
    refine wp_iconst (v := 2) dX12_replayed_92 (by decide) ?_
    refine wp_iaddN (a := (242 + (4 * i))) (b := 2) rfl (by decide) dX12_replayed_93 ?_
    refine rm_kept (i' := ((242 + (4 * i)) + 2)) dX12_replayed_94 hG hM rfl (by first | assumption | omega) ?_
    refine wp_ald0 dX12_replayed_95 ?_
    refine gm_kept dX12_replayed_96 fX12_16 hM ?_
    refine wp_ild4 dX12_replayed_99 ?_
    refine wp_iconst (v := 3) dX12_replayed_101 (by decide) ?_
    refine wp_iaddN (a := (242 + (4 * i))) (b := 3) rfl (by decide) dX12_replayed_102 ?_
    refine rm_kept (i' := ((242 + (4 * i)) + 3)) dX12_replayed_103 hG hM rfl (by first | assumption | omega) ?_
    refine mi_4 dX12_replayed_104 kX12_225 (cm_operate (d := d - 1) hG hM h hr (by omega)) hM rfl (by omega) (Nat.le_of_ble_eq_true rfl) (Nat.le_refl _) (Nat.le_refl _) ?_
    refine wp_ist5 dX12_replayed_107 (by decide) rfl ?_
    refine wp_inc3 dX12_replayed_109 (by decide) rfl ?_
    refine wp_goto (tgt := 48) dX12_replayed_112 (by decide) ?_
    exact WP.fg (by simp [lcle]) (ih (i + 1) (rpS F i) (by omega) (ro_op h hr).1 (ro_op h hr).2.1 (((ro_op h hr).2.2 _ (by omega)).trans hm))
theorem rpB_ok {F : Nat → Int32} {j : Nat} {v : Int32} (hW : WI F) (hj : j < 8) : TS (rpB F j v) ∧ OKr (rpB F j v) ∧ rpB F j v (2000 + 241) = F 241 ∧ ∀ k, 3000 ≤ k → rpB F j v k = F k := by
  have e0 : upd (cpK 482 0 F) (1 + j) v 0 = nI (nt (F 0)) := by
    rw [upd_ne (by omega), cpK_at 482 0 F 0 (by omega), if_neg (by omega)]; exact hW.thr.1
  have hi : ∀ k, 482 ≤ k → rpB F j v k = cpK 482 0 F k := fun k hk => by
    unfold rpB
    rw [begM_at, if_neg (by omega), if_neg (by omega), if_neg (by omega), if_neg (by omega), if_neg (by omega), if_neg (by omega), upd_ne (by omega)]
  refine ⟨?_, OKr.beg, ?_, fun k hk => ?_⟩
  · unfold rpB; rw [e0]; exact TS.beg hW.thr.2
  · rw [hi _ (by omega), cpK_at 482 0 F _ (by omega), if_pos (by omega)]
  · rw [hi _ (by omega), cpK_at 482 0 F _ (by omega), if_neg (by omega)]
set_option maxHeartbeats 2000000 in
theorem tm_rp27 {G : GG} {Y : Nat} {F : Nat → Int32} {E0 : Nat → va_E} {L : List Nat} {sz d : Nat} {F0 : Nat → Int32} {j : Nat} {v : Int32} (hG : GOK G) (hM : rIn (mR G Y) L) (hj : j < 8) (hF : F = cpK 482 0 F0) (hW : WI F0) (hr : OKr F0) (hdp : 7 ≤ d) : WP G iX12_replayed d 0 0 (some (.int (rpM F0 j v).1)) (Mm G Y ((rpM F0 j v).2) E0 L sz) 27 [some (.ref Y), some (.int (nI j)), some (.int v), none, none, none] [] (Mm G Y F E0 L sz) 0 0 := by
  refine wp_ald0 dX12_replayed_27 ?_
  refine gm_w dX12_replayed_28 fX12_7 hM ?_
  refine wp_iconst (v := 1) dX12_replayed_31 (by decide) ?_
  refine wp_ild1 dX12_replayed_32 ?_
  refine wp_iaddN (a := 1) (b := j) (by decide) rfl dX12_replayed_33 ?_
  refine wp_ild2 dX12_replayed_34 ?_
  refine sm_w (i' := (1 + j)) dX12_replayed_35 hG hM rfl (by first | assumption | omega) ?_
  refine wp_ald0 dX12_replayed_36 ?_
  refine wp_ald0 dX12_replayed_37 ?_
  refine gm_w dX12_replayed_38 fX12_7 hM ?_
  refine wp_iconst (v := 0) dX12_replayed_41 (by decide) ?_
  refine rm_w (i' := 0) dX12_replayed_42 hG hM (by decide) (by decide) ?_
  refine mv_1 dX12_replayed_43 kX12_31 (cm_begin (d := d - 1) hG hM) hM rfl (by omega) (Nat.le_of_ble_eq_true rfl) (Nat.le_refl _) (Nat.le_refl _) ?_
  refine wp_iconst (v := 0) dX12_replayed_46 (by decide) ?_
  refine wp_ist3 dX12_replayed_47 (by decide) rfl ?_
  subst hF
  obtain ⟨g1, g2, g3, -⟩ := rpB_ok (v := v) hW hj
  exact WP.fg (by simp [lcle, nI_0]) (lm_rp hG hM hr.nat.2 hdp (nt (F0 241)) 0 (rpB F0 j v) (by omega) g1 g2 (g3.trans hr.nat.1))
set_option maxHeartbeats 2000000 in
theorem lm_cpK {G : GG} {Y : Nat} {E0 : Nat → va_E} {L : List Nat} {sz d : Nat} {F0 : Nat → Int32} {j : Nat} {v : Int32} (hG : GOK G) (hM : rIn (mR G Y) L) (hj : j < 8) (hW : WI F0) (hr : OKr F0) (hdp : 7 ≤ d) (n : Nat) : ∀ (i : Nat) (F : Nat → Int32), i + n = 482 → cpK n i F = cpK 482 0 F0 → WP G iX12_replayed d 0 0 (some (.int (rpM F0 j v).1)) (Mm G Y ((rpM F0 j v).2) E0 L sz) 2 [some (.ref Y), some (.int (nI j)), some (.int v), some (.int (nI i)), none, none] [] (Mm G Y F E0 L sz) 0 0 := by
  induction n with
  | zero =>
    intro i F hi he
    refine wp_ild3 dX12_replayed_2 ?_
    refine wp_sipush (v := 482) dX12_replayed_3 (by decide) ?_
    refine wp_icmp_ge (tgt := 27) dX12_replayed_6 (by decide) (fun c_6 => ?_) (fun c_6 => absurd (nI_le (a := 482) (b := i) (by omega) (by omega)) c_6)
    exact WP.fg (by simp [lcle]) (tm_rp27 hG hM hj he hW hr hdp)
  | succ n ih =>
    intro i F hi he
    refine wp_ild3 dX12_replayed_2 ?_
    refine wp_sipush (v := 482) dX12_replayed_3 (by decide) ?_
    refine wp_icmp_ge (tgt := 27) dX12_replayed_6 (by decide) (fun c_6 => absurd c_6 (nI_ge (a := i) (b := 482) (by omega) (by omega))) (fun c_6 => ?_)
    have hib : i < 482 := by omega
    refine wp_ald0 dX12_replayed_9 ?_
    refine gm_kept dX12_replayed_10 fX12_16 hM ?_
    refine wp_ild3 dX12_replayed_13 ?_
    refine wp_ald0 dX12_replayed_14 ?_
    refine gm_w dX12_replayed_15 fX12_7 hM ?_
    refine wp_ild3 dX12_replayed_18 ?_
    refine rm_w (i' := i) dX12_replayed_19 hG hM rfl (by first | assumption | omega) ?_
    refine sm_kept (i' := i) dX12_replayed_20 hG hM rfl (by first | assumption | omega) ?_
    refine wp_inc3 dX12_replayed_21 (by decide) rfl ?_
    refine wp_goto (tgt := 2) dX12_replayed_24 (by decide) ?_
    exact ih (i + 1) _ (by omega) he
set_option maxHeartbeats 2000000 in
theorem cm_replayed {G : GG} {Y : Nat} {F : Nat → Int32} {E0 : Nat → va_E} {L : List Nat} {sz d : Nat} {j : Nat} {v : Int32} (hG : GOK G) (hM : rIn (mR G Y) L) (hj : j < 8) (hW : WI F) (hr : OKr F) (hdp : 7 ≤ d) : Ct G d yX12_replayed iX12_replayed [.ref Y, .int (nI j), .int v] (Mm G Y F E0 L sz) 0 0 (some (.int (rpM F j v).1)) (Mm G Y ((rpM F j v).2) E0 L sz) := by
  refine Ct.of 3 (by decide) rfl (by decide) (Nat.le_of_ble_eq_true rfl) ?_
  show WP _ _ _ _ _ _ _ 0 [some (.ref Y), some (.int (nI j)), some (.int v), none, none, none] [] _ 0 0
  refine wp_iconst (v := 0) dX12_replayed_0 (by decide) ?_
  refine wp_ist3 dX12_replayed_1 (by decide) rfl ?_
  exact WP.fg (by simp [lcle, nI_0]) (lm_cpK hG hM hj hW hr hdp 482 0 F rfl rfl)

/-- a replay leaves the present world -/
theorem rp_same {F : Nat → Int32} {j : Nat} {v : Int32} (hW : WI F) (hj : j < 8) : ∀ k, (k < 482 ∨ 3000 ≤ k) → (rpM F j v).2 k = F k := by
  intro k hk
  obtain ⟨g1, g2, g3, g4⟩ := rpB_ok (v := v) hW hj
  have r := RO.rpL (nt (F 241)) 0 (rpB F j v) g1 g2
  have e : (rpM F j v).2 = cpR 482 0 (rpL (nt (F 241)) 0 (rpB F j v)) := by simp only [rpM, rpE]
  rw [e, cpR_at 482 0 _ k (by omega)]
  by_cases h1 : 0 ≤ k ∧ k < 0 + 482
  · rw [if_pos h1, r.2.2 _ (by omega)]
    unfold rpB
    rw [begM_at, if_neg (by omega), if_neg (by omega), if_neg (by omega), if_neg (by omega), if_neg (by omega), if_neg (by omega), upd_ne (by omega), cpK_at 482 0 F _ (by omega), if_pos (by omega), show 2000 + k - 2000 = k by omega]
  · rw [if_neg h1, r.2.2 _ (by omega)]
    exact g4 k (by omega)
theorem rp_TS {F : Nat → Int32} {j : Nat} {v : Int32} (h : TS F) (hj : j < 8) : TS (rpM F j v).2 := h.of (fun q hq => rp_same h.1 hj q (by omega))
theorem rp_OKr {F : Nat → Int32} {j : Nat} {v : Int32} (hW : WI F) (hr : OKr F) (hj : j < 8) : OKr (rpM F j v).2 := by
  obtain ⟨m, g1, g2⟩ := hr
  exact ⟨m, g1, (rp_same hW hj 241 (by omega)).trans g2⟩
def rcostM (F : Nat → Int32) (x v : Int32) : Int32 × (Nat → Int32) := if valP x v then rpM F (nt x) v else (-3, F)
theorem in7 {x : Int32} (h : inP x 0 7) : ∃ j, j < 8 ∧ x = nI j := by
  obtain ⟨h1, h2⟩ := in_nat (B := 7) h (by decide) (by decide)
  exact ⟨nt x, by omega, h1⟩
set_option maxHeartbeats 2000000 in
theorem cm_replayCost {G : GG} {Y : Nat} {F : Nat → Int32} {E0 : Nat → va_E} {L : List Nat} {sz d : Nat} {x v : Int32} (hG : GOK G) (hM : rIn (mR G Y) L) (hW : WI F) (hr : OKr F) (hdp : 8 ≤ d) : Ct G d yX12_replayCost iX12_replayCost [.ref Y, .int x, .int v] (Mm G Y F E0 L sz) 0 0 (some (.int (rcostM F x v).1)) (Mm G Y ((rcostM F x v).2) E0 L sz) := by
  refine Ct.of 0 (by decide) rfl (by decide) (Nat.le_of_ble_eq_true rfl) ?_
  show WP _ _ _ _ _ _ _ 0 [some (.ref Y), some (.int x), some (.int v)] [] _ 0 0
  refine wp_ild1 dX12_replayCost_0 ?_
  refine wp_ild2 dX12_replayCost_1 ?_
  refine ci_2 dX12_replayCost_2 kX12_46 (cm_isValue (d := d - 1) (by omega)) (by omega) (Nat.le_of_ble_eq_true rfl) (Nat.le_refl _) (Nat.le_refl _) ?_
  refine wp_ifB_eq (tgt := 17) dX12_replayCost_5 (by decide) (fun c_5 => ?_) (fun c_5 => ?_)
  · refine wp_bipush (v := (-3)) dX12_replayCost_17 (by decide) ?_
    exact wp_iret dX12_replayCost_19 rfl (Nat.le_refl _) (Nat.le_refl _) (by first | with_reducible rfl | (simp only [rcostM, if_neg c_5]; done) | (simp only [rcostM, if_neg c_5]; rfl) | rfl) (by first | with_reducible rfl | (simp only [rcostM, if_neg c_5]; done) | (simp only [rcostM, if_neg c_5]; rfl) | rfl)
  · obtain ⟨j, hj, rfl⟩ := in7 c_5.1
    have e1 : nt (nI j) = j := ntn (by omega)
    refine wp_ald0 dX12_replayCost_8 ?_
    refine wp_ild1 dX12_replayCost_9 ?_
    refine wp_ild2 dX12_replayCost_10 ?_
    refine mi_2 dX12_replayCost_11 kX12_232 (cm_replayed (d := d - 1) hG hM hj hW hr (by omega)) hM rfl (by omega) (Nat.le_of_ble_eq_true rfl) (Nat.le_refl _) (Nat.le_refl _) ?_
    refine wp_goto (tgt := 19) dX12_replayCost_14 (by decide) ?_
    exact wp_iret dX12_replayCost_19 rfl (Nat.le_refl _) (Nat.le_refl _) (by first | with_reducible rfl | (simp only [rcostM, if_pos c_5, e1]; done) | (simp only [rcostM, if_pos c_5, e1]; rfl) | rfl) (by first | with_reducible rfl | (simp only [rcostM, if_pos c_5, e1]; done) | (simp only [rcostM, if_pos c_5, e1]; rfl) | rfl)

def bvL (j : Nat) : Nat → Nat → (Nat → Int32) → Int32 → Int32 → Int32 × (Nat → Int32)
  | 0, _, F, b, _ => (b, F)
  | n + 1, i, F, b, c => if c ≤ (rpM F j (nI i)).1 then bvL j n (i + 1) (rpM F j (nI i)).2 b c else bvL j n (i + 1) (rpM F j (nI i)).2 (nI i) (rpM F j (nI i)).1
def bestM (F : Nat → Int32) (x : Int32) : Int32 × (Nat → Int32) := if inP x 0 7 then bvL (nt x) (nt (mosM x) - nt (leaM x)) (nt (leaM x) + 1) (rpM F (nt x) (leaM x)).2 (leaM x) (rpM F (nt x) (leaM x)).1 else (-3, F)
theorem lm_nat {j : Nat} : leaM (nI j) = nI (nt (leaM (nI j))) ∧ mosM (nI j) = nI (nt (mosM (nI j))) ∧ nt (leaM (nI j)) ≤ nt (mosM (nI j)) ∧ nt (mosM (nI j)) ≤ 20 := by
  unfold leaM mosM
  refine ⟨?_, ?_, ?_, ?_⟩
  · repeat' split
    all_goals decide
  · repeat' split
    all_goals decide
  · repeat' split
    all_goals decide
  · repeat' split
    all_goals decide
set_option maxHeartbeats 2000000 in
theorem lm_bv {G : GG} {Y : Nat} {E0 : Nat → va_E} {L : List Nat} {sz d : Nat} {j g : Nat} (hG : GOK G) (hM : rIn (mR G Y) L) (hj : j < 8) (hg : mosM (nI j) = nI g) (hg20 : g ≤ 20) (hdp : 8 ≤ d) (n : Nat) : ∀ (i : Nat) (F : Nat → Int32) (b c : Int32), i + n = g + 1 → WI F → OKr F → WP G iX12_bestValue d 0 0 (some (.int (bvL j n i F b c).1)) (Mm G Y (bvL j n i F b c).2 E0 L sz) 30 [some (.ref Y), some (.int (nI j)), some (.int b), some (.int c), some (.int (nI i)), none] [] (Mm G Y F E0 L sz) 0 0 := by
  induction n with
  | zero =>
    intro i F b c hi hW hr
    refine wp_ild4 dX12_bestValue_30 ?_
    refine wp_ild1 dX12_bestValue_32 ?_
    refine ci_1 dX12_bestValue_33 kX12_43 (cm_most (d := d - 1)) (by omega) (Nat.le_of_ble_eq_true rfl) (Nat.le_refl _) (Nat.le_refl _) ?_
    refine wp_icmp_gt (tgt := 66) dX12_bestValue_36 (by decide) (fun c_36 => ?_) (fun c_36 => absurd (by rw [hg]; exact Int32.not_le.mp (nI_ge (by omega) (by omega))) c_36)
    refine wp_ild2 dX12_bestValue_66 ?_
    exact wp_iret dX12_bestValue_67 rfl (Nat.le_refl _) (Nat.le_refl _) (by first | with_reducible rfl | (simp only [bvL]; done) | (simp only [bvL]; rfl) | rfl) (by first | with_reducible rfl | (simp only [bvL]; done) | (simp only [bvL]; rfl) | rfl)
  | succ n ih =>
    intro i F b c hi hW hr
    refine wp_ild4 dX12_bestValue_30 ?_
    refine wp_ild1 dX12_bestValue_32 ?_
    refine ci_1 dX12_bestValue_33 kX12_43 (cm_most (d := d - 1)) (by omega) (Nat.le_of_ble_eq_true rfl) (Nat.le_refl _) (Nat.le_refl _) ?_
    refine wp_icmp_gt (tgt := 66) dX12_bestValue_36 (by decide) (fun c_36 => absurd c_36 (by rw [hg]; exact Int32.not_lt.mpr (nI_le (by omega) (by omega)))) (fun c_36 => ?_)
    refine wp_ald0 dX12_bestValue_39 ?_
    refine wp_ild1 dX12_bestValue_40 ?_
    refine wp_ild4 dX12_bestValue_41 ?_
    refine mi_2 dX12_bestValue_43 kX12_232 (cm_replayed (d := d - 1) hG hM hj hW hr (by omega)) hM rfl (by omega) (Nat.le_of_ble_eq_true rfl) (Nat.le_refl _) (Nat.le_refl _) ?_
    refine wp_ist5 dX12_bestValue_46 (by decide) rfl ?_
    refine wp_ild5 dX12_bestValue_48 ?_
    refine wp_ild3 dX12_bestValue_50 ?_
    refine wp_icmp_ge (tgt := 60) dX12_bestValue_51 (by decide) (fun c_51 => ?_) (fun c_51 => ?_)
    · refine wp_inc4 dX12_bestValue_60 (by decide) rfl ?_
      refine wp_goto (tgt := 30) dX12_bestValue_63 (by decide) ?_
      simp only [bvL, if_pos c_51]
      exact WP.fg (by simp [lcle]) (ih (i + 1) _ _ _ (by omega) (hW.of (fun q hq => rp_same hW hj q (by omega))) (rp_OKr hW hr hj))
    · refine wp_ild4 dX12_bestValue_54 ?_
      refine wp_ist2 dX12_bestValue_56 (by decide) rfl ?_
      refine wp_ild5 dX12_bestValue_57 ?_
      refine wp_ist3 dX12_bestValue_59 (by decide) rfl ?_
      refine wp_inc4 dX12_bestValue_60 (by decide) rfl ?_
      refine wp_goto (tgt := 30) dX12_bestValue_63 (by decide) ?_
      simp only [bvL, if_neg c_51]
      exact WP.fg (by simp [lcle]) (ih (i + 1) _ _ _ (by omega) (hW.of (fun q hq => rp_same hW hj q (by omega))) (rp_OKr hW hr hj))
set_option maxHeartbeats 2000000 in
theorem cm_bestValue {G : GG} {Y : Nat} {F : Nat → Int32} {E0 : Nat → va_E} {L : List Nat} {sz d : Nat} {x : Int32} (hG : GOK G) (hM : rIn (mR G Y) L) (hW : WI F) (hr : OKr F) (hdp : 8 ≤ d) : Ct G d yX12_bestValue iX12_bestValue [.ref Y, .int x] (Mm G Y F E0 L sz) 0 0 (some (.int (bestM F x).1)) (Mm G Y ((bestM F x).2) E0 L sz) := by
  refine Ct.of 4 (by decide) rfl (by decide) (Nat.le_of_ble_eq_true rfl) ?_
  show WP _ _ _ _ _ _ _ 0 [some (.ref Y), some (.int x), none, none, none, none] [] _ 0 0
  refine wp_ild1 dX12_bestValue_0 ?_
  refine wp_iconst (v := 0) dX12_bestValue_1 (by decide) ?_
  refine wp_bipush (v := 7) dX12_bestValue_2 (by decide) ?_
  refine ci_3 dX12_bestValue_4 kX12_35 (cm_isIn (d := d - 1)) (by omega) (Nat.le_of_ble_eq_true rfl) (Nat.le_refl _) (Nat.le_refl _) ?_
  refine wp_ifB_ne (tgt := 13) dX12_bestValue_7 (by decide) (fun c_7 => ?_) (fun c_7 => ?_)
  · obtain ⟨j, hj, rfl⟩ := in7 c_7
    have e1 : nt (nI j) = j := ntn (by omega)
    obtain ⟨g1, g2, g3, g4⟩ := lm_nat (j := j)
    refine wp_ild1 dX12_bestValue_13 ?_
    refine ci_1 dX12_bestValue_14 kX12_39 (cm_least (d := d - 1)) (by omega) (Nat.le_of_ble_eq_true rfl) (Nat.le_refl _) (Nat.le_refl _) ?_
    refine wp_ist2 dX12_bestValue_17 (by decide) rfl ?_
    refine wp_ald0 dX12_bestValue_18 ?_
    refine wp_ild1 dX12_bestValue_19 ?_
    refine wp_ild2 dX12_bestValue_20 ?_
    refine mi_2 dX12_bestValue_21 kX12_232 (cm_replayed (d := d - 1) hG hM hj hW hr (by omega)) hM rfl (by omega) (Nat.le_of_ble_eq_true rfl) (Nat.le_refl _) (Nat.le_refl _) ?_
    refine wp_ist3 dX12_bestValue_24 (by decide) rfl ?_
    refine wp_ild2 dX12_bestValue_25 ?_
    refine wp_iconst (v := 1) dX12_bestValue_26 (by decide) ?_
    refine wp_iaddN (a := nt (leaM (nI j))) (b := 1) g1 (by decide) dX12_bestValue_27 ?_
    refine wp_ist4 dX12_bestValue_28 (by decide) rfl ?_
    simp only [bestM, if_pos c_7, e1]
    exact WP.fg (by simp [lcle]) (lm_bv hG hM hj g2 g4 hdp _ _ _ _ _ (by omega) (hW.of (fun q hq => rp_same hW hj q (by omega))) (rp_OKr hW hr hj))
  · refine wp_bipush (v := (-3)) dX12_bestValue_10 (by decide) ?_
    exact wp_iret dX12_bestValue_12 rfl (Nat.le_refl _) (Nat.le_refl _) (by first | with_reducible rfl | (simp only [bestM, if_neg c_7]; done) | (simp only [bestM, if_neg c_7]; rfl) | rfl) (by first | with_reducible rfl | (simp only [bestM, if_neg c_7]; done) | (simp only [bestM, if_neg c_7]; rfl) | rfl)

def cpS (j : Nat) : Nat → Nat → (Nat → Int32) → (Nat → Int32)
  | 0, _, F => F
  | n + 1, i, F => cpS j n (i + 1) (upd F (3000 + ((482 * j) + i)) (F i))
def cpL (j : Nat) : Nat → Nat → (Nat → Int32) → (Nat → Int32)
  | 0, _, F => F
  | n + 1, i, F => cpL j n (i + 1) (upd F i (F (3000 + ((482 * j) + i))))
def svE (F : Nat → Int32) (j : Nat) : Int32 × (Nat → Int32) := (F 9, upd F 9000 (F 9000 ||| (1 <<< (nI j &&& 31))))
def saveM (F : Nat → Int32) (x : Int32) : Int32 × (Nat → Int32) := if inP x 0 1 then svE (cpS (nt x) 482 0 F) (nt x) else (-3, F)
def restM (F : Nat → Int32) (x : Int32) : Int32 × (Nat → Int32) := if inP x 0 1 then (if (F 9000 >>> (x &&& 31)) &&& 1 = 0 then (-7, F) else (cpL (nt x) 482 0 F 9, cpL (nt x) 482 0 F)) else (-3, F)
theorem in1 {x : Int32} (h : inP x 0 1) : ∃ j, j < 2 ∧ x = nI j := by
  obtain ⟨h1, h2⟩ := in_nat (B := 1) h (by decide) (by decide)
  exact ⟨nt x, by omega, h1⟩
set_option maxHeartbeats 2000000 in
theorem tm_sv45 {G : GG} {Y : Nat} {F : Nat → Int32} {E0 : Nat → va_E} {L : List Nat} {sz d : Nat} {j : Nat} (hG : GOK G) (hM : rIn (mR G Y) L)  (hdp : 0 ≤ d) : WP G iX12_save d 0 0 (some (.int (svE F j).1)) (Mm G Y ((svE F j).2) E0 L sz) 45 [some (.ref Y), some (.int (nI j)), none] [] (Mm G Y F E0 L sz) 0 0 := by
  refine wp_ald0 dX12_save_45 ?_
  refine wp_dup dX12_save_46 rfl ?_
  refine gm_filled dX12_save_47 fX12_293 hM ?_
  refine wp_iconst (v := 1) dX12_save_50 (by decide) ?_
  refine wp_ild1 dX12_save_51 ?_
  refine wp_ishl dX12_save_52 ?_
  refine wp_ior dX12_save_53 ?_
  refine pm_filled dX12_save_54 pX12_293 hM ?_
  refine wp_ald0 dX12_save_57 ?_
  refine gm_w dX12_save_58 fX12_7 hM ?_
  refine wp_bipush (v := 9) dX12_save_61 (by decide) ?_
  refine rm_w (i' := 9) dX12_save_63 hG hM (by decide) (by decide) ?_
  exact wp_iret dX12_save_64 rfl (Nat.le_refl _) (Nat.le_refl _) (by first | with_reducible rfl | (simp only [svE]; done) | (simp only [svE]; rfl) | rfl) (by first | with_reducible rfl | (simp only [svE]; done) | (simp only [svE]; rfl) | rfl)
set_option maxHeartbeats 2000000 in
theorem lm_cpS {G : GG} {Y : Nat} {E0 : Nat → va_E} {L : List Nat} {sz d : Nat} {j : Nat} (hG : GOK G) (hM : rIn (mR G Y) L) (hj : j < 2) (n : Nat) : ∀ (i : Nat) (F : Nat → Int32), i + n = 482 → WP G iX12_save d 0 0 (some (.int (svE (cpS j n i F) j).1)) (Mm G Y ((svE (cpS j n i F) j).2) E0 L sz) 14 [some (.ref Y), some (.int (nI j)), some (.int (nI i))] [] (Mm G Y F E0 L sz) 0 0 := by
  induction n with
  | zero =>
    intro i F hi
    refine wp_ild2 dX12_save_14 ?_
    refine wp_sipush (v := 482) dX12_save_15 (by decide) ?_
    refine wp_icmp_ge (tgt := 45) dX12_save_18 (by decide) (fun c_18 => ?_) (fun c_18 => absurd (nI_le (a := 482) (b := i) (by omega) (by omega)) c_18)
    exact WP.fg (by simp [lcle]) (tm_sv45 hG hM (Nat.zero_le _))
  | succ n ih =>
    intro i F hi
    refine wp_ild2 dX12_save_14 ?_
    refine wp_sipush (v := 482) dX12_save_15 (by decide) ?_
    refine wp_icmp_ge (tgt := 45) dX12_save_18 (by decide) (fun c_18 => absurd c_18 (nI_ge (a := i) (b := 482) (by omega) (by omega))) (fun c_18 => ?_)
    have hib : i < 482 := by omega
    refine wp_ald0 dX12_save_21 ?_
    refine gm_slots dX12_save_22 fX12_19 hM ?_
    refine wp_sipush (v := 482) dX12_save_25 (by decide) ?_
    refine wp_ild1 dX12_save_28 ?_
    refine wp_imulN (a := 482) (b := j) (by decide) rfl dX12_save_29 ?_
    refine wp_ild2 dX12_save_30 ?_
    refine wp_iaddN (a := (482 * j)) (b := i) rfl rfl dX12_save_31 ?_
    refine wp_ald0 dX12_save_32 ?_
    refine gm_w dX12_save_33 fX12_7 hM ?_
    refine wp_ild2 dX12_save_36 ?_
    refine rm_w (i' := i) dX12_save_37 hG hM rfl (by first | assumption | omega) ?_
    refine sm_slots (i' := ((482 * j) + i)) dX12_save_38 hG hM rfl (by first | assumption | omega) ?_
    refine wp_inc2 dX12_save_39 (by decide) rfl ?_
    refine wp_goto (tgt := 14) dX12_save_42 (by decide) ?_
    exact ih (i + 1) _ (by omega)
set_option maxHeartbeats 2000000 in
theorem cm_save {G : GG} {Y : Nat} {F : Nat → Int32} {E0 : Nat → va_E} {L : List Nat} {sz d : Nat} {x : Int32} (hG : GOK G) (hM : rIn (mR G Y) L)  (hdp : 1 ≤ d) : Ct G d yX12_save iX12_save [.ref Y, .int x] (Mm G Y F E0 L sz) 0 0 (some (.int (saveM F x).1)) (Mm G Y ((saveM F x).2) E0 L sz) := by
  refine Ct.of 1 (by decide) rfl (by decide) (Nat.le_of_ble_eq_true rfl) ?_
  show WP _ _ _ _ _ _ _ 0 [some (.ref Y), some (.int x), none] [] _ 0 0
  refine wp_ild1 dX12_save_0 ?_
  refine wp_iconst (v := 0) dX12_save_1 (by decide) ?_
  refine wp_iconst (v := 1) dX12_save_2 (by decide) ?_
  refine ci_3 dX12_save_3 kX12_35 (cm_isIn (d := d - 1)) (by omega) (Nat.le_of_ble_eq_true rfl) (Nat.le_refl _) (Nat.le_refl _) ?_
  refine wp_ifB_ne (tgt := 12) dX12_save_6 (by decide) (fun c_6 => ?_) (fun c_6 => ?_)
  · obtain ⟨j, hj, rfl⟩ := in1 c_6
    have e1 : nt (nI j) = j := ntn (by omega)
    refine wp_iconst (v := 0) dX12_save_12 (by decide) ?_
    refine wp_ist2 dX12_save_13 (by decide) rfl ?_
    simp only [saveM, if_pos c_6, e1]
    exact WP.fg (by simp [lcle, nI_0]) (lm_cpS hG hM hj 482 0 F rfl)
  · refine wp_bipush (v := (-3)) dX12_save_9 (by decide) ?_
    exact wp_iret dX12_save_11 rfl (Nat.le_refl _) (Nat.le_refl _) (by first | with_reducible rfl | (simp only [saveM, if_neg c_6]; done) | (simp only [saveM, if_neg c_6]; rfl) | rfl) (by first | with_reducible rfl | (simp only [saveM, if_neg c_6]; done) | (simp only [saveM, if_neg c_6]; rfl) | rfl)

set_option maxHeartbeats 2000000 in
theorem lm_cpL {G : GG} {Y : Nat} {E0 : Nat → va_E} {L : List Nat} {sz d : Nat} {j : Nat} (hG : GOK G) (hM : rIn (mR G Y) L) (hj : j < 2) (n : Nat) : ∀ (i : Nat) (F : Nat → Int32), i + n = 482 → WP G iX12_restore d 0 0 (some (.int (cpL j n i F 9))) (Mm G Y (cpL j n i F) E0 L sz) 28 [some (.ref Y), some (.int (nI j)), some (.int (nI i))] [] (Mm G Y F E0 L sz) 0 0 := by
  induction n with
  | zero =>
    intro i F hi
    refine wp_ild2 dX12_restore_28 ?_
    refine wp_sipush (v := 482) dX12_restore_29 (by decide) ?_
    refine wp_icmp_ge (tgt := 59) dX12_restore_32 (by decide) (fun c_32 => ?_) (fun c_32 => absurd (nI_le (a := 482) (b := i) (by omega) (by omega)) c_32)
    refine wp_ald0 dX12_restore_59 ?_
    refine gm_w dX12_restore_60 fX12_7 hM ?_
    refine wp_bipush (v := 9) dX12_restore_63 (by decide) ?_
    refine rm_w (i' := 9) dX12_restore_65 hG hM (by decide) (by decide) ?_
    exact wp_iret dX12_restore_66 rfl (Nat.le_refl _) (Nat.le_refl _) (by first | with_reducible rfl | (simp only [cpL]; done) | (simp only [cpL]; rfl) | rfl) (by first | with_reducible rfl | (simp only [cpL]; done) | (simp only [cpL]; rfl) | rfl)
  | succ n ih =>
    intro i F hi
    refine wp_ild2 dX12_restore_28 ?_
    refine wp_sipush (v := 482) dX12_restore_29 (by decide) ?_
    refine wp_icmp_ge (tgt := 59) dX12_restore_32 (by decide) (fun c_32 => absurd c_32 (nI_ge (a := i) (b := 482) (by omega) (by omega))) (fun c_32 => ?_)
    have hib : i < 482 := by omega
    refine wp_ald0 dX12_restore_35 ?_
    refine gm_w dX12_restore_36 fX12_7 hM ?_
    refine wp_ild2 dX12_restore_39 ?_
    refine wp_ald0 dX12_restore_40 ?_
    refine gm_slots dX12_restore_41 fX12_19 hM ?_
    refine wp_sipush (v := 482) dX12_restore_44 (by decide) ?_
    refine wp_ild1 dX12_restore_47 ?_
    refine wp_imulN (a := 482) (b := j) (by decide) rfl dX12_restore_48 ?_
    refine wp_ild2 dX12_restore_49 ?_
    refine wp_iaddN (a := (482 * j)) (b := i) rfl rfl dX12_restore_50 ?_
    refine rm_slots (i' := ((482 * j) + i)) dX12_restore_51 hG hM rfl (by first | assumption | omega) ?_
    refine sm_w (i' := i) dX12_restore_52 hG hM rfl (by first | assumption | omega) ?_
    refine wp_inc2 dX12_restore_53 (by decide) rfl ?_
    refine wp_goto (tgt := 28) dX12_restore_56 (by decide) ?_
    exact ih (i + 1) _ (by omega)
set_option maxHeartbeats 2000000 in
theorem cm_restore {G : GG} {Y : Nat} {F : Nat → Int32} {E0 : Nat → va_E} {L : List Nat} {sz d : Nat} {x : Int32} (hG : GOK G) (hM : rIn (mR G Y) L)  (hdp : 1 ≤ d) : Ct G d yX12_restore iX12_restore [.ref Y, .int x] (Mm G Y F E0 L sz) 0 0 (some (.int (restM F x).1)) (Mm G Y ((restM F x).2) E0 L sz) := by
  refine Ct.of 1 (by decide) rfl (by decide) (Nat.le_of_ble_eq_true rfl) ?_
  show WP _ _ _ _ _ _ _ 0 [some (.ref Y), some (.int x), none] [] _ 0 0
  refine wp_ild1 dX12_restore_0 ?_
  refine wp_iconst (v := 0) dX12_restore_1 (by decide) ?_
  refine wp_iconst (v := 1) dX12_restore_2 (by decide) ?_
  refine ci_3 dX12_restore_3 kX12_35 (cm_isIn (d := d - 1)) (by omega) (Nat.le_of_ble_eq_true rfl) (Nat.le_refl _) (Nat.le_refl _) ?_
  refine wp_ifB_ne (tgt := 12) dX12_restore_6 (by decide) (fun c_6 => ?_) (fun c_6 => ?_)
  · obtain ⟨j, hj, rfl⟩ := in1 c_6
    have e1 : nt (nI j) = j := ntn (by omega)
    refine wp_ald0 dX12_restore_12 ?_
    refine gm_filled dX12_restore_13 fX12_293 hM ?_
    refine wp_ild1 dX12_restore_16 ?_
    refine wp_ishr dX12_restore_17 ?_
    refine wp_iconst (v := 1) dX12_restore_18 (by decide) ?_
    refine wp_iand dX12_restore_19 ?_
    refine wp_if_ne (tgt := 26) dX12_restore_20 (by decide) (fun c_20 => ?_) (fun c_20 => ?_)
    · refine wp_iconst (v := 0) dX12_restore_26 (by decide) ?_
      refine wp_ist2 dX12_restore_27 (by decide) rfl ?_
      simp only [restM, if_pos c_6, e1, if_neg c_20]
      exact WP.fg (by simp [lcle, nI_0]) (lm_cpL hG hM hj 482 0 F rfl)
    · refine wp_bipush (v := (-7)) dX12_restore_23 (by decide) ?_
      exact wp_iret dX12_restore_25 rfl (Nat.le_refl _) (Nat.le_refl _) (by first | with_reducible rfl | (simp only [restM, if_pos c_6, e1, if_pos c_20]; done) | (simp only [restM, if_pos c_6, e1, if_pos c_20]; rfl) | rfl) (by first | with_reducible rfl | (simp only [restM, if_pos c_6, e1, if_pos c_20]; done) | (simp only [restM, if_pos c_6, e1, if_pos c_20]; rfl) | rfl)
  · refine wp_bipush (v := (-3)) dX12_restore_9 (by decide) ?_
    exact wp_iret dX12_restore_11 rfl (Nat.le_refl _) (Nat.le_refl _) (by first | with_reducible rfl | (simp only [restM, if_neg c_6]; done) | (simp only [restM, if_neg c_6]; rfl) | rfl) (by first | with_reducible rfl | (simp only [restM, if_neg c_6]; done) | (simp only [restM, if_neg c_6]; rfl) | rfl)

