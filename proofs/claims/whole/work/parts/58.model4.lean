/-- nothing from 241 on changes -/
def Hi (F F' : Nat → Int32) : Prop := ∀ k, 241 ≤ k → F' k = F k
theorem Hi.rf {F : Nat → Int32} : Hi F F := fun _ _ => rfl
theorem Hi.tr {F F1 F2 : Nat → Int32} (h : Hi F F1) (h' : Hi F1 F2) : Hi F F2 := fun k hk => (h' k hk).trans (h k hk)
theorem Hi.up {F F1 : Nat → Int32} {k : Nat} {x : Int32} (h : Hi F F1) (hk : k < 241) : Hi F (upd F1 k x) := fun q hq => by rw [upd_ne (by omega)]; exact h q hq
theorem Hi.r {F F1 : Nat → Int32} (h : Hi F F1) (hr : OKr F) : OKr F1 := by
  obtain ⟨m, h1, h2⟩ := hr
  exact ⟨m, h1, (h 241 (by omega)).trans h2⟩
theorem Hi.drop {F F1 : Nat → Int32} {q p : Nat} {x : Int32} (h : Hi F F1) (hs : OKs F1 q) (hq : q < 241) (hp : p + 6 ≤ 241) : Hi F (dropF F1 q p x) := fun k hk => by rw [dropF_out hs (by omega) (by omega)]; exact h k hk
theorem Hi.qu {F F1 : Nat → Int32} {t o : Nat} (h : Hi F F1) (hW : WI F1) (ht : t < 6) (ho : o < 8) : Hi F (quM F1 t o) := by
  have h6 : nt (F1 (110 + o)) ≤ 6 := (hW.q ho).nat.2
  unfold quM
  exact (((h.up (by omega)).up (by omega)).up (by omega)).up (by omega)
theorem Hi.qf {F F1 : Nat → Int32} {t o : Nat} (h : Hi F F1) (hW : WI F1) (ht : t < 6) (ho : o < 8) : Hi F (qfM F1 t o) := by
  have h6 : nt (F1 (110 + o)) ≤ 6 := (hW.q ho).nat.2
  unfold qfM
  have h0 : Hi F (shf (126 + 6 * o) (nt (F1 (110 + o))) F1) := fun k hk => by rw [shf_out _ _ (fun i hi => by omega)]; exact h k hk
  exact (((h0.up (by omega)).up (by omega)).up (by omega)).up (by omega)
theorem Hi.ew {F F1 : Nat → Int32} {t o : Nat} {a v : Int32} (h : Hi F F1) (hW : WI F1) (ht : t < 6) (ho : o < 8) : Hi F (ewM F1 t o a v) := by
  have h0 : Hi F (upd (dropF F1 (118 + o) (174 + 6 * o) (nI t)) (22 + t) a) := (h.drop (hW.w ho) (by omega) (by omega)).up (by omega)
  have hW1 : WI (upd (dropF F1 (118 + o) (174 + 6 * o) (nI t)) (22 + t) a) := (hW.dropw ho).up (by omega)
  unfold ewM
  split
  · exact h0.qu hW1 ht ho
  · exact h0.qf hW1 ht ho
theorem Hi.hld {F F1 : Nat → Int32} {x : Int32} {o : Nat} {c : Int32} (h : Hi F F1) (ho : o < 8) : Hi F (hldM F1 x o c) := by
  unfold hldM
  split
  · exact (((h.up (by omega)).up (by omega)).up (by omega)).up (by omega)
  · exact (h.up (by omega)).up (by omega)
theorem Hi.acq {F F1 : Nat → Int32} {t o : Nat} (h : Hi F F1) (hW : WI F1) (ht : t < 6) (ho : o < 8) : Hi F (acqM F1 t o) := by
  unfold acqM acq1
  exact (((h.drop (hW.q ho) (by omega) (by omega)).up (by omega)).up (by omega)).hld ho
theorem Hi.rel {F F1 : Nat → Int32} {o : Nat} (h : Hi F F1) (hT : TS F1) (ho : o < 8) : Hi F (relM F1 o) := by
  have h1 : Hi F (rel1 F1 o) := (h.up (by omega)).up (by omega)
  have hW1 : WI (rel1 F1 o) := (hT.of (SamT.rel1 ho)).1
  unfold relM
  split
  · exact (h1.up (by omega)).up (by omega)
  · split
    · split
      · exact h1.up (by omega)
      · rename_i hq
        split
        · exact ((h1.up (by omega)).up (by omega)).acq ((hW1.up (by omega)).up (by omega)) (hT.HD ho (by rw [← rel_q (F := F1) ho (k := 110 + o) (by omega)]; exact hq)).2 ho
        · exact h1.up (by omega)
    · exact h1
theorem SamT.rcd {F : Nat → Int32} {a b c e : Int32} : SamT F (rcdM F a b c e) := by
  unfold rcdM
  split
  · exact SamT.rf
  · exact ((((SamT.rf.up (by omega)).up (by omega)).up (by omega)).up (by omega)).up (by omega)
theorem OKr.rcd {F : Nat → Int32} {a b c e : Int32} (h : OKr F) : OKr (rcdM F a b c e) := by
  obtain ⟨h1, h2⟩ := h.nat
  unfold rcdM
  split
  · exact h
  · rename_i hc
    have hlt : nt (F 241) < 60 := by
      rcases Nat.lt_or_ge (nt (F 241)) 60 with h | h
      · exact h
      · exact absurd (by rw [h1, show nt (F 241) = 60 from Nat.le_antisymm h2 h]; decide) hc
    exact ⟨nt (F 241) + 1, by omega, by rw [upd_eq, upd_ne (by omega), upd_ne (by omega), upd_ne (by omega), upd_ne (by omega), nI_succ, ← h1]⟩
theorem sub1 {T : Nat} (h : 1 ≤ T) : nI T - 1 = nI (T - 1) := nJ_sub (a := T) (b := 1) h
theorem isT_nat {F : Nat → Int32} {x : Int32} (hW : WI F) (h : isT F x) : ∃ t, t < 6 ∧ t < nt (F 0) ∧ x = nI t := by
  obtain ⟨h1, h2⟩ := hW.thr
  obtain ⟨a, b⟩ := h
  rw [h1] at b
  rcases Nat.eq_zero_or_pos (nt (F 0)) with z | z
  · rw [z] at b
    exfalso
    apply b
    have : nI 0 - 1 = -1 := by decide
    rw [this]
    have := Int32.not_lt.mp a
    exact Int32.lt_iff_toInt_lt.mpr (by
      have q := Int32.le_iff_toInt_le.mp this
      have q0 : (0 : Int32).toInt = 0 := by decide
      have q1 : (-1 : Int32).toInt = -1 := by decide
      omega)
  · rw [sub1 z] at b
    have hc : ¬ nI (nt (F 0)) ≤ x := fun q => b (by
      have q := Int32.le_iff_toInt_le.mp q
      rw [nI_toInt (by omega)] at q
      exact Int32.lt_iff_toInt_lt.mpr (by rw [nI_toInt (by omega)]; omega))
    obtain ⟨e1, e2⟩ := nat_of a hc (by omega)
    exact ⟨x.toNatClampNeg, by omega, e2, e1⟩
theorem isOb_nat {y : Int32} (h : isOb y) : ∃ o, o < 8 ∧ y = nI o := by
  obtain ⟨a, b⟩ := h
  have hc : ¬ nI 8 ≤ y := fun q => b (by
    have q := Int32.le_iff_toInt_le.mp q
    have : (nI 8).toInt = 8 := by decide
    have : (7 : Int32).toInt = 7 := by decide
    exact Int32.lt_iff_toInt_lt.mpr (by omega))
  obtain ⟨e1, e2⟩ := nat_of a hc (by decide)
  exact ⟨_, e2, e1⟩
def fbM (F : Nat → Int32) (x y : Int32) : Int32 := if isT F x then (if isOb y then (if F (10 + nt x) = 0 then (if ¬ F (62 + nt y) ≤ 0 then (if F (54 + nt y) = x then 0 else -5) else -5) else -4) else -2) else -1
theorem fb_ok {F : Nat → Int32} {x y : Int32} (hW : WI F) (h : 0 ≤ fbM F x y) : ∃ t o, (t < 6 ∧ t < nt (F 0)) ∧ o < 8 ∧ x = nI t ∧ y = nI o ∧ F (10 + t) = 0 ∧ ¬ F (62 + o) ≤ 0 ∧ F (54 + o) = nI t := by
  unfold fbM at h
  split at h
  · rename_i hx
    split at h
    · rename_i hy
      obtain ⟨t, a1, a2, rfl⟩ := isT_nat hW hx
      obtain ⟨o, b1, rfl⟩ := isOb_nat hy
      rw [ntn (by omega), ntn (by omega)] at h
      split at h
      · split at h
        · split at h
          · exact ⟨t, o, ⟨a1, a2⟩, b1, rfl, rfl, by assumption, by assumption, by assumption⟩
          · exact absurd h (by decide)
        · exact absurd h (by decide)
      · exact absurd h (by decide)
    · exact absurd h (by decide)
  · exact absurd h (by decide)
set_option maxHeartbeats 2000000 in
theorem cm_forbidden {G : GG} {Y : Nat} {F : Nat → Int32} {E0 : Nat → va_E} {L : List Nat} {sz d : Nat} {x y : Int32} (hG : GOK G) (hM : rIn (mR G Y) L) (h : TS F) (hdp : 2 ≤ d) : Ct G d yX12_forbidden iX12_forbidden [.ref Y, .int x, .int y] (Mm G Y F E0 L sz) 0 0 (some (.int (fbM F x y))) (Mm G Y (F) E0 L sz) := by
  refine Ct.of 0 (by decide) rfl (by decide) (Nat.le_of_ble_eq_true rfl) ?_
  show WP _ _ _ _ _ _ _ 0 [some (.ref Y), some (.int x), some (.int y)] [] _ 0 0
  refine wp_ald0 dX12_forbidden_0 ?_
  refine wp_ild1 dX12_forbidden_1 ?_
  refine mi_1 dX12_forbidden_2 kX12_101 (cm_isThread (d := d - 1) hG hM (by omega)) hM rfl (by omega) (Nat.le_of_ble_eq_true rfl) (Nat.le_refl _) (Nat.le_refl _) ?_
  refine wp_ifB_ne (tgt := 10) dX12_forbidden_5 (by decide) (fun c_5 => ?_) (fun c_5 => ?_)
  · refine wp_ild2 dX12_forbidden_10 ?_
    refine ci_1 dX12_forbidden_11 kX12_104 (cm_isObject (d := d - 1) (by omega)) (by omega) (Nat.le_of_ble_eq_true rfl) (Nat.le_refl _) (Nat.le_refl _) ?_
    refine wp_ifB_ne (tgt := 20) dX12_forbidden_14 (by decide) (fun c_14 => ?_) (fun c_14 => ?_)
    · obtain ⟨t, ht, htT, rfl⟩ := isT_nat h.1 c_5
      obtain ⟨o, ho, rfl⟩ := isOb_nat c_14
      have e1 : nt (nI t) = t := ntn (by omega)
      have e2 : nt (nI o) = o := ntn (by omega)
      refine wp_ald0 dX12_forbidden_20 ?_
      refine gm_w dX12_forbidden_21 fX12_7 hM ?_
      refine wp_bipush (v := 10) dX12_forbidden_24 (by decide) ?_
      refine wp_ild1 dX12_forbidden_26 ?_
      refine wp_iaddN (a := 10) (b := t) (by decide) rfl dX12_forbidden_27 ?_
      refine rm_w (i' := (10 + t)) dX12_forbidden_28 hG hM rfl (by first | assumption | omega) ?_
      refine wp_if_eq (tgt := 35) dX12_forbidden_29 (by decide) (fun c_29 => ?_) (fun c_29 => ?_)
      · refine wp_ald0 dX12_forbidden_35 ?_
        refine wp_ild2 dX12_forbidden_36 ?_
        refine mi_1 dX12_forbidden_37 kX12_54 (cm_isHeld (d := d - 1) hG hM (by first | assumption | omega)) hM rfl (by omega) (Nat.le_of_ble_eq_true rfl) (Nat.le_refl _) (Nat.le_refl _) ?_
        refine wp_ifB_eq (tgt := 60) dX12_forbidden_40 (by decide) (fun c_40 => ?_) (fun c_40 => ?_)
        · refine wp_bipush (v := (-5)) dX12_forbidden_60 (by decide) ?_
          exact wp_iret dX12_forbidden_62 rfl (Nat.le_refl _) (Nat.le_refl _) (by first | with_reducible rfl | (simp only [fbM, if_pos c_5, if_pos c_14, e1, e2, if_pos c_29, if_neg c_40]; done) | (simp only [fbM, if_pos c_5, if_pos c_14, e1, e2, if_pos c_29, if_neg c_40]; rfl) | rfl) (by first | with_reducible rfl | (simp only [fbM, if_pos c_5, if_pos c_14, e1, e2, if_pos c_29, if_neg c_40]; done) | (simp only [fbM, if_pos c_5, if_pos c_14, e1, e2, if_pos c_29, if_neg c_40]; rfl) | rfl)
        · refine wp_ald0 dX12_forbidden_43 ?_
          refine gm_w dX12_forbidden_44 fX12_7 hM ?_
          refine wp_bipush (v := 54) dX12_forbidden_47 (by decide) ?_
          refine wp_ild2 dX12_forbidden_49 ?_
          refine wp_iaddN (a := 54) (b := o) (by decide) rfl dX12_forbidden_50 ?_
          refine rm_w (i' := (54 + o)) dX12_forbidden_51 hG hM rfl (by first | assumption | omega) ?_
          refine wp_ild1 dX12_forbidden_52 ?_
          refine wp_icmp_ne (tgt := 60) dX12_forbidden_53 (by decide) (fun c_53 => ?_) (fun c_53 => ?_)
          · refine wp_bipush (v := (-5)) dX12_forbidden_60 (by decide) ?_
            exact wp_iret dX12_forbidden_62 rfl (Nat.le_refl _) (Nat.le_refl _) (by first | with_reducible rfl | (simp only [fbM, if_pos c_5, if_pos c_14, e1, e2, if_pos c_29, if_pos c_40, if_neg c_53]; done) | (simp only [fbM, if_pos c_5, if_pos c_14, e1, e2, if_pos c_29, if_pos c_40, if_neg c_53]; rfl) | rfl) (by first | with_reducible rfl | (simp only [fbM, if_pos c_5, if_pos c_14, e1, e2, if_pos c_29, if_pos c_40, if_neg c_53]; done) | (simp only [fbM, if_pos c_5, if_pos c_14, e1, e2, if_pos c_29, if_pos c_40, if_neg c_53]; rfl) | rfl)
          · refine wp_iconst (v := 0) dX12_forbidden_56 (by decide) ?_
            refine wp_goto (tgt := 62) dX12_forbidden_57 (by decide) ?_
            exact wp_iret dX12_forbidden_62 rfl (Nat.le_refl _) (Nat.le_refl _) (by first | with_reducible rfl | (simp only [fbM, if_pos c_5, if_pos c_14, e1, e2, if_pos c_29, if_pos c_40, if_pos c_53]; done) | (simp only [fbM, if_pos c_5, if_pos c_14, e1, e2, if_pos c_29, if_pos c_40, if_pos c_53]; rfl) | rfl) (by first | with_reducible rfl | (simp only [fbM, if_pos c_5, if_pos c_14, e1, e2, if_pos c_29, if_pos c_40, if_pos c_53]; done) | (simp only [fbM, if_pos c_5, if_pos c_14, e1, e2, if_pos c_29, if_pos c_40, if_pos c_53]; rfl) | rfl)
      · refine wp_bipush (v := (-4)) dX12_forbidden_32 (by decide) ?_
        exact wp_iret dX12_forbidden_34 rfl (Nat.le_refl _) (Nat.le_refl _) (by first | with_reducible rfl | (simp only [fbM, if_pos c_5, if_pos c_14, e1, e2, if_neg c_29]; done) | (simp only [fbM, if_pos c_5, if_pos c_14, e1, e2, if_neg c_29]; rfl) | rfl) (by first | with_reducible rfl | (simp only [fbM, if_pos c_5, if_pos c_14, e1, e2, if_neg c_29]; done) | (simp only [fbM, if_pos c_5, if_pos c_14, e1, e2, if_neg c_29]; rfl) | rfl)
    · refine wp_bipush (v := (-2)) dX12_forbidden_17 (by decide) ?_
      exact wp_iret dX12_forbidden_19 rfl (Nat.le_refl _) (Nat.le_refl _) (by first | with_reducible rfl | (simp only [fbM, if_pos c_5, if_neg c_14]; done) | (simp only [fbM, if_pos c_5, if_neg c_14]; rfl) | rfl) (by first | with_reducible rfl | (simp only [fbM, if_pos c_5, if_neg c_14]; done) | (simp only [fbM, if_pos c_5, if_neg c_14]; rfl) | rfl)
  · refine wp_iconst (v := (-1)) dX12_forbidden_8 (by decide) ?_
    exact wp_iret dX12_forbidden_9 rfl (Nat.le_refl _) (Nat.le_refl _) (by first | with_reducible rfl | (simp only [fbM, if_neg c_5]; done) | (simp only [fbM, if_neg c_5]; rfl) | rfl) (by first | with_reducible rfl | (simp only [fbM, if_neg c_5]; done) | (simp only [fbM, if_neg c_5]; rfl) | rfl)

def cpA : Nat → Nat → (Nat → Int32) → (Nat → Int32)
  | 0, _, F => F
  | n + 1, i, F => cpA n (i + 1) (upd F (1000 + i) (F i))
def cpB : Nat → Nat → (Nat → Int32) → (Nat → Int32)
  | 0, _, F => F
  | n + 1, i, F => cpB n (i + 1) (upd F i (F (1000 + i)))
theorem cpA_lo : ∀ (n i : Nat) (F : Nat → Int32) (k : Nat), k < 1000 → cpA n i F k = F k
  | 0, _, _, _, _ => rfl
  | n + 1, i, F, k, h => by show cpA n (i + 1) _ k = _; rw [cpA_lo n _ _ _ h, upd_ne (by omega)]
set_option maxHeartbeats 2000000 in
theorem lm_enB {G : GG} {Y : Nat} {E0 : Nat → va_E} {L : List Nat} {sz d : Nat}  (hG : GOK G) (hM : rIn (mR G Y) L)  (n : Nat) : ∀ (i : Nat) (F : Nat → Int32), i + n = 482 → WP G iX12_enter d 0 0 (some (.int (-6))) (Mm G Y (cpB n i F) E0 L sz) 89 [some (.ref Y), none, none, none, none, some (.int (nI i))] [] (Mm G Y F E0 L sz) 0 0 := by
  induction n with
  | zero =>
    intro i F hi
    refine wp_ild5 dX12_enter_89 ?_
    refine wp_sipush (v := 482) dX12_enter_91 (by decide) ?_
    refine wp_icmp_ge (tgt := 117) dX12_enter_94 (by decide) (fun c_94 => ?_) (fun c_94 => absurd (nI_le (a := 482) (b := i) (by omega) (by omega)) c_94)
    refine wp_bipush (v := (-6)) dX12_enter_117 (by decide) ?_
    exact wp_iret dX12_enter_119 rfl (Nat.le_refl _) (Nat.le_refl _) (by first | with_reducible rfl | (simp only [cpB]; done) | (simp only [cpB]; rfl) | rfl) (by first | with_reducible rfl | (simp only [cpB]; done) | (simp only [cpB]; rfl) | rfl)
  | succ n ih =>
    intro i F hi
    refine wp_ild5 dX12_enter_89 ?_
    refine wp_sipush (v := 482) dX12_enter_91 (by decide) ?_
    refine wp_icmp_ge (tgt := 117) dX12_enter_94 (by decide) (fun c_94 => absurd c_94 (nI_ge (a := i) (b := 482) (by omega) (by omega))) (fun c_94 => ?_)
    have hib : i < 482 := by omega
    refine wp_ald0 dX12_enter_97 ?_
    refine gm_w dX12_enter_98 fX12_7 hM ?_
    refine wp_ild5 dX12_enter_101 ?_
    refine wp_ald0 dX12_enter_103 ?_
    refine gm_aside dX12_enter_104 fX12_13 hM ?_
    refine wp_ild5 dX12_enter_107 ?_
    refine rm_aside (i' := i) dX12_enter_109 hG hM rfl (by first | assumption | omega) ?_
    refine sm_w (i' := i) dX12_enter_110 hG hM rfl (by first | assumption | omega) ?_
    refine wp_inc5 dX12_enter_111 (by decide) rfl ?_
    refine wp_goto (tgt := 89) dX12_enter_114 (by decide) ?_
    exact ih (i + 1) _ (by omega)
/-- enter behind its checks: F is the state with w laid aside -/
def en62 (F : Nat → Int32) (t o : Nat) : Int32 × (Nat → Int32) := if (etrM F t o).1 = -6 then (-6, cpB 482 0 (etrM F t o).2) else ((etrM F t o).1 + (if rcdM (etrM F t o).2 0 (nI t) (nI o) 0 239 ≤ F 239 then 0 else 10), rcdM (etrM F t o).2 0 (nI t) (nI o) 0)
theorem Hi.inf2 {F F1 : Nat → Int32} {o : Nat} (h : Hi F F1) (ho : o < 8) : Hi F (inf2 F1 o) := (((h.up (by omega)).up (by omega)).up (by omega)).up (by omega)
theorem Hi.infM {F F1 : Nat → Int32} {o : Nat} (h : Hi F F1) (ho : o < 8) : Hi F (infM F1 o) := by
  show Hi F (if _ then _ else _)
  split
  · exact h.inf2 ho
  · show Hi F (infK F1 o (lidM F1))
    cases hl : lidM F1 with
    | none => exact h
    | some j => have := lidM_lt hl; exact ((h.up (by omega)).up (by omega)).inf2 ho
theorem Hi.ub {F F1 : Nat → Int32} {o : Nat} (h : Hi F F1) (ho : o < 8) : Hi F (ubM F1 o) := (h.up (by omega)).up (by omega)
theorem Hi.ebML : ∀ (n k : Nat) (F F1 : Nat → Int32), Hi F F1 → Hi F (ebML n k F1)
  | 0, _, _, _, h => h
  | n + 1, k, F, F1, h => by
    show Hi F (if 8 ≤ k then F1 else _)
    split
    · exact h
    · refine Hi.ebML n (k + 3) F _ ?_
      show Hi F (if F1 (46 + k) = 1 then ubM F1 k else if F1 (46 + k) = 2 then ubM F1 k else F1)
      split
      · exact h.ub (by omega)
      · split
        · exact h.ub (by omega)
        · exact h
theorem Hi.beL {c : Nat} : ∀ (n k : Nat) (F F1 : Nat → Int32), Hi F F1 → Hi F (beL c n k F1)
  | 0, _, _, _, h => h
  | n + 1, k, F, F1, h => by
    show Hi F (if 8 ≤ k then F1 else _)
    split
    · exact h
    · refine Hi.beL n (k + 3) F _ ?_
      show Hi F (if F1 (46 + k) = 2 then (if ¬ F1 (62 + k) ≤ 0 then upd F1 (78 + k) (F1 (222 + c)) else F1) else F1)
      split
      · split
        · exact h.up (by omega)
        · exact h
      · exact h
theorem Hi.revM {F F1 : Nat → Int32} {o : Nat} (h : Hi F F1) (ho : o < 8) : Hi F (revM F1 o) := by
  have h3 : o % 3 < 3 := Nat.mod_lt _ (by decide)
  have h0 : Hi F (rev0 F1 o) := (h.up (by omega)).up (by omega)
  have hb : Hi F (begeF (rev0 F1 o) (o % 3)) := Hi.beL _ _ _ _ (h0.up (by omega))
  show Hi F (if _ then _ else _)
  split
  · split
    · split
      · exact hb.ub ho
      · exact hb
    · exact h0.ub ho
  · exact Hi.ebML _ _ _ _ (h0.up (by omega))
theorem Hi.bia {F F1 : Nat → Int32} {t o : Nat} {v : Int32} (h : Hi F F1) (ho : o < 8) : Hi F (biaM F1 t o v) := by
  unfold biaM bia4
  exact ((((h.up (by omega)).up (by omega)).up (by omega)).up (by omega)).hld ho
theorem Hi.enb {F F1 : Nat → Int32} {t o : Nat} (h : Hi F F1) (hW : WI F1) (ht : t < 6) (ho : o < 8) : Hi F (enb F1 t o).2 := ((h.up (by omega)).up (by omega)).qu ((hW.up (by omega)).up (by omega)) ht ho
theorem Hi.entd {F F1 : Nat → Int32} {t o : Nat} (h : Hi F F1) (hW : WI F1) (ht : t < 6) (ho : o < 8) : Hi F (entdM F1 t o).2 := by
  have a150 : Hi F (en150 F1 t o).2 := by
    unfold en150
    split
    · split
      · exact (h.infM ho).enb (hW.of (SameS.infM ho)) ht ho
      · exact h.infM ho
    · exact h.enb hW ht ho
  have a80 : Hi F (en80 F1 t o).2 := by
    unfold en80
    split
    · split
      · exact a150
      · exact ((h.up (by omega)).up (by omega)).hld ho
    · exact a150
  have a37 : Hi F (en37 F1 t o).2 := by
    unfold en37
    split
    · exact ((h.up (by omega)).up (by omega)).hld ho
    · exact a80
  unfold entdM
  split
  · split
    · exact a37
    · split
      · exact a37
      · exact h.bia ho
  · exact a37
theorem Hi.etr {F F1 : Nat → Int32} {t o : Nat} (h : Hi F F1) (hW : WI F1) (ht : t < 6) (ho : o < 8) : Hi F (etrM F1 t o).2 := by
  have a149 : Hi F (et149 F1 t o).2 := by
    unfold et149
    split
    · split
      · exact (h.revM ho).entd (hW.of (SameS.revM ho)) ht ho
      · exact h.entd hW ht ho
    · exact h.entd hW ht ho
  have a99 : Hi F (et99 F1 t o).2 := by
    unfold et99
    split
    · split
      · exact a149
      · split
        · split
          · exact h.bia ho
          · exact a149
        · exact a149
    · exact a149
  have a78 : Hi F (et78 F1 t o).2 := by
    unfold et78
    split
    · exact h.bia ho
    · exact a99
  unfold etrM
  split
  · split
    · split
      · split
        · exact h.up (by omega)
        · split
          · exact (h.infM ho).up (by omega)
          · exact h.infM ho
      · exact h.up (by omega)
    · exact a78
  · exact a78
set_option maxHeartbeats 2000000 in
theorem tm_en62 {G : GG} {Y : Nat} {F : Nat → Int32} {E0 : Nat → va_E} {L : List Nat} {sz d : Nat} {t o : Nat} (hG : GOK G) (hM : rIn (mR G Y) L) (ht : t < 6) (ho : o < 8) (hW : WI F) (hr : OKr F) (hdp : 5 ≤ d) : WP G iX12_enter d 0 0 (some (.int (en62 F t o).1)) (Mm G Y ((en62 F t o).2) E0 L sz) 62 [some (.ref Y), some (.int (nI t)), some (.int (nI o)), none, none, none] [] (Mm G Y F E0 L sz) 0 0 := by
  refine wp_ald0 dX12_enter_62 ?_
  refine gm_w dX12_enter_63 fX12_7 hM ?_
  refine wp_sipush (v := 239) dX12_enter_66 (by decide) ?_
  refine rm_w (i' := 239) dX12_enter_69 hG hM (by decide) (by decide) ?_
  refine wp_ist3 dX12_enter_70 (by decide) rfl ?_
  refine wp_ald0 dX12_enter_71 ?_
  refine wp_ild1 dX12_enter_72 ?_
  refine wp_ild2 dX12_enter_73 ?_
  refine mi_2 dX12_enter_74 kX12_107 (cm_entering (d := d - 1) hG hM ht ho hW (by omega)) hM rfl (by omega) (Nat.le_of_ble_eq_true rfl) (Nat.le_refl _) (Nat.le_refl _) ?_
  refine wp_ist4 dX12_enter_77 (by decide) rfl ?_
  refine wp_ild4 dX12_enter_79 ?_
  refine wp_bipush (v := (-6)) dX12_enter_81 (by decide) ?_
  refine wp_icmp_ne (tgt := 120) dX12_enter_83 (by decide) (fun c_83 => ?_) (fun c_83 => ?_)
  · refine wp_ald0 dX12_enter_120 ?_
    refine wp_iconst (v := 0) dX12_enter_121 (by decide) ?_
    refine wp_ild1 dX12_enter_122 ?_
    refine wp_ild2 dX12_enter_123 ?_
    refine wp_iconst (v := 0) dX12_enter_124 (by decide) ?_
    refine mv_4 dX12_enter_125 kX12_110 (cm_record (d := d - 1) hG hM ((Hi.rf.etr hW ht ho).r hr)) hM rfl (by omega) (Nat.le_of_ble_eq_true rfl) (Nat.le_refl _) (Nat.le_refl _) ?_
    refine wp_ild4 dX12_enter_128 ?_
    refine wp_ald0 dX12_enter_130 ?_
    refine gm_w dX12_enter_131 fX12_7 hM ?_
    refine wp_sipush (v := 239) dX12_enter_134 (by decide) ?_
    refine rm_w (i' := 239) dX12_enter_137 hG hM (by decide) (by decide) ?_
    refine wp_ild3 dX12_enter_138 ?_
    refine wp_icmp_le (tgt := 147) dX12_enter_139 (by decide) (fun c_139 => ?_) (fun c_139 => ?_)
    · refine wp_iconst (v := 0) dX12_enter_147 (by decide) ?_
      refine wp_iadd dX12_enter_148 ?_
      exact wp_iret dX12_enter_149 rfl (Nat.le_refl _) (Nat.le_refl _) (by first | with_reducible rfl | (simp only [en62, if_neg c_83, if_pos c_139]; done) | (simp only [en62, if_neg c_83, if_pos c_139]; rfl) | rfl) (by first | with_reducible rfl | (simp only [en62, if_neg c_83, if_pos c_139]; done) | (simp only [en62, if_neg c_83, if_pos c_139]; rfl) | rfl)
    · refine wp_bipush (v := 10) dX12_enter_142 (by decide) ?_
      refine wp_goto (tgt := 148) dX12_enter_144 (by decide) ?_
      refine wp_iadd dX12_enter_148 ?_
      exact wp_iret dX12_enter_149 rfl (Nat.le_refl _) (Nat.le_refl _) (by first | with_reducible rfl | (simp only [en62, if_neg c_83, if_neg c_139]; done) | (simp only [en62, if_neg c_83, if_neg c_139]; rfl) | rfl) (by first | with_reducible rfl | (simp only [en62, if_neg c_83, if_neg c_139]; done) | (simp only [en62, if_neg c_83, if_neg c_139]; rfl) | rfl)
  · refine wp_iconst (v := 0) dX12_enter_86 (by decide) ?_
    refine wp_ist5 dX12_enter_87 (by decide) rfl ?_
    simp only [en62, if_pos c_83]
    exact WP.fg (by simp [lcle, nI_0]) (lm_enB hG hM 482 0 _ rfl)
theorem OKr_up {F : Nat → Int32} {k : Nat} {x : Int32} (hk : k ≠ 241) (h : OKr F) : OKr (upd F k x) := by
  obtain ⟨m, h1, h2⟩ := h
  exact ⟨m, h1, by rw [upd_ne (fun e => hk e.symm)]; exact h2⟩
def enterM (F : Nat → Int32) (x y : Int32) : Int32 × (Nat → Int32) := if isT F x then (if isOb y then (if F (10 + nt x) = 0 then en62 (cpA 482 0 F) (nt x) (nt y) else (-4, F)) else (-2, F)) else (-1, F)
set_option maxHeartbeats 2000000 in
theorem lm_enA {G : GG} {Y : Nat} {E0 : Nat → va_E} {L : List Nat} {sz d : Nat} {t o : Nat} (hG : GOK G) (hM : rIn (mR G Y) L) (ht : t < 6) (ho : o < 8) (hdp : 5 ≤ d) (n : Nat) : ∀ (i : Nat) (F : Nat → Int32), i + n = 482 → WI F → OKr F → WP G iX12_enter d 0 0 (some (.int (en62 (cpA n i F) t o).1)) (Mm G Y ((en62 (cpA n i F) t o).2) E0 L sz) 37 [some (.ref Y), some (.int (nI t)), some (.int (nI o)), some (.int (nI i)), none, none] [] (Mm G Y F E0 L sz) 0 0 := by
  induction n with
  | zero =>
    intro i F hi hW hr
    refine wp_ild3 dX12_enter_37 ?_
    refine wp_sipush (v := 482) dX12_enter_38 (by decide) ?_
    refine wp_icmp_ge (tgt := 62) dX12_enter_41 (by decide) (fun c_41 => ?_) (fun c_41 => absurd (nI_le (a := 482) (b := i) (by omega) (by omega)) c_41)
    exact WP.fg (by simp [lcle]) (tm_en62 hG hM ht ho hW hr hdp)
  | succ n ih =>
    intro i F hi hW hr
    refine wp_ild3 dX12_enter_37 ?_
    refine wp_sipush (v := 482) dX12_enter_38 (by decide) ?_
    refine wp_icmp_ge (tgt := 62) dX12_enter_41 (by decide) (fun c_41 => absurd c_41 (nI_ge (a := i) (b := 482) (by omega) (by omega))) (fun c_41 => ?_)
    have hib : i < 482 := by omega
    refine wp_ald0 dX12_enter_44 ?_
    refine gm_aside dX12_enter_45 fX12_13 hM ?_
    refine wp_ild3 dX12_enter_48 ?_
    refine wp_ald0 dX12_enter_49 ?_
    refine gm_w dX12_enter_50 fX12_7 hM ?_
    refine wp_ild3 dX12_enter_53 ?_
    refine rm_w (i' := i) dX12_enter_54 hG hM rfl (by first | assumption | omega) ?_
    refine sm_aside (i' := i) dX12_enter_55 hG hM rfl (by first | assumption | omega) ?_
    refine wp_inc3 dX12_enter_56 (by decide) rfl ?_
    refine wp_goto (tgt := 37) dX12_enter_59 (by decide) ?_
    exact ih (i + 1) _ (by omega) (hW.up (by omega)) (OKr_up (by omega) hr)
set_option maxHeartbeats 2000000 in
theorem cm_enter {G : GG} {Y : Nat} {F : Nat → Int32} {E0 : Nat → va_E} {L : List Nat} {sz d : Nat} {x y : Int32} (hG : GOK G) (hM : rIn (mR G Y) L) (h : TS F) (hr : OKr F) (hdp : 5 ≤ d) : Ct G d yX12_enter iX12_enter [.ref Y, .int x, .int y] (Mm G Y F E0 L sz) 0 0 (some (.int (enterM F x y).1)) (Mm G Y ((enterM F x y).2) E0 L sz) := by
  refine Ct.of 3 (by decide) rfl (by decide) (Nat.le_of_ble_eq_true rfl) ?_
  show WP _ _ _ _ _ _ _ 0 [some (.ref Y), some (.int x), some (.int y), none, none, none] [] _ 0 0
  refine wp_ald0 dX12_enter_0 ?_
  refine wp_ild1 dX12_enter_1 ?_
  refine mi_1 dX12_enter_2 kX12_101 (cm_isThread (d := d - 1) hG hM (by omega)) hM rfl (by omega) (Nat.le_of_ble_eq_true rfl) (Nat.le_refl _) (Nat.le_refl _) ?_
  refine wp_ifB_ne (tgt := 10) dX12_enter_5 (by decide) (fun c_5 => ?_) (fun c_5 => ?_)
  · refine wp_ild2 dX12_enter_10 ?_
    refine ci_1 dX12_enter_11 kX12_104 (cm_isObject (d := d - 1) (by omega)) (by omega) (Nat.le_of_ble_eq_true rfl) (Nat.le_refl _) (Nat.le_refl _) ?_
    refine wp_ifB_ne (tgt := 20) dX12_enter_14 (by decide) (fun c_14 => ?_) (fun c_14 => ?_)
    · obtain ⟨t, ht, htT, rfl⟩ := isT_nat h.1 c_5
      obtain ⟨o, ho, rfl⟩ := isOb_nat c_14
      have e1 : nt (nI t) = t := ntn (by omega)
      have e2 : nt (nI o) = o := ntn (by omega)
      refine wp_ald0 dX12_enter_20 ?_
      refine gm_w dX12_enter_21 fX12_7 hM ?_
      refine wp_bipush (v := 10) dX12_enter_24 (by decide) ?_
      refine wp_ild1 dX12_enter_26 ?_
      refine wp_iaddN (a := 10) (b := t) (by decide) rfl dX12_enter_27 ?_
      refine rm_w (i' := (10 + t)) dX12_enter_28 hG hM rfl (by first | assumption | omega) ?_
      refine wp_if_eq (tgt := 35) dX12_enter_29 (by decide) (fun c_29 => ?_) (fun c_29 => ?_)
      · refine wp_iconst (v := 0) dX12_enter_35 (by decide) ?_
        refine wp_ist3 dX12_enter_36 (by decide) rfl ?_
        simp only [enterM, if_pos c_5, if_pos c_14, e1, e2, if_pos c_29]
        exact WP.fg (by simp [lcle, nI_0]) (lm_enA hG hM ht ho hdp 482 0 F rfl h.1 hr)
      · refine wp_bipush (v := (-4)) dX12_enter_32 (by decide) ?_
        exact wp_iret dX12_enter_34 rfl (Nat.le_refl _) (Nat.le_refl _) (by first | with_reducible rfl | (simp only [enterM, if_pos c_5, if_pos c_14, e1, e2, if_neg c_29]; done) | (simp only [enterM, if_pos c_5, if_pos c_14, e1, e2, if_neg c_29]; rfl) | rfl) (by first | with_reducible rfl | (simp only [enterM, if_pos c_5, if_pos c_14, e1, e2, if_neg c_29]; done) | (simp only [enterM, if_pos c_5, if_pos c_14, e1, e2, if_neg c_29]; rfl) | rfl)
    · refine wp_bipush (v := (-2)) dX12_enter_17 (by decide) ?_
      exact wp_iret dX12_enter_19 rfl (Nat.le_refl _) (Nat.le_refl _) (by first | with_reducible rfl | (simp only [enterM, if_pos c_5, if_neg c_14]; done) | (simp only [enterM, if_pos c_5, if_neg c_14]; rfl) | rfl) (by first | with_reducible rfl | (simp only [enterM, if_pos c_5, if_neg c_14]; done) | (simp only [enterM, if_pos c_5, if_neg c_14]; rfl) | rfl)
  · refine wp_iconst (v := (-1)) dX12_enter_8 (by decide) ?_
    exact wp_iret dX12_enter_9 rfl (Nat.le_refl _) (Nat.le_refl _) (by first | with_reducible rfl | (simp only [enterM, if_neg c_5]; done) | (simp only [enterM, if_neg c_5]; rfl) | rfl) (by first | with_reducible rfl | (simp only [enterM, if_neg c_5]; done) | (simp only [enterM, if_neg c_5]; rfl) | rfl)

