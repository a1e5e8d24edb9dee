def dM1 (F : Nat → Int32) (t o : Nat) : Nat → Int32 := dropF (dropF F (110 + o) (126 + 6 * o) (nI t)) (118 + o) (174 + 6 * o) (nI t)
def dM2 (F : Nat → Int32) (t : Nat) : Nat → Int32 := upd (upd (upd F (10 + t) 3) (28 + t) (-8)) (16 + t) 0
def dMS (F : Nat → Int32) (x : Int32) (i : Nat) : Nat → Int32 := if ¬ F (62 + i) ≤ 0 then (if F (54 + i) = x then relM (upd F (86 + i) 1) i else F) else F
def dML (x : Int32) : Nat → Nat → (Nat → Int32) → Int32 → Int32 × (Nat → Int32)
  | 0, _, F, a => (a, F)
  | n + 1, i, F, a => dML x n (i + 1) (dMS F x i) (if ¬ F (62 + i) ≤ 0 then (if F (54 + i) = x then a + 1 else a) else a)
theorem TS.at_ {F : Nat → Int32} {t : Nat} (h : TS F) (ht : t < nt (F 0)) (hn : ¬ F (28 + t) = -8) : ∃ o, o < 8 ∧ F (28 + t) = nI o := by
  rcases h.2.2.2.2 t ht with ⟨-, o, ho, g, -⟩ | ⟨-, o, ho, g, -⟩ | ⟨-, g⟩
  · exact ⟨o, ho, g⟩
  · exact ⟨o, ho, g⟩
  · exact absurd g hn
theorem TS.die1 {F : Nat → Int32} {t o : Nat} (h : TS F) (ht : t < nt (F 0)) (ho : o < 8) (ha : F (28 + t) = nI o) : TS (dM2 (dM1 F t o) t) := by
  unfold dM2 dM1
  have hT := h.1.thr.2
  have hW1 := h.1.dropq (x := nI t) ho
  have e0 : ∀ k, k < 110 → dropF (dropF F (110 + o) (126 + 6 * o) (nI t)) (118 + o) (174 + 6 * o) (nI t) k = F k := fun k hk => by rw [dropF_out (hW1.w ho) (by omega) (by omega), dropF_out (h.1.q ho) (by omega) (by omega)]
  have nq : ∀ o', o' < 8 → o' ≠ o → nI t ∉ Qs F o' := fun o' ho' hne => h.notq ht ho' (fun q => hne ((nI_o ho ho').mp (ha.symm.trans q.2)))
  have nw : ∀ o', o' < 8 → o' ≠ o → nI t ∉ Ws F o' := fun o' ho' hne => h.notw ht ho' (fun q => hne ((nI_o ho ho').mp (ha.symm.trans q.2)))
  refine TS.up (k := 16 + t) (x := 0) (h.outl ht (Or.inr rfl) (hW1.dropw ho) (e0 0 (by omega)) (fun u hu => e0 _ (by omega)) (fun u hu => e0 _ (by omega)) (fun o' ho' => ?_) (fun o' x ho' => ?_) (fun o' x ho' => ?_)) (by omega)
  · rw [Qs_dropw hW1 ho ho', Ws_dropw hW1 ho ho', Qs_dropq h.1 ho ho', Ws_dropq h.1 ho ho', Ws_dropq h.1 ho ho]
    refine ⟨?_, ?_⟩
    · split
      · exact nodup_filt (h.2.1 o ho).1
      · exact (h.2.1 o' ho').1
    · split
      · exact nodup_filt (h.2.1 o ho).2
      · exact (h.2.1 o' ho').2
  · rw [Qs_dropw hW1 ho ho', Qs_dropq h.1 ho ho']
    split
    · rename_i e; subst e; exact mem_filt
    · rename_i e
      exact ⟨fun m => ⟨m, fun q => nq o' ho' e (q ▸ m)⟩, fun m => m.1⟩
  · rw [Ws_dropw hW1 ho ho', Ws_dropq h.1 ho ho', Ws_dropq h.1 ho ho]
    split
    · rename_i e; subst e; exact mem_filt
    · rename_i e
      exact ⟨fun m => ⟨m, fun q => nw o' ho' e (q ▸ m)⟩, fun m => m.1⟩
theorem TS.die2 {F : Nat → Int32} {t : Nat} (h : TS F) (ht : t < nt (F 0)) (ha : F (28 + t) = -8) : TS (dM2 F t) := by
  have hT := h.1.thr.2
  have nq : ∀ o', o' < 8 → nI t ∉ Qs F o' := fun o' ho' => h.notq ht ho' (fun q => m8 ho' (ha.symm.trans q.2))
  have nw : ∀ o', o' < 8 → nI t ∉ Ws F o' := fun o' ho' => h.notw ht ho' (fun q => m8 ho' (ha.symm.trans q.2))
  exact TS.up (k := 16 + t) (x := 0) (h.outl ht (Or.inr rfl) h.1 rfl (fun u hu => rfl) (fun u hu => rfl) (fun o' ho' => h.2.1 o' ho') (fun o' x ho' => ⟨fun m => ⟨m, fun q => nq o' ho' (q ▸ m)⟩, fun m => m.1⟩) (fun o' x ho' => ⟨fun m => ⟨m, fun q => nw o' ho' (q ▸ m)⟩, fun m => m.1⟩)) (by omega)
theorem OKr.d1 {F : Nat → Int32} {t o : Nat} (hr : OKr F) (hW : WI F) (ht : t < 6) (ho : o < 8) : OKr (dM2 (dM1 F t o) t) := by
  unfold dM2 dM1
  have h1 : Hi F (dropF (dropF F (110 + o) (126 + 6 * o) (nI t)) (118 + o) (174 + 6 * o) (nI t)) := (Hi.rf.drop (hW.q ho) (by omega) (by omega)).drop ((hW.dropq ho).w ho) (by omega) (by omega)
  exact (((h1.up (by omega)).up (by omega)).up (by omega)).r hr
theorem TS.dMS {F : Nat → Int32} {x : Int32} {i : Nat} (h : TS F) (hi : i < 8) : TS (dMS F x i) := by
  show TS (if _ then (if _ then _ else _) else _)
  split
  · split
    · exact (h.up (by omega)).rel hi
    · exact h
  · exact h
theorem Hi.dMS {F F1 : Nat → Int32} {x : Int32} {i : Nat} (h : Hi F F1) (hT : TS F1) (hi : i < 8) : Hi F (dMS F1 x i) := by
  show Hi F (if _ then (if _ then _ else _) else _)
  split
  · split
    · exact (h.up (by omega)).rel (hT.up (by omega)) hi
    · exact h
  · exact h
def dEnd (F : Nat → Int32) (t : Nat) : Int32 × (Nat → Int32) := ((dML (nI t) 8 0 (dM2 F t) 0).1, rcdM (dML (nI t) 8 0 (dM2 F t) 0).2 6 (nI t) 0 0)
set_option maxHeartbeats 2000000 in
theorem lm_die {G : GG} {Y : Nat} {E0 : Nat → va_E} {L : List Nat} {sz d : Nat} {t : Nat} (hG : GOK G) (hM : rIn (mR G Y) L) (hdp : 3 ≤ d) (n : Nat) : ∀ (i : Nat) (F : Nat → Int32) (a : Int32), i + n = 8 → TS F → OKr F → WP G iX12_die d 0 0 (some (.int (dML (nI t) n i F a).1)) (Mm G Y (rcdM (dML (nI t) n i F a).2 6 (nI t) 0 0) E0 L sz) 111 [some (.ref Y), some (.int (nI t)), none, some (.int a), some (.int (nI i))] [] (Mm G Y F E0 L sz) 0 0 := by
  induction n with
  | zero =>
    intro i F a hi h hr
    refine wp_ild4 dX12_die_111 ?_
    refine wp_bipush (v := 8) dX12_die_113 (by decide) ?_
    refine wp_icmp_ge (tgt := 167) dX12_die_115 (by decide) (fun c_115 => ?_) (fun c_115 => absurd (nI_le (a := 8) (b := i) (by omega) (by omega)) c_115)
    refine wp_ald0 dX12_die_167 ?_
    refine wp_bipush (v := 6) dX12_die_168 (by decide) ?_
    refine wp_ild1 dX12_die_170 ?_
    refine wp_iconst (v := 0) dX12_die_171 (by decide) ?_
    refine wp_iconst (v := 0) dX12_die_172 (by decide) ?_
    refine mv_4 dX12_die_173 kX12_110 (cm_record (d := d - 1) hG hM hr) hM rfl (by omega) (Nat.le_of_ble_eq_true rfl) (Nat.le_refl _) (Nat.le_refl _) ?_
    refine wp_ild3 dX12_die_176 ?_
    exact wp_iret dX12_die_177 rfl (Nat.le_refl _) (Nat.le_refl _) (by first | with_reducible rfl | (simp only [dML]; done) | (simp only [dML]; rfl) | rfl) (by first | with_reducible rfl | (simp only [dML]; done) | (simp only [dML]; rfl) | rfl)
  | succ n ih =>
    intro i F a hi h hr
    refine wp_ild4 dX12_die_111 ?_
    refine wp_bipush (v := 8) dX12_die_113 (by decide) ?_
    refine wp_icmp_ge (tgt := 167) dX12_die_115 (by decide) (fun c_115 => absurd c_115 (nI_ge (a := i) (b := 8) (by omega) (by omega))) (fun c_115 => ?_)
    have hi8 : i < 8 := by omega
    refine wp_ald0 dX12_die_118 ?_
    refine wp_ild4 dX12_die_119 ?_
    refine mi_1 dX12_die_121 kX12_54 (cm_isHeld (d := d - 1) hG hM (by first | assumption | omega)) hM rfl (by omega) (Nat.le_of_ble_eq_true rfl) (Nat.le_refl _) (Nat.le_refl _) ?_
    refine wp_ifB_eq (tgt := 161) dX12_die_124 (by decide) (fun c_124 => ?_) (fun c_124 => ?_)
    · refine wp_inc4 dX12_die_161 (by decide) rfl ?_
      refine wp_goto (tgt := 111) dX12_die_164 (by decide) ?_
      have e : dMS F (nI t) i = F := by simp only [dMS, if_neg c_124]
      have h1 := h.dMS (x := nI t) hi8
      have r1 := (Hi.rf.dMS (x := nI t) h hi8).r hr
      simp only [dML, if_neg c_124]
      rw [e] at h1 r1 ⊢
      exact ih (i + 1) _ a (by omega) h1 r1
    · refine wp_ald0 dX12_die_127 ?_
      refine gm_w dX12_die_128 fX12_7 hM ?_
      refine wp_bipush (v := 54) dX12_die_131 (by decide) ?_
      refine wp_ild4 dX12_die_133 ?_
      refine wp_iaddN (a := 54) (b := i) (by decide) rfl dX12_die_135 ?_
      refine rm_w (i' := (54 + i)) dX12_die_136 hG hM rfl (by first | assumption | omega) ?_
      refine wp_ild1 dX12_die_137 ?_
      refine wp_icmp_ne (tgt := 161) dX12_die_138 (by decide) (fun c_138 => ?_) (fun c_138 => ?_)
      · refine wp_inc4 dX12_die_161 (by decide) rfl ?_
        refine wp_goto (tgt := 111) dX12_die_164 (by decide) ?_
        have e : dMS F (nI t) i = F := by simp only [dMS, if_pos c_124, if_neg c_138]
        have h1 := h.dMS (x := nI t) hi8
        have r1 := (Hi.rf.dMS (x := nI t) h hi8).r hr
        simp only [dML, if_pos c_124, if_neg c_138]
        rw [e] at h1 r1 ⊢
        exact ih (i + 1) _ a (by omega) h1 r1
      · refine wp_iinc3 dX12_die_141 (by decide) rfl ?_
        refine wp_ald0 dX12_die_144 ?_
        refine gm_w dX12_die_145 fX12_7 hM ?_
        refine wp_bipush (v := 86) dX12_die_148 (by decide) ?_
        refine wp_ild4 dX12_die_150 ?_
        refine wp_iaddN (a := 86) (b := i) (by decide) rfl dX12_die_152 ?_
        refine wp_iconst (v := 1) dX12_die_153 (by decide) ?_
        refine sm_w (i' := (86 + i)) dX12_die_154 hG hM rfl (by first | assumption | omega) ?_
        refine wp_ald0 dX12_die_155 ?_
        refine wp_ild4 dX12_die_156 ?_
        refine mv_1 dX12_die_158 kX12_117 (cm_release (d := d - 1) hG hM hi8 ((h.up (by omega)).1.q hi8) ((h.up (by omega)).HD hi8) (by omega)) hM rfl (by omega) (Nat.le_of_ble_eq_true rfl) (Nat.le_refl _) (Nat.le_refl _) ?_
        refine wp_inc4 dX12_die_161 (by decide) rfl ?_
        refine wp_goto (tgt := 111) dX12_die_164 (by decide) ?_
        have e : dMS F (nI t) i = relM (upd F (86 + i) 1) i := by simp only [dMS, if_pos c_124, if_pos c_138]
        have h1 := h.dMS (x := nI t) hi8
        have r1 := (Hi.rf.dMS (x := nI t) h hi8).r hr
        simp only [dML, if_pos c_124, if_pos c_138]
        rw [e] at h1 r1 ⊢
        exact ih (i + 1) _ (a + 1) (by omega) h1 r1
set_option maxHeartbeats 2000000 in
theorem tm_die75 {G : GG} {Y : Nat} {F : Nat → Int32} {E0 : Nat → va_E} {L : List Nat} {sz d : Nat} {t : Nat} (hG : GOK G) (hM : rIn (mR G Y) L) (ht : t < 6) (h : TS (dM2 F t)) (hr : OKr (dM2 F t)) (hdp : 3 ≤ d) : WP G iX12_die d 0 0 (some (.int (dEnd F t).1)) (Mm G Y ((dEnd F t).2) E0 L sz) 75 [some (.ref Y), some (.int (nI t)), none, none, none] [] (Mm G Y F E0 L sz) 0 0 := by
  refine wp_ald0 dX12_die_75 ?_
  refine gm_w dX12_die_76 fX12_7 hM ?_
  refine wp_bipush (v := 10) dX12_die_79 (by decide) ?_
  refine wp_ild1 dX12_die_81 ?_
  refine wp_iaddN (a := 10) (b := t) (by decide) rfl dX12_die_82 ?_
  refine wp_iconst (v := 3) dX12_die_83 (by decide) ?_
  refine sm_w (i' := (10 + t)) dX12_die_84 hG hM rfl (by first | assumption | omega) ?_
  refine wp_ald0 dX12_die_85 ?_
  refine gm_w dX12_die_86 fX12_7 hM ?_
  refine wp_bipush (v := 28) dX12_die_89 (by decide) ?_
  refine wp_ild1 dX12_die_91 ?_
  refine wp_iaddN (a := 28) (b := t) (by decide) rfl dX12_die_92 ?_
  refine wp_bipush (v := (-8)) dX12_die_93 (by decide) ?_
  refine sm_w (i' := (28 + t)) dX12_die_95 hG hM rfl (by first | assumption | omega) ?_
  refine wp_ald0 dX12_die_96 ?_
  refine gm_w dX12_die_97 fX12_7 hM ?_
  refine wp_bipush (v := 16) dX12_die_100 (by decide) ?_
  refine wp_ild1 dX12_die_102 ?_
  refine wp_iaddN (a := 16) (b := t) (by decide) rfl dX12_die_103 ?_
  refine wp_iconst (v := 0) dX12_die_104 (by decide) ?_
  refine sm_w (i' := (16 + t)) dX12_die_105 hG hM rfl (by first | assumption | omega) ?_
  refine wp_iconst (v := 0) dX12_die_106 (by decide) ?_
  refine wp_ist3 dX12_die_107 (by decide) rfl ?_
  refine wp_iconst (v := 0) dX12_die_108 (by decide) ?_
  refine wp_ist4 dX12_die_109 (by decide) rfl ?_
  simp only [dEnd]
  exact WP.fg (by simp [lcle, nI_0]) (lm_die hG hM hdp 8 0 (dM2 F t) 0 rfl h hr)
def dieM (F : Nat → Int32) (x : Int32) : Int32 × (Nat → Int32) := if isT F x then (if F (10 + nt x) = 3 then (-7, F) else if F (28 + nt x) = -8 then dEnd F (nt x) else dEnd (dM1 F (nt x) (nt (F (28 + nt x)))) (nt x)) else (-1, F)
set_option maxHeartbeats 2000000 in
theorem cm_die {G : GG} {Y : Nat} {F : Nat → Int32} {E0 : Nat → va_E} {L : List Nat} {sz d : Nat} {x : Int32} (hG : GOK G) (hM : rIn (mR G Y) L) (h : TS F) (hr : OKr F) (hdp : 3 ≤ d) : Ct G d yX12_die iX12_die [.ref Y, .int x] (Mm G Y F E0 L sz) 0 0 (some (.int (dieM F x).1)) (Mm G Y ((dieM F x).2) E0 L sz) := by
  refine Ct.of 3 (by decide) rfl (by decide) (Nat.le_of_ble_eq_true rfl) ?_
  show WP _ _ _ _ _ _ _ 0 [some (.ref Y), some (.int x), none, none, none] [] _ 0 0
  refine wp_ald0 dX12_die_0 ?_
  refine wp_ild1 dX12_die_1 ?_
  refine mi_1 dX12_die_2 kX12_101 (cm_isThread (d := d - 1) hG hM (by omega)) hM rfl (by omega) (Nat.le_of_ble_eq_true rfl) (Nat.le_refl _) (Nat.le_refl _) ?_
  refine wp_ifB_ne (tgt := 10) dX12_die_5 (by decide) (fun c_5 => ?_) (fun c_5 => ?_)
  · obtain ⟨t, ht, htT, rfl⟩ := isT_nat h.1 c_5
    have e1 : nt (nI t) = t := ntn (by omega)
    refine wp_ald0 dX12_die_10 ?_
    refine gm_w dX12_die_11 fX12_7 hM ?_
    refine wp_bipush (v := 10) dX12_die_14 (by decide) ?_
    refine wp_ild1 dX12_die_16 ?_
    refine wp_iaddN (a := 10) (b := t) (by decide) rfl dX12_die_17 ?_
    refine rm_w (i' := (10 + t)) dX12_die_18 hG hM rfl (by first | assumption | omega) ?_
    refine wp_iconst (v := 3) dX12_die_19 (by decide) ?_
    refine wp_icmp_ne (tgt := 26) dX12_die_20 (by decide) (fun c_20 => ?_) (fun c_20 => ?_)
    · refine wp_ald0 dX12_die_26 ?_
      refine gm_w dX12_die_27 fX12_7 hM ?_
      refine wp_bipush (v := 28) dX12_die_30 (by decide) ?_
      refine wp_ild1 dX12_die_32 ?_
      refine wp_iaddN (a := 28) (b := t) (by decide) rfl dX12_die_33 ?_
      refine rm_w (i' := (28 + t)) dX12_die_34 hG hM rfl (by first | assumption | omega) ?_
      refine wp_ist2 dX12_die_35 (by decide) rfl ?_
      refine wp_ild2 dX12_die_36 ?_
      refine wp_bipush (v := (-8)) dX12_die_37 (by decide) ?_
      refine wp_icmp_eq (tgt := 75) dX12_die_39 (by decide) (fun c_39 => ?_) (fun c_39 => ?_)
      · simp only [dieM, if_pos c_5, e1, if_neg c_20, if_pos c_39]
        exact WP.fg (by simp [lcle]) (tm_die75 hG hM ht (h.die2 htT c_39) ((((Hi.rf.up (by omega)).up (by omega)).up (by omega)).r hr) hdp)
      · obtain ⟨o, ho, hat⟩ := h.at_ htT c_39
        have e2 : nt (nI o) = o := ntn (by omega)
        rw [hat]
        refine wp_ald0 dX12_die_42 ?_
        refine wp_ild1 dX12_die_43 ?_
        refine wp_bipush (v := 126) dX12_die_44 (by decide) ?_
        refine wp_bipush (v := 6) dX12_die_46 (by decide) ?_
        refine wp_ild2 dX12_die_48 ?_
        refine wp_imulN (a := 6) (b := o) (by decide) rfl dX12_die_49 ?_
        refine wp_iaddN (a := 126) (b := (6 * o)) (by decide) rfl dX12_die_50 ?_
        refine wp_bipush (v := 110) dX12_die_51 (by decide) ?_
        refine wp_ild2 dX12_die_53 ?_
        refine wp_iaddN (a := 110) (b := o) (by decide) rfl dX12_die_54 ?_
        refine mv_3 dX12_die_55 kX12_64 (cm_takeOut (d := d - 1) (q := 110 + o) (p := 126 + 6 * o) hG hM (by intros; omega) (by omega) (by omega) (h.1.q ho)) hM rfl (by omega) (Nat.le_of_ble_eq_true rfl) (Nat.le_refl _) (Nat.le_refl _) ?_
        refine wp_ald0 dX12_die_58 ?_
        refine wp_ild1 dX12_die_59 ?_
        refine wp_sipush (v := 174) dX12_die_60 (by decide) ?_
        refine wp_bipush (v := 6) dX12_die_63 (by decide) ?_
        refine wp_ild2 dX12_die_65 ?_
        refine wp_imulN (a := 6) (b := o) (by decide) rfl dX12_die_66 ?_
        refine wp_iaddN (a := 174) (b := (6 * o)) (by decide) rfl dX12_die_67 ?_
        refine wp_bipush (v := 118) dX12_die_68 (by decide) ?_
        refine wp_ild2 dX12_die_70 ?_
        refine wp_iaddN (a := 118) (b := o) (by decide) rfl dX12_die_71 ?_
        refine mv_3 dX12_die_72 kX12_64 (cm_takeOut (d := d - 1) (q := 118 + o) (p := 174 + 6 * o) hG hM (by intros; omega) (by omega) (by omega) ((h.1.dropq ho).w ho)) hM rfl (by omega) (Nat.le_of_ble_eq_true rfl) (Nat.le_refl _) (Nat.le_refl _) ?_
        simp only [dieM, if_pos c_5, e1, if_neg c_20, if_neg c_39]
        simp only [hat, e2]
        refine WP.to (M2 := Mm G Y (dM1 F t o) E0 L sz) rfl ?_
        exact WP.fg (by simp [lcle]) (tm_die75 hG hM ht (h.die1 htT ho hat) (hr.d1 h.1 ht ho) hdp)
    · refine wp_bipush (v := (-7)) dX12_die_23 (by decide) ?_
      exact wp_iret dX12_die_25 rfl (Nat.le_refl _) (Nat.le_refl _) (by first | with_reducible rfl | (simp only [dieM, if_pos c_5, e1, if_pos c_20]; done) | (simp only [dieM, if_pos c_5, e1, if_pos c_20]; rfl) | rfl) (by first | with_reducible rfl | (simp only [dieM, if_pos c_5, e1, if_pos c_20]; done) | (simp only [dieM, if_pos c_5, e1, if_pos c_20]; rfl) | rfl)
  · refine wp_iconst (v := (-1)) dX12_die_8 (by decide) ?_
    exact wp_iret dX12_die_9 rfl (Nat.le_refl _) (Nat.le_refl _) (by first | with_reducible rfl | (simp only [dieM, if_neg c_5]; done) | (simp only [dieM, if_neg c_5]; rfl) | rfl) (by first | with_reducible rfl | (simp only [dieM, if_neg c_5]; done) | (simp only [dieM, if_neg c_5]; rfl) | rfl)

def h130 (F : Nat → Int32) (o : Nat) : Int32 × (Nat → Int32) := (rcdM F 8 (nI o) 0 0 (94 + o), rcdM F 8 (nI o) 0 0)
def h86 (F : Nat → Int32) (o : Nat) : Int32 × (Nat → Int32) := h130 (upd (upd F (94 + o) (7919 * (F 240 + 1) + nI (13 * o) - (7919 * (F 240 + 1) + nI (13 * o)) / 1000 * 1000)) 240 (upd F (94 + o) (7919 * (F 240 + 1) + nI (13 * o) - (7919 * (F 240 + 1) + nI (13 * o)) / 1000 * 1000) 240 + 1)) o
def h63 (F : Nat → Int32) (o : Nat) (l : Int32) : Int32 × (Nat → Int32) := if l = 1 then h86 (ubM F o) o else if l = 2 then (if ¬ F (62 + o) ≤ 0 then h86 F o else h86 (ubM F o) o) else h86 F o
def hashM (F : Nat → Int32) (y : Int32) : Int32 × (Nat → Int32) := if isOb y then (if F (94 + nt y) = -8 then (if F (46 + nt y) = 3 then (if cifM F then h63 (infM F (nt y)) (nt y) (F (46 + nt y)) else (-6, infM F (nt y))) else if F (46 + nt y) = 2 then (if ¬ F (62 + nt y) ≤ 0 then (if cifM F then h63 (infM F (nt y)) (nt y) (F (46 + nt y)) else (-6, infM F (nt y))) else h63 F (nt y) (F (46 + nt y))) else h63 F (nt y) (F (46 + nt y))) else h130 F (nt y)) else (-2, F)
set_option maxHeartbeats 2000000 in
theorem tm_h130 {G : GG} {Y : Nat} {F : Nat → Int32} {E0 : Nat → va_E} {L : List Nat} {sz d : Nat} {o : Nat} (hG : GOK G) (hM : rIn (mR G Y) L) (ho : o < 8) (hr : OKr F) (hdp : 1 ≤ d) : WP G iX12_hash d 0 0 (some (.int (h130 F o).1)) (Mm G Y ((h130 F o).2) E0 L sz) 130 [some (.ref Y), some (.int (nI o)), none] [] (Mm G Y F E0 L sz) 0 0 := by
  refine wp_ald0 dX12_hash_130 ?_
  refine wp_bipush (v := 8) dX12_hash_131 (by decide) ?_
  refine wp_ild1 dX12_hash_133 ?_
  refine wp_iconst (v := 0) dX12_hash_134 (by decide) ?_
  refine wp_iconst (v := 0) dX12_hash_135 (by decide) ?_
  refine mv_4 dX12_hash_136 kX12_110 (cm_record (d := d - 1) hG hM hr) hM rfl (by omega) (Nat.le_of_ble_eq_true rfl) (Nat.le_refl _) (Nat.le_refl _) ?_
  refine wp_ald0 dX12_hash_139 ?_
  refine gm_w dX12_hash_140 fX12_7 hM ?_
  refine wp_bipush (v := 94) dX12_hash_143 (by decide) ?_
  refine wp_ild1 dX12_hash_145 ?_
  refine wp_iaddN (a := 94) (b := o) (by decide) rfl dX12_hash_146 ?_
  refine rm_w (i' := (94 + o)) dX12_hash_147 hG hM rfl (by first | assumption | omega) ?_
  exact wp_iret dX12_hash_148 rfl (Nat.le_refl _) (Nat.le_refl _) (by first | with_reducible rfl | (simp only [h130]; done) | (simp only [h130]; rfl) | rfl) (by first | with_reducible rfl | (simp only [h130]; done) | (simp only [h130]; rfl) | rfl)
set_option maxHeartbeats 2000000 in
theorem tm_h86 {G : GG} {Y : Nat} {F : Nat → Int32} {E0 : Nat → va_E} {L : List Nat} {sz d : Nat} {o : Nat} (hG : GOK G) (hM : rIn (mR G Y) L) (ho : o < 8) (hr : OKr F) (hdp : 1 ≤ d) : WP G iX12_hash d 0 0 (some (.int (h86 F o).1)) (Mm G Y ((h86 F o).2) E0 L sz) 86 [some (.ref Y), some (.int (nI o)), none] [] (Mm G Y F E0 L sz) 0 0 := by
  refine wp_ald0 dX12_hash_86 ?_
  refine gm_w dX12_hash_87 fX12_7 hM ?_
  refine wp_bipush (v := 94) dX12_hash_90 (by decide) ?_
  refine wp_ild1 dX12_hash_92 ?_
  refine wp_iaddN (a := 94) (b := o) (by decide) rfl dX12_hash_93 ?_
  refine wp_sipush (v := 7919) dX12_hash_94 (by decide) ?_
  refine wp_ald0 dX12_hash_97 ?_
  refine gm_w dX12_hash_98 fX12_7 hM ?_
  refine wp_sipush (v := 240) dX12_hash_101 (by decide) ?_
  refine rm_w (i' := 240) dX12_hash_104 hG hM (by decide) (by decide) ?_
  refine wp_iconst (v := 1) dX12_hash_105 (by decide) ?_
  refine wp_iadd dX12_hash_106 ?_
  refine wp_imul dX12_hash_107 ?_
  refine wp_bipush (v := 13) dX12_hash_108 (by decide) ?_
  refine wp_ild1 dX12_hash_110 ?_
  refine wp_imulN (a := 13) (b := o) (by decide) rfl dX12_hash_111 ?_
  refine wp_iadd dX12_hash_112 ?_
  refine wp_sipush (v := 1000) dX12_hash_113 (by decide) ?_
  refine wp_irem dX12_hash_116 (by decide) ?_
  refine sm_w (i' := (94 + o)) dX12_hash_117 hG hM rfl (by first | assumption | omega) ?_
  refine wp_ald0 dX12_hash_118 ?_
  refine gm_w dX12_hash_119 fX12_7 hM ?_
  refine wp_sipush (v := 240) dX12_hash_122 (by decide) ?_
  refine wp_dup2 dX12_hash_125 rfl rfl ?_
  refine rm_w (i' := 240) dX12_hash_126 hG hM (by decide) (by decide) ?_
  refine wp_iconst (v := 1) dX12_hash_127 (by decide) ?_
  refine wp_iadd dX12_hash_128 ?_
  refine sm_w (i' := 240) dX12_hash_129 hG hM (by decide) (by decide) ?_
  simp only [h86]
  exact tm_h130 hG hM ho (OKr_up (by omega) (OKr_up (by omega) hr)) hdp
set_option maxHeartbeats 2000000 in
theorem tm_h63 {G : GG} {Y : Nat} {F : Nat → Int32} {E0 : Nat → va_E} {L : List Nat} {sz d : Nat} {o : Nat} {l : Int32} (hG : GOK G) (hM : rIn (mR G Y) L) (ho : o < 8) (hr : OKr F) (hdp : 2 ≤ d) : WP G iX12_hash d 0 0 (some (.int (h63 F o l).1)) (Mm G Y ((h63 F o l).2) E0 L sz) 63 [some (.ref Y), some (.int (nI o)), some (.int l)] [] (Mm G Y F E0 L sz) 0 0 := by
  refine wp_ild2 dX12_hash_63 ?_
  refine wp_iconst (v := 1) dX12_hash_64 (by decide) ?_
  refine wp_icmp_eq (tgt := 81) dX12_hash_65 (by decide) (fun c_65 => ?_) (fun c_65 => ?_)
  · refine wp_ald0 dX12_hash_81 ?_
    refine wp_ild1 dX12_hash_82 ?_
    refine mv_1 dX12_hash_83 kX12_81 (cm_unbias (d := d - 1) hG hM ho (by omega)) hM rfl (by omega) (Nat.le_of_ble_eq_true rfl) (Nat.le_refl _) (Nat.le_refl _) ?_
    simp only [h63, if_pos c_65]
    exact WP.fg (by simp [lcle]) (tm_h86 hG hM ho (by first | exact hr | exact OKr_up (by omega) (OKr_up (by omega) hr)) (by omega))
  · refine wp_ild2 dX12_hash_68 ?_
    refine wp_iconst (v := 2) dX12_hash_69 (by decide) ?_
    refine wp_icmp_ne (tgt := 86) dX12_hash_70 (by decide) (fun c_70 => ?_) (fun c_70 => ?_)
    · simp only [h63, if_neg c_65, if_neg c_70]
      exact WP.fg (by simp [lcle]) (tm_h86 hG hM ho (by first | exact hr | exact OKr_up (by omega) (OKr_up (by omega) hr)) (by omega))
    · refine wp_ald0 dX12_hash_73 ?_
      refine wp_ild1 dX12_hash_74 ?_
      refine mi_1 dX12_hash_75 kX12_54 (cm_isHeld (d := d - 1) hG hM (by first | assumption | omega)) hM rfl (by omega) (Nat.le_of_ble_eq_true rfl) (Nat.le_refl _) (Nat.le_refl _) ?_
      refine wp_ifB_ne (tgt := 86) dX12_hash_78 (by decide) (fun c_78 => ?_) (fun c_78 => ?_)
      · simp only [h63, if_neg c_65, if_pos c_70, if_pos c_78]
        exact WP.fg (by simp [lcle]) (tm_h86 hG hM ho (by first | exact hr | exact OKr_up (by omega) (OKr_up (by omega) hr)) (by omega))
      · refine wp_ald0 dX12_hash_81 ?_
        refine wp_ild1 dX12_hash_82 ?_
        refine mv_1 dX12_hash_83 kX12_81 (cm_unbias (d := d - 1) hG hM ho (by omega)) hM rfl (by omega) (Nat.le_of_ble_eq_true rfl) (Nat.le_refl _) (Nat.le_refl _) ?_
        simp only [h63, if_neg c_65, if_pos c_70, if_neg c_78]
        exact WP.fg (by simp [lcle]) (tm_h86 hG hM ho (by first | exact hr | exact OKr_up (by omega) (OKr_up (by omega) hr)) (by omega))
set_option maxHeartbeats 2000000 in
theorem cm_hash {G : GG} {Y : Nat} {F : Nat → Int32} {E0 : Nat → va_E} {L : List Nat} {sz d : Nat} {y : Int32} (hG : GOK G) (hM : rIn (mR G Y) L) (h : TS F) (hr : OKr F) (hdp : 3 ≤ d) : Ct G d yX12_hash iX12_hash [.ref Y, .int y] (Mm G Y F E0 L sz) 0 0 (some (.int (hashM F y).1)) (Mm G Y ((hashM F y).2) E0 L sz) := by
  refine Ct.of 1 (by decide) rfl (by decide) (Nat.le_of_ble_eq_true rfl) ?_
  show WP _ _ _ _ _ _ _ 0 [some (.ref Y), some (.int y), none] [] _ 0 0
  refine wp_ild1 dX12_hash_0 ?_
  refine ci_1 dX12_hash_1 kX12_104 (cm_isObject (d := d - 1) (by omega)) (by omega) (Nat.le_of_ble_eq_true rfl) (Nat.le_refl _) (Nat.le_refl _) ?_
  refine wp_ifB_ne (tgt := 10) dX12_hash_4 (by decide) (fun c_4 => ?_) (fun c_4 => ?_)
  · obtain ⟨o, ho, rfl⟩ := isOb_nat c_4
    have e2 : nt (nI o) = o := ntn (by omega)
    refine wp_ald0 dX12_hash_10 ?_
    refine gm_w dX12_hash_11 fX12_7 hM ?_
    refine wp_bipush (v := 94) dX12_hash_14 (by decide) ?_
    refine wp_ild1 dX12_hash_16 ?_
    refine wp_iaddN (a := 94) (b := o) (by decide) rfl dX12_hash_17 ?_
    refine rm_w (i' := (94 + o)) dX12_hash_18 hG hM rfl (by first | assumption | omega) ?_
    refine wp_bipush (v := (-8)) dX12_hash_19 (by decide) ?_
    refine wp_icmp_ne (tgt := 130) dX12_hash_21 (by decide) (fun c_21 => ?_) (fun c_21 => ?_)
    · simp only [hashM, if_pos c_4, e2, if_neg c_21]
      exact WP.fg (by simp [lcle]) (tm_h130 hG hM ho hr (by omega))
    · refine wp_ald0 dX12_hash_24 ?_
      refine gm_w dX12_hash_25 fX12_7 hM ?_
      refine wp_bipush (v := 46) dX12_hash_28 (by decide) ?_
      refine wp_ild1 dX12_hash_30 ?_
      refine wp_iaddN (a := 46) (b := o) (by decide) rfl dX12_hash_31 ?_
      refine rm_w (i' := (46 + o)) dX12_hash_32 hG hM rfl (by first | assumption | omega) ?_
      refine wp_ist2 dX12_hash_33 (by decide) rfl ?_
      refine wp_ild2 dX12_hash_34 ?_
      refine wp_iconst (v := 3) dX12_hash_35 (by decide) ?_
      refine wp_icmp_eq (tgt := 52) dX12_hash_36 (by decide) (fun c_36 => ?_) (fun c_36 => ?_)
      · refine wp_ald0 dX12_hash_52 ?_
        refine wp_ild1 dX12_hash_53 ?_
        refine mi_1 dX12_hash_54 kX12_91 (cm_inflates (d := d - 1) hG hM ho (by omega)) hM rfl (by omega) (Nat.le_of_ble_eq_true rfl) (Nat.le_refl _) (Nat.le_refl _) ?_
        refine wp_ifB_ne (tgt := 63) dX12_hash_57 (by decide) (fun c_57 => ?_) (fun c_57 => ?_)
        · simp only [hashM, if_pos c_4, e2, if_pos c_21, if_pos c_36, if_pos c_57]
          exact tm_h63 hG hM ho (by first | exact hr | exact (Hi.rf.infM ho).r hr) (by omega)
        · refine wp_bipush (v := (-6)) dX12_hash_60 (by decide) ?_
          exact wp_iret dX12_hash_62 rfl (Nat.le_refl _) (Nat.le_refl _) (by first | with_reducible rfl | (simp only [hashM, if_pos c_4, e2, if_pos c_21, if_pos c_36, if_neg c_57]; done) | (simp only [hashM, if_pos c_4, e2, if_pos c_21, if_pos c_36, if_neg c_57]; rfl) | rfl) (by first | with_reducible rfl | (simp only [hashM, if_pos c_4, e2, if_pos c_21, if_pos c_36, if_neg c_57]; done) | (simp only [hashM, if_pos c_4, e2, if_pos c_21, if_pos c_36, if_neg c_57]; rfl) | rfl)
      · refine wp_ild2 dX12_hash_39 ?_
        refine wp_iconst (v := 2) dX12_hash_40 (by decide) ?_
        refine wp_icmp_ne (tgt := 63) dX12_hash_41 (by decide) (fun c_41 => ?_) (fun c_41 => ?_)
        · simp only [hashM, if_pos c_4, e2, if_pos c_21, if_neg c_36, if_neg c_41]
          exact tm_h63 hG hM ho (by first | exact hr | exact (Hi.rf.infM ho).r hr) (by omega)
        · refine wp_ald0 dX12_hash_44 ?_
          refine wp_ild1 dX12_hash_45 ?_
          refine mi_1 dX12_hash_46 kX12_54 (cm_isHeld (d := d - 1) hG hM (by first | assumption | omega)) hM rfl (by omega) (Nat.le_of_ble_eq_true rfl) (Nat.le_refl _) (Nat.le_refl _) ?_
          refine wp_ifB_eq (tgt := 63) dX12_hash_49 (by decide) (fun c_49 => ?_) (fun c_49 => ?_)
          · simp only [hashM, if_pos c_4, e2, if_pos c_21, if_neg c_36, if_pos c_41, if_neg c_49]
            exact tm_h63 hG hM ho (by first | exact hr | exact (Hi.rf.infM ho).r hr) (by omega)
          · refine wp_ald0 dX12_hash_52 ?_
            refine wp_ild1 dX12_hash_53 ?_
            refine mi_1 dX12_hash_54 kX12_91 (cm_inflates (d := d - 1) hG hM ho (by omega)) hM rfl (by omega) (Nat.le_of_ble_eq_true rfl) (Nat.le_refl _) (Nat.le_refl _) ?_
            refine wp_ifB_ne (tgt := 63) dX12_hash_57 (by decide) (fun c_57 => ?_) (fun c_57 => ?_)
            · simp only [hashM, if_pos c_4, e2, if_pos c_21, if_neg c_36, if_pos c_41, if_pos c_49, if_pos c_57]
              exact tm_h63 hG hM ho (by first | exact hr | exact (Hi.rf.infM ho).r hr) (by omega)
            · refine wp_bipush (v := (-6)) dX12_hash_60 (by decide) ?_
              exact wp_iret dX12_hash_62 rfl (Nat.le_refl _) (Nat.le_refl _) (by first | with_reducible rfl | (simp only [hashM, if_pos c_4, e2, if_pos c_21, if_neg c_36, if_pos c_41, if_pos c_49, if_neg c_57]; done) | (simp only [hashM, if_pos c_4, e2, if_pos c_21, if_neg c_36, if_pos c_41, if_pos c_49, if_neg c_57]; rfl) | rfl) (by first | with_reducible rfl | (simp only [hashM, if_pos c_4, e2, if_pos c_21, if_neg c_36, if_pos c_41, if_pos c_49, if_neg c_57]; done) | (simp only [hashM, if_pos c_4, e2, if_pos c_21, if_neg c_36, if_pos c_41, if_pos c_49, if_neg c_57]; rfl) | rfl)
  · refine wp_bipush (v := (-2)) dX12_hash_7 (by decide) ?_
    exact wp_iret dX12_hash_9 rfl (Nat.le_refl _) (Nat.le_refl _) (by first | with_reducible rfl | (simp only [hashM, if_neg c_4]; done) | (simp only [hashM, if_neg c_4]; rfl) | rfl) (by first | with_reducible rfl | (simp only [hashM, if_neg c_4]; done) | (simp only [hashM, if_neg c_4]; rfl) | rfl)

def teS (F : Nat → Int32) (i : Nat) : Nat → Int32 := if F (10 + i) = 2 then (if F (34 + i) ≤ 0 then F else if F 9 < F (34 + i) then F else ewM F i (nt (F (28 + i))) 2 0) else F
def teL : Nat → Nat → (Nat → Int32) → (Nat → Int32)
  | 0, _, F => F
  | n + 1, i, F => teL n (i + 1) (teS F i)
def twS (F : Nat → Int32) (i : Nat) : Nat → Int32 := if F (46 + i) = 4 then (if ¬ F (62 + i) ≤ 0 then F else if F (110 + i) ≤ 0 then F else acqM (upd F 236 (F 236 + 1)) (nt (F (126 + 6 * i))) i) else F
def twL : Nat → Nat → (Nat → Int32) → (Nat → Int32)
  | 0, _, F => F
  | n + 1, i, F => twL n (i + 1) (twS F i)
def tdS (F : Nat → Int32) (i : Nat) : Nat → Int32 := if idlM F i then (if F 9 - F (102 + i) < F 6 then F else deflF F i) else F
def tdL : Nat → Nat → (Nat → Int32) → (Nat → Int32)
  | 0, _, F => F
  | n + 1, i, F => tdL n (i + 1) (tdS F i)
theorem TS.te {F : Nat → Int32} {i : Nat} (h : TS F) (hi : i < nt (F 0)) : TS (teS F i) := by
  show TS (if _ then (if _ then _ else if _ then _ else _) else _)
  split
  · rename_i hs
    split
    · exact h
    · split
      · exact h
      · obtain ⟨o, ho, ha, -⟩ := h.wait hi hs
        rw [ha, ntn (by omega)]
        exact h.ew hi ho hs ha
  · exact h
theorem te_0 {F : Nat → Int32} {i : Nat} (h : TS F) (hi : i < nt (F 0)) : teS F i 0 = F 0 := by
  have hT := h.1.thr.2
  unfold teS
  split
  · rename_i hs
    split
    · rfl
    · split
      · rfl
      · obtain ⟨o, ho, ha, -⟩ := h.wait hi hs
        rw [ha, ntn (by omega)]
        exact ewM_0 h.1 (by omega) ho (by omega)
  · rfl
theorem Hi.te {F F1 : Nat → Int32} {i : Nat} (hh : Hi F F1) (h : TS F1) (hi : i < nt (F1 0)) : Hi F (teS F1 i) := by
  have hT := h.1.thr.2
  show Hi F (if _ then (if _ then _ else if _ then _ else _) else _)
  split
  · rename_i hs
    split
    · exact hh
    · split
      · exact hh
      · obtain ⟨o, ho, ha, -⟩ := h.wait hi hs
        rw [ha, ntn (by omega)]
        exact hh.ew h.1 (by omega) ho
  · exact hh
theorem TS.tw {F : Nat → Int32} {i : Nat} (h : TS F) (hi : i < 8) : TS (twS F i) := by
  have hT := h.1.thr.2
  show TS (if _ then (if _ then _ else if _ then _ else _) else _)
  split
  · split
    · exact h
    · split
      · exact h
      · rename_i hq
        obtain ⟨t, g1, g2, g3, g4, -⟩ := h.hd hi hq
        rw [g2, ntn (by omega)]
        exact (h.up (by omega)).acq (by rw [upd_ne (by omega)]; exact g1) hi (by rw [upd_ne (by omega)]; exact g3) (by rw [upd_ne (by omega)]; exact g4)
  · exact h
theorem Hi.tw {F F1 : Nat → Int32} {i : Nat} (hh : Hi F F1) (h : TS F1) (hi : i < 8) : Hi F (twS F1 i) := by
  have hT := h.1.thr.2
  show Hi F (if _ then (if _ then _ else if _ then _ else _) else _)
  split
  · split
    · exact hh
    · split
      · exact hh
      · rename_i hq
        obtain ⟨t, g1, g2, g3, g4, -⟩ := h.hd hi hq
        rw [g2, ntn (by omega)]
        exact (hh.up (by omega)).acq (h.1.up (by omega)) (by omega) hi
  · exact hh
theorem SamT.td {F : Nat → Int32} {i : Nat} (hi : i < 8) : SamT F (tdS F i) := by
  show SamT F (if _ then (if _ then _ else _) else _)
  split
  · split
    · exact SamT.rf
    · exact (SamT.rf.up (by omega)).up (by omega)
  · exact SamT.rf
theorem Hi.td {F F1 : Nat → Int32} {i : Nat} (h : Hi F F1) (hi : i < 8) : Hi F (tdS F1 i) := by
  show Hi F (if _ then (if _ then _ else _) else _)
  split
  · split
    · exact h
    · exact (h.up (by omega)).up (by omega)
  · exact h
set_option maxHeartbeats 2000000 in
theorem lm_td {G : GG} {Y : Nat} {E0 : Nat → va_E} {L : List Nat} {sz d : Nat} (hG : GOK G) (hM : rIn (mR G Y) L) (hdp : 2 ≤ d) (n : Nat) : ∀ (i : Nat) (F : Nat → Int32), i + n = 8 → WP G iX12_tickOnce d 0 0 none (Mm G Y (tdL n i F) E0 L sz) 146 [some (.ref Y), some (.int (nI i))] [] (Mm G Y F E0 L sz) 0 0 := by
  induction n with
  | zero =>
    intro i F hi
    refine wp_ild1 dX12_tickOnce_146 ?_
    refine wp_bipush (v := 8) dX12_tickOnce_147 (by decide) ?_
    refine wp_icmp_ge (tgt := 198) dX12_tickOnce_149 (by decide) (fun c_149 => ?_) (fun c_149 => absurd (nI_le (a := 8) (b := i) (by omega) (by omega)) c_149)
    exact wp_vret dX12_tickOnce_198 rfl (Nat.le_refl _) (Nat.le_refl _) (by first | with_reducible rfl | (simp only [tdL]; done) | (simp only [tdL]; rfl) | rfl) (by first | with_reducible rfl | (simp only [tdL]; done) | (simp only [tdL]; rfl) | rfl)
  | succ n ih =>
    intro i F hi
    refine wp_ild1 dX12_tickOnce_146 ?_
    refine wp_bipush (v := 8) dX12_tickOnce_147 (by decide) ?_
    refine wp_icmp_ge (tgt := 198) dX12_tickOnce_149 (by decide) (fun c_149 => absurd c_149 (nI_ge (a := i) (b := 8) (by omega) (by omega))) (fun c_149 => ?_)
    have hi8 : i < 8 := by omega
    refine wp_ald0 dX12_tickOnce_152 ?_
    refine wp_ild1 dX12_tickOnce_153 ?_
    refine mi_1 dX12_tickOnce_154 kX12_58 (cm_isIdle (d := d - 1) hG hM (by assumption) (by omega)) hM rfl (by omega) (Nat.le_of_ble_eq_true rfl) (Nat.le_refl _) (Nat.le_refl _) ?_
    refine wp_ifB_eq (tgt := 192) dX12_tickOnce_157 (by decide) (fun c_157 => ?_) (fun c_157 => ?_)
    · refine wp_inc1 dX12_tickOnce_192 (by decide) rfl ?_
      refine wp_goto (tgt := 146) dX12_tickOnce_195 (by decide) ?_
      have e : tdS F i = F := by simp only [tdS, if_neg c_157]
      simp only [tdL]
      rw [e]
      exact ih (i + 1) _ (by omega)
    · refine wp_ald0 dX12_tickOnce_160 ?_
      refine gm_w dX12_tickOnce_161 fX12_7 hM ?_
      refine wp_bipush (v := 9) dX12_tickOnce_164 (by decide) ?_
      refine rm_w (i' := 9) dX12_tickOnce_166 hG hM (by decide) (by decide) ?_
      refine wp_ald0 dX12_tickOnce_167 ?_
      refine gm_w dX12_tickOnce_168 fX12_7 hM ?_
      refine wp_bipush (v := 102) dX12_tickOnce_171 (by decide) ?_
      refine wp_ild1 dX12_tickOnce_173 ?_
      refine wp_iaddN (a := 102) (b := i) (by decide) rfl dX12_tickOnce_174 ?_
      refine rm_w (i' := (102 + i)) dX12_tickOnce_175 hG hM rfl (by first | assumption | omega) ?_
      refine wp_isub dX12_tickOnce_176 ?_
      refine wp_ald0 dX12_tickOnce_177 ?_
      refine gm_w dX12_tickOnce_178 fX12_7 hM ?_
      refine wp_bipush (v := 6) dX12_tickOnce_181 (by decide) ?_
      refine rm_w (i' := 6) dX12_tickOnce_183 hG hM (by decide) (by decide) ?_
      refine wp_icmp_lt (tgt := 192) dX12_tickOnce_184 (by decide) (fun c_184 => ?_) (fun c_184 => ?_)
      · refine wp_inc1 dX12_tickOnce_192 (by decide) rfl ?_
        refine wp_goto (tgt := 146) dX12_tickOnce_195 (by decide) ?_
        have e : tdS F i = F := by simp only [tdS, if_pos c_157, if_pos c_184]
        simp only [tdL]
        rw [e]
        exact ih (i + 1) _ (by omega)
      · refine wp_ald0 dX12_tickOnce_187 ?_
        refine wp_ild1 dX12_tickOnce_188 ?_
        refine mv_1 dX12_tickOnce_189 kX12_61 (cm_deflate (d := d - 1) hG hM hi8) hM rfl (by omega) (Nat.le_of_ble_eq_true rfl) (Nat.le_refl _) (Nat.le_refl _) ?_
        refine wp_inc1 dX12_tickOnce_192 (by decide) rfl ?_
        refine wp_goto (tgt := 146) dX12_tickOnce_195 (by decide) ?_
        have e : tdS F i = deflF F i := by simp only [tdS, if_pos c_157, if_neg c_184]
        simp only [tdL]
        rw [e]
        exact ih (i + 1) _ (by omega)
set_option maxHeartbeats 2000000 in
theorem lm_tw {G : GG} {Y : Nat} {E0 : Nat → va_E} {L : List Nat} {sz d : Nat} (hG : GOK G) (hM : rIn (mR G Y) L) (hdp : 2 ≤ d) (n : Nat) : ∀ (i : Nat) (F : Nat → Int32), i + n = 8 → TS F → WP G iX12_tickOnce d 0 0 none (Mm G Y (tdL 8 0 (twL n i F)) E0 L sz) 82 [some (.ref Y), some (.int (nI i))] [] (Mm G Y F E0 L sz) 0 0 := by
  induction n with
  | zero =>
    intro i F hi h
    refine wp_ild1 dX12_tickOnce_82 ?_
    refine wp_bipush (v := 8) dX12_tickOnce_83 (by decide) ?_
    refine wp_icmp_ge (tgt := 144) dX12_tickOnce_85 (by decide) (fun c_85 => ?_) (fun c_85 => absurd (nI_le (a := 8) (b := i) (by omega) (by omega)) c_85)
    refine wp_iconst (v := 0) dX12_tickOnce_144 (by decide) ?_
    refine wp_ist1 dX12_tickOnce_145 (by decide) rfl ?_
    simp only [twL]
    exact WP.fg (by simp [lcle, nI_0]) (lm_td hG hM hdp 8 0 F rfl)
  | succ n ih =>
    intro i F hi h
    refine wp_ild1 dX12_tickOnce_82 ?_
    refine wp_bipush (v := 8) dX12_tickOnce_83 (by decide) ?_
    refine wp_icmp_ge (tgt := 144) dX12_tickOnce_85 (by decide) (fun c_85 => absurd c_85 (nI_ge (a := i) (b := 8) (by omega) (by omega))) (fun c_85 => ?_)
    have hi8 : i < 8 := by omega
    refine wp_ald0 dX12_tickOnce_88 ?_
    refine gm_w dX12_tickOnce_89 fX12_7 hM ?_
    refine wp_bipush (v := 46) dX12_tickOnce_92 (by decide) ?_
    refine wp_ild1 dX12_tickOnce_94 ?_
    refine wp_iaddN (a := 46) (b := i) (by decide) rfl dX12_tickOnce_95 ?_
    refine rm_w (i' := (46 + i)) dX12_tickOnce_96 hG hM rfl (by first | assumption | omega) ?_
    refine wp_iconst (v := 4) dX12_tickOnce_97 (by decide) ?_
    refine wp_icmp_ne (tgt := 138) dX12_tickOnce_98 (by decide) (fun c_98 => ?_) (fun c_98 => ?_)
    · refine wp_inc1 dX12_tickOnce_138 (by decide) rfl ?_
      refine wp_goto (tgt := 82) dX12_tickOnce_141 (by decide) ?_
      have e : twS F i = F := by simp only [twS, if_neg c_98]
      simp only [twL]
      rw [e]
      exact ih (i + 1) _ (by omega) h
    · refine wp_ald0 dX12_tickOnce_101 ?_
      refine wp_ild1 dX12_tickOnce_102 ?_
      refine mi_1 dX12_tickOnce_103 kX12_54 (cm_isHeld (d := d - 1) hG hM (by first | assumption | omega)) hM rfl (by omega) (Nat.le_of_ble_eq_true rfl) (Nat.le_refl _) (Nat.le_refl _) ?_
      refine wp_ifB_ne (tgt := 138) dX12_tickOnce_106 (by decide) (fun c_106 => ?_) (fun c_106 => ?_)
      · refine wp_inc1 dX12_tickOnce_138 (by decide) rfl ?_
        refine wp_goto (tgt := 82) dX12_tickOnce_141 (by decide) ?_
        have e : twS F i = F := by simp only [twS, if_pos c_98, if_pos c_106]
        simp only [twL]
        rw [e]
        exact ih (i + 1) _ (by omega) h
      · refine wp_ald0 dX12_tickOnce_109 ?_
        refine gm_w dX12_tickOnce_110 fX12_7 hM ?_
        refine wp_bipush (v := 110) dX12_tickOnce_113 (by decide) ?_
        refine wp_ild1 dX12_tickOnce_115 ?_
        refine wp_iaddN (a := 110) (b := i) (by decide) rfl dX12_tickOnce_116 ?_
        refine rm_w (i' := (110 + i)) dX12_tickOnce_117 hG hM rfl (by first | assumption | omega) ?_
        refine wp_if_le (tgt := 138) dX12_tickOnce_118 (by decide) (fun c_118 => ?_) (fun c_118 => ?_)
        · refine wp_inc1 dX12_tickOnce_138 (by decide) rfl ?_
          refine wp_goto (tgt := 82) dX12_tickOnce_141 (by decide) ?_
          have e : twS F i = F := by simp only [twS, if_pos c_98, if_neg c_106, if_pos c_118]
          simp only [twL]
          rw [e]
          exact ih (i + 1) _ (by omega) h
        · obtain ⟨u, g1, g2, g3, g4, -⟩ := h.hd hi8 c_118
          have hT6 := h.1.thr.2
          have hu : u < 6 := by omega
          have e3 : nt (nI u) = u := ntn (by omega)
          refine wp_ald0 dX12_tickOnce_121 ?_
          refine gm_w dX12_tickOnce_122 fX12_7 hM ?_
          refine wp_sipush (v := 236) dX12_tickOnce_125 (by decide) ?_
          refine wp_dup2 dX12_tickOnce_128 rfl rfl ?_
          refine rm_w (i' := 236) dX12_tickOnce_129 hG hM (by decide) (by decide) ?_
          refine wp_iconst (v := 1) dX12_tickOnce_130 (by decide) ?_
          refine wp_iadd dX12_tickOnce_131 ?_
          refine sm_w (i' := 236) dX12_tickOnce_132 hG hM (by decide) (by decide) ?_
          refine wp_ald0 dX12_tickOnce_133 ?_
          refine wp_ild1 dX12_tickOnce_134 ?_
          refine mv_1 dX12_tickOnce_135 kX12_78 (cm_acquire (d := d - 1) hG hM hu hi8 (by rw [upd_ne (by omega)]; exact g2) ((h.1.up (by omega)).q hi8) (by omega)) hM rfl (by omega) (Nat.le_of_ble_eq_true rfl) (Nat.le_refl _) (Nat.le_refl _) ?_
          refine wp_inc1 dX12_tickOnce_138 (by decide) rfl ?_
          refine wp_goto (tgt := 82) dX12_tickOnce_141 (by decide) ?_
          have e : twS F i = acqM (upd F 236 (F 236 + 1)) u i := by simp only [twS, if_pos c_98, if_neg c_106, if_neg c_118, g2, e3]
          have h1 := h.tw hi8
          simp only [twL]
          rw [e] at h1 ⊢
          exact ih (i + 1) _ (by omega) h1
set_option maxHeartbeats 2000000 in
theorem lm_te {G : GG} {Y : Nat} {E0 : Nat → va_E} {L : List Nat} {sz d : Nat} {T : Nat} (hG : GOK G) (hM : rIn (mR G Y) L) (hdp : 2 ≤ d) (hT6 : T ≤ 6) (n : Nat) : ∀ (i : Nat) (F : Nat → Int32), i + n = T → TS F → F 0 = nI T → WP G iX12_tickOnce d 0 0 none (Mm G Y (tdL 8 0 (twL 8 0 (teL n i F))) E0 L sz) 13 [some (.ref Y), some (.int (nI i))] [] (Mm G Y F E0 L sz) 0 0 := by
  induction n with
  | zero =>
    intro i F hi h hT
    refine wp_ild1 dX12_tickOnce_13 ?_
    refine wp_ald0 dX12_tickOnce_14 ?_
    refine gm_w dX12_tickOnce_15 fX12_7 hM ?_
    refine wp_iconst (v := 0) dX12_tickOnce_18 (by decide) ?_
    refine rm_w (i' := 0) dX12_tickOnce_19 hG hM (by decide) (by decide) ?_
    refine wp_icmp_ge (tgt := 80) dX12_tickOnce_20 (by decide) (fun c_20 => ?_) (fun c_20 => absurd (by rw [hT]; exact nI_le (by omega) (by omega)) c_20)
    refine wp_iconst (v := 0) dX12_tickOnce_80 (by decide) ?_
    refine wp_ist1 dX12_tickOnce_81 (by decide) rfl ?_
    simp only [teL]
    exact WP.fg (by simp [lcle, nI_0]) (lm_tw hG hM hdp 8 0 F rfl h)
  | succ n ih =>
    intro i F hi h hT
    have hiT : i < nt (F 0) := by rw [hT, ntn (by omega)]; omega
    refine wp_ild1 dX12_tickOnce_13 ?_
    refine wp_ald0 dX12_tickOnce_14 ?_
    refine gm_w dX12_tickOnce_15 fX12_7 hM ?_
    refine wp_iconst (v := 0) dX12_tickOnce_18 (by decide) ?_
    refine rm_w (i' := 0) dX12_tickOnce_19 hG hM (by decide) (by decide) ?_
    refine wp_icmp_ge (tgt := 80) dX12_tickOnce_20 (by decide) (fun c_20 => absurd c_20 (by rw [hT]; exact nI_ge (by omega) (by omega))) (fun c_20 => ?_)
    have hi6 : i < 6 := by omega
    refine wp_ald0 dX12_tickOnce_23 ?_
    refine gm_w dX12_tickOnce_24 fX12_7 hM ?_
    refine wp_bipush (v := 10) dX12_tickOnce_27 (by decide) ?_
    refine wp_ild1 dX12_tickOnce_29 ?_
    refine wp_iaddN (a := 10) (b := i) (by decide) rfl dX12_tickOnce_30 ?_
    refine rm_w (i' := (10 + i)) dX12_tickOnce_31 hG hM rfl (by first | assumption | omega) ?_
    refine wp_iconst (v := 2) dX12_tickOnce_32 (by decide) ?_
    refine wp_icmp_ne (tgt := 74) dX12_tickOnce_33 (by decide) (fun c_33 => ?_) (fun c_33 => ?_)
    · refine wp_inc1 dX12_tickOnce_74 (by decide) rfl ?_
      refine wp_goto (tgt := 13) dX12_tickOnce_77 (by decide) ?_
      have e : teS F i = F := by simp only [teS, if_neg c_33]
      simp only [teL]
      rw [e]
      exact ih (i + 1) _ (by omega) h hT
    · refine wp_ald0 dX12_tickOnce_36 ?_
      refine gm_w dX12_tickOnce_37 fX12_7 hM ?_
      refine wp_bipush (v := 34) dX12_tickOnce_40 (by decide) ?_
      refine wp_ild1 dX12_tickOnce_42 ?_
      refine wp_iaddN (a := 34) (b := i) (by decide) rfl dX12_tickOnce_43 ?_
      refine rm_w (i' := (34 + i)) dX12_tickOnce_44 hG hM rfl (by first | assumption | omega) ?_
      refine wp_if_le (tgt := 74) dX12_tickOnce_45 (by decide) (fun c_45 => ?_) (fun c_45 => ?_)
      · refine wp_inc1 dX12_tickOnce_74 (by decide) rfl ?_
        refine wp_goto (tgt := 13) dX12_tickOnce_77 (by decide) ?_
        have e : teS F i = F := by simp only [teS, if_pos c_33, if_pos c_45]
        simp only [teL]
        rw [e]
        exact ih (i + 1) _ (by omega) h hT
      · refine wp_ald0 dX12_tickOnce_48 ?_
        refine gm_w dX12_tickOnce_49 fX12_7 hM ?_
        refine wp_bipush (v := 34) dX12_tickOnce_52 (by decide) ?_
        refine wp_ild1 dX12_tickOnce_54 ?_
        refine wp_iaddN (a := 34) (b := i) (by decide) rfl dX12_tickOnce_55 ?_
        refine rm_w (i' := (34 + i)) dX12_tickOnce_56 hG hM rfl (by first | assumption | omega) ?_
        refine wp_ald0 dX12_tickOnce_57 ?_
        refine gm_w dX12_tickOnce_58 fX12_7 hM ?_
        refine wp_bipush (v := 9) dX12_tickOnce_61 (by decide) ?_
        refine rm_w (i' := 9) dX12_tickOnce_63 hG hM (by decide) (by decide) ?_
        refine wp_icmp_gt (tgt := 74) dX12_tickOnce_64 (by decide) (fun c_64 => ?_) (fun c_64 => ?_)
        · refine wp_inc1 dX12_tickOnce_74 (by decide) rfl ?_
          refine wp_goto (tgt := 13) dX12_tickOnce_77 (by decide) ?_
          have e : teS F i = F := by simp only [teS, if_pos c_33, if_neg c_45, if_pos c_64]
          simp only [teL]
          rw [e]
          exact ih (i + 1) _ (by omega) h hT
        · obtain ⟨o, ho, hat, -⟩ := h.wait hiT c_33
          have e2 : nt (nI o) = o := ntn (by omega)
          refine wp_ald0 dX12_tickOnce_67 ?_
          refine wp_ild1 dX12_tickOnce_68 ?_
          refine wp_iconst (v := 2) dX12_tickOnce_69 (by decide) ?_
          refine wp_iconst (v := 0) dX12_tickOnce_70 (by decide) ?_
          refine mv_3 dX12_tickOnce_71 kX12_120 (cm_endWait (d := d - 1) hG hM (by omega) ho hat h.1 (by omega)) hM rfl (by omega) (Nat.le_of_ble_eq_true rfl) (Nat.le_refl _) (Nat.le_refl _) ?_
          refine wp_inc1 dX12_tickOnce_74 (by decide) rfl ?_
          refine wp_goto (tgt := 13) dX12_tickOnce_77 (by decide) ?_
          have e : teS F i = ewM F i o 2 0 := by simp only [teS, if_pos c_33, if_neg c_45, if_neg c_64, hat, e2]
          have h1 := h.te hiT
          have h0 := te_0 h hiT
          simp only [teL]
          rw [e] at h1 h0 ⊢
          exact ih (i + 1) _ (by omega) h1 (h0.trans hT)
def tck1 (F : Nat → Int32) : Nat → Int32 := tdL 8 0 (twL 8 0 (teL (nt (F 0)) 0 (upd F 9 (F 9 + 1))))
set_option maxHeartbeats 2000000 in
theorem cm_tickOnce {G : GG} {Y : Nat} {F : Nat → Int32} {E0 : Nat → va_E} {L : List Nat} {sz d : Nat}  (hG : GOK G) (hM : rIn (mR G Y) L) (h : TS F) (hdp : 2 ≤ d) : Ct G d yX12_tickOnce iX12_tickOnce [.ref Y] (Mm G Y F E0 L sz) 0 0 none (Mm G Y (tck1 F) E0 L sz) := by
  refine Ct.of 1 (by decide) rfl (by decide) (Nat.le_of_ble_eq_true rfl) ?_
  show WP _ _ _ _ _ _ _ 0 [some (.ref Y), none] [] _ 0 0
  refine wp_ald0 dX12_tickOnce_0 ?_
  refine gm_w dX12_tickOnce_1 fX12_7 hM ?_
  refine wp_bipush (v := 9) dX12_tickOnce_4 (by decide) ?_
  refine wp_dup2 dX12_tickOnce_6 rfl rfl ?_
  refine rm_w (i' := 9) dX12_tickOnce_7 hG hM (by decide) (by decide) ?_
  refine wp_iconst (v := 1) dX12_tickOnce_8 (by decide) ?_
  refine wp_iadd dX12_tickOnce_9 ?_
  refine sm_w (i' := 9) dX12_tickOnce_10 hG hM (by decide) (by decide) ?_
  refine wp_iconst (v := 0) dX12_tickOnce_11 (by decide) ?_
  refine wp_ist1 dX12_tickOnce_12 (by decide) rfl ?_
  simp only [tck1]
  exact WP.fg (by simp [lcle, nI_0]) (lm_te hG hM hdp h.1.thr.2 (nt (F 0)) 0 _ (by omega) (h.up (by omega)) (by rw [upd_ne (by omega)]; exact h.1.thr.1))

