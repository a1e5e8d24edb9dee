def ebMS (C : Nat → Int32) (k : Nat) : Nat → Int32 := if C (46 + k) = 1 then ubM C k else if C (46 + k) = 2 then ubM C k else C
def ebML : Nat → Nat → (Nat → Int32) → (Nat → Int32)
  | 0, _, C => C
  | n + 1, k, C => if 8 ≤ k then C else ebML n (k + 3) (ebMS C k)
def endbM (C : Nat → Int32) (c : Nat) : Nat → Int32 := ebML 3 c (upd C (228 + c) 0)
theorem SameS.ub {C : Nat → Int32} {o : Nat} (ho : o < 8) : SameS C (ubM C o) := (SameS.rf.up (by omega)).up (by omega)
theorem SameS.ebMS {C : Nat → Int32} {o : Nat} (ho : o < 8) : SameS C (ebMS C o) := by
  show SameS C (if C (46 + o) = 1 then ubM C o else if C (46 + o) = 2 then ubM C o else C)
  split
  · exact SameS.ub ho
  · split
    · exact SameS.ub ho
    · exact SameS.rf
theorem SameS.ebML : ∀ (n k : Nat) (C : Nat → Int32), SameS C (ebML n k C)
  | 0, _, _ => SameS.rf
  | n + 1, k, C => by
    show SameS C (if 8 ≤ k then C else _)
    split
    · exact SameS.rf
    · exact (SameS.ebMS (by omega)).tr (SameS.ebML n (k + 3) _)
theorem SameS.endbM {C : Nat → Int32} {c : Nat} (hc : c < 3) : SameS C (endbM C c) := (SameS.rf.up (by omega)).tr (SameS.ebML _ _ _)
def revM (F : Nat → Int32) (o : Nat) : Nat → Int32 := if rev0 F o (225 + o % 3) < rev0 F o 4 then (if rev0 F o (225 + o % 3) = rev0 F o 3 then (if ¬ begeF (rev0 F o) (o % 3) (62 + o) ≤ 0 then ubM (begeF (rev0 F o) (o % 3)) o else begeF (rev0 F o) (o % 3)) else ubM (rev0 F o) o) else endbM (rev0 F o) (o % 3)
theorem SameS.revM {C : Nat → Int32} {o : Nat} (ho : o < 8) : SameS C (revM C o) := by
  have h3 : o % 3 < 3 := Nat.mod_lt _ (by decide)
  have h0 : SameS C (rev0 C o) := (SameS.rf.up (by omega)).up (by omega)
  show SameS C (if _ then _ else _)
  split
  · split
    · split
      · exact (h0.tr (SameS.bege h3)).tr (SameS.ub ho)
      · exact h0.tr (SameS.bege h3)
    · exact h0.tr (SameS.ub ho)
  · exact h0.tr (SameS.endbM h3)
theorem SameS.inf2 {F : Nat → Int32} {o : Nat} (ho : o < 8) : SameS F (inf2 F o) := (((SameS.rf.up (by omega)).up (by omega)).up (by omega)).up (by omega)
theorem SameS.infM {F : Nat → Int32} {o : Nat} (ho : o < 8) : SameS F (infM F o) := by
  show SameS F (if _ then _ else _)
  split
  · exact SameS.inf2 ho
  · show SameS F (infK F o (lidM F))
    cases hl : lidM F with
    | none => exact SameS.rf
    | some j => exact (SameS.defl (lidM_lt hl)).tr (SameS.inf2 ho)
set_option maxHeartbeats 2000000 in
theorem lm_endb {G : GG} {Y : Nat} {E0 : Nat → va_E} {L : List Nat} {sz d : Nat} {o c : Nat} (hG : GOK G) (hM : rIn (mR G Y) L) (hdp : 2 ≤ d) (n : Nat) : ∀ (k : Nat) (F : Nat → Int32), 8 ≤ k + 3 * n → k ≤ 20 → WP G iX12_revoke d 0 0 none (Mm G Y (ebML n k F) E0 L sz) 62 [some (.ref Y), some (.int (nI o)), some (.int (nI c)), some (.int (nI k))] [] (Mm G Y F E0 L sz) 0 0 := by
  induction n with
  | zero =>
    intro k F hk hk2
    refine wp_ild3 dX12_revoke_62 ?_
    refine wp_bipush (v := 8) dX12_revoke_63 (by decide) ?_
    refine wp_icmp_ge (tgt := 105) dX12_revoke_65 (by decide) (fun c_65 => ?_) (fun c_65 => absurd (nI_le hk (by omega)) c_65)
    refine wp_goto (tgt := 216) dX12_revoke_105 (by decide) ?_
    exact wp_vret dX12_revoke_216 rfl (Nat.le_refl _) (Nat.le_refl _) (by first | with_reducible rfl | (simp only [ebML]; done) | (simp only [ebML]; rfl) | rfl) (by first | with_reducible rfl | (simp only [ebML]; done) | (simp only [ebML]; rfl) | rfl)
  | succ n ih =>
    intro k F hk1 hk2
    refine wp_ild3 dX12_revoke_62 ?_
    refine wp_bipush (v := 8) dX12_revoke_63 (by decide) ?_
    by_cases hk : 8 ≤ k
    · refine wp_icmp_ge (tgt := 105) dX12_revoke_65 (by decide) (fun c_65 => ?_) (fun c_65 => absurd (nI_le hk (by omega)) c_65)
      refine wp_goto (tgt := 216) dX12_revoke_105 (by decide) ?_
      exact wp_vret dX12_revoke_216 rfl (Nat.le_refl _) (Nat.le_refl _) (by first | with_reducible rfl | (simp only [ebML, if_pos hk]; done) | (simp only [ebML, if_pos hk]; rfl) | rfl) (by first | with_reducible rfl | (simp only [ebML, if_pos hk]; done) | (simp only [ebML, if_pos hk]; rfl) | rfl)
    · refine wp_icmp_ge (tgt := 105) dX12_revoke_65 (by decide) (fun c_65 => absurd c_65 (nI_ge (a := k) (b := 8) (by omega) (by decide))) (fun c_65 => ?_)
      have hk8 : k < 8 := by omega
      refine wp_ald0 dX12_revoke_68 ?_
      refine gm_w dX12_revoke_69 fX12_7 hM ?_
      refine wp_bipush (v := 46) dX12_revoke_72 (by decide) ?_
      refine wp_ild3 dX12_revoke_74 ?_
      refine wp_iaddN (a := 46) (b := k) (by decide) rfl dX12_revoke_75 ?_
      refine rm_w (i' := (46 + k)) dX12_revoke_76 hG hM rfl (by first | assumption | omega) ?_
      refine wp_iconst (v := 1) dX12_revoke_77 (by decide) ?_
      refine wp_icmp_eq (tgt := 94) dX12_revoke_78 (by decide) (fun c_78 => ?_) (fun c_78 => ?_)
      · refine wp_ald0 dX12_revoke_94 ?_
        refine wp_ild3 dX12_revoke_95 ?_
        refine mv_1 dX12_revoke_96 kX12_81 (cm_unbias (d := d - 1) hG hM (by assumption) (by omega)) hM rfl (by omega) (Nat.le_of_ble_eq_true rfl) (Nat.le_refl _) (Nat.le_refl _) ?_
        refine wp_iinc3 dX12_revoke_99 (by decide) rfl ?_
        rw [nI_3 k]
        refine wp_goto (tgt := 62) dX12_revoke_102 (by decide) ?_
        have e : ebMS F k = ubM F k := by simp only [ebMS, if_pos c_78]
        simp only [ebML, if_neg hk]
        rw [e]
        exact ih (k + 3) (ubM F k) (by omega) (by omega)
      · refine wp_ald0 dX12_revoke_81 ?_
        refine gm_w dX12_revoke_82 fX12_7 hM ?_
        refine wp_bipush (v := 46) dX12_revoke_85 (by decide) ?_
        refine wp_ild3 dX12_revoke_87 ?_
        refine wp_iaddN (a := 46) (b := k) (by decide) rfl dX12_revoke_88 ?_
        refine rm_w (i' := (46 + k)) dX12_revoke_89 hG hM rfl (by first | assumption | omega) ?_
        refine wp_iconst (v := 2) dX12_revoke_90 (by decide) ?_
        refine wp_icmp_ne (tgt := 99) dX12_revoke_91 (by decide) (fun c_91 => ?_) (fun c_91 => ?_)
        · refine wp_iinc3 dX12_revoke_99 (by decide) rfl ?_
          rw [nI_3 k]
          refine wp_goto (tgt := 62) dX12_revoke_102 (by decide) ?_
          have e : ebMS F k = F := by simp only [ebMS, if_neg c_78, if_neg c_91]
          simp only [ebML, if_neg hk]
          rw [e]
          exact ih (k + 3) (F) (by omega) (by omega)
        · refine wp_ald0 dX12_revoke_94 ?_
          refine wp_ild3 dX12_revoke_95 ?_
          refine mv_1 dX12_revoke_96 kX12_81 (cm_unbias (d := d - 1) hG hM (by assumption) (by omega)) hM rfl (by omega) (Nat.le_of_ble_eq_true rfl) (Nat.le_refl _) (Nat.le_refl _) ?_
          refine wp_iinc3 dX12_revoke_99 (by decide) rfl ?_
          rw [nI_3 k]
          refine wp_goto (tgt := 62) dX12_revoke_102 (by decide) ?_
          have e : ebMS F k = ubM F k := by simp only [ebMS, if_neg c_78, if_pos c_91]
          simp only [ebML, if_neg hk]
          rw [e]
          exact ih (k + 3) (ubM F k) (by omega) (by omega)
def reh (F : Nat → Int32) (o : Nat) : Nat → Int32 := if ¬ F (62 + o) ≤ 0 then ubM F o else F
set_option maxHeartbeats 2000000 in
theorem tm_rev195 {G : GG} {Y : Nat} {F : Nat → Int32} {E0 : Nat → va_E} {L : List Nat} {sz d : Nat} {o : Nat} (hG : GOK G) (hM : rIn (mR G Y) L) (ho : o < 8) (hdp : 2 ≤ d) : WP G iX12_revoke d 0 0 none (Mm G Y (reh F o) E0 L sz) 195 [some (.ref Y), some (.int (nI o)), none, none] [] (Mm G Y F E0 L sz) 0 0 := by
  refine wp_ald0 dX12_revoke_195 ?_
  refine wp_ild1 dX12_revoke_196 ?_
  refine mi_1 dX12_revoke_197 kX12_54 (cm_isHeld (d := d - 1) hG hM (by first | assumption | omega)) hM rfl (by omega) (Nat.le_of_ble_eq_true rfl) (Nat.le_refl _) (Nat.le_refl _) ?_
  refine wp_ifB_eq (tgt := 216) dX12_revoke_200 (by decide) (fun c_200 => ?_) (fun c_200 => ?_)
  · exact wp_vret dX12_revoke_216 rfl (Nat.le_refl _) (Nat.le_refl _) (by first | with_reducible rfl | (simp only [reh, if_neg c_200]; done) | (simp only [reh, if_neg c_200]; rfl) | rfl) (by first | with_reducible rfl | (simp only [reh, if_neg c_200]; done) | (simp only [reh, if_neg c_200]; rfl) | rfl)
  · refine wp_ald0 dX12_revoke_203 ?_
    refine wp_ild1 dX12_revoke_204 ?_
    refine mv_1 dX12_revoke_205 kX12_81 (cm_unbias (d := d - 1) hG hM (by assumption) (by omega)) hM rfl (by omega) (Nat.le_of_ble_eq_true rfl) (Nat.le_refl _) (Nat.le_refl _) ?_
    refine wp_goto (tgt := 216) dX12_revoke_208 (by decide) ?_
    exact wp_vret dX12_revoke_216 rfl (Nat.le_refl _) (Nat.le_refl _) (by first | with_reducible rfl | (simp only [reh, if_pos c_200]; done) | (simp only [reh, if_pos c_200]; rfl) | rfl) (by first | with_reducible rfl | (simp only [reh, if_pos c_200]; done) | (simp only [reh, if_pos c_200]; rfl) | rfl)
set_option maxHeartbeats 2000000 in
theorem lm_bege {G : GG} {Y : Nat} {E0 : Nat → va_E} {L : List Nat} {sz d : Nat} {o c : Nat} (hG : GOK G) (hM : rIn (mR G Y) L) (ho : o < 8) (hc : c < 3) (hdp : 2 ≤ d) (n : Nat) : ∀ (k : Nat) (F : Nat → Int32), 8 ≤ k + 3 * n → k ≤ 20 → WP G iX12_revoke d 0 0 none (Mm G Y (reh (beL c n k F) o) E0 L sz) 143 [some (.ref Y), some (.int (nI o)), some (.int (nI c)), some (.int (nI k))] [] (Mm G Y F E0 L sz) 0 0 := by
  induction n with
  | zero =>
    intro k F hk hk2
    refine wp_ild3 dX12_revoke_143 ?_
    refine wp_bipush (v := 8) dX12_revoke_144 (by decide) ?_
    refine wp_icmp_ge (tgt := 195) dX12_revoke_146 (by decide) (fun c_146 => ?_) (fun c_146 => absurd (nI_le hk (by omega)) c_146)
    exact WP.fg (by simp [lcle]) (tm_rev195 hG hM ho hdp)
  | succ n ih =>
    intro k F hk1 hk2
    refine wp_ild3 dX12_revoke_143 ?_
    refine wp_bipush (v := 8) dX12_revoke_144 (by decide) ?_
    by_cases hk : 8 ≤ k
    · refine wp_icmp_ge (tgt := 195) dX12_revoke_146 (by decide) (fun c_146 => ?_) (fun c_146 => absurd (nI_le hk (by omega)) c_146)
      simp only [beL, if_pos hk]
      exact WP.fg (by simp [lcle]) (tm_rev195 hG hM ho hdp)
    · refine wp_icmp_ge (tgt := 195) dX12_revoke_146 (by decide) (fun c_146 => absurd c_146 (nI_ge (a := k) (b := 8) (by omega) (by decide))) (fun c_146 => ?_)
      have hk8 : k < 8 := by omega
      refine wp_ald0 dX12_revoke_149 ?_
      refine gm_w dX12_revoke_150 fX12_7 hM ?_
      refine wp_bipush (v := 46) dX12_revoke_153 (by decide) ?_
      refine wp_ild3 dX12_revoke_155 ?_
      refine wp_iaddN (a := 46) (b := k) (by decide) rfl dX12_revoke_156 ?_
      refine rm_w (i' := (46 + k)) dX12_revoke_157 hG hM rfl (by first | assumption | omega) ?_
      refine wp_iconst (v := 2) dX12_revoke_158 (by decide) ?_
      refine wp_icmp_ne (tgt := 189) dX12_revoke_159 (by decide) (fun c_159 => ?_) (fun c_159 => ?_)
      · refine wp_iinc3 dX12_revoke_189 (by decide) rfl ?_
        rw [nI_3 k]
        refine wp_goto (tgt := 143) dX12_revoke_192 (by decide) ?_
        have e : beS c F k = F := by simp only [beS, if_neg c_159]
        simp only [beL, if_neg hk]
        rw [e]
        exact ih (k + 3) (F) (by omega) (by omega)
      · refine wp_ald0 dX12_revoke_162 ?_
        refine wp_ild3 dX12_revoke_163 ?_
        refine mi_1 dX12_revoke_164 kX12_54 (cm_isHeld (d := d - 1) hG hM (by first | assumption | omega)) hM rfl (by omega) (Nat.le_of_ble_eq_true rfl) (Nat.le_refl _) (Nat.le_refl _) ?_
        refine wp_ifB_eq (tgt := 189) dX12_revoke_167 (by decide) (fun c_167 => ?_) (fun c_167 => ?_)
        · refine wp_iinc3 dX12_revoke_189 (by decide) rfl ?_
          rw [nI_3 k]
          refine wp_goto (tgt := 143) dX12_revoke_192 (by decide) ?_
          have e : beS c F k = F := by simp only [beS, if_pos c_159, if_neg c_167]
          simp only [beL, if_neg hk]
          rw [e]
          exact ih (k + 3) (F) (by omega) (by omega)
        · refine wp_ald0 dX12_revoke_170 ?_
          refine gm_w dX12_revoke_171 fX12_7 hM ?_
          refine wp_bipush (v := 78) dX12_revoke_174 (by decide) ?_
          refine wp_ild3 dX12_revoke_176 ?_
          refine wp_iaddN (a := 78) (b := k) (by decide) rfl dX12_revoke_177 ?_
          refine wp_ald0 dX12_revoke_178 ?_
          refine gm_w dX12_revoke_179 fX12_7 hM ?_
          refine wp_sipush (v := 222) dX12_revoke_182 (by decide) ?_
          refine wp_ild2 dX12_revoke_185 ?_
          refine wp_iaddN (a := 222) (b := c) (by decide) rfl dX12_revoke_186 ?_
          refine rm_w (i' := (222 + c)) dX12_revoke_187 hG hM rfl (by first | assumption | omega) ?_
          refine sm_w (i' := (78 + k)) dX12_revoke_188 hG hM rfl (by first | assumption | omega) ?_
          refine wp_iinc3 dX12_revoke_189 (by decide) rfl ?_
          rw [nI_3 k]
          refine wp_goto (tgt := 143) dX12_revoke_192 (by decide) ?_
          have e : beS c F k = upd F (78 + k) (F (222 + c)) := by simp only [beS, if_pos c_159, if_pos c_167]
          simp only [beL, if_neg hk]
          rw [e]
          exact ih (k + 3) (upd F (78 + k) (F (222 + c))) (by omega) (by omega)
set_option maxHeartbeats 2000000 in
theorem cm_revoke {G : GG} {Y : Nat} {F : Nat → Int32} {E0 : Nat → va_E} {L : List Nat} {sz d : Nat} {o : Nat} (hG : GOK G) (hM : rIn (mR G Y) L) (ho : o < 8) (hdp : 2 ≤ d) : Ct G d yX12_revoke iX12_revoke [.ref Y, .int (nI o)] (Mm G Y F E0 L sz) 0 0 none (Mm G Y (revM F o) E0 L sz) := by
  have ho3 : o % 3 < 3 := Nat.mod_lt _ (by decide)
  refine Ct.of 2 (by decide) rfl (by decide) (Nat.le_of_ble_eq_true rfl) ?_
  show WP _ _ _ _ _ _ _ 0 [some (.ref Y), some (.int (nI o)), none, none] [] _ 0 0
  refine wp_ild1 dX12_revoke_0 ?_
  refine wp_iconst (v := 3) dX12_revoke_1 (by decide) ?_
  refine wp_irem dX12_revoke_2 (by decide) ?_
  rw [rem3 ho]
  refine wp_ist2 dX12_revoke_3 (by decide) rfl ?_
  refine wp_ald0 dX12_revoke_4 ?_
  refine gm_w dX12_revoke_5 fX12_7 hM ?_
  refine wp_sipush (v := 225) dX12_revoke_8 (by decide) ?_
  refine wp_ild2 dX12_revoke_11 ?_
  refine wp_iaddN (a := 225) (b := (o % 3)) (by decide) rfl dX12_revoke_12 ?_
  refine wp_dup2 dX12_revoke_13 rfl rfl ?_
  refine rm_w (i' := (225 + (o % 3))) dX12_revoke_14 hG hM rfl (by first | assumption | omega) ?_
  refine wp_iconst (v := 1) dX12_revoke_15 (by decide) ?_
  refine wp_iadd dX12_revoke_16 ?_
  refine sm_w (i' := (225 + (o % 3))) dX12_revoke_17 hG hM rfl (by first | assumption | omega) ?_
  refine wp_ald0 dX12_revoke_18 ?_
  refine gm_w dX12_revoke_19 fX12_7 hM ?_
  refine wp_sipush (v := 232) dX12_revoke_22 (by decide) ?_
  refine wp_dup2 dX12_revoke_25 rfl rfl ?_
  refine rm_w (i' := 232) dX12_revoke_26 hG hM (by decide) (by decide) ?_
  refine wp_iconst (v := 1) dX12_revoke_27 (by decide) ?_
  refine wp_iadd dX12_revoke_28 ?_
  refine sm_w (i' := 232) dX12_revoke_29 hG hM (by decide) (by decide) ?_
  change WP _ _ _ _ _ _ _ _ _ _ (Mm G Y (rev0 F o) E0 L sz) _ _
  refine wp_ald0 dX12_revoke_30 ?_
  refine gm_w dX12_revoke_31 fX12_7 hM ?_
  refine wp_sipush (v := 225) dX12_revoke_34 (by decide) ?_
  refine wp_ild2 dX12_revoke_37 ?_
  refine wp_iaddN (a := 225) (b := (o % 3)) (by decide) rfl dX12_revoke_38 ?_
  refine rm_w (i' := (225 + (o % 3))) dX12_revoke_39 hG hM rfl (by first | assumption | omega) ?_
  refine wp_ald0 dX12_revoke_40 ?_
  refine gm_w dX12_revoke_41 fX12_7 hM ?_
  refine wp_iconst (v := 4) dX12_revoke_44 (by decide) ?_
  refine rm_w (i' := 4) dX12_revoke_45 hG hM (by decide) (by decide) ?_
  refine wp_icmp_lt (tgt := 108) dX12_revoke_46 (by decide) (fun c_46 => ?_) (fun c_46 => ?_)
  · refine wp_ald0 dX12_revoke_108 ?_
    refine gm_w dX12_revoke_109 fX12_7 hM ?_
    refine wp_sipush (v := 225) dX12_revoke_112 (by decide) ?_
    refine wp_ild2 dX12_revoke_115 ?_
    refine wp_iaddN (a := 225) (b := (o % 3)) (by decide) rfl dX12_revoke_116 ?_
    refine rm_w (i' := (225 + (o % 3))) dX12_revoke_117 hG hM rfl (by first | assumption | omega) ?_
    refine wp_ald0 dX12_revoke_118 ?_
    refine gm_w dX12_revoke_119 fX12_7 hM ?_
    refine wp_iconst (v := 3) dX12_revoke_122 (by decide) ?_
    refine rm_w (i' := 3) dX12_revoke_123 hG hM (by decide) (by decide) ?_
    refine wp_icmp_ne (tgt := 211) dX12_revoke_124 (by decide) (fun c_124 => ?_) (fun c_124 => ?_)
    · refine wp_ald0 dX12_revoke_211 ?_
      refine wp_ild1 dX12_revoke_212 ?_
      refine mv_1 dX12_revoke_213 kX12_81 (cm_unbias (d := d - 1) hG hM (by assumption) (by omega)) hM rfl (by omega) (Nat.le_of_ble_eq_true rfl) (Nat.le_refl _) (Nat.le_refl _) ?_
      exact wp_vret dX12_revoke_216 rfl (Nat.le_refl _) (Nat.le_refl _) (by first | with_reducible rfl | (simp only [revM, if_pos c_46, if_neg c_124]; done) | (unfold revM; rw [if_pos c_46]; rw [if_neg c_124])) (by first | with_reducible rfl | (simp only [revM, if_pos c_46, if_neg c_124]; done) | (unfold revM; rw [if_pos c_46]; rw [if_neg c_124]))
    · refine wp_ald0 dX12_revoke_127 ?_
      refine gm_w dX12_revoke_128 fX12_7 hM ?_
      refine wp_sipush (v := 222) dX12_revoke_131 (by decide) ?_
      refine wp_ild2 dX12_revoke_134 ?_
      refine wp_iaddN (a := 222) (b := (o % 3)) (by decide) rfl dX12_revoke_135 ?_
      refine wp_dup2 dX12_revoke_136 rfl rfl ?_
      refine rm_w (i' := (222 + (o % 3))) dX12_revoke_137 hG hM rfl (by first | assumption | omega) ?_
      refine wp_iconst (v := 1) dX12_revoke_138 (by decide) ?_
      refine wp_iadd dX12_revoke_139 ?_
      refine sm_w (i' := (222 + (o % 3))) dX12_revoke_140 hG hM rfl (by first | assumption | omega) ?_
      refine wp_ild2 dX12_revoke_141 ?_
      refine wp_ist3 dX12_revoke_142 (by decide) rfl ?_
      rw [show revM F o = reh (begeF (rev0 F o) (o % 3)) o by unfold revM reh; rw [if_pos c_46, if_pos c_124]]
      exact lm_bege hG hM ho ho3 hdp 3 _ _ (by omega) (by omega)
  · refine wp_ald0 dX12_revoke_49 ?_
    refine gm_w dX12_revoke_50 fX12_7 hM ?_
    refine wp_sipush (v := 228) dX12_revoke_53 (by decide) ?_
    refine wp_ild2 dX12_revoke_56 ?_
    refine wp_iaddN (a := 228) (b := (o % 3)) (by decide) rfl dX12_revoke_57 ?_
    refine wp_iconst (v := 0) dX12_revoke_58 (by decide) ?_
    refine sm_w (i' := (228 + (o % 3))) dX12_revoke_59 hG hM rfl (by first | assumption | omega) ?_
    refine wp_ild2 dX12_revoke_60 ?_
    refine wp_ist3 dX12_revoke_61 (by decide) rfl ?_
    rw [show revM F o = endbM (rev0 F o) (o % 3) by unfold revM; rw [if_neg c_46]]
    exact lm_endb hG hM hdp 3 _ _ (by omega) (by omega)

def bia4 (F : Nat → Int32) (t o : Nat) (v : Int32) : Nat → Int32 := upd (upd (upd (upd F (46 + o) 2) (70 + o) (nI t)) (78 + o) (upd (upd F (46 + o) 2) (70 + o) (nI t) (222 + o % 3))) 231 (upd (upd (upd F (46 + o) 2) (70 + o) (nI t)) (78 + o) (upd (upd F (46 + o) 2) (70 + o) (nI t) (222 + o % 3)) 231 + (if v = 0 then 0 else 1))
def biaM (F : Nat → Int32) (t o : Nat) (v : Int32) : Nat → Int32 := hldM (bia4 F t o v) (nI t) o 1
set_option maxHeartbeats 2000000 in
theorem cm_biased {G : GG} {Y : Nat} {F : Nat → Int32} {E0 : Nat → va_E} {L : List Nat} {sz d : Nat} {t o : Nat} {v : Int32} (hG : GOK G) (hM : rIn (mR G Y) L) (ht : t < 6) (ho : o < 8) (hdp : 1 ≤ d) : Ct G d yX12_biased iX12_biased [.ref Y, .int (nI t), .int (nI o), .int v] (Mm G Y F E0 L sz) 0 0 (some (.int 1)) (Mm G Y (biaM F t o v) E0 L sz) := by
  have ho3 : o % 3 < 3 := Nat.mod_lt _ (by decide)
  refine Ct.of 0 (by decide) rfl (by decide) (Nat.le_of_ble_eq_true rfl) ?_
  show WP _ _ _ _ _ _ _ 0 [some (.ref Y), some (.int (nI t)), some (.int (nI o)), some (.int v)] [] _ 0 0
  refine wp_ald0 dX12_biased_0 ?_
  refine gm_w dX12_biased_1 fX12_7 hM ?_
  refine wp_bipush (v := 46) dX12_biased_4 (by decide) ?_
  refine wp_ild2 dX12_biased_6 ?_
  refine wp_iaddN (a := 46) (b := o) (by decide) rfl dX12_biased_7 ?_
  refine wp_iconst (v := 2) dX12_biased_8 (by decide) ?_
  refine sm_w (i' := (46 + o)) dX12_biased_9 hG hM rfl (by first | assumption | omega) ?_
  refine wp_ald0 dX12_biased_10 ?_
  refine gm_w dX12_biased_11 fX12_7 hM ?_
  refine wp_bipush (v := 70) dX12_biased_14 (by decide) ?_
  refine wp_ild2 dX12_biased_16 ?_
  refine wp_iaddN (a := 70) (b := o) (by decide) rfl dX12_biased_17 ?_
  refine wp_ild1 dX12_biased_18 ?_
  refine sm_w (i' := (70 + o)) dX12_biased_19 hG hM rfl (by first | assumption | omega) ?_
  refine wp_ald0 dX12_biased_20 ?_
  refine gm_w dX12_biased_21 fX12_7 hM ?_
  refine wp_bipush (v := 78) dX12_biased_24 (by decide) ?_
  refine wp_ild2 dX12_biased_26 ?_
  refine wp_iaddN (a := 78) (b := o) (by decide) rfl dX12_biased_27 ?_
  refine wp_ald0 dX12_biased_28 ?_
  refine gm_w dX12_biased_29 fX12_7 hM ?_
  refine wp_sipush (v := 222) dX12_biased_32 (by decide) ?_
  refine wp_ild2 dX12_biased_35 ?_
  refine wp_iconst (v := 3) dX12_biased_36 (by decide) ?_
  refine wp_irem dX12_biased_37 (by decide) ?_
  rw [rem3 ho]
  refine wp_iaddN (a := 222) (b := (o % 3)) (by decide) rfl dX12_biased_38 ?_
  refine rm_w (i' := (222 + (o % 3))) dX12_biased_39 hG hM rfl (by first | assumption | omega) ?_
  refine sm_w (i' := (78 + o)) dX12_biased_40 hG hM rfl (by first | assumption | omega) ?_
  refine wp_ald0 dX12_biased_41 ?_
  refine gm_w dX12_biased_42 fX12_7 hM ?_
  refine wp_sipush (v := 231) dX12_biased_45 (by decide) ?_
  refine wp_dup2 dX12_biased_48 rfl rfl ?_
  refine rm_w (i' := 231) dX12_biased_49 hG hM (by decide) (by decide) ?_
  refine wp_ild3 dX12_biased_50 ?_
  refine wp_if_eq (tgt := 58) dX12_biased_51 (by decide) (fun c_51 => ?_) (fun c_51 => ?_)
  · refine wp_iconst (v := 0) dX12_biased_58 (by decide) ?_
    refine wp_iadd dX12_biased_59 ?_
    refine sm_w (i' := 231) dX12_biased_60 hG hM (by decide) (by decide) ?_
    refine wp_ald0 dX12_biased_61 ?_
    refine wp_ild1 dX12_biased_62 ?_
    refine wp_ild2 dX12_biased_63 ?_
    refine wp_iconst (v := 1) dX12_biased_64 (by decide) ?_
    refine mv_3 dX12_biased_65 kX12_75 (cm_hold (d := d - 1) hG hM ho) hM rfl (by omega) (Nat.le_of_ble_eq_true rfl) (Nat.le_refl _) (Nat.le_refl _) ?_
    refine wp_iconst (v := 1) dX12_biased_68 (by decide) ?_
    exact wp_iret dX12_biased_69 rfl (Nat.le_refl _) (Nat.le_refl _) (by first | with_reducible rfl | (simp only [biaM, bia4, if_pos c_51]; done) | (simp only [biaM, bia4, if_pos c_51]; rfl) | rfl) (by first | with_reducible rfl | (simp only [biaM, bia4, if_pos c_51]; done) | (simp only [biaM, bia4, if_pos c_51]; rfl) | rfl)
  · refine wp_iconst (v := 1) dX12_biased_54 (by decide) ?_
    refine wp_goto (tgt := 59) dX12_biased_55 (by decide) ?_
    refine wp_iadd dX12_biased_59 ?_
    refine sm_w (i' := 231) dX12_biased_60 hG hM (by decide) (by decide) ?_
    refine wp_ald0 dX12_biased_61 ?_
    refine wp_ild1 dX12_biased_62 ?_
    refine wp_ild2 dX12_biased_63 ?_
    refine wp_iconst (v := 1) dX12_biased_64 (by decide) ?_
    refine mv_3 dX12_biased_65 kX12_75 (cm_hold (d := d - 1) hG hM ho) hM rfl (by omega) (Nat.le_of_ble_eq_true rfl) (Nat.le_refl _) (Nat.le_refl _) ?_
    refine wp_iconst (v := 1) dX12_biased_68 (by decide) ?_
    exact wp_iret dX12_biased_69 rfl (Nat.le_refl _) (Nat.le_refl _) (by first | with_reducible rfl | (simp only [biaM, bia4, if_neg c_51]; done) | (simp only [biaM, bia4, if_neg c_51]; rfl) | rfl) (by first | with_reducible rfl | (simp only [biaM, bia4, if_neg c_51]; done) | (simp only [biaM, bia4, if_neg c_51]; rfl) | rfl)

def enb (F : Nat → Int32) (t o : Nat) : Int32 × (Nat → Int32) := (0, quM (upd (upd F 235 (F 235 + 1)) (40 + t) 1) t o)
def en150 (F : Nat → Int32) (t o : Nat) : Int32 × (Nat → Int32) := if F (46 + o) = 3 then (if cifM F then enb (infM F o) t o else (-6, infM F o)) else enb F t o
def en80 (F : Nat → Int32) (t o : Nat) : Int32 × (Nat → Int32) := if F (46 + o) = 4 then (if ¬ F (62 + o) ≤ 0 then en150 F t o else (3, hldM (upd (upd F 231 (F 231 + 1)) 238 (upd F 231 (F 231 + 1) 238 + (if upd F 231 (F 231 + 1) (110 + o) ≤ 0 then 0 else 1))) (nI t) o 1)) else en150 F t o
def en37 (F : Nat → Int32) (t o : Nat) : Int32 × (Nat → Int32) := if F (46 + o) = 0 then (2, hldM (upd (upd F (46 + o) 3) 231 (upd F (46 + o) 3 231 + 1)) (nI t) o 1) else en80 F t o
def entdM (F : Nat → Int32) (t o : Nat) : Int32 × (Nat → Int32) := if F (46 + o) = 2 then (if ¬ F (62 + o) ≤ 0 then en37 F t o else if bOK F o then en37 F t o else (1, biaM F t o 1)) else en37 F t o
set_option maxHeartbeats 2000000 in
theorem tm_enb {G : GG} {Y : Nat} {F : Nat → Int32} {E0 : Nat → va_E} {L : List Nat} {sz d : Nat} {t o : Nat} (hG : GOK G) (hM : rIn (mR G Y) L) (ht : t < 6) (ho : o < 8) (hW : WI F) (hdp : 3 ≤ d) : WP G iX12_entered d 0 0 (some (.int (enb F t o).1)) (Mm G Y ((enb F t o).2) E0 L sz) 174 [some (.ref Y), some (.int (nI t)), some (.int (nI o))] [] (Mm G Y F E0 L sz) 0 0 := by
  refine wp_ald0 dX12_entered_174 ?_
  refine gm_w dX12_entered_175 fX12_7 hM ?_
  refine wp_sipush (v := 235) dX12_entered_178 (by decide) ?_
  refine wp_dup2 dX12_entered_181 rfl rfl ?_
  refine rm_w (i' := 235) dX12_entered_182 hG hM (by decide) (by decide) ?_
  refine wp_iconst (v := 1) dX12_entered_183 (by decide) ?_
  refine wp_iadd dX12_entered_184 ?_
  refine sm_w (i' := 235) dX12_entered_185 hG hM (by decide) (by decide) ?_
  refine wp_ald0 dX12_entered_186 ?_
  refine gm_w dX12_entered_187 fX12_7 hM ?_
  refine wp_bipush (v := 40) dX12_entered_190 (by decide) ?_
  refine wp_ild1 dX12_entered_192 ?_
  refine wp_iaddN (a := 40) (b := t) (by decide) rfl dX12_entered_193 ?_
  refine wp_iconst (v := 1) dX12_entered_194 (by decide) ?_
  refine sm_w (i' := (40 + t)) dX12_entered_195 hG hM rfl (by first | assumption | omega) ?_
  refine wp_ald0 dX12_entered_196 ?_
  refine wp_ild1 dX12_entered_197 ?_
  refine wp_ild2 dX12_entered_198 ?_
  refine mv_2 dX12_entered_199 kX12_72 (cm_queueUp (d := d - 1) hG hM ht ho (((hW.up (by omega)).up (by omega)).q ho)) hM rfl (by omega) (Nat.le_of_ble_eq_true rfl) (Nat.le_refl _) (Nat.le_refl _) ?_
  refine wp_iconst (v := 0) dX12_entered_202 (by decide) ?_
  exact wp_iret dX12_entered_203 rfl (Nat.le_refl _) (Nat.le_refl _) (by first | with_reducible rfl | (simp only [enb]; done) | (simp only [enb]; rfl) | rfl) (by first | with_reducible rfl | (simp only [enb]; done) | (simp only [enb]; rfl) | rfl)
set_option maxHeartbeats 2000000 in
theorem tm_en150 {G : GG} {Y : Nat} {F : Nat → Int32} {E0 : Nat → va_E} {L : List Nat} {sz d : Nat} {t o : Nat} (hG : GOK G) (hM : rIn (mR G Y) L) (ht : t < 6) (ho : o < 8) (hW : WI F) (hdp : 3 ≤ d) : WP G iX12_entered d 0 0 (some (.int (en150 F t o).1)) (Mm G Y ((en150 F t o).2) E0 L sz) 150 [some (.ref Y), some (.int (nI t)), some (.int (nI o))] [] (Mm G Y F E0 L sz) 0 0 := by
  refine wp_ald0 dX12_entered_150 ?_
  refine gm_w dX12_entered_151 fX12_7 hM ?_
  refine wp_bipush (v := 46) dX12_entered_154 (by decide) ?_
  refine wp_ild2 dX12_entered_156 ?_
  refine wp_iaddN (a := 46) (b := o) (by decide) rfl dX12_entered_157 ?_
  refine rm_w (i' := (46 + o)) dX12_entered_158 hG hM rfl (by first | assumption | omega) ?_
  refine wp_iconst (v := 3) dX12_entered_159 (by decide) ?_
  refine wp_icmp_ne (tgt := 174) dX12_entered_160 (by decide) (fun c_160 => ?_) (fun c_160 => ?_)
  · simp only [en150, if_neg c_160]
    exact tm_enb hG hM ht ho hW hdp
  · refine wp_ald0 dX12_entered_163 ?_
    refine wp_ild2 dX12_entered_164 ?_
    refine mi_1 dX12_entered_165 kX12_91 (cm_inflates (d := d - 1) hG hM ho (by omega)) hM rfl (by omega) (Nat.le_of_ble_eq_true rfl) (Nat.le_refl _) (Nat.le_refl _) ?_
    refine wp_ifB_ne (tgt := 174) dX12_entered_168 (by decide) (fun c_168 => ?_) (fun c_168 => ?_)
    · simp only [en150, if_pos c_160, if_pos c_168]
      exact tm_enb hG hM ht ho (hW.of (SameS.infM ho)) hdp
    · refine wp_bipush (v := (-6)) dX12_entered_171 (by decide) ?_
      exact wp_iret dX12_entered_173 rfl (Nat.le_refl _) (Nat.le_refl _) (by first | with_reducible rfl | (simp only [en150, if_pos c_160, if_neg c_168]; done) | (simp only [en150, if_pos c_160, if_neg c_168]; rfl) | rfl) (by first | with_reducible rfl | (simp only [en150, if_pos c_160, if_neg c_168]; done) | (simp only [en150, if_pos c_160, if_neg c_168]; rfl) | rfl)
set_option maxHeartbeats 2000000 in
theorem tm_en80 {G : GG} {Y : Nat} {F : Nat → Int32} {E0 : Nat → va_E} {L : List Nat} {sz d : Nat} {t o : Nat} (hG : GOK G) (hM : rIn (mR G Y) L) (ht : t < 6) (ho : o < 8) (hW : WI F) (hdp : 3 ≤ d) : WP G iX12_entered d 0 0 (some (.int (en80 F t o).1)) (Mm G Y ((en80 F t o).2) E0 L sz) 80 [some (.ref Y), some (.int (nI t)), some (.int (nI o))] [] (Mm G Y F E0 L sz) 0 0 := by
  refine wp_ald0 dX12_entered_80 ?_
  refine gm_w dX12_entered_81 fX12_7 hM ?_
  refine wp_bipush (v := 46) dX12_entered_84 (by decide) ?_
  refine wp_ild2 dX12_entered_86 ?_
  refine wp_iaddN (a := 46) (b := o) (by decide) rfl dX12_entered_87 ?_
  refine rm_w (i' := (46 + o)) dX12_entered_88 hG hM rfl (by first | assumption | omega) ?_
  refine wp_iconst (v := 4) dX12_entered_89 (by decide) ?_
  refine wp_icmp_ne (tgt := 150) dX12_entered_90 (by decide) (fun c_90 => ?_) (fun c_90 => ?_)
  · simp only [en80, if_neg c_90]
    exact tm_en150 hG hM ht ho hW hdp
  · refine wp_ald0 dX12_entered_93 ?_
    refine wp_ild2 dX12_entered_94 ?_
    refine mi_1 dX12_entered_95 kX12_54 (cm_isHeld (d := d - 1) hG hM (by first | assumption | omega)) hM rfl (by omega) (Nat.le_of_ble_eq_true rfl) (Nat.le_refl _) (Nat.le_refl _) ?_
    refine wp_ifB_ne (tgt := 150) dX12_entered_98 (by decide) (fun c_98 => ?_) (fun c_98 => ?_)
    · simp only [en80, if_pos c_90, if_pos c_98]
      exact tm_en150 hG hM ht ho hW hdp
    · refine wp_ald0 dX12_entered_101 ?_
      refine gm_w dX12_entered_102 fX12_7 hM ?_
      refine wp_sipush (v := 231) dX12_entered_105 (by decide) ?_
      refine wp_dup2 dX12_entered_108 rfl rfl ?_
      refine rm_w (i' := 231) dX12_entered_109 hG hM (by decide) (by decide) ?_
      refine wp_iconst (v := 1) dX12_entered_110 (by decide) ?_
      refine wp_iadd dX12_entered_111 ?_
      refine sm_w (i' := 231) dX12_entered_112 hG hM (by decide) (by decide) ?_
      refine wp_ald0 dX12_entered_113 ?_
      refine gm_w dX12_entered_114 fX12_7 hM ?_
      refine wp_sipush (v := 238) dX12_entered_117 (by decide) ?_
      refine wp_dup2 dX12_entered_120 rfl rfl ?_
      refine rm_w (i' := 238) dX12_entered_121 hG hM (by decide) (by decide) ?_
      refine wp_ald0 dX12_entered_122 ?_
      refine gm_w dX12_entered_123 fX12_7 hM ?_
      refine wp_bipush (v := 110) dX12_entered_126 (by decide) ?_
      refine wp_ild2 dX12_entered_128 ?_
      refine wp_iaddN (a := 110) (b := o) (by decide) rfl dX12_entered_129 ?_
      refine rm_w (i' := (110 + o)) dX12_entered_130 hG hM rfl (by first | assumption | omega) ?_
      refine wp_if_le (tgt := 138) dX12_entered_131 (by decide) (fun c_131 => ?_) (fun c_131 => ?_)
      · refine wp_iconst (v := 0) dX12_entered_138 (by decide) ?_
        refine wp_iadd dX12_entered_139 ?_
        refine sm_w (i' := 238) dX12_entered_140 hG hM (by decide) (by decide) ?_
        refine wp_ald0 dX12_entered_141 ?_
        refine wp_ild1 dX12_entered_142 ?_
        refine wp_ild2 dX12_entered_143 ?_
        refine wp_iconst (v := 1) dX12_entered_144 (by decide) ?_
        refine mv_3 dX12_entered_145 kX12_75 (cm_hold (d := d - 1) hG hM ho) hM rfl (by omega) (Nat.le_of_ble_eq_true rfl) (Nat.le_refl _) (Nat.le_refl _) ?_
        refine wp_iconst (v := 3) dX12_entered_148 (by decide) ?_
        exact wp_iret dX12_entered_149 rfl (Nat.le_refl _) (Nat.le_refl _) (by first | with_reducible rfl | (simp only [en80, if_pos c_90, if_neg c_98, if_pos c_131]; done) | (simp only [en80, if_pos c_90, if_neg c_98, if_pos c_131]; rfl) | rfl) (by first | with_reducible rfl | (simp only [en80, if_pos c_90, if_neg c_98, if_pos c_131]; done) | (simp only [en80, if_pos c_90, if_neg c_98, if_pos c_131]; rfl) | rfl)
      · refine wp_iconst (v := 1) dX12_entered_134 (by decide) ?_
        refine wp_goto (tgt := 139) dX12_entered_135 (by decide) ?_
        refine wp_iadd dX12_entered_139 ?_
        refine sm_w (i' := 238) dX12_entered_140 hG hM (by decide) (by decide) ?_
        refine wp_ald0 dX12_entered_141 ?_
        refine wp_ild1 dX12_entered_142 ?_
        refine wp_ild2 dX12_entered_143 ?_
        refine wp_iconst (v := 1) dX12_entered_144 (by decide) ?_
        refine mv_3 dX12_entered_145 kX12_75 (cm_hold (d := d - 1) hG hM ho) hM rfl (by omega) (Nat.le_of_ble_eq_true rfl) (Nat.le_refl _) (Nat.le_refl _) ?_
        refine wp_iconst (v := 3) dX12_entered_148 (by decide) ?_
        exact wp_iret dX12_entered_149 rfl (Nat.le_refl _) (Nat.le_refl _) (by first | with_reducible rfl | (simp only [en80, if_pos c_90, if_neg c_98, if_neg c_131]; done) | (simp only [en80, if_pos c_90, if_neg c_98, if_neg c_131]; rfl) | rfl) (by first | with_reducible rfl | (simp only [en80, if_pos c_90, if_neg c_98, if_neg c_131]; done) | (simp only [en80, if_pos c_90, if_neg c_98, if_neg c_131]; rfl) | rfl)
set_option maxHeartbeats 2000000 in
theorem tm_en37 {G : GG} {Y : Nat} {F : Nat → Int32} {E0 : Nat → va_E} {L : List Nat} {sz d : Nat} {t o : Nat} (hG : GOK G) (hM : rIn (mR G Y) L) (ht : t < 6) (ho : o < 8) (hW : WI F) (hdp : 3 ≤ d) : WP G iX12_entered d 0 0 (some (.int (en37 F t o).1)) (Mm G Y ((en37 F t o).2) E0 L sz) 37 [some (.ref Y), some (.int (nI t)), some (.int (nI o))] [] (Mm G Y F E0 L sz) 0 0 := by
  refine wp_ald0 dX12_entered_37 ?_
  refine gm_w dX12_entered_38 fX12_7 hM ?_
  refine wp_bipush (v := 46) dX12_entered_41 (by decide) ?_
  refine wp_ild2 dX12_entered_43 ?_
  refine wp_iaddN (a := 46) (b := o) (by decide) rfl dX12_entered_44 ?_
  refine rm_w (i' := (46 + o)) dX12_entered_45 hG hM rfl (by first | assumption | omega) ?_
  refine wp_if_ne (tgt := 80) dX12_entered_46 (by decide) (fun c_46 => ?_) (fun c_46 => ?_)
  · simp only [en37, if_neg c_46]
    exact tm_en80 hG hM ht ho hW hdp
  · refine wp_ald0 dX12_entered_49 ?_
    refine gm_w dX12_entered_50 fX12_7 hM ?_
    refine wp_bipush (v := 46) dX12_entered_53 (by decide) ?_
    refine wp_ild2 dX12_entered_55 ?_
    refine wp_iaddN (a := 46) (b := o) (by decide) rfl dX12_entered_56 ?_
    refine wp_iconst (v := 3) dX12_entered_57 (by decide) ?_
    refine sm_w (i' := (46 + o)) dX12_entered_58 hG hM rfl (by first | assumption | omega) ?_
    refine wp_ald0 dX12_entered_59 ?_
    refine gm_w dX12_entered_60 fX12_7 hM ?_
    refine wp_sipush (v := 231) dX12_entered_63 (by decide) ?_
    refine wp_dup2 dX12_entered_66 rfl rfl ?_
    refine rm_w (i' := 231) dX12_entered_67 hG hM (by decide) (by decide) ?_
    refine wp_iconst (v := 1) dX12_entered_68 (by decide) ?_
    refine wp_iadd dX12_entered_69 ?_
    refine sm_w (i' := 231) dX12_entered_70 hG hM (by decide) (by decide) ?_
    refine wp_ald0 dX12_entered_71 ?_
    refine wp_ild1 dX12_entered_72 ?_
    refine wp_ild2 dX12_entered_73 ?_
    refine wp_iconst (v := 1) dX12_entered_74 (by decide) ?_
    refine mv_3 dX12_entered_75 kX12_75 (cm_hold (d := d - 1) hG hM ho) hM rfl (by omega) (Nat.le_of_ble_eq_true rfl) (Nat.le_refl _) (Nat.le_refl _) ?_
    refine wp_iconst (v := 2) dX12_entered_78 (by decide) ?_
    exact wp_iret dX12_entered_79 rfl (Nat.le_refl _) (Nat.le_refl _) (by first | with_reducible rfl | (simp only [en37, if_pos c_46]; done) | (simp only [en37, if_pos c_46]; rfl) | rfl) (by first | with_reducible rfl | (simp only [en37, if_pos c_46]; done) | (simp only [en37, if_pos c_46]; rfl) | rfl)
set_option maxHeartbeats 2000000 in
theorem cm_entered {G : GG} {Y : Nat} {F : Nat → Int32} {E0 : Nat → va_E} {L : List Nat} {sz d : Nat} {t o : Nat} (hG : GOK G) (hM : rIn (mR G Y) L) (ht : t < 6) (ho : o < 8) (hW : WI F) (hdp : 3 ≤ d) : Ct G d yX12_entered iX12_entered [.ref Y, .int (nI t), .int (nI o)] (Mm G Y F E0 L sz) 0 0 (some (.int (entdM F t o).1)) (Mm G Y ((entdM F t o).2) E0 L sz) := by
  refine Ct.of 0 (by decide) rfl (by decide) (Nat.le_of_ble_eq_true rfl) ?_
  show WP _ _ _ _ _ _ _ 0 [some (.ref Y), some (.int (nI t)), some (.int (nI o))] [] _ 0 0
  refine wp_ald0 dX12_entered_0 ?_
  refine gm_w dX12_entered_1 fX12_7 hM ?_
  refine wp_bipush (v := 46) dX12_entered_4 (by decide) ?_
  refine wp_ild2 dX12_entered_6 ?_
  refine wp_iaddN (a := 46) (b := o) (by decide) rfl dX12_entered_7 ?_
  refine rm_w (i' := (46 + o)) dX12_entered_8 hG hM rfl (by first | assumption | omega) ?_
  refine wp_iconst (v := 2) dX12_entered_9 (by decide) ?_
  refine wp_icmp_ne (tgt := 37) dX12_entered_10 (by decide) (fun c_10 => ?_) (fun c_10 => ?_)
  · simp only [entdM, if_neg c_10]
    exact tm_en37 hG hM ht ho hW hdp
  · refine wp_ald0 dX12_entered_13 ?_
    refine wp_ild2 dX12_entered_14 ?_
    refine mi_1 dX12_entered_15 kX12_54 (cm_isHeld (d := d - 1) hG hM (by first | assumption | omega)) hM rfl (by omega) (Nat.le_of_ble_eq_true rfl) (Nat.le_refl _) (Nat.le_refl _) ?_
    refine wp_ifB_ne (tgt := 37) dX12_entered_18 (by decide) (fun c_18 => ?_) (fun c_18 => ?_)
    · simp only [entdM, if_pos c_10, if_pos c_18]
      exact tm_en37 hG hM ht ho hW hdp
    · refine wp_ald0 dX12_entered_21 ?_
      refine wp_ild2 dX12_entered_22 ?_
      refine mi_1 dX12_entered_23 kX12_84 (cm_isValid (d := d - 1) hG hM ho) hM rfl (by omega) (Nat.le_of_ble_eq_true rfl) (Nat.le_refl _) (Nat.le_refl _) ?_
      refine wp_ifB_ne (tgt := 37) dX12_entered_26 (by decide) (fun c_26 => ?_) (fun c_26 => ?_)
      · simp only [entdM, if_pos c_10, if_neg c_18, if_pos c_26]
        exact tm_en37 hG hM ht ho hW hdp
      · refine wp_ald0 dX12_entered_29 ?_
        refine wp_ild1 dX12_entered_30 ?_
        refine wp_ild2 dX12_entered_31 ?_
        refine wp_iconst (v := 1) dX12_entered_32 (by decide) ?_
        refine mi_3 dX12_entered_33 kX12_87 (cm_biased (d := d - 1) hG hM ht ho (by omega)) hM rfl (by omega) (Nat.le_of_ble_eq_true rfl) (Nat.le_refl _) (Nat.le_refl _) ?_
        exact wp_iret dX12_entered_36 rfl (Nat.le_refl _) (Nat.le_refl _) (by first | with_reducible rfl | (simp only [entdM, if_pos c_10, if_neg c_18, if_neg c_26]; done) | (simp only [entdM, if_pos c_10, if_neg c_18, if_neg c_26]; rfl) | rfl) (by first | with_reducible rfl | (simp only [entdM, if_pos c_10, if_neg c_18, if_neg c_26]; done) | (simp only [entdM, if_pos c_10, if_neg c_18, if_neg c_26]; rfl) | rfl)

def et63 (F : Nat → Int32) (t o : Nat) : Int32 × (Nat → Int32) := (4, upd F (62 + o) (F (62 + o) + 1))
def et149 (F : Nat → Int32) (t o : Nat) : Int32 × (Nat → Int32) := if F (46 + o) = 2 then (if bOK F o then entdM (revM F o) t o else entdM F t o) else entdM F t o
def et99 (F : Nat → Int32) (t o : Nat) : Int32 × (Nat → Int32) := if F (46 + o) = 2 then (if ¬ F (62 + o) ≤ 0 then et149 F t o else if F (70 + o) = nI t then (if bOK F o then (1, biaM F t o 0) else et149 F t o) else et149 F t o) else et149 F t o
def et78 (F : Nat → Int32) (t o : Nat) : Int32 × (Nat → Int32) := if F (46 + o) = 1 then (1, biaM F t o 1) else et99 F t o
def etrM (F : Nat → Int32) (t o : Nat) : Int32 × (Nat → Int32) := if ¬ F (62 + o) ≤ 0 then (if F (54 + o) = nI t then (if F (46 + o) = 3 then (if F (62 + o) < F 5 then et63 F t o else if cifM F then et63 (infM F o) t o else (-6, infM F o)) else et63 F t o) else et78 F t o) else et78 F t o
set_option maxHeartbeats 2000000 in
theorem tm_et63 {G : GG} {Y : Nat} {F : Nat → Int32} {E0 : Nat → va_E} {L : List Nat} {sz d : Nat} {t o : Nat} (hG : GOK G) (hM : rIn (mR G Y) L) (ht : t < 6) (ho : o < 8) (hW : WI F) (hdp : 4 ≤ d) : WP G iX12_entering d 0 0 (some (.int (et63 F t o).1)) (Mm G Y ((et63 F t o).2) E0 L sz) 63 [some (.ref Y), some (.int (nI t)), some (.int (nI o))] [] (Mm G Y F E0 L sz) 0 0 := by
  refine wp_ald0 dX12_entering_63 ?_
  refine gm_w dX12_entering_64 fX12_7 hM ?_
  refine wp_bipush (v := 62) dX12_entering_67 (by decide) ?_
  refine wp_ild2 dX12_entering_69 ?_
  refine wp_iaddN (a := 62) (b := o) (by decide) rfl dX12_entering_70 ?_
  refine wp_dup2 dX12_entering_71 rfl rfl ?_
  refine rm_w (i' := (62 + o)) dX12_entering_72 hG hM rfl (by first | assumption | omega) ?_
  refine wp_iconst (v := 1) dX12_entering_73 (by decide) ?_
  refine wp_iadd dX12_entering_74 ?_
  refine sm_w (i' := (62 + o)) dX12_entering_75 hG hM rfl (by first | assumption | omega) ?_
  refine wp_iconst (v := 4) dX12_entering_76 (by decide) ?_
  exact wp_iret dX12_entering_77 rfl (Nat.le_refl _) (Nat.le_refl _) (by first | with_reducible rfl | (simp only [et63]; done) | (simp only [et63]; rfl) | rfl) (by first | with_reducible rfl | (simp only [et63]; done) | (simp only [et63]; rfl) | rfl)
set_option maxHeartbeats 2000000 in
theorem tm_et149 {G : GG} {Y : Nat} {F : Nat → Int32} {E0 : Nat → va_E} {L : List Nat} {sz d : Nat} {t o : Nat} (hG : GOK G) (hM : rIn (mR G Y) L) (ht : t < 6) (ho : o < 8) (hW : WI F) (hdp : 4 ≤ d) : WP G iX12_entering d 0 0 (some (.int (et149 F t o).1)) (Mm G Y ((et149 F t o).2) E0 L sz) 149 [some (.ref Y), some (.int (nI t)), some (.int (nI o))] [] (Mm G Y F E0 L sz) 0 0 := by
  refine wp_ald0 dX12_entering_149 ?_
  refine gm_w dX12_entering_150 fX12_7 hM ?_
  refine wp_bipush (v := 46) dX12_entering_153 (by decide) ?_
  refine wp_ild2 dX12_entering_155 ?_
  refine wp_iaddN (a := 46) (b := o) (by decide) rfl dX12_entering_156 ?_
  refine rm_w (i' := (46 + o)) dX12_entering_157 hG hM rfl (by first | assumption | omega) ?_
  refine wp_iconst (v := 2) dX12_entering_158 (by decide) ?_
  refine wp_icmp_ne (tgt := 175) dX12_entering_159 (by decide) (fun c_159 => ?_) (fun c_159 => ?_)
  · refine wp_ald0 dX12_entering_175 ?_
    refine wp_ild1 dX12_entering_176 ?_
    refine wp_ild2 dX12_entering_177 ?_
    refine mi_2 dX12_entering_178 kX12_97 (cm_entered (d := d - 1) hG hM ht ho (by first | exact hW | exact hW.of (SameS.revM ho)) (by omega)) hM rfl (by omega) (Nat.le_of_ble_eq_true rfl) (Nat.le_refl _) (Nat.le_refl _) ?_
    exact wp_iret dX12_entering_181 rfl (Nat.le_refl _) (Nat.le_refl _) (by first | with_reducible rfl | (simp only [et149, if_neg c_159]; done) | (simp only [et149, if_neg c_159]; rfl) | rfl) (by first | with_reducible rfl | (simp only [et149, if_neg c_159]; done) | (simp only [et149, if_neg c_159]; rfl) | rfl)
  · refine wp_ald0 dX12_entering_162 ?_
    refine wp_ild2 dX12_entering_163 ?_
    refine mi_1 dX12_entering_164 kX12_84 (cm_isValid (d := d - 1) hG hM ho) hM rfl (by omega) (Nat.le_of_ble_eq_true rfl) (Nat.le_refl _) (Nat.le_refl _) ?_
    refine wp_ifB_eq (tgt := 175) dX12_entering_167 (by decide) (fun c_167 => ?_) (fun c_167 => ?_)
    · refine wp_ald0 dX12_entering_175 ?_
      refine wp_ild1 dX12_entering_176 ?_
      refine wp_ild2 dX12_entering_177 ?_
      refine mi_2 dX12_entering_178 kX12_97 (cm_entered (d := d - 1) hG hM ht ho (by first | exact hW | exact hW.of (SameS.revM ho)) (by omega)) hM rfl (by omega) (Nat.le_of_ble_eq_true rfl) (Nat.le_refl _) (Nat.le_refl _) ?_
      exact wp_iret dX12_entering_181 rfl (Nat.le_refl _) (Nat.le_refl _) (by first | with_reducible rfl | (simp only [et149, if_pos c_159, if_neg c_167]; done) | (simp only [et149, if_pos c_159, if_neg c_167]; rfl) | rfl) (by first | with_reducible rfl | (simp only [et149, if_pos c_159, if_neg c_167]; done) | (simp only [et149, if_pos c_159, if_neg c_167]; rfl) | rfl)
    · refine wp_ald0 dX12_entering_170 ?_
      refine wp_ild2 dX12_entering_171 ?_
      refine mv_1 dX12_entering_172 kX12_94 (cm_revoke (d := d - 1) hG hM ho (by omega)) hM rfl (by omega) (Nat.le_of_ble_eq_true rfl) (Nat.le_refl _) (Nat.le_refl _) ?_
      refine wp_ald0 dX12_entering_175 ?_
      refine wp_ild1 dX12_entering_176 ?_
      refine wp_ild2 dX12_entering_177 ?_
      refine mi_2 dX12_entering_178 kX12_97 (cm_entered (d := d - 1) hG hM ht ho (by first | exact hW | exact hW.of (SameS.revM ho)) (by omega)) hM rfl (by omega) (Nat.le_of_ble_eq_true rfl) (Nat.le_refl _) (Nat.le_refl _) ?_
      exact wp_iret dX12_entering_181 rfl (Nat.le_refl _) (Nat.le_refl _) (by first | with_reducible rfl | (simp only [et149, if_pos c_159, if_pos c_167]; done) | (simp only [et149, if_pos c_159, if_pos c_167]; rfl) | rfl) (by first | with_reducible rfl | (simp only [et149, if_pos c_159, if_pos c_167]; done) | (simp only [et149, if_pos c_159, if_pos c_167]; rfl) | rfl)
set_option maxHeartbeats 2000000 in
theorem tm_et99 {G : GG} {Y : Nat} {F : Nat → Int32} {E0 : Nat → va_E} {L : List Nat} {sz d : Nat} {t o : Nat} (hG : GOK G) (hM : rIn (mR G Y) L) (ht : t < 6) (ho : o < 8) (hW : WI F) (hdp : 4 ≤ d) : WP G iX12_entering d 0 0 (some (.int (et99 F t o).1)) (Mm G Y ((et99 F t o).2) E0 L sz) 99 [some (.ref Y), some (.int (nI t)), some (.int (nI o))] [] (Mm G Y F E0 L sz) 0 0 := by
  refine wp_ald0 dX12_entering_99 ?_
  refine gm_w dX12_entering_100 fX12_7 hM ?_
  refine wp_bipush (v := 46) dX12_entering_103 (by decide) ?_
  refine wp_ild2 dX12_entering_105 ?_
  refine wp_iaddN (a := 46) (b := o) (by decide) rfl dX12_entering_106 ?_
  refine rm_w (i' := (46 + o)) dX12_entering_107 hG hM rfl (by first | assumption | omega) ?_
  refine wp_iconst (v := 2) dX12_entering_108 (by decide) ?_
  refine wp_icmp_ne (tgt := 149) dX12_entering_109 (by decide) (fun c_109 => ?_) (fun c_109 => ?_)
  · simp only [et99, if_neg c_109]
    exact tm_et149 hG hM ht ho hW hdp
  · refine wp_ald0 dX12_entering_112 ?_
    refine wp_ild2 dX12_entering_113 ?_
    refine mi_1 dX12_entering_114 kX12_54 (cm_isHeld (d := d - 1) hG hM (by first | assumption | omega)) hM rfl (by omega) (Nat.le_of_ble_eq_true rfl) (Nat.le_refl _) (Nat.le_refl _) ?_
    refine wp_ifB_ne (tgt := 149) dX12_entering_117 (by decide) (fun c_117 => ?_) (fun c_117 => ?_)
    · simp only [et99, if_pos c_109, if_pos c_117]
      exact tm_et149 hG hM ht ho hW hdp
    · refine wp_ald0 dX12_entering_120 ?_
      refine gm_w dX12_entering_121 fX12_7 hM ?_
      refine wp_bipush (v := 70) dX12_entering_124 (by decide) ?_
      refine wp_ild2 dX12_entering_126 ?_
      refine wp_iaddN (a := 70) (b := o) (by decide) rfl dX12_entering_127 ?_
      refine rm_w (i' := (70 + o)) dX12_entering_128 hG hM rfl (by first | assumption | omega) ?_
      refine wp_ild1 dX12_entering_129 ?_
      refine wp_icmp_ne (tgt := 149) dX12_entering_130 (by decide) (fun c_130 => ?_) (fun c_130 => ?_)
      · simp only [et99, if_pos c_109, if_neg c_117, if_neg c_130]
        exact tm_et149 hG hM ht ho hW hdp
      · refine wp_ald0 dX12_entering_133 ?_
        refine wp_ild2 dX12_entering_134 ?_
        refine mi_1 dX12_entering_135 kX12_84 (cm_isValid (d := d - 1) hG hM ho) hM rfl (by omega) (Nat.le_of_ble_eq_true rfl) (Nat.le_refl _) (Nat.le_refl _) ?_
        refine wp_ifB_eq (tgt := 149) dX12_entering_138 (by decide) (fun c_138 => ?_) (fun c_138 => ?_)
        · simp only [et99, if_pos c_109, if_neg c_117, if_pos c_130, if_neg c_138]
          exact tm_et149 hG hM ht ho hW hdp
        · refine wp_ald0 dX12_entering_141 ?_
          refine wp_ild1 dX12_entering_142 ?_
          refine wp_ild2 dX12_entering_143 ?_
          refine wp_iconst (v := 0) dX12_entering_144 (by decide) ?_
          refine mi_3 dX12_entering_145 kX12_87 (cm_biased (d := d - 1) hG hM ht ho (by omega)) hM rfl (by omega) (Nat.le_of_ble_eq_true rfl) (Nat.le_refl _) (Nat.le_refl _) ?_
          exact wp_iret dX12_entering_148 rfl (Nat.le_refl _) (Nat.le_refl _) (by first | with_reducible rfl | (simp only [et99, if_pos c_109, if_neg c_117, if_pos c_130, if_pos c_138]; done) | (simp only [et99, if_pos c_109, if_neg c_117, if_pos c_130, if_pos c_138]; rfl) | rfl) (by first | with_reducible rfl | (simp only [et99, if_pos c_109, if_neg c_117, if_pos c_130, if_pos c_138]; done) | (simp only [et99, if_pos c_109, if_neg c_117, if_pos c_130, if_pos c_138]; rfl) | rfl)
set_option maxHeartbeats 2000000 in
theorem tm_et78 {G : GG} {Y : Nat} {F : Nat → Int32} {E0 : Nat → va_E} {L : List Nat} {sz d : Nat} {t o : Nat} (hG : GOK G) (hM : rIn (mR G Y) L) (ht : t < 6) (ho : o < 8) (hW : WI F) (hdp : 4 ≤ d) : WP G iX12_entering d 0 0 (some (.int (et78 F t o).1)) (Mm G Y ((et78 F t o).2) E0 L sz) 78 [some (.ref Y), some (.int (nI t)), some (.int (nI o))] [] (Mm G Y F E0 L sz) 0 0 := by
  refine wp_ald0 dX12_entering_78 ?_
  refine gm_w dX12_entering_79 fX12_7 hM ?_
  refine wp_bipush (v := 46) dX12_entering_82 (by decide) ?_
  refine wp_ild2 dX12_entering_84 ?_
  refine wp_iaddN (a := 46) (b := o) (by decide) rfl dX12_entering_85 ?_
  refine rm_w (i' := (46 + o)) dX12_entering_86 hG hM rfl (by first | assumption | omega) ?_
  refine wp_iconst (v := 1) dX12_entering_87 (by decide) ?_
  refine wp_icmp_ne (tgt := 99) dX12_entering_88 (by decide) (fun c_88 => ?_) (fun c_88 => ?_)
  · simp only [et78, if_neg c_88]
    exact tm_et99 hG hM ht ho hW hdp
  · refine wp_ald0 dX12_entering_91 ?_
    refine wp_ild1 dX12_entering_92 ?_
    refine wp_ild2 dX12_entering_93 ?_
    refine wp_iconst (v := 1) dX12_entering_94 (by decide) ?_
    refine mi_3 dX12_entering_95 kX12_87 (cm_biased (d := d - 1) hG hM ht ho (by omega)) hM rfl (by omega) (Nat.le_of_ble_eq_true rfl) (Nat.le_refl _) (Nat.le_refl _) ?_
    exact wp_iret dX12_entering_98 rfl (Nat.le_refl _) (Nat.le_refl _) (by first | with_reducible rfl | (simp only [et78, if_pos c_88]; done) | (simp only [et78, if_pos c_88]; rfl) | rfl) (by first | with_reducible rfl | (simp only [et78, if_pos c_88]; done) | (simp only [et78, if_pos c_88]; rfl) | rfl)
set_option maxHeartbeats 2000000 in
theorem cm_entering {G : GG} {Y : Nat} {F : Nat → Int32} {E0 : Nat → va_E} {L : List Nat} {sz d : Nat} {t o : Nat} (hG : GOK G) (hM : rIn (mR G Y) L) (ht : t < 6) (ho : o < 8) (hW : WI F) (hdp : 4 ≤ d) : Ct G d yX12_entering iX12_entering [.ref Y, .int (nI t), .int (nI o)] (Mm G Y F E0 L sz) 0 0 (some (.int (etrM F t o).1)) (Mm G Y ((etrM F t o).2) E0 L sz) := by
  refine Ct.of 0 (by decide) rfl (by decide) (Nat.le_of_ble_eq_true rfl) ?_
  show WP _ _ _ _ _ _ _ 0 [some (.ref Y), some (.int (nI t)), some (.int (nI o))] [] _ 0 0
  refine wp_ald0 dX12_entering_0 ?_
  refine wp_ild2 dX12_entering_1 ?_
  refine mi_1 dX12_entering_2 kX12_54 (cm_isHeld (d := d - 1) hG hM (by first | assumption | omega)) hM rfl (by omega) (Nat.le_of_ble_eq_true rfl) (Nat.le_refl _) (Nat.le_refl _) ?_
  refine wp_ifB_eq (tgt := 78) dX12_entering_5 (by decide) (fun c_5 => ?_) (fun c_5 => ?_)
  · simp only [etrM, if_neg c_5]
    exact tm_et78 hG hM ht ho hW hdp
  · refine wp_ald0 dX12_entering_8 ?_
    refine gm_w dX12_entering_9 fX12_7 hM ?_
    refine wp_bipush (v := 54) dX12_entering_12 (by decide) ?_
    refine wp_ild2 dX12_entering_14 ?_
    refine wp_iaddN (a := 54) (b := o) (by decide) rfl dX12_entering_15 ?_
    refine rm_w (i' := (54 + o)) dX12_entering_16 hG hM rfl (by first | assumption | omega) ?_
    refine wp_ild1 dX12_entering_17 ?_
    refine wp_icmp_ne (tgt := 78) dX12_entering_18 (by decide) (fun c_18 => ?_) (fun c_18 => ?_)
    · simp only [etrM, if_pos c_5, if_neg c_18]
      exact tm_et78 hG hM ht ho hW hdp
    · refine wp_ald0 dX12_entering_21 ?_
      refine gm_w dX12_entering_22 fX12_7 hM ?_
      refine wp_bipush (v := 46) dX12_entering_25 (by decide) ?_
      refine wp_ild2 dX12_entering_27 ?_
      refine wp_iaddN (a := 46) (b := o) (by decide) rfl dX12_entering_28 ?_
      refine rm_w (i' := (46 + o)) dX12_entering_29 hG hM rfl (by first | assumption | omega) ?_
      refine wp_iconst (v := 3) dX12_entering_30 (by decide) ?_
      refine wp_icmp_ne (tgt := 63) dX12_entering_31 (by decide) (fun c_31 => ?_) (fun c_31 => ?_)
      · simp only [etrM, if_pos c_5, if_pos c_18, if_neg c_31]
        exact tm_et63 hG hM ht ho hW hdp
      · refine wp_ald0 dX12_entering_34 ?_
        refine gm_w dX12_entering_35 fX12_7 hM ?_
        refine wp_bipush (v := 62) dX12_entering_38 (by decide) ?_
        refine wp_ild2 dX12_entering_40 ?_
        refine wp_iaddN (a := 62) (b := o) (by decide) rfl dX12_entering_41 ?_
        refine rm_w (i' := (62 + o)) dX12_entering_42 hG hM rfl (by first | assumption | omega) ?_
        refine wp_ald0 dX12_entering_43 ?_
        refine gm_w dX12_entering_44 fX12_7 hM ?_
        refine wp_iconst (v := 5) dX12_entering_47 (by decide) ?_
        refine rm_w (i' := 5) dX12_entering_48 hG hM (by decide) (by decide) ?_
        refine wp_icmp_lt (tgt := 63) dX12_entering_49 (by decide) (fun c_49 => ?_) (fun c_49 => ?_)
        · simp only [etrM, if_pos c_5, if_pos c_18, if_pos c_31, if_pos c_49]
          exact tm_et63 hG hM ht ho hW hdp
        · refine wp_ald0 dX12_entering_52 ?_
          refine wp_ild2 dX12_entering_53 ?_
          refine mi_1 dX12_entering_54 kX12_91 (cm_inflates (d := d - 1) hG hM ho (by omega)) hM rfl (by omega) (Nat.le_of_ble_eq_true rfl) (Nat.le_refl _) (Nat.le_refl _) ?_
          refine wp_ifB_ne (tgt := 63) dX12_entering_57 (by decide) (fun c_57 => ?_) (fun c_57 => ?_)
          · simp only [etrM, if_pos c_5, if_pos c_18, if_pos c_31, if_neg c_49, if_pos c_57]
            exact tm_et63 hG hM ht ho (hW.of (SameS.infM ho)) hdp
          · refine wp_bipush (v := (-6)) dX12_entering_60 (by decide) ?_
            exact wp_iret dX12_entering_62 rfl (Nat.le_refl _) (Nat.le_refl _) (by first | with_reducible rfl | (simp only [etrM, if_pos c_5, if_pos c_18, if_pos c_31, if_neg c_49, if_neg c_57]; done) | (simp only [etrM, if_pos c_5, if_pos c_18, if_pos c_31, if_neg c_49, if_neg c_57]; rfl) | rfl) (by first | with_reducible rfl | (simp only [etrM, if_pos c_5, if_pos c_18, if_pos c_31, if_neg c_49, if_neg c_57]; done) | (simp only [etrM, if_pos c_5, if_pos c_18, if_pos c_31, if_neg c_49, if_neg c_57]; rfl) | rfl)

