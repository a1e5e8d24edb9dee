set_option maxHeartbeats 2000000 in
theorem cm_argument {G : GG} {Y : Nat} {F : Nat → Int32} {E0 : Nat → va_E} {L : List Nat} {sz d : Nat} {tx : Nat → Int32} {Ln a : Nat} {s : Int32} (hG : GOK G) (hM : rIn (mR G Y) L) (ht : TOK F tx Ln) (ha : F 9004 = nI a) (haL : a ≤ 200) (hdp : 2 ≤ d) : Ct G d yX12_argument iX12_argument [.ref Y, .int s] (Mm G Y F E0 L sz) 0 0 (some (.int (argT tx Ln a s).1)) (Mm G Y (upd F 9004 (nI (argT tx Ln a s).2)) E0 L sz) := by
  have hL := ht.2.1
  refine Ct.of 1 (by decide) rfl (by decide) (Nat.le_of_ble_eq_true rfl) ?_
  show WP _ _ _ _ _ _ _ 0 [some (.ref Y), some (.int s), none] [] _ 0 0
  refine wp_ald0 dX12_argument_0 ?_
  refine gm_at dX12_argument_1 fX12_268 hM ?_
  refine wp_ald0 dX12_argument_4 ?_
  refine gm_length dX12_argument_5 fX12_235 hM ?_
  refine wp_icmp_ge (tgt := 38) dX12_argument_8 (by decide) (fun c_8 => ?_) (fun c_8 => ?_)
  · have c_8 : Ln ≤ a := (nI_leI (by omega) (by omega)).mp (by rw [← ht.1, ← ha]; exact c_8)
    refine wp_iconst (v := (-1)) dX12_argument_38 (by decide) ?_
    exact wp_iret dX12_argument_39 rfl (Nat.le_refl _) (Nat.le_refl _) (by simp only [argT, if_pos c_8]; first | done | rw [upd_id ha]) (by simp only [argT, if_pos c_8]; first | done | rw [upd_id ha])
  · have c_8 : ¬ Ln ≤ a := fun q => c_8 (by rw [ht.1, ha]; exact (nI_leI (by omega) (by omega)).mpr q)
    refine wp_ald0 dX12_argument_11 ?_
    refine gm_text dX12_argument_12 fX12_22 hM ?_
    refine wp_ald0 dX12_argument_15 ?_
    refine gm_at dX12_argument_16 fX12_268 hM ?_
    refine rm_text (i' := a) dX12_argument_19 hG hM ha (by first | assumption | omega) ?_
    rw [ht.2.2 _ (by omega)]
    refine wp_bipush (v := 32) dX12_argument_20 (by decide) ?_
    refine wp_icmp_ne (tgt := 38) dX12_argument_22 (by decide) (fun c_22 => ?_) (fun c_22 => ?_)
    · refine wp_iconst (v := (-1)) dX12_argument_38 (by decide) ?_
      exact wp_iret dX12_argument_39 rfl (Nat.le_refl _) (Nat.le_refl _) (by simp only [argT, if_neg c_8, if_neg c_22]; first | done | rw [upd_id ha]) (by simp only [argT, if_neg c_8, if_neg c_22]; first | done | rw [upd_id ha])
    · refine wp_ald0 dX12_argument_25 ?_
      refine wp_ald0 dX12_argument_26 ?_
      refine gm_at dX12_argument_27 fX12_268 hM ?_
      refine wp_iconst (v := 1) dX12_argument_30 (by decide) ?_
      refine wp_iaddN (a := a) (b := 1) ha (by decide) dX12_argument_31 ?_
      refine mi_1 dX12_argument_32 kX12_271 (cm_isDigit (d := d - 1) hG hM ht (by omega) (by omega)) hM rfl (by omega) (Nat.le_of_ble_eq_true rfl) (Nat.le_refl _) (Nat.le_refl _) ?_
      refine wp_ifB_ne (tgt := 40) dX12_argument_35 (by decide) (fun c_35 => ?_) (fun c_35 => ?_)
      · have hd1 := c_35.1
        refine wp_ald0 dX12_argument_40 ?_
        refine gm_text dX12_argument_41 fX12_22 hM ?_
        refine wp_ald0 dX12_argument_44 ?_
        refine gm_at dX12_argument_45 fX12_268 hM ?_
        refine wp_iconst (v := 1) dX12_argument_48 (by decide) ?_
        refine wp_iaddN (a := a) (b := 1) ha (by decide) dX12_argument_49 ?_
        refine rm_text (i' := (a + 1)) dX12_argument_50 hG hM rfl (by first | assumption | omega) ?_
        rw [ht.2.2 _ (by omega)]
        refine wp_bipush (v := 48) dX12_argument_51 (by decide) ?_
        refine wp_isub dX12_argument_53 ?_
        refine wp_ist2 dX12_argument_54 (by decide) rfl ?_
        refine wp_ald0 dX12_argument_55 ?_
        refine wp_dup dX12_argument_56 rfl ?_
        refine gm_at dX12_argument_57 fX12_268 hM ?_
        refine wp_iconst (v := 2) dX12_argument_60 (by decide) ?_
        refine wp_iaddN (a := a) (b := 2) ha (by decide) dX12_argument_61 ?_
        refine pm_at dX12_argument_62 pX12_268 hM ?_
        simp only [argT, if_neg c_8, if_pos c_22, if_pos c_35]
        rw [show ∀ z, upd F 9004 (nI z) = upd (upd F 9004 (nI (a + 2))) 9004 (nI z) from fun z => upd_twice.symm]
        exact tm_ag65 hG hM ((SmT.rf.up (by omega)).t ht) upd_eq (by omega) (by omega)
      · refine wp_iconst (v := (-1)) dX12_argument_38 (by decide) ?_
        exact wp_iret dX12_argument_39 rfl (Nat.le_refl _) (Nat.le_refl _) (by simp only [argT, if_neg c_8, if_pos c_22, if_neg c_35]; first | done | rw [upd_id ha]) (by simp only [argT, if_neg c_8, if_pos c_22, if_neg c_35]; first | done | rw [upd_id ha])

theorem ar2_le {tx : Nat → Int32} {Ln b : Nat} {s v : Int32} (hL : Ln ≤ 200) (hb : b ≤ 200) : b ≤ (ar2 tx Ln b s v).2 ∧ (ar2 tx Ln b s v).2 ≤ 200 := by
  unfold ar2
  split
  · split
    · exact ⟨Nat.le_refl _, hb⟩
    · split
      · rename_i h
        have h1 := h.1
        exact ⟨by show b ≤ b + 1; omega, by show b + 1 ≤ 200; omega⟩
      · exact ⟨Nat.le_refl _, hb⟩
  · exact ⟨Nat.le_refl _, hb⟩
theorem argT_le {tx : Nat → Int32} {Ln a : Nat} {s : Int32} (hL : Ln ≤ 200) (ha : a ≤ 200) : (argT tx Ln a s).2 ≤ 200 := by
  unfold argT
  split
  · exact ha
  · split
    · split
      · rename_i h
        have h1 := h.1
        exact (ar2_le hL (by omega)).2
      · exact ha
    · exact ha
theorem argT_ge {tx : Nat → Int32} {Ln a : Nat} {s : Int32} (hL : Ln ≤ 200) (h0 : ¬ (argT tx Ln a s).1 < 0) : a + 2 ≤ (argT tx Ln a s).2 := by
  unfold argT at h0 ⊢
  split
  · rename_i c
    rw [if_pos c] at h0
    exact absurd (show (-1 : Int32) < 0 by decide) h0
  · rename_i c
    rw [if_neg c] at h0
    split
    · rename_i c2
      rw [if_pos c2] at h0
      split
      · rename_i h
        have h1 := h.1
        exact (ar2_le hL (by omega)).1
      · rename_i c3
        rw [if_neg c3] at h0
        exact absurd (show (-1 : Int32) < 0 by decide) h0
    · rename_i c2
      rw [if_neg c2] at h0
      exact absurd (show (-1 : Int32) < 0 by decide) h0
/-- which word stands here -/
def opL (tx : Nat → Int32) (Ln a : Nat) : Nat → Nat → Option Nat
  | 0, _ => none
  | n + 1, j => if psT tx Ln a (opw (nI j)) then some j else opL tx Ln a n (j + 1)
def rdF (tx : Nat → Int32) (Ln a : Nat) : Nat → Nat → (Nat → Int32) → (Nat → Int32)
  | 0, _, F => F
  | n + 1, j, F => if psT tx Ln a (opw (nI j)) then psS F tx Ln a j else rdF tx Ln a n (j + 1) (psS F tx Ln a j)
def agS (tx : Nat → Int32) (Ln a : Nat) (s : Int32) : Int32 × Nat := if s < 0 then (0, a) else argT tx Ln a s
def agL (tx : Nat → Int32) (Ln j : Nat) : Nat → Nat → Nat → Option Nat
  | 0, _, a => some a
  | n + 1, k, a => if (agS tx Ln a (soM (nI j) (nI k))).1 < 0 then none else agL tx Ln j n (k + 1) (agS tx Ln a (soM (nI j) (nI k))).2
def agF (tx : Nat → Int32) (Ln ic j : Nat) : Nat → Nat → Nat → (Nat → Int32) → (Nat → Int32)
  | 0, _, _, F => F
  | n + 1, k, a, F => if (agS tx Ln a (soM (nI j) (nI k))).1 < 0 then upd F 9004 (nI (agS tx Ln a (soM (nI j) (nI k))).2) else agF tx Ln ic j n (k + 1) (agS tx Ln a (soM (nI j) (nI k))).2 (upd (upd F 9004 (nI (agS tx Ln a (soM (nI j) (nI k))).2)) (7000 + (((4 * ic) + 1) + k)) (agS tx Ln a (soM (nI j) (nI k))).1)
abbrev edT (tx : Nat → Int32) (Ln a : Nat) : Prop := a < Ln ∧ tx a = 59
def edF (F : Nat → Int32) (q : Prop) [Decidable q] : Nat → Int32 := upd (upd F 9004 (F 9004 + (if q then 1 else 0))) 9003 (upd F 9004 (F 9004 + (if q then 1 else 0)) 9003 + (if q then 1 else 0))
theorem agS_le {tx : Nat → Int32} {Ln a : Nat} {s : Int32} (hL : Ln ≤ 200) (ha : a ≤ 200) : (agS tx Ln a s).2 ≤ 200 := by
  unfold agS
  split
  · exact ha
  · exact argT_le hL ha
set_option maxHeartbeats 2000000 in
theorem tm_rd141 {G : GG} {Y : Nat} {F : Nat → Int32} {E0 : Nat → va_E} {L : List Nat} {sz d : Nat} {q : Prop} [Decidable q] (hG : GOK G) (hM : rIn (mR G Y) L)  (hdp : 0 ≤ d) : WP G iX12_readsItem d 0 0 (some (.int (bI q))) (Mm G Y (edF F q) E0 L sz) 141 [some (.ref Y), none, some (.int (bI q)), none, none] [] (Mm G Y F E0 L sz) 0 0 := by
  refine wp_ald0 dX12_readsItem_141 ?_
  refine wp_dup dX12_readsItem_142 rfl ?_
  refine gm_at dX12_readsItem_143 fX12_268 hM ?_
  refine wp_ild2 dX12_readsItem_146 ?_
  refine wp_ifB_eq (tgt := 154) dX12_readsItem_147 (by decide) (fun c_147 => ?_) (fun c_147 => ?_)
  · refine wp_iconst (v := 0) dX12_readsItem_154 (by decide) ?_
    refine wp_iadd dX12_readsItem_155 ?_
    refine pm_at dX12_readsItem_156 pX12_268 hM ?_
    refine wp_ald0 dX12_readsItem_159 ?_
    refine wp_dup dX12_readsItem_160 rfl ?_
    refine gm_itemCount dX12_readsItem_161 fX12_277 hM ?_
    refine wp_ild2 dX12_readsItem_164 ?_
    refine wp_ifB_eq (tgt := 172) dX12_readsItem_165 (by decide) (fun c_165 => ?_) (fun c_165 => ?_)
    · refine wp_iconst (v := 0) dX12_readsItem_172 (by decide) ?_
      refine wp_iadd dX12_readsItem_173 ?_
      refine pm_itemCount dX12_readsItem_174 pX12_277 hM ?_
      refine wp_ild2 dX12_readsItem_177 ?_
      exact wp_zret dX12_readsItem_178 rfl (bI_nar _) (Nat.le_refl _) (Nat.le_refl _) (by first | with_reducible rfl | (simp only [edF, if_neg c_147, if_neg c_165]; done) | contradiction) (by first | with_reducible rfl | (simp only [edF, if_neg c_147, if_neg c_165]; done) | contradiction)
    · refine wp_iconst (v := 1) dX12_readsItem_168 (by decide) ?_
      refine wp_goto (tgt := 173) dX12_readsItem_169 (by decide) ?_
      refine wp_iadd dX12_readsItem_173 ?_
      refine pm_itemCount dX12_readsItem_174 pX12_277 hM ?_
      refine wp_ild2 dX12_readsItem_177 ?_
      exact wp_zret dX12_readsItem_178 rfl (bI_nar _) (Nat.le_refl _) (Nat.le_refl _) (by first | with_reducible rfl | (simp only [edF, if_neg c_147, if_pos c_165]; done) | contradiction) (by first | with_reducible rfl | (simp only [edF, if_neg c_147, if_pos c_165]; done) | contradiction)
  · refine wp_iconst (v := 1) dX12_readsItem_150 (by decide) ?_
    refine wp_goto (tgt := 155) dX12_readsItem_151 (by decide) ?_
    refine wp_iadd dX12_readsItem_155 ?_
    refine pm_at dX12_readsItem_156 pX12_268 hM ?_
    refine wp_ald0 dX12_readsItem_159 ?_
    refine wp_dup dX12_readsItem_160 rfl ?_
    refine gm_itemCount dX12_readsItem_161 fX12_277 hM ?_
    refine wp_ild2 dX12_readsItem_164 ?_
    refine wp_ifB_eq (tgt := 172) dX12_readsItem_165 (by decide) (fun c_165 => ?_) (fun c_165 => ?_)
    · refine wp_iconst (v := 0) dX12_readsItem_172 (by decide) ?_
      refine wp_iadd dX12_readsItem_173 ?_
      refine pm_itemCount dX12_readsItem_174 pX12_277 hM ?_
      refine wp_ild2 dX12_readsItem_177 ?_
      exact wp_zret dX12_readsItem_178 rfl (bI_nar _) (Nat.le_refl _) (Nat.le_refl _) (by first | with_reducible rfl | (simp only [edF, if_pos c_147, if_neg c_165]; done) | contradiction) (by first | with_reducible rfl | (simp only [edF, if_pos c_147, if_neg c_165]; done) | contradiction)
    · refine wp_iconst (v := 1) dX12_readsItem_168 (by decide) ?_
      refine wp_goto (tgt := 173) dX12_readsItem_169 (by decide) ?_
      refine wp_iadd dX12_readsItem_173 ?_
      refine pm_itemCount dX12_readsItem_174 pX12_277 hM ?_
      refine wp_ild2 dX12_readsItem_177 ?_
      exact wp_zret dX12_readsItem_178 rfl (bI_nar _) (Nat.le_refl _) (Nat.le_refl _) (by first | with_reducible rfl | (simp only [edF, if_pos c_147, if_pos c_165]; done) | contradiction) (by first | with_reducible rfl | (simp only [edF, if_pos c_147, if_pos c_165]; done) | contradiction)
theorem edF_congr {F : Nat → Int32} {p q : Prop} [Decidable p] [Decidable q] (h : p ↔ q) : edF F p = edF F q := by
  unfold edF
  by_cases hp : p
  · simp only [if_pos hp, if_pos (h.mp hp)]
  · simp only [if_neg hp, if_neg (fun x => hp (h.mpr x))]
set_option maxHeartbeats 2000000 in
theorem tm_rd110 {G : GG} {Y : Nat} {F : Nat → Int32} {E0 : Nat → va_E} {L : List Nat} {sz d : Nat} {tx : Nat → Int32} {Ln a : Nat} (hG : GOK G) (hM : rIn (mR G Y) L) (ht : TOK F tx Ln) (ha : F 9004 = nI a) (haL : a ≤ 200) (hdp : 0 ≤ d) : WP G iX12_readsItem d 0 0 (some (.int (bI (edT tx Ln a)))) (Mm G Y (edF F (edT tx Ln a)) E0 L sz) 110 [some (.ref Y), none, none, none, none] [] (Mm G Y F E0 L sz) 0 0 := by
  have hL := ht.2.1
  refine wp_ald0 dX12_readsItem_110 ?_
  refine gm_at dX12_readsItem_111 fX12_268 hM ?_
  refine wp_ald0 dX12_readsItem_114 ?_
  refine gm_length dX12_readsItem_115 fX12_235 hM ?_
  refine wp_icmp_ge (tgt := 139) dX12_readsItem_118 (by decide) (fun c_118 => ?_) (fun c_118 => ?_)
  · have c_118 : ¬ a < Ln := Nat.not_lt.mpr ((nI_leI (by omega) (by omega)).mp (by rw [← ht.1, ← ha]; exact c_118))
    refine wp_iconst (v := 0) dX12_readsItem_139 (by decide) ?_
    refine wp_ist2 dX12_readsItem_140 (by decide) rfl ?_
    rw [← bI_congr (⟨fun x => x.elim, fun x => absurd x.1 c_118⟩ : False ↔ edT tx Ln a), ← edF_congr (⟨fun x => x.elim, fun x => absurd x.1 c_118⟩ : False ↔ edT tx Ln a)]
    exact WP.fg (by simp [lcle, bI]) (tm_rd141 hG hM (q := False) (Nat.zero_le _))
  · have c_118 : a < Ln := Nat.lt_of_not_le (fun q => c_118 (by rw [ht.1, ha]; exact (nI_leI (by omega) (by omega)).mpr q))
    refine wp_ald0 dX12_readsItem_121 ?_
    refine gm_text dX12_readsItem_122 fX12_22 hM ?_
    refine wp_ald0 dX12_readsItem_125 ?_
    refine gm_at dX12_readsItem_126 fX12_268 hM ?_
    refine rm_text (i' := a) dX12_readsItem_129 hG hM ha (by first | assumption | omega) ?_
    rw [ht.2.2 _ (by omega)]
    refine wp_bipush (v := 59) dX12_readsItem_130 (by decide) ?_
    refine wp_icmp_ne (tgt := 139) dX12_readsItem_132 (by decide) (fun c_132 => ?_) (fun c_132 => ?_)
    · refine wp_iconst (v := 0) dX12_readsItem_139 (by decide) ?_
      refine wp_ist2 dX12_readsItem_140 (by decide) rfl ?_
      rw [← bI_congr (⟨fun x => x.elim, fun x => absurd x.2 c_132⟩ : False ↔ edT tx Ln a), ← edF_congr (⟨fun x => x.elim, fun x => absurd x.2 c_132⟩ : False ↔ edT tx Ln a)]
      exact WP.fg (by simp [lcle, bI]) (tm_rd141 hG hM (q := False) (Nat.zero_le _))
    · refine wp_iconst (v := 1) dX12_readsItem_135 (by decide) ?_
      refine wp_goto (tgt := 140) dX12_readsItem_136 (by decide) ?_
      refine wp_ist2 dX12_readsItem_140 (by decide) rfl ?_
      rw [← bI_congr (⟨fun _ => ⟨c_118, c_132⟩, fun _ => trivial⟩ : True ↔ edT tx Ln a), ← edF_congr (⟨fun _ => ⟨c_118, c_132⟩, fun _ => trivial⟩ : True ↔ edT tx Ln a)]
      exact WP.fg (by simp [lcle, bI]) (tm_rd141 hG hM (q := True) (Nat.zero_le _))
def r2 (tx : Nat → Int32) (Ln ic j n k a : Nat) (F : Nat → Int32) : Int32 × (Nat → Int32) := match agL tx Ln j n k a with
  | none => (0, agF tx Ln ic j n k a F)
  | some b => (bI (edT tx Ln b), edF (agF tx Ln ic j n k a F) (edT tx Ln b))
theorem r2_neg {tx : Nat → Int32} {Ln ic j n k a : Nat} {F : Nat → Int32} (h : (agS tx Ln a (soM (nI j) (nI k))).1 < 0) : r2 tx Ln ic j (n + 1) k a F = (0, upd F 9004 (nI (agS tx Ln a (soM (nI j) (nI k))).2)) := by
  unfold r2
  rw [show agL tx Ln j (n + 1) k a = none by simp only [agL, if_pos h]]
  simp only [agF, if_pos h]
theorem r2_pos {tx : Nat → Int32} {Ln ic j n k a : Nat} {F : Nat → Int32} (h : ¬ (agS tx Ln a (soM (nI j) (nI k))).1 < 0) : r2 tx Ln ic j (n + 1) k a F = r2 tx Ln ic j n (k + 1) (agS tx Ln a (soM (nI j) (nI k))).2 (upd (upd F 9004 (nI (agS tx Ln a (soM (nI j) (nI k))).2)) (7000 + (((4 * ic) + 1) + k)) (agS tx Ln a (soM (nI j) (nI k))).1) := by
  unfold r2
  simp only [agL, agF, if_neg h]
set_option maxHeartbeats 2000000 in
theorem tm_rd80 {G : GG} {Y : Nat} {F : Nat → Int32} {E0 : Nat → va_E} {L : List Nat} {sz d : Nat} {tx : Nat → Int32} {Ln a ic j k n : Nat} {v : Int32} (hG : GOK G) (hM : rIn (mR G Y) L) (hic : F 9003 = nI ic) (hicb : ic < 100) (hk3 : k < 3) (hv : v = (agS tx Ln a (soM (nI j) (nI k))).1) (hdp : 3 ≤ d)
    (kk : WP G iX12_readsItem d 0 0 (some (.int (r2 tx Ln ic j n (k + 1) (agS tx Ln a (soM (nI j) (nI k))).2 (upd (upd F 9004 (nI (agS tx Ln a (soM (nI j) (nI k))).2)) (7000 + (((4 * ic) + 1) + k)) v)).1)) (Mm G Y (r2 tx Ln ic j n (k + 1) (agS tx Ln a (soM (nI j) (nI k))).2 (upd (upd F 9004 (nI (agS tx Ln a (soM (nI j) (nI k))).2)) (7000 + (((4 * ic) + 1) + k)) v)).2 E0 L sz) 54 [some (.ref Y), some (.int (nI j)), some (.int (nI (k + 1))), none, none] [] (Mm G Y (upd (upd F 9004 (nI (agS tx Ln a (soM (nI j) (nI k))).2)) (7000 + (((4 * ic) + 1) + k)) v) E0 L sz) 0 0) :
    WP G iX12_readsItem d 0 0 (some (.int (r2 tx Ln ic j (n + 1) k a F).1)) (Mm G Y (r2 tx Ln ic j (n + 1) k a F).2 E0 L sz) 80 [some (.ref Y), some (.int (nI j)), some (.int (nI k)), none, some (.int v)] [] (Mm G Y (upd F 9004 (nI (agS tx Ln a (soM (nI j) (nI k))).2)) E0 L sz) 0 0 := by
  have hic1 : upd F 9004 (nI (agS tx Ln a (soM (nI j) (nI k))).2) 9003 = nI ic := (upd_ne (by omega)).trans hic
  refine wp_ild4 dX12_readsItem_80 ?_
  refine wp_if_ge (tgt := 87) dX12_readsItem_82 (by decide) (fun c_82 => ?_) (fun c_82 => ?_)
  · refine wp_ald0 dX12_readsItem_87 ?_
    refine gm_items dX12_readsItem_88 fX12_28 hM ?_
    refine wp_iconst (v := 4) dX12_readsItem_91 (by decide) ?_
    refine wp_ald0 dX12_readsItem_92 ?_
    refine gm_itemCount dX12_readsItem_93 fX12_277 hM ?_
    refine wp_imulN (a := 4) (b := ic) (by decide) hic1 dX12_readsItem_96 ?_
    refine wp_iconst (v := 1) dX12_readsItem_97 (by decide) ?_
    refine wp_iaddN (a := (4 * ic)) (b := 1) rfl (by decide) dX12_readsItem_98 ?_
    refine wp_ild2 dX12_readsItem_99 ?_
    refine wp_iaddN (a := ((4 * ic) + 1)) (b := k) rfl rfl dX12_readsItem_100 ?_
    refine wp_ild4 dX12_readsItem_101 ?_
    refine sm_items (i' := (((4 * ic) + 1) + k)) dX12_readsItem_103 hG hM rfl (by first | assumption | omega) ?_
    refine wp_inc2 dX12_readsItem_104 (by decide) rfl ?_
    refine wp_goto (tgt := 54) dX12_readsItem_107 (by decide) ?_
    rw [hv] at c_82 kk ⊢
    rw [r2_pos (Int32.not_lt.mpr c_82)]
    exact WP.fg (by simp [lcle]) kk
  · refine wp_iconst (v := 0) dX12_readsItem_85 (by decide) ?_
    exact wp_zret dX12_readsItem_86 rfl rfl (Nat.le_refl _) (Nat.le_refl _) (by rw [hv] at c_82; rw [r2_neg (Int32.not_le.mp c_82)]) (by rw [hv] at c_82; rw [r2_neg (Int32.not_le.mp c_82)])
set_option maxHeartbeats 2000000 in
theorem lm_rd2 {G : GG} {Y : Nat} {E0 : Nat → va_E} {L : List Nat} {sz d : Nat} {tx : Nat → Int32} {Ln ic j : Nat} (hG : GOK G) (hM : rIn (mR G Y) L) (hicb : ic < 100) (hdp : 3 ≤ d) (n : Nat) : ∀ (k a : Nat) (F : Nat → Int32), k + n = 3 → TOK F tx Ln → F 9004 = nI a → a ≤ 200 → F 9003 = nI ic → WP G iX12_readsItem d 0 0 (some (.int (r2 tx Ln ic j n k a F).1)) (Mm G Y (r2 tx Ln ic j n k a F).2 E0 L sz) 54 [some (.ref Y), some (.int (nI j)), some (.int (nI k)), none, none] [] (Mm G Y F E0 L sz) 0 0 := by
  induction n with
  | zero =>
    intro k a F hk ht ha haL hic
    refine wp_ild2 dX12_readsItem_54 ?_
    refine wp_iconst (v := 3) dX12_readsItem_55 (by decide) ?_
    refine wp_icmp_ge (tgt := 110) dX12_readsItem_56 (by decide) (fun c_56 => ?_) (fun c_56 => absurd (nI_le (a := 3) (b := k) (by omega) (by omega)) c_56)
    show WP _ _ _ _ _ (some (.int (bI (edT tx Ln a)))) (Mm G Y (edF F (edT tx Ln a)) E0 L sz) _ _ _ _ _ _
    exact WP.fg (by simp [lcle]) (tm_rd110 hG hM ht ha haL (Nat.zero_le _))
  | succ n ih =>
    intro k a F hk ht ha haL hic
    refine wp_ild2 dX12_readsItem_54 ?_
    refine wp_iconst (v := 3) dX12_readsItem_55 (by decide) ?_
    refine wp_icmp_ge (tgt := 110) dX12_readsItem_56 (by decide) (fun c_56 => absurd c_56 (nI_ge (a := k) (b := 3) (by omega) (by omega))) (fun c_56 => ?_)
    have hk3 : k < 3 := by omega
    refine wp_ild1 dX12_readsItem_59 ?_
    refine wp_ild2 dX12_readsItem_60 ?_
    refine ci_2 dX12_readsItem_61 kX12_280 (cm_sortOf (d := d - 1)) (by omega) (Nat.le_of_ble_eq_true rfl) (Nat.le_refl _) (Nat.le_refl _) ?_
    refine wp_ist3 dX12_readsItem_64 (by decide) rfl ?_
    refine wp_ild3 dX12_readsItem_65 ?_
    refine wp_if_ge (tgt := 73) dX12_readsItem_66 (by decide) (fun c_66 => ?_) (fun c_66 => ?_)
    · refine wp_ald0 dX12_readsItem_73 ?_
      refine wp_ild3 dX12_readsItem_74 ?_
      refine mi_1 dX12_readsItem_75 kX12_283 (cm_argument (d := d - 1) hG hM ht ha haL (by omega)) hM rfl (by omega) (Nat.le_of_ble_eq_true rfl) (Nat.le_refl _) (Nat.le_refl _) ?_
      refine wp_ist4 dX12_readsItem_78 (by decide) rfl ?_
      rw [show argT tx Ln a (soM (nI j) (nI k)) = agS tx Ln a (soM (nI j) (nI k)) by unfold agS; rw [if_neg (Int32.not_lt.mpr c_66)]]
      exact WP.fg (by simp [lcle]) (tm_rd80 (n := n) hG hM hic hicb hk3 rfl (by omega) (ih (k + 1) _ _ (by omega) (((SmT.rf.up (by omega)).up (by omega)).t ht) ((upd_ne (by omega)).trans upd_eq) (agS_le ht.2.1 haL) ((upd_ne (by omega)).trans ((upd_ne (by omega)).trans hic))))
    · refine wp_iconst (v := 0) dX12_readsItem_69 (by decide) ?_
      refine wp_goto (tgt := 78) dX12_readsItem_70 (by decide) ?_
      refine wp_ist4 dX12_readsItem_78 (by decide) rfl ?_
      have e : agS tx Ln a (soM (nI j) (nI k)) = (0, a) := by unfold agS; rw [if_pos (Int32.not_le.mp c_66)]
      have kk := tm_rd80 (n := n) (tx := tx) (Ln := Ln) (a := a) (j := j) (d := d) (E0 := E0) (sz := sz) hG hM hic hicb hk3 (v := 0) (by rw [e]) (by omega) (ih (k + 1) _ _ (by omega) (((SmT.rf.up (by omega)).up (by omega)).t ht) ((upd_ne (by omega)).trans upd_eq) (agS_le ht.2.1 haL) ((upd_ne (by omega)).trans ((upd_ne (by omega)).trans hic)))
      rw [show upd F 9004 (nI (agS tx Ln a (soM (nI j) (nI k))).2) = F by rw [e]; exact upd_id ha] at kk
      exact WP.fg (by simp [lcle]) kk
theorem rdF_sm {tx : Nat → Int32} {Ln a : Nat} : ∀ (n j : Nat) (F : Nat → Int32), SmT F (rdF tx Ln a n j F)
  | 0, _, _ => SmT.rf
  | n + 1, j, F => by
    unfold rdF
    split
    · exact psS_sm
    · exact psS_sm.tr (rdF_sm n (j + 1) _)
theorem rdF_it {tx : Nat → Int32} {Ln a k : Nat} (hk : (7000 ≤ k ∧ k ≠ 9002 ∧ k ≠ 9004)) : ∀ (n j : Nat) (F : Nat → Int32), rdF tx Ln a n j F k = F k
  | 0, _, _ => rfl
  | n + 1, j, F => by
    unfold rdF
    split
    · exact psS_it hk
    · exact (rdF_it hk n (j + 1) _).trans (psS_it hk)
theorem rdF_at {tx : Nat → Int32} {Ln a : Nat} : ∀ (n j : Nat) (F : Nat → Int32), F 9004 = nI a → rdF tx Ln a n j F 9004 = nI (match opL tx Ln a n j with
    | none => a
    | some i => a + (opw (nI i)).length)
  | 0, _, _, h => h
  | n + 1, j, F, h => by
    unfold rdF opL
    by_cases c : psT tx Ln a (opw (nI j))
    · rw [if_pos c, if_pos c, psS_at h, if_pos c]
    · rw [if_neg c, if_neg c]
      exact rdF_at n (j + 1) _ (by rw [psS_at h, if_neg c])
theorem opL_ok {tx : Nat → Int32} {Ln a : Nat} : ∀ (n j i : Nat), opL tx Ln a n j = some i → i < j + n ∧ psT tx Ln a (opw (nI i))
  | 0, _, _, h => by cases h
  | n + 1, j, i, h => by
    unfold opL at h
    split at h
    · rename_i c
      cases h
      exact ⟨by omega, c⟩
    · obtain ⟨h1, h2⟩ := opL_ok n (j + 1) i h
      exact ⟨by omega, h2⟩
set_option maxHeartbeats 2000000 in
theorem lm_rdx {G : GG} {Y : Nat} {F : Nat → Int32} {E0 : Nat → va_E} {L : List Nat} {sz d : Nat} {j i : Nat} {res : Option Value} {M' : Mem} (hG : GOK G) (hM : rIn (mR G Y) L) (hj : j < 10) (kk : WP G iX12_readsItem d 0 0 res M' 34 [some (.ref Y), some (.int (nI j)), none, none, none] [] (Mm G Y F E0 L sz) 0 0) : WP G iX12_readsItem d 0 0 res M' 4 [some (.ref Y), some (.int (nI j)), some (.int (nI i)), none, none] [] (Mm G Y F E0 L sz) 0 0 := by
  refine wp_ild2 dX12_readsItem_4 ?_
  refine wp_bipush (v := 9) dX12_readsItem_5 (by decide) ?_
  refine wp_icmp_gt (tgt := 34) dX12_readsItem_7 (by decide) (fun c_7 => ?_) (fun c_7 => ?_)
  · exact WP.fg (by simp [lcle]) kk
  · refine wp_ild1 dX12_readsItem_10 ?_
    refine wp_if_ge (tgt := 34) dX12_readsItem_11 (by decide) (fun c_11 => ?_) (fun c_11 => absurd (nI_pos' (by omega)) c_11)
    exact WP.fg (by simp [lcle]) kk
set_option maxHeartbeats 2000000 in
theorem lm_rd1 {G : GG} {Y : Nat} {E0 : Nat → va_E} {L : List Nat} {sz d : Nat} {tx : Nat → Int32} {Ln a : Nat} {res : Option Value} {M' : Mem} (hG : GOK G) (hM : rIn (mR G Y) L) (hZ : GSJ G) (haL : a ≤ 200) (hdp : 3 ≤ d) (n : Nat) : ∀ (j : Nat) (F : Nat → Int32), j + n = 10 → TOK F tx Ln → F 9004 = nI a → WP G iX12_readsItem d 0 0 res M' 34 [some (.ref Y), some (.int (oI (opL tx Ln a n j))), none, none, none] [] (Mm G Y (rdF tx Ln a n j F) E0 L sz) 0 0 → WP G iX12_readsItem d 0 0 res M' 4 [some (.ref Y), some (.int (-1)), some (.int (nI j)), none, none] [] (Mm G Y F E0 L sz) 0 0 := by
  induction n with
  | zero =>
    intro j F hj ht ha kk
    refine wp_ild2 dX12_readsItem_4 ?_
    refine wp_bipush (v := 9) dX12_readsItem_5 (by decide) ?_
    refine wp_icmp_gt (tgt := 34) dX12_readsItem_7 (by decide) (fun c_7 => ?_) (fun c_7 => absurd ((nI_ltI (a := 9) (b := j) (by omega) (by omega)).mpr (by omega)) c_7)
    exact WP.fg (by simp [lcle, opL, oI]) kk
  | succ n ih =>
    intro j F hj ht ha kk
    refine wp_ild2 dX12_readsItem_4 ?_
    refine wp_bipush (v := 9) dX12_readsItem_5 (by decide) ?_
    refine wp_icmp_gt (tgt := 34) dX12_readsItem_7 (by decide) (fun c_7 => absurd ((nI_ltI (a := 9) (b := j) (by omega) (by omega)).mp c_7) (by omega)) (fun c_7 => ?_)
    refine wp_ild1 dX12_readsItem_10 ?_
    refine wp_if_ge (tgt := 34) dX12_readsItem_11 (by decide) (fun c_11 => absurd c_11 (by decide)) (fun c_11 => ?_)
    refine wp_ald0 dX12_readsItem_14 ?_
    refine wp_ild2 dX12_readsItem_15 ?_
    refine mi_1 dX12_readsItem_16 kX12_274 (cm_passes (d := d - 1) hG hM hZ ht ha haL (by omega) (by omega)) hM rfl (by omega) (Nat.le_of_ble_eq_true rfl) (Nat.le_refl _) (Nat.le_refl _) ?_
    refine wp_ifB_eq (tgt := 26) dX12_readsItem_19 (by decide) (fun c_19 => ?_) (fun c_19 => ?_)
    · refine wp_iconst (v := (-1)) dX12_readsItem_26 (by decide) ?_
      refine wp_ist1 dX12_readsItem_27 (by decide) rfl ?_
      refine wp_inc2 dX12_readsItem_28 (by decide) rfl ?_
      refine wp_goto (tgt := 4) dX12_readsItem_31 (by decide) ?_
      rw [show opL tx Ln a (n + 1) j = opL tx Ln a n (j + 1) by simp only [opL, if_neg c_19], show rdF tx Ln a (n + 1) j F = rdF tx Ln a n (j + 1) (psS F tx Ln a j) by simp only [rdF, if_neg c_19]] at kk
      exact ih (j + 1) _ (by omega) (psS_sm.t ht) (by rw [psS_at ha, if_neg c_19]) kk
    · refine wp_ild2 dX12_readsItem_22 ?_
      refine wp_goto (tgt := 27) dX12_readsItem_23 (by decide) ?_
      refine wp_ist1 dX12_readsItem_27 (by decide) rfl ?_
      refine wp_inc2 dX12_readsItem_28 (by decide) rfl ?_
      refine wp_goto (tgt := 4) dX12_readsItem_31 (by decide) ?_
      rw [show opL tx Ln a (n + 1) j = some j by simp only [opL, if_pos c_19], show rdF tx Ln a (n + 1) j F = psS F tx Ln a j by simp only [rdF, if_pos c_19]] at kk
      exact lm_rdx hG hM (by omega) kk
/-- the item that stands at a: where it ends -/
def itA (tx : Nat → Int32) (Ln a : Nat) : Option Nat := match opL tx Ln a 10 0 with
  | none => none
  | some j => match agL tx Ln j 3 0 (a + (opw (nI j)).length) with
    | none => none
    | some b => if edT tx Ln b then some (b + 1) else none
def rdI (tx : Nat → Int32) (Ln a ic : Nat) (F : Nat → Int32) : Int32 × (Nat → Int32) := match opL tx Ln a 10 0 with
  | none => (0, rdF tx Ln a 10 0 F)
  | some j => r2 tx Ln ic j 3 0 (a + (opw (nI j)).length) (upd (rdF tx Ln a 10 0 F) (7000 + (4 * ic)) (nI j))
theorem rdI_1 {tx : Nat → Int32} {Ln a ic : Nat} {F : Nat → Int32} : (rdI tx Ln a ic F).1 = bI (¬ itA tx Ln a = none) := by
  by_cases hn : itA tx Ln a = none
  · rw [show bI (¬ itA tx Ln a = none) = 0 by simp [bI, hn]]
    unfold itA at hn
    unfold rdI
    cases ho : opL tx Ln a 10 0 with
    | none => rfl
    | some j =>
      simp only [ho, r2] at hn ⊢
      cases hb : agL tx Ln j 3 0 (a + (opw (nI j)).length) with
      | none => rfl
      | some b =>
        simp only [hb] at hn ⊢
        by_cases c : edT tx Ln b
        · rw [if_pos c] at hn; cases hn
        · simp only [bI, if_neg c]
  · rw [show bI (¬ itA tx Ln a = none) = 1 by simp [bI, hn]]
    unfold itA at hn
    unfold rdI
    cases ho : opL tx Ln a 10 0 with
    | none => simp only [ho] at hn; exact absurd trivial hn
    | some j =>
      simp only [ho, r2] at hn ⊢
      cases hb : agL tx Ln j 3 0 (a + (opw (nI j)).length) with
      | none => simp only [hb] at hn; exact absurd trivial hn
      | some b =>
        simp only [hb] at hn ⊢
        by_cases c : edT tx Ln b
        · simp only [bI, if_pos c]
        · rw [if_neg c] at hn; exact absurd rfl hn
set_option maxHeartbeats 2000000 in
theorem tm_rd34n {G : GG} {Y : Nat} {F : Nat → Int32} {E0 : Nat → va_E} {L : List Nat} {sz d : Nat} {res : Option Value} {M' : Mem} (hG : GOK G) (hM : rIn (mR G Y) L) (hres : some (.int 0) = res) (hM' : Mm G Y F E0 L sz = M') : WP G iX12_readsItem d 0 0 res M' 34 [some (.ref Y), some (.int (-1)), none, none, none] [] (Mm G Y F E0 L sz) 0 0 := by
  subst hres; subst hM'
  refine wp_ild1 dX12_readsItem_34 ?_
  refine wp_if_ge (tgt := 40) dX12_readsItem_35 (by decide) (fun h => absurd h (by decide)) (fun _ => ?_)
  refine wp_iconst (v := 0) dX12_readsItem_38 (by decide) ?_
  exact wp_zret dX12_readsItem_39 rfl rfl (Nat.le_refl _) (Nat.le_refl _) (by rfl) (by rfl)
set_option maxHeartbeats 2000000 in
theorem tm_rd34 {G : GG} {Y : Nat} {F : Nat → Int32} {E0 : Nat → va_E} {L : List Nat} {sz d : Nat} {tx : Nat → Int32} {Ln a ic j : Nat} (hG : GOK G) (hM : rIn (mR G Y) L) (ht : TOK F tx Ln) (ha : F 9004 = nI a) (haL : a ≤ 200) (hicb : ic < 100) (hic : F 9003 = nI ic) (hj : j < 10) (hdp : 3 ≤ d) : WP G iX12_readsItem d 0 0 (some (.int (r2 tx Ln ic j 3 0 a (upd F (7000 + (4 * ic)) (nI j))).1)) (Mm G Y ((r2 tx Ln ic j 3 0 a (upd F (7000 + (4 * ic)) (nI j))).2) E0 L sz) 34 [some (.ref Y), some (.int (nI j)), none, none, none] [] (Mm G Y F E0 L sz) 0 0 := by
  refine wp_ild1 dX12_readsItem_34 ?_
  refine wp_if_ge (tgt := 40) dX12_readsItem_35 (by decide) (fun c_35 => ?_) (fun c_35 => absurd (nI_pos' (by omega)) c_35)
  refine wp_ald0 dX12_readsItem_40 ?_
  refine gm_items dX12_readsItem_41 fX12_28 hM ?_
  refine wp_iconst (v := 4) dX12_readsItem_44 (by decide) ?_
  refine wp_ald0 dX12_readsItem_45 ?_
  refine gm_itemCount dX12_readsItem_46 fX12_277 hM ?_
  refine wp_imulN (a := 4) (b := ic) (by decide) hic dX12_readsItem_49 ?_
  refine wp_ild1 dX12_readsItem_50 ?_
  refine sm_items (i' := (4 * ic)) dX12_readsItem_51 hG hM rfl (by first | assumption | omega) ?_
  refine wp_iconst (v := 0) dX12_readsItem_52 (by decide) ?_
  refine wp_ist2 dX12_readsItem_53 (by decide) rfl ?_
  exact WP.fg (by simp [lcle, nI_0]) (lm_rd2 hG hM hicb hdp 3 0 a _ rfl ((SmT.rf.up (by omega)).t ht) ((upd_ne (by omega)).trans ha) haL ((upd_ne (by omega)).trans hic))
set_option maxHeartbeats 2000000 in
theorem cm_readsItem {G : GG} {Y : Nat} {F : Nat → Int32} {E0 : Nat → va_E} {L : List Nat} {sz d : Nat} {tx : Nat → Int32} {Ln a ic : Nat} (hG : GOK G) (hM : rIn (mR G Y) L) (hZ : GSJ G) (ht : TOK F tx Ln) (ha : F 9004 = nI a) (haL : a ≤ 200) (hicb : ic < 100) (hic : F 9003 = nI ic) (hdp : 3 ≤ d) : Ct G d yX12_readsItem iX12_readsItem [.ref Y] (Mm G Y F E0 L sz) 0 0 (some (.int (bI (¬ itA tx Ln a = none)))) (Mm G Y ((rdI tx Ln a ic F).2) E0 L sz) := by
  refine Ct.of 4 (by decide) rfl (by decide) (Nat.le_of_ble_eq_true rfl) ?_
  show WP _ _ _ _ _ _ _ 0 [some (.ref Y), none, none, none, none] [] _ 0 0
  refine wp_iconst (v := (-1)) dX12_readsItem_0 (by decide) ?_
  refine wp_ist1 dX12_readsItem_1 (by decide) rfl ?_
  refine wp_iconst (v := 0) dX12_readsItem_2 (by decide) ?_
  refine wp_ist2 dX12_readsItem_3 (by decide) rfl ?_
  rw [← rdI_1 (ic := ic) (F := F)]
  refine WP.fg (by simp [lcle, nI_0]) (lm_rd1 (a := a) hG hM hZ haL hdp 10 0 F rfl ht ha ?_)
  have ra := rdF_at (tx := tx) (Ln := Ln) 10 0 F ha
  cases ho : opL tx Ln a 10 0 with
  | none =>
    unfold rdI
    simp only [ho]
    exact tm_rd34n hG hM rfl rfl
  | some j =>
    obtain ⟨hj, hp⟩ := opL_ok 10 0 j ho
    have hL := ht.2.1
    have hp1 := hp.1.1
    rw [ho] at ra
    unfold rdI
    simp only [ho]
    exact tm_rd34 hG hM ((rdF_sm 10 0 F).t ht) ra (by omega) hicb ((rdF_it (by omega) 10 0 F).trans hic) (by omega) hdp

