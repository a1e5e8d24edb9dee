def exitM (F : Nat → Int32) (x y : Int32) : Int32 × (Nat → Int32) := if 0 ≤ fbM F x y then (if upd F (62 + nt y) (F (62 + nt y) - 1) (62 + nt y) = 0 then (upd F (62 + nt y) (F (62 + nt y) - 1) (62 + nt y), rcdM (relM (upd F (62 + nt y) (F (62 + nt y) - 1)) (nt y)) 1 x y 0) else (upd F (62 + nt y) (F (62 + nt y) - 1) (62 + nt y), rcdM (upd F (62 + nt y) (F (62 + nt y) - 1)) 1 x y 0)) else (fbM F x y, F)
set_option maxHeartbeats 2000000 in
theorem cm_exit {G : GG} {Y : Nat} {F : Nat → Int32} {E0 : Nat → va_E} {L : List Nat} {sz d : Nat} {x y : Int32} (hG : GOK G) (hM : rIn (mR G Y) L) (h : TS F) (hr : OKr F) (hdp : 3 ≤ d) : Ct G d yX12_exit iX12_exit [.ref Y, .int x, .int y] (Mm G Y F E0 L sz) 0 0 (some (.int (exitM F x y).1)) (Mm G Y ((exitM F x y).2) E0 L sz) := by
  refine Ct.of 2 (by decide) rfl (by decide) (Nat.le_of_ble_eq_true rfl) ?_
  show WP _ _ _ _ _ _ _ 0 [some (.ref Y), some (.int x), some (.int y), none, none] [] _ 0 0
  refine wp_ald0 dX12_exit_0 ?_
  refine wp_ild1 dX12_exit_1 ?_
  refine wp_ild2 dX12_exit_2 ?_
  refine mi_2 dX12_exit_3 kX12_114 (cm_forbidden (d := d - 1) hG hM h (by omega)) hM rfl (by omega) (Nat.le_of_ble_eq_true rfl) (Nat.le_refl _) (Nat.le_refl _) ?_
  refine wp_ist3 dX12_exit_6 (by decide) rfl ?_
  refine wp_ild3 dX12_exit_7 ?_
  refine wp_if_ge (tgt := 13) dX12_exit_8 (by decide) (fun c_8 => ?_) (fun c_8 => ?_)
  · obtain ⟨t, o, ⟨ht, htT⟩, ho, rfl, rfl, hrun, hheld, hown⟩ := fb_ok h.1 c_8
    have e1 : nt (nI t) = t := ntn (by omega)
    have e2 : nt (nI o) = o := ntn (by omega)
    refine wp_ald0 dX12_exit_13 ?_
    refine gm_w dX12_exit_14 fX12_7 hM ?_
    refine wp_bipush (v := 62) dX12_exit_17 (by decide) ?_
    refine wp_ild2 dX12_exit_19 ?_
    refine wp_iaddN (a := 62) (b := o) (by decide) rfl dX12_exit_20 ?_
    refine wp_dup2 dX12_exit_21 rfl rfl ?_
    refine rm_w (i' := (62 + o)) dX12_exit_22 hG hM rfl (by first | assumption | omega) ?_
    refine wp_iconst (v := 1) dX12_exit_23 (by decide) ?_
    refine wp_isub dX12_exit_24 ?_
    refine sm_w (i' := (62 + o)) dX12_exit_25 hG hM rfl (by first | assumption | omega) ?_
    refine wp_ald0 dX12_exit_26 ?_
    refine gm_w dX12_exit_27 fX12_7 hM ?_
    refine wp_bipush (v := 62) dX12_exit_30 (by decide) ?_
    refine wp_ild2 dX12_exit_32 ?_
    refine wp_iaddN (a := 62) (b := o) (by decide) rfl dX12_exit_33 ?_
    refine rm_w (i' := (62 + o)) dX12_exit_34 hG hM rfl (by first | assumption | omega) ?_
    refine wp_ist4 dX12_exit_35 (by decide) rfl ?_
    refine wp_ild4 dX12_exit_37 ?_
    refine wp_if_ne (tgt := 47) dX12_exit_39 (by decide) (fun c_39 => ?_) (fun c_39 => ?_)
    · refine wp_ald0 dX12_exit_47 ?_
      refine wp_iconst (v := 1) dX12_exit_48 (by decide) ?_
      refine wp_ild1 dX12_exit_49 ?_
      refine wp_ild2 dX12_exit_50 ?_
      refine wp_iconst (v := 0) dX12_exit_51 (by decide) ?_
      refine mv_4 dX12_exit_52 kX12_110 (cm_record (d := d - 1) hG hM (by first | exact (Hi.rf.up (by omega)).r hr | exact ((Hi.rf.up (by omega)).rel (h.up (by omega)) ho).r hr)) hM rfl (by omega) (Nat.le_of_ble_eq_true rfl) (Nat.le_refl _) (Nat.le_refl _) ?_
      refine wp_ild4 dX12_exit_55 ?_
      exact wp_iret dX12_exit_57 rfl (Nat.le_refl _) (Nat.le_refl _) (by first | with_reducible rfl | (simp only [exitM, if_pos c_8, e1, e2, if_neg c_39]; done) | (simp only [exitM, if_pos c_8, e1, e2, if_neg c_39]; rfl) | rfl) (by first | with_reducible rfl | (simp only [exitM, if_pos c_8, e1, e2, if_neg c_39]; done) | (simp only [exitM, if_pos c_8, e1, e2, if_neg c_39]; rfl) | rfl)
    · refine wp_ald0 dX12_exit_42 ?_
      refine wp_ild2 dX12_exit_43 ?_
      refine mv_1 dX12_exit_44 kX12_117 (cm_release (d := d - 1) hG hM ho ((h.up (by omega)).1.q ho) ((h.up (by omega)).HD ho) (by omega)) hM rfl (by omega) (Nat.le_of_ble_eq_true rfl) (Nat.le_refl _) (Nat.le_refl _) ?_
      refine wp_ald0 dX12_exit_47 ?_
      refine wp_iconst (v := 1) dX12_exit_48 (by decide) ?_
      refine wp_ild1 dX12_exit_49 ?_
      refine wp_ild2 dX12_exit_50 ?_
      refine wp_iconst (v := 0) dX12_exit_51 (by decide) ?_
      refine mv_4 dX12_exit_52 kX12_110 (cm_record (d := d - 1) hG hM (by first | exact (Hi.rf.up (by omega)).r hr | exact ((Hi.rf.up (by omega)).rel (h.up (by omega)) ho).r hr)) hM rfl (by omega) (Nat.le_of_ble_eq_true rfl) (Nat.le_refl _) (Nat.le_refl _) ?_
      refine wp_ild4 dX12_exit_55 ?_
      exact wp_iret dX12_exit_57 rfl (Nat.le_refl _) (Nat.le_refl _) (by first | with_reducible rfl | (simp only [exitM, if_pos c_8, e1, e2, if_pos c_39]; done) | (simp only [exitM, if_pos c_8, e1, e2, if_pos c_39]; rfl) | rfl) (by first | with_reducible rfl | (simp only [exitM, if_pos c_8, e1, e2, if_pos c_39]; done) | (simp only [exitM, if_pos c_8, e1, e2, if_pos c_39]; rfl) | rfl)
  · refine wp_ild3 dX12_exit_11 ?_
    exact wp_iret dX12_exit_12 rfl (Nat.le_refl _) (Nat.le_refl _) (by first | with_reducible rfl | (simp only [exitM, if_neg c_8]; done) | (simp only [exitM, if_neg c_8]; rfl) | rfl) (by first | with_reducible rfl | (simp only [exitM, if_neg c_8]; done) | (simp only [exitM, if_neg c_8]; rfl) | rfl)

def aw1 (F : Nat → Int32) (t o : Nat) (z : Int32) : Nat → Int32 := upd (upd (upd (upd F (40 + t) (F (62 + o))) (34 + t) (if z = 0 then 0 else upd F (40 + t) (F (62 + o)) 9 + z)) (10 + t) 2) (28 + t) (nI o)
def aw2 (F : Nat → Int32) (t o : Nat) (z : Int32) : Nat → Int32 := upd (upd (aw1 F t o z) (174 + 6 * o + nt (F (118 + o))) (nI t)) (118 + o) (upd (aw1 F t o z) (174 + 6 * o + nt (F (118 + o))) (nI t) (118 + o) + 1)
def awE (F : Nat → Int32) (t o : Nat) (z : Int32) : Int32 × (Nat → Int32) := (F (62 + o), rcdM (relM (aw2 F t o z) o) 2 (nI t) (nI o) z)
theorem aw1_w {F : Nat → Int32} {t o k : Nat} {z : Int32} (ht : t < 6) (hk : 46 ≤ k) : aw1 F t o z k = F k := by
  unfold aw1
  rw [upd_ne (by omega), upd_ne (by omega), upd_ne (by omega), upd_ne (by omega)]
theorem aw2_app {F : Nat → Int32} {t o : Nat} {z : Int32} (ht : t < 6) (hs : OKs F (118 + o)) (hlt : nt (F (118 + o)) < 6) : aw2 F t o z = appF (aw1 F t o z) (118 + o) (174 + 6 * o) (nI t) := by
  have e : aw1 F t o z (118 + o) = F (118 + o) := aw1_w ht (by omega)
  have hc : ¬ (6 : Int32) ≤ aw1 F t o z (118 + o) := by
    rw [e, show F (118 + o) = nI (nt (F (118 + o))) from hs.nat.1]; exact nI_ge (a := nt (F (118 + o))) (b := 6) hlt (by decide)
  unfold aw2 appF
  rw [if_neg hc, e]
theorem WI.aw1 {F : Nat → Int32} {t o : Nat} {z : Int32} (h : WI F) (ht : t < 6) (ho : o < 8) : WI (aw1 F t o z) := (((h.up (by omega)).up (by omega)).up (by omega)).up (by omega)
theorem awf_0 {F : Nat → Int32} {t o : Nat} {z : Int32} (ht : t < 6) : aw1 F t o z 0 = F 0 := by
  simp only [aw1]
  rw [upd_ne (by omega), upd_ne (by omega), upd_ne (by omega), upd_ne (by omega)]
theorem awf_s {F : Nat → Int32} {t o : Nat} {z : Int32} (ht : t < 6) : aw1 F t o z (10 + t) = 2 := by
  simp only [aw1]
  rw [upd_ne (by omega), upd_eq]
theorem awf_so {F : Nat → Int32} {t o u : Nat} {z : Int32} (ht : t < 6) (hu : u < 6) (e : u ≠ t) : aw1 F t o z (10 + u) = F (10 + u) := by
  simp only [aw1]
  rw [upd_ne (by omega), upd_ne (by omega), upd_ne (by omega), upd_ne (by omega)]
theorem awf_ao {F : Nat → Int32} {t o u : Nat} {z : Int32} (ht : t < 6) (hu : u < 6) (e : u ≠ t) : aw1 F t o z (28 + u) = F (28 + u) := by
  simp only [aw1]
  rw [upd_ne (by omega), upd_ne (by omega), upd_ne (by omega), upd_ne (by omega)]
theorem TS.aw2 {F : Nat → Int32} {t o : Nat} {z : Int32} (h : TS F) (ht : t < nt (F 0)) (ho : o < 8) (hr : F (10 + t) = 0) : TS (aw2 F t o z) := by
  have hT := h.1.thr.2
  have hrr : ¬ F (10 + t) = 1 ∧ ¬ F (10 + t) = 2 := by rw [hr]; exact ⟨by decide, by decide⟩
  obtain ⟨-, hn⟩ := h.run ht hrr
  have hlt := h.roomw ht ho (hn o ho).2
  have hW1 := h.1.aw1 (t := t) (o := o) (z := z) (by omega) ho
  have e8 := aw1_w (F := F) (t := t) (o := o) (k := 118 + o) (z := z) (by omega) (by omega)
  rw [aw2_app (by omega) (h.1.w ho) hlt]
  have hlt1 := hlt
  rw [← e8] at hlt1
  have hlow : ∀ k, k < 110 → appF (aw1 F t o z) (118 + o) (174 + 6 * o) (nI t) k = aw1 F t o z k := fun k hk => appF_out (hW1.w ho) (by omega) (by omega)
  have ql : ∀ o', o' < 8 → Qs (aw1 F t o z) o' = Qs F o' := fun o' ho' => lst_congr (h.1.q ho') (aw1_w (by omega) (by omega)) (fun i hi => aw1_w (by omega) (by omega))
  have wl : ∀ o', o' < 8 → Ws (aw1 F t o z) o' = Ws F o' := fun o' ho' => lst_congr (h.1.w ho') (aw1_w (by omega) (by omega)) (fun i hi => aw1_w (by omega) (by omega))
  refine h.joinw ht ho hrr (hW1.appw ho) (by rw [hlow 0 (by omega)]; exact awf_0 (by omega)) (by rw [hlow _ (by omega)]; exact awf_s (by omega)) (by rw [hlow _ (by omega)]; exact upd_eq) (fun u hu e => by rw [hlow _ (by omega)]; exact awf_so (by omega) hu e) (fun u hu e => by rw [hlow _ (by omega)]; exact awf_ao (by omega) hu e) (fun o' ho' => (Qs_appw hW1 ho ho').trans (ql o' ho')) (fun o' ho' => ?_)
  rw [Ws_appw hW1 ho ho' hlt1, wl o ho, wl o' ho']
theorem Hi.aw2 {F F1 : Nat → Int32} {t o : Nat} {z : Int32} (h : Hi F F1) (hW : WI F1) (ht : t < 6) (ho : o < 8) : Hi F (aw2 F1 t o z) := by
  have h6 : nt (F1 (118 + o)) ≤ 6 := (hW.w ho).nat.2
  show Hi F (upd (upd (upd (upd (upd (upd F1 _ _) _ _) _ _) _ _) _ _) _ _)
  exact (((((h.up (by omega)).up (by omega)).up (by omega)).up (by omega)).up (by omega)).up (by omega)
theorem TS.infM {F : Nat → Int32} {o : Nat} (h : TS F) (ho : o < 8) : TS (infM F o) := by
  show TS (if _ then _ else _)
  split
  · exact (((h.up (by omega)).up (by omega)).up (by omega)).up (by omega)
  · show TS (infK F o (lidM F))
    cases hl : lidM F with
    | none => exact h
    | some j => have := lidM_lt hl; exact (((((h.up (by omega)).up (by omega)).up (by omega)).up (by omega)).up (by omega)).up (by omega)
theorem infM_lo {F : Nat → Int32} {o k : Nat} (ho : o < 8) (hk : k < 46 ∨ (54 ≤ k ∧ k < 70) ∨ (110 ≤ k ∧ k < 231)) : infM F o k = F k := by
  unfold infM
  split
  · show upd (upd (upd (upd F _ _) _ _) _ _) _ _ k = F k
    rw [upd_ne (by omega), upd_ne (by omega), upd_ne (by omega), upd_ne (by omega)]
  · show infK F o (lidM F) k = F k
    cases hl : lidM F with
    | none => rfl
    | some j =>
      have := lidM_lt hl
      show upd (upd (upd (upd (upd (upd F _ _) _ _) _ _) _ _) _ _) _ _ k = F k
      rw [upd_ne (by omega), upd_ne (by omega), upd_ne (by omega), upd_ne (by omega), upd_ne (by omega), upd_ne (by omega)]
def awaitM (F : Nat → Int32) (x y z : Int32) : Int32 × (Nat → Int32) := if isT F x then (if isOb y then (if inP z 0 50 then (if 0 ≤ fbM F x y then (if F (16 + nt x) = 1 then (-9, rcdM (upd (upd F (16 + nt x) 0) (22 + nt x) 3) 2 x y z) else if F (46 + nt y) = 4 then awE F (nt x) (nt y) z else if cifM F then awE (infM F (nt y)) (nt x) (nt y) z else (-6, infM F (nt y))) else (fbM F x y, F)) else (-3, F)) else (-2, F)) else (-1, F)
set_option maxHeartbeats 2000000 in
theorem tm_awE {G : GG} {Y : Nat} {F : Nat → Int32} {E0 : Nat → va_E} {L : List Nat} {sz d : Nat} {t o : Nat} {z : Int32} (hG : GOK G) (hM : rIn (mR G Y) L) (ht : t < 6) (ho : o < 8) (htT : t < nt (F 0)) (hrun : F (10 + t) = 0) (h : TS F) (hr : OKr F) (hdp : 3 ≤ d) : WP G iX12_await d 0 0 (some (.int (awE F t o z).1)) (Mm G Y ((awE F t o z).2) E0 L sz) 117 [some (.ref Y), some (.int (nI t)), some (.int (nI o)), some (.int z), none, none] [] (Mm G Y F E0 L sz) 0 0 := by
  obtain ⟨hs1, hs2⟩ : F (118 + o) = nI (nt (F (118 + o))) ∧ nt (F (118 + o)) ≤ 6 := (h.1.w ho).nat
  refine wp_ald0 dX12_await_117 ?_
  refine gm_w dX12_await_118 fX12_7 hM ?_
  refine wp_bipush (v := 62) dX12_await_121 (by decide) ?_
  refine wp_ild2 dX12_await_123 ?_
  refine wp_iaddN (a := 62) (b := o) (by decide) rfl dX12_await_124 ?_
  refine rm_w (i' := (62 + o)) dX12_await_125 hG hM rfl (by first | assumption | omega) ?_
  refine wp_ist5 dX12_await_126 (by decide) rfl ?_
  refine wp_ald0 dX12_await_128 ?_
  refine gm_w dX12_await_129 fX12_7 hM ?_
  refine wp_bipush (v := 40) dX12_await_132 (by decide) ?_
  refine wp_ild1 dX12_await_134 ?_
  refine wp_iaddN (a := 40) (b := t) (by decide) rfl dX12_await_135 ?_
  refine wp_ild5 dX12_await_136 ?_
  refine sm_w (i' := (40 + t)) dX12_await_138 hG hM rfl (by first | assumption | omega) ?_
  refine wp_ald0 dX12_await_139 ?_
  refine gm_w dX12_await_140 fX12_7 hM ?_
  refine wp_bipush (v := 34) dX12_await_143 (by decide) ?_
  refine wp_ild1 dX12_await_145 ?_
  refine wp_iaddN (a := 34) (b := t) (by decide) rfl dX12_await_146 ?_
  refine wp_ild3 dX12_await_147 ?_
  refine wp_if_ne (tgt := 155) dX12_await_148 (by decide) (fun c_148 => ?_) (fun c_148 => ?_)
  · refine wp_ald0 dX12_await_155 ?_
    refine gm_w dX12_await_156 fX12_7 hM ?_
    refine wp_bipush (v := 9) dX12_await_159 (by decide) ?_
    refine rm_w (i' := 9) dX12_await_161 hG hM (by decide) (by decide) ?_
    refine wp_ild3 dX12_await_162 ?_
    refine wp_iadd dX12_await_163 ?_
    refine sm_w (i' := (34 + t)) dX12_await_164 hG hM rfl (by first | assumption | omega) ?_
    refine wp_ald0 dX12_await_165 ?_
    refine gm_w dX12_await_166 fX12_7 hM ?_
    refine wp_bipush (v := 10) dX12_await_169 (by decide) ?_
    refine wp_ild1 dX12_await_171 ?_
    refine wp_iaddN (a := 10) (b := t) (by decide) rfl dX12_await_172 ?_
    refine wp_iconst (v := 2) dX12_await_173 (by decide) ?_
    refine sm_w (i' := (10 + t)) dX12_await_174 hG hM rfl (by first | assumption | omega) ?_
    refine wp_ald0 dX12_await_175 ?_
    refine gm_w dX12_await_176 fX12_7 hM ?_
    refine wp_bipush (v := 28) dX12_await_179 (by decide) ?_
    refine wp_ild1 dX12_await_181 ?_
    refine wp_iaddN (a := 28) (b := t) (by decide) rfl dX12_await_182 ?_
    refine wp_ild2 dX12_await_183 ?_
    refine sm_w (i' := (28 + t)) dX12_await_184 hG hM rfl (by first | assumption | omega) ?_
    refine wp_ald0 dX12_await_185 ?_
    refine gm_w dX12_await_186 fX12_7 hM ?_
    refine wp_sipush (v := 174) dX12_await_189 (by decide) ?_
    refine wp_bipush (v := 6) dX12_await_192 (by decide) ?_
    refine wp_ild2 dX12_await_194 ?_
    refine wp_imulN (a := 6) (b := o) (by decide) rfl dX12_await_195 ?_
    refine wp_iaddN (a := 174) (b := (6 * o)) (by decide) rfl dX12_await_196 ?_
    refine wp_ald0 dX12_await_197 ?_
    refine gm_w dX12_await_198 fX12_7 hM ?_
    refine wp_bipush (v := 118) dX12_await_201 (by decide) ?_
    refine wp_ild2 dX12_await_203 ?_
    refine wp_iaddN (a := 118) (b := o) (by decide) rfl dX12_await_204 ?_
    refine rm_w (i' := (118 + o)) dX12_await_205 hG hM rfl (by first | assumption | omega) ?_
    rw [upd_ne (show 118 + o ≠ 28 + t by omega), upd_ne (show 118 + o ≠ 10 + t by omega), upd_ne (show 118 + o ≠ 34 + t by omega), upd_ne (show 118 + o ≠ 40 + t by omega)]
    refine wp_iaddN (a := (174 + (6 * o))) (b := nt (F (118 + o))) rfl hs1 dX12_await_206 ?_
    refine wp_ild1 dX12_await_207 ?_
    refine sm_w (i' := ((174 + (6 * o)) + nt (F (118 + o)))) dX12_await_208 hG hM rfl (by first | assumption | omega) ?_
    refine wp_ald0 dX12_await_209 ?_
    refine gm_w dX12_await_210 fX12_7 hM ?_
    refine wp_bipush (v := 118) dX12_await_213 (by decide) ?_
    refine wp_ild2 dX12_await_215 ?_
    refine wp_iaddN (a := 118) (b := o) (by decide) rfl dX12_await_216 ?_
    refine wp_dup2 dX12_await_217 rfl rfl ?_
    refine rm_w (i' := (118 + o)) dX12_await_218 hG hM rfl (by first | assumption | omega) ?_
    refine wp_iconst (v := 1) dX12_await_219 (by decide) ?_
    refine wp_iadd dX12_await_220 ?_
    refine sm_w (i' := (118 + o)) dX12_await_221 hG hM rfl (by first | assumption | omega) ?_
    refine WP.to (M2 := Mm G Y (aw2 F t o z) E0 L sz) (by simp only [aw2, aw1, if_neg c_148]) ?_
    refine wp_ald0 dX12_await_222 ?_
    refine wp_ild2 dX12_await_223 ?_
    refine mv_1 dX12_await_224 kX12_117 (cm_release (d := d - 1) hG hM ho ((h.aw2 htT ho hrun).1.q ho) ((h.aw2 htT ho hrun).HD ho) (by omega)) hM rfl (by omega) (Nat.le_of_ble_eq_true rfl) (Nat.le_refl _) (Nat.le_refl _) ?_
    refine wp_ald0 dX12_await_227 ?_
    refine wp_iconst (v := 2) dX12_await_228 (by decide) ?_
    refine wp_ild1 dX12_await_229 ?_
    refine wp_ild2 dX12_await_230 ?_
    refine wp_ild3 dX12_await_231 ?_
    refine mv_4 dX12_await_232 kX12_110 (cm_record (d := d - 1) hG hM (((Hi.rf.aw2 h.1 ht ho).rel (h.aw2 htT ho hrun) ho).r hr)) hM rfl (by omega) (Nat.le_of_ble_eq_true rfl) (Nat.le_refl _) (Nat.le_refl _) ?_
    refine wp_ild5 dX12_await_235 ?_
    exact wp_iret dX12_await_237 rfl (Nat.le_refl _) (Nat.le_refl _) (by first | with_reducible rfl | (simp only [awE, if_neg c_148]; done) | (simp only [awE, if_neg c_148]; rfl) | rfl) (by first | with_reducible rfl | (simp only [awE, if_neg c_148]; done) | (simp only [awE, if_neg c_148]; rfl) | rfl)
  · refine wp_iconst (v := 0) dX12_await_151 (by decide) ?_
    refine wp_goto (tgt := 164) dX12_await_152 (by decide) ?_
    refine sm_w (i' := (34 + t)) dX12_await_164 hG hM rfl (by first | assumption | omega) ?_
    refine wp_ald0 dX12_await_165 ?_
    refine gm_w dX12_await_166 fX12_7 hM ?_
    refine wp_bipush (v := 10) dX12_await_169 (by decide) ?_
    refine wp_ild1 dX12_await_171 ?_
    refine wp_iaddN (a := 10) (b := t) (by decide) rfl dX12_await_172 ?_
    refine wp_iconst (v := 2) dX12_await_173 (by decide) ?_
    refine sm_w (i' := (10 + t)) dX12_await_174 hG hM rfl (by first | assumption | omega) ?_
    refine wp_ald0 dX12_await_175 ?_
    refine gm_w dX12_await_176 fX12_7 hM ?_
    refine wp_bipush (v := 28) dX12_await_179 (by decide) ?_
    refine wp_ild1 dX12_await_181 ?_
    refine wp_iaddN (a := 28) (b := t) (by decide) rfl dX12_await_182 ?_
    refine wp_ild2 dX12_await_183 ?_
    refine sm_w (i' := (28 + t)) dX12_await_184 hG hM rfl (by first | assumption | omega) ?_
    refine wp_ald0 dX12_await_185 ?_
    refine gm_w dX12_await_186 fX12_7 hM ?_
    refine wp_sipush (v := 174) dX12_await_189 (by decide) ?_
    refine wp_bipush (v := 6) dX12_await_192 (by decide) ?_
    refine wp_ild2 dX12_await_194 ?_
    refine wp_imulN (a := 6) (b := o) (by decide) rfl dX12_await_195 ?_
    refine wp_iaddN (a := 174) (b := (6 * o)) (by decide) rfl dX12_await_196 ?_
    refine wp_ald0 dX12_await_197 ?_
    refine gm_w dX12_await_198 fX12_7 hM ?_
    refine wp_bipush (v := 118) dX12_await_201 (by decide) ?_
    refine wp_ild2 dX12_await_203 ?_
    refine wp_iaddN (a := 118) (b := o) (by decide) rfl dX12_await_204 ?_
    refine rm_w (i' := (118 + o)) dX12_await_205 hG hM rfl (by first | assumption | omega) ?_
    rw [upd_ne (show 118 + o ≠ 28 + t by omega), upd_ne (show 118 + o ≠ 10 + t by omega), upd_ne (show 118 + o ≠ 34 + t by omega), upd_ne (show 118 + o ≠ 40 + t by omega)]
    refine wp_iaddN (a := (174 + (6 * o))) (b := nt (F (118 + o))) rfl hs1 dX12_await_206 ?_
    refine wp_ild1 dX12_await_207 ?_
    refine sm_w (i' := ((174 + (6 * o)) + nt (F (118 + o)))) dX12_await_208 hG hM rfl (by first | assumption | omega) ?_
    refine wp_ald0 dX12_await_209 ?_
    refine gm_w dX12_await_210 fX12_7 hM ?_
    refine wp_bipush (v := 118) dX12_await_213 (by decide) ?_
    refine wp_ild2 dX12_await_215 ?_
    refine wp_iaddN (a := 118) (b := o) (by decide) rfl dX12_await_216 ?_
    refine wp_dup2 dX12_await_217 rfl rfl ?_
    refine rm_w (i' := (118 + o)) dX12_await_218 hG hM rfl (by first | assumption | omega) ?_
    refine wp_iconst (v := 1) dX12_await_219 (by decide) ?_
    refine wp_iadd dX12_await_220 ?_
    refine sm_w (i' := (118 + o)) dX12_await_221 hG hM rfl (by first | assumption | omega) ?_
    refine WP.to (M2 := Mm G Y (aw2 F t o z) E0 L sz) (by simp only [aw2, aw1, if_pos c_148]) ?_
    refine wp_ald0 dX12_await_222 ?_
    refine wp_ild2 dX12_await_223 ?_
    refine mv_1 dX12_await_224 kX12_117 (cm_release (d := d - 1) hG hM ho ((h.aw2 htT ho hrun).1.q ho) ((h.aw2 htT ho hrun).HD ho) (by omega)) hM rfl (by omega) (Nat.le_of_ble_eq_true rfl) (Nat.le_refl _) (Nat.le_refl _) ?_
    refine wp_ald0 dX12_await_227 ?_
    refine wp_iconst (v := 2) dX12_await_228 (by decide) ?_
    refine wp_ild1 dX12_await_229 ?_
    refine wp_ild2 dX12_await_230 ?_
    refine wp_ild3 dX12_await_231 ?_
    refine mv_4 dX12_await_232 kX12_110 (cm_record (d := d - 1) hG hM (((Hi.rf.aw2 h.1 ht ho).rel (h.aw2 htT ho hrun) ho).r hr)) hM rfl (by omega) (Nat.le_of_ble_eq_true rfl) (Nat.le_refl _) (Nat.le_refl _) ?_
    refine wp_ild5 dX12_await_235 ?_
    exact wp_iret dX12_await_237 rfl (Nat.le_refl _) (Nat.le_refl _) (by first | with_reducible rfl | (simp only [awE, if_pos c_148]; done) | (simp only [awE, if_pos c_148]; rfl) | rfl) (by first | with_reducible rfl | (simp only [awE, if_pos c_148]; done) | (simp only [awE, if_pos c_148]; rfl) | rfl)
set_option maxHeartbeats 2000000 in
theorem cm_await {G : GG} {Y : Nat} {F : Nat → Int32} {E0 : Nat → va_E} {L : List Nat} {sz d : Nat} {x y z : Int32} (hG : GOK G) (hM : rIn (mR G Y) L) (h : TS F) (hr : OKr F) (hdp : 3 ≤ d) : Ct G d yX12_await iX12_await [.ref Y, .int x, .int y, .int z] (Mm G Y F E0 L sz) 0 0 (some (.int (awaitM F x y z).1)) (Mm G Y ((awaitM F x y z).2) E0 L sz) := by
  refine Ct.of 2 (by decide) rfl (by decide) (Nat.le_of_ble_eq_true rfl) ?_
  show WP _ _ _ _ _ _ _ 0 [some (.ref Y), some (.int x), some (.int y), some (.int z), none, none] [] _ 0 0
  refine wp_ald0 dX12_await_0 ?_
  refine wp_ild1 dX12_await_1 ?_
  refine mi_1 dX12_await_2 kX12_101 (cm_isThread (d := d - 1) hG hM (by omega)) hM rfl (by omega) (Nat.le_of_ble_eq_true rfl) (Nat.le_refl _) (Nat.le_refl _) ?_
  refine wp_ifB_ne (tgt := 10) dX12_await_5 (by decide) (fun c_5 => ?_) (fun c_5 => ?_)
  · refine wp_ild2 dX12_await_10 ?_
    refine ci_1 dX12_await_11 kX12_104 (cm_isObject (d := d - 1) (by omega)) (by omega) (Nat.le_of_ble_eq_true rfl) (Nat.le_refl _) (Nat.le_refl _) ?_
    refine wp_ifB_ne (tgt := 20) dX12_await_14 (by decide) (fun c_14 => ?_) (fun c_14 => ?_)
    · refine wp_ild3 dX12_await_20 ?_
      refine wp_iconst (v := 0) dX12_await_21 (by decide) ?_
      refine wp_bipush (v := 50) dX12_await_22 (by decide) ?_
      refine ci_3 dX12_await_24 kX12_35 (cm_isIn (d := d - 1)) (by omega) (Nat.le_of_ble_eq_true rfl) (Nat.le_refl _) (Nat.le_refl _) ?_
      refine wp_ifB_ne (tgt := 33) dX12_await_27 (by decide) (fun c_27 => ?_) (fun c_27 => ?_)
      · refine wp_ald0 dX12_await_33 ?_
        refine wp_ild1 dX12_await_34 ?_
        refine wp_ild2 dX12_await_35 ?_
        refine mi_2 dX12_await_36 kX12_114 (cm_forbidden (d := d - 1) hG hM h (by omega)) hM rfl (by omega) (Nat.le_of_ble_eq_true rfl) (Nat.le_refl _) (Nat.le_refl _) ?_
        refine wp_ist4 dX12_await_39 (by decide) rfl ?_
        refine wp_ild4 dX12_await_41 ?_
        refine wp_if_ge (tgt := 49) dX12_await_43 (by decide) (fun c_43 => ?_) (fun c_43 => ?_)
        · obtain ⟨t, o, ⟨ht, htT⟩, ho, rfl, rfl, hrun, hheld, hown⟩ := fb_ok h.1 c_43
          have e1 : nt (nI t) = t := ntn (by omega)
          have e2 : nt (nI o) = o := ntn (by omega)
          refine wp_ald0 dX12_await_49 ?_
          refine gm_w dX12_await_50 fX12_7 hM ?_
          refine wp_bipush (v := 16) dX12_await_53 (by decide) ?_
          refine wp_ild1 dX12_await_55 ?_
          refine wp_iaddN (a := 16) (b := t) (by decide) rfl dX12_await_56 ?_
          refine rm_w (i' := (16 + t)) dX12_await_57 hG hM rfl (by first | assumption | omega) ?_
          refine wp_iconst (v := 1) dX12_await_58 (by decide) ?_
          refine wp_icmp_ne (tgt := 93) dX12_await_59 (by decide) (fun c_59 => ?_) (fun c_59 => ?_)
          · refine wp_ald0 dX12_await_93 ?_
            refine gm_w dX12_await_94 fX12_7 hM ?_
            refine wp_bipush (v := 46) dX12_await_97 (by decide) ?_
            refine wp_ild2 dX12_await_99 ?_
            refine wp_iaddN (a := 46) (b := o) (by decide) rfl dX12_await_100 ?_
            refine rm_w (i' := (46 + o)) dX12_await_101 hG hM rfl (by first | assumption | omega) ?_
            refine wp_iconst (v := 4) dX12_await_102 (by decide) ?_
            refine wp_icmp_eq (tgt := 117) dX12_await_103 (by decide) (fun c_103 => ?_) (fun c_103 => ?_)
            · simp only [awaitM, if_pos c_5, if_pos c_14, if_pos c_27, if_pos c_43, e1, e2, if_neg c_59, if_pos c_103]
              exact WP.fg (by simp [lcle]) (tm_awE hG hM ht ho htT hrun h hr (by omega))
            · refine wp_ald0 dX12_await_106 ?_
              refine wp_ild2 dX12_await_107 ?_
              refine mi_1 dX12_await_108 kX12_91 (cm_inflates (d := d - 1) hG hM ho (by omega)) hM rfl (by omega) (Nat.le_of_ble_eq_true rfl) (Nat.le_refl _) (Nat.le_refl _) ?_
              refine wp_ifB_ne (tgt := 117) dX12_await_111 (by decide) (fun c_111 => ?_) (fun c_111 => ?_)
              · simp only [awaitM, if_pos c_5, if_pos c_14, if_pos c_27, if_pos c_43, e1, e2, if_neg c_59, if_neg c_103, if_pos c_111]
                exact WP.fg (by simp [lcle]) (tm_awE hG hM ht ho (by rw [infM_lo ho (by omega)]; exact htT) (by rw [infM_lo ho (by omega)]; exact hrun) (h.infM ho) ((Hi.rf.infM ho).r hr) (by omega))
              · refine wp_bipush (v := (-6)) dX12_await_114 (by decide) ?_
                exact wp_iret dX12_await_116 rfl (Nat.le_refl _) (Nat.le_refl _) (by first | with_reducible rfl | (simp only [awaitM, if_pos c_5, if_pos c_14, if_pos c_27, if_pos c_43, e1, e2, if_neg c_59, if_neg c_103, if_neg c_111]; done) | (simp only [awaitM, if_pos c_5, if_pos c_14, if_pos c_27, if_pos c_43, e1, e2, if_neg c_59, if_neg c_103, if_neg c_111]; rfl) | rfl) (by first | with_reducible rfl | (simp only [awaitM, if_pos c_5, if_pos c_14, if_pos c_27, if_pos c_43, e1, e2, if_neg c_59, if_neg c_103, if_neg c_111]; done) | (simp only [awaitM, if_pos c_5, if_pos c_14, if_pos c_27, if_pos c_43, e1, e2, if_neg c_59, if_neg c_103, if_neg c_111]; rfl) | rfl)
          · refine wp_ald0 dX12_await_62 ?_
            refine gm_w dX12_await_63 fX12_7 hM ?_
            refine wp_bipush (v := 16) dX12_await_66 (by decide) ?_
            refine wp_ild1 dX12_await_68 ?_
            refine wp_iaddN (a := 16) (b := t) (by decide) rfl dX12_await_69 ?_
            refine wp_iconst (v := 0) dX12_await_70 (by decide) ?_
            refine sm_w (i' := (16 + t)) dX12_await_71 hG hM rfl (by first | assumption | omega) ?_
            refine wp_ald0 dX12_await_72 ?_
            refine gm_w dX12_await_73 fX12_7 hM ?_
            refine wp_bipush (v := 22) dX12_await_76 (by decide) ?_
            refine wp_ild1 dX12_await_78 ?_
            refine wp_iaddN (a := 22) (b := t) (by decide) rfl dX12_await_79 ?_
            refine wp_iconst (v := 3) dX12_await_80 (by decide) ?_
            refine sm_w (i' := (22 + t)) dX12_await_81 hG hM rfl (by first | assumption | omega) ?_
            refine wp_ald0 dX12_await_82 ?_
            refine wp_iconst (v := 2) dX12_await_83 (by decide) ?_
            refine wp_ild1 dX12_await_84 ?_
            refine wp_ild2 dX12_await_85 ?_
            refine wp_ild3 dX12_await_86 ?_
            refine mv_4 dX12_await_87 kX12_110 (cm_record (d := d - 1) hG hM (((Hi.rf.up (by omega)).up (by omega)).r hr)) hM rfl (by omega) (Nat.le_of_ble_eq_true rfl) (Nat.le_refl _) (Nat.le_refl _) ?_
            refine wp_bipush (v := (-9)) dX12_await_90 (by decide) ?_
            exact wp_iret dX12_await_92 rfl (Nat.le_refl _) (Nat.le_refl _) (by first | with_reducible rfl | (simp only [awaitM, if_pos c_5, if_pos c_14, if_pos c_27, if_pos c_43, e1, e2, if_pos c_59]; done) | (simp only [awaitM, if_pos c_5, if_pos c_14, if_pos c_27, if_pos c_43, e1, e2, if_pos c_59]; rfl) | rfl) (by first | with_reducible rfl | (simp only [awaitM, if_pos c_5, if_pos c_14, if_pos c_27, if_pos c_43, e1, e2, if_pos c_59]; done) | (simp only [awaitM, if_pos c_5, if_pos c_14, if_pos c_27, if_pos c_43, e1, e2, if_pos c_59]; rfl) | rfl)
        · refine wp_ild4 dX12_await_46 ?_
          exact wp_iret dX12_await_48 rfl (Nat.le_refl _) (Nat.le_refl _) (by first | with_reducible rfl | (simp only [awaitM, if_pos c_5, if_pos c_14, if_pos c_27, if_neg c_43]; done) | (simp only [awaitM, if_pos c_5, if_pos c_14, if_pos c_27, if_neg c_43]; rfl) | rfl) (by first | with_reducible rfl | (simp only [awaitM, if_pos c_5, if_pos c_14, if_pos c_27, if_neg c_43]; done) | (simp only [awaitM, if_pos c_5, if_pos c_14, if_pos c_27, if_neg c_43]; rfl) | rfl)
      · refine wp_bipush (v := (-3)) dX12_await_30 (by decide) ?_
        exact wp_iret dX12_await_32 rfl (Nat.le_refl _) (Nat.le_refl _) (by first | with_reducible rfl | (simp only [awaitM, if_pos c_5, if_pos c_14, if_neg c_27]; done) | (simp only [awaitM, if_pos c_5, if_pos c_14, if_neg c_27]; rfl) | rfl) (by first | with_reducible rfl | (simp only [awaitM, if_pos c_5, if_pos c_14, if_neg c_27]; done) | (simp only [awaitM, if_pos c_5, if_pos c_14, if_neg c_27]; rfl) | rfl)
    · refine wp_bipush (v := (-2)) dX12_await_17 (by decide) ?_
      exact wp_iret dX12_await_19 rfl (Nat.le_refl _) (Nat.le_refl _) (by first | with_reducible rfl | (simp only [awaitM, if_pos c_5, if_neg c_14]; done) | (simp only [awaitM, if_pos c_5, if_neg c_14]; rfl) | rfl) (by first | with_reducible rfl | (simp only [awaitM, if_pos c_5, if_neg c_14]; done) | (simp only [awaitM, if_pos c_5, if_neg c_14]; rfl) | rfl)
  · refine wp_iconst (v := (-1)) dX12_await_8 (by decide) ?_
    exact wp_iret dX12_await_9 rfl (Nat.le_refl _) (Nat.le_refl _) (by first | with_reducible rfl | (simp only [awaitM, if_neg c_5]; done) | (simp only [awaitM, if_neg c_5]; rfl) | rfl) (by first | with_reducible rfl | (simp only [awaitM, if_neg c_5]; done) | (simp only [awaitM, if_neg c_5]; rfl) | rfl)

