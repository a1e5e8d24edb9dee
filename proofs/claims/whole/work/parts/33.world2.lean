theorem sw_out {x : Int32} (n : Nat) (hn : n < 2 ^ 31) (h : ∀ i, i ≤ n → ¬ x = nI i) : x.toInt < 0 ∨ (n : Int) < x.toInt := by
  by_cases h0 : x.toInt < 0
  · exact Or.inl h0
  · by_cases h1 : (n : Int) < x.toInt
    · exact Or.inr h1
    · refine absurd (Int32.toInt_inj.mp ?_) (h x.toInt.toNat (by omega))
      rw [nI_toInt (by omega)]
      omega
theorem sw3 {x : Int32} (h0 : ¬ x = 0) (h1 : ¬ x = 1) (h2 : ¬ x = 2) : x.toInt < 0 ∨ (2 : Int) < x.toInt := sw_out 2 (by decide) (fun i hi => by
  match i, hi with
  | 0, _ => exact h0
  | 1, _ => exact h1
  | 2, _ => exact h2
  | i + 3, hi => omega)
/-- what a line's sizes and the number of threads rest on -/
def SameS (C C' : Nat → Int32) : Prop := ∀ q, (q = 0 ∨ (110 ≤ q ∧ q < 126)) → C' q = C q
theorem SameS.rf {C : Nat → Int32} : SameS C C := fun _ _ => rfl
theorem SameS.tr {C C1 C2 : Nat → Int32} (h : SameS C C1) (h' : SameS C1 C2) : SameS C C2 := fun q hq => (h' q hq).trans (h q hq)
theorem SameS.up {C C1 : Nat → Int32} {k : Nat} {x : Int32} (h : SameS C C1) (hk : k ≠ 0 ∧ (k < 110 ∨ 126 ≤ k)) : SameS C (upd C1 k x) := fun q hq => by rw [upd_ne (by omega)]; exact h q hq
theorem SameS.ok {C C1 : Nat → Int32} {q : Nat} (h : SameS C C1) (hq : 110 ≤ q ∧ q < 126) (hs : OKs C q) : OKs C1 q := by
  obtain ⟨s, h1, h2⟩ := hs
  exact ⟨s, h1, (h q (Or.inr hq)).trans h2⟩
def WI (C : Nat → Int32) : Prop := (∃ T, T ≤ 6 ∧ C 0 = nI T) ∧ ∀ o, o < 8 → OKs C (110 + o) ∧ OKs C (118 + o)
theorem WI.of {C C1 : Nat → Int32} (hW : WI C) (h : SameS C C1) : WI C1 := ⟨by obtain ⟨T, h1, h2⟩ := hW.1; exact ⟨T, h1, (h 0 (Or.inl rfl)).trans h2⟩, fun o ho => ⟨h.ok (by omega) (hW.2 o ho).1, h.ok (by omega) (hW.2 o ho).2⟩⟩
abbrev idlP (C : Nat → Int32) (o : Nat) : Prop := C (46 + o) = 4 ∧ C (62 + o) = 0 ∧ C (110 + o) = 0 ∧ C (118 + o) = 0
def lidS (C : Nat → Int32) (i : Nat) (f : Option Nat) : Option Nat := if idlP C i then (match f with
  | none => some i
  | some j => if C (102 + j) ≤ C (102 + i) then some j else some i) else f
def lidL (C : Nat → Int32) : Nat → Nat → Option Nat → Option Nat
  | 0, _, f => f
  | n + 1, i, f => lidL C n (i + 1) (lidS C i f)
def lidF (C : Nat → Int32) : Option Nat := lidL C 8 0 none
def lrf (B : Nat) (f : Option Nat) : Value := match f with
  | none => .null
  | some j => .ref (aLk B j)
theorem lidS_lt {C : Nat → Int32} {i : Nat} {f : Option Nat} (hi : i < 8) (hf : ∀ j, f = some j → j < 8) : ∀ j, lidS C i f = some j → j < 8 := by
  intro j h
  unfold lidS at h
  split at h
  · cases f with
    | none => simp at h; omega
    | some g =>
      simp only at h
      split at h
      · simp at h; exact hf j (by rw [h])
      · simp at h; omega
  · exact hf j h
theorem lidL_lt {C : Nat → Int32} : ∀ (n i : Nat) (f : Option Nat), i + n = 8 → (∀ j, f = some j → j < 8) → ∀ j, lidL C n i f = some j → j < 8
  | 0, _, f, _, hf => hf
  | n + 1, i, f, hn, hf => lidL_lt n (i + 1) _ (by omega) (lidS_lt (by omega) hf)
theorem lidF_lt {C : Nat → Int32} {j : Nat} (h : lidF C = some j) : j < 8 := lidL_lt 8 0 none rfl (fun _ h => by cases h) j h
set_option maxHeartbeats 1000000 in
theorem lp_lid {G : GG} {B : Nat} {C : Nat → Int32} {E0 : Nat → va_E} {L : List Nat} {sz d : Nat} (hG : GOK G) (hL : rIn (wR G B) L) (hd1 : 1 ≤ d) (n : Nat) : ∀ (i : Nat) (f : Option Nat), i + n = 8 → (∀ j, f = some j → j < 8) → WP G iX10_longestIdle d 0 0 (some (lrf B (lidL C n i f))) (Wm G B C E0 L sz) 13 [some (.ref B), some (lrf B f), some (.ref (B + 5)), some (.int (nI 8)), some (.int (nI i)), none] [] (Wm G B C E0 L sz) 0 0 := by
  induction n with
  | zero =>
    intro i f hi hf
    cases f with
    | none =>
      show WP _ _ _ _ _ _ _ 13 [some (.ref B), some .null, some (.ref (B + 5)), some (.int (nI 8)), some (.int (nI i)), none] [] _ 0 0
      refine wp_ild4 dX10_longestIdle_13 ?_
      refine wp_ild3 dX10_longestIdle_15 ?_
      refine wp_icmp_ge (tgt := 58) dX10_longestIdle_16 (by decide) (fun c_16 => ?_) (fun c_16 => absurd (by rw [show i = 8 by omega]; exact Int32.le_refl _) c_16)
      refine wp_aldN1 dX10_longestIdle_58 ?_
      exact wp_aret dX10_longestIdle_59 rfl (Or.inl ⟨_, rfl⟩) (Or.inl rfl) (Nat.le_refl _) (Nat.le_refl _) (by first | with_reducible rfl | (simp only [lidL]; done) | (simp only [lidL]; rfl) | rfl) (by first | with_reducible rfl | (simp only [lidL]; done) | (simp only [lidL]; rfl) | rfl)
    | some j =>
      show WP _ _ _ _ _ _ _ 13 [some (.ref B), some (.ref (aLk B j)), some (.ref (B + 5)), some (.int (nI 8)), some (.int (nI i)), none] [] _ 0 0
      refine wp_ild4 dX10_longestIdle_13 ?_
      refine wp_ild3 dX10_longestIdle_15 ?_
      refine wp_icmp_ge (tgt := 58) dX10_longestIdle_16 (by decide) (fun c_16 => ?_) (fun c_16 => absurd (by rw [show i = 8 by omega]; exact Int32.le_refl _) c_16)
      refine wp_ald1 dX10_longestIdle_58 ?_
      exact wp_aret dX10_longestIdle_59 rfl (Or.inl ⟨_, rfl⟩) (Or.inr ⟨_, rfl⟩) (Nat.le_refl _) (Nat.le_refl _) (by first | with_reducible rfl | (simp only [lidL]; done) | (simp only [lidL]; rfl) | rfl) (by first | with_reducible rfl | (simp only [lidL]; done) | (simp only [lidL]; rfl) | rfl)
  | succ n ih =>
    intro i f hi hf
    cases f with
    | none =>
      show WP _ _ _ _ _ _ _ 13 [some (.ref B), some .null, some (.ref (B + 5)), some (.int (nI 8)), some (.int (nI i)), none] [] _ 0 0
      refine wp_ild4 dX10_longestIdle_13 ?_
      refine wp_ild3 dX10_longestIdle_15 ?_
      refine wp_icmp_ge (tgt := 58) dX10_longestIdle_16 (by decide) (fun c_16 => absurd c_16 (nI_ge (by omega) (by decide))) (fun c_16 => ?_)
      have hi8 : i < 8 := by omega
      refine wp_ald2 dX10_longestIdle_19 ?_
      refine wp_ild4 dX10_longestIdle_20 ?_
      refine r_locks (i' := i) dX10_longestIdle_22 hG hL rfl (by first | assumption | omega) ?_
      refine wp_ast5 dX10_longestIdle_23 (by decide) rfl ?_
      refine wp_ald5 dX10_longestIdle_25 ?_
      refine vi_Lock0 dX10_longestIdle_27 kX10_252 (ct_isIdle (d := d - 1) hG hL (by assumption)) hL (by assumption) rfl (by omega) (Nat.le_of_ble_eq_true rfl) (Nat.le_refl _) (Nat.le_refl _) ?_
      refine wp_ifB_eq (tgt := 52) dX10_longestIdle_30 (by decide) (fun c_30 => ?_) (fun c_30 => ?_)
      · refine wp_inc4 dX10_longestIdle_52 (by decide) rfl ?_
        refine wp_goto (tgt := 13) dX10_longestIdle_55 (by decide) ?_
        have e : lidS C i none = none := by simp only [lidS, if_neg c_30]
        show WP G iX10_longestIdle d 0 0 (some (lrf B (lidL C n (i + 1) (lidS C i none)))) _ 13 _ _ _ 0 0
        rw [e]
        exact WP.fg (by simp [lcle, lrf]) (ih (i + 1) none (by omega) (by intro j hj; cases hj <;> first | assumption | omega))
      · refine wp_aldN1 dX10_longestIdle_33 ?_
        refine wp_ifnullN (tgt := 49) dX10_longestIdle_34 (by decide) ?_
        refine wp_ald5 dX10_longestIdle_49 ?_
        refine wp_ast1 dX10_longestIdle_51 (by decide) rfl ?_
        refine wp_inc4 dX10_longestIdle_52 (by decide) rfl ?_
        refine wp_goto (tgt := 13) dX10_longestIdle_55 (by decide) ?_
        have e : lidS C i none = (some i) := by simp only [lidS, if_pos c_30]
        show WP G iX10_longestIdle d 0 0 (some (lrf B (lidL C n (i + 1) (lidS C i none)))) _ 13 _ _ _ 0 0
        rw [e]
        exact WP.fg (by simp [lcle, lrf]) (ih (i + 1) (some i) (by omega) (by intro j hj; cases hj <;> first | assumption | omega))
    | some j =>
      have hj8 : j < 8 := hf j rfl
      show WP _ _ _ _ _ _ _ 13 [some (.ref B), some (.ref (aLk B j)), some (.ref (B + 5)), some (.int (nI 8)), some (.int (nI i)), none] [] _ 0 0
      refine wp_ild4 dX10_longestIdle_13 ?_
      refine wp_ild3 dX10_longestIdle_15 ?_
      refine wp_icmp_ge (tgt := 58) dX10_longestIdle_16 (by decide) (fun c_16 => absurd c_16 (nI_ge (by omega) (by decide))) (fun c_16 => ?_)
      have hi8 : i < 8 := by omega
      refine wp_ald2 dX10_longestIdle_19 ?_
      refine wp_ild4 dX10_longestIdle_20 ?_
      refine r_locks (i' := i) dX10_longestIdle_22 hG hL rfl (by first | assumption | omega) ?_
      refine wp_ast5 dX10_longestIdle_23 (by decide) rfl ?_
      refine wp_ald5 dX10_longestIdle_25 ?_
      refine vi_Lock0 dX10_longestIdle_27 kX10_252 (ct_isIdle (d := d - 1) hG hL (by assumption)) hL (by assumption) rfl (by omega) (Nat.le_of_ble_eq_true rfl) (Nat.le_refl _) (Nat.le_refl _) ?_
      refine wp_ifB_eq (tgt := 52) dX10_longestIdle_30 (by decide) (fun c_30 => ?_) (fun c_30 => ?_)
      · refine wp_inc4 dX10_longestIdle_52 (by decide) rfl ?_
        refine wp_goto (tgt := 13) dX10_longestIdle_55 (by decide) ?_
        have e : lidS C i (some j) = (some j) := by simp only [lidS, if_neg c_30]
        show WP G iX10_longestIdle d 0 0 (some (lrf B (lidL C n (i + 1) (lidS C i (some j))))) _ 13 _ _ _ 0 0
        rw [e]
        exact WP.fg (by simp [lcle, lrf]) (ih (i + 1) (some j) (by omega) (by intro j hj; cases hj <;> first | assumption | omega))
      · refine wp_ald1 dX10_longestIdle_33 ?_
        refine wp_ifnull dX10_longestIdle_34 ?_
        refine wp_ald5 dX10_longestIdle_37 ?_
        refine g_Lock_idleSince dX10_longestIdle_39 fX10_255 hL (by assumption) ?_
        refine wp_ald1 dX10_longestIdle_42 ?_
        refine g_Lock_idleSince dX10_longestIdle_43 fX10_255 hL (by assumption) ?_
        refine wp_icmp_ge (tgt := 52) dX10_longestIdle_46 (by decide) (fun c_46 => ?_) (fun c_46 => ?_)
        · refine wp_inc4 dX10_longestIdle_52 (by decide) rfl ?_
          refine wp_goto (tgt := 13) dX10_longestIdle_55 (by decide) ?_
          have e : lidS C i (some j) = (some j) := by simp only [lidS, if_pos c_30, if_pos c_46]
          show WP G iX10_longestIdle d 0 0 (some (lrf B (lidL C n (i + 1) (lidS C i (some j))))) _ 13 _ _ _ 0 0
          rw [e]
          exact WP.fg (by simp [lcle, lrf]) (ih (i + 1) (some j) (by omega) (by intro j hj; cases hj <;> first | assumption | omega))
        · refine wp_ald5 dX10_longestIdle_49 ?_
          refine wp_ast1 dX10_longestIdle_51 (by decide) rfl ?_
          refine wp_inc4 dX10_longestIdle_52 (by decide) rfl ?_
          refine wp_goto (tgt := 13) dX10_longestIdle_55 (by decide) ?_
          have e : lidS C i (some j) = (some i) := by simp only [lidS, if_pos c_30, if_neg c_46]
          show WP G iX10_longestIdle d 0 0 (some (lrf B (lidL C n (i + 1) (lidS C i (some j))))) _ 13 _ _ _ 0 0
          rw [e]
          exact WP.fg (by simp [lcle, lrf]) (ih (i + 1) (some i) (by omega) (by intro j hj; cases hj <;> first | assumption | omega))
set_option maxHeartbeats 1000000 in
theorem ct_longestIdle {G : GG} {B : Nat} {C : Nat → Int32} {E0 : Nat → va_E} {L : List Nat} {sz d : Nat}  (hG : GOK G) (hL : rIn (wR G B) L)  (hdp : 1 ≤ d) : Ct G d yX10_longestIdle iX10_longestIdle [.ref B] (Wm G B C E0 L sz) 0 0 (some (lrf B (lidF C))) (Wm G B (C) E0 L sz) := by
  refine Ct.of 5 (by decide) rfl (by decide) (Nat.le_of_ble_eq_true rfl) ?_
  show WP _ _ _ _ _ _ _ 0 [some (.ref B), none, none, none, none, none] [] _ 0 0
  refine wp_null dX10_longestIdle_0 ?_
  refine wp_astN1 dX10_longestIdle_1 (by decide) rfl ?_
  refine wp_ald0 dX10_longestIdle_2 ?_
  refine g_World_locks dX10_longestIdle_3 fX10_32 hL ?_
  refine wp_ast2 dX10_longestIdle_6 (by decide) rfl ?_
  refine wp_ald2 dX10_longestIdle_7 ?_
  refine l_locks dX10_longestIdle_8 hG hL ?_
  refine wp_ist3 dX10_longestIdle_9 (by decide) rfl ?_
  refine wp_iconst (v := 0) dX10_longestIdle_10 (by decide) ?_
  refine wp_ist4 dX10_longestIdle_11 (by decide) rfl ?_
  exact lp_lid hG hL hdp 8 0 none rfl (fun _ h => by cases h)

abbrev cinP (C : Nat → Int32) : Prop := freP C ∨ ¬ lidF C = none
set_option maxHeartbeats 1000000 in
theorem ct_canInflate {G : GG} {B : Nat} {C : Nat → Int32} {E0 : Nat → va_E} {L : List Nat} {sz d : Nat}  (hG : GOK G) (hL : rIn (wR G B) L)  (hdp : 2 ≤ d) : Ct G d yX10_canInflate iX10_canInflate [.ref B] (Wm G B C E0 L sz) 0 0 (some (.int (bI (cinP C)))) (Wm G B (C) E0 L sz) := by
  refine Ct.of 0 (by decide) rfl (by decide) (Nat.le_of_ble_eq_true rfl) ?_
  show WP _ _ _ _ _ _ _ 0 [some (.ref B)] [] _ 0 0
  refine wp_ald0 dX10_canInflate_0 ?_
  refine vi_World0 dX10_canInflate_1 kX10_245 (ct_monitorIsFree (d := d - 1) hG hL (by omega)) hL rfl (by omega) (Nat.le_of_ble_eq_true rfl) (Nat.le_refl _) (Nat.le_refl _) ?_
  refine wp_ifB_ne (tgt := 14) dX10_canInflate_4 (by decide) (fun c_4 => ?_) (fun c_4 => ?_)
  · refine wp_iconst (v := 1) dX10_canInflate_14 (by decide) ?_
    refine wp_goto (tgt := 19) dX10_canInflate_15 (by decide) ?_
    exact wp_zret dX10_canInflate_19 rfl rfl (Nat.le_refl _) (Nat.le_refl _) (by first | rfl | (simp [bI, cinP, c_4]; done) | (simp_all [bI, isO, hasT, cinP]; done)) (by first | rfl | (simp [bI, cinP, c_4]; done) | (simp_all [bI, isO, hasT, cinP]; done))
  · refine wp_ald0 dX10_canInflate_7 ?_
    refine vi_World0 dX10_canInflate_8 kX10_248 (ct_longestIdle (d := d - 1) hG hL (by omega)) hL rfl (by omega) (Nat.le_of_ble_eq_true rfl) (Nat.le_refl _) (Nat.le_refl _) ?_
    obtain hlid | ⟨j, hlid⟩ : lidF C = none ∨ ∃ j, lidF C = some j := by cases lidF C <;> simp
    · rw [show lrf B (lidF C) = .null by rw [hlid]; rfl]
      refine wp_ifnullN (tgt := 18) dX10_canInflate_11 (by decide) ?_
      refine wp_iconst (v := 0) dX10_canInflate_18 (by decide) ?_
      exact wp_zret dX10_canInflate_19 rfl rfl (Nat.le_refl _) (Nat.le_refl _) (by first | rfl | (simp [bI, cinP, c_4, hlid]; done) | (simp_all [bI, isO, hasT, cinP]; done)) (by first | rfl | (simp [bI, cinP, c_4, hlid]; done) | (simp_all [bI, isO, hasT, cinP]; done))
    · have hj8 : j < 8 := lidF_lt hlid
      rw [show lrf B (lidF C) = .ref (aLk B j) by rw [hlid]; rfl]
      refine wp_ifnull dX10_canInflate_11 ?_
      refine wp_iconst (v := 1) dX10_canInflate_14 (by decide) ?_
      refine wp_goto (tgt := 19) dX10_canInflate_15 (by decide) ?_
      exact wp_zret dX10_canInflate_19 rfl rfl (Nat.le_refl _) (Nat.le_refl _) (by first | rfl | (simp [bI, cinP, c_4, hlid]; done) | (simp_all [bI, isO, hasT, cinP]; done)) (by first | rfl | (simp [bI, cinP, c_4, hlid]; done) | (simp_all [bI, isO, hasT, cinP]; done))

def mkrF (C : Nat → Int32) : Nat → Int32 := if freP C then C else (match lidF C with
  | none => C
  | some j => deflF C j)
def inflF (C : Nat → Int32) (o : Nat) : Nat → Int32 := upd (upd (upd (mkrF C) (46 + o) 4) (102 + o) (upd (mkrF C) (46 + o) 4 9)) (231 + 2) (upd (upd (mkrF C) (46 + o) 4) (102 + o) (upd (mkrF C) (46 + o) 4 9) (231 + 2) + 1)
theorem SameS.defl {C : Nat → Int32} {o : Nat} (ho : o < 8) : SameS C (deflF C o) := (SameS.rf.up (by omega)).up (by omega)
theorem SameS.infl {C : Nat → Int32} {o : Nat} (ho : o < 8) : SameS C (inflF C o) := by
  refine SameS.up (SameS.up (SameS.up ?_ (by omega)) (by omega)) (by omega)
  unfold mkrF
  split
  · exact SameS.rf
  · split
    · exact SameS.rf
    · exact SameS.defl (lidF_lt (by assumption))
set_option maxHeartbeats 1000000 in
theorem ct_inflate {G : GG} {B : Nat} {C : Nat → Int32} {E0 : Nat → va_E} {L : List Nat} {sz d : Nat} {o : Nat} (hG : GOK G) (hL : rIn (wR G B) L) (ho : o < 8) (hdp : 2 ≤ d) : Ct G d yX10_inflate iX10_inflate [.ref B, .ref (aLk B o)] (Wm G B C E0 L sz) 0 0 none (Wm G B (inflF C o) E0 L sz) := by
  refine Ct.of 1 (by decide) rfl (by decide) (Nat.le_of_ble_eq_true rfl) ?_
  show WP _ _ _ _ _ _ _ 0 [some (.ref B), some (.ref (aLk B o)), none] [] _ 0 0
  refine wp_ald0 dX10_inflate_0 ?_
  refine vi_World0 dX10_inflate_1 kX10_245 (ct_monitorIsFree (d := d - 1) hG hL (by omega)) hL rfl (by omega) (Nat.le_of_ble_eq_true rfl) (Nat.le_refl _) (Nat.le_refl _) ?_
  refine wp_ifB_ne (tgt := 21) dX10_inflate_4 (by decide) (fun c_4 => ?_) (fun c_4 => ?_)
  · refine wp_ald1 dX10_inflate_21 ?_
    refine wp_iconst (v := 4) dX10_inflate_22 (by decide) ?_
    refine p_Lock_state dX10_inflate_23 pX10_152 hL (by assumption) ?_
    refine wp_ald1 dX10_inflate_26 ?_
    refine wp_ald0 dX10_inflate_27 ?_
    refine g_World_now dX10_inflate_28 fX10_54 hL ?_
    refine p_Lock_idleSince dX10_inflate_31 pX10_255 hL (by assumption) ?_
    refine wp_ald0 dX10_inflate_34 ?_
    refine g_World_counts dX10_inflate_35 fX10_20 hL ?_
    refine wp_iconst (v := 2) dX10_inflate_38 (by decide) ?_
    refine wp_dup2 dX10_inflate_39 rfl rfl ?_
    refine r_counts (i' := 2) dX10_inflate_40 hG hL (by decide) (by decide) ?_
    refine wp_iconst (v := 1) dX10_inflate_41 (by decide) ?_
    refine wp_iadd dX10_inflate_42 ?_
    refine s_counts (i' := 2) dX10_inflate_43 hG hL (by decide) (by decide) ?_
    exact wp_vret dX10_inflate_44 rfl (Nat.le_refl _) (Nat.le_refl _) (by first | with_reducible rfl | (simp only [inflF, mkrF, if_pos c_4]; done) | (simp only [inflF, mkrF, if_pos c_4]; rfl) | rfl | (simp [inflF, mkrF, if_pos c_4]; done)) (by first | with_reducible rfl | (simp only [inflF, mkrF, if_pos c_4]; done) | (simp only [inflF, mkrF, if_pos c_4]; rfl) | rfl | (simp [inflF, mkrF, if_pos c_4]; done))
  · refine wp_ald0 dX10_inflate_7 ?_
    refine vi_World0 dX10_inflate_8 kX10_248 (ct_longestIdle (d := d - 1) hG hL (by omega)) hL rfl (by omega) (Nat.le_of_ble_eq_true rfl) (Nat.le_refl _) (Nat.le_refl _) ?_
    obtain hlid | ⟨j, hlid⟩ : lidF C = none ∨ ∃ j, lidF C = some j := by cases lidF C <;> simp
    · rw [show lrf B (lidF C) = .null by rw [hlid]; rfl]
      refine wp_astN2 dX10_inflate_11 (by decide) rfl ?_
      refine wp_aldN2 dX10_inflate_12 ?_
      refine wp_ifnullN (tgt := 21) dX10_inflate_13 (by decide) ?_
      refine wp_ald1 dX10_inflate_21 ?_
      refine wp_iconst (v := 4) dX10_inflate_22 (by decide) ?_
      refine p_Lock_state dX10_inflate_23 pX10_152 hL (by assumption) ?_
      refine wp_ald1 dX10_inflate_26 ?_
      refine wp_ald0 dX10_inflate_27 ?_
      refine g_World_now dX10_inflate_28 fX10_54 hL ?_
      refine p_Lock_idleSince dX10_inflate_31 pX10_255 hL (by assumption) ?_
      refine wp_ald0 dX10_inflate_34 ?_
      refine g_World_counts dX10_inflate_35 fX10_20 hL ?_
      refine wp_iconst (v := 2) dX10_inflate_38 (by decide) ?_
      refine wp_dup2 dX10_inflate_39 rfl rfl ?_
      refine r_counts (i' := 2) dX10_inflate_40 hG hL (by decide) (by decide) ?_
      refine wp_iconst (v := 1) dX10_inflate_41 (by decide) ?_
      refine wp_iadd dX10_inflate_42 ?_
      refine s_counts (i' := 2) dX10_inflate_43 hG hL (by decide) (by decide) ?_
      exact wp_vret dX10_inflate_44 rfl (Nat.le_refl _) (Nat.le_refl _) (by first | with_reducible rfl | (simp only [inflF, mkrF, if_neg c_4, hlid]; done) | (simp only [inflF, mkrF, if_neg c_4, hlid]; rfl) | rfl | (simp [inflF, mkrF, if_neg c_4, hlid]; done)) (by first | with_reducible rfl | (simp only [inflF, mkrF, if_neg c_4, hlid]; done) | (simp only [inflF, mkrF, if_neg c_4, hlid]; rfl) | rfl | (simp [inflF, mkrF, if_neg c_4, hlid]; done))
    · have hj8 : j < 8 := lidF_lt hlid
      rw [show lrf B (lidF C) = .ref (aLk B j) by rw [hlid]; rfl]
      refine wp_ast2 dX10_inflate_11 (by decide) rfl ?_
      refine wp_ald2 dX10_inflate_12 ?_
      refine wp_ifnull dX10_inflate_13 ?_
      refine wp_ald0 dX10_inflate_16 ?_
      refine wp_ald2 dX10_inflate_17 ?_
      refine vv_World1 dX10_inflate_18 kX10_258 (ct_deflate (d := d - 1) hG hL (by assumption)) hL rfl (by omega) (Nat.le_of_ble_eq_true rfl) (Nat.le_refl _) (Nat.le_refl _) ?_
      refine wp_ald1 dX10_inflate_21 ?_
      refine wp_iconst (v := 4) dX10_inflate_22 (by decide) ?_
      refine p_Lock_state dX10_inflate_23 pX10_152 hL (by assumption) ?_
      refine wp_ald1 dX10_inflate_26 ?_
      refine wp_ald0 dX10_inflate_27 ?_
      refine g_World_now dX10_inflate_28 fX10_54 hL ?_
      refine p_Lock_idleSince dX10_inflate_31 pX10_255 hL (by assumption) ?_
      refine wp_ald0 dX10_inflate_34 ?_
      refine g_World_counts dX10_inflate_35 fX10_20 hL ?_
      refine wp_iconst (v := 2) dX10_inflate_38 (by decide) ?_
      refine wp_dup2 dX10_inflate_39 rfl rfl ?_
      refine r_counts (i' := 2) dX10_inflate_40 hG hL (by decide) (by decide) ?_
      refine wp_iconst (v := 1) dX10_inflate_41 (by decide) ?_
      refine wp_iadd dX10_inflate_42 ?_
      refine s_counts (i' := 2) dX10_inflate_43 hG hL (by decide) (by decide) ?_
      exact wp_vret dX10_inflate_44 rfl (Nat.le_refl _) (Nat.le_refl _) (by first | with_reducible rfl | (simp only [inflF, mkrF, if_neg c_4, hlid]; done) | (simp only [inflF, mkrF, if_neg c_4, hlid]; rfl) | rfl | (simp [inflF, mkrF, if_neg c_4, hlid]; done)) (by first | with_reducible rfl | (simp only [inflF, mkrF, if_neg c_4, hlid]; done) | (simp only [inflF, mkrF, if_neg c_4, hlid]; rfl) | rfl | (simp [inflF, mkrF, if_neg c_4, hlid]; done))

def g2fF (C : Nat → Int32) (o : Nat) : Nat → Int32 := if hasT C (atF C (110 + o) (126 + 6 * o) 0) then (recF (leaveF (giveF (dropF C (110 + o) (126 + 6 * o) (atF C (110 + o) (126 + 6 * o) 0)) o (atF C (110 + o) (126 + 6 * o) 0) (dropF C (110 + o) (126 + 6 * o) (atF C (110 + o) (126 + 6 * o) 0) (40 + nt (atF C (110 + o) (126 + 6 * o) 0)))) (nt (atF C (110 + o) (126 + 6 * o) 0)) 0) o).2 else C
set_option maxHeartbeats 1000000 in
theorem ct_giveToFirst {G : GG} {B : Nat} {C : Nat → Int32} {E0 : Nat → va_E} {L : List Nat} {sz d : Nat} {o : Nat} (hG : GOK G) (hL : rIn (wR G B) L) (ho : o < 8) (hs : OKs C (110 + o)) (hdp : 1 ≤ d) : Ct G d yX10_giveToFirst iX10_giveToFirst [.ref B, .ref (aLk B o)] (Wm G B C E0 L sz) 0 0 none (Wm G B (g2fF C o) E0 L sz) := by
  refine Ct.of 2 (by decide) rfl (by decide) (Nat.le_of_ble_eq_true rfl) ?_
  show WP _ _ _ _ _ _ _ 0 [some (.ref B), some (.ref (aLk B o)), none, none] [] _ 0 0
  refine wp_ald1 dX10_giveToFirst_0 ?_
  refine g_Lock_queue dX10_giveToFirst_1 fX10_194 hL (by assumption) ?_
  refine wp_iconst (v := 0) dX10_giveToFirst_4 (by decide) ?_
  refine vi_Line1 (j := 14 + 5 * o) dX10_giveToFirst_5 kX10_273 (ct_at (d := d - 1) hG hL (LNq ho) hs) hL (LNq (by assumption)) rfl (by omega) (Nat.le_of_ble_eq_true rfl) (Nat.le_refl _) (Nat.le_refl _) ?_
  refine wp_ist2 dX10_giveToFirst_8 (by decide) rfl ?_
  refine wp_ald0 dX10_giveToFirst_9 ?_
  refine wp_ild2 dX10_giveToFirst_10 ?_
  refine vi_World1 dX10_giveToFirst_11 kX10_128 (ct_hasThread (d := d - 1) hG hL) hL rfl (by omega) (Nat.le_of_ble_eq_true rfl) (Nat.le_refl _) (Nat.le_refl _) ?_
  refine wp_ifB_ne (tgt := 18) dX10_giveToFirst_14 (by decide) (fun c_14 => ?_) (fun c_14 => ?_)
  · obtain ⟨hx, hxb⟩ := nat_of6 c_14.1 c_14.2.2
    refine wp_ald1 dX10_giveToFirst_18 ?_
    refine g_Lock_queue dX10_giveToFirst_19 fX10_194 hL (by assumption) ?_
    refine wp_ild2 dX10_giveToFirst_22 ?_
    refine vv_Line1 (j := 14 + 5 * o) dX10_giveToFirst_23 kX10_276 (ct_drop (d := d - 1) hG hL (LNq ho) (by intros; omega) hs) hL (LNq (by assumption)) rfl (by omega) (Nat.le_of_ble_eq_true rfl) (Nat.le_refl _) (Nat.le_refl _) ?_
    refine wp_ald0 dX10_giveToFirst_26 ?_
    refine g_World_strands dX10_giveToFirst_27 fX10_26 hL ?_
    refine wp_ild2 dX10_giveToFirst_30 ?_
    refine r_strands (i' := nt (atF C (110 + o) (126 + 6 * o) 0)) dX10_giveToFirst_31 hG hL hx (by first | assumption | omega) ?_
    refine wp_ast3 dX10_giveToFirst_32 (by decide) rfl ?_
    refine wp_ald1 dX10_giveToFirst_33 ?_
    refine wp_ild2 dX10_giveToFirst_34 ?_
    refine wp_ald3 dX10_giveToFirst_35 ?_
    refine g_Strand_dueEntries dX10_giveToFirst_36 fX10_219 hL (by assumption) ?_
    refine vv_Lock2 dX10_giveToFirst_39 kX10_190 (ct_give (d := d - 1) hG hL ho) hL (by assumption) rfl (by omega) (Nat.le_of_ble_eq_true rfl) (Nat.le_refl _) (Nat.le_refl _) ?_
    refine wp_ald3 dX10_giveToFirst_42 ?_
    refine wp_iconst (v := 0) dX10_giveToFirst_43 (by decide) ?_
    refine vv_Strand1 dX10_giveToFirst_44 kX10_279 (ct_leave (d := d - 1) hG hL (by assumption)) hL (by assumption) rfl (by omega) (Nat.le_of_ble_eq_true rfl) (Nat.le_refl _) (Nat.le_refl _) ?_
    refine wp_ald0 dX10_giveToFirst_47 ?_
    refine wp_ald1 dX10_giveToFirst_48 ?_
    refine vi_World1 dX10_giveToFirst_49 kX10_176 (ct_recover (d := d - 1) hG hL ho) hL rfl (by omega) (Nat.le_of_ble_eq_true rfl) (Nat.le_refl _) (Nat.le_refl _) ?_
    refine wp_pop dX10_giveToFirst_52 rfl ?_
    exact wp_vret dX10_giveToFirst_53 rfl (Nat.le_refl _) (Nat.le_refl _) (by first | with_reducible rfl | (simp only [g2fF, if_pos c_14]; done) | (simp only [g2fF, if_pos c_14]; rfl) | rfl) (by first | with_reducible rfl | (simp only [g2fF, if_pos c_14]; done) | (simp only [g2fF, if_pos c_14]; rfl) | rfl)
  · exact wp_vret dX10_giveToFirst_17 rfl (Nat.le_refl _) (Nat.le_refl _) (by first | with_reducible rfl | (simp only [g2fF, if_neg c_14]; done) | (simp only [g2fF, if_neg c_14]; rfl) | rfl) (by first | with_reducible rfl | (simp only [g2fF, if_neg c_14]; done) | (simp only [g2fF, if_neg c_14]; rfl) | rfl)

def relF (C : Nat → Int32) (o : Nat) : Nat → Int32 := if letGoF C o (46 + o) = 3 then upd (upd (letGoF C o) (46 + o) 0) (231 + 0) (upd (letGoF C o) (46 + o) 0 (231 + 0) + 1) else if letGoF C o (46 + o) = 4 then (if valF (upd (letGoF C o) (102 + o) (letGoF C o 9)) 1 = 1 then (if upd (letGoF C o) (102 + o) (letGoF C o 9) (110 + o) = 0 then upd (letGoF C o) (102 + o) (letGoF C o 9) else g2fF (upd (upd (letGoF C o) (102 + o) (letGoF C o 9)) (231 + 6) (upd (letGoF C o) (102 + o) (letGoF C o 9) (231 + 6) + 1)) o) else upd (letGoF C o) (102 + o) (letGoF C o 9)) else letGoF C o
set_option maxHeartbeats 1000000 in
theorem ct_release {G : GG} {B : Nat} {C : Nat → Int32} {E0 : Nat → va_E} {L : List Nat} {sz d : Nat} {o : Nat} (hG : GOK G) (hL : rIn (wR G B) L) (ho : o < 8) (hs : OKs C (110 + o)) (hdp : 2 ≤ d) : Ct G d yX10_release iX10_release [.ref B, .ref (aLk B o)] (Wm G B C E0 L sz) 0 0 none (Wm G B (relF C o) E0 L sz) := by
  refine Ct.of 0 (by decide) rfl (by decide) (Nat.le_of_ble_eq_true rfl) ?_
  show WP _ _ _ _ _ _ _ 0 [some (.ref B), some (.ref (aLk B o))] [] _ 0 0
  refine wp_ald1 dX10_release_0 ?_
  refine vv_Lock0 dX10_release_1 kX10_267 (ct_letGo (d := d - 1) hG hL ho) hL (by assumption) rfl (by omega) (Nat.le_of_ble_eq_true rfl) (Nat.le_refl _) (Nat.le_refl _) ?_
  refine wp_ald1 dX10_release_4 ?_
  refine g_Lock_state dX10_release_5 fX10_152 hL (by assumption) ?_
  refine wp_iconst (v := 3) dX10_release_8 (by decide) ?_
  refine wp_icmp_ne (tgt := 30) dX10_release_9 (by decide) (fun c_9 => ?_) (fun c_9 => ?_)
  · refine wp_ald1 dX10_release_30 ?_
    refine g_Lock_state dX10_release_31 fX10_152 hL (by assumption) ?_
    refine wp_iconst (v := 4) dX10_release_34 (by decide) ?_
    refine wp_icmp_ne (tgt := 84) dX10_release_35 (by decide) (fun c_35 => ?_) (fun c_35 => ?_)
    · exact wp_vret dX10_release_84 rfl (Nat.le_refl _) (Nat.le_refl _) (by first | with_reducible rfl | (simp only [relF, if_neg c_9, if_neg c_35]; done) | (simp only [relF, if_neg c_9, if_neg c_35]; rfl) | rfl) (by first | with_reducible rfl | (simp only [relF, if_neg c_9, if_neg c_35]; done) | (simp only [relF, if_neg c_9, if_neg c_35]; rfl) | rfl)
    · refine wp_ald1 dX10_release_38 ?_
      refine wp_ald0 dX10_release_39 ?_
      refine g_World_now dX10_release_40 fX10_54 hL ?_
      refine p_Lock_idleSince dX10_release_43 pX10_255 hL (by assumption) ?_
      refine wp_ald0 dX10_release_46 ?_
      refine g_World_settings dX10_release_47 fX10_12 hL ?_
      refine wp_iconst (v := 1) dX10_release_50 (by decide) ?_
      refine vi_Settings1 dX10_release_51 kX10_69 (ct_valueOf (d := d - 1) hG hL) hL rfl (by omega) (Nat.le_of_ble_eq_true rfl) (Nat.le_refl _) (Nat.le_refl _) ?_
      refine wp_iconst (v := 1) dX10_release_54 (by decide) ?_
      refine wp_icmp_ne (tgt := 84) dX10_release_55 (by decide) (fun c_55 => ?_) (fun c_55 => ?_)
      · exact wp_vret dX10_release_84 rfl (Nat.le_refl _) (Nat.le_refl _) (by first | with_reducible rfl | (simp only [relF, if_neg c_9, if_pos c_35, if_neg c_55]; done) | (simp only [relF, if_neg c_9, if_pos c_35, if_neg c_55]; rfl) | rfl) (by first | with_reducible rfl | (simp only [relF, if_neg c_9, if_pos c_35, if_neg c_55]; done) | (simp only [relF, if_neg c_9, if_pos c_35, if_neg c_55]; rfl) | rfl)
      · refine wp_ald1 dX10_release_58 ?_
        refine g_Lock_queue dX10_release_59 fX10_194 hL (by assumption) ?_
        refine vi_Line0 (j := 14 + 5 * o) dX10_release_62 kX10_198 (ct_isEmpty (d := d - 1) hG hL (LNq ho)) hL (LNq (by assumption)) rfl (by omega) (Nat.le_of_ble_eq_true rfl) (Nat.le_refl _) (Nat.le_refl _) ?_
        refine wp_ifB_ne (tgt := 84) dX10_release_65 (by decide) (fun c_65 => ?_) (fun c_65 => ?_)
        · exact wp_vret dX10_release_84 rfl (Nat.le_refl _) (Nat.le_refl _) (by first | with_reducible rfl | (simp only [relF, if_neg c_9, if_pos c_35, if_pos c_55, if_pos c_65]; done) | (simp only [relF, if_neg c_9, if_pos c_35, if_pos c_55, if_pos c_65]; rfl) | rfl) (by first | with_reducible rfl | (simp only [relF, if_neg c_9, if_pos c_35, if_pos c_55, if_pos c_65]; done) | (simp only [relF, if_neg c_9, if_pos c_35, if_pos c_55, if_pos c_65]; rfl) | rfl)
        · refine wp_ald0 dX10_release_68 ?_
          refine g_World_counts dX10_release_69 fX10_20 hL ?_
          refine wp_bipush (v := 6) dX10_release_72 (by decide) ?_
          refine wp_dup2 dX10_release_74 rfl rfl ?_
          refine r_counts (i' := 6) dX10_release_75 hG hL (by decide) (by decide) ?_
          refine wp_iconst (v := 1) dX10_release_76 (by decide) ?_
          refine wp_iadd dX10_release_77 ?_
          refine s_counts (i' := 6) dX10_release_78 hG hL (by decide) (by decide) ?_
          refine wp_ald0 dX10_release_79 ?_
          refine wp_ald1 dX10_release_80 ?_
          refine vv_World1 dX10_release_81 kX10_270 (ct_giveToFirst (d := d - 1) hG hL ho (by simp only [letGoF]; repeat (first | exact hs | apply OKs.upd (by omega))) (by omega)) hL rfl (by omega) (Nat.le_of_ble_eq_true rfl) (Nat.le_refl _) (Nat.le_refl _) ?_
          exact wp_vret dX10_release_84 rfl (Nat.le_refl _) (Nat.le_refl _) (by first | with_reducible rfl | (simp only [relF, if_neg c_9, if_pos c_35, if_pos c_55, if_neg c_65]; done) | (simp only [relF, if_neg c_9, if_pos c_35, if_pos c_55, if_neg c_65]; rfl) | rfl) (by first | with_reducible rfl | (simp only [relF, if_neg c_9, if_pos c_35, if_pos c_55, if_neg c_65]; done) | (simp only [relF, if_neg c_9, if_pos c_35, if_pos c_55, if_neg c_65]; rfl) | rfl)
  · refine wp_ald1 dX10_release_12 ?_
    refine wp_iconst (v := 0) dX10_release_13 (by decide) ?_
    refine p_Lock_state dX10_release_14 pX10_152 hL (by assumption) ?_
    refine wp_ald0 dX10_release_17 ?_
    refine g_World_counts dX10_release_18 fX10_20 hL ?_
    refine wp_iconst (v := 0) dX10_release_21 (by decide) ?_
    refine wp_dup2 dX10_release_22 rfl rfl ?_
    refine r_counts (i' := 0) dX10_release_23 hG hL (by decide) (by decide) ?_
    refine wp_iconst (v := 1) dX10_release_24 (by decide) ?_
    refine wp_iadd dX10_release_25 ?_
    refine s_counts (i' := 0) dX10_release_26 hG hL (by decide) (by decide) ?_
    refine wp_goto (tgt := 84) dX10_release_27 (by decide) ?_
    exact wp_vret dX10_release_84 rfl (Nat.le_refl _) (Nat.le_refl _) (by first | with_reducible rfl | (simp only [relF, if_pos c_9]; done) | (simp only [relF, if_pos c_9]; rfl) | rfl) (by first | with_reducible rfl | (simp only [relF, if_pos c_9]; done) | (simp only [relF, if_pos c_9]; rfl) | rfl)

def exitF (C : Nat → Int32) (x y : Int32) : Int32 × (Nat → Int32) := if oErrF C x y = 0 then (if C (62 + nt y) ≤ 1 then (0, relF C (nt y)) else (upd C (62 + nt y) (C (62 + nt y) - 1) (62 + nt y), upd C (62 + nt y) (C (62 + nt y) - 1))) else (oErrF C x y, C)
set_option maxHeartbeats 1000000 in
theorem ct_exitObject {G : GG} {B : Nat} {C : Nat → Int32} {E0 : Nat → va_E} {L : List Nat} {sz d : Nat} {x y : Int32} (hG : GOK G) (hL : rIn (wR G B) L) (hW : WI C) (hdp : 3 ≤ d) : Ct G d yX10_exitObject iX10_exitObject [.ref B, .int x, .int y] (Wm G B C E0 L sz) 0 0 (some (.int (exitF C x y).1)) (Wm G B ((exitF C x y).2) E0 L sz) := by
  refine Ct.of 2 (by decide) rfl (by decide) (Nat.le_of_ble_eq_true rfl) ?_
  show WP _ _ _ _ _ _ _ 0 [some (.ref B), some (.int x), some (.int y), none, none] [] _ 0 0
  refine wp_ald0 dX10_exitObject_0 ?_
  refine wp_ild1 dX10_exitObject_1 ?_
  refine wp_ild2 dX10_exitObject_2 ?_
  refine vi_World2 dX10_exitObject_3 kX10_261 (ct_ownerError (d := d - 1) hG hL (by omega)) hL rfl (by omega) (Nat.le_of_ble_eq_true rfl) (Nat.le_refl _) (Nat.le_refl _) ?_
  refine wp_ist3 dX10_exitObject_6 (by decide) rfl ?_
  refine wp_ild3 dX10_exitObject_7 ?_
  refine wp_if_eq (tgt := 13) dX10_exitObject_8 (by decide) (fun c_8 => ?_) (fun c_8 => ?_)
  · obtain ⟨⟨hx, hxb⟩, hy, hyb⟩ := oErrN c_8
    refine wp_ald0 dX10_exitObject_13 ?_
    refine g_World_locks dX10_exitObject_14 fX10_32 hL ?_
    refine wp_ild2 dX10_exitObject_17 ?_
    refine r_locks (i' := nt y) dX10_exitObject_18 hG hL hy (by first | assumption | omega) ?_
    refine wp_ast4 dX10_exitObject_19 (by decide) rfl ?_
    refine wp_ald4 dX10_exitObject_21 ?_
    refine g_Lock_entries dX10_exitObject_23 fX10_166 hL (by assumption) ?_
    refine wp_iconst (v := 1) dX10_exitObject_26 (by decide) ?_
    refine wp_icmp_le (tgt := 47) dX10_exitObject_27 (by decide) (fun c_27 => ?_) (fun c_27 => ?_)
    · refine wp_ald0 dX10_exitObject_47 ?_
      refine wp_ald4 dX10_exitObject_48 ?_
      refine vv_World1 dX10_exitObject_50 kX10_264 (ct_release (d := d - 1) hG hL hyb (hW.2 _ hyb).1 (by omega)) hL rfl (by omega) (Nat.le_of_ble_eq_true rfl) (Nat.le_refl _) (Nat.le_refl _) ?_
      refine wp_iconst (v := 0) dX10_exitObject_53 (by decide) ?_
      exact wp_iret dX10_exitObject_54 rfl (Nat.le_refl _) (Nat.le_refl _) (by first | with_reducible rfl | (simp only [exitF, if_pos c_8, if_pos c_27]; done) | (simp only [exitF, if_pos c_8, if_pos c_27]; rfl) | rfl) (by first | with_reducible rfl | (simp only [exitF, if_pos c_8, if_pos c_27]; done) | (simp only [exitF, if_pos c_8, if_pos c_27]; rfl) | rfl)
    · refine wp_ald4 dX10_exitObject_30 ?_
      refine wp_dup dX10_exitObject_32 rfl ?_
      refine g_Lock_entries dX10_exitObject_33 fX10_166 hL (by assumption) ?_
      refine wp_iconst (v := 1) dX10_exitObject_36 (by decide) ?_
      refine wp_isub dX10_exitObject_37 ?_
      refine p_Lock_entries dX10_exitObject_38 pX10_166 hL (by assumption) ?_
      refine wp_ald4 dX10_exitObject_41 ?_
      refine g_Lock_entries dX10_exitObject_43 fX10_166 hL (by assumption) ?_
      exact wp_iret dX10_exitObject_46 rfl (Nat.le_refl _) (Nat.le_refl _) (by first | with_reducible rfl | (simp only [exitF, if_pos c_8, if_neg c_27]; done) | (simp only [exitF, if_pos c_8, if_neg c_27]; rfl) | rfl) (by first | with_reducible rfl | (simp only [exitF, if_pos c_8, if_neg c_27]; done) | (simp only [exitF, if_pos c_8, if_neg c_27]; rfl) | rfl)
  · refine wp_ild3 dX10_exitObject_11 ?_
    exact wp_iret dX10_exitObject_12 rfl (Nat.le_refl _) (Nat.le_refl _) (by first | with_reducible rfl | (simp only [exitF, if_neg c_8]; done) | (simp only [exitF, if_neg c_8]; rfl) | rfl) (by first | with_reducible rfl | (simp only [exitF, if_neg c_8]; done) | (simp only [exitF, if_neg c_8]; rfl) | rfl)

