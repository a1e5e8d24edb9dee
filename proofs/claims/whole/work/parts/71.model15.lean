/-! what an item holds -/
abbrev iv0 (tx : Nat → Int32) (Ln j a : Nat) : Int32 × Nat := agS tx Ln a (soM (nI j) (nI 0))
abbrev iv1 (tx : Nat → Int32) (Ln j a : Nat) : Int32 × Nat := agS tx Ln (iv0 tx Ln j a).2 (soM (nI j) (nI 1))
abbrev iv2 (tx : Nat → Int32) (Ln j a : Nat) : Int32 × Nat := agS tx Ln (iv1 tx Ln j a).2 (soM (nI j) (nI 2))
theorem agL3 {tx : Nat → Int32} {Ln j a b : Nat} (h : agL tx Ln j 3 0 a = some b) : (¬ (iv0 tx Ln j a).1 < 0 ∧ ¬ (iv1 tx Ln j a).1 < 0 ∧ ¬ (iv2 tx Ln j a).1 < 0) ∧ b = (iv2 tx Ln j a).2 := by
  simp only [agL] at h
  split at h
  · cases h
  · split at h
    · cases h
    · split at h
      · cases h
      · cases h
        exact ⟨⟨by assumption, by assumption, by assumption⟩, rfl⟩
theorem agF3 {tx : Nat → Int32} {Ln ic j a : Nat} {F : Nat → Int32} (h : ¬ (iv0 tx Ln j a).1 < 0 ∧ ¬ (iv1 tx Ln j a).1 < 0 ∧ ¬ (iv2 tx Ln j a).1 < 0) : agF tx Ln ic j 3 0 a F = upd (upd (upd (upd (upd (upd F 9004 (nI (iv0 tx Ln j a).2)) (7000 + (((4 * ic) + 1) + 0)) (iv0 tx Ln j a).1) 9004 (nI (iv1 tx Ln j a).2)) (7000 + (((4 * ic) + 1) + 1)) (iv1 tx Ln j a).1) 9004 (nI (iv2 tx Ln j a).2)) (7000 + (((4 * ic) + 1) + 2)) (iv2 tx Ln j a).1 := by
  simp only [agF]
  rw [if_neg h.1, if_neg h.2.1, if_neg h.2.2]
theorem agF_sm {tx : Nat → Int32} {Ln ic j : Nat} (hic : ic < 100) : ∀ (n k a : Nat) (F : Nat → Int32), k + n = 3 → SmT F (agF tx Ln ic j n k a F)
  | 0, _, _, _, _ => SmT.rf
  | n + 1, k, a, F, hk => by
    unfold agF
    split
    · exact SmT.rf.up (by omega)
    · exact ((SmT.rf.up (by omega)).up (by omega)).tr (agF_sm hic n (k + 1) _ _ (by omega))
theorem agF_it {tx : Nat → Int32} {Ln ic j q : Nat} (hq : (q < 7000 + 4 * ic ∨ 7400 ≤ q) ∧ q ≠ 9004) (hic : ic < 100) : ∀ (n k a : Nat) (F : Nat → Int32), k + n = 3 → agF tx Ln ic j n k a F q = F q
  | 0, _, _, _, _ => rfl
  | n + 1, k, a, F, hk => by
    unfold agF
    split
    · exact upd_ne (by omega)
    · rw [agF_it hq hic n (k + 1) _ _ (by omega), upd_ne (by omega), upd_ne (by omega)]
theorem edF_sm {F F1 : Nat → Int32} {q : Prop} [Decidable q] (h : SmT F F1) : SmT F (edF F1 q) := (h.up (by omega)).up (by omega)
theorem rdI_sm {tx : Nat → Int32} {Ln a ic : Nat} {F : Nat → Int32} (hic : ic < 100) : SmT F (rdI tx Ln a ic F).2 := by
  unfold rdI
  cases opL tx Ln a 10 0 with
  | none => exact rdF_sm 10 0 F
  | some j =>
    have h1 : SmT F (agF tx Ln ic j 3 0 (a + (opw (nI j)).length) (upd (rdF tx Ln a 10 0 F) (7000 + (4 * ic)) (nI j))) := ((rdF_sm 10 0 F).up (by omega)).tr (agF_sm hic 3 0 _ _ rfl)
    show SmT F (r2 tx Ln ic j 3 0 (a + (opw (nI j)).length) (upd (rdF tx Ln a 10 0 F) (7000 + (4 * ic)) (nI j))).2
    unfold r2
    cases agL tx Ln j 3 0 (a + (opw (nI j)).length) with
    | none => exact h1
    | some b => exact edF_sm h1
theorem rdI_old {tx : Nat → Int32} {Ln a ic q : Nat} {F : Nat → Int32} (hic : ic < 100) (hq : 7000 ≤ q ∧ q < 7000 + 4 * ic) : (rdI tx Ln a ic F).2 q = F q := by
  unfold rdI
  cases opL tx Ln a 10 0 with
  | none => exact rdF_it (by omega) 10 0 F
  | some j =>
    have h1 : agF tx Ln ic j 3 0 (a + (opw (nI j)).length) (upd (rdF tx Ln a 10 0 F) (7000 + (4 * ic)) (nI j)) q = F q := by rw [agF_it (by omega) hic 3 0 _ _ rfl, upd_ne (by omega), rdF_it (by omega) 10 0 F]
    show (r2 tx Ln ic j 3 0 (a + (opw (nI j)).length) (upd (rdF tx Ln a 10 0 F) (7000 + (4 * ic)) (nI j))).2 q = F q
    unfold r2
    cases agL tx Ln j 3 0 (a + (opw (nI j)).length) with
    | none => exact h1
    | some b =>
      show edF _ _ q = _
      unfold edF
      rw [upd_ne (by omega), upd_ne (by omega)]
      exact h1
theorem rdI_no {tx : Nat → Int32} {Ln a ic : Nat} {F : Nat → Int32} (hic : ic < 100) (h : F 9003 = nI ic) (hn : itA tx Ln a = none) : (rdI tx Ln a ic F).2 9003 = nI ic := by
  unfold itA at hn
  unfold rdI
  cases ho : opL tx Ln a 10 0 with
  | none => exact (rdF_it (by omega) 10 0 F).trans h
  | some j =>
    have h1 : agF tx Ln ic j 3 0 (a + (opw (nI j)).length) (upd (rdF tx Ln a 10 0 F) (7000 + (4 * ic)) (nI j)) 9003 = nI ic := by rw [agF_it (by omega) hic 3 0 _ _ rfl, upd_ne (by omega), rdF_it (by omega) 10 0 F, h]
    show (r2 tx Ln ic j 3 0 (a + (opw (nI j)).length) (upd (rdF tx Ln a 10 0 F) (7000 + (4 * ic)) (nI j))).2 9003 = nI ic
    simp only [ho] at hn
    unfold r2
    cases hb : agL tx Ln j 3 0 (a + (opw (nI j)).length) with
    | none => exact h1
    | some b =>
      simp only [hb] at hn
      by_cases c : edT tx Ln b
      · rw [if_pos c] at hn; cases hn
      · show edF _ _ 9003 = _
        unfold edF
        rw [upd_eq, upd_ne (by omega), h1, if_neg c]
        exact nI_add ic 0
/-- the item that stands at a -/
def itX (tx : Nat → Int32) (Ln a : Nat) : Int32 × Int32 × Int32 × Int32 := match opL tx Ln a 10 0 with
  | none => (0, 0, 0, 0)
  | some j => (nI j, (iv0 tx Ln j (a + (opw (nI j)).length)).1, (iv1 tx Ln j (a + (opw (nI j)).length)).1, (iv2 tx Ln j (a + (opw (nI j)).length)).1)
theorem so0 (x : Int32) : ¬ soM x (nI 0) < 0 := by
  unfold soM
  rw [if_pos (by decide)]
  split
  · decide
  · split <;> decide
theorem rdI_yes {tx : Nat → Int32} {Ln a ic a' : Nat} {F : Nat → Int32} (hL : Ln ≤ 200) (hic : ic < 100) (h : F 9003 = nI ic) (hn : itA tx Ln a = some a') : (a + 3 ≤ a' ∧ a' ≤ 200) ∧ (rdI tx Ln a ic F).2 9004 = nI a' ∧ (rdI tx Ln a ic F).2 9003 = nI (ic + 1) ∧ (rdI tx Ln a ic F).2 (7000 + (4 * ic)) = (itX tx Ln a).1 ∧ (rdI tx Ln a ic F).2 (7000 + ((4 * ic) + 1)) = (itX tx Ln a).2.1 ∧ (rdI tx Ln a ic F).2 (7000 + ((4 * ic) + 2)) = (itX tx Ln a).2.2.1 ∧ (rdI tx Ln a ic F).2 (7000 + ((4 * ic) + 3)) = (itX tx Ln a).2.2.2 := by
  unfold itA at hn
  unfold rdI itX
  cases ho : opL tx Ln a 10 0 with
  | none => simp only [ho] at hn; cases hn
  | some j =>
    simp only [ho] at hn
    cases hb : agL tx Ln j 3 0 (a + (opw (nI j)).length) with
    | none => simp only [hb] at hn; cases hn
    | some b =>
      simp only [hb] at hn
      by_cases c : edT tx Ln b
      · rw [if_pos c] at hn
        obtain rfl : b + 1 = a' := Option.some.inj hn
        have hc := c.1
        obtain ⟨h3, rfl⟩ := agL3 hb
        have g : ∀ q, (r2 tx Ln ic j 3 0 (a + (opw (nI j)).length) (upd (rdF tx Ln a 10 0 F) (7000 + (4 * ic)) (nI j))).2 q = edF (agF tx Ln ic j 3 0 (a + (opw (nI j)).length) (upd (rdF tx Ln a 10 0 F) (7000 + (4 * ic)) (nI j))) (edT tx Ln (iv2 tx Ln j (a + (opw (nI j)).length)).2) q := by
          intro q; unfold r2; simp only [hb]
        simp only [g]
        unfold edF
        rw [agF3 h3, if_pos c]
        have k1 : a + 2 ≤ (iv0 tx Ln j (a + (opw (nI j)).length)).2 := by
          have h0 := h3.1
          have e : iv0 tx Ln j (a + (opw (nI j)).length) = argT tx Ln (a + (opw (nI j)).length) (soM (nI j) (nI 0)) := by unfold iv0 agS; rw [if_neg (so0 _)]
          rw [e] at h0 ⊢
          have := argT_ge hL h0
          omega
        have k2 : ∀ (x : Nat) (s : Int32), ¬ (agS tx Ln x s).1 < 0 → x ≤ (agS tx Ln x s).2 := by
          intro x s
          unfold agS
          split
          · intro _; exact Nat.le_refl _
          · intro h0
            have := argT_ge hL h0
            omega
        have k3 : (iv0 tx Ln j (a + (opw (nI j)).length)).2 ≤ (iv1 tx Ln j (a + (opw (nI j)).length)).2 := k2 _ _ h3.2.1
        have k4 : (iv1 tx Ln j (a + (opw (nI j)).length)).2 ≤ (iv2 tx Ln j (a + (opw (nI j)).length)).2 := k2 _ _ h3.2.2
        refine ⟨⟨by show a + 3 ≤ (iv2 tx Ln j _).2 + 1; omega, by show (iv2 tx Ln j _).2 + 1 ≤ 200; omega⟩, ?_, ?_, ?_, ?_, ?_, ?_⟩
        · rw [upd_ne (by omega), upd_eq, upd_ne (by omega), upd_eq]; exact nI_add _ 1
        · rw [upd_eq, upd_ne (by omega), upd_ne (by omega), upd_ne (by omega), upd_ne (by omega), upd_ne (by omega), upd_ne (by omega), upd_ne (by omega), upd_ne (by omega), rdF_it (by omega) 10 0 F, h]; exact nI_add _ 1
        · rw [upd_ne (by omega), upd_ne (by omega), upd_ne (by omega), upd_ne (by omega), upd_ne (by omega), upd_ne (by omega), upd_ne (by omega), upd_ne (by omega), upd_eq]
        · rw [upd_ne (by omega), upd_ne (by omega), upd_ne (by omega), upd_ne (by omega), upd_ne (by omega), upd_ne (by omega), show 7000 + ((4 * ic) + 1) = 7000 + (((4 * ic) + 1) + 0) by omega, upd_eq]
        · rw [upd_ne (by omega), upd_ne (by omega), upd_ne (by omega), upd_ne (by omega), show 7000 + ((4 * ic) + 2) = 7000 + (((4 * ic) + 1) + 1) by omega, upd_eq]
        · rw [upd_ne (by omega), upd_ne (by omega), show 7000 + ((4 * ic) + 3) = 7000 + (((4 * ic) + 1) + 2) by omega, upd_eq]
      · rw [if_neg c] at hn; cases hn
/-! fault -/
def ftR (tx : Nat → Int32) (Ln : Nat) : Nat → Nat → Nat → Int32
  | 0, _, _ => -8
  | n + 1, a, ic => if Ln ≤ a then -8 else match itA tx Ln a with
    | none => nI ic
    | some a' => ftR tx Ln n a' (ic + 1)
def ftF (tx : Nat → Int32) (Ln : Nat) : Nat → Nat → Nat → (Nat → Int32) → (Nat → Int32)
  | 0, _, _, F => F
  | n + 1, a, ic, F => if Ln ≤ a then F else match itA tx Ln a with
    | none => (rdI tx Ln a ic F).2
    | some a' => ftF tx Ln n a' (ic + 1) (rdI tx Ln a ic F).2
/-- the items of a text without a fault -/
def itL (tx : Nat → Int32) (Ln : Nat) : Nat → Nat → List (Int32 × Int32 × Int32 × Int32)
  | 0, _ => []
  | n + 1, a => if Ln ≤ a then [] else match itA tx Ln a with
    | none => []
    | some a' => itX tx Ln a :: itL tx Ln n a'
abbrev itIn (F : Nat → Int32) (i : Nat) (x : Int32 × Int32 × Int32 × Int32) : Prop := F (7000 + (4 * i)) = x.1 ∧ F (7000 + ((4 * i) + 1)) = x.2.1 ∧ F (7000 + ((4 * i) + 2)) = x.2.2.1 ∧ F (7000 + ((4 * i) + 3)) = x.2.2.2
theorem ft_all {tx : Nat → Int32} {Ln : Nat} (hL : Ln ≤ 200) : ∀ (n a ic : Nat) (F : Nat → Int32), a ≤ 200 → 2 * ic ≤ a → F 9003 = nI ic → SmT F (ftF tx Ln n a ic F) ∧ (∀ q, 7000 ≤ q ∧ q < 7000 + 4 * ic → ftF tx Ln n a ic F q = F q) ∧ ftF tx Ln n a ic F 9003 = nI (ic + (itL tx Ln n a).length) ∧ ic + (itL tx Ln n a).length ≤ 100 ∧ (∀ i x, (itL tx Ln n a)[i]? = some x → itIn (ftF tx Ln n a ic F) (ic + i) x)
  | 0, a, ic, F, ha, hic, h => ⟨SmT.rf, fun _ _ => rfl, h, by show ic + 0 ≤ 100; omega, fun i x hx => by simp [itL] at hx⟩
  | n + 1, a, ic, F, ha, hic, h => by
    unfold ftF itL
    by_cases c : Ln ≤ a
    · rw [if_pos c, if_pos c]
      exact ⟨SmT.rf, fun _ _ => rfl, h, by show ic + 0 ≤ 100; omega, fun i x hx => by simp at hx⟩
    · rw [if_neg c, if_neg c]
      have hic1 : ic < 100 := by omega
      cases hn : itA tx Ln a with
      | none => exact ⟨rdI_sm hic1, fun q hq => rdI_old hic1 hq, rdI_no hic1 h hn, by show ic + 0 ≤ 100; omega, fun i x hx => by simp at hx⟩
      | some a' =>
        obtain ⟨⟨g1, g2⟩, g3, g4, g5, g6, g7, g8⟩ := rdI_yes hL hic1 h hn
        obtain ⟨k1, k2, k3, k4, k5⟩ := ft_all hL n a' (ic + 1) (rdI tx Ln a ic F).2 g2 (by omega) g4
        refine ⟨(rdI_sm hic1).tr k1, fun q hq => (k2 q (by omega)).trans (rdI_old hic1 hq), ?_, ?_, ?_⟩
        · simp only [List.length_cons]
          rw [show ic + ((itL tx Ln n a').length + 1) = ic + 1 + (itL tx Ln n a').length by omega]; exact k3
        · simp only [List.length_cons]; omega
        · intro i x hx
          cases i with
          | zero =>
            simp only [List.getElem?_cons_zero, Option.some.injEq] at hx
            subst hx
            refine ⟨(k2 _ (by omega)).trans ?_, (k2 _ (by omega)).trans ?_, (k2 _ (by omega)).trans ?_, (k2 _ (by omega)).trans ?_⟩
            · exact g5
            · exact g6
            · exact g7
            · exact g8
          | succ i =>
            rw [List.getElem?_cons_succ] at hx
            have := k5 i x hx
            rwa [show ic + 1 + i = ic + (i + 1) by omega] at this
set_option maxHeartbeats 2000000 in
theorem lm_ft {G : GG} {Y : Nat} {E0 : Nat → va_E} {L : List Nat} {sz d : Nat} {tx : Nat → Int32} {Ln : Nat} (hG : GOK G) (hM : rIn (mR G Y) L) (hZ : GSJ G) (hdp : 4 ≤ d) (n : Nat) : ∀ (a ic : Nat) (F : Nat → Int32), Ln ≤ a + n → TOK F tx Ln → F 9004 = nI a → a ≤ 200 → F 9003 = nI ic → 2 * ic ≤ a → WP G iX12_fault d 0 0 (some (.int (ftR tx Ln n a ic))) (Mm G Y (ftF tx Ln n a ic F) E0 L sz) 10 [some (.ref Y)] [] (Mm G Y F E0 L sz) 0 0 := by
  induction n with
  | zero =>
    intro a ic F hn0 ht ha haL hic h2
    have hL := ht.2.1
    refine wp_ald0 dX12_fault_10 ?_
    refine gm_at dX12_fault_11 fX12_268 hM ?_
    refine wp_ald0 dX12_fault_14 ?_
    refine gm_length dX12_fault_15 fX12_235 hM ?_
    refine wp_icmp_ge (tgt := 33) dX12_fault_18 (by decide) (fun c_18 => ?_) (fun c_18 => absurd (by rw [ht.1, ha]; exact (nI_leI (by omega) (by omega)).mpr (by omega)) c_18)
    refine wp_bipush (v := (-8)) dX12_fault_33 (by decide) ?_
    exact wp_iret dX12_fault_35 rfl (Nat.le_refl _) (Nat.le_refl _) (by first | with_reducible rfl | (simp only [ftR, ftF]; done) | (simp only [ftR, ftF]; rfl) | rfl) (by first | with_reducible rfl | (simp only [ftR, ftF]; done) | (simp only [ftR, ftF]; rfl) | rfl)
  | succ n ih =>
    intro a ic F hn0 ht ha haL hic h2
    have hL := ht.2.1
    refine wp_ald0 dX12_fault_10 ?_
    refine gm_at dX12_fault_11 fX12_268 hM ?_
    refine wp_ald0 dX12_fault_14 ?_
    refine gm_length dX12_fault_15 fX12_235 hM ?_
    refine wp_icmp_ge (tgt := 33) dX12_fault_18 (by decide) (fun c_18 => ?_) (fun c_18 => ?_)
    · have c_18 : Ln ≤ a := (nI_leI (by omega) (by omega)).mp (by rw [← ht.1, ← ha]; exact c_18)
      refine wp_bipush (v := (-8)) dX12_fault_33 (by decide) ?_
      exact wp_iret dX12_fault_35 rfl (Nat.le_refl _) (Nat.le_refl _) (by simp only [ftR, ftF, if_pos c_18]) (by simp only [ftR, ftF, if_pos c_18])
    · have c_18 : ¬ Ln ≤ a := fun q => c_18 (by rw [ht.1, ha]; exact (nI_leI (by omega) (by omega)).mpr q)
      refine wp_ald0 dX12_fault_21 ?_
      refine mi_0 dX12_fault_22 kX12_286 (cm_readsItem (d := d - 1) hG hM hZ ht ha haL (by omega) hic (by omega)) hM rfl (by omega) (Nat.le_of_ble_eq_true rfl) (Nat.le_refl _) (Nat.le_refl _) ?_
      refine wp_ifB_ne (tgt := 10) dX12_fault_25 (by decide) (fun c_25 => ?_) (fun c_25 => ?_)
      · cases hn : itA tx Ln a with
        | none => exact absurd hn c_25
        | some a' =>
          obtain ⟨⟨g1, g2⟩, g3, g4, -⟩ := rdI_yes ht.2.1 (by omega) hic hn
          rw [show ftR tx Ln (n + 1) a ic = ftR tx Ln n a' (ic + 1) by simp only [ftR, if_neg c_18, hn], show ftF tx Ln (n + 1) a ic F = ftF tx Ln n a' (ic + 1) (rdI tx Ln a ic F).2 by simp only [ftF, if_neg c_18, hn]]
          exact ih a' (ic + 1) _ (by omega) ((rdI_sm (by omega)).t ht) g3 g2 g4 (by omega)
      · refine wp_ald0 dX12_fault_28 ?_
        refine gm_itemCount dX12_fault_29 fX12_277 hM ?_
        exact wp_iret dX12_fault_32 rfl (Nat.le_refl _) (Nat.le_refl _) (by simp only [ftR, ftF, if_neg c_18, Classical.not_not.mp c_25]; first | done | rw [rdI_no (by omega) hic (Classical.not_not.mp c_25)]) (by simp only [ftR, ftF, if_neg c_18, Classical.not_not.mp c_25]; first | done | rw [rdI_no (by omega) hic (Classical.not_not.mp c_25)])
abbrev ftB (F : Nat → Int32) : Nat → Int32 := upd (upd F 9004 0) 9003 0
def faultM (F : Nat → Int32) (tx : Nat → Int32) (Ln : Nat) : Int32 × (Nat → Int32) := (ftR tx Ln 200 0 0, ftF tx Ln 200 0 0 (ftB F))
theorem ftB_sm {F : Nat → Int32} : SmT F (ftB F) := (SmT.rf.up (by omega)).up (by omega)
set_option maxHeartbeats 2000000 in
theorem cm_fault {G : GG} {Y : Nat} {F : Nat → Int32} {E0 : Nat → va_E} {L : List Nat} {sz d : Nat} {tx : Nat → Int32} {Ln : Nat} (hG : GOK G) (hM : rIn (mR G Y) L) (hZ : GSJ G) (ht : TOK F tx Ln) (hdp : 4 ≤ d) : Ct G d yX12_fault iX12_fault [.ref Y] (Mm G Y F E0 L sz) 0 0 (some (.int (faultM F tx Ln).1)) (Mm G Y ((faultM F tx Ln).2) E0 L sz) := by
  refine Ct.of 0 (by decide) rfl (by decide) (Nat.le_of_ble_eq_true rfl) ?_
  show WP _ _ _ _ _ _ _ 0 [some (.ref Y)] [] _ 0 0
  refine wp_ald0 dX12_fault_0 ?_
  refine wp_iconst (v := 0) dX12_fault_1 (by decide) ?_
  refine pm_at dX12_fault_2 pX12_268 hM ?_
  refine wp_ald0 dX12_fault_5 ?_
  refine wp_iconst (v := 0) dX12_fault_6 (by decide) ?_
  refine pm_itemCount dX12_fault_7 pX12_277 hM ?_
  have hL := ht.2.1
  unfold faultM
  exact lm_ft hG hM hZ hdp 200 0 0 (ftB F) (by omega) (ftB_sm.t ht) ((upd_ne (by omega)).trans upd_eq) (by omega) upd_eq (by omega)

def rnS (F : Nat → Int32) (i : Nat) : Int32 × (Nat → Int32) := opM F (F (7000 + (4 * i))) (F (7000 + ((4 * i) + 1))) (F (7000 + ((4 * i) + 2))) (F (7000 + ((4 * i) + 3)))
def rnL : Nat → Nat → (Nat → Int32) → Int32 → Int32 × (Nat → Int32)
  | 0, _, F, e => (e, F)
  | n + 1, i, F, e => rnL n (i + 1) (rnS F i).2 (if inP (rnS F i).1 (-7) (-1) then e + 1 else e + 0)
def runM (F : Nat → Int32) (tx : Nat → Int32) (Ln : Nat) : Int32 × (Nat → Int32) := if (faultM F tx Ln).1 = -8 then rnL (nt ((faultM F tx Ln).2 9003)) 0 (faultM F tx Ln).2 0 else (-7, (faultM F tx Ln).2)
set_option maxHeartbeats 2000000 in
theorem lm_rn {G : GG} {Y : Nat} {E0 : Nat → va_E} {L : List Nat} {sz d : Nat} {m : Nat} (hG : GOK G) (hM : rIn (mR G Y) L) (hm100 : m ≤ 100) (hdp : 7 ≤ d) (n : Nat) : ∀ (i : Nat) (F : Nat → Int32) (e : Int32), i + n = m → TS F → OKr F → F 9003 = nI m → WP G iX12_run d 0 0 (some (.int (rnL n i F e).1)) (Mm G Y (rnL n i F e).2 E0 L sz) 16 [some (.ref Y), some (.int e), some (.int (nI i)), none] [] (Mm G Y F E0 L sz) 0 0 := by
  induction n with
  | zero =>
    intro i F e hi h hr hm
    refine wp_ild2 dX12_run_16 ?_
    refine wp_ald0 dX12_run_17 ?_
    refine gm_itemCount dX12_run_18 fX12_277 hM ?_
    refine wp_icmp_ge (tgt := 91) dX12_run_21 (by decide) (fun c_21 => ?_) (fun c_21 => absurd (by rw [hm]; exact nI_le (by omega) (by omega)) c_21)
    refine wp_ild1 dX12_run_91 ?_
    exact wp_iret dX12_run_92 rfl (Nat.le_refl _) (Nat.le_refl _) (by first | with_reducible rfl | (simp only [rnL]; done) | (simp only [rnL]; rfl) | rfl) (by first | with_reducible rfl | (simp only [rnL]; done) | (simp only [rnL]; rfl) | rfl)
  | succ n ih =>
    intro i F e hi h hr hm
    refine wp_ild2 dX12_run_16 ?_
    refine wp_ald0 dX12_run_17 ?_
    refine gm_itemCount dX12_run_18 fX12_277 hM ?_
    refine wp_icmp_ge (tgt := 91) dX12_run_21 (by decide) (fun c_21 => absurd c_21 (by rw [hm]; exact nI_ge (by omega) (by omega))) (fun c_21 => ?_)
    have him : i < m := by omega
    refine wp_ald0 dX12_run_24 ?_
    refine wp_ald0 dX12_run_25 ?_
    refine gm_items dX12_run_26 fX12_28 hM ?_
    refine wp_iconst (v := 4) dX12_run_29 (by decide) ?_
    refine wp_ild2 dX12_run_30 ?_
    refine wp_imulN (a := 4) (b := i) (by decide) rfl dX12_run_31 ?_
    refine rm_items (i' := (4 * i)) dX12_run_32 hG hM rfl (by first | assumption | omega) ?_
    refine wp_ald0 dX12_run_33 ?_
    refine gm_items dX12_run_34 fX12_28 hM ?_
    refine wp_iconst (v := 4) dX12_run_37 (by decide) ?_
    refine wp_ild2 dX12_run_38 ?_
    refine wp_imulN (a := 4) (b := i) (by decide) rfl dX12_run_39 ?_
    refine wp_iconst (v := 1) dX12_run_40 (by decide) ?_
    refine wp_iaddN (a := (4 * i)) (b := 1) rfl (by decide) dX12_run_41 ?_
    refine rm_items (i' := ((4 * i) + 1)) dX12_run_42 hG hM rfl (by first | assumption | omega) ?_
    refine wp_ald0 dX12_run_43 ?_
    refine gm_items dX12_run_44 fX12_28 hM ?_
    refine wp_iconst (v := 4) dX12_run_47 (by decide) ?_
    refine wp_ild2 dX12_run_48 ?_
    refine wp_imulN (a := 4) (b := i) (by decide) rfl dX12_run_49 ?_
    refine wp_iconst (v := 2) dX12_run_50 (by decide) ?_
    refine wp_iaddN (a := (4 * i)) (b := 2) rfl (by decide) dX12_run_51 ?_
    refine rm_items (i' := ((4 * i) + 2)) dX12_run_52 hG hM rfl (by first | assumption | omega) ?_
    refine wp_ald0 dX12_run_53 ?_
    refine gm_items dX12_run_54 fX12_28 hM ?_
    refine wp_iconst (v := 4) dX12_run_57 (by decide) ?_
    refine wp_ild2 dX12_run_58 ?_
    refine wp_imulN (a := 4) (b := i) (by decide) rfl dX12_run_59 ?_
    refine wp_iconst (v := 3) dX12_run_60 (by decide) ?_
    refine wp_iaddN (a := (4 * i)) (b := 3) rfl (by decide) dX12_run_61 ?_
    refine rm_items (i' := ((4 * i) + 3)) dX12_run_62 hG hM rfl (by first | assumption | omega) ?_
    refine mi_4 dX12_run_63 kX12_225 (cm_operate (d := d - 1) hG hM h hr (by omega)) hM rfl (by omega) (Nat.le_of_ble_eq_true rfl) (Nat.le_refl _) (Nat.le_refl _) ?_
    refine wp_ist3 dX12_run_66 (by decide) rfl ?_
    refine wp_ild1 dX12_run_67 ?_
    refine wp_ild3 dX12_run_68 ?_
    refine wp_bipush (v := (-7)) dX12_run_69 (by decide) ?_
    refine wp_iconst (v := (-1)) dX12_run_71 (by decide) ?_
    refine ci_3 dX12_run_72 kX12_35 (cm_isIn (d := d - 1)) (by omega) (Nat.le_of_ble_eq_true rfl) (Nat.le_refl _) (Nat.le_refl _) ?_
    refine wp_ifB_eq (tgt := 82) dX12_run_75 (by decide) (fun c_75 => ?_) (fun c_75 => ?_)
    · refine wp_iconst (v := 0) dX12_run_82 (by decide) ?_
      refine wp_iadd dX12_run_83 ?_
      refine wp_ist1 dX12_run_84 (by decide) rfl ?_
      refine wp_inc2 dX12_run_85 (by decide) rfl ?_
      refine wp_goto (tgt := 16) dX12_run_88 (by decide) ?_
      rw [show ∀ z, rnL (n + 1) i F z = rnL n (i + 1) (rnS F i).2 (if inP (rnS F i).1 (-7) (-1) then z + 1 else z + 0) from fun _ => rfl]
      have e75 : ¬ inP (rnS F i).1 (-7) (-1) := c_75
      rw [if_neg e75]
      exact WP.fg (by simp [lcle]) (ih (i + 1) (rnS F i).2 _ (by omega) (ro_op h hr).1 (ro_op h hr).2.1 (((ro_op h hr).2.2 _ (by omega)).trans hm))
    · refine wp_iconst (v := 1) dX12_run_78 (by decide) ?_
      refine wp_goto (tgt := 83) dX12_run_79 (by decide) ?_
      refine wp_iadd dX12_run_83 ?_
      refine wp_ist1 dX12_run_84 (by decide) rfl ?_
      refine wp_inc2 dX12_run_85 (by decide) rfl ?_
      refine wp_goto (tgt := 16) dX12_run_88 (by decide) ?_
      rw [show ∀ z, rnL (n + 1) i F z = rnL n (i + 1) (rnS F i).2 (if inP (rnS F i).1 (-7) (-1) then z + 1 else z + 0) from fun _ => rfl]
      have e75 :  inP (rnS F i).1 (-7) (-1) := c_75
      rw [if_pos e75]
      exact WP.fg (by simp [lcle]) (ih (i + 1) (rnS F i).2 _ (by omega) (ro_op h hr).1 (ro_op h hr).2.1 (((ro_op h hr).2.2 _ (by omega)).trans hm))
theorem TS.sm {F F1 : Nat → Int32} (h : TS F) (hs : SmT F F1) : TS F1 := h.of (fun q hq => hs q (by omega))
theorem OKr.sm {F F1 : Nat → Int32} (h : OKr F) (hs : SmT F F1) : OKr F1 := by
  obtain ⟨m, g1, g2⟩ := h
  exact ⟨m, g1, (hs 241 (by omega)).trans g2⟩
theorem fault_all {F : Nat → Int32} {tx : Nat → Int32} {Ln : Nat} (ht : TOK F tx Ln) : SmT F (faultM F tx Ln).2 ∧ (faultM F tx Ln).2 9003 = nI (itL tx Ln 200 0).length ∧ (itL tx Ln 200 0).length ≤ 100 ∧ (∀ i x, (itL tx Ln 200 0)[i]? = some x → itIn (faultM F tx Ln).2 i x) := by
  obtain ⟨k1, -, k3, k4, k5⟩ := ft_all ht.2.1 200 0 0 (ftB F) (by omega) (by omega) upd_eq
  unfold faultM
  rw [Nat.zero_add] at k3 k4
  refine ⟨ftB_sm.tr k1, k3, k4, fun i x hx => ?_⟩
  have := k5 i x hx
  rwa [Nat.zero_add] at this
set_option maxHeartbeats 2000000 in
theorem cm_run {G : GG} {Y : Nat} {F : Nat → Int32} {E0 : Nat → va_E} {L : List Nat} {sz d : Nat} {tx : Nat → Int32} {Ln : Nat} (hG : GOK G) (hM : rIn (mR G Y) L) (hZ : GSJ G) (ht : TOK F tx Ln) (h : TS F) (hr : OKr F) (hdp : 7 ≤ d) : Ct G d yX12_run iX12_run [.ref Y] (Mm G Y F E0 L sz) 0 0 (some (.int (runM F tx Ln).1)) (Mm G Y ((runM F tx Ln).2) E0 L sz) := by
  refine Ct.of 3 (by decide) rfl (by decide) (Nat.le_of_ble_eq_true rfl) ?_
  show WP _ _ _ _ _ _ _ 0 [some (.ref Y), none, none, none] [] _ 0 0
  refine wp_ald0 dX12_run_0 ?_
  refine mi_0 dX12_run_1 kX12_290 (cm_fault (d := d - 1) hG hM hZ ht (by omega)) hM rfl (by omega) (Nat.le_of_ble_eq_true rfl) (Nat.le_refl _) (Nat.le_refl _) ?_
  refine wp_bipush (v := (-8)) dX12_run_4 (by decide) ?_
  refine wp_icmp_eq (tgt := 12) dX12_run_6 (by decide) (fun c_6 => ?_) (fun c_6 => ?_)
  · refine wp_iconst (v := 0) dX12_run_12 (by decide) ?_
    refine wp_ist1 dX12_run_13 (by decide) rfl ?_
    refine wp_iconst (v := 0) dX12_run_14 (by decide) ?_
    refine wp_ist2 dX12_run_15 (by decide) rfl ?_
    obtain ⟨k1, k2, k3, -⟩ := fault_all ht
    have e : nt ((faultM F tx Ln).2 9003) = (itL tx Ln 200 0).length := by rw [k2, ntn (by omega)]
    simp only [runM, if_pos c_6]
    rw [e]
    exact WP.fg (by simp [lcle, nI_0]) (lm_rn hG hM k3 hdp (itL tx Ln 200 0).length 0 _ 0 (by omega) (h.sm k1) (hr.sm k1) k2)
  · refine wp_bipush (v := (-7)) dX12_run_9 (by decide) ?_
    exact wp_iret dX12_run_11 rfl (Nat.le_refl _) (Nat.le_refl _) (by first | with_reducible rfl | (simp only [runM, if_neg c_6]; done) | (simp only [runM, if_neg c_6]; rfl) | rfl) (by first | with_reducible rfl | (simp only [runM, if_neg c_6]; done) | (simp only [runM, if_neg c_6]; rfl) | rfl)

/-- the items, one after the other -/
def rnA : List (Int32 × Int32 × Int32 × Int32) → (Nat → Int32) → Int32 → Int32 × (Nat → Int32)
  | [], F, e => (e, F)
  | x :: l, F, e => rnA l (opM F x.1 x.2.1 x.2.2.1 x.2.2.2).2 (if inP (opM F x.1 x.2.1 x.2.2.1 x.2.2.2).1 (-7) (-1) then e + 1 else e + 0)
theorem rnL_A : ∀ (l : List (Int32 × Int32 × Int32 × Int32)) (i : Nat) (F : Nat → Int32) (e : Int32), TS F → OKr F → (∀ q x, l[q]? = some x → itIn F (i + q) x) → rnL l.length i F e = rnA l F e
  | [], _, _, _, _, _, _ => rfl
  | x :: l, i, F, e, h, hr, hx => by
    obtain ⟨g1, g2, g3, g4⟩ := hx 0 x rfl
    rw [Nat.add_zero i] at g1 g2 g3 g4
    have e0 : rnS F i = opM F x.1 x.2.1 x.2.2.1 x.2.2.2 := by unfold rnS; rw [g1, g2, g3, g4]
    show rnL l.length (i + 1) (rnS F i).2 _ = rnA l _ _
    rw [e0]
    refine rnL_A l (i + 1) _ _ (ro_op h hr).1 (ro_op h hr).2.1 (fun q y hy => ?_)
    obtain ⟨k1, k2, k3, k4⟩ := hx (q + 1) y (by rw [List.getElem?_cons_succ]; exact hy)
    rw [show i + (q + 1) = i + 1 + q by omega] at k1 k2 k3 k4
    have r := (ro_op (op := x.1) (a := x.2.1) (b := x.2.2.1) (c := x.2.2.2) h hr).2.2
    exact ⟨(r _ (by omega)).trans k1, (r _ (by omega)).trans k2, (r _ (by omega)).trans k3, (r _ (by omega)).trans k4⟩
