/-! class and reference: the same numbers, but for what nobody sees -/
def Rel (C F : Nat → Int32) : Prop := WI F ∧ (∀ q, (q < 34 ∨ (46 ≤ q ∧ q < 70) ∨ (78 ≤ q ∧ q < 94) ∨ (102 ≤ q ∧ q < 126) ∨ (222 ≤ q ∧ q < 241)) → C q = F q) ∧ (∀ t, t < 6 → F (10 + t) = 2 → (C (34 + t) = -1 ∧ F (34 + t) = 0) ∨ (C (34 + t) = F (34 + t) ∧ 0 < F (34 + t))) ∧ (∀ t, t < 6 → (F (10 + t) = 1 ∨ F (10 + t) = 2) → C (40 + t) = F (40 + t)) ∧ (∀ o, o < 8 → F (46 + o) = 2 → C (70 + o) = F (70 + o)) ∧ (∀ o, o < 8 → (C (94 + o) = -1 ∧ F (94 + o) = -8) ∨ (C (94 + o) = F (94 + o) ∧ 0 ≤ F (94 + o))) ∧ (∀ o, o < 8 → Qs C o = Qs F o ∧ Ws C o = Ws F o)
theorem Rel.e {C F : Nat → Int32} {q : Nat} (h : Rel C F) (hq : q < 34 ∨ (46 ≤ q ∧ q < 70) ∨ (78 ≤ q ∧ q < 94) ∨ (102 ≤ q ∧ q < 126) ∨ (222 ≤ q ∧ q < 241)) : C q = F q := h.2.1 q hq
theorem Rel.l {C F : Nat → Int32} {o : Nat} (h : Rel C F) (ho : o < 8) : Qs C o = Qs F o ∧ Ws C o = Ws F o := h.2.2.2.2.2.2 o ho
theorem Rel.wc {C F : Nat → Int32} (h : Rel C F) : WI C := by
  obtain ⟨⟨T, h1, h2⟩, h3⟩ := h.1
  refine ⟨⟨T, h1, (h.e (by omega)).trans h2⟩, fun o ho => ?_⟩
  obtain ⟨⟨a, a1, a2⟩, b, b1, b2⟩ := h3 o ho
  exact ⟨⟨a, a1, (h.e (by omega)).trans a2⟩, b, b1, (h.e (by omega)).trans b2⟩
theorem Rel.up {C F : Nat → Int32} {k : Nat} {x : Int32} (h : Rel C F) (hk : (1 ≤ k ∧ k < 10) ∨ (16 ≤ k ∧ k < 34) ∨ (54 ≤ k ∧ k < 70) ∨ (78 ≤ k ∧ k < 94) ∨ (102 ≤ k ∧ k < 110) ∨ (222 ≤ k ∧ k < 241)) : Rel (upd C (k) x) (upd F (k) x) := by
  refine ⟨h.1.up (by omega), fun q hq => ?_, fun t' ht' hs => ?_, fun t' ht' hs => ?_, fun o' ho' hs => ?_, fun o' ho' => ?_, fun o' ho' => ⟨?_, ?_⟩⟩
  · by_cases e : q = k
    · subst e; rw [upd_eq, upd_eq]
    · rw [upd_ne e, upd_ne e]; exact h.2.1 q hq
  · rw [upd_ne (f := F) (show 10 + t' ≠ k by omega)] at hs
    rw [upd_ne (f := C) (show 34 + t' ≠ k by omega), upd_ne (f := F) (show 34 + t' ≠ k by omega)]
    exact h.2.2.1 t' ht' hs
  · rw [upd_ne (f := F) (show 10 + t' ≠ k by omega)] at hs
    rw [upd_ne (f := C) (show 40 + t' ≠ k by omega), upd_ne (f := F) (show 40 + t' ≠ k by omega)]
    exact h.2.2.2.1 t' ht' hs
  · rw [upd_ne (f := F) (show 46 + o' ≠ k by omega)] at hs
    rw [upd_ne (f := C) (show 70 + o' ≠ k by omega), upd_ne (f := F) (show 70 + o' ≠ k by omega)]
    exact h.2.2.2.2.1 o' ho' hs
  · rw [upd_ne (f := C) (show 94 + o' ≠ k by omega), upd_ne (f := F) (show 94 + o' ≠ k by omega)]
    exact h.2.2.2.2.2.1 o' ho'
  · show lst _ _ _ = lst _ _ _; rw [lst_upd (h.wc.q ho') (by omega) (by omega), lst_upd (h.1.q ho') (by omega) (by omega)]; exact (h.l ho').1
  · show lst _ _ _ = lst _ _ _; rw [lst_upd (h.wc.w ho') (by omega) (by omega), lst_upd (h.1.w ho') (by omega) (by omega)]; exact (h.l ho').2

theorem Rel.st0 {C F : Nat → Int32} {t : Nat} {x : Int32} (h : Rel C F) (ht : t < 6) (hx : ¬ x = 1 ∧ ¬ x = 2) : Rel (upd C (10 + t) x) (upd F (10 + t) x) := by
  refine ⟨h.1.up (by omega), fun q hq => ?_, fun t' ht' hs => ?_, fun t' ht' hs => ?_, fun o' ho' hs => ?_, fun o' ho' => ?_, fun o' ho' => ⟨?_, ?_⟩⟩
  · by_cases e : q = 10 + t
    · subst e; rw [upd_eq, upd_eq]
    · rw [upd_ne e, upd_ne e]; exact h.2.1 q hq
  · by_cases e : t' = t
    · subst e
      rw [upd_eq] at hs; exact absurd hs hx.2
    · rw [upd_ne (f := F) (show 10 + t' ≠ 10 + t by omega)] at hs
      rw [upd_ne (f := C) (show 34 + t' ≠ 10 + t by omega), upd_ne (f := F) (show 34 + t' ≠ 10 + t by omega)]
      exact h.2.2.1 t' ht' hs
  · by_cases e : t' = t
    · subst e
      rw [upd_eq] at hs; exact absurd hs (fun z => z.elim hx.1 hx.2)
    · rw [upd_ne (f := F) (show 10 + t' ≠ 10 + t by omega)] at hs
      rw [upd_ne (f := C) (show 40 + t' ≠ 10 + t by omega), upd_ne (f := F) (show 40 + t' ≠ 10 + t by omega)]
      exact h.2.2.2.1 t' ht' hs
  · rw [upd_ne (f := F) (show 46 + o' ≠ 10 + t by omega)] at hs
    rw [upd_ne (f := C) (show 70 + o' ≠ 10 + t by omega), upd_ne (f := F) (show 70 + o' ≠ 10 + t by omega)]
    exact h.2.2.2.2.1 o' ho' hs
  · rw [upd_ne (f := C) (show 94 + o' ≠ 10 + t by omega), upd_ne (f := F) (show 94 + o' ≠ 10 + t by omega)]
    exact h.2.2.2.2.2.1 o' ho'
  · show lst _ _ _ = lst _ _ _; rw [lst_upd (h.wc.q ho') (by omega) (by omega), lst_upd (h.1.q ho') (by omega) (by omega)]; exact (h.l ho').1
  · show lst _ _ _ = lst _ _ _; rw [lst_upd (h.wc.w ho') (by omega) (by omega), lst_upd (h.1.w ho') (by omega) (by omega)]; exact (h.l ho').2

theorem Rel.st1 {C F : Nat → Int32} {t : Nat} (h : Rel C F) (ht : t < 6) (hg : C (40 + t) = F (40 + t)) : Rel (upd C (10 + t) 1) (upd F (10 + t) 1) := by
  refine ⟨h.1.up (by omega), fun q hq => ?_, fun t' ht' hs => ?_, fun t' ht' hs => ?_, fun o' ho' hs => ?_, fun o' ho' => ?_, fun o' ho' => ⟨?_, ?_⟩⟩
  · by_cases e : q = 10 + t
    · subst e; rw [upd_eq, upd_eq]
    · rw [upd_ne e, upd_ne e]; exact h.2.1 q hq
  · by_cases e : t' = t
    · subst e
      rw [upd_eq] at hs; exact absurd hs (by decide)
    · rw [upd_ne (f := F) (show 10 + t' ≠ 10 + t by omega)] at hs
      rw [upd_ne (f := C) (show 34 + t' ≠ 10 + t by omega), upd_ne (f := F) (show 34 + t' ≠ 10 + t by omega)]
      exact h.2.2.1 t' ht' hs
  · by_cases e : t' = t
    · subst e
      rw [upd_ne (f := C) (show 40 + t' ≠ 10 + t' by omega), upd_ne (f := F) (show 40 + t' ≠ 10 + t' by omega)]; exact hg
    · rw [upd_ne (f := F) (show 10 + t' ≠ 10 + t by omega)] at hs
      rw [upd_ne (f := C) (show 40 + t' ≠ 10 + t by omega), upd_ne (f := F) (show 40 + t' ≠ 10 + t by omega)]
      exact h.2.2.2.1 t' ht' hs
  · rw [upd_ne (f := F) (show 46 + o' ≠ 10 + t by omega)] at hs
    rw [upd_ne (f := C) (show 70 + o' ≠ 10 + t by omega), upd_ne (f := F) (show 70 + o' ≠ 10 + t by omega)]
    exact h.2.2.2.2.1 o' ho' hs
  · rw [upd_ne (f := C) (show 94 + o' ≠ 10 + t by omega), upd_ne (f := F) (show 94 + o' ≠ 10 + t by omega)]
    exact h.2.2.2.2.2.1 o' ho'
  · show lst _ _ _ = lst _ _ _; rw [lst_upd (h.wc.q ho') (by omega) (by omega), lst_upd (h.1.q ho') (by omega) (by omega)]; exact (h.l ho').1
  · show lst _ _ _ = lst _ _ _; rw [lst_upd (h.wc.w ho') (by omega) (by omega), lst_upd (h.1.w ho') (by omega) (by omega)]; exact (h.l ho').2

theorem Rel.st2 {C F : Nat → Int32} {t : Nat} (h : Rel C F) (ht : t < 6) (hg : C (40 + t) = F (40 + t)) (hl : (C (34 + t) = -1 ∧ F (34 + t) = 0) ∨ (C (34 + t) = F (34 + t) ∧ 0 < F (34 + t))) : Rel (upd C (10 + t) 2) (upd F (10 + t) 2) := by
  refine ⟨h.1.up (by omega), fun q hq => ?_, fun t' ht' hs => ?_, fun t' ht' hs => ?_, fun o' ho' hs => ?_, fun o' ho' => ?_, fun o' ho' => ⟨?_, ?_⟩⟩
  · by_cases e : q = 10 + t
    · subst e; rw [upd_eq, upd_eq]
    · rw [upd_ne e, upd_ne e]; exact h.2.1 q hq
  · by_cases e : t' = t
    · subst e
      rw [upd_ne (f := C) (show 34 + t' ≠ 10 + t' by omega), upd_ne (f := F) (show 34 + t' ≠ 10 + t' by omega)]; exact hl
    · rw [upd_ne (f := F) (show 10 + t' ≠ 10 + t by omega)] at hs
      rw [upd_ne (f := C) (show 34 + t' ≠ 10 + t by omega), upd_ne (f := F) (show 34 + t' ≠ 10 + t by omega)]
      exact h.2.2.1 t' ht' hs
  · by_cases e : t' = t
    · subst e
      rw [upd_ne (f := C) (show 40 + t' ≠ 10 + t' by omega), upd_ne (f := F) (show 40 + t' ≠ 10 + t' by omega)]; exact hg
    · rw [upd_ne (f := F) (show 10 + t' ≠ 10 + t by omega)] at hs
      rw [upd_ne (f := C) (show 40 + t' ≠ 10 + t by omega), upd_ne (f := F) (show 40 + t' ≠ 10 + t by omega)]
      exact h.2.2.2.1 t' ht' hs
  · rw [upd_ne (f := F) (show 46 + o' ≠ 10 + t by omega)] at hs
    rw [upd_ne (f := C) (show 70 + o' ≠ 10 + t by omega), upd_ne (f := F) (show 70 + o' ≠ 10 + t by omega)]
    exact h.2.2.2.2.1 o' ho' hs
  · rw [upd_ne (f := C) (show 94 + o' ≠ 10 + t by omega), upd_ne (f := F) (show 94 + o' ≠ 10 + t by omega)]
    exact h.2.2.2.2.2.1 o' ho'
  · show lst _ _ _ = lst _ _ _; rw [lst_upd (h.wc.q ho') (by omega) (by omega), lst_upd (h.1.q ho') (by omega) (by omega)]; exact (h.l ho').1
  · show lst _ _ _ = lst _ _ _; rw [lst_upd (h.wc.w ho') (by omega) (by omega), lst_upd (h.1.w ho') (by omega) (by omega)]; exact (h.l ho').2

theorem Rel.lk {C F : Nat → Int32} {o : Nat} {x : Int32} (h : Rel C F) (ho : o < 8) (hx : ¬ x = 2) : Rel (upd C (46 + o) x) (upd F (46 + o) x) := by
  refine ⟨h.1.up (by omega), fun q hq => ?_, fun t' ht' hs => ?_, fun t' ht' hs => ?_, fun o' ho' hs => ?_, fun o' ho' => ?_, fun o' ho' => ⟨?_, ?_⟩⟩
  · by_cases e : q = 46 + o
    · subst e; rw [upd_eq, upd_eq]
    · rw [upd_ne e, upd_ne e]; exact h.2.1 q hq
  · rw [upd_ne (f := F) (show 10 + t' ≠ 46 + o by omega)] at hs
    rw [upd_ne (f := C) (show 34 + t' ≠ 46 + o by omega), upd_ne (f := F) (show 34 + t' ≠ 46 + o by omega)]
    exact h.2.2.1 t' ht' hs
  · rw [upd_ne (f := F) (show 10 + t' ≠ 46 + o by omega)] at hs
    rw [upd_ne (f := C) (show 40 + t' ≠ 46 + o by omega), upd_ne (f := F) (show 40 + t' ≠ 46 + o by omega)]
    exact h.2.2.2.1 t' ht' hs
  · by_cases e : o' = o
    · subst e
      rw [upd_eq] at hs; exact absurd hs hx
    · rw [upd_ne (f := F) (show 46 + o' ≠ 46 + o by omega)] at hs
      rw [upd_ne (f := C) (show 70 + o' ≠ 46 + o by omega), upd_ne (f := F) (show 70 + o' ≠ 46 + o by omega)]
      exact h.2.2.2.2.1 o' ho' hs
  · rw [upd_ne (f := C) (show 94 + o' ≠ 46 + o by omega), upd_ne (f := F) (show 94 + o' ≠ 46 + o by omega)]
    exact h.2.2.2.2.2.1 o' ho'
  · show lst _ _ _ = lst _ _ _; rw [lst_upd (h.wc.q ho') (by omega) (by omega), lst_upd (h.1.q ho') (by omega) (by omega)]; exact (h.l ho').1
  · show lst _ _ _ = lst _ _ _; rw [lst_upd (h.wc.w ho') (by omega) (by omega), lst_upd (h.1.w ho') (by omega) (by omega)]; exact (h.l ho').2

theorem Rel.lk2 {C F : Nat → Int32} {o : Nat} {x : Int32} (h : Rel C F) (ho : o < 8) (hb : C (70 + o) = F (70 + o)) : Rel (upd C (46 + o) x) (upd F (46 + o) x) := by
  refine ⟨h.1.up (by omega), fun q hq => ?_, fun t' ht' hs => ?_, fun t' ht' hs => ?_, fun o' ho' hs => ?_, fun o' ho' => ?_, fun o' ho' => ⟨?_, ?_⟩⟩
  · by_cases e : q = 46 + o
    · subst e; rw [upd_eq, upd_eq]
    · rw [upd_ne e, upd_ne e]; exact h.2.1 q hq
  · rw [upd_ne (f := F) (show 10 + t' ≠ 46 + o by omega)] at hs
    rw [upd_ne (f := C) (show 34 + t' ≠ 46 + o by omega), upd_ne (f := F) (show 34 + t' ≠ 46 + o by omega)]
    exact h.2.2.1 t' ht' hs
  · rw [upd_ne (f := F) (show 10 + t' ≠ 46 + o by omega)] at hs
    rw [upd_ne (f := C) (show 40 + t' ≠ 46 + o by omega), upd_ne (f := F) (show 40 + t' ≠ 46 + o by omega)]
    exact h.2.2.2.1 t' ht' hs
  · by_cases e : o' = o
    · subst e
      rw [upd_ne (f := C) (show 70 + o' ≠ 46 + o' by omega), upd_ne (f := F) (show 70 + o' ≠ 46 + o' by omega)]; exact hb
    · rw [upd_ne (f := F) (show 46 + o' ≠ 46 + o by omega)] at hs
      rw [upd_ne (f := C) (show 70 + o' ≠ 46 + o by omega), upd_ne (f := F) (show 70 + o' ≠ 46 + o by omega)]
      exact h.2.2.2.2.1 o' ho' hs
  · rw [upd_ne (f := C) (show 94 + o' ≠ 46 + o by omega), upd_ne (f := F) (show 94 + o' ≠ 46 + o by omega)]
    exact h.2.2.2.2.2.1 o' ho'
  · show lst _ _ _ = lst _ _ _; rw [lst_upd (h.wc.q ho') (by omega) (by omega), lst_upd (h.1.q ho') (by omega) (by omega)]; exact (h.l ho').1
  · show lst _ _ _ = lst _ _ _; rw [lst_upd (h.wc.w ho') (by omega) (by omega), lst_upd (h.1.w ho') (by omega) (by omega)]; exact (h.l ho').2

theorem Rel.bi {C F : Nat → Int32} {o : Nat} {x : Int32} (h : Rel C F) (ho : o < 8) : Rel (upd C (70 + o) x) (upd F (70 + o) x) := by
  refine ⟨h.1.up (by omega), fun q hq => ?_, fun t' ht' hs => ?_, fun t' ht' hs => ?_, fun o' ho' hs => ?_, fun o' ho' => ?_, fun o' ho' => ⟨?_, ?_⟩⟩
  · rw [upd_ne (by omega), upd_ne (by omega)]; exact h.2.1 q hq
  · rw [upd_ne (f := F) (show 10 + t' ≠ 70 + o by omega)] at hs
    rw [upd_ne (f := C) (show 34 + t' ≠ 70 + o by omega), upd_ne (f := F) (show 34 + t' ≠ 70 + o by omega)]
    exact h.2.2.1 t' ht' hs
  · rw [upd_ne (f := F) (show 10 + t' ≠ 70 + o by omega)] at hs
    rw [upd_ne (f := C) (show 40 + t' ≠ 70 + o by omega), upd_ne (f := F) (show 40 + t' ≠ 70 + o by omega)]
    exact h.2.2.2.1 t' ht' hs
  · rw [upd_ne (f := F) (show 46 + o' ≠ 70 + o by omega)] at hs
    by_cases e : o' = o
    · subst e; rw [upd_eq, upd_eq]
    · rw [upd_ne (f := C) (show 70 + o' ≠ 70 + o by omega), upd_ne (f := F) (show 70 + o' ≠ 70 + o by omega)]
      exact h.2.2.2.2.1 o' ho' hs
  · rw [upd_ne (f := C) (show 94 + o' ≠ 70 + o by omega), upd_ne (f := F) (show 94 + o' ≠ 70 + o by omega)]
    exact h.2.2.2.2.2.1 o' ho'
  · show lst _ _ _ = lst _ _ _; rw [lst_upd (h.wc.q ho') (by omega) (by omega), lst_upd (h.1.q ho') (by omega) (by omega)]; exact (h.l ho').1
  · show lst _ _ _ = lst _ _ _; rw [lst_upd (h.wc.w ho') (by omega) (by omega), lst_upd (h.1.w ho') (by omega) (by omega)]; exact (h.l ho').2

theorem Rel.biF {C F : Nat → Int32} {o : Nat} {x : Int32} (h : Rel C F) (ho : o < 8) (hn : ¬ F (46 + o) = 2) : Rel C (upd F (70 + o) x) := by
  refine ⟨h.1.up (by omega), fun q hq => ?_, fun t' ht' hs => ?_, fun t' ht' hs => ?_, fun o' ho' hs => ?_, fun o' ho' => ?_, fun o' ho' => ⟨?_, ?_⟩⟩
  · rw [upd_ne (by omega)]; exact h.2.1 q hq
  · rw [upd_ne (f := F) (show 10 + t' ≠ 70 + o by omega)] at hs
    rw [upd_ne (f := F) (show 34 + t' ≠ 70 + o by omega)]
    exact h.2.2.1 t' ht' hs
  · rw [upd_ne (f := F) (show 10 + t' ≠ 70 + o by omega)] at hs
    rw [upd_ne (f := F) (show 40 + t' ≠ 70 + o by omega)]
    exact h.2.2.2.1 t' ht' hs
  · rw [upd_ne (f := F) (show 46 + o' ≠ 70 + o by omega)] at hs
    by_cases e : o' = o
    · subst e; exact absurd hs hn
    · rw [upd_ne (f := F) (show 70 + o' ≠ 70 + o by omega)]
      exact h.2.2.2.2.1 o' ho' hs
  · rw [upd_ne (f := F) (show 94 + o' ≠ 70 + o by omega)]
    exact h.2.2.2.2.2.1 o' ho'
  · show lst _ _ _ = lst _ _ _; rw [lst_upd (h.1.q ho') (by omega) (by omega)]; exact (h.l ho').1
  · show lst _ _ _ = lst _ _ _; rw [lst_upd (h.1.w ho') (by omega) (by omega)]; exact (h.l ho').2

theorem Rel.gt {C F : Nat → Int32} {t : Nat} {x : Int32} (h : Rel C F) (ht : t < 6) : Rel (upd C (40 + t) x) (upd F (40 + t) x) := by
  refine ⟨h.1.up (by omega), fun q hq => ?_, fun t' ht' hs => ?_, fun t' ht' hs => ?_, fun o' ho' hs => ?_, fun o' ho' => ?_, fun o' ho' => ⟨?_, ?_⟩⟩
  · rw [upd_ne (by omega), upd_ne (by omega)]; exact h.2.1 q hq
  · rw [upd_ne (f := F) (show 10 + t' ≠ 40 + t by omega)] at hs
    rw [upd_ne (f := C) (show 34 + t' ≠ 40 + t by omega), upd_ne (f := F) (show 34 + t' ≠ 40 + t by omega)]
    exact h.2.2.1 t' ht' hs
  · rw [upd_ne (f := F) (show 10 + t' ≠ 40 + t by omega)] at hs
    by_cases e : t' = t
    · subst e; rw [upd_eq, upd_eq]
    · rw [upd_ne (f := C) (show 40 + t' ≠ 40 + t by omega), upd_ne (f := F) (show 40 + t' ≠ 40 + t by omega)]
      exact h.2.2.2.1 t' ht' hs
  · rw [upd_ne (f := F) (show 46 + o' ≠ 40 + t by omega)] at hs
    rw [upd_ne (f := C) (show 70 + o' ≠ 40 + t by omega), upd_ne (f := F) (show 70 + o' ≠ 40 + t by omega)]
    exact h.2.2.2.2.1 o' ho' hs
  · rw [upd_ne (f := C) (show 94 + o' ≠ 40 + t by omega), upd_ne (f := F) (show 94 + o' ≠ 40 + t by omega)]
    exact h.2.2.2.2.2.1 o' ho'
  · show lst _ _ _ = lst _ _ _; rw [lst_upd (h.wc.q ho') (by omega) (by omega), lst_upd (h.1.q ho') (by omega) (by omega)]; exact (h.l ho').1
  · show lst _ _ _ = lst _ _ _; rw [lst_upd (h.wc.w ho') (by omega) (by omega), lst_upd (h.1.w ho') (by omega) (by omega)]; exact (h.l ho').2

theorem Rel.li {C F : Nat → Int32} {t : Nat} {x y : Int32} (h : Rel C F) (ht : t < 6) (hn : ¬ F (10 + t) = 2) : Rel (upd C (34 + t) x) (upd F (34 + t) y) := by
  refine ⟨h.1.up (by omega), fun q hq => ?_, fun t' ht' hs => ?_, fun t' ht' hs => ?_, fun o' ho' hs => ?_, fun o' ho' => ?_, fun o' ho' => ⟨?_, ?_⟩⟩
  · rw [upd_ne (by omega), upd_ne (by omega)]; exact h.2.1 q hq
  · rw [upd_ne (f := F) (show 10 + t' ≠ 34 + t by omega)] at hs
    by_cases e : t' = t
    · subst e; exact absurd hs hn
    · rw [upd_ne (f := C) (show 34 + t' ≠ 34 + t by omega), upd_ne (f := F) (show 34 + t' ≠ 34 + t by omega)]
      exact h.2.2.1 t' ht' hs
  · rw [upd_ne (f := F) (show 10 + t' ≠ 34 + t by omega)] at hs
    rw [upd_ne (f := C) (show 40 + t' ≠ 34 + t by omega), upd_ne (f := F) (show 40 + t' ≠ 34 + t by omega)]
    exact h.2.2.2.1 t' ht' hs
  · rw [upd_ne (f := F) (show 46 + o' ≠ 34 + t by omega)] at hs
    rw [upd_ne (f := C) (show 70 + o' ≠ 34 + t by omega), upd_ne (f := F) (show 70 + o' ≠ 34 + t by omega)]
    exact h.2.2.2.2.1 o' ho' hs
  · rw [upd_ne (f := C) (show 94 + o' ≠ 34 + t by omega), upd_ne (f := F) (show 94 + o' ≠ 34 + t by omega)]
    exact h.2.2.2.2.2.1 o' ho'
  · show lst _ _ _ = lst _ _ _; rw [lst_upd (h.wc.q ho') (by omega) (by omega), lst_upd (h.1.q ho') (by omega) (by omega)]; exact (h.l ho').1
  · show lst _ _ _ = lst _ _ _; rw [lst_upd (h.wc.w ho') (by omega) (by omega), lst_upd (h.1.w ho') (by omega) (by omega)]; exact (h.l ho').2

theorem Rel.ha {C F : Nat → Int32} {o : Nat} {x : Int32} (h : Rel C F) (ho : o < 8) (hx : 0 ≤ x) : Rel (upd C (94 + o) x) (upd F (94 + o) x) := by
  refine ⟨h.1.up (by omega), fun q hq => ?_, fun t' ht' hs => ?_, fun t' ht' hs => ?_, fun o' ho' hs => ?_, fun o' ho' => ?_, fun o' ho' => ⟨?_, ?_⟩⟩
  · rw [upd_ne (by omega), upd_ne (by omega)]; exact h.2.1 q hq
  · rw [upd_ne (f := F) (show 10 + t' ≠ 94 + o by omega)] at hs
    rw [upd_ne (f := C) (show 34 + t' ≠ 94 + o by omega), upd_ne (f := F) (show 34 + t' ≠ 94 + o by omega)]
    exact h.2.2.1 t' ht' hs
  · rw [upd_ne (f := F) (show 10 + t' ≠ 94 + o by omega)] at hs
    rw [upd_ne (f := C) (show 40 + t' ≠ 94 + o by omega), upd_ne (f := F) (show 40 + t' ≠ 94 + o by omega)]
    exact h.2.2.2.1 t' ht' hs
  · rw [upd_ne (f := F) (show 46 + o' ≠ 94 + o by omega)] at hs
    rw [upd_ne (f := C) (show 70 + o' ≠ 94 + o by omega), upd_ne (f := F) (show 70 + o' ≠ 94 + o by omega)]
    exact h.2.2.2.2.1 o' ho' hs
  · by_cases e : o' = o
    · subst e; rw [upd_eq, upd_eq]; exact Or.inr ⟨rfl, hx⟩
    · rw [upd_ne (f := C) (show 94 + o' ≠ 94 + o by omega), upd_ne (f := F) (show 94 + o' ≠ 94 + o by omega)]
      exact h.2.2.2.2.2.1 o' ho'
  · show lst _ _ _ = lst _ _ _; rw [lst_upd (h.wc.q ho') (by omega) (by omega), lst_upd (h.1.q ho') (by omega) (by omega)]; exact (h.l ho').1
  · show lst _ _ _ = lst _ _ _; rw [lst_upd (h.wc.w ho') (by omega) (by omega), lst_upd (h.1.w ho') (by omega) (by omega)]; exact (h.l ho').2

theorem OKs.len {F : Nat → Int32} {q p : Nat} (h : OKs F q) : F q = nI (lst F q p).length := by
  rw [lst_len]; exact h.nat.1
theorem Rel.ln {C F C' F' : Nat → Int32} (h : Rel C F) (hWC : WI C') (hWF : WI F') (hC : ∀ q, (q < 110 ∨ 222 ≤ q) → C' q = C q) (hF : ∀ q, (q < 110 ∨ 222 ≤ q) → F' q = F q) (hl : ∀ o, o < 8 → Qs C' o = Qs F' o ∧ Ws C' o = Ws F' o) : Rel C' F' := by
  refine ⟨hWF, fun q hq => ?_, fun t ht hs => ?_, fun t ht hs => ?_, fun o ho hs => ?_, fun o ho => ?_, hl⟩
  · by_cases h1 : q < 110 ∨ 222 ≤ q
    · rw [hC q h1, hF q h1]; exact h.2.1 q hq
    · by_cases h2 : q < 118
      · obtain ⟨o, rfl⟩ : ∃ o, q = 110 + o := ⟨q - 110, by omega⟩
        rw [(hWC.q (o := o) (by omega)).len (p := 126 + 6 * o), (hWF.q (o := o) (by omega)).len (p := 126 + 6 * o)]
        exact congrArg (fun l => nI (List.length l)) (hl o (by omega)).1
      · obtain ⟨o, rfl⟩ : ∃ o, q = 118 + o := ⟨q - 118, by omega⟩
        rw [(hWC.w (o := o) (by omega)).len (p := 174 + 6 * o), (hWF.w (o := o) (by omega)).len (p := 174 + 6 * o)]
        exact congrArg (fun l => nI (List.length l)) (hl o (by omega)).2
  · rw [hF _ (by omega)] at hs
    rw [hC _ (by omega), hF _ (by omega)]
    exact h.2.2.1 t ht hs
  · rw [hF _ (by omega), ] at hs
    rw [hC _ (by omega), hF _ (by omega)]
    exact h.2.2.2.1 t ht hs
  · rw [hF _ (by omega)] at hs
    rw [hC _ (by omega), hF _ (by omega)]
    exact h.2.2.2.2.1 o ho hs
  · rw [hC _ (by omega), hF _ (by omega)]
    exact h.2.2.2.2.2.1 o ho
theorem appF_o {C : Nat → Int32} {q p q' : Nat} {x : Int32} (hlt : nt (C q) < 6) (h1 : q' ≠ q) (h2 : q' < p ∨ p + 6 ≤ q') : appF C q p x q' = C q' := by
  unfold appF
  split
  · rfl
  · rw [upd_ne h1, upd_ne (by show q' ≠ p + nt (C q); omega)]
theorem shf_o {p q' : Nat} : ∀ (s : Nat) (C : Nat → Int32), s < 6 → (q' < p ∨ p + 6 ≤ q') → shf p s C q' = C q'
  | 0, C, _, _ => rfl
  | s + 1, C, hs, h => by
    show shf p s (upd C (p + (s + 1)) (C (p + s))) q' = _
    rw [shf_o s _ (by omega) h, upd_ne (by omega)]
theorem pfiF_o {C : Nat → Int32} {q p q' : Nat} {x : Int32} (hlt : nt (C q) < 6) (h1 : q' ≠ q) (h2 : q' < p ∨ p + 6 ≤ q') : pfiF C q p x q' = C q' := by
  unfold pfiF
  split
  · rfl
  · rw [upd_ne h1, upd_ne (by omega)]
    exact shf_o _ _ hlt h2
theorem Rel.nq {C F : Nat → Int32} {q : Nat} (h : Rel C F) (hq : 110 ≤ q ∧ q < 126) : nt (C q) = nt (F q) := by rw [h.e (by omega)]
theorem Rel.dropq {C F : Nat → Int32} {o : Nat} {x : Int32} (h : Rel C F) (ho : o < 8) : Rel (dropF C (110 + o) (126 + 6 * o) x) (dropF F (110 + o) (126 + 6 * o) x) :=
  h.ln (h.wc.dropq ho) (h.1.dropq ho) (fun q hq => dropF_out (h.wc.q ho) (by omega) (by omega)) (fun q hq => dropF_out (h.1.q ho) (by omega) (by omega)) (fun o' ho' => by
    rw [Qs_dropq h.wc ho ho', Qs_dropq h.1 ho ho', Ws_dropq h.wc ho ho', Ws_dropq h.1 ho ho', (h.l ho).1, (h.l ho').1, (h.l ho').2]; exact ⟨rfl, rfl⟩)
theorem Rel.dropw {C F : Nat → Int32} {o : Nat} {x : Int32} (h : Rel C F) (ho : o < 8) : Rel (dropF C (118 + o) (174 + 6 * o) x) (dropF F (118 + o) (174 + 6 * o) x) :=
  h.ln (h.wc.dropw ho) (h.1.dropw ho) (fun q hq => dropF_out (h.wc.w ho) (by omega) (by omega)) (fun q hq => dropF_out (h.1.w ho) (by omega) (by omega)) (fun o' ho' => by
    rw [Qs_dropw h.wc ho ho', Qs_dropw h.1 ho ho', Ws_dropw h.wc ho ho', Ws_dropw h.1 ho ho', (h.l ho).2, (h.l ho').1, (h.l ho').2]; exact ⟨rfl, rfl⟩)
theorem Rel.appq {C F : Nat → Int32} {o : Nat} {x : Int32} (h : Rel C F) (ho : o < 8) (hlt : nt (F (110 + o)) < 6) : Rel (appF C (110 + o) (126 + 6 * o) x) (appF F (110 + o) (126 + 6 * o) x) :=
  have hlc : nt (C (110 + o)) < 6 := by rw [h.nq (by omega)]; exact hlt
  h.ln (h.wc.appq ho) (h.1.appq ho) (fun q hq => appF_o hlc (by omega) (by omega)) (fun q hq => appF_o hlt (by omega) (by omega)) (fun o' ho' => by
    rw [Qs_appq h.wc ho ho' hlc, Qs_appq h.1 ho ho' hlt, Ws_appq h.wc ho ho', Ws_appq h.1 ho ho', (h.l ho).1, (h.l ho').1, (h.l ho').2]; exact ⟨rfl, rfl⟩)
theorem Rel.pfiq {C F : Nat → Int32} {o : Nat} {x : Int32} (h : Rel C F) (ho : o < 8) (hlt : nt (F (110 + o)) < 6) : Rel (pfiF C (110 + o) (126 + 6 * o) x) (pfiF F (110 + o) (126 + 6 * o) x) :=
  have hlc : nt (C (110 + o)) < 6 := by rw [h.nq (by omega)]; exact hlt
  h.ln (h.wc.pfiq ho) (h.1.pfiq ho) (fun q hq => pfiF_o hlc (by omega) (by omega)) (fun q hq => pfiF_o hlt (by omega) (by omega)) (fun o' ho' => by
    rw [Qs_pfiq h.wc ho ho' hlc, Qs_pfiq h.1 ho ho' hlt, Ws_pfiq h.wc ho ho' hlc, Ws_pfiq h.1 ho ho' hlt, (h.l ho).1, (h.l ho').1, (h.l ho').2]; exact ⟨rfl, rfl⟩)
theorem Rel.appw {C F : Nat → Int32} {o : Nat} {x : Int32} (h : Rel C F) (ho : o < 8) (hlt : nt (F (118 + o)) < 6) : Rel (appF C (118 + o) (174 + 6 * o) x) (appF F (118 + o) (174 + 6 * o) x) :=
  have hlc : nt (C (118 + o)) < 6 := by rw [h.nq (by omega)]; exact hlt
  h.ln (h.wc.appw ho) (h.1.appw ho) (fun q hq => appF_o hlc (by omega) (by omega)) (fun q hq => appF_o hlt (by omega) (by omega)) (fun o' ho' => by
    rw [Ws_appw h.wc ho ho' hlc, Ws_appw h.1 ho ho' hlt, Qs_appw h.wc ho ho', Qs_appw h.1 ho ho', (h.l ho).2, (h.l ho').1, (h.l ho').2]; exact ⟨rfl, rfl⟩)
theorem upd_comm {f : Nat → Int32} {i j : Nat} {x y : Int32} (h : i ≠ j) : upd (upd f i x) j y = upd (upd f j y) i x := by
  funext k
  by_cases h1 : k = i
  · subst h1; rw [upd_eq, upd_ne h, upd_eq]
  · by_cases h2 : k = j
    · subst h2; rw [upd_eq, upd_ne h1, upd_eq]
    · rw [upd_ne h2, upd_ne h1, upd_ne h1, upd_ne h2]
theorem hd_eq {C F : Nat → Int32} {o : Nat} (h : Rel C F) (ho : o < 8) : atF C (110 + o) (126 + 6 * o) 0 = atF F (110 + o) (126 + 6 * o) 0 := by
  rcases lst_at (p := 126 + 6 * o) (h.wc.q ho) with ⟨a1, a2, a3⟩ | ⟨l, a1, a2, a3, a4⟩
  · rcases lst_at (p := 126 + 6 * o) (h.1.q ho) with ⟨b1, b2, b3⟩ | ⟨l', b1, b2, b3, b4⟩
    · rw [a2, b2]
    · exact absurd ((h.e (q := 110 + o) (by omega)).symm.trans a3) b4
  · rcases lst_at (p := 126 + 6 * o) (h.1.q ho) with ⟨b1, b2, b3⟩ | ⟨l', b1, b2, b3, b4⟩
    · exact absurd ((h.e (q := 110 + o) (by omega)).trans b3) a4
    · have := (h.l ho).1
      rw [show Qs C o = _ from a1, show Qs F o = _ from b1] at this
      rw [a2, b2]; exact (List.cons.inj this).1
theorem wd_eq {C F : Nat → Int32} {o : Nat} (h : Rel C F) (ho : o < 8) : atF C (118 + o) (174 + 6 * o) 0 = atF F (118 + o) (174 + 6 * o) 0 := by
  rcases lst_at (p := 174 + 6 * o) (h.wc.w ho) with ⟨a1, a2, a3⟩ | ⟨l, a1, a2, a3, a4⟩
  · rcases lst_at (p := 174 + 6 * o) (h.1.w ho) with ⟨b1, b2, b3⟩ | ⟨l', b1, b2, b3, b4⟩
    · rw [a2, b2]
    · exact absurd ((h.e (q := 118 + o) (by omega)).symm.trans a3) b4
  · rcases lst_at (p := 174 + 6 * o) (h.1.w ho) with ⟨b1, b2, b3⟩ | ⟨l', b1, b2, b3, b4⟩
    · exact absurd ((h.e (q := 118 + o) (by omega)).trans b3) a4
    · have := (h.l ho).2
      rw [show Ws C o = _ from a1, show Ws F o = _ from b1] at this
      rw [a2, b2]; exact (List.cons.inj this).1
