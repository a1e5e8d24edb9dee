/-! saved states: class against reference -/
theorem cpS_at {j : Nat} : ∀ (n i : Nat) (F : Nat → Int32) (k : Nat), i + n ≤ 482 → cpS j n i F k = if 3000 + (482 * j + i) ≤ k ∧ k < 3000 + (482 * j + i) + n then F (k - (3000 + 482 * j)) else F k
  | 0, i, F, k, _ => by rw [if_neg (by omega)]; rfl
  | n + 1, i, F, k, h => by
    show cpS j n (i + 1) (upd F (3000 + (482 * j + i)) (F i)) k = _
    rw [cpS_at n (i + 1) _ k (by omega)]
    by_cases h1 : 3000 + (482 * j + (i + 1)) ≤ k ∧ k < 3000 + (482 * j + (i + 1)) + n
    · rw [if_pos h1, if_pos (by omega), upd_ne (by omega)]
    · rw [if_neg h1]
      by_cases e : k = 3000 + (482 * j + i)
      · subst e; rw [upd_eq, if_pos (by omega)]; congr 1; omega
      · rw [upd_ne e, if_neg (by omega)]
theorem cpL_at {j : Nat} : ∀ (n i : Nat) (F : Nat → Int32) (k : Nat), i + n ≤ 482 → cpL j n i F k = if i ≤ k ∧ k < i + n then F (3000 + (482 * j + k)) else F k
  | 0, i, F, k, _ => by rw [if_neg (by omega)]; rfl
  | n + 1, i, F, k, h => by
    show cpL j n (i + 1) (upd F i (F (3000 + (482 * j + i)))) k = _
    rw [cpL_at n (i + 1) _ k (by omega)]
    by_cases h1 : i + 1 ≤ k ∧ k < i + 1 + n
    · rw [if_pos h1, if_pos (by omega), upd_ne (by omega)]
    · rw [if_neg h1]
      by_cases e : k = i
      · subst e; rw [upd_eq, if_pos (by omega)]
      · rw [upd_ne e, if_neg (by omega)]
/-- the bit of slot t is clear -/
abbrev btz (x : Int32) (t : Nat) : Prop := (x >>> (nI t &&& 31)) &&& 1 = 0
/-- slot t: not used, or the same state -/
def SLk (S : Nat → Nat → Int32) (F : Nat → Int32) (n r t ri rw_ rj : Nat) : Prop := (S ri 2 = 0 ∧ btz (F 9000) t) ∨ (S ri 2 = 1 ∧ ¬ btz (F 9000) t ∧ CR (updS (updS S 1 (S rw_)) 3 (S rj)) (fun k => F (3000 + (482 * t + k))) n r)
theorem SLk.cg {S S' : Nat → Nat → Int32} {F F' : Nat → Int32} {n r n' r' t ri rw_ rj : Nat} (h : SLk S F n r t ri rw_ rj) (h1 : S' ri = S ri) (h2 : S' rw_ = S rw_) (h3 : S' rj = S rj) (ht : t < 2) (hF : ∀ k, 3000 ≤ k → k < 3964 → F' k = F k) (h9 : F' 9000 = F 9000) (hn : n ≤ n') (hr : r ≤ r') (hn' : n' ≤ 100000) (hr' : r' ≤ 100000000) : SLk S' F' n' r' t ri rw_ rj := by
  unfold SLk at h ⊢
  rw [h1, h2, h3, h9]
  rcases h with h | ⟨a, b, c⟩
  · exact Or.inl h
  · refine Or.inr ⟨a, b, (c.sm ?_ ?_ (fun k hk => hF _ (by omega) (by omega))).mo hn hr hn' hr'⟩
    · rw [updS_ne (by decide), updS_eq, updS_ne (by decide), updS_eq]
    · rw [updS_eq, updS_eq]
/-- the text on both sides -/
def TXk (S : Nat → Nat → Int32) (F : Nat → Int32) : Prop := ∃ tx Ln, POK (S 4) tx Ln ∧ TOK F tx Ln
/-- class and reference: all of it -/
def SR (S : Nat → Nat → Int32) (n r : Nat) : Prop := CR S (S 12) n r ∧ TXk S (S 12) ∧ OKa (S 4) ∧ (∃ b, b < 4 ∧ S 12 9000 = nI b) ∧ SLk S (S 12) n r 0 6 7 8 ∧ SLk S (S 12) n r 1 9 10 11
theorem bits : ∀ b, b < 4 → (∀ t, t < 2 → ∃ b', b' < 4 ∧ (nI b ||| (1 <<< (nI t &&& 31))) = nI b' ∧ ¬ (nI b' >>> (nI t &&& 31)) &&& 1 = 0 ∧ ∀ u, u < 2 → u ≠ t → ((nI b' >>> (nI u &&& 31)) &&& 1 = 0 ↔ (nI b >>> (nI u &&& 31)) &&& 1 = 0)) := by
  intro b hb t ht
  refine ⟨b ||| (1 <<< t), ?_, ?_⟩
  · match b, hb, t, ht with
    | 0, _, 0, _ => decide
    | 1, _, 0, _ => decide
    | 2, _, 0, _ => decide
    | 3, _, 0, _ => decide
    | 0, _, 1, _ => decide
    | 1, _, 1, _ => decide
    | 2, _, 1, _ => decide
    | 3, _, 1, _ => decide
  · match b, hb, t, ht with
    | 0, _, 0, _ => decide
    | 1, _, 0, _ => decide
    | 2, _, 0, _ => decide
    | 3, _, 0, _ => decide
    | 0, _, 1, _ => decide
    | 1, _, 1, _ => decide
    | 2, _, 1, _ => decide
    | 3, _, 1, _ => decide
/-- what the calls leave of the rest -/
theorem SR.keep {S S' : Nat → Nat → Int32} {n r n' r' : Nat} (h : SR S n r) (hC : CR S' (S' 12) n' r') (hT : TXk S' (S' 12)) (hA : OKa (S' 4)) (hS : ∀ k, (6 ≤ k ∧ k < 12) → S' k = S k) (hF : ∀ k, (3000 ≤ k ∧ k < 3964) ∨ k = 9000 → S' 12 k = S 12 k) (hn : n ≤ n') (hr : r ≤ r') : SR S' n' r' := by
  obtain ⟨h1, h2, h3, ⟨b, b1, b2⟩, h5, h6⟩ := h
  have hn' := hC.2.1.1.2.1
  have hr' := hC.2.1.1.2.2
  exact ⟨hC, hT, hA, ⟨b, b1, (hF 9000 (by omega)).trans b2⟩, h5.cg (hS 6 (by omega)) (hS 7 (by omega)) (hS 8 (by omega)) (by omega) (fun k a c => hF k (by omega)) (hF 9000 (by omega)) hn hr hn' hr', h6.cg (hS 9 (by omega)) (hS 10 (by omega)) (hS 11 (by omega)) (by omega) (fun k a c => hF k (by omega)) (hF 9000 (by omega)) hn hr hn' hr'⟩
theorem TXk.cg {S S' : Nat → Nat → Int32} {F F' : Nat → Int32} (h : TXk S F) (h4 : S' 4 = S 4) (hF : ∀ k, (5000 ≤ k ∧ k < 5200) ∨ k = 9001 → F' k = F k) : TXk S' F' := by
  obtain ⟨tx, Ln, h1, h2⟩ := h
  exact ⟨tx, Ln, by rw [h4]; exact h1, (hF 9001 (by omega)).trans h2.1, h2.2.1, fun k hk => (hF (5000 + k) (by omega)).trans (h2.2.2 k hk)⟩
