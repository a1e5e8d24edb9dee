/-! a line as a list -/
def lst (F : Nat → Int32) (q p : Nat) : List Int32 := (List.range (nt (F q))).map (fun k => F (p + k))
theorem lst_len {F : Nat → Int32} {q p : Nat} : (lst F q p).length = nt (F q) := by simp [lst]
theorem range_map_congr {n : Nat} {f g : Nat → Int32} (h : ∀ i, i < n → f i = g i) : (List.range n).map f = (List.range n).map g := List.map_congr_left (fun i hi => h i (List.mem_range.mp hi))
theorem lst_congr {F F' : Nat → Int32} {q p : Nat} (hs : OKs F q) (h1 : F' q = F q) (h2 : ∀ i, i < 6 → F' (p + i) = F (p + i)) : lst F' q p = lst F q p := by
  unfold lst
  rw [h1]
  exact range_map_congr (fun i hi => h2 i (Nat.lt_of_lt_of_le hi hs.nat.2))
theorem lst_upd {F : Nat → Int32} {q p k : Nat} {x : Int32} (hs : OKs F q) (h1 : k ≠ q) (h2 : k < p ∨ p + 6 ≤ k) : lst (upd F k x) q p = lst F q p := lst_congr hs (upd_ne (fun e => h1 e.symm)) (fun i hi => upd_ne (by omega))
theorem range_succ_map (n : Nat) (f : Nat → Int32) : (List.range (n + 1)).map f = f 0 :: (List.range n).map (fun i => f (i + 1)) := by
  rw [List.range_succ_eq_map, List.map_cons, List.map_map]; rfl
theorem drp_lst {p : Nat} {x : Int32} : ∀ (n k t : Nat) (C : Nat → Int32), t ≤ k → (List.range (drp p x n k t C).2).map (fun i => (drp p x n k t C).1 (p + i)) = (List.range t).map (fun i => C (p + i)) ++ ((List.range n).map (fun i => C (p + (k + i)))).filter (fun y => !(y == x))
  | 0, k, t, C, _ => by simp [drp]
  | n + 1, k, t, C, ht => by
    rw [range_succ_map]
    have e0 : (fun i => C (p + (k + (i + 1)))) = fun i => C (p + (k + 1 + i)) := by funext i; rw [show k + (i + 1) = k + 1 + i by omega]
    rw [e0]
    by_cases h : C (p + k) = x
    · have e : drp p x (n + 1) k t C = drp p x n (k + 1) t C := by simp only [drp, if_pos h]
      rw [e, drp_lst n (k + 1) t C (by omega), List.filter_cons_of_neg (by simp [h])]
    · have e : drp p x (n + 1) k t C = drp p x n (k + 1) (t + 1) (upd C (p + t) (C (p + k))) := by simp only [drp, if_neg h]
      rw [e, drp_lst n (k + 1) (t + 1) _ (by omega), List.filter_cons_of_pos (by simp [h]), List.range_succ, List.map_append, List.append_assoc]
      congr 1
      · exact range_map_congr (fun i hi => upd_ne (by omega))
      · simp only [List.map_cons, List.map_nil, List.cons_append, List.nil_append, upd_eq, Nat.add_zero]
        congr 2
        exact range_map_congr (fun i hi => upd_ne (by omega))
theorem lst_drop {F : Nat → Int32} {q p : Nat} {x : Int32} (hs : OKs F q) (hpq : q < p ∨ p + 6 ≤ q) : lst (dropF F q p x) q p = (lst F q p).filter (fun y => !(y == x)) := by
  have h := drp_lst (p := p) (x := x) (F q).toNatClampNeg 0 0 F (Nat.le_refl _)
  have hle := drp_le (p := p) (x := x) (F q).toNatClampNeg 0 0 F
  have h6 := hs.nat.2
  simp only [List.range_zero, List.map_nil, List.nil_append, Nat.zero_add] at h
  unfold lst dropF
  rw [upd_eq, ntn (by omega), ← h]
  exact range_map_congr (fun i hi => upd_ne (by omega))
theorem lst_app {F : Nat → Int32} {q p : Nat} {x : Int32} (hs : OKs F q) (hlt : nt (F q) < 6) (hpq : q < p ∨ p + 6 ≤ q) : lst (appF F q p x) q p = lst F q p ++ [x] := by
  have hn : F q = nI (nt (F q)) := hs.nat.1
  have hc : ¬ (6 : Int32) ≤ F q := by
    rw [hn]; exact nI_ge (a := nt (F q)) (b := 6) hlt (by decide)
  have hne : q ≠ p + nt (F q) := by omega
  unfold lst appF
  rw [if_neg hc]
  have e : upd F (p + (F q).toNatClampNeg) x q = F q := upd_ne hne
  rw [upd_eq, e]
  have e2 : nt (F q + 1) = nt (F q) + 1 := by
    conv => lhs; rw [hn]
    rw [← nI_succ, ntn (by omega)]
  rw [e2, List.range_succ, List.map_append]
  congr 1
  · exact range_map_congr (fun i hi => by rw [upd_ne (by omega)]; exact upd_ne (by show p + i ≠ p + nt (F q); omega))
  · simp only [List.map_cons, List.map_nil]
    rw [upd_ne (by omega)]
    exact congrArg (fun y => [y]) upd_eq
theorem shf_at {p : Nat} : ∀ (s : Nat) (C : Nat → Int32) (i : Nat), i < s → shf p s C (p + (i + 1)) = C (p + i)
  | 0, _, _, h => by omega
  | s + 1, C, i, h => by
    show shf p s (upd C (p + (s + 1)) (C (p + s))) (p + (i + 1)) = _
    by_cases e : i = s
    · subst e
      rw [shf_out i _ (fun j hj => by omega), upd_eq]
    · rw [shf_at s _ i (by omega), upd_ne (by omega)]
theorem lst_pfi {F : Nat → Int32} {q p : Nat} {x : Int32} (hs : OKs F q) (hlt : nt (F q) < 6) (hpq : q < p ∨ p + 6 ≤ q) : lst (pfiF F q p x) q p = x :: lst F q p := by
  have hn : F q = nI (nt (F q)) := hs.nat.1
  have hc : ¬ (6 : Int32) ≤ F q := by
    rw [hn]; exact nI_ge (a := nt (F q)) (b := 6) hlt (by decide)
  unfold lst pfiF
  rw [if_neg hc]
  have e1 : shf p (F q).toNatClampNeg F q = F q := shf_out _ _ (fun i hi => by have : i ≤ nt (F q) := hi; omega)
  rw [upd_eq, upd_ne (by omega), e1]
  have e2 : nt (F q + 1) = nt (F q) + 1 := by
    conv => lhs; rw [hn]
    rw [← nI_succ, ntn (by omega)]
  rw [e2, range_succ_map]
  congr 1
  · rw [upd_ne (by omega), upd_eq]
  · exact range_map_congr (fun i hi => by rw [upd_ne (by omega), upd_ne (by omega)]; exact shf_at _ _ _ hi)
theorem lst_at {F : Nat → Int32} {q p : Nat} (hs : OKs F q) : (lst F q p = [] ∧ atF F q p 0 = -8 ∧ F q = 0) ∨ ∃ l, lst F q p = F p :: l ∧ atF F q p 0 = F p ∧ ¬ F q ≤ 0 ∧ ¬ F q = 0 := by
  obtain ⟨hn, h6⟩ : F q = nI (nt (F q)) ∧ nt (F q) ≤ 6 := hs.nat
  cases h : nt (F q) with
  | zero =>
    rw [h] at hn
    refine Or.inl ⟨by unfold lst; rw [h]; rfl, ?_, hn⟩
    unfold atF
    rw [if_neg (by decide), if_pos (by rw [hn]; decide)]
  | succ n =>
    rw [h] at hn
    have h0 : ¬ F q ≤ 0 := by rw [hn]; exact nI_nle (by omega) (by omega)
    refine Or.inr ⟨(List.range n).map (fun i => F (p + (i + 1))), ?_, ?_, h0, fun e => h0 (by rw [e]; decide)⟩
    · unfold lst; rw [h, range_succ_map]; rfl
    · unfold atF
      rw [if_neg (by decide), if_neg h0]
      rfl
