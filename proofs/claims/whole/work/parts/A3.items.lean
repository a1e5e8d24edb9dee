/-! the items of the text: class against reference -/
def wd (j : Nat) : List Nat := (fmS j).takeWhile (fun c => c != 32)
def rs (j : Nat) : List Nat := srt (soM (nI j) (nI 0)) ++ (srt (soM (nI j) (nI 1)) ++ (srt (soM (nI j) (nI 2)) ++ []))
theorem fm_eq : ∀ j, j < 10 → fmS j = wd j ++ rs j := by decide +kernel
theorem wd_lit : ∀ j, j < 10 → ∀ c, c ∈ wd j → (c < 128 ∧ c ≠ 78 ∧ c ≠ 79 ∧ c ≠ 84 ∧ c ≠ 32 ∧ c ≠ 59) := by decide +kernel
theorem opw_eq : ∀ j, j < 10 → opw (nI j) = (wd j).map nI := by decide +kernel
theorem wd_inj : ∀ i, i < 10 → ∀ j, j < 10 → wd i = wd j → i = j := by decide +kernel
theorem so_ok : ∀ j, j < 10 → (soM (nI j) (nI 0) = 0 ∨ soM (nI j) (nI 0) = 1 ∨ soM (nI j) (nI 0) = 2) ∧ (soM (nI j) (nI 1) < 0 ∨ (soM (nI j) (nI 1) = 0 ∨ soM (nI j) (nI 1) = 1 ∨ soM (nI j) (nI 1) = 2)) ∧ (soM (nI j) (nI 2) < 0 ∨ (soM (nI j) (nI 2) = 0 ∨ soM (nI j) (nI 2) = 1 ∨ soM (nI j) (nI 2) = 2)) ∧ (soM (nI j) (nI 1) < 0 → soM (nI j) (nI 2) < 0) := by decide +kernel
theorem arg_at {F : Nat → Int32} {m i : Nat} (h : F 310 = nI m) (hm : m ≤ 3) (hi : i < 3) : argF F (nI i) = if m ≤ i then 0 else F (300 + i) := by
  unfold argF
  rw [h, ntn (by omega)]
  by_cases q : m ≤ i
  · rw [if_pos q, if_pos (nI_le q (by omega))]
  · rw [if_neg q, if_neg (nI_ge (by omega) (by omega))]
section IT
variable {tx : Nat → Int32} {Ln a e : Nat}
theorem so_nn {s : Int32} (h : s = 0 ∨ s = 1 ∨ s = 2) : ¬ s < 0 := by rcases h with rfl | rfl | rfl <;> decide
theorem ag_s {p : Nat} {s : Int32} (h : ¬ s < 0) : agS tx Ln p s = argT tx Ln p s := by unfold agS; rw [if_neg h]
theorem ag_n {p : Nat} {s : Int32} (h : s < 0) : agS tx Ln p s = (0, p) := by unfold agS; rw [if_pos h]
theorem hf_tail {F : Nat → Int32} {j p : Nat} (H : Smc tx Ln a e) (hj : j < 10) (hap : a ≤ p) (hp : p ≤ e) (hF : F 310 = nI 0) : (agL tx Ln j 3 0 p = none ∧ (hfL tx Ln e (rs j) p F).1 = none) ∨ (∃ b F', agL tx Ln j 3 0 p = some b ∧ b ≤ e ∧ tx p = 32 ∧ hfL tx Ln e (rs j) p F = (some b, F') ∧ argF F' (nI 0) = (iv0 tx Ln j p).1 ∧ argF F' (nI 1) = (iv1 tx Ln j p).1 ∧ argF F' (nI 2) = (iv2 tx Ln j p).1) := by
  obtain ⟨o0, o1, o2, o3⟩ := so_ok j hj
  have eL : agL tx Ln j 3 0 p = if (iv0 tx Ln j p).1 < 0 then none else if (iv1 tx Ln j p).1 < 0 then none else if (iv2 tx Ln j p).1 < 0 then none else some (iv2 tx Ln j p).2 := rfl
  rw [eL]
  unfold iv2 iv1 iv0 rs
  generalize soM (nI j) (nI 0) = s0 at *
  generalize soM (nI j) (nI 1) = s1 at *
  generalize soM (nI j) (nI 2) = s2 at *
  have z0 : ¬ (0 : Int32) < 0 := by decide
  rw [ag_s (so_nn o0)]
  rcases hf_arg (rest := srt s1 ++ (srt s2 ++ [])) H hap hp o0 (m := 0) (by omega) hF with ⟨x1, x2⟩ | ⟨x1, x2, x3, x4, x5⟩
  · rw [if_pos x1]; exact Or.inl ⟨rfl, x2⟩
  · rw [if_neg x1, x5]
    generalize argT tx Ln p s0 = A0 at *
    have g1 : upd (upd F (300 + 0) A0.1) 310 (nI (0 + 1)) 310 = nI 1 := upd_eq
    have g10 : upd (upd F (300 + 0) A0.1) 310 (nI (0 + 1)) 300 = A0.1 := by rw [upd_ne (by decide)]; exact upd_eq
    generalize upd (upd F (300 + 0) A0.1) 310 (nI (0 + 1)) = F1 at *
    rcases o1 with o1 | o1
    · have o2' := o3 o1
      have e1 : srt s1 = [] := by unfold srt; rw [if_pos o1]
      have e2 : srt s2 = [] := by unfold srt; rw [if_pos o2']
      rw [e1, e2, ag_n o1, ag_n o2', if_neg z0, if_neg z0]
      refine Or.inr ⟨A0.2, F1, rfl, x3, x4, rfl, ?_, ?_, ?_⟩
      · rw [arg_at g1 (by omega) (by omega), if_neg (by omega)]; exact g10
      · rw [arg_at g1 (by omega) (by omega), if_pos (by omega)]
      · rw [arg_at g1 (by omega) (by omega), if_pos (by omega)]
    · rw [ag_s (so_nn o1)]
      rcases hf_arg (rest := srt s2 ++ []) (F := F1) H (p := A0.2) (by omega) x3 o1 (m := 1) (by omega) g1 with ⟨y1, y2⟩ | ⟨y1, y2, y3, y4, y5⟩
      · rw [if_pos y1]; exact Or.inl ⟨rfl, y2⟩
      · rw [if_neg y1, y5]
        generalize argT tx Ln A0.2 s1 = A1 at *
        have g2 : upd (upd F1 (300 + 1) A1.1) 310 (nI (1 + 1)) 310 = nI 2 := upd_eq
        have g20 : upd (upd F1 (300 + 1) A1.1) 310 (nI (1 + 1)) 300 = A0.1 := by rw [upd_ne (by decide), upd_ne (by decide)]; exact g10
        have g21 : upd (upd F1 (300 + 1) A1.1) 310 (nI (1 + 1)) 301 = A1.1 := by rw [upd_ne (by decide)]; exact upd_eq
        generalize upd (upd F1 (300 + 1) A1.1) 310 (nI (1 + 1)) = F2 at *
        rcases o2 with o2 | o2
        · have e2 : srt s2 = [] := by unfold srt; rw [if_pos o2]
          rw [e2, ag_n o2, if_neg z0]
          refine Or.inr ⟨A1.2, F2, rfl, y3, x4, rfl, ?_, ?_, ?_⟩
          · rw [arg_at g2 (by omega) (by omega), if_neg (by omega)]; exact g20
          · rw [arg_at g2 (by omega) (by omega), if_neg (by omega)]; exact g21
          · rw [arg_at g2 (by omega) (by omega), if_pos (by omega)]
        · rw [ag_s (so_nn o2)]
          rcases hf_arg (rest := []) (F := F2) H (p := A1.2) (by omega) y3 o2 (m := 2) (by omega) g2 with ⟨w1, w2⟩ | ⟨w1, w2, w3, w4, w5⟩
          · rw [if_pos w1]; exact Or.inl ⟨rfl, w2⟩
          · rw [if_neg w1, w5]
            generalize argT tx Ln A1.2 s2 = A2 at *
            have g3 : upd (upd F2 (300 + 2) A2.1) 310 (nI (2 + 1)) 310 = nI 3 := upd_eq
            have g30 : upd (upd F2 (300 + 2) A2.1) 310 (nI (2 + 1)) 300 = A0.1 := by rw [upd_ne (by decide), upd_ne (by decide)]; exact g20
            have g31 : upd (upd F2 (300 + 2) A2.1) 310 (nI (2 + 1)) 301 = A1.1 := by rw [upd_ne (by decide), upd_ne (by decide)]; exact g21
            have g32 : upd (upd F2 (300 + 2) A2.1) 310 (nI (2 + 1)) 302 = A2.1 := by rw [upd_ne (by decide)]; exact upd_eq
            generalize upd (upd F2 (300 + 2) A2.1) 310 (nI (2 + 1)) = F3 at *
            refine Or.inr ⟨A2.2, F3, rfl, w3, x4, rfl, ?_, ?_, ?_⟩
            · rw [arg_at g3 (by omega) (by omega), if_neg (by omega)]; exact g30
            · rw [arg_at g3 (by omega) (by omega), if_neg (by omega)]; exact g31
            · rw [arg_at g3 (by omega) (by omega), if_neg (by omega)]; exact g32
theorem pl_at : ∀ (l : List Nat) (p i : Nat), pl tx p (l.map nI) = true → i < l.length → ∃ c, c ∈ l ∧ tx (p + i) = nI c
  | [], _, _, _, h => absurd h (Nat.not_lt_zero _)
  | c :: l, p, i, h, hi => by
    have h : (decide (tx p = nI c) && pl tx (p + 1) (l.map nI)) = true := h
    rw [Bool.and_eq_true] at h
    by_cases q : i = 0
    · subst q; exact ⟨c, List.mem_cons_self, of_decide_eq_true h.1⟩
    · have hi : i < l.length + 1 := hi
      obtain ⟨c', h1, h2⟩ := pl_at l (p + 1) (i - 1) h.2 (by omega)
      exact ⟨c', List.mem_cons_of_mem _ h1, by rw [show p + i = p + 1 + (i - 1) by omega]; exact h2⟩
theorem ps_inj : ∀ (l l' : List Nat) (p : Nat), (∀ c, c ∈ l → c < 128 ∧ c ≠ 32) → (∀ c, c ∈ l' → c < 128 ∧ c ≠ 32) → pl tx p (l.map nI) = true → pl tx p (l'.map nI) = true → tx (p + l.length) = 32 → tx (p + l'.length) = 32 → l = l'
  | [], [], _, _, _, _, _, _, _ => rfl
  | [], c :: l', p, _, h2, _, h4, h5, _ => by
    have h4 : (decide (tx p = nI c) && pl tx (p + 1) (l'.map nI)) = true := h4
    rw [Bool.and_eq_true] at h4
    have e := (of_decide_eq_true h4.1).symm.trans h5
    exact absurd (nI_inj (b := 32) (by have := (h2 c List.mem_cons_self).1; omega) (by decide) e) (h2 c List.mem_cons_self).2
  | c :: l, [], p, h1, _, h3, _, _, h6 => by
    have h3 : (decide (tx p = nI c) && pl tx (p + 1) (l.map nI)) = true := h3
    rw [Bool.and_eq_true] at h3
    have e := (of_decide_eq_true h3.1).symm.trans h6
    exact absurd (nI_inj (b := 32) (by have := (h1 c List.mem_cons_self).1; omega) (by decide) e) (h1 c List.mem_cons_self).2
  | c :: l, c' :: l', p, h1, h2, h3, h4, h5, h6 => by
    have h3 : (decide (tx p = nI c) && pl tx (p + 1) (l.map nI)) = true := h3
    have h4 : (decide (tx p = nI c') && pl tx (p + 1) (l'.map nI)) = true := h4
    rw [Bool.and_eq_true] at h3 h4
    have a := (h1 c List.mem_cons_self).1
    have b := (h2 c' List.mem_cons_self).1
    have e : c = c' := nI_inj (by omega) (by omega) ((of_decide_eq_true h3.1).symm.trans (of_decide_eq_true h4.1))
    have h5 : tx (p + (l.length + 1)) = 32 := h5
    have h6 : tx (p + (l'.length + 1)) = 32 := h6
    rw [e, ps_inj l l' (p + 1) (fun x hx => h1 x (List.mem_cons_of_mem _ hx)) (fun x hx => h2 x (List.mem_cons_of_mem _ hx)) h3.2 h4.2 (by rw [show p + 1 + l.length = p + (l.length + 1) by omega]; exact h5) (by rw [show p + 1 + l'.length = p + (l'.length + 1) by omega]; exact h6)]
theorem ps_uni {i j : Nat} (hi : i < 10) (hj : j < 10) (h1 : psT tx Ln a (opw (nI i))) (h2 : psT tx Ln a (opw (nI j))) : i = j := by
  rw [opw_eq i hi] at h1
  rw [opw_eq j hj] at h2
  obtain ⟨⟨-, a2⟩, a3⟩ := h1
  obtain ⟨⟨-, b2⟩, b3⟩ := h2
  rw [List.length_map] at a2 b2
  exact wd_inj i hi j hj (ps_inj _ _ a (fun c hc => ⟨(wd_lit i hi c hc).1, (wd_lit i hi c hc).2.2.2.2.1⟩) (fun c hc => ⟨(wd_lit j hj c hc).1, (wd_lit j hj c hc).2.2.2.2.1⟩) a3 b3 a2 b2)
/-- the word ends before the semicolon -/
theorem ps_le {j : Nat} (H : Smc tx Ln a e) (hj : j < 10) (h : psT tx Ln a (opw (nI j))) : a + (wd j).length ≤ e ∧ pl tx a ((wd j).map nI) = true := by
  rw [opw_eq j hj] at h
  refine ⟨Decidable.not_not.mp (fun z => ?_), h.2⟩
  obtain ⟨H1, H2, H3, H4⟩ := H
  obtain ⟨c, c1, c2⟩ := pl_at (tx := tx) (wd j) a (e - a) h.2 (by omega)
  rw [show a + (e - a) = e by omega, H3] at c2
  have := wd_lit j hj c c1
  exact this.2.2.2.2.2 (nI_inj (a := c) (b := 59) (by omega) (by decide) c2.symm)
def itP (tx : Nat → Int32) (Ln a e j : Nat) : Prop := psT tx Ln a (opw (nI j)) ∧ agL tx Ln j 3 0 (a + (opw (nI j)).length) = some e
theorem hf_form {F : Nat → Int32} {j : Nat} (H : Smc tx Ln a e) (hj : j < 10) : ((hfL tx Ln e (fmS j) a (upd F 310 0)).1 = some e ↔ itP tx Ln a e j) ∧ ((hfL tx Ln e (fmS j) a (upd F 310 0)).1 = some e → argF (hfL tx Ln e (fmS j) a (upd F 310 0)).2 (nI 0) = (iv0 tx Ln j (a + (opw (nI j)).length)).1 ∧ argF (hfL tx Ln e (fmS j) a (upd F 310 0)).2 (nI 1) = (iv1 tx Ln j (a + (opw (nI j)).length)).1 ∧ argF (hfL tx Ln e (fmS j) a (upd F 310 0)).2 (nI 2) = (iv2 tx Ln j (a + (opw (nI j)).length)).1) := by
  have el : (opw (nI j)).length = (wd j).length := by rw [opw_eq j hj, List.length_map]
  rw [fm_eq j hj, hf_word H.2.1 (wd j) a H.1 (wd_lit j hj), el]
  unfold itP
  rw [el]
  by_cases q : a + (wd j).length ≤ e ∧ pl tx a ((wd j).map nI) = true
  · rw [if_pos q]
    rcases hf_tail (F := upd F 310 0) H hj (p := a + (wd j).length) (by omega) q.1 upd_eq with ⟨x1, x2⟩ | ⟨b, F', x1, x2, x3, x4, x5⟩
    · rw [x1, x2]
      exact ⟨⟨fun z => (by cases z), fun z => (by cases z.2)⟩, fun z => (by cases z)⟩
    · rw [x1, x4]
      have := H.2.1
      exact ⟨⟨fun z => ⟨⟨⟨by rw [el]; omega, by rw [el]; exact x3⟩, by rw [opw_eq j hj]; exact q.2⟩, z⟩, fun z => z.2⟩, fun _ => x5⟩
  · rw [if_neg q]
    exact ⟨⟨fun z => (by cases z), fun z => absurd (ps_le H hj z.1) q⟩, fun z => (by cases z)⟩
theorem opL_some : ∀ (n k j : Nat), opL tx Ln a n k = some j → (k ≤ j ∧ j < k + n) ∧ psT tx Ln a (opw (nI j))
  | 0, _, _, h => by cases h
  | n + 1, k, j, h => by
    unfold opL at h
    by_cases q : psT tx Ln a (opw (nI k))
    · rw [if_pos q] at h
      cases h
      exact ⟨⟨Nat.le_refl _, by omega⟩, q⟩
    · rw [if_neg q] at h
      obtain ⟨g1, g2⟩ := opL_some n (k + 1) j h
      exact ⟨by omega, g2⟩
theorem opL_none : ∀ (n k : Nat), opL tx Ln a n k = none → ∀ j, k ≤ j → j < k + n → ¬ psT tx Ln a (opw (nI j))
  | 0, _, _, j, h1, h2 => absurd h2 (by omega)
  | n + 1, k, h, j, h1, h2 => by
    unfold opL at h
    by_cases q : psT tx Ln a (opw (nI k))
    · rw [if_pos q] at h; cases h
    · rw [if_neg q] at h
      by_cases e : j = k
      · subst e; exact q
      · exact opL_none n (k + 1) h j (by omega) (by omega)
theorem opL_eq {j : Nat} (hj : j < 10) (h : psT tx Ln a (opw (nI j))) : opL tx Ln a 10 0 = some j := by
  cases q : opL tx Ln a 10 0 with
  | none => exact absurd h (opL_none 10 0 q j (by omega) (by omega))
  | some i =>
    obtain ⟨g1, g2⟩ := opL_some 10 0 i q
    rw [ps_uni (by omega) hj g2 h]
theorem agS_up {p : Nat} {s : Int32} : p ≤ (agS tx Ln p s).2 := by
  unfold agS argT ar2
  repeat' split
  all_goals first | exact Nat.le_refl _ | (show p ≤ p + 2; omega) | (show p ≤ p + 2 + 1; omega)
theorem agL_up {j : Nat} : ∀ (n k p b : Nat), agL tx Ln j n k p = some b → p ≤ b
  | 0, _, p, b, h => by cases h; exact Nat.le_refl _
  | n + 1, k, p, b, h => by
    unfold agL at h
    split at h
    · cases h
    · exact Nat.le_trans agS_up (agL_up n (k + 1) _ b h)
theorem rdL_none : ∀ (n j : Nat) (F : Nat → Int32), (∀ i, j ≤ i → i < j + n → ∀ K, ¬ (hfL tx Ln e (fmS i) a (upd K 310 0)).1 = some e) → (rdL tx Ln a e n j F).1 = -1
  | 0, _, _, _ => rfl
  | n + 1, j, F, h => by
    unfold rdL
    rw [if_neg (h j (Nat.le_refl _) (by omega) F)]
    exact rdL_none n (j + 1) _ (fun i h1 h2 => h i (by omega) (by omega))
theorem rdL_some {t : Nat} : ∀ (n j : Nat) (F : Nat → Int32), j ≤ t → t < j + n → (∀ i, j ≤ i → i < t → ∀ K, ¬ (hfL tx Ln e (fmS i) a (upd K 310 0)).1 = some e) → (∀ K, (hfL tx Ln e (fmS t) a (upd K 310 0)).1 = some e) → ∃ K, rdL tx Ln a e n j F = (nI t, (hfL tx Ln e (fmS t) a (upd K 310 0)).2)
  | 0, _, _, h1, h2, _, _ => absurd h2 (by omega)
  | n + 1, j, F, h1, h2, h3, h4 => by
    unfold rdL
    by_cases q : j = t
    · subst q
      rw [if_pos (h4 F)]
      exact ⟨F, rfl⟩
    · rw [if_neg (h3 j (Nat.le_refl _) (by omega) F)]
      exact rdL_some n (j + 1) _ (by omega) (by omega) (fun i a1 a2 => h3 i (by omega) a2) h4
/-- an item, read by both -/
theorem rd_item {F : Nat → Int32} (H : Smc tx Ln a e) : (itA tx Ln a = none ∧ (rdL tx Ln a e 10 0 F).1 = -1) ∨ (itA tx Ln a = some (e + 1) ∧ ∃ j, j < 10 ∧ (itX tx Ln a).1 = nI j ∧ (rdL tx Ln a e 10 0 F).1 = nI j ∧ argF (rdL tx Ln a e 10 0 F).2 (nI 0) = (itX tx Ln a).2.1 ∧ argF (rdL tx Ln a e 10 0 F).2 (nI 1) = (itX tx Ln a).2.2.1 ∧ argF (rdL tx Ln a e 10 0 F).2 (nI 2) = (itX tx Ln a).2.2.2) := by
  by_cases ex : ∃ j, j < 10 ∧ itP tx Ln a e j
  · obtain ⟨j, hj, hP⟩ := ex
    have ho := opL_eq hj hP.1
    refine Or.inr ⟨?_, j, hj, ?_⟩
    · unfold itA
      rw [ho]
      show (match agL tx Ln j 3 0 (a + (opw (nI j)).length) with | none => none | some b => if edT tx Ln b then some (b + 1) else none) = _
      rw [hP.2]
      show (if edT tx Ln e then some (e + 1) else none) = _
      rw [if_pos ⟨H.2.1, H.2.2.1⟩]
    · obtain ⟨K, hK⟩ := rdL_some (tx := tx) (Ln := Ln) (a := a) (e := e) (t := j) 10 0 F (by omega) (by omega) (fun i a1 a2 K z => by
        have := ps_uni (by omega) hj ((hf_form (F := K) H (j := i) (by omega)).1.mp z).1 hP.1
        omega) (fun K => (hf_form H hj).1.mpr hP)
      obtain ⟨v0, v1, v2⟩ := (hf_form (F := K) H hj).2 ((hf_form H hj).1.mpr hP)
      have hX : itX tx Ln a = (nI j, (iv0 tx Ln j (a + (opw (nI j)).length)).1, (iv1 tx Ln j (a + (opw (nI j)).length)).1, (iv2 tx Ln j (a + (opw (nI j)).length)).1) := by
        unfold itX; rw [ho]
      rw [hK, hX]
      exact ⟨rfl, rfl, v0, v1, v2⟩
  · refine Or.inl ⟨?_, rdL_none 10 0 F (fun i h1 h2 K z => ex ⟨i, by omega, (hf_form H (by omega)).1.mp z⟩)⟩
    unfold itA
    cases q : opL tx Ln a 10 0 with
    | none => rfl
    | some j =>
      obtain ⟨g1, g2⟩ := opL_some 10 0 j q
      have hj : j < 10 := by omega
      show (match agL tx Ln j 3 0 (a + (opw (nI j)).length) with | none => none | some b => if edT tx Ln b then some (b + 1) else none) = none
      cases r : agL tx Ln j 3 0 (a + (opw (nI j)).length) with
      | none => rfl
      | some b =>
        show (if edT tx Ln b then some (b + 1) else none) = none
        rw [if_neg]
        intro ed
        have el : (opw (nI j)).length = (wd j).length := by rw [opw_eq j hj, List.length_map]
        have pe := (ps_le H hj g2).1
        have ab := agL_up _ _ _ _ r
        rcases hf_tail (F := upd (fun _ => 0) 310 0) H hj (p := a + (opw (nI j)).length) (by omega) (by omega) upd_eq with ⟨x1, -⟩ | ⟨b', -, x1, x2, -⟩
        · rw [x1] at r; cases r
        · have bb : b' = b := Option.some.inj (x1.symm.trans r)
          have be : b = e := by
            rcases Nat.lt_or_ge b e with z | z
            · exact absurd ed.2 (H.2.2.2 b (by omega) z)
            · omega
          exact ex ⟨j, hj, g2, by rw [r, be]⟩
theorem it_no (ha : a ≤ Ln) (h : ¬ eoI tx Ln a < Ln) : itA tx Ln a = none := by
  unfold itA
  cases q : opL tx Ln a 10 0 with
  | none => rfl
  | some j =>
    show (match agL tx Ln j 3 0 (a + (opw (nI j)).length) with | none => none | some b => if edT tx Ln b then some (b + 1) else none) = none
    cases r : agL tx Ln j 3 0 (a + (opw (nI j)).length) with
    | none => rfl
    | some b =>
      show (if edT tx Ln b then some (b + 1) else none) = none
      have ab := agL_up _ _ _ _ r
      rw [if_neg (fun ed => Smc.no ha h (by omega) ed.1 ed.2)]
/-- the number of the faulty item -/
theorem fi_ft : ∀ (n a it : Nat) (F : Nat → Int32), a ≤ Ln → (fiL tx Ln n a it F).1 = ftR tx Ln n a it
  | 0, _, _, _, _ => rfl
  | n + 1, a, it, F, ha => by
    unfold fiL ftR
    by_cases q : a < Ln
    · rw [if_pos q, if_neg (show ¬ Ln ≤ a by omega)]
      by_cases z : eoI tx Ln a < Ln
      · rw [if_pos z]
        have H := Smc.of (tx := tx) ha z
        rcases rd_item (F := F) H with ⟨h1, h2⟩ | ⟨h1, j, hj, h2, h3, h4⟩
        · rw [h1, h2, if_pos rfl]
        · rw [h1, h3, if_neg (fun w => absurd (by rw [w]; decide) (nI_pos (show j < 2 ^ 31 by omega)))]
          exact fi_ft n (eoI tx Ln a + 1) (it + 1) _ (by omega)
      · rw [if_neg z, it_no ha z]
    · rw [if_neg q, if_pos (show Ln ≤ a by omega)]
end IT
