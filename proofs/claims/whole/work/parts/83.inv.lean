/-! what always holds of the reference -/
def TI (F : Nat → Int32) (n t : Nat) : Prop := (F (16 + t) = 0 ∨ F (16 + t) = 1) ∧ ((F (10 + t) = 1 ∨ F (10 + t) = 2) → ∃ g, 1 ≤ g ∧ g ≤ n ∧ F (40 + t) = nI g)
def OI (F : Nat → Int32) (n o : Nat) : Prop := (∃ s, s ≤ 4 ∧ F (46 + o) = nI s) ∧ (∃ c, c ≤ n ∧ F (62 + o) = nI c ∧ (c = 0 → F (54 + o) = -8) ∧ (0 < c → ∃ u, u < nt (F 0) ∧ F (54 + o) = nI u)) ∧ (F (46 + o) = 0 ∨ F (46 + o) = 1 → F (62 + o) = 0) ∧ (F (46 + o) = 3 → ¬ F (62 + o) ≤ 0) ∧ (F (46 + o) = 2 → (∃ u, u < nt (F 0) ∧ F (70 + o) = nI u) ∧ (¬ F (62 + o) ≤ 0 → F (54 + o) = F (70 + o) ∧ F (78 + o) = F (222 + o % 3))) ∧ (¬ F (46 + o) = 4 → F (110 + o) = 0 ∧ F (118 + o) = 0) ∧ (F (86 + o) = 0 ∨ F (86 + o) = 1) ∧ (F (94 + o) = -8 ∨ ∃ h, h < 1000 ∧ F (94 + o) = nI h)
def GI (F : Nat → Int32) (n r : Nat) : Prop := (∃ T, 2 ≤ T ∧ T ≤ 6 ∧ F 0 = nI T) ∧ (∃ m, m ≤ 20 * n ∧ F 9 = nI m) ∧ (∃ z, z ≤ r ∧ F 239 = nI z) ∧ (∃ h, h ≤ n ∧ F 240 = nI h) ∧ (∀ c, c < 3 → F (228 + c) = 0 ∨ F (228 + c) = 1)
def INV (F : Nat → Int32) (n r : Nat) : Prop := (1 ≤ n ∧ n ≤ 100000 ∧ r ≤ 100000000) ∧ TS F ∧ GI F n r ∧ (∀ t, t < 6 → TI F n t) ∧ (∀ o, o < 8 → OI F n o)
theorem TI.cg {F F' : Nat → Int32} {n n' t : Nat} (h : TI F n t) (hn : n ≤ n') (he : ∀ k, (k = 10 + t ∨ k = 16 + t ∨ k = 40 + t) → F' k = F k) : TI F' n' t := by
  unfold TI at h ⊢
  rw [he (10 + t) (by omega), he (16 + t) (by omega), he (40 + t) (by omega)]
  exact ⟨h.1, fun q => by obtain ⟨g, g1, g2, g3⟩ := h.2 q; exact ⟨g, g1, by omega, g3⟩⟩
theorem OI.cg {F F' : Nat → Int32} {n n' o : Nat} (h : OI F n o) (hn : n ≤ n') (he : ∀ k, (k = 0 ∨ k = 46 + o ∨ k = 54 + o ∨ k = 62 + o ∨ k = 70 + o ∨ k = 78 + o ∨ k = 222 + o % 3 ∨ k = 86 + o ∨ k = 94 + o ∨ k = 110 + o ∨ k = 118 + o) → F' k = F k) : OI F' n' o := by
  unfold OI at h ⊢
  rw [he 0 (by omega), he (46 + o) (by omega), he (54 + o) (by omega), he (62 + o) (by omega), he (70 + o) (by omega), he (78 + o) (by omega), he (222 + o % 3) (by omega), he (86 + o) (by omega), he (94 + o) (by omega), he (110 + o) (by omega), he (118 + o) (by omega)]
  obtain ⟨h1, ⟨c, c1, c2⟩, h3⟩ := h
  exact ⟨h1, ⟨c, by omega, c2⟩, h3⟩
theorem GI.cg {F F' : Nat → Int32} {n n' r r' : Nat} (h : GI F n r) (hn : n ≤ n') (hr : r ≤ r') (he : ∀ k, (k = 0 ∨ k = 9 ∨ k = 239 ∨ k = 240 ∨ (228 ≤ k ∧ k < 231)) → F' k = F k) : GI F' n' r' := by
  unfold GI at h ⊢
  rw [he 0 (by omega), he 9 (by omega), he 239 (by omega), he 240 (by omega)]
  obtain ⟨h1, ⟨m, m1, m2⟩, ⟨z, z1, z2⟩, ⟨k, k1, k2⟩, h5⟩ := h
  exact ⟨h1, ⟨m, by omega, m2⟩, ⟨z, by omega, z2⟩, ⟨k, by omega, k2⟩, fun c hc => by rw [he (228 + c) (by omega)]; exact h5 c hc⟩
theorem INV.T {F : Nat → Int32} {n r : Nat} (h : INV F n r) : ∃ T, 2 ≤ T ∧ T ≤ 6 ∧ F 0 = nI T ∧ nt (F 0) = T := by
  obtain ⟨T, h1, h2, h3⟩ := h.2.2.1.1
  exact ⟨T, h1, h2, h3, by rw [h3, ntn (by omega)]⟩
theorem INV.mono {F : Nat → Int32} {n r n' r' : Nat} (h : INV F n r) (h1 : n ≤ n') (h2 : r ≤ r') (h3 : n' ≤ 100000) (h4 : r' ≤ 100000000) : INV F n' r' := ⟨⟨Nat.le_trans h.1.1 h1, h3, h4⟩, h.2.1, h.2.2.1.cg h1 h2 (fun _ _ => rfl), fun t ht => (h.2.2.2.1 t ht).cg h1 (fun _ _ => rfl), fun o ho => (h.2.2.2.2 o ho).cg h1 (fun _ _ => rfl)⟩
/-- counts: held or not -/
theorem OI.cnt {F : Nat → Int32} {n o : Nat} (h : OI F n o) (hn : n ≤ 100000) : (F (62 + o) ≤ 0 ↔ F (62 + o) = 0) ∧ (F (62 + o) = 0 → F (54 + o) = -8) ∧ (¬ F (62 + o) ≤ 0 → ∃ u, u < nt (F 0) ∧ F (54 + o) = nI u) := by
  obtain ⟨c, c1, c2, c3, c4⟩ := h.2.1
  rw [c2]
  have e : nI c ≤ 0 ↔ c = 0 := by rw [← nI_0, nI_leI (by omega) (by decide)]; omega
  have e2 : nI c = 0 ↔ c = 0 := by rw [← nI_0, nI_eq (by omega) (by decide)]
  exact ⟨e.trans e2.symm, fun q => c3 (e2.mp q), fun q => c4 (by rw [e] at q; omega)⟩
theorem lkv5 {F : Nat → Int32} {k : Nat} (h : ∃ s, s ≤ 4 ∧ F k = nI s) : F k = 0 ∨ F k = 1 ∨ F k = 2 ∨ F k = 3 ∨ F k = 4 := by
  obtain ⟨s, h1, h2⟩ := h
  rw [h2]
  match s, h1 with
  | 0, _ => exact Or.inl rfl
  | 1, _ => exact Or.inr (Or.inl rfl)
  | 2, _ => exact Or.inr (Or.inr (Or.inl rfl))
  | 3, _ => exact Or.inr (Or.inr (Or.inr (Or.inl rfl)))
  | 4, _ => exact Or.inr (Or.inr (Or.inr (Or.inr rfl)))
/-- idle locks, counted and found alike -/
theorem monL_cg {C F : Nat → Int32} : ∀ (n i : Nat) (a : Int32), i + n ≤ 8 → (∀ o, o < 8 → (C (46 + o) = 4 ↔ F (46 + o) = 4)) → monL C n i a = monL F n i a
  | 0, _, _, _, _ => rfl
  | n + 1, i, a, hi, h => by
    show monL C n (i + 1) _ = monL F n (i + 1) _
    have := h i (by omega)
    rw [monL_cg n (i + 1) _ (by omega) h]
    congr 1
    by_cases q : F (46 + i) = 4
    · rw [if_pos q, if_pos (this.mpr q)]
    · rw [if_neg q, if_neg (fun z => q (this.mp z))]
theorem lid_cg {C F : Nat → Int32} (h1 : ∀ o, o < 8 → (idlP C o ↔ idlM F o)) (h2 : ∀ o, o < 8 → C (102 + o) = F (102 + o)) : ∀ (n i : Nat) (f : Option Nat), i + n ≤ 8 → (∀ j, f = some j → j < 8) → lidL C n i f = lidML F n i f
  | 0, _, _, _, _ => rfl
  | n + 1, i, f, hi, hf => by
    show lidL C n (i + 1) (lidS C i f) = lidML F n (i + 1) (lidMS F i f)
    have e : lidS C i f = lidMS F i f := by
      unfold lidS lidMS
      by_cases q : idlM F i
      · rw [if_pos q, if_pos ((h1 i (by omega)).mpr q)]
        cases f with
        | none => rfl
        | some j =>
          show (if C (102 + j) ≤ C (102 + i) then some j else some i) = (if F (102 + j) ≤ F (102 + i) then some j else some i)
          rw [h2 j (hf j rfl), h2 i (by omega)]
      · rw [if_neg q, if_neg (fun z => q ((h1 i (by omega)).mp z))]
    rw [e]
    exact lid_cg h1 h2 n (i + 1) _ (by omega) (lidMS_lt (by omega) hf)
theorem Rel.mon {C F : Nat → Int32} (h : Rel C F) : monF C = monF F := monL_cg 8 0 0 (by omega) (fun o ho => by rw [h.e (by omega)])
theorem Rel.lid {C F : Nat → Int32} {n r : Nat} (h : Rel C F) (hi : INV F n r) : lidF C = lidM F := lid_cg (fun o ho => by
    have := ((hi.2.2.2.2 o ho).cnt hi.1.2.1).1
    unfold idlP idlM
    rw [h.e (by omega), h.e (q := 62 + o) (by omega), h.e (q := 110 + o) (by omega), h.e (q := 118 + o) (by omega), this]) (fun o ho => h.e (by omega)) 8 0 none (by omega) (fun j q => by cases q)
theorem valF_at {C : Nat → Int32} {j : Nat} (hj : j < 8) : valF C (nI j) = C (1 + j) := by
  unfold valF
  rw [if_neg (nI_pos (by omega)), if_neg (show ¬ (8 : Int32) ≤ nI j from nI_ge (a := j) (b := 8) hj (by decide)), ntn (by omega)]
theorem Rel.cin {C F : Nat → Int32} {n r : Nat} (h : Rel C F) (hi : INV F n r) : cinP C ↔ cifM F := by
  unfold cinP cifM freP
  rw [h.lid hi, h.mon, show valF C 6 = C 7 from valF_at (j := 6) (by decide), h.e (by omega), Int32.not_le]
theorem lidM_idle {F : Nat → Int32} : ∀ (n i : Nat) (f : Option Nat), i + n ≤ 8 → (∀ j, f = some j → j < 8 ∧ idlM F j) → ∀ j, lidML F n i f = some j → j < 8 ∧ idlM F j
  | 0, _, f, _, hf, j, h => hf j h
  | n + 1, i, f, hi, hf, j, h => by
    refine lidM_idle n (i + 1) (lidMS F i f) (by omega) (fun j' h' => ?_) j h
    unfold lidMS at h'
    by_cases q : idlM F i
    · rw [if_pos q] at h'
      cases f with
      | none => cases h'; exact ⟨by omega, q⟩
      | some z =>
        have h' : (if F (102 + z) ≤ F (102 + i) then some z else some i) = some j' := h'
        by_cases q2 : F (102 + z) ≤ F (102 + i)
        · rw [if_pos q2] at h'; cases h'; exact hf _ rfl
        · rw [if_neg q2] at h'; cases h'; exact ⟨by omega, q⟩
    · rw [if_neg q] at h'; exact hf j' h'
theorem Rel.defl {C F : Nat → Int32} {j : Nat} (h : Rel C F) (hj : j < 8) : Rel (deflF C j) (deflF F j) := by
  unfold deflF
  have e : upd C (46 + j) 0 (231 + 3) = upd F (46 + j) 0 (231 + 3) := by rw [upd_ne (by omega), upd_ne (by omega)]; exact h.e (by omega)
  rw [e]
  exact (h.lk hj (by decide)).up (by omega)
theorem INV.defl {F : Nat → Int32} {n r j : Nat} (h : INV F n r) (hj : j < 8) (hidle : idlM F j) : INV (deflF F j) n r := by
  have out : ∀ k, k ≠ 46 + j → k ≠ 234 → deflF F j k = F k := fun k h1 h2 => by unfold deflF; rw [upd_ne (by omega), upd_ne h1]
  have at46 : deflF F j (46 + j) = 0 := by unfold deflF; rw [upd_ne (by omega), upd_eq]
  refine ⟨h.1, (h.2.1.up (by omega)).up (by omega), h.2.2.1.cg (Nat.le_refl _) (Nat.le_refl _) (fun k hk => out k (by omega) (by omega)), fun t ht => (h.2.2.2.1 t ht).cg (Nat.le_refl _) (fun k hk => out k (by omega) (by omega)), fun o ho => ?_⟩
  by_cases e : o = j
  · subst e
    have hO := h.2.2.2.2 o ho
    unfold OI at hO ⊢
    rw [at46, out 0 (by omega) (by omega), out (54 + o) (by omega) (by omega), out (62 + o) (by omega) (by omega), out (70 + o) (by omega) (by omega), out (78 + o) (by omega) (by omega), out (222 + o % 3) (by omega) (by omega), out (86 + o) (by omega) (by omega), out (94 + o) (by omega) (by omega), out (110 + o) (by omega) (by omega), out (118 + o) (by omega) (by omega)]
    exact ⟨⟨0, by omega, rfl⟩, hO.2.1, fun _ => ((h.2.2.2.2 o ho).cnt h.1.2.1).1.mp hidle.2.1, fun q => absurd q (by decide), fun q => absurd q (by decide), fun _ => hidle.2.2, hO.2.2.2.2.2.2⟩
  · exact (h.2.2.2.2 o ho).cg (Nat.le_refl _) (fun k hk => out k (by omega) (by omega))
theorem Rel.in2 {C F : Nat → Int32} {o : Nat} (h : Rel C F) (ho : o < 8) : Rel (upd (upd (upd C (46 + o) 4) (102 + o) (upd C (46 + o) 4 9)) (231 + 2) (upd (upd C (46 + o) 4) (102 + o) (upd C (46 + o) 4 9) (231 + 2) + 1)) (inf2 F o) := by
  unfold inf2
  have e1 : upd C (46 + o) 4 9 = F 9 := by rw [upd_ne (by omega)]; exact h.e (by omega)
  have e2 : upd (upd F (46 + o) 4) (70 + o) (-8) 9 = F 9 := by rw [upd_ne (by omega), upd_ne (by omega)]
  have e3 : upd (upd C (46 + o) 4) (102 + o) (F 9) (231 + 2) = F 233 := by rw [upd_ne (by omega), upd_ne (by omega)]; exact h.e (by omega)
  have e4 : upd (upd (upd F (46 + o) 4) (70 + o) (-8)) (102 + o) (F 9) 233 = F 233 := by rw [upd_ne (by omega), upd_ne (by omega), upd_ne (by omega)]
  rw [e1, e2, e3, e4]
  exact (((h.lk ho (by decide)).biF ho (by rw [upd_eq]; decide)).up (by omega)).up (by omega)
theorem inf2_out {F : Nat → Int32} {o k : Nat} (h : k ≠ 46 + o ∧ k ≠ 70 + o ∧ k ≠ 102 + o ∧ k ≠ 233) : inf2 F o k = F k := by
  unfold inf2; rw [upd_ne (by omega), upd_ne (by omega), upd_ne (by omega), upd_ne (by omega)]
theorem inf2_46 {F : Nat → Int32} {o : Nat} (ho : o < 8) : inf2 F o (46 + o) = 4 := by
  unfold inf2; rw [upd_ne (by omega), upd_ne (by omega), upd_ne (by omega), upd_eq]
theorem INV.in2 {F : Nat → Int32} {n r o : Nat} (h : INV F n r) (ho : o < 8) : INV (inf2 F o) n r := by
  refine ⟨h.1, h.2.1.of ((((SamT.rf.up (by omega)).up (by omega)).up (by omega)).up (by omega)), h.2.2.1.cg (Nat.le_refl _) (Nat.le_refl _) (fun k hk => inf2_out (by omega)), fun t ht => (h.2.2.2.1 t ht).cg (Nat.le_refl _) (fun k hk => inf2_out (by omega)), fun o' ho' => ?_⟩
  by_cases e : o' = o
  · subst e
    have hO := h.2.2.2.2 o' ho
    unfold OI at hO ⊢
    rw [inf2_46 ho, inf2_out (k := 0) (by omega), inf2_out (k := 54 + o') (by omega), inf2_out (k := 62 + o') (by omega), inf2_out (k := 86 + o') (by omega), inf2_out (k := 94 + o') (by omega)]
    exact ⟨⟨4, by omega, rfl⟩, hO.2.1, fun q => absurd q (by decide), fun q => absurd q (by decide), fun q => absurd q (by decide), fun q => absurd rfl q, hO.2.2.2.2.2.2⟩
  · exact (h.2.2.2.2 o' ho').cg (Nat.le_refl _) (fun k hk => inf2_out (by omega))
theorem Rel.inf {C F : Nat → Int32} {n r o : Nat} (h : Rel C F) (hi : INV F n r) (ho : o < 8) (hc : cifM F) : Rel (inflF C o) (infM F o) ∧ INV (infM F o) n r := by
  have hf : freP C ↔ monF F < F 7 := by
    unfold freP
    rw [h.mon, show valF C 6 = C 7 from valF_at (j := 6) (by decide), h.e (by omega), Int32.not_le]
  unfold inflF infM mkrF
  by_cases q : monF F < F 7
  · rw [if_pos q, if_pos (hf.mpr q)]
    exact ⟨h.in2 ho, hi.in2 ho⟩
  · rw [if_neg q, if_neg (fun z => q (hf.mp z)), h.lid hi]
    cases hj : lidM F with
    | none => exact absurd hj (hc.resolve_left q)
    | some j =>
      obtain ⟨hj8, hidle⟩ := lidM_idle 8 0 none (by omega) (fun j q => by cases q) j hj
      exact ⟨(h.defl hj8).in2 ho, (hi.defl hj8 hidle).in2 ho⟩
theorem inf_46 {F : Nat → Int32} {o : Nat} (ho : o < 8) (hc : cifM F) : infM F o (46 + o) = 4 := by
  unfold infM
  split
  · exact inf2_46 ho
  · rename_i q
    cases hj : lidM F with
    | none => exact absurd hj (hc.resolve_left q)
    | some j => exact inf2_46 ho
/-- bias lost -/
theorem Rel.lose {C F : Nat → Int32} {o : Nat} (h : Rel C F) (ho : o < 8) : Rel (loseF C o) (ubM F o) := by
  unfold loseF ubM
  have e : (if C (62 + o) ≤ 0 then (0 : Int32) else 3) = (if ¬ F (62 + o) ≤ 0 then 3 else 0) := by
    rw [h.e (by omega)]
    by_cases q : F (62 + o) ≤ 0
    · rw [if_pos q, if_neg (fun z => z q)]
    · rw [if_neg q, if_pos q]
  rw [e]
  have e2 : ¬ (if ¬ F (62 + o) ≤ 0 then (3 : Int32) else 0) = 2 := by split <;> decide
  exact (h.lk ho e2).biF ho (by rw [upd_eq]; exact e2)
theorem ub_out {F : Nat → Int32} {o k : Nat} (h : k ≠ 46 + o ∧ k ≠ 70 + o) : ubM F o k = F k := by
  unfold ubM; rw [upd_ne (by omega), upd_ne (by omega)]
theorem ub_46 {F : Nat → Int32} {o : Nat} (ho : o < 8) : ubM F o (46 + o) = if ¬ F (62 + o) ≤ 0 then 3 else 0 := by
  unfold ubM; rw [upd_ne (by omega), upd_eq]
theorem INV.ub {F : Nat → Int32} {n r o : Nat} (h : INV F n r) (ho : o < 8) (h4 : ¬ F (46 + o) = 4) : INV (ubM F o) n r := by
  refine ⟨h.1, (h.2.1.up (by omega)).up (by omega), h.2.2.1.cg (Nat.le_refl _) (Nat.le_refl _) (fun k hk => ub_out (by omega)), fun t ht => (h.2.2.2.1 t ht).cg (Nat.le_refl _) (fun k hk => ub_out (by omega)), fun o' ho' => ?_⟩
  by_cases e : o' = o
  · subst e
    have hO := h.2.2.2.2 o' ho
    have hcn := (hO.cnt h.1.2.1).1
    unfold OI at hO ⊢
    rw [ub_46 ho, ub_out (k := 0) (by omega), ub_out (k := 54 + o') (by omega), ub_out (k := 62 + o') (by omega), ub_out (k := 110 + o') (by omega), ub_out (k := 118 + o') (by omega), ub_out (k := 86 + o') (by omega), ub_out (k := 94 + o') (by omega)]
    by_cases q : F (62 + o') ≤ 0
    · rw [if_neg (fun z => z q)]
      exact ⟨⟨0, by omega, rfl⟩, hO.2.1, fun _ => hcn.mp q, fun q => absurd q (by decide), fun q => absurd q (by decide), fun _ => hO.2.2.2.2.2.1 h4, hO.2.2.2.2.2.2⟩
    · rw [if_pos q]
      exact ⟨⟨3, by omega, rfl⟩, hO.2.1, fun q => absurd q (by decide), fun _ => q, fun q => absurd q (by decide), fun _ => hO.2.2.2.2.2.1 h4, hO.2.2.2.2.2.2⟩
  · exact (h.2.2.2.2 o' ho').cg (Nat.le_refl _) (fun k hk => ub_out (by omega))
