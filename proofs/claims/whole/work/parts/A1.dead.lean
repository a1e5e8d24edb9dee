/-! who waits for itself: class against reference -/
def gn (F : Nat → Int32) (t : Nat) : Option Nat := if F (10 + t) = 1 then (if F (62 + nt (F (28 + t))) ≤ 0 then none else some (nt (F (54 + nt (F (28 + t)))))) else none
def gi (F : Nat → Int32) : Nat → Nat → Option Nat
  | 0, y => some y
  | j + 1, y => (gn F y).bind (gi F j)
theorem nd_len : ∀ (a b : List Nat), a.Nodup → a ⊆ b → a.length ≤ b.length
  | [], _, _, _ => Nat.zero_le _
  | x :: a, b, hn, hs => by
    have hx : x ∈ b := hs List.mem_cons_self
    have h5 : a ⊆ b.erase x := fun y hy => by
      have hne : y ≠ x := fun e => (List.nodup_cons.mp hn).1 (e ▸ hy)
      exact (List.mem_erase_of_ne hne).mpr (hs (List.mem_cons_of_mem _ hy))
    have h6 := nd_len a (b.erase x) (List.nodup_cons.mp hn).2 h5
    rw [List.length_erase_of_mem hx] at h6
    have := List.length_pos_of_mem hx
    show a.length + 1 ≤ b.length
    omega
theorem gi_add {F : Nat → Int32} : ∀ (a b y : Nat), gi F (a + b) y = (gi F a y).bind (gi F b)
  | 0, b, y => by rw [Nat.zero_add]; rfl
  | a + 1, b, y => by
    rw [show a + 1 + b = a + b + 1 by omega]
    show (gn F y).bind (gi F (a + b)) = ((gn F y).bind (gi F a)).bind (gi F b)
    cases gn F y with
    | none => rfl
    | some z => exact gi_add a b z
theorem gi_short {F : Nat → Int32} {T : Nat} (hb : ∀ t, t < T → ∀ u, gn F t = some u → u < T) : ∀ (m j x : Nat), j ≤ m → x < T → 1 ≤ j → gi F j x = some x → ∃ i, 1 ≤ i ∧ i ≤ T ∧ gi F i x = some x
  | 0, j, _, hj, _, h1, _ => absurd h1 (by omega)
  | m + 1, j, x, hj, hx, h1, h => by
    by_cases hT : j ≤ T
    · exact ⟨j, h1, hT, h⟩
    · have bd : ∀ a y, y < T → ∀ u, gi F a y = some u → u < T := by
        intro a
        induction a with
        | zero => intro y hy u hu; cases hu; exact hy
        | succ a ih =>
          intro y hy u hu
          have hu : (gn F y).bind (gi F a) = some u := hu
          cases e : gn F y with
          | none => rw [e] at hu; cases hu
          | some z => rw [e] at hu; exact ih z (hb y hy z e) u hu
      have sm : ∀ a, a < j → ∃ u, gi F a x = some u ∧ u < T := fun a ha => by
        have e := gi_add (F := F) a (j - a) x
        rw [show a + (j - a) = j by omega, h] at e
        cases g : gi F a x with
        | none => rw [g] at e; cases e
        | some u => exact ⟨u, rfl, bd a x hx u g⟩
      have ex : ∃ a b, a < b ∧ b < j ∧ gi F a x = gi F b x := Classical.byContradiction (fun no => by
        have nd : ((List.range j).map (fun a => (gi F a x).getD 0)).Nodup := by
          refine List.pairwise_map.mpr (List.Pairwise.imp_of_mem ?_ List.pairwise_lt_range)
          intro a b ha hb' hab q
          obtain ⟨u, u1, -⟩ := sm a (List.mem_range.mp ha)
          obtain ⟨v, v1, -⟩ := sm b (List.mem_range.mp hb')
          rw [u1, v1] at q
          exact no ⟨a, b, hab, List.mem_range.mp hb', by rw [u1, v1]; exact congrArg some q⟩
        have sb : ((List.range j).map (fun a => (gi F a x).getD 0)) ⊆ List.range T := fun y hy => by
          obtain ⟨a, a1, rfl⟩ := List.mem_map.mp hy
          obtain ⟨u, u1, u2⟩ := sm a (List.mem_range.mp a1)
          rw [u1]
          exact List.mem_range.mpr u2
        have := nd_len _ _ nd sb
        rw [List.length_map, List.length_range, List.length_range] at this
        exact hT this)
      obtain ⟨a, b, hab, hbj, e⟩ := ex
      have e1 := gi_add (F := F) b (j - b) x
      rw [show b + (j - b) = j by omega, ← e, ← gi_add] at e1
      exact gi_short hb m (a + (j - b)) x (by omega) hx (by omega) (e1.symm.trans h)
section DL
variable {C F : Nat → Int32} {n r : Nat}
theorem isT_of {t : Nat} (hi : INV F n r) (ht : t < nt (F 0)) : isT F (nI t) := by
  obtain ⟨T, t1, t2, t3, t4⟩ := hi.T
  refine ⟨nI_pos (by omega), ?_⟩
  rw [t3, sub1 (by omega)]
  exact nI_nlt (by omega) (by omega)
theorem wf_all {t : Nat} (h : Rel C F) (hi : INV F n r) (ht : t < nt (F 0)) : (∃ u, u < nt (F 0) ∧ gn F t = some u ∧ wfM F t = nI u ∧ wfF C (nI t) = nI u) ∨ (gn F t = none ∧ wfM F t = -1 ∧ wfF C (nI t) = -8) := by
  obtain ⟨T, t1, t2, t3, t4⟩ := hi.T
  have hT := (hasT_iff h hi).mpr (isT_of hi ht)
  unfold gn wfM wfF
  rw [if_pos hT, ntn (show t < 2 ^ 31 by omega), h.e (q := 10 + t) (by omega), h.e (q := 28 + t) (by omega)]
  by_cases q : F (10 + t) = 1
  · rw [if_pos q, if_pos q, if_pos q]
    obtain ⟨o, ho, ha⟩ : ∃ o, o < 8 ∧ F (28 + t) = nI o := by
      rcases hi.2.1.2.2.2.2 t ht with ⟨-, o, ho, a, -⟩ | ⟨z, -⟩ | ⟨z, -⟩
      · exact ⟨o, ho, a⟩
      · exact absurd (q.symm.trans z) (by decide)
      · rcases z with z | z <;> exact absurd (q.symm.trans z) (by decide)
    have hio : isO (F (28 + t)) := by rw [ha]; exact ⟨nI_pos (by omega), nI_ge (a := o) (b := 8) ho (by decide)⟩
    rw [if_pos hio, ha, ntn (show o < 2 ^ 31 by omega), h.e (q := 54 + o) (by omega)]
    have hc := (hi.2.2.2.2 o ho).cnt hi.1.2.1
    by_cases z : F (62 + o) ≤ 0
    · rw [if_pos z, if_neg (fun w => w z), hc.2.1 (hc.1.mp z)]
      exact Or.inr ⟨rfl, rfl, rfl⟩
    · obtain ⟨u, u1, u2⟩ := hc.2.2 z
      rw [if_neg z, if_pos z, u2, ntn (show u < 2 ^ 31 by omega)]
      exact Or.inl ⟨u, u1, rfl, rfl, rfl⟩
  · rw [if_neg q, if_neg q, if_neg q]
    exact Or.inr ⟨rfl, rfl, rfl⟩
theorem ws_neg {x : Nat} (hx : x < 6) : ∀ m, wsL C (nI x) m (-8) = false
  | 0 => rfl
  | m + 1 => by
    have e : wfF C (-8) = -8 := by unfold wfF; rw [if_neg (fun z => absurd z.1 (by decide))]
    unfold wsL
    rw [e, if_neg (fun z => absurd (by rw [← z]; decide) (nI_pos (show x < 2 ^ 31 by omega)))]
    exact ws_neg hx m
theorem dl_neg {x : Nat} : ∀ m, dlI F x m (-1) = -1
  | 0 => rfl
  | m + 1 => by unfold dlI; rw [if_pos (by decide)]
theorem ws_iff {x : Nat} (h : Rel C F) (hi : INV F n r) (hx : x < nt (F 0)) : ∀ (m y : Nat), y < nt (F 0) → (wsL C (nI x) m (nI y) = true ↔ ∃ j, 1 ≤ j ∧ j ≤ m ∧ gi F j y = some x)
  | 0, y, _ => ⟨fun z => (by cases z), fun ⟨j, a, b, _⟩ => absurd a (by omega)⟩
  | m + 1, y, hy => by
    obtain ⟨T, t1, t2, t3, t4⟩ := hi.T
    unfold wsL
    rcases wf_all h hi hy with ⟨u, u1, u2, u3, u4⟩ | ⟨u2, u3, u4⟩
    · rw [u4]
      by_cases e : u = x
      · subst e
        rw [if_pos rfl]
        exact ⟨fun _ => ⟨1, by omega, by omega, by show (gn F y).bind (gi F 0) = _; rw [u2]; rfl⟩, fun _ => rfl⟩
      · rw [if_neg (fun q => e (nI_inj (by omega) (by omega) q)), ws_iff h hi hx m u u1]
        constructor
        · rintro ⟨j, a, b, c⟩
          exact ⟨j + 1, by omega, by omega, by show (gn F y).bind (gi F j) = _; rw [u2]; exact c⟩
        · rintro ⟨j, a, b, c⟩
          obtain ⟨i, rfl⟩ : ∃ i, j = i + 1 := ⟨j - 1, by omega⟩
          have c : (gn F y).bind (gi F i) = some x := c
          rw [u2] at c
          have c : gi F i u = some x := c
          by_cases i0 : i = 0
          · subst i0; exact absurd (Option.some.inj c) e
          · exact ⟨i, by omega, by omega, c⟩
    · rw [u4, if_neg (fun z => absurd (by rw [← z]; decide) (nI_pos (show x < 2 ^ 31 by omega))), ws_neg (by omega) m]
      refine ⟨fun z => (by cases z), ?_⟩
      rintro ⟨j, a, b, c⟩
      obtain ⟨i, rfl⟩ : ∃ i, j = i + 1 := ⟨j - 1, by omega⟩
      have c : (gn F y).bind (gi F i) = some x := c
      rw [u2] at c
      cases c
theorem dl_iff {x : Nat} (h : Rel C F) (hi : INV F n r) (hx : x < nt (F 0)) : ∀ (m y : Nat), y < nt (F 0) → (dlI F x m (nI y) = nI x ↔ ∃ j, j ≤ m ∧ gi F j y = some x)
  | 0, y, hy => by
    obtain ⟨T, t1, t2, t3, t4⟩ := hi.T
    constructor
    · intro z
      have z : nI y = nI x := z
      exact ⟨0, by omega, congrArg some (nI_inj (by omega) (by omega) z)⟩
    · rintro ⟨j, a, b⟩
      have : j = 0 := by omega
      subst this
      exact congrArg nI (Option.some.inj b)
  | m + 1, y, hy => by
    obtain ⟨T, t1, t2, t3, t4⟩ := hi.T
    unfold dlI
    rw [if_neg (nI_pos (by omega))]
    by_cases e : y = x
    · subst e
      rw [if_pos rfl]
      exact ⟨fun _ => ⟨0, by omega, rfl⟩, fun _ => rfl⟩
    · rw [if_neg (fun q => e (nI_inj (by omega) (by omega) q)), ntn (show y < 2 ^ 31 by omega)]
      rcases wf_all h hi hy with ⟨u, u1, u2, u3, u4⟩ | ⟨u2, u3, u4⟩
      · rw [u3, dl_iff h hi hx m u u1]
        constructor
        · rintro ⟨j, a, b⟩
          exact ⟨j + 1, by omega, by show (gn F y).bind (gi F j) = _; rw [u2]; exact b⟩
        · rintro ⟨j, a, b⟩
          by_cases j0 : j = 0
          · subst j0; exact absurd (Option.some.inj b) e
          · obtain ⟨i, rfl⟩ : ∃ i, j = i + 1 := ⟨j - 1, by omega⟩
            have b : (gn F y).bind (gi F i) = some x := b
            rw [u2] at b
            exact ⟨i, by omega, b⟩
      · rw [u3, dl_neg]
        constructor
        · intro z; exact absurd (by rw [← z]; decide) (nI_pos (show x < 2 ^ 31 by omega))
        · rintro ⟨j, a, b⟩
          by_cases j0 : j = 0
          · subst j0; exact absurd (Option.some.inj b) e
          · obtain ⟨i, rfl⟩ : ∃ i, j = i + 1 := ⟨j - 1, by omega⟩
            have b : (gn F y).bind (gi F i) = some x := b
            rw [u2] at b
            cases b
theorem dead_1 {x : Nat} (h : Rel C F) (hi : INV F n r) (hx : x < nt (F 0)) : wsL C (nI x) (nt (C 0)) (nI x) = true ↔ dlI F x 6 (wfM F x) = nI x := by
  obtain ⟨T, t1, t2, t3, t4⟩ := hi.T
  rw [h.e (q := 0) (by omega), ws_iff h hi hx (nt (F 0)) x hx]
  have hb : ∀ t, t < nt (F 0) → ∀ u, gn F t = some u → u < nt (F 0) := fun t ht u hu => by
    rcases wf_all h hi ht with ⟨u', u1, u2, -⟩ | ⟨u2, -⟩
    · rw [u2] at hu; cases hu; exact u1
    · rw [u2] at hu; cases hu
  rcases wf_all h hi hx with ⟨u, u1, u2, u3, u4⟩ | ⟨u2, u3, u4⟩
  · rw [u3, dl_iff h hi hx 6 u u1]
    constructor
    · rintro ⟨j, a, b, c⟩
      obtain ⟨i, rfl⟩ : ∃ i, j = i + 1 := ⟨j - 1, by omega⟩
      have c : (gn F x).bind (gi F i) = some x := c
      rw [u2] at c
      exact ⟨i, by omega, c⟩
    · rintro ⟨j, a, b⟩
      have c : gi F (j + 1) x = some x := by show (gn F x).bind (gi F j) = _; rw [u2]; exact b
      exact gi_short hb (j + 1) (j + 1) x (Nat.le_refl _) hx (by omega) c
  · rw [u3, dl_neg]
    constructor
    · rintro ⟨j, a, b, c⟩
      obtain ⟨i, rfl⟩ : ∃ i, j = i + 1 := ⟨j - 1, by omega⟩
      have c : (gn F x).bind (gi F i) = some x := c
      rw [u2] at c
      cases c
    · intro z; exact absurd (by rw [← z]; decide) (nI_pos (show x < 2 ^ 31 by omega))
theorem dead_L (h : Rel C F) (hi : INV F n r) : ∀ (m i : Nat) (a : Int32), i + m = nt (F 0) → deC C m i a = dlL F m i a
  | 0, _, _, _ => rfl
  | m + 1, i, a, hm => by
    unfold deC dlL
    rw [dead_L h hi m (i + 1) _ (by omega)]
    congr 1
    have := dead_1 h hi (x := i) (by omega)
    by_cases q : dlI F i 6 (wfM F i) = nI i
    · rw [if_pos q, if_pos (this.mpr q)]
    · rw [if_neg q, if_neg (fun z => q (this.mp z)), Int32.or_zero]
theorem q_dead (h : Rel C F) (hi : INV F n r) : deC C (nt (C 0)) 0 0 = deadM F := by
  unfold deadM
  rw [h.e (q := 0) (by omega)]
  exact dead_L h hi _ 0 0 (by omega)
theorem OWN.of (hi : INV F n r) : OWN F := fun o ho hc => ((hi.2.2.2.2 o ho).cnt hi.1.2.1).2.2 hc
end DL
