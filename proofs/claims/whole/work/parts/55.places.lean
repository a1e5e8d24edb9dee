/-! where each thread is: it stands in at most one line, and that line is where its state says -/
def TSa (T : Nat) (st at_ : Nat → Int32) (Q W : Nat → List Int32) : Prop :=
  (∀ o, o < 8 → (Q o).Nodup ∧ (W o).Nodup) ∧
  (∀ o x, o < 8 → x ∈ Q o → ∃ t, t < T ∧ x = nI t ∧ st t = 1 ∧ at_ t = nI o) ∧
  (∀ o x, o < 8 → x ∈ W o → ∃ t, t < T ∧ x = nI t ∧ st t = 2 ∧ at_ t = nI o) ∧
  (∀ t, t < T → (st t = 1 ∧ ∃ o, o < 8 ∧ at_ t = nI o ∧ nI t ∈ Q o) ∨ (st t = 2 ∧ ∃ o, o < 8 ∧ at_ t = nI o ∧ nI t ∈ W o) ∨ ((st t = 0 ∨ st t = 3) ∧ at_ t = -8))
theorem nI_inj {a b : Nat} (ha : a < 2 ^ 31) (hb : b < 2 ^ 31) (h : nI a = nI b) : a = b := by
  have := congrArg Int32.toNatClampNeg h
  rwa [nI_clamp ha, nI_clamp hb] at this
/-- a thread goes to another place -/
theorem TSa.mv {T t : Nat} {st at_ st' at' : Nat → Int32} {Q W Q' W' : Nat → List Int32} (h : TSa T st at_ Q W) (hT : T ≤ 6) (ht : t < T) (hst : ∀ u, u < T → u ≠ t → st' u = st u) (hat : ∀ u, u < T → u ≠ t → at' u = at_ u) (hnd : ∀ o, o < 8 → (Q' o).Nodup ∧ (W' o).Nodup)
    (hQ : ∀ o x, o < 8 → (x ∈ Q' o ↔ (x ∈ Q o ∧ x ≠ nI t) ∨ (x = nI t ∧ st' t = 1 ∧ at' t = nI o))) (hW : ∀ o x, o < 8 → (x ∈ W' o ↔ (x ∈ W o ∧ x ≠ nI t) ∨ (x = nI t ∧ st' t = 2 ∧ at' t = nI o)))
    (hd : (st' t = 1 ∧ ∃ o, o < 8 ∧ at' t = nI o) ∨ (st' t = 2 ∧ ∃ o, o < 8 ∧ at' t = nI o) ∨ ((st' t = 0 ∨ st' t = 3) ∧ at' t = -8)) : TSa T st' at' Q' W' := by
  obtain ⟨h1, h2, h3, h4⟩ := h
  refine ⟨hnd, fun o x ho hx => ?_, fun o x ho hx => ?_, fun u hu => ?_⟩
  · rcases (hQ o x ho).mp hx with ⟨hx, hne⟩ | ⟨rfl, a, b⟩
    · obtain ⟨u, hu, rfl, a, b⟩ := h2 o x ho hx
      have hut : u ≠ t := fun e => hne (by rw [e])
      exact ⟨u, hu, rfl, (hst u hu hut).trans a, (hat u hu hut).trans b⟩
    · exact ⟨t, ht, rfl, a, b⟩
  · rcases (hW o x ho).mp hx with ⟨hx, hne⟩ | ⟨rfl, a, b⟩
    · obtain ⟨u, hu, rfl, a, b⟩ := h3 o x ho hx
      have hut : u ≠ t := fun e => hne (by rw [e])
      exact ⟨u, hu, rfl, (hst u hu hut).trans a, (hat u hu hut).trans b⟩
    · exact ⟨t, ht, rfl, a, b⟩
  · by_cases e : u = t
    · subst e
      rcases hd with ⟨a, o, ho, b⟩ | ⟨a, o, ho, b⟩ | ⟨a, b⟩
      · exact Or.inl ⟨a, o, ho, b, (hQ o _ ho).mpr (Or.inr ⟨rfl, a, b⟩)⟩
      · exact Or.inr (Or.inl ⟨a, o, ho, b, (hW o _ ho).mpr (Or.inr ⟨rfl, a, b⟩)⟩)
      · exact Or.inr (Or.inr ⟨a, b⟩)
    · have hne : nI u ≠ nI t := fun q => e (nI_inj (by omega) (by omega) q)
      rcases h4 u hu with ⟨a, o, ho, b, m⟩ | ⟨a, o, ho, b, m⟩ | ⟨a, b⟩
      · exact Or.inl ⟨(hst u hu e).trans a, o, ho, (hat u hu e).trans b, (hQ o _ ho).mpr (Or.inl ⟨m, hne⟩)⟩
      · exact Or.inr (Or.inl ⟨(hst u hu e).trans a, o, ho, (hat u hu e).trans b, (hW o _ ho).mpr (Or.inl ⟨m, hne⟩)⟩)
      · refine Or.inr (Or.inr ⟨?_, (hat u hu e).trans b⟩)
        rw [hst u hu e]; exact a
/-- a line has room for a thread that isn't in it -/
theorem room_of {T : Nat} {l : List Int32} {t : Nat} (hT : T ≤ 6) (hn : l.Nodup) (hl : ∀ x, x ∈ l → ∃ u, u < T ∧ x = nI u) (ht : t < T) (hnot : nI t ∉ l) : l.length < 6 := by
  have h1 : (nI t :: l).Nodup := List.nodup_cons.mpr ⟨hnot, hn⟩
  have h2 : (nI t :: l) ⊆ (List.range T).map nI := by
    intro x hx
    rcases List.mem_cons.mp hx with rfl | hx
    · exact List.mem_map.mpr ⟨t, List.mem_range.mpr ht, rfl⟩
    · obtain ⟨u, hu, rfl⟩ := hl x hx
      exact List.mem_map.mpr ⟨u, List.mem_range.mpr hu, rfl⟩
  have h3 : (nI t :: l).length ≤ ((List.range T).map nI).length := by
    have key : ∀ (a b : List Int32), a.Nodup → a ⊆ b → a.length ≤ b.length := by
      intro a
      induction a with
      | nil => intro b _ _; simp
      | cons x a ih =>
        intro b hn hs
        have hx : x ∈ b := hs List.mem_cons_self
        have h5 : a ⊆ b.erase x := by
          intro y hy
          have hyb := hs (List.mem_cons_of_mem _ hy)
          have hne : y ≠ x := fun e => (List.nodup_cons.mp hn).1 (e ▸ hy)
          exact (List.mem_erase_of_ne hne).mpr hyb
        have := ih (b.erase x) (List.nodup_cons.mp hn).2 h5
        rw [List.length_erase_of_mem hx] at this
        have hpos : 0 < b.length := List.length_pos_of_mem hx
        simp only [List.length_cons]
        omega
    exact key _ _ h1 h2
  simp at h3
  omega
abbrev Qs (F : Nat → Int32) (o : Nat) : List Int32 := lst F (110 + o) (126 + 6 * o)
abbrev Ws (F : Nat → Int32) (o : Nat) : List Int32 := lst F (118 + o) (174 + 6 * o)
/-- the threads' places -/
def TS (F : Nat → Int32) : Prop := WI F ∧ TSa (nt (F 0)) (fun t => F (10 + t)) (fun t => F (28 + t)) (Qs F) (Ws F)
/-- what the places rest on is the same -/
def SamT (F F' : Nat → Int32) : Prop := ∀ q, (q = 0 ∨ (10 ≤ q ∧ q < 16) ∨ (28 ≤ q ∧ q < 34) ∨ (110 ≤ q ∧ q < 222)) → F' q = F q
theorem SamT.rf {F : Nat → Int32} : SamT F F := fun _ _ => rfl
theorem SamT.tr {F F1 F2 : Nat → Int32} (h : SamT F F1) (h' : SamT F1 F2) : SamT F F2 := fun q hq => (h' q hq).trans (h q hq)
theorem SamT.up {F F1 : Nat → Int32} {k : Nat} {x : Int32} (h : SamT F F1) (hk : k ≠ 0 ∧ (k < 10 ∨ (16 ≤ k ∧ k < 28) ∨ (34 ≤ k ∧ k < 110) ∨ 222 ≤ k)) : SamT F (upd F1 k x) := fun q hq => by rw [upd_ne (by omega)]; exact h q hq
theorem SamT.s {F F1 : Nat → Int32} (h : SamT F F1) : SameS F F1 := fun q hq => h q (by omega)
theorem SamT.q {F F1 : Nat → Int32} (h : SamT F F1) (hW : WI F) {o : Nat} (ho : o < 8) : Qs F1 o = Qs F o := lst_congr (hW.q ho) (h _ (by omega)) (fun i hi => h _ (by omega))
theorem SamT.w {F F1 : Nat → Int32} (h : SamT F F1) (hW : WI F) {o : Nat} (ho : o < 8) : Ws F1 o = Ws F o := lst_congr (hW.w ho) (h _ (by omega)) (fun i hi => h _ (by omega))
theorem TSa.eq {T : Nat} {st at_ st' at' : Nat → Int32} {Q W Q' W' : Nat → List Int32} (h : TSa T st at_ Q W) (h1 : ∀ t, t < T → st' t = st t) (h2 : ∀ t, t < T → at' t = at_ t) (h3 : ∀ o, o < 8 → Q' o = Q o) (h4 : ∀ o, o < 8 → W' o = W o) : TSa T st' at' Q' W' := by
  obtain ⟨a, b, c, e⟩ := h
  refine ⟨fun o ho => by rw [h3 o ho, h4 o ho]; exact a o ho, fun o x ho hx => ?_, fun o x ho hx => ?_, fun t ht => ?_⟩
  · rw [h3 o ho] at hx
    obtain ⟨t, g1, g2, g3, g4⟩ := b o x ho hx
    exact ⟨t, g1, g2, (h1 t g1).trans g3, (h2 t g1).trans g4⟩
  · rw [h4 o ho] at hx
    obtain ⟨t, g1, g2, g3, g4⟩ := c o x ho hx
    exact ⟨t, g1, g2, (h1 t g1).trans g3, (h2 t g1).trans g4⟩
  · rw [h1 t ht, h2 t ht]
    rcases e t ht with ⟨g, o, ho, g1, g2⟩ | ⟨g, o, ho, g1, g2⟩ | g
    · exact Or.inl ⟨g, o, ho, g1, by rw [h3 o ho]; exact g2⟩
    · exact Or.inr (Or.inl ⟨g, o, ho, g1, by rw [h4 o ho]; exact g2⟩)
    · exact Or.inr (Or.inr g)
theorem TS.of {F F1 : Nat → Int32} (h : TS F) (hs : SamT F F1) : TS F1 := by
  refine ⟨h.1.of hs.s, ?_⟩
  have h0 : F1 0 = F 0 := hs 0 (Or.inl rfl)
  have hT := h.1.thr.2
  rw [h0]
  exact h.2.eq (fun t ht => hs _ (by omega)) (fun t ht => hs _ (by omega)) (fun o ho => hs.q h.1 ho) (fun o ho => hs.w h.1 ho)
theorem TS.up {F : Nat → Int32} {k : Nat} {x : Int32} (h : TS F) (hk : k ≠ 0 ∧ (k < 10 ∨ (16 ≤ k ∧ k < 28) ∨ (34 ≤ k ∧ k < 110) ∨ 222 ≤ k)) : TS (upd F k x) := h.of (SamT.rf.up hk)
theorem TS.run {F : Nat → Int32} {t : Nat} (h : TS F) (ht : t < nt (F 0)) (hr : ¬ F (10 + t) = 1 ∧ ¬ F (10 + t) = 2) : F (28 + t) = -8 ∧ ∀ o, o < 8 → nI t ∉ Qs F o ∧ nI t ∉ Ws F o := by
  have hT := h.1.thr.2
  refine ⟨?_, fun o ho => ⟨fun m => ?_, fun m => ?_⟩⟩
  · rcases h.2.2.2.2 t ht with ⟨g, -⟩ | ⟨g, -⟩ | ⟨-, g⟩
    · exact absurd g hr.1
    · exact absurd g hr.2
    · exact g
  · obtain ⟨u, g1, g2, g3, -⟩ := h.2.2.1 o _ ho m
    have e := nI_inj (by omega) (by omega) g2
    subst e; exact hr.1 g3
  · obtain ⟨u, g1, g2, g3, -⟩ := h.2.2.2.1 o _ ho m
    have e := nI_inj (by omega) (by omega) g2
    subst e; exact hr.2 g3
theorem TS.roomq {F : Nat → Int32} {t o : Nat} (h : TS F) (ht : t < nt (F 0)) (ho : o < 8) (hn : nI t ∉ Qs F o) : nt (F (110 + o)) < 6 := by
  have := room_of (l := Qs F o) h.1.thr.2 (h.2.1 o ho).1 (fun x hx => by obtain ⟨u, g1, g2, -⟩ := h.2.2.1 o x ho hx; exact ⟨u, g1, g2⟩) ht hn
  rwa [lst_len] at this
theorem TS.roomw {F : Nat → Int32} {t o : Nat} (h : TS F) (ht : t < nt (F 0)) (ho : o < 8) (hn : nI t ∉ Ws F o) : nt (F (118 + o)) < 6 := by
  have := room_of (l := Ws F o) h.1.thr.2 (h.2.1 o ho).2 (fun x hx => by obtain ⟨u, g1, g2, -⟩ := h.2.2.2.1 o x ho hx; exact ⟨u, g1, g2⟩) ht hn
  rwa [lst_len] at this
/-- the first of a queue -/
theorem TS.hd {F : Nat → Int32} {o : Nat} (h : TS F) (ho : o < 8) (hq : ¬ F (110 + o) ≤ 0) : ∃ t, t < nt (F 0) ∧ F (126 + 6 * o) = nI t ∧ F (10 + t) = 1 ∧ F (28 + t) = nI o ∧ nI t ∈ Qs F o := by
  rcases lst_at (q := 110 + o) (p := 126 + 6 * o) (h.1.q ho) with ⟨-, -, e⟩ | ⟨l, e, -⟩
  · exact absurd (by rw [e]; decide) hq
  · have hm : F (126 + 6 * o) ∈ Qs F o := by show _ ∈ lst F _ _; rw [e]; exact List.mem_cons_self
    obtain ⟨t, g1, g2, g3, g4⟩ := h.2.2.1 o _ ho hm
    exact ⟨t, g1, g2, g3, g4, by rw [← g2]; exact hm⟩
theorem TS.wd {F : Nat → Int32} {o : Nat} (h : TS F) (ho : o < 8) (hq : ¬ F (118 + o) ≤ 0) : ∃ t, t < nt (F 0) ∧ F (174 + 6 * o) = nI t ∧ F (10 + t) = 2 ∧ F (28 + t) = nI o ∧ nI t ∈ Ws F o := by
  rcases lst_at (q := 118 + o) (p := 174 + 6 * o) (h.1.w ho) with ⟨-, -, e⟩ | ⟨l, e, -⟩
  · exact absurd (by rw [e]; decide) hq
  · have hm : F (174 + 6 * o) ∈ Ws F o := by show _ ∈ lst F _ _; rw [e]; exact List.mem_cons_self
    obtain ⟨t, g1, g2, g3, g4⟩ := h.2.2.2.1 o _ ho hm
    exact ⟨t, g1, g2, g3, g4, by rw [← g2]; exact hm⟩
theorem TS.wait {F : Nat → Int32} {t : Nat} (h : TS F) (ht : t < nt (F 0)) (hw : F (10 + t) = 2) : ∃ o, o < 8 ∧ F (28 + t) = nI o ∧ nI t ∈ Ws F o := by
  rcases h.2.2.2.2 t ht with ⟨g, -⟩ | ⟨-, g⟩ | ⟨g, -⟩
  · exact absurd (g.symm.trans hw) (by decide)
  · exact g
  · rcases g with g | g
    · exact absurd (g.symm.trans hw) (by decide)
    · exact absurd (g.symm.trans hw) (by decide)
