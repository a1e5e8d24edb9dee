theorem quM_app {F : Nat → Int32} {t o : Nat} (hs : OKs F (110 + o)) (hlt : nt (F (110 + o)) < 6) : quM F t o = upd (upd (appF F (110 + o) (126 + 6 * o) (nI t)) (10 + t) 1) (28 + t) (nI o) := by
  have hc : ¬ (6 : Int32) ≤ F (110 + o) := by
    rw [show F (110 + o) = nI (nt (F (110 + o))) from hs.nat.1]; exact nI_ge (a := nt (F (110 + o))) (b := 6) hlt (by decide)
  simp only [quM, appF, if_neg hc]
theorem qfM_pfi {F : Nat → Int32} {t o : Nat} (hs : OKs F (110 + o)) (hlt : nt (F (110 + o)) < 6) : qfM F t o = upd (upd (pfiF F (110 + o) (126 + 6 * o) (nI t)) (10 + t) 1) (28 + t) (nI o) := by
  have hc : ¬ (6 : Int32) ≤ F (110 + o) := by
    rw [show F (110 + o) = nI (nt (F (110 + o))) from hs.nat.1]; exact nI_ge (a := nt (F (110 + o))) (b := 6) hlt (by decide)
  simp only [qfM, pfiF, if_neg hc, Nat.add_zero]
theorem TS.qu {F : Nat → Int32} {t o : Nat} (h : TS F) (ht : t < nt (F 0)) (ho : o < 8) (hr : ¬ F (10 + t) = 1 ∧ ¬ F (10 + t) = 2) : TS (quM F t o) :=
  h.join ht ho hr (quM_app (h.1.q ho) (h.roomq ht ho ((h.run ht hr).2 o ho).1))
theorem TS.outl {F F1 : Nat → Int32} {t : Nat} {s : Int32} (h : TS F) (ht : t < nt (F 0)) (hs : s = 0 ∨ s = 3) (hW1 : WI F1) (h0 : F1 0 = F 0) (hst : ∀ u, u < 6 → F1 (10 + u) = F (10 + u)) (hat : ∀ u, u < 6 → F1 (28 + u) = F (28 + u)) (hnd : ∀ o, o < 8 → (Qs F1 o).Nodup ∧ (Ws F1 o).Nodup) (mq : ∀ o x, o < 8 → (x ∈ Qs F1 o ↔ x ∈ Qs F o ∧ x ≠ nI t)) (mw : ∀ o x, o < 8 → (x ∈ Ws F1 o ↔ x ∈ Ws F o ∧ x ≠ nI t)) : TS (upd (upd F1 (10 + t) s) (28 + t) (-8)) := by
  have hT := h.1.thr.2
  have q' : ∀ o', o' < 8 → Qs (upd (upd F1 (10 + t) s) (28 + t) (-8)) o' = Qs F1 o' := fun o' ho' => (lst_upd ((hW1.up (by omega)).q ho') (by omega) (by omega)).trans (lst_upd (hW1.q ho') (by omega) (by omega))
  have w' : ∀ o', o' < 8 → Ws (upd (upd F1 (10 + t) s) (28 + t) (-8)) o' = Ws F1 o' := fun o' ho' => (lst_upd ((hW1.up (by omega)).w ho') (by omega) (by omega)).trans (lst_upd (hW1.w ho') (by omega) (by omega))
  have s1 : upd (upd F1 (10 + t) s) (28 + t) (-8) (10 + t) = s := by rw [upd_ne (by omega), upd_eq]
  have a1 : upd (upd F1 (10 + t) s) (28 + t) (-8) (28 + t) = -8 := upd_eq
  have n1 : ¬ s = 1 := by rcases hs with rfl | rfl <;> decide
  have n2 : ¬ s = 2 := by rcases hs with rfl | rfl <;> decide
  refine h.mv ((hW1.up (by omega)).up (by omega)) (by rw [upd_ne (by omega), upd_ne (by omega), h0]) ht (fun u hu e => by rw [upd_ne (by omega), upd_ne (by omega), hst u hu]) (fun u hu e => by rw [upd_ne (by omega), upd_ne (by omega), hat u hu]) (fun o' ho' => by rw [q' o' ho', w' o' ho']; exact hnd o' ho') (fun o' x ho' => ?_) (fun o' x ho' => ?_) (Or.inr (Or.inr ⟨by rw [s1]; exact hs, a1⟩))
  · rw [q' o' ho', mq o' x ho', s1]
    exact ⟨fun m => Or.inl m, fun m => m.elim id (fun m => absurd m.2.1 n1)⟩
  · rw [w' o' ho', mw o' x ho', s1]
    exact ⟨fun m => Or.inl m, fun m => m.elim id (fun m => absurd m.2.1 n2)⟩
theorem TS.acq1 {F : Nat → Int32} {t o : Nat} (h : TS F) (ht : t < nt (F 0)) (ho : o < 8) (hs : F (10 + t) = 1) (ha : F (28 + t) = nI o) : TS (acq1 F t o) := by
  have hT := h.1.thr.2
  have e0 : ∀ k, k < 110 → dropF F (110 + o) (126 + 6 * o) (nI t) k = F k := fun k hk => dropF_out (h.1.q ho) (by omega) (by omega)
  have nw : ∀ o', o' < 8 → nI t ∉ Ws F o' := fun o' ho' => h.notw ht ho' (fun q => absurd (hs.symm.trans q.1) (by decide))
  have nq : ∀ o', o' < 8 → o' ≠ o → nI t ∉ Qs F o' := fun o' ho' hne => h.notq ht ho' (fun q => hne ((nI_o ho ho').mp (ha.symm.trans q.2)))
  refine h.outl ht (Or.inl rfl) (h.1.dropq ho) (e0 0 (by omega)) (fun u hu => e0 _ (by omega)) (fun u hu => e0 _ (by omega)) (fun o' ho' => ?_) (fun o' x ho' => ?_) (fun o' x ho' => ?_)
  · rw [Qs_dropq h.1 ho ho', Ws_dropq h.1 ho ho']
    refine ⟨?_, (h.2.1 o' ho').2⟩
    split
    · exact nodup_filt (h.2.1 o ho).1
    · exact (h.2.1 o' ho').1
  · rw [Qs_dropq h.1 ho ho']
    split
    · rename_i e; subst e; exact mem_filt
    · rename_i e
      exact ⟨fun m => ⟨m, fun q => nq o' ho' e (q ▸ m)⟩, fun m => m.1⟩
  · rw [Ws_dropq h.1 ho ho']
    exact ⟨fun m => ⟨m, fun q => nw o' ho' (q ▸ m)⟩, fun m => m.1⟩
theorem SamT.hld {F : Nat → Int32} {x : Int32} {o : Nat} {c : Int32} (ho : o < 8) : SamT F (hldM F x o c) := by
  unfold hldM
  split
  · exact (((SamT.rf.up (by omega)).up (by omega)).up (by omega)).up (by omega)
  · exact (SamT.rf.up (by omega)).up (by omega)
theorem TS.acq {F : Nat → Int32} {t o : Nat} (h : TS F) (ht : t < nt (F 0)) (ho : o < 8) (hs : F (10 + t) = 1) (ha : F (28 + t) = nI o) : TS (acqM F t o) := (h.acq1 ht ho hs ha).of (SamT.hld ho)
theorem TS.HD {F : Nat → Int32} {o : Nat} (h : TS F) (ho : o < 8) : HD F o := fun hq => by
  have hT := h.1.thr.2
  obtain ⟨t, g1, g2, -⟩ := h.hd ho hq
  rw [g2, ntn (by omega)]
  exact ⟨rfl, by omega⟩
theorem SamT.rel1 {F : Nat → Int32} {o : Nat} (ho : o < 8) : SamT F (rel1 F o) := (SamT.rf.up (by omega)).up (by omega)
theorem TS.rel {F : Nat → Int32} {o : Nat} (h : TS F) (ho : o < 8) : TS (relM F o) := by
  have hT := h.1.thr.2
  have hs1 := SamT.rel1 (F := F) ho
  have h1 := h.of hs1
  unfold relM
  split
  · exact (h1.up (by omega)).up (by omega)
  · split
    · split
      · exact h1.up (by omega)
      · rename_i hq
        split
        · obtain ⟨t, g1, g2, g3, g4, -⟩ := h.hd ho (by rw [← rel_q (F := F) ho (k := 110 + o) (by omega)]; exact hq)
          have sm : SamT F (upd (upd (rel1 F o) (102 + o) (rel1 F o 9)) 237 (upd (rel1 F o) (102 + o) (rel1 F o 9) 237 + 1)) := (hs1.up (by omega)).up (by omega)
          have h2 := h.of sm
          rw [g2, ntn (by omega)]
          exact h2.acq (by rw [sm 0 (by omega)]; exact g1) ho (by rw [sm _ (by omega)]; exact g3) (by rw [sm _ (by omega)]; exact g4)
        · exact h1.up (by omega)
    · exact h1
/-- a wait ends: from the wait set to the queue -/
theorem TS.ewl {F F1 F' : Nat → Int32} {t o : Nat} (h : TS F) (ht : t < nt (F 0)) (ho : o < 8) (hs : F (10 + t) = 2) (ha : F (28 + t) = nI o) (hF1 : ∃ x, F1 = upd (dropF F (118 + o) (174 + 6 * o) (nI t)) (22 + t) x) (hF' : ∃ F2, F' = upd (upd F2 (10 + t) 1) (28 + t) (nI o) ∧ WI F2 ∧ (∀ k, k < 110 → F2 k = F1 k) ∧ (∀ o', o' < 8 → Ws F2 o' = Ws F1 o') ∧ (∀ o', o' < 8 → Qs F2 o' = Qs F1 o' ∨ (o' = o ∧ (Qs F2 o' = Qs F1 o' ++ [nI t] ∨ Qs F2 o' = nI t :: Qs F1 o'))) ∧ ∀ o', o' = o → ¬ Qs F2 o' = Qs F1 o') : TS F' := by
  have hT := h.1.thr.2
  obtain ⟨hx, rfl⟩ := hF1
  obtain ⟨F2, rfl, hW2, f1, f2, f3, f4⟩ := hF'
  have hWd := h.1.dropw (x := nI t) ho
  have e0 : ∀ k, k < 110 → k ≠ 22 + t → F2 k = F k := fun k hk hne => by rw [f1 k hk, upd_ne hne, dropF_out (h.1.w ho) (by omega) (by omega)]
  have nq : ∀ o', o' < 8 → nI t ∉ Qs F o' := fun o' ho' => h.notq ht ho' (fun q => absurd (hs.symm.trans q.1) (by decide))
  have nw : ∀ o', o' < 8 → o' ≠ o → nI t ∉ Ws F o' := fun o' ho' hne => h.notw ht ho' (fun q => hne ((nI_o ho ho').mp (ha.symm.trans q.2)))
  have qd : ∀ o', o' < 8 → Qs (upd (dropF F (118 + o) (174 + 6 * o) (nI t)) (22 + t) hx) o' = Qs F o' := fun o' ho' => (lst_upd (hWd.q ho') (by omega) (by omega)).trans (Qs_dropw h.1 ho ho')
  have wd : ∀ o', o' < 8 → Ws (upd (dropF F (118 + o) (174 + 6 * o) (nI t)) (22 + t) hx) o' = if o' = o then (Ws F o).filter (fun y => !(y == nI t)) else Ws F o' := fun o' ho' => (lst_upd (hWd.w ho') (by omega) (by omega)).trans (Ws_dropw h.1 ho ho')
  have q2 : ∀ o', o' < 8 → Qs (upd (upd F2 (10 + t) 1) (28 + t) (nI o)) o' = Qs F2 o' := fun o' ho' => (lst_upd ((hW2.up (by omega)).q ho') (by omega) (by omega)).trans (lst_upd (hW2.q ho') (by omega) (by omega))
  have w2 : ∀ o', o' < 8 → Ws (upd (upd F2 (10 + t) 1) (28 + t) (nI o)) o' = if o' = o then (Ws F o).filter (fun y => !(y == nI t)) else Ws F o' := fun o' ho' => ((lst_upd ((hW2.up (by omega)).w ho') (by omega) (by omega)).trans (lst_upd (hW2.w ho') (by omega) (by omega))).trans ((f2 o' ho').trans (wd o' ho'))
  have s1 : upd (upd F2 (10 + t) 1) (28 + t) (nI o) (10 + t) = 1 := by rw [upd_ne (by omega), upd_eq]
  have a1 : upd (upd F2 (10 + t) 1) (28 + t) (nI o) (28 + t) = nI o := upd_eq
  refine h.mv ((hW2.up (by omega)).up (by omega)) (by rw [upd_ne (by omega), upd_ne (by omega), e0 0 (by omega) (by omega)]) ht (fun u hu e => by rw [upd_ne (by omega), upd_ne (by omega), e0 _ (by omega) (by omega)]) (fun u hu e => by rw [upd_ne (by omega), upd_ne (by omega), e0 _ (by omega) (by omega)]) (fun o' ho' => ?_) (fun o' x ho' => ?_) (fun o' x ho' => ?_) (Or.inl ⟨s1, o, ho, a1⟩)
  · rw [q2 o' ho', w2 o' ho']
    refine ⟨?_, ?_⟩
    · rcases f3 o' ho' with e | ⟨rfl, e | e⟩
      · rw [e, qd o' ho']; exact (h.2.1 o' ho').1
      · rw [e, qd o' ho']; exact nodup_app (h.2.1 o' ho').1 (nq o' ho')
      · rw [e, qd o' ho']; exact List.nodup_cons.mpr ⟨nq o' ho', (h.2.1 o' ho').1⟩
    · split
      · exact nodup_filt (h.2.1 o ho).2
      · exact (h.2.1 o' ho').2
  · rw [q2 o' ho', s1, a1]
    rcases f3 o' ho' with e | ⟨rfl, e | e⟩
    · have hne : o' ≠ o := fun q => f4 o' q e
      rw [e, qd o' ho']
      exact ⟨fun m => Or.inl ⟨m, fun q => nq o' ho' (q ▸ m)⟩, fun m => m.elim (fun m => m.1) (fun m => absurd ((nI_o ho ho').mp m.2.2) hne)⟩
    · rw [e, qd o' ho', List.mem_append, List.mem_singleton]
      exact ⟨fun m => m.elim (fun m => Or.inl ⟨m, fun q => nq o' ho' (q ▸ m)⟩) (fun m => Or.inr ⟨m, rfl, rfl⟩), fun m => m.elim (fun m => Or.inl m.1) (fun m => Or.inr m.1)⟩
    · rw [e, qd o' ho', List.mem_cons]
      exact ⟨fun m => m.elim (fun m => Or.inr ⟨m, rfl, rfl⟩) (fun m => Or.inl ⟨m, fun q => nq o' ho' (q ▸ m)⟩), fun m => m.elim (fun m => Or.inr m.1) (fun m => Or.inl m.1)⟩
  · rw [w2 o' ho', s1]
    split
    · rename_i e; subst e
      rw [mem_filt]
      exact ⟨fun m => Or.inl m, fun m => m.elim id (fun m => absurd m.2.1 (by decide))⟩
    · rename_i e
      exact ⟨fun m => Or.inl ⟨m, fun q => nw o' ho' e (q ▸ m)⟩, fun m => m.elim (fun m => m.1) (fun m => absurd m.2.1 (by decide))⟩
theorem app_ne {l : List Int32} {x : Int32} : ¬ l ++ [x] = l := fun h => by
  have := congrArg List.length h
  simp at this
theorem cons_ne {l : List Int32} {x : Int32} : ¬ x :: l = l := fun h => by
  have := congrArg List.length h
  simp at this
theorem TS.ew {F : Nat → Int32} {t o : Nat} {h' v : Int32} (h : TS F) (ht : t < nt (F 0)) (ho : o < 8) (hs : F (10 + t) = 2) (ha : F (28 + t) = nI o) : TS (ewM F t o h' v) := by
  have hT := h.1.thr.2
  have hWd : WI (upd (dropF F (118 + o) (174 + 6 * o) (nI t)) (22 + t) h') := (h.1.dropw ho).up (by omega)
  have e1 : upd (dropF F (118 + o) (174 + 6 * o) (nI t)) (22 + t) h' (110 + o) = F (110 + o) := by rw [upd_ne (by omega), dropF_out (h.1.w ho) (by omega) (by omega)]
  have hlt : nt (upd (dropF F (118 + o) (174 + 6 * o) (nI t)) (22 + t) h' (110 + o)) < 6 := by
    rw [e1]; exact h.roomq ht ho (h.notq ht ho (fun q => absurd (hs.symm.trans q.1) (by decide)))
  unfold ewM
  split
  · rw [quM_app (hWd.q ho) hlt]
    refine h.ewl ht ho hs ha ⟨h', rfl⟩ ⟨_, rfl, hWd.appq ho, fun k hk => appF_out (hWd.q ho) (by omega) (by omega), fun o' ho' => Ws_appq hWd ho ho', fun o' ho' => ?_, fun o' e => ?_⟩
    · rw [Qs_appq hWd ho ho' hlt]
      split
      · rename_i e; subst e; exact Or.inr ⟨rfl, Or.inl rfl⟩
      · exact Or.inl rfl
    · subst e; rw [Qs_appq hWd ho ho hlt, if_pos rfl]; exact app_ne
  · rw [qfM_pfi (hWd.q ho) hlt]
    refine h.ewl ht ho hs ha ⟨h', rfl⟩ ⟨_, rfl, hWd.pfiq ho, fun k hk => pfiF_out (hWd.q ho) (by omega) (by omega), fun o' ho' => Ws_pfiq hWd ho ho' hlt, fun o' ho' => ?_, fun o' e => ?_⟩
    · rw [Qs_pfiq hWd ho ho' hlt]
      split
      · rename_i e; subst e; exact Or.inr ⟨rfl, Or.inr rfl⟩
      · exact Or.inl rfl
    · subst e; rw [Qs_pfiq hWd ho ho hlt, if_pos rfl]; exact cons_ne
