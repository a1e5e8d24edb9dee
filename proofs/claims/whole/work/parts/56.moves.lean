/-! lines behind each change of a line -/
section QW
variable {F : Nat → Int32} {o o' : Nat} {x : Int32}
theorem Qs_appq (hW : WI F) (ho : o < 8) (ho' : o' < 8) (hlt : nt (F (110 + o)) < 6) : Qs (appF F (110 + o) (126 + 6 * o) x) o' = if o' = o then Qs F o ++ [x] else Qs F o' := by
  split
  · rename_i e; subst e; exact lst_app (hW.q ho) hlt (by omega)
  · exact lst_congr (hW.q ho') (appF_out (hW.q ho) (by omega) (by omega)) (fun i hi => by
      have h6 := (hW.q ho).nat.2
      unfold appF
      split
      · rfl
      · rw [upd_ne (by omega), upd_ne (by show 126 + 6 * o' + i ≠ 126 + 6 * o + nt (F (110 + o)); omega)])
theorem Ws_appq (hW : WI F) (ho : o < 8) (ho' : o' < 8) : Ws (appF F (110 + o) (126 + 6 * o) x) o' = Ws F o' := lst_congr (hW.w ho') (appF_out (hW.q ho) (by omega) (by omega)) (fun i hi => by
  by_cases h : 174 + 6 * o' + i ≤ 126 + 6 * o + 6
  · have h7 : o = 7 ∧ o' = 0 ∧ i = 0 := by omega
    unfold appF
    have h6 := (hW.q ho).nat.2
    split
    · rfl
    · rename_i hc
      have hlt : nt (F (110 + o)) < 6 := by
        rcases Nat.lt_or_ge (nt (F (110 + o))) 6 with h | h
        · exact h
        · exact absurd (by rw [(hW.q ho).nat.1, show (F (110 + o)).toNatClampNeg = 6 from Nat.le_antisymm h6 h]; decide) hc
      rw [upd_ne (by omega), upd_ne (by show 174 + 6 * o' + i ≠ 126 + 6 * o + nt (F (110 + o)); omega)]
  · exact appF_out (hW.q ho) (by omega) (by omega))
theorem Qs_pfiq (hW : WI F) (ho : o < 8) (ho' : o' < 8) (hlt : nt (F (110 + o)) < 6) : Qs (pfiF F (110 + o) (126 + 6 * o) x) o' = if o' = o then x :: Qs F o else Qs F o' := by
  split
  · rename_i e; subst e; exact lst_pfi (hW.q ho) hlt (by omega)
  · exact lst_congr (hW.q ho') (pfiF_out (hW.q ho) (by omega) (by omega)) (fun i hi => by
      unfold pfiF
      split
      · rfl
      · rw [upd_ne (by omega), upd_ne (by omega), shf_out _ _ (fun j hj => by have : j ≤ nt (F (110 + o)) := hj; omega)])
theorem Ws_pfiq (hW : WI F) (ho : o < 8) (ho' : o' < 8) (hlt : nt (F (110 + o)) < 6) : Ws (pfiF F (110 + o) (126 + 6 * o) x) o' = Ws F o' := lst_congr (hW.w ho') (pfiF_out (hW.q ho) (by omega) (by omega)) (fun i hi => by
  unfold pfiF
  split
  · rfl
  · rw [upd_ne (by omega), upd_ne (by omega), shf_out _ _ (fun j hj => by have : j ≤ nt (F (110 + o)) := hj; omega)])
theorem Qs_dropq (hW : WI F) (ho : o < 8) (ho' : o' < 8) : Qs (dropF F (110 + o) (126 + 6 * o) x) o' = if o' = o then (Qs F o).filter (fun y => !(y == x)) else Qs F o' := by
  split
  · rename_i e; subst e; exact lst_drop (hW.q ho) (by omega)
  · exact lst_congr (hW.q ho') (dropF_out (hW.q ho) (by omega) (by omega)) (fun i hi => dropF_out (hW.q ho) (by omega) (by omega))
theorem Ws_dropq (hW : WI F) (ho : o < 8) (ho' : o' < 8) : Ws (dropF F (110 + o) (126 + 6 * o) x) o' = Ws F o' := lst_congr (hW.w ho') (dropF_out (hW.q ho) (by omega) (by omega)) (fun i hi => dropF_out (hW.q ho) (by omega) (by omega))
theorem Ws_dropw (hW : WI F) (ho : o < 8) (ho' : o' < 8) : Ws (dropF F (118 + o) (174 + 6 * o) x) o' = if o' = o then (Ws F o).filter (fun y => !(y == x)) else Ws F o' := by
  split
  · rename_i e; subst e; exact lst_drop (hW.w ho) (by omega)
  · exact lst_congr (hW.w ho') (dropF_out (hW.w ho) (by omega) (by omega)) (fun i hi => dropF_out (hW.w ho) (by omega) (by omega))
theorem Qs_dropw (hW : WI F) (ho : o < 8) (ho' : o' < 8) : Qs (dropF F (118 + o) (174 + 6 * o) x) o' = Qs F o' := lst_congr (hW.q ho') (dropF_out (hW.w ho) (by omega) (by omega)) (fun i hi => dropF_out (hW.w ho) (by omega) (by omega))
theorem Ws_appw (hW : WI F) (ho : o < 8) (ho' : o' < 8) (hlt : nt (F (118 + o)) < 6) : Ws (appF F (118 + o) (174 + 6 * o) x) o' = if o' = o then Ws F o ++ [x] else Ws F o' := by
  split
  · rename_i e; subst e; exact lst_app (hW.w ho) hlt (by omega)
  · exact lst_congr (hW.w ho') (appF_out (hW.w ho) (by omega) (by omega)) (fun i hi => by
      unfold appF
      split
      · rfl
      · rw [upd_ne (by omega), upd_ne (by show 174 + 6 * o' + i ≠ 174 + 6 * o + nt (F (118 + o)); omega)])
theorem Qs_appw (hW : WI F) (ho : o < 8) (ho' : o' < 8) : Qs (appF F (118 + o) (174 + 6 * o) x) o' = Qs F o' := lst_congr (hW.q ho') (appF_out (hW.w ho) (by omega) (by omega)) (fun i hi => appF_out (hW.w ho) (by omega) (by omega))
end QW
theorem mem_filt {l : List Int32} {x y : Int32} : y ∈ l.filter (fun z => !(z == x)) ↔ y ∈ l ∧ y ≠ x := by simp [List.mem_filter]
theorem nodup_filt {l : List Int32} {x : Int32} (h : l.Nodup) : (l.filter (fun z => !(z == x))).Nodup := h.filter _
theorem nodup_app {l : List Int32} {x : Int32} (h : l.Nodup) (hx : x ∉ l) : (l ++ [x]).Nodup := by
  rw [List.nodup_append]
  exact ⟨h, by simp, fun a ha b hb => by simp at hb; subst hb; exact fun e => hx (e ▸ ha)⟩
/-- where a thread isn't -/
theorem TS.notq {F : Nat → Int32} {t o : Nat} (h : TS F) (ht : t < nt (F 0)) (ho : o < 8) (hn : ¬ (F (10 + t) = 1 ∧ F (28 + t) = nI o)) : nI t ∉ Qs F o := fun m => by
  have hT := h.1.thr.2
  obtain ⟨u, g1, g2, g3, g4⟩ := h.2.2.1 o _ ho m
  have e := nI_inj (by omega) (by omega) g2
  subst e; exact hn ⟨g3, g4⟩
theorem TS.notw {F : Nat → Int32} {t o : Nat} (h : TS F) (ht : t < nt (F 0)) (ho : o < 8) (hn : ¬ (F (10 + t) = 2 ∧ F (28 + t) = nI o)) : nI t ∉ Ws F o := fun m => by
  have hT := h.1.thr.2
  obtain ⟨u, g1, g2, g3, g4⟩ := h.2.2.2.1 o _ ho m
  have e := nI_inj (by omega) (by omega) g2
  subst e; exact hn ⟨g3, g4⟩
/-- a thread to its new place, the lines given -/
theorem TS.mv {F F' : Nat → Int32} {t : Nat} (h : TS F) (hW' : WI F') (h0 : F' 0 = F 0) (ht : t < nt (F 0)) (hst : ∀ u, u < 6 → u ≠ t → F' (10 + u) = F (10 + u)) (hat : ∀ u, u < 6 → u ≠ t → F' (28 + u) = F (28 + u)) (hnd : ∀ o, o < 8 → (Qs F' o).Nodup ∧ (Ws F' o).Nodup)
    (hQ : ∀ o x, o < 8 → (x ∈ Qs F' o ↔ (x ∈ Qs F o ∧ x ≠ nI t) ∨ (x = nI t ∧ F' (10 + t) = 1 ∧ F' (28 + t) = nI o))) (hW : ∀ o x, o < 8 → (x ∈ Ws F' o ↔ (x ∈ Ws F o ∧ x ≠ nI t) ∨ (x = nI t ∧ F' (10 + t) = 2 ∧ F' (28 + t) = nI o)))
    (hd : (F' (10 + t) = 1 ∧ ∃ o, o < 8 ∧ F' (28 + t) = nI o) ∨ (F' (10 + t) = 2 ∧ ∃ o, o < 8 ∧ F' (28 + t) = nI o) ∨ ((F' (10 + t) = 0 ∨ F' (10 + t) = 3) ∧ F' (28 + t) = -8)) : TS F' := by
  have hT := h.1.thr.2
  refine ⟨hW', ?_⟩
  rw [h0]
  exact h.2.mv hT ht (fun u hu e => hst u (by omega) e) (fun u hu e => hat u (by omega) e) hnd hQ hW hd
theorem nI_o {o o' : Nat} (ho : o < 8) (ho' : o' < 8) : nI o = nI o' ↔ o' = o := ⟨fun h => (nI_inj (by omega) (by omega) h).symm, fun h => by rw [h]⟩
theorem m8 {o : Nat} (ho : o < 8) : ¬ (-8 : Int32) = nI o := by
  have key : ∀ o, o < 8 → ¬ (-8 : Int32) = nI o := by decide +kernel
  exact key o ho
/-- a thread that is in no line joins a queue -/
theorem TS.join {F F' : Nat → Int32} {t o : Nat} (h : TS F) (ht : t < nt (F 0)) (ho : o < 8) (hr : ¬ F (10 + t) = 1 ∧ ¬ F (10 + t) = 2) (he : F' = upd (upd (appF F (110 + o) (126 + 6 * o) (nI t)) (10 + t) 1) (28 + t) (nI o)) : TS F' := by
  have hT := h.1.thr.2
  obtain ⟨-, hn⟩ := h.run ht hr
  have hlt := h.roomq ht ho (hn o ho).1
  have hWa := h.1.appq (x := nI t) ho
  have q' : ∀ o', o' < 8 → Qs F' o' = if o' = o then Qs F o ++ [nI t] else Qs F o' := fun o' ho' => by
    rw [← Qs_appq h.1 ho ho' hlt, he]
    exact (lst_upd ((hWa.up (by omega)).q ho') (by omega) (by omega)).trans (lst_upd (hWa.q ho') (by omega) (by omega))
  have w' : ∀ o', o' < 8 → Ws F' o' = Ws F o' := fun o' ho' => by
    rw [← Ws_appq (x := nI t) h.1 ho ho', he]
    exact (lst_upd ((hWa.up (by omega)).w ho') (by omega) (by omega)).trans (lst_upd (hWa.w ho') (by omega) (by omega))
  have eo : ∀ k, k < 110 → appF F (110 + o) (126 + 6 * o) (nI t) k = F k := fun k hk => appF_out (h.1.q ho) (by omega) (by omega)
  have s1 : F' (10 + t) = 1 := by rw [he, upd_ne (by omega), upd_eq]
  have a1 : F' (28 + t) = nI o := by rw [he, upd_eq]
  refine h.mv (by rw [he]; exact (hWa.up (by omega)).up (by omega)) (by rw [he, upd_ne (by omega), upd_ne (by omega), eo _ (by omega)]) ht (fun u hu e => by rw [he, upd_ne (by omega), upd_ne (by omega), eo _ (by omega)]) (fun u hu e => by rw [he, upd_ne (by omega), upd_ne (by omega), eo _ (by omega)]) (fun o' ho' => ?_) (fun o' x ho' => ?_) (fun o' x ho' => ?_) (Or.inl ⟨s1, o, ho, a1⟩)
  · rw [q' o' ho', w' o' ho']
    refine ⟨?_, (h.2.1 o' ho').2⟩
    split
    · exact nodup_app (h.2.1 o ho).1 (hn o ho).1
    · exact (h.2.1 o' ho').1
  · rw [q' o' ho', s1, a1]
    split
    · rename_i e; subst e
      simp only [List.mem_append, List.mem_singleton]
      constructor
      · rintro (m | m)
        · exact Or.inl ⟨m, fun q => (hn o' ho').1 (q ▸ m)⟩
        · exact Or.inr ⟨m, by first | trivial | exact ⟨rfl, rfl⟩ | exact ⟨trivial, rfl⟩ | exact ⟨trivial, trivial⟩⟩
      · rintro (m | m)
        · exact Or.inl m.1
        · exact Or.inr m.1
    · rename_i e
      constructor
      · exact fun m => Or.inl ⟨m, fun q => (hn o' ho').1 (q ▸ m)⟩
      · rintro (m | m)
        · exact m.1
        · exact absurd ((nI_o ho ho').mp m.2.2) e
  · rw [w' o' ho', s1]
    constructor
    · exact fun m => Or.inl ⟨m, fun q => (hn o' ho').2 (q ▸ m)⟩
    · rintro (m | m)
      · exact m.1
      · exact absurd m.2.1 (by decide)
/-- .. or a wait set -/
theorem TS.joinw {F F' : Nat → Int32} {t o : Nat} (h : TS F) (ht : t < nt (F 0)) (ho : o < 8) (hr : ¬ F (10 + t) = 1 ∧ ¬ F (10 + t) = 2) (hW' : WI F') (h0 : F' 0 = F 0) (s1 : F' (10 + t) = 2) (a1 : F' (28 + t) = nI o) (hst : ∀ u, u < 6 → u ≠ t → F' (10 + u) = F (10 + u)) (hat : ∀ u, u < 6 → u ≠ t → F' (28 + u) = F (28 + u)) (q' : ∀ o', o' < 8 → Qs F' o' = Qs F o') (w' : ∀ o', o' < 8 → Ws F' o' = if o' = o then Ws F o ++ [nI t] else Ws F o') : TS F' := by
  obtain ⟨-, hn⟩ := h.run ht hr
  refine h.mv hW' h0 ht hst hat (fun o' ho' => ?_) (fun o' x ho' => ?_) (fun o' x ho' => ?_) (Or.inr (Or.inl ⟨s1, o, ho, a1⟩))
  · rw [q' o' ho', w' o' ho']
    refine ⟨(h.2.1 o' ho').1, ?_⟩
    split
    · exact nodup_app (h.2.1 o ho).2 (hn o ho).2
    · exact (h.2.1 o' ho').2
  · rw [q' o' ho', s1]
    constructor
    · exact fun m => Or.inl ⟨m, fun q => (hn o' ho').1 (q ▸ m)⟩
    · rintro (m | m)
      · exact m.1
      · exact absurd m.2.1 (by decide)
  · rw [w' o' ho', s1, a1]
    split
    · rename_i e; subst e
      simp only [List.mem_append, List.mem_singleton]
      constructor
      · rintro (m | m)
        · exact Or.inl ⟨m, fun q => (hn o' ho').2 (q ▸ m)⟩
        · exact Or.inr ⟨m, by first | trivial | exact ⟨rfl, rfl⟩ | exact ⟨trivial, rfl⟩ | exact ⟨trivial, trivial⟩⟩
      · rintro (m | m)
        · exact Or.inl m.1
        · exact Or.inr m.1
    · rename_i e
      constructor
      · exact fun m => Or.inl ⟨m, fun q => (hn o' ho').2 (q ▸ m)⟩
      · rintro (m | m)
        · exact m.1
        · exact absurd ((nI_o ho ho').mp m.2.2) e
