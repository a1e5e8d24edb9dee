theorem ro_signal {F : Nat → Int32} {x y : Int32} (h : TS F) (hr : OKr F) : RO F (sigM F x y).2 := by
  unfold sigM
  split
  · rename_i hf
    obtain ⟨t, o, ⟨ht, htT⟩, ho, rfl, rfl, -, -, -⟩ := fb_ok h.1 hf
    have e2 : nt (nI o) = o := ntn (by omega)
    rw [e2]
    split
    · split
      · exact (RO.rf h hr).rcd
      · rename_i c
        obtain ⟨u, huT, hu1, hu2, hu3, hu4⟩ := h.wd ho c
        have hT6 := h.1.thr.2
        have e3 : nt (nI u) = u := ntn (by omega)
        rw [hu1, e3]
        split
        · exact (RO.hi hr (Hi.rf.ew h.1 (by omega) ho) (h.ew huT ho hu2 hu3)).rcd
        · exact (RO.hi hr (Hi.rf.ew h.1 (by omega) ho) (h.ew huT ho hu2 hu3)).rcd
    · exact (RO.rf h hr).rcd
  · exact RO.rf h hr
theorem saL_TS {F0 : Nat → Int32} {o : Nat} (ho : o < 8) : ∀ (n : Nat) (F : Nat → Int32) (a : Int32), TS F → Hi F0 F → TS (saL o n F a).2 ∧ Hi F0 (saL o n F a).2
  | 0, _, _, h, hh => ⟨h, hh⟩
  | n + 1, F, a, h, hh => by
    unfold saL
    split
    · split
      · exact ⟨h, hh⟩
      · rename_i c
        obtain ⟨u, huT, hu1, hu2, hu3, hu4⟩ := h.wd ho c
        have hT6 := h.1.thr.2
        have e3 : nt (nI u) = u := ntn (by omega)
        rw [hu1, e3]
        exact saL_TS ho n _ _ (h.ew huT ho hu2 hu3) (hh.ew h.1 (by omega) ho)
    · exact ⟨h, hh⟩
theorem ro_signalAll {F : Nat → Int32} {x y : Int32} (h : TS F) (hr : OKr F) : RO F (sgaM F x y).2 := by
  unfold sgaM
  split
  · rename_i hf
    obtain ⟨t, o, ⟨ht, htT⟩, ho, rfl, rfl, -, -, -⟩ := fb_ok h.1 hf
    have e2 : nt (nI o) = o := ntn (by omega)
    rw [e2]
    obtain ⟨g1, g2⟩ := saL_TS ho 6 F 0 h Hi.rf
    generalize saL o 6 F 0 = p at g1 g2
    exact (RO.hi hr g2 g1).rcd
  · exact RO.rf h hr
theorem RO.tr {F F1 F2 : Nat → Int32} (h : RO F F1) (h' : RO F1 F2) : RO F F2 := ⟨h'.1, h'.2.1, fun k hk => (h'.2.2 k hk).trans (h.2.2 k hk)⟩
theorem ro_interrupt {F : Nat → Int32} {x : Int32} (h : TS F) (hr : OKr F) : RO F (intM F x).2 := by
  unfold intM
  split
  · rename_i hx
    obtain ⟨t, ht, htT, rfl⟩ := isT_nat h.1 hx
    have e1 : nt (nI t) = t := ntn (by omega)
    rw [e1]
    have r1 : RO F (rcdM F 5 (nI t) 0 0) := (RO.rf h hr).rcd
    have h0 : rcdM F 5 (nI t) 0 0 0 = F 0 := SamT.rcd 0 (by omega)
    split
    · exact RO.rf h hr
    · split
      · rename_i c
        obtain ⟨o, ho, hat, -⟩ := r1.1.wait (by rw [h0]; exact htT) c
        have e2 : nt (nI o) = o := ntn (by omega)
        rw [hat, e2]
        show RO F (ewM (rcdM F 5 (nI t) 0 0) t o 3 0)
        exact r1.tr (RO.hi r1.2.1 (Hi.rf.ew r1.1.1 ht ho) (r1.1.ew (by rw [h0]; exact htT) ho c hat))
      · show RO F (upd _ _ _)
        exact r1.tr (RO.hi r1.2.1 (Hi.rf.up (by omega)) (r1.1.up (by omega)))
  · exact RO.rf h hr
theorem dML_TS {F0 : Nat → Int32} {x : Int32} : ∀ (n i : Nat) (F : Nat → Int32) (a : Int32), i + n = 8 → TS F → Hi F0 F → TS (dML x n i F a).2 ∧ Hi F0 (dML x n i F a).2
  | 0, _, _, _, _, h, hh => ⟨h, hh⟩
  | n + 1, i, F, a, hi, h, hh => dML_TS n (i + 1) _ _ (by omega) (h.dMS (by omega)) (hh.dMS h (by omega))
theorem ro_dEnd {F F1 : Nat → Int32} {t : Nat} (hr : OKr F) (ht : t < 6) (hh : Hi F F1) (h : TS (dM2 F1 t)) : RO F (dEnd F1 t).2 := by
  obtain ⟨g1, g2⟩ := dML_TS (F0 := F) (x := nI t) 8 0 (dM2 F1 t) 0 rfl h (((hh.up (by omega)).up (by omega)).up (by omega))
  unfold dEnd
  generalize dML (nI t) 8 0 (dM2 F1 t) 0 = p at g1 g2
  exact (RO.hi hr g2 g1).rcd
theorem ro_die {F : Nat → Int32} {x : Int32} (h : TS F) (hr : OKr F) : RO F (dieM F x).2 := by
  unfold dieM
  split
  · rename_i hx
    obtain ⟨t, ht, htT, rfl⟩ := isT_nat h.1 hx
    have e1 : nt (nI t) = t := ntn (by omega)
    rw [e1]
    split
    · exact RO.rf h hr
    · split
      · rename_i c
        exact ro_dEnd hr ht Hi.rf (h.die2 htT c)
      · rename_i c
        obtain ⟨o, ho, hat⟩ := h.at_ htT c
        have e2 : nt (nI o) = o := ntn (by omega)
        rw [hat, e2]
        exact ro_dEnd hr ht ((Hi.rf.drop (h.1.q ho) (by omega) (by omega)).drop ((h.1.dropq ho).w ho) (by omega) (by omega)) (h.die1 htT ho hat)
  · exact RO.rf h hr
theorem upd_id {f : Nat → Int32} {k : Nat} {x : Int32} (h : f k = x) : upd f k x = f := by
  funext q
  by_cases e : q = k
  · subst e; rw [upd_eq, h]
  · exact upd_ne e
theorem TS.str {F : Nat → Int32} {t : Nat} (h : TS F) (ht : t < nt (F 0)) (hd : F (10 + t) = 3) : TS (upd F (10 + t) 0) := by
  have hT := h.1.thr.2
  obtain ⟨ha, hn⟩ := h.run ht (by rw [hd]; exact ⟨by decide, by decide⟩)
  have := h.outl (s := 0) ht (Or.inl rfl) h.1 rfl (fun u hu => rfl) (fun u hu => rfl) (fun o' ho' => h.2.1 o' ho') (fun o' x ho' => ⟨fun m => ⟨m, fun q => (hn o' ho').1 (q ▸ m)⟩, fun m => m.1⟩) (fun o' x ho' => ⟨fun m => ⟨m, fun q => (hn o' ho').2 (q ▸ m)⟩, fun m => m.1⟩)
  rwa [upd_id (by rw [upd_ne (by omega)]; exact ha)] at this
theorem ro_start {F : Nat → Int32} {x : Int32} (h : TS F) (hr : OKr F) : RO F (strM F x).2 := by
  unfold strM
  split
  · rename_i hx
    obtain ⟨t, ht, htT, rfl⟩ := isT_nat h.1 hx
    have e1 : nt (nI t) = t := ntn (by omega)
    rw [e1]
    split
    · rename_i c
      exact (RO.hi hr (Hi.rf.up (by omega)) (h.str htT c)).rcd
    · exact RO.rf h hr
  · exact RO.rf h hr
theorem ro_h86 {F F1 : Nat → Int32} {o : Nat} (hr : OKr F) (ho : o < 8) (hh : Hi F F1) (h : TS F1) : RO F (h86 F1 o).2 := (RO.hi hr ((hh.up (by omega)).up (by omega)) ((h.up (by omega)).up (by omega))).rcd
theorem ro_h63 {F F1 : Nat → Int32} {o : Nat} {l : Int32} (hr : OKr F) (ho : o < 8) (hh : Hi F F1) (h : TS F1) : RO F (h63 F1 o l).2 := by
  unfold h63
  have hu : TS (ubM F1 o) := h.of (SamT.rf.ub ho)
  split
  · exact ro_h86 hr ho (hh.ub ho) hu
  · split
    · split
      · exact ro_h86 hr ho hh h
      · exact ro_h86 hr ho (hh.ub ho) hu
    · exact ro_h86 hr ho hh h
theorem ro_hash {F : Nat → Int32} {y : Int32} (h : TS F) (hr : OKr F) : RO F (hashM F y).2 := by
  unfold hashM
  split
  · rename_i hy
    obtain ⟨o, ho, rfl⟩ := isOb_nat hy
    have e2 : nt (nI o) = o := ntn (by omega)
    rw [e2]
    split
    · split
      · split
        · exact ro_h63 hr ho (Hi.rf.infM ho) (h.infM ho)
        · exact RO.hi hr (Hi.rf.infM ho) (h.infM ho)
      · split
        · split
          · split
            · exact ro_h63 hr ho (Hi.rf.infM ho) (h.infM ho)
            · exact RO.hi hr (Hi.rf.infM ho) (h.infM ho)
          · exact ro_h63 hr ho Hi.rf h
        · exact ro_h63 hr ho Hi.rf h
    · exact (RO.rf h hr).rcd
  · exact RO.rf h hr
theorem ro_tick {F : Nat → Int32} {z : Int32} (h : TS F) (hr : OKr F) : RO F (tickM F z).2 := by
  unfold tickM
  split
  · exact (RO.hi hr (Hi.tkML (nt z) F h Hi.rf) (TS.tkML (nt z) F h)).rcd
  · exact RO.rf h hr
theorem ro_op {F : Nat → Int32} {op a b c : Int32} (h : TS F) (hr : OKr F) : RO F (opM F op a b c).2 := by
  unfold opM
  split
  · exact ro_enter h hr
  split
  · exact ro_exit h hr
  split
  · exact ro_await h hr
  split
  · exact ro_signal h hr
  split
  · exact ro_signalAll h hr
  split
  · exact ro_interrupt h hr
  split
  · exact ro_die h hr
  split
  · exact ro_start h hr
  split
  · exact ro_hash h hr
  · exact ro_tick h hr
/-! a new world of the reference -/
theorem bz1_at : ∀ (n i : Nat) (F : Nat → Int32) (k : Nat), bz1 n i F k = if i ≤ k ∧ k < i + n then 0 else F k
  | 0, i, F, k => by rw [if_neg (by omega)]; rfl
  | n + 1, i, F, k => by
    show bz1 n (i + 1) (upd F i 0) k = _
    rw [bz1_at n (i + 1) _ k]
    by_cases e : k = i
    · subst e; rw [if_neg (by omega), if_pos (by omega), upd_eq]
    · by_cases h1 : i + 1 ≤ k ∧ k < i + 1 + n
      · rw [if_pos h1, if_pos (by omega)]
      · rw [if_neg h1, if_neg (by omega), upd_ne e]
theorem bz2_at : ∀ (n i : Nat) (F : Nat → Int32) (k : Nat), i + n ≤ 6 → bz2 n i F k = if (22 + i ≤ k ∧ k < 22 + i + n) ∨ (28 + i ≤ k ∧ k < 28 + i + n) then -8 else F k
  | 0, i, F, k, _ => by rw [if_neg (by omega)]; rfl
  | n + 1, i, F, k, h => by
    show bz2 n (i + 1) (upd (upd F (22 + i) (-8)) (28 + i) (-8)) k = _
    rw [bz2_at n (i + 1) _ k (by omega)]
    by_cases h1 : (22 + (i + 1) ≤ k ∧ k < 22 + (i + 1) + n) ∨ (28 + (i + 1) ≤ k ∧ k < 28 + (i + 1) + n)
    · rw [if_pos h1, if_pos (by omega)]
    · rw [if_neg h1]
      by_cases e : k = 28 + i
      · subst e; rw [upd_eq, if_pos (by omega)]
      · rw [upd_ne e]
        by_cases e : k = 22 + i
        · subst e; rw [upd_eq, if_pos (by omega)]
        · rw [upd_ne e, if_neg (by omega)]
theorem bz3_at : ∀ (n i : Nat) (F : Nat → Int32) (k : Nat), i + n ≤ 8 → bz3 n i F k = if 46 + i ≤ k ∧ k < 46 + i + n then (if F 1 = 1 then 1 else 0) else if (54 + i ≤ k ∧ k < 54 + i + n) ∨ (70 + i ≤ k ∧ k < 70 + i + n) ∨ (94 + i ≤ k ∧ k < 94 + i + n) then -8 else F k
  | 0, i, F, k, _ => by rw [if_neg (by omega), if_neg (by omega)]; rfl
  | n + 1, i, F, k, h => by
    show bz3 n (i + 1) (upd (upd (upd (upd F (46 + i) (if F 1 = 1 then 1 else 0)) (54 + i) (-8)) (70 + i) (-8)) (94 + i) (-8)) k = _
    rw [bz3_at n (i + 1) _ k (by omega)]
    rw [show upd (upd (upd (upd F (46 + i) (if F 1 = 1 then 1 else 0)) (54 + i) (-8)) (70 + i) (-8)) (94 + i) (-8) 1 = F 1 by rw [upd_ne (by omega), upd_ne (by omega), upd_ne (by omega), upd_ne (by omega)]]
    generalize (if F 1 = 1 then (1 : Int32) else 0) = b
    by_cases h1 : 46 + (i + 1) ≤ k ∧ k < 46 + (i + 1) + n
    · rw [if_pos h1, if_pos (by omega)]
    · rw [if_neg h1]
      by_cases h2 : (54 + (i + 1) ≤ k ∧ k < 54 + (i + 1) + n) ∨ (70 + (i + 1) ≤ k ∧ k < 70 + (i + 1) + n) ∨ (94 + (i + 1) ≤ k ∧ k < 94 + (i + 1) + n)
      · rw [if_pos h2, if_neg (by omega), if_pos (by omega)]
      · rw [if_neg h2]
        by_cases e : k = 94 + i
        · subst e; rw [upd_eq, if_neg (by omega), if_pos (by omega)]
        rw [upd_ne e]
        by_cases e : k = 70 + i
        · subst e; rw [upd_eq, if_neg (by omega), if_pos (by omega)]
        rw [upd_ne e]
        by_cases e : k = 54 + i
        · subst e; rw [upd_eq, if_neg (by omega), if_pos (by omega)]
        rw [upd_ne e]
        by_cases e : k = 46 + i
        · subst e; rw [upd_eq, if_pos (by omega)]
        · rw [upd_ne e, if_neg (by omega), if_neg (by omega)]
theorem bz4_at : ∀ (n i : Nat) (F : Nat → Int32) (k : Nat), bz4 n i F k = if 228 + i ≤ k ∧ k < 228 + i + n then 1 else F k
  | 0, i, F, k => by rw [if_neg (by omega)]; rfl
  | n + 1, i, F, k => by
    show bz4 n (i + 1) (upd F (228 + i) 1) k = _
    rw [bz4_at n (i + 1) _ k]
    by_cases e : k = 228 + i
    · subst e; rw [if_neg (by omega), if_pos (by omega), upd_eq]
    · by_cases h1 : 228 + (i + 1) ≤ k ∧ k < 228 + (i + 1) + n
      · rw [if_pos h1, if_pos (by omega)]
      · rw [if_neg h1, if_neg (by omega), upd_ne e]
theorem begM_at (F : Nat → Int32) (T : Int32) (k : Nat) : begM F T k = if k = 0 then T else if k < 9 then F k else if 228 ≤ k ∧ k < 231 then 1 else if 46 ≤ k ∧ k < 54 then (if F 1 = 1 then 1 else 0) else if (22 ≤ k ∧ k < 34) ∨ (54 ≤ k ∧ k < 62) ∨ (70 ≤ k ∧ k < 78) ∨ (94 ≤ k ∧ k < 102) then -8 else if k < 482 then 0 else F k := by
  unfold begM
  rw [bz4_at, bz3_at _ _ _ _ (by omega), bz2_at _ _ _ 1 (by omega), bz2_at _ _ _ k (by omega), if_neg (by omega : ¬ ((22 + 0 ≤ 1 ∧ 1 < 22 + 0 + 6) ∨ (28 + 0 ≤ 1 ∧ 1 < 28 + 0 + 6))), upd_ne (by omega : (1 : Nat) ≠ 0), bz1_at 473 9 F 1, if_neg (by omega : ¬ (9 ≤ 1 ∧ 1 < 9 + 473))]
  generalize (if F 1 = 1 then (1 : Int32) else 0) = b
  by_cases e : k = 0
  · subst e; rw [if_neg (by omega), if_neg (by omega), if_neg (by omega), if_neg (by omega), upd_eq, if_pos rfl]
  rw [if_neg e, upd_ne e, bz1_at]
  repeat' split
  all_goals first | rfl | (exfalso; omega)
theorem lst_zero {F : Nat → Int32} {q p : Nat} (h : F q = 0) : lst F q p = [] := by
  unfold lst
  rw [h]; rfl
theorem beg0 {F : Nat → Int32} {T : Int32} {k : Nat} (h : (9 ≤ k ∧ k < 22) ∨ (34 ≤ k ∧ k < 46) ∨ (62 ≤ k ∧ k < 70) ∨ (78 ≤ k ∧ k < 94) ∨ (102 ≤ k ∧ k < 228) ∨ (231 ≤ k ∧ k < 482)) : begM F T k = 0 := by
  rw [begM_at, if_neg (by omega), if_neg (by omega), if_neg (by omega), if_neg (by omega), if_neg (by omega), if_pos (by omega)]
theorem TS.beg {F : Nat → Int32} {T : Nat} (hT : T ≤ 6) : TS (begM F (nI T)) := by
  have e0 : begM F (nI T) 0 = nI T := by rw [begM_at, if_pos rfl]
  have q : ∀ o, o < 8 → Qs (begM F (nI T)) o = [] := fun o ho => lst_zero (beg0 (by omega))
  have w : ∀ o, o < 8 → Ws (begM F (nI T)) o = [] := fun o ho => lst_zero (beg0 (by omega))
  refine ⟨⟨⟨T, hT, e0⟩, fun o ho => ⟨⟨0, by omega, beg0 (by omega)⟩, ⟨0, by omega, beg0 (by omega)⟩⟩⟩, ?_⟩
  rw [e0, ntn (by omega)]
  refine ⟨fun o ho => by rw [q o ho, w o ho]; exact ⟨List.nodup_nil, List.nodup_nil⟩, fun o x ho hx => ?_, fun o x ho hx => ?_, fun t ht => Or.inr (Or.inr ⟨Or.inl (beg0 (by omega)), ?_⟩)⟩
  · rw [q o ho] at hx; cases hx
  · rw [w o ho] at hx; cases hx
  · show begM F (nI T) (28 + t) = -8
    rw [begM_at, if_neg (by omega), if_neg (by omega), if_neg (by omega), if_neg (by omega), if_pos (by omega)]
theorem OKr.beg {F : Nat → Int32} {T : Int32} : OKr (begM F T) := ⟨0, by omega, beg0 (by omega)⟩
