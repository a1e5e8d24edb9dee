/-! waits end -/
section OPT
variable {C F : Nat → Int32} {n r : Nat}
theorem pfi_upd {f : Nat → Int32} {q p k : Nat} {x v : Int32} (hlt : nt (f q) < 6) (h : k ≠ q ∧ (k < p ∨ p + 6 ≤ k)) : pfiF (upd f k v) q p x = upd (pfiF f q p x) k v := by
  have sh : ∀ (s : Nat) (g : Nat → Int32), s < 6 → shf p s (upd g k v) = upd (shf p s g) k v := by
    intro s
    induction s with
    | zero => intro g _; rfl
    | succ s ih =>
      intro g hs
      show shf p s (upd (upd g k v) (p + (s + 1)) (upd g k v (p + s))) = upd (shf p s (upd g (p + (s + 1)) (g (p + s)))) k v
      rw [upd_ne (show p + s ≠ k by omega), upd_comm (f := g) (i := k) (j := p + (s + 1)) (by omega), ih _ (by omega)]
  unfold pfiF
  rw [upd_ne (show q ≠ k by omega)]
  split
  · rfl
  · show upd (upd (shf p (nt (f q)) (upd f k v)) (p + 0) x) q (upd (shf p (nt (f q)) (upd f k v)) (p + 0) x q + 1) = upd (upd (upd (shf p (nt (f q)) f) (p + 0) x) q (upd (shf p (nt (f q)) f) (p + 0) x q + 1)) k v
    rw [sh _ f hlt, upd_comm (f := shf p (nt (f q)) f) (i := k) (j := p + 0) (by omega), upd_ne (show q ≠ k by omega), upd_comm (f := upd (shf p (nt (f q)) f) (p + 0) x) (i := k) (j := q) (by omega)]
/-- a wait ends: the thread goes into the queue -/
theorem Rel.wait {t o : Nat} {w : Int32} (h : Rel C F) (hi : INV F n r) (ho : o < 8) (ht : t < nt (F 0)) (hs : F (10 + t) = 2) (ha : F (28 + t) = nI o) : (Rel (appF (ewF C (nI t) o w) (110 + o) (126 + 6 * o) (nI t)) (ewM F t o w 0) ∧ Rel (pfiF (ewF C (nI t) o w) (110 + o) (126 + 6 * o) (nI t)) (ewM F t o w 1)) ∧ (∀ v, INV (ewM F t o w v) n r) ∧ F (46 + o) = 4 := by
  obtain ⟨T, t1, t2, t3, t4⟩ := hi.T
  have ht6 : t < 6 := by omega
  have hnq : nI t ∉ Qs F o := hi.2.1.notq ht ho (fun z => by rw [hs] at z; exact absurd z.1 (by decide))
  have hlt := hi.2.1.roomq ht ho hnq
  obtain ⟨o', ho', ha', hm⟩ := hi.2.1.wait ht hs
  have e' : o' = o := nI_inj (by omega) (by omega) (ha'.symm.trans ha)
  subst e'
  have h4 : F (46 + o') = 4 := Decidable.not_not.mp (fun z => by
    have := ((hi.2.2.2.2 o' ho).2.2.2.2.2.1 z).2
    have hz : Ws F o' = [] := lst_zero this
    rw [hz] at hm; exact absurd hm (by simp))
  have hD := h.dropw (x := nI t) ho
  have hWc := h.wc.dropw (x := nI t) ho
  have hWf := h.1.dropw (x := nI t) ho
  have dC : ∀ k, k ≠ 118 + o' → (k < 174 ∨ 222 ≤ k) → dropF C (118 + o') (174 + 6 * o') (nI t) k = C k := fun k a b => dropF_out (h.wc.w ho) a (by omega)
  have dF : ∀ k, k ≠ 118 + o' → (k < 174 ∨ 222 ≤ k) → dropF F (118 + o') (174 + 6 * o') (nI t) k = F k := fun k a b => dropF_out (h.1.w ho) a (by omega)
  have lF : nt (dropF F (118 + o') (174 + 6 * o') (nI t) (110 + o')) < 6 := by rw [dF _ (by omega) (by omega)]; exact hlt
  have lC : nt (dropF C (118 + o') (174 + 6 * o') (nI t) (110 + o')) < 6 := by rw [dC _ (by omega) (by omega), h.nq (by omega)]; exact hlt
  have g40 : C (40 + t) = F (40 + t) := h.2.2.2.1 t ht6 (Or.inr hs)
  have h1 := hD.up (k := 22 + t) (x := w) (by omega)
  have lF1 : nt (upd (dropF F (118 + o') (174 + 6 * o') (nI t)) (22 + t) w (110 + o')) < 6 := by rw [upd_ne (by omega)]; exact lF
  have lC1 : nt (upd (dropF C (118 + o') (174 + 6 * o') (nI t)) (22 + t) w (110 + o')) < 6 := by rw [upd_ne (by omega)]; exact lC
  have sF1 : OKs (upd (dropF F (118 + o') (174 + 6 * o') (nI t)) (22 + t) w) (110 + o') := (hWf.up (by omega)).q ho
  have e0 : ewM F t o' w 0 = upd (upd (appF (upd (dropF F (118 + o') (174 + 6 * o') (nI t)) (22 + t) w) (110 + o') (126 + 6 * o') (nI t)) (10 + t) 1) (28 + t) (nI o') := by
    unfold ewM; rw [if_pos rfl]; exact quM_app sF1 lF1
  have e1 : ∀ v, ¬ v = 0 → ewM F t o' w v = upd (upd (pfiF (upd (dropF F (118 + o') (174 + 6 * o') (nI t)) (22 + t) w) (110 + o') (126 + 6 * o') (nI t)) (10 + t) 1) (28 + t) (nI o') := fun v hv => by
    unfold ewM; rw [if_neg hv]; exact qfM_pfi sF1 lF1
  refine ⟨⟨?_, ?_⟩, fun v => ?_, h4⟩
  · have cq : appF (ewF C (nI t) o' w) (110 + o') (126 + 6 * o') (nI t) = upd (upd (appF (upd (dropF C (118 + o') (174 + 6 * o') (nI t)) (22 + t) w) (110 + o') (126 + 6 * o') (nI t)) (10 + t) 1) (28 + t) (nI o') := by
      unfold ewF
      rw [ntn (by omega), upd_comm (f := dropF C (118 + o') (174 + 6 * o') (nI t)) (i := 10 + t) (j := 22 + t) (by omega), app_upd (f := upd (dropF C (118 + o') (174 + 6 * o') (nI t)) (22 + t) w) (k := 10 + t) (by omega)]
      refine (upd_id ?_).symm
      rw [upd_ne (by omega), appF_o lC1 (by omega) (by omega), upd_ne (by omega), dC _ (by omega) (by omega), h.e (by omega), ha]
    rw [cq, e0]
    refine Rel.up (Rel.st1 (h1.appq ho lF1) ht6 ?_) (by omega)
    rw [appF_o lC1 (by omega) (by omega), appF_o lF1 (by omega) (by omega), upd_ne (by omega), upd_ne (by omega), dC _ (by omega) (by omega), dF _ (by omega) (by omega)]; exact g40
  · have cq : pfiF (ewF C (nI t) o' w) (110 + o') (126 + 6 * o') (nI t) = upd (upd (pfiF (upd (dropF C (118 + o') (174 + 6 * o') (nI t)) (22 + t) w) (110 + o') (126 + 6 * o') (nI t)) (10 + t) 1) (28 + t) (nI o') := by
      unfold ewF
      rw [ntn (by omega), upd_comm (f := dropF C (118 + o') (174 + 6 * o') (nI t)) (i := 10 + t) (j := 22 + t) (by omega), pfi_upd (f := upd (dropF C (118 + o') (174 + 6 * o') (nI t)) (22 + t) w) (k := 10 + t) lC1 (by omega)]
      refine (upd_id ?_).symm
      rw [upd_ne (by omega), pfiF_o lC1 (by omega) (by omega), upd_ne (by omega), dC _ (by omega) (by omega), h.e (by omega), ha]
    rw [cq, e1 1 (by decide)]
    refine Rel.up (Rel.st1 (h1.pfiq ho lF1) ht6 ?_) (by omega)
    rw [pfiF_o lC1 (by omega) (by omega), pfiF_o lF1 (by omega) (by omega), upd_ne (by omega), upd_ne (by omega), dC _ (by omega) (by omega), dF _ (by omega) (by omega)]; exact g40
  · have out : ∀ k, k ≠ 22 + t → k ≠ 10 + t → k ≠ 28 + t → k ≠ 110 + o' → k ≠ 118 + o' → (k < 126 ∨ 222 ≤ k) → ewM F t o' w v k = F k := fun k a1 a2 a3 a4 a5 a6 => by
      by_cases hv : v = 0
      · subst hv
        rw [e0, upd_ne a3, upd_ne a2, appF_o lF1 a4 (by omega), upd_ne a1, dF k a5 (by omega)]
      · rw [e1 v hv, upd_ne a3, upd_ne a2, pfiF_o lF1 a4 (by omega), upd_ne a1, dF k a5 (by omega)]
    refine ⟨hi.1, hi.2.1.ew ht ho hs ha, hi.2.2.1.cg (Nat.le_refl _) (Nat.le_refl _) (fun k hk => out k (by omega) (by omega) (by omega) (by omega) (by omega) (by omega)), fun t' ht' => ?_, fun o2 ho2 => ?_⟩
    · by_cases e : t' = t
      · subst e
        have hT := hi.2.2.2.1 t' ht'
        refine ⟨by rw [out (16 + t') (by omega) (by omega) (by omega) (by omega) (by omega) (by omega)]; exact hT.1, fun _ => ?_⟩
        rw [out (40 + t') (by omega) (by omega) (by omega) (by omega) (by omega) (by omega)]; exact hT.2 (Or.inr hs)
      · exact (hi.2.2.2.1 t' ht').cg (Nat.le_refl _) (fun k hk => out k (by omega) (by omega) (by omega) (by omega) (by omega) (by omega))
    · by_cases e : o2 = o'
      · subst e
        have hO := hi.2.2.2.2 o2 ho2
        unfold OI at hO ⊢
        rw [out 0 (by omega) (by omega) (by omega) (by omega) (by omega) (by omega), out (46 + o2) (by omega) (by omega) (by omega) (by omega) (by omega) (by omega), out (54 + o2) (by omega) (by omega) (by omega) (by omega) (by omega) (by omega), out (62 + o2) (by omega) (by omega) (by omega) (by omega) (by omega) (by omega), out (70 + o2) (by omega) (by omega) (by omega) (by omega) (by omega) (by omega), out (78 + o2) (by omega) (by omega) (by omega) (by omega) (by omega) (by omega), out (222 + o2 % 3) (by omega) (by omega) (by omega) (by omega) (by omega) (by omega), out (86 + o2) (by omega) (by omega) (by omega) (by omega) (by omega) (by omega), out (94 + o2) (by omega) (by omega) (by omega) (by omega) (by omega) (by omega)]
        obtain ⟨a1, a2, a3, a4, a5, a6, a7⟩ := hO
        exact ⟨a1, a2, a3, a4, a5, fun q => absurd h4 q, a7⟩
      · exact (hi.2.2.2.2 o2 ho2).cg (Nat.le_refl _) (fun k hk => out k (by omega) (by omega) (by omega) (by omega) (by omega) (by omega))
/-- the first of a wait set, as both see it -/
theorem wt_hd {o : Nat} (h : Rel C F) (hi : INV F n r) (ho : o < 8) : (F (118 + o) ≤ 0 ∧ ¬ hasT C (atF C (118 + o) (174 + 6 * o) 0)) ∨ (¬ F (118 + o) ≤ 0 ∧ ∃ t, t < nt (F 0) ∧ F (174 + 6 * o) = nI t ∧ atF C (118 + o) (174 + 6 * o) 0 = nI t ∧ hasT C (nI t) ∧ F (10 + t) = 2 ∧ F (28 + t) = nI o) := by
  obtain ⟨T, t1, t2, t3, t4⟩ := hi.T
  rw [wd_eq h ho]
  rcases lst_at (p := 174 + 6 * o) (h.1.w ho) with ⟨b1, b2, b3⟩ | ⟨l', b1, b2, b3, b4⟩
  · left
    refine ⟨by rw [b3]; decide, fun z => ?_⟩
    rw [b2] at z
    exact z.1 (by decide)
  · right
    obtain ⟨t, u1, u2, u3, u4, -⟩ := hi.2.1.wd ho b3
    exact ⟨b3, t, u1, u2, by rw [b2, u2], hasT_nI h u1 (by omega) (by rw [t4]; exact t3), u3, u4⟩
theorem op_signal {x y : Int32} (h : Rel C F) (hi : INV F n r) (hj : OKr F) (hn : n < 100000) (hr : r + 200 ≤ 100000000) : OPok n r (nfF C x y) (sigM F x y) := by
  unfold nfF sigM
  rw [oErr_eq h hi]
  by_cases q : fbM F x y = 0
  · rw [if_pos q, if_pos (fb_0.mpr q)]
    obtain ⟨t, o, ⟨ht6, htT⟩, ho, rfl, rfl, f1, f2, f3⟩ := fb_ok h.1 (fb_0.mpr q)
    rw [ntn (show o < 2 ^ 31 by omega)]
    rcases wt_hd h hi ho with ⟨w1, w2⟩ | ⟨w1, u, u1, u2, u3, u4, u5, u6⟩
    · rw [if_neg w2]
      have e : (if F (46 + o) = 4 then (if F (118 + o) ≤ 0 then ((-8 : Int32), rcdM F 3 (nI t) (nI o) 0) else if F 8 = 1 then (F (174 + 6 * o), rcdM (ewM F (nt (F (174 + 6 * o))) o 1 1) 3 (nI t) (nI o) 0) else (F (174 + 6 * o), rcdM (ewM F (nt (F (174 + 6 * o))) o 1 0) 3 (nI t) (nI o) 0)) else (-8, rcdM F 3 (nI t) (nI o) 0)) = (-8, rcdM F 3 (nI t) (nI o) 0) := by
        split <;> first | rfl | rw [if_pos w1]
      rw [e]
      exact OPok.mk rfl h hi (by omega) (by omega) hn hr (rcd_lo hj)
    · obtain ⟨⟨g1, g2⟩, g3, g4⟩ := h.wait (w := 1) hi ho u1 u5 u6
      have hu6 : u < 6 := by obtain ⟨T, t1, t2, t3, t4⟩ := hi.T; omega
      rw [u3, if_pos u4, if_pos g4, if_neg w1, u2, ntn (show u < 2 ^ 31 by omega)]
      have v7 : valF (ewF C (nI u) o 1) 7 = F 8 := by
        rw [show (7 : Int32) = nI 7 from rfl, valF_at (by decide)]
        unfold ewF
        rw [ntn (show u < 2 ^ 31 by omega), upd_ne (by omega), upd_ne (by omega), dropF_out (h.wc.w ho) (by omega) (by omega)]; exact h.e (by omega)
      have hk : ∀ v, OKr (ewM F u o 1 v) := fun v => (Hi.ew Hi.rf h.1 hu6 ho).r hj
      rw [v7]
      by_cases q8 : F 8 = 1
      · rw [if_pos q8, if_pos q8]
        exact OPok.mk rfl g2 (g3 1) (by omega) (by omega) hn hr (rcd_lo (hk 1))
      · rw [if_neg q8, if_neg q8]
        exact OPok.mk rfl g1 (g3 0) (by omega) (by omega) hn hr (rcd_lo (hk 0))
  · rw [if_neg q, if_neg (fun z => q (fb_0.mp z))]
    exact OPok.mk rfl h hi (by omega) (by omega) hn hr (fun _ _ => rfl)
theorem ne_loop {o : Nat} (ho : o < 8) : ∀ (m : Nat) (C F : Nat → Int32) (a : Int32), Rel C F → INV F n r → (neL o m C a).1 = (saL o m F a).1 ∧ Rel (neL o m C a).2 (saL o m F a).2 ∧ INV (saL o m F a).2 n r
  | 0, C, F, a, h, hi => ⟨rfl, h, hi⟩
  | m + 1, C, F, a, h, hi => by
    show (neL o m (neS C o) (if hasT C (atF C (118 + o) (174 + 6 * o) 0) then a + 1 else a)).1 = (if F (46 + o) = 4 then (if F (118 + o) ≤ 0 then (a, F) else saL o m (ewM F (nt (F (174 + 6 * o))) o 1 0) (a + 1)) else (a, F)).1 ∧ Rel (neL o m (neS C o) (if hasT C (atF C (118 + o) (174 + 6 * o) 0) then a + 1 else a)).2 (if F (46 + o) = 4 then (if F (118 + o) ≤ 0 then (a, F) else saL o m (ewM F (nt (F (174 + 6 * o))) o 1 0) (a + 1)) else (a, F)).2 ∧ INV (if F (46 + o) = 4 then (if F (118 + o) ≤ 0 then (a, F) else saL o m (ewM F (nt (F (174 + 6 * o))) o 1 0) (a + 1)) else (a, F)).2 n r
    rcases wt_hd h hi ho with ⟨w1, w2⟩ | ⟨w1, u, u1, u2, u3, u4, u5, u6⟩
    · have e : (if F (46 + o) = 4 then (if F (118 + o) ≤ 0 then (a, F) else saL o m (ewM F (nt (F (174 + 6 * o))) o 1 0) (a + 1)) else (a, F)) = (a, F) := by
        split <;> first | rfl | rw [if_pos w1]
      have e2 : neS C o = C := by unfold neS; rw [if_neg w2]
      rw [e, e2, if_neg w2]
      have := ne_loop ho m C F a h hi
      rw [saL_done m F a (Or.inr w1)] at this
      exact this
    · obtain ⟨⟨g1, g2⟩, g3, g4⟩ := h.wait (w := 1) hi ho u1 u5 u6
      have hu6 : u < 6 := by obtain ⟨T, t1, t2, t3, t4⟩ := hi.T; omega
      have e2 : neS C o = appF (ewF C (nI u) o 1) (110 + o) (126 + 6 * o) (nI u) := by unfold neS; rw [u3, if_pos u4]
      rw [if_pos g4, if_neg w1, e2, u3, if_pos u4, u2, ntn (show u < 2 ^ 31 by omega)]
      exact ne_loop ho m _ _ _ g1 (g3 0)
theorem saL_hi {o : Nat} (ho : o < 8) {F : Nat → Int32} (h : TS F) (hj : OKr F) (a : Int32) (m : Nat) : OKr (saL o m F a).2 := (saL_TS ho m F a h Hi.rf).2.r hj
theorem op_signalAll {x y : Int32} (h : Rel C F) (hi : INV F n r) (hj : OKr F) (hn : n < 100000) (hr : r + 200 ≤ 100000000) : OPok n r (neF C x y) (sgaM F x y) := by
  unfold neF sgaM
  rw [oErr_eq h hi]
  by_cases q : fbM F x y = 0
  · rw [if_pos q, if_pos (fb_0.mpr q)]
    obtain ⟨t, o, ⟨ht6, htT⟩, ho, rfl, rfl, f1, f2, f3⟩ := fb_ok h.1 (fb_0.mpr q)
    rw [ntn (show o < 2 ^ 31 by omega), ntn (show t < 2 ^ 31 by omega)]
    obtain ⟨g1, g2, g3⟩ := ne_loop ho 6 C F 0 h hi
    unfold saE
    exact OPok.mk g1 g2 g3 (by omega) (by omega) hn hr (rcd_lo (saL_hi ho hi.2.1 hj 0 6))
  · rw [if_neg q, if_neg (fun z => q (fb_0.mp z))]
    exact OPok.mk rfl h hi (by omega) (by omega) hn hr (fun _ _ => rfl)
theorem INV.hit {t : Nat} {x : Int32} (hi : INV F n r) (ht : t < 6) (hx : x = 0 ∨ x = 1) : INV (upd F (16 + t) x) n r := by
  refine ⟨hi.1, hi.2.1.up (by omega), hi.2.2.1.cg (Nat.le_refl _) (Nat.le_refl _) (fun k hk => upd_ne (by omega)), fun t' ht' => ?_, fun o' ho' => (hi.2.2.2.2 o' ho').cg (Nat.le_refl _) (fun k hk => upd_ne (by omega))⟩
  by_cases e : t' = t
  · subst e
    refine ⟨by rw [upd_eq]; exact hx, ?_⟩
    rw [upd_ne (by omega), upd_ne (by omega)]; exact (hi.2.2.2.1 t' ht').2
  · exact (hi.2.2.2.1 t' ht').cg (Nat.le_refl _) (fun k hk => upd_ne (by omega))
theorem op_interrupt {x : Int32} (h : Rel C F) (hi : INV F n r) (hj : OKr F) (hn : n < 100000) (hr : r + 200 ≤ 100000000) : OPok n r (intF C x) (intM F x) := by
  unfold intF intM
  by_cases q : isT F x
  · obtain ⟨t, ht6, htT, rfl⟩ := isT_nat h.1 q
    rw [if_pos q, if_pos ((hasT_iff h hi).mpr q), ntn (show t < 2 ^ 31 by omega), h.e (q := 10 + t) (by omega)]
    by_cases q3 : F (10 + t) = 3
    · rw [if_pos q3, if_pos q3]
      exact OPok.mk rfl h hi (by omega) (by omega) hn hr (fun _ _ => rfl)
    · rw [if_neg q3, if_neg q3]
      have hR : Rel C (rcdM F 5 (nI t) 0 0) := h.lo (rcd_lo hj)
      have hI : INV (rcdM F 5 (nI t) 0 0) n r := hi.lo (rcd_lo hj)
      have v10 : rcdM F 5 (nI t) 0 0 (10 + t) = F (10 + t) := rcd_lo hj _ (by omega)
      have v28 : rcdM F 5 (nI t) 0 0 (28 + t) = F (28 + t) := rcd_lo hj _ (by omega)
      have v0 : rcdM F 5 (nI t) 0 0 0 = F 0 := rcd_lo hj _ (by omega)
      rw [v10, v28, h.e (q := 28 + t) (by omega)]
      by_cases q2 : F (10 + t) = 2
      · obtain ⟨o, ho, ha, -⟩ := hi.2.1.wait htT q2
        have hio : isO (F (28 + t)) := by rw [ha]; exact ⟨nI_pos (by omega), nI_ge (a := o) (b := 8) ho (by decide)⟩
        rw [if_pos q2, if_pos q2, if_pos hio, ha, ntn (show o < 2 ^ 31 by omega)]
        obtain ⟨⟨g1, g2⟩, g3, g4⟩ := hR.wait (w := 3) hI ho (by rw [v0]; exact htT) (by rw [v10]; exact q2) (by rw [v28]; exact ha)
        exact OPok.mk rfl g1 (g3 0) (by omega) (by omega) hn hr (fun _ _ => rfl)
      · rw [if_neg q2, if_neg q2]
        exact OPok.mk rfl (hR.up (by omega)) (hI.hit ht6 (Or.inr rfl)) (by omega) (by omega) hn hr (fun _ _ => rfl)
  · rw [if_neg q, if_neg (fun z => q ((hasT_iff h hi).mp z))]
    exact OPok.mk rfl h hi (by omega) (by omega) hn hr (fun _ _ => rfl)
theorem op_start {x : Int32} (h : Rel C F) (hi : INV F n r) (hj : OKr F) (hn : n < 100000) (hr : r + 200 ≤ 100000000) : OPok n r (startF C x) (strM F x) := by
  unfold startF strM
  by_cases q : isT F x
  · obtain ⟨t, ht6, htT, rfl⟩ := isT_nat h.1 q
    rw [if_pos q, if_pos ((hasT_iff h hi).mpr q), ntn (show t < 2 ^ 31 by omega), h.e (q := 10 + t) (by omega)]
    by_cases q3 : F (10 + t) = 3
    · rw [if_pos q3, if_pos q3]
      have hR := h.st0 (t := t) (x := 0) ht6 (by decide)
      have hI : INV (upd F (10 + t) 0) n r := by
        refine ⟨hi.1, hi.2.1.str htT q3, hi.2.2.1.cg (Nat.le_refl _) (Nat.le_refl _) (fun k hk => upd_ne (by omega)), fun t' ht' => ?_, fun o' ho' => (hi.2.2.2.2 o' ho').cg (Nat.le_refl _) (fun k hk => upd_ne (by omega))⟩
        by_cases e : t' = t
        · subst e
          refine ⟨by rw [upd_ne (by omega)]; exact (hi.2.2.2.1 t' ht').1, fun z => ?_⟩
          rw [upd_eq] at z; exact absurd z (by decide)
        · exact (hi.2.2.2.1 t' ht').cg (Nat.le_refl _) (fun k hk => upd_ne (by omega))
      have hk : OKr (upd F (10 + t) 0) := OKr_up (by omega) hj
      have st : ∀ (m i : Nat) (a : Int32), i + m ≤ 6 → stL (upd C (10 + t) 0) m i a = stL (rcdM (upd F (10 + t) 0) 7 (nI t) 0 0) m i a := by
        intro m
        induction m with
        | zero => intro i a _; rfl
        | succ m ih =>
          intro i a hm
          show stL (upd C (10 + t) 0) m (i + 1) _ = stL (rcdM (upd F (10 + t) 0) 7 (nI t) 0 0) m (i + 1) _
          rw [rcd_lo hk (10 + i) (by omega), hR.e (q := 10 + i) (by omega)]
          exact ih (i + 1) _ (by omega)
      obtain ⟨T, t1, t2, t3, t4⟩ := hi.T
      refine OPok.mk ?_ hR hI (by omega) (by omega) hn hr (rcd_lo hk)
      show stL (upd C (10 + t) 0) (nt (C 0)) 0 0 = stL (rcdM (upd F (10 + t) 0) 7 (nI t) 0 0) (nt (F 0)) 0 0
      rw [h.e (q := 0) (by omega)]
      exact st _ _ _ (by omega)
    · rw [if_neg q3, if_neg q3]
      exact OPok.mk rfl h hi (by omega) (by omega) hn hr (fun _ _ => rfl)
  · rw [if_neg q, if_neg (fun z => q ((hasT_iff h hi).mp z))]
    exact OPok.mk rfl h hi (by omega) (by omega) hn hr (fun _ _ => rfl)
end OPT
