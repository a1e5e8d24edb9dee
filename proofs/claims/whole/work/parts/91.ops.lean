/-! the other operations, class against reference -/
theorem hasT_iff {C F : Nat → Int32} {n r : Nat} {x : Int32} (h : Rel C F) (hi : INV F n r) : hasT C x ↔ isT F x := by
  obtain ⟨T, t1, t2, t3, -⟩ := hi.T
  unfold hasT isT inP
  rw [h.e (q := 0) (by omega), t3, sub1 (by omega)]
  constructor
  · rintro ⟨a, b, -⟩
    refine ⟨a, fun z => b ?_⟩
    obtain ⟨e1, e2⟩ | e := Decidable.em (nt x < T ∧ x = nI (nt x))
    · rw [e2] at z
      exact absurd z (nI_nlt (by omega) (by omega))
    · have hx : nI T ≤ x := Decidable.not_not.mp (fun y => e (by
        obtain ⟨p1, p2⟩ := nat_of a y (by omega)
        exact ⟨p2, p1⟩))
      exact hx
  · rintro ⟨a, b⟩
    have hx : ¬ nI T ≤ x := fun z => b (Int32.lt_of_lt_of_le (nI_lt (by omega) (by omega)) z)
    obtain ⟨p1, p2⟩ := nat_of a hx (by omega)
    have p2 : nt x < T := p2
    refine ⟨a, hx, ?_⟩
    rw [p1]
    exact nI_ge (a := nt x) (b := 6) (by omega) (by decide)
theorem isO_iff {y : Int32} : isO y ↔ isOb y := by
  unfold isO isOb inP
  constructor
  · rintro ⟨a, b⟩
    obtain ⟨p1, p2⟩ := nat_of (s := 8) a b (by decide)
    have p2 : nt y < 8 := p2
    refine ⟨a, ?_⟩
    rw [p1]
    exact nI_nlt (a := 7) (b := nt y) (by omega) (by decide)
  · rintro ⟨a, b⟩
    exact ⟨a, fun z => b (Int32.lt_of_lt_of_le (by decide) z)⟩
theorem rErr_eq {C F : Nat → Int32} {n r : Nat} {x y : Int32} (h : Rel C F) (hi : INV F n r) : rErrF C x y = if isT F x then (if isOb y then (if F (10 + nt x) = 0 then 0 else -4) else -2) else -1 := by
  unfold rErrF
  by_cases q : isT F x
  · obtain ⟨t, p1, p2, p3⟩ := isT_nat h.1 q
    rw [if_pos q, if_pos ((hasT_iff h hi).mpr q)]
    by_cases q2 : isOb y
    · rw [if_pos q2, if_pos (isO_iff.mpr q2), p3, ntn (by omega), h.e (by omega)]
    · rw [if_neg q2, if_neg (fun z => q2 (isO_iff.mp z))]
  · rw [if_neg q, if_neg (fun z => q ((hasT_iff h hi).mp z))]
theorem oErr_eq {C F : Nat → Int32} {n r : Nat} {x y : Int32} (h : Rel C F) (hi : INV F n r) : oErrF C x y = fbM F x y := by
  unfold oErrF fbM
  rw [rErr_eq h hi]
  by_cases q : isT F x
  · rw [if_pos q, if_pos q]
    by_cases q2 : isOb y
    · obtain ⟨o, p1, p2⟩ := isOb_nat q2
      rw [if_pos q2, if_pos q2]
      by_cases q3 : F (10 + nt x) = 0
      · rw [if_pos q3, if_pos q3, if_pos rfl, p2, ntn (by omega), h.e (q := 62 + o) (by omega), h.e (q := 54 + o) (by omega)]
        by_cases q4 : F (62 + o) ≤ 0
        · rw [if_neg (fun z => z.1 q4), if_neg (fun z => z q4)]
        · rw [if_pos q4]
          by_cases q5 : F (54 + o) = x
          · rw [if_pos ⟨q4, q5⟩, if_pos q5]
          · rw [if_neg (fun z => q5 z.2), if_neg q5]
      · rw [if_neg q3, if_neg q3, if_neg (show ¬ (-4 : Int32) = 0 by decide)]
    · rw [if_neg q2, if_neg q2, if_neg (show ¬ (-2 : Int32) = 0 by decide)]
  · rw [if_neg q, if_neg q, if_neg (show ¬ (-1 : Int32) = 0 by decide)]
theorem fb_0 {F : Nat → Int32} {x y : Int32} : 0 ≤ fbM F x y ↔ fbM F x y = 0 := by
  unfold fbM
  repeat' split
  all_goals decide
theorem fb_err {F : Nat → Int32} {x y : Int32} (h : ¬ fbM F x y = 0) : fbM F x y = -1 ∨ fbM F x y = -2 ∨ fbM F x y = -4 ∨ fbM F x y = -5 := by
  revert h
  unfold fbM
  repeat' split
  all_goals decide
/-- the low numbers are the same -/
theorem Rel.lo {C F F' : Nat → Int32} (h : Rel C F) (he : ∀ k, k < 241 → F' k = F k) : Rel C F' := by
  have hW : WI F' := h.1.of (fun q hq => he q (by omega))
  refine ⟨hW, fun q hq => (h.2.1 q hq).trans (he q (by omega)).symm, fun t ht hs => ?_, fun t ht hs => ?_, fun o ho hs => ?_, fun o ho => ?_, fun o ho => ?_⟩
  · rw [he (10 + t) (by omega)] at hs; rw [he (34 + t) (by omega)]; exact h.2.2.1 t ht hs
  · rw [he (10 + t) (by omega)] at hs; rw [he (40 + t) (by omega)]; exact h.2.2.2.1 t ht hs
  · rw [he (46 + o) (by omega)] at hs; rw [he (70 + o) (by omega)]; exact h.2.2.2.2.1 o ho hs
  · rw [he (94 + o) (by omega)]; exact h.2.2.2.2.2.1 o ho
  · have e1 : Qs F' o = Qs F o := lst_congr (h.1.q ho) (he _ (by omega)) (fun i hi => he _ (by omega))
    have e2 : Ws F' o = Ws F o := lst_congr (h.1.w ho) (he _ (by omega)) (fun i hi => he _ (by omega))
    rw [e1, e2]; exact h.l ho
theorem INV.lo {F F' : Nat → Int32} {n r : Nat} (h : INV F n r) (he : ∀ k, k < 241 → F' k = F k) : INV F' n r :=
  ⟨h.1, h.2.1.of (fun q hq => he q (by omega)), h.2.2.1.cg (Nat.le_refl _) (Nat.le_refl _) (fun k hk => he k (by omega)), fun t ht => (h.2.2.2.1 t ht).cg (Nat.le_refl _) (fun k hk => he k (by omega)), fun o ho => (h.2.2.2.2 o ho).cg (Nat.le_refl _) (fun k hk => he k (by omega))⟩
/-- behind an operation: the same answer, the relation, what always holds -/
def OPok (n r : Nat) (A R : Int32 × (Nat → Int32)) : Prop := A.1 = R.1 ∧ Rel A.2 R.2 ∧ INV R.2 (n + 1) (r + 200)
theorem OPok.mk {n r : Nat} {A : Int32 × (Nat → Int32)} {a : Int32} {F1 F2 : Nat → Int32} {m s : Nat} (h1 : A.1 = a) (h2 : Rel A.2 F1) (h3 : INV F1 m s) (hm : m ≤ n + 1) (hs : s ≤ r + 200) (hn : n < 100000) (hr : r + 200 ≤ 100000000) (he : ∀ k, k < 241 → F2 k = F1 k) : OPok n r A (a, F2) := ⟨h1, h2.lo he, (h3.mono hm hs (by omega) hr).lo he⟩
theorem rcd_lo {F : Nat → Int32} {a b c e : Int32} (hr : OKr F) : ∀ k, k < 241 → rcdM F a b c e k = F k := fun k hk => rcd_hi hr (Or.inl hk)
section OPS
variable {C F : Nat → Int32} {n r : Nat}
theorem relM_upd {v : Int32} {o : Nat} (ho : o < 8) : relM (upd F (62 + o) v) o = relM F o := by
  have e1 : rel1 (upd F (62 + o) v) o = rel1 F o := by
    unfold rel1
    rw [upd_comm (f := F) (i := 62 + o) (j := 54 + o) (by omega), upd_twice]
  have e2 : upd F (62 + o) v (126 + 6 * o) = F (126 + 6 * o) := upd_ne (by omega)
  unfold relM
  rw [e1, e2]
theorem op_exit {x y : Int32} (h : Rel C F) (hi : INV F n r) (hj : OKr F) (hn : n < 100000) (hr : r + 200 ≤ 100000000) : OPok n r (exitF C x y) (exitM F x y) := by
  unfold exitF exitM
  rw [oErr_eq h hi]
  by_cases q : fbM F x y = 0
  · rw [if_pos q, if_pos (fb_0.mpr q)]
    obtain ⟨t, o, ⟨ht6, htT⟩, ho, rfl, rfl, f1, f2, f3⟩ := fb_ok h.1 (fb_0.mpr q)
    rw [ntn (show o < 2 ^ 31 by omega), upd_eq, upd_eq, h.e (q := 62 + o) (by omega)]
    obtain ⟨c, c1, c2, c3, c4⟩ := (hi.2.2.2.2 o ho).2.1
    have hc0 : 0 < c := by
      rcases Nat.eq_zero_or_pos c with z | z
      · subst z; exact absurd (by rw [c2]; decide) f2
      · exact z
    have hnb := hi.1.2.1
    have e1 : F (62 + o) - 1 = nI (c - 1) := by rw [c2]; exact nJ_sub (a := c) (b := 1) hc0
    rw [e1]
    by_cases q1 : c = 1
    · subst q1
      rw [if_pos (show F (62 + o) ≤ 1 by rw [c2]; decide), if_pos (show nI (1 - 1) = 0 by decide)]
      rw [relM_upd ho]
      obtain ⟨g1, g2⟩ := h.rl hi (by omega) ho
      have hk : OKr (relM F o) := (Hi.rel Hi.rf hi.2.1 ho).r hj
      exact OPok.mk (a := nI (1 - 1)) (show (0 : Int32) = nI (1 - 1) by decide) g1 g2 (by omega) (by omega) hn hr (rcd_lo hk)
    · have ne1 : ¬ F (62 + o) ≤ 1 := by rw [c2]; exact nI_ge (a := 1) (b := c) (by omega) (by omega)
      have ne0 : ¬ nI (c - 1) = 0 := by rw [← nI_0, nI_eq (by omega) (by decide)]; omega
      rw [if_neg ne1, if_neg ne0]
      have hk : OKr (upd F (62 + o) (nI (c - 1))) := OKr_up (by omega) hj
      have g2 : INV (upd F (62 + o) (nI (c - 1))) n r := by
        refine hi.ob ho (Nat.le_refl _) (Nat.le_refl _) hnb hi.1.2.2 (fun k hk => upd_ne (by omega)) (by rw [upd_ne (by omega)]; exact hi.z) ?_
        have hO := hi.2.2.2.2 o ho
        have e2 : ¬ nI (c - 1) ≤ 0 := by rw [← nI_0]; exact nI_ge (by omega) (by omega)
        unfold OI at hO ⊢
        rw [upd_eq, upd_ne (show 0 ≠ 62 + o by omega), upd_ne (show 46 + o ≠ 62 + o by omega), upd_ne (show 54 + o ≠ 62 + o by omega), upd_ne (show 70 + o ≠ 62 + o by omega), upd_ne (show 78 + o ≠ 62 + o by omega), upd_ne (show 222 + o % 3 ≠ 62 + o by omega), upd_ne (show 86 + o ≠ 62 + o by omega), upd_ne (show 94 + o ≠ 62 + o by omega), upd_ne (show 110 + o ≠ 62 + o by omega), upd_ne (show 118 + o ≠ 62 + o by omega)]
        obtain ⟨a1, -, a3, a4, a5, a6⟩ := hO
        exact ⟨a1, ⟨c - 1, by omega, rfl, fun z => by omega, fun _ => c4 hc0⟩, fun z => absurd (by rw [a3 z]; decide) f2, fun _ => e2, fun z => ⟨(a5 z).1, fun _ => (a5 z).2 f2⟩, a6⟩
      exact OPok.mk (a := nI (c - 1)) rfl (h.up (by omega)) g2 (by omega) (by omega) hn hr (rcd_lo hk)
  · rw [if_neg q, if_neg (fun z => q (fb_0.mp z))]
    exact OPok.mk rfl h hi (by omega) (by omega) hn hr (fun _ _ => rfl)
/-- what a letting go leaves alone -/
theorem relF_40 {o t : Nat} (hW : WI C) (ho : o < 8) (ht : t < 6) : relF C o (40 + t) = C (40 + t) := by
  have l : letGoF C o (40 + t) = C (40 + t) := by unfold letGoF; rw [upd_ne (by omega), upd_ne (by omega)]
  have g : ∀ D, WI D → g2fF D o (40 + t) = D (40 + t) := fun D hD => by
    unfold g2fF
    split
    · rename_i q
      have hx := (nat_of6 q.1 q.2.2).2
      rw [rec_46 (by omega)]
      unfold leaveF giveF
      rw [upd_ne (by omega), upd_ne (by omega), upd_ne (by omega), upd_ne (by omega), dropF_out (hD.q ho) (by omega) (by omega)]
    · rfl
  unfold relF
  split
  · rw [upd_ne (by omega), upd_ne (by omega), l]
  · split
    · split
      · split
        · rw [upd_ne (by omega), l]
        · rw [g _ (((hW.letGo ho).up (by omega)).up (by omega)), upd_ne (by omega), upd_ne (by omega), l]
      · rw [upd_ne (by omega), l]
    · exact l
theorem awx_app {t o : Nat} {z : Int32} (hW : WI F) (ht : t < 6) (ho : o < 8) (hlt : nt (F (118 + o)) < 6) : aw2 F t o z = appF (aw1 F t o z) (118 + o) (174 + 6 * o) (nI t) := by
  have e : aw1 F t o z (118 + o) = F (118 + o) := by
    unfold aw1; rw [upd_ne (by omega), upd_ne (by omega), upd_ne (by omega), upd_ne (by omega)]
  obtain ⟨s1, s2⟩ := (hW.w ho).nat
  have h6 : ¬ (6 : Int32) ≤ F (118 + o) := by rw [s1]; exact nI_ge (a := nt (F (118 + o))) (b := 6) hlt (by decide)
  unfold aw2 appF
  rw [e, if_neg h6]
theorem Rel.aw {t o : Nat} {z : Int32} (h : Rel C F) (hi : INV F n r) (ho : o < 8) (h4 : F (46 + o) = 4) (hh : ¬ F (62 + o) ≤ 0) (ht : t < nt (F 0)) (hrun : F (10 + t) = 0) (hz : inP z 0 50) (hn : n < 100000) : Rel (bwtF C (nI t) o z) (aw2 F t o z) ∧ INV (aw2 F t o z) n r := by
  obtain ⟨T, t1, t2, t3, t4⟩ := hi.T
  have ht6 : t < 6 := by omega
  have hnw : nI t ∉ Ws F o := (hi.2.1.run ht (by rw [hrun]; decide)).2 o ho |>.2
  have hlt := hi.2.1.roomw ht ho hnw
  obtain ⟨m, m1, m2⟩ := hi.2.2.1.2.1
  obtain ⟨p1, p2⟩ := in_nat hz rfl (show (50 : Nat) < 1000 by decide)
  have p2 : nt z ≤ 50 := p2
  have e9 : upd F (40 + t) (F (62 + o)) 9 = F 9 := upd_ne (by omega)
  have hA : aw1 F t o z = upd (upd (upd (upd F (40 + t) (F (62 + o))) (34 + t) (if z = 0 then 0 else F 9 + z)) (10 + t) 2) (28 + t) (nI o) := by unfold aw1; rw [e9]
  have out1 : ∀ k, k ≠ 40 + t → k ≠ 34 + t → k ≠ 10 + t → k ≠ 28 + t → aw1 F t o z k = F k := fun k a1 a2 a3 a4 => by rw [hA, upd_ne a4, upd_ne a3, upd_ne a2, upd_ne a1]
  have l1 : nt (aw1 F t o z (118 + o)) < 6 := by rw [out1 _ (by omega) (by omega) (by omega) (by omega)]; exact hlt
  rw [awx_app h.1 ht6 ho hlt]
  refine ⟨?_, ?_⟩
  · have c9 : upd (upd C (10 + t) 2) (28 + t) (nI o) 9 = F 9 := by rw [upd_ne (by omega), upd_ne (by omega)]; exact h.e (by omega)
    have c62 : upd (upd (upd C (10 + t) 2) (28 + t) (nI o)) (34 + t) (if z = 0 then -1 else F 9 + z) (62 + o) = F (62 + o) := by rw [upd_ne (by omega), upd_ne (by omega), upd_ne (by omega)]; exact h.e (by omega)
    have cB : bwtF C (nI t) o z = appF (upd (upd (upd (upd C (40 + t) (F (62 + o))) (34 + t) (if z = 0 then -1 else F 9 + z)) (10 + t) 2) (28 + t) (nI o)) (118 + o) (174 + 6 * o) (nI t) := by
      unfold bwtF
      rw [ntn (by omega), c9, c62, upd22 (f := C) (by omega), upd_comm (f := C) (i := 34 + t) (j := 40 + t) (by omega)]
    rw [cB, hA]
    have hs0 : ¬ upd F (40 + t) (F (62 + o)) (10 + t) = 2 := by rw [upd_ne (by omega), hrun]; decide
    refine Rel.appw (Rel.up (Rel.st2 ((h.gt ht6).li ht6 hs0) ht6 ?_ ?_) (by omega)) ho (by rw [← hA]; exact l1)
    · rw [upd_ne (f := upd C (40 + t) (F (62 + o))) (show 40 + t ≠ 34 + t by omega), upd_ne (f := upd F (40 + t) (F (62 + o))) (show 40 + t ≠ 34 + t by omega), upd_eq, upd_eq]
    · rw [upd_eq, upd_eq]
      by_cases qz : z = 0
      · rw [if_pos qz, if_pos qz]; exact Or.inl ⟨rfl, rfl⟩
      · rw [if_neg qz, if_neg qz]
        refine Or.inr ⟨rfl, ?_⟩
        have hz1 : nt z ≠ 0 := fun y => qz (by rw [p1, y]; rfl)
        have hn2 := hi.1.2.1
        have p3 : nt z < 51 := by omega
        rw [m2, p1, nJ_add, ← nI_0]
        exact nI_lt (by omega) (by omega)
  · have out : ∀ k, k ≠ 40 + t → k ≠ 34 + t → k ≠ 10 + t → k ≠ 28 + t → k ≠ 118 + o → (k < 174 ∨ 222 ≤ k) → appF (aw1 F t o z) (118 + o) (174 + 6 * o) (nI t) k = F k := fun k a1 a2 a3 a4 a5 a6 => by
      rw [appF_o l1 a5 (by omega), out1 k a1 a2 a3 a4]
    refine ⟨hi.1, by rw [← awx_app h.1 ht6 ho hlt]; exact hi.2.1.aw2 ht ho hrun, hi.2.2.1.cg (Nat.le_refl _) (Nat.le_refl _) (fun k hk => out k (by omega) (by omega) (by omega) (by omega) (by omega) (by omega)), fun t' ht' => ?_, fun o' ho' => ?_⟩
    · by_cases e : t' = t
      · subst e
        refine ⟨by rw [out (16 + t') (by omega) (by omega) (by omega) (by omega) (by omega) (by omega)]; exact (hi.2.2.2.1 t' ht').1, fun _ => ?_⟩
        obtain ⟨c, c1, c2, -, -⟩ := (hi.2.2.2.2 o ho).2.1
        refine ⟨c, ?_, c1, ?_⟩
        · rcases Nat.eq_zero_or_pos c with y | y
          · subst y; exact absurd (by rw [c2]; decide) hh
          · exact y
        · rw [appF_o l1 (by omega) (by omega), hA, upd_ne (by omega), upd_ne (by omega), upd_ne (by omega), upd_eq, c2]
      · exact (hi.2.2.2.1 t' ht').cg (Nat.le_refl _) (fun k hk => out k (by omega) (by omega) (by omega) (by omega) (by omega) (by omega))
    · by_cases e : o' = o
      · subst e
        have hO := hi.2.2.2.2 o' ho'
        unfold OI at hO ⊢
        rw [out 0 (by omega) (by omega) (by omega) (by omega) (by omega) (by omega), out (46 + o') (by omega) (by omega) (by omega) (by omega) (by omega) (by omega), out (54 + o') (by omega) (by omega) (by omega) (by omega) (by omega) (by omega), out (62 + o') (by omega) (by omega) (by omega) (by omega) (by omega) (by omega), out (70 + o') (by omega) (by omega) (by omega) (by omega) (by omega) (by omega), out (78 + o') (by omega) (by omega) (by omega) (by omega) (by omega) (by omega), out (222 + o' % 3) (by omega) (by omega) (by omega) (by omega) (by omega) (by omega), out (86 + o') (by omega) (by omega) (by omega) (by omega) (by omega) (by omega), out (94 + o') (by omega) (by omega) (by omega) (by omega) (by omega) (by omega)]
        obtain ⟨a1, a2, a3, a4, a5, a6, a7⟩ := hO
        exact ⟨a1, a2, a3, a4, a5, fun q => absurd h4 q, a7⟩
      · exact (hi.2.2.2.2 o' ho').cg (Nat.le_refl _) (fun k hk => out k (by omega) (by omega) (by omega) (by omega) (by omega) (by omega))
theorem bwt_40 {t o : Nat} {z : Int32} (hlt : nt (C (118 + o)) < 6) (ht : t < 6) (ho : o < 8) : bwtF C (nI t) o z (40 + t) = C (62 + o) := by
  unfold bwtF
  rw [ntn (by omega), appF_o (by rw [upd_ne (by omega), upd_ne (by omega), upd_ne (by omega), upd_ne (by omega)]; exact hlt) (by omega) (by omega), upd_eq, upd_ne (by omega), upd_ne (by omega), upd_ne (by omega)]
theorem aw_end {t o : Nat} {z : Int32} {C1 F1 : Nat → Int32} (h : Rel C1 F1) (hi : INV F1 n r) (hj : OKr F1) (ho : o < 8) (h4 : F1 (46 + o) = 4) (hh : ¬ F1 (62 + o) ≤ 0) (ht : t < nt (F1 0)) (hrun : F1 (10 + t) = 0) (hz : inP z 0 50) (hn : n < 100000) (hr : r + 200 ≤ 100000000) : OPok n r (awD C1 (nI t) o z) (awE F1 t o z) := by
  obtain ⟨T, t1, t2, t3, t4⟩ := hi.T
  have ht6 : t < 6 := by omega
  have hnw : nI t ∉ Ws F1 o := (hi.2.1.run ht (by rw [hrun]; decide)).2 o ho |>.2
  have hlt := hi.2.1.roomw ht ho hnw
  obtain ⟨a1, a2⟩ := h.aw (z := z) hi ho h4 hh ht hrun hz hn
  obtain ⟨g1, g2⟩ := a1.rl a2 (by omega) ho
  have hk : OKr (relM (aw2 F1 t o z) o) := (Hi.rel (Hi.aw2 Hi.rf hi.2.1.1 ht6 ho) a2.2.1 ho).r hj
  refine OPok.mk (a := F1 (62 + o)) ?_ g1 g2 (by omega) (by omega) hn hr (rcd_lo hk)
  show relF (bwtF C1 (nI t) o z) o (40 + nt (nI t)) = _
  rw [ntn (by omega), relF_40 a1.wc ho ht6, bwt_40 (by rw [h.nq (by omega)]; exact hlt) ht6 ho]
  exact h.e (by omega)
theorem op_await {x y z : Int32} (h : Rel C F) (hi : INV F n r) (hj : OKr F) (hn : n < 100000) (hr : r + 200 ≤ 100000000) : OPok n r (awaitF C x y z) (awaitM F x y z) := by
  have hbad : awaitF C x y z = if isT F x then (if isOb y then (if inP z 0 50 then awT C x y z else (-3, C)) else awT C x y z) else awT C x y z := by
    have hT := hasT_iff (x := x) h hi
    have hO := isO_iff (y := y)
    unfold awaitF
    by_cases q1 : isT F x
    · rw [if_pos q1]
      by_cases q2 : isOb y
      · rw [if_pos q2, if_pos (hT.mpr q1), if_pos (hO.mpr q2)]
        unfold inP
        by_cases z1 : z < 0
        · rw [if_pos z1, if_neg (fun w => w.1 z1)]
        · rw [if_neg z1]
          by_cases z2 : z ≤ 50
          · rw [if_pos z2, if_pos ⟨z1, Int32.not_lt.mpr z2⟩]
          · rw [if_neg z2, if_neg (fun w => z2 (Int32.not_lt.mp w.2))]
      · rw [if_neg q2, if_pos (hT.mpr q1), if_neg (fun w => q2 (hO.mp w))]
        split
        · rfl
        · split <;> rfl
    · rw [if_neg q1, if_neg (fun w => q1 (hT.mp w))]
      split
      · rfl
      · split <;> rfl
  rw [hbad]
  unfold awaitM
  have hE := oErr_eq (x := x) (y := y) h hi
  by_cases q1 : isT F x
  · rw [if_pos q1, if_pos q1]
    by_cases q2 : isOb y
    · rw [if_pos q2, if_pos q2]
      by_cases q3 : inP z 0 50
      · rw [if_pos q3, if_pos q3]
        unfold awT
        rw [hE]
        by_cases q : fbM F x y = 0
        · rw [if_pos q, if_pos (fb_0.mpr q)]
          obtain ⟨t, o, ⟨ht6, htT⟩, ho, rfl, rfl, f1, f2, f3⟩ := fb_ok h.1 (fb_0.mpr q)
          rw [ntn (show o < 2 ^ 31 by omega), ntn (show t < 2 ^ 31 by omega), h.e (q := 16 + t) (by omega), h.e (q := 46 + o) (by omega)]
          rcases (hi.2.2.2.1 t ht6).1 with qh | qh
          · rw [if_pos qh, if_neg (show ¬ F (16 + t) = 1 by rw [qh]; decide)]
            by_cases q4 : F (46 + o) = 4
            · rw [if_pos q4, if_pos q4]
              exact aw_end h hi hj ho q4 f2 htT f1 q3 hn hr
            · rw [if_neg q4, if_neg q4]
              have cin := h.cin hi
              by_cases qc : cifM F
              · rw [if_pos qc, if_pos (cin.mpr qc)]
                obtain ⟨a1, a2⟩ := h.inf hi ho qc
                exact aw_end a1 a2 ((Hi.infM Hi.rf ho).r hj) ho (inf_46 ho qc) (by rw [inf_out ho (by omega)]; exact f2) (by rw [inf_out ho (by omega)]; exact htT) (by rw [inf_out ho (by omega)]; exact f1) q3 hn hr
              · rw [if_neg qc, if_neg (fun w => qc (cin.mp w))]
                have e : infM F o = F := by
                  unfold infM
                  rw [if_neg (fun w => qc (Or.inl w))]
                  cases hl : lidM F with
                  | none => rfl
                  | some j => exact absurd (Or.inr (by rw [hl]; exact fun w => by cases w)) qc
                rw [e]
                exact OPok.mk rfl h hi (by omega) (by omega) hn hr (fun _ _ => rfl)
          · rw [if_neg (show ¬ F (16 + t) = 0 by rw [qh]; decide), if_pos qh]
            have hk : OKr (upd (upd F (16 + t) 0) (22 + t) 3) := OKr_up (by omega) (OKr_up (by omega) hj)
            have g2 : INV (upd (upd F (16 + t) 0) (22 + t) 3) n r := by
              refine INV.pl ⟨hi.1, hi.2.1.up (by omega), hi.2.2.1.cg (Nat.le_refl _) (Nat.le_refl _) (fun k hk => upd_ne (by omega)), fun t' ht' => ?_, fun o' ho' => (hi.2.2.2.2 o' ho').cg (Nat.le_refl _) (fun k hk => upd_ne (by omega))⟩ (by omega)
              by_cases e : t' = t
              · subst e
                refine ⟨Or.inl upd_eq, ?_⟩
                rw [upd_ne (by omega), upd_ne (by omega)]; exact (hi.2.2.2.1 t' ht').2
              · exact (hi.2.2.2.1 t' ht').cg (Nat.le_refl _) (fun k hk => upd_ne (by omega))
            exact OPok.mk (a := -9) rfl ((h.up (by omega)).up (by omega)) g2 (by omega) (by omega) hn hr (rcd_lo hk)
        · rw [if_neg q, if_neg (fun w => q (fb_0.mp w))]
          exact OPok.mk rfl h hi (by omega) (by omega) hn hr (fun _ _ => rfl)
      · rw [if_neg q3, if_neg q3]
        exact OPok.mk rfl h hi (by omega) (by omega) hn hr (fun _ _ => rfl)
    · rw [if_neg q2, if_neg q2]
      have e : fbM F x y = -2 := by unfold fbM; rw [if_pos q1, if_neg q2]
      unfold awT
      rw [hE, e, if_neg (by decide)]
      exact OPok.mk rfl h hi (by omega) (by omega) hn hr (fun _ _ => rfl)
  · rw [if_neg q1, if_neg q1]
    have e : fbM F x y = -1 := by unfold fbM; rw [if_neg q1]
    unfold awT
    rw [hE, e, if_neg (by decide)]
    exact OPok.mk rfl h hi (by omega) (by omega) hn hr (fun _ _ => rfl)
end OPS
