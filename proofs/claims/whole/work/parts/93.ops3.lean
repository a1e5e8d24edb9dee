/-! dying, hash codes, ticks, and all operations -/
theorem TS.blkq {F : Nat → Int32} {t : Nat} (h : TS F) (ht : t < nt (F 0)) (hw : F (10 + t) = 1) : ∃ o, o < 8 ∧ F (28 + t) = nI o ∧ nI t ∈ Qs F o := by
  rcases h.2.2.2.2 t ht with ⟨-, o, ho, g, m⟩ | ⟨g, -⟩ | ⟨g, -⟩
  · exact ⟨o, ho, g, m⟩
  · exact absurd (hw.symm.trans g) (by decide)
  · rcases g with g | g <;> exact absurd (hw.symm.trans g) (by decide)
section OPU
variable {C F : Nat → Int32} {n r : Nat}
theorem dM2_out {t k : Nat} (hk : k ≠ 10 + t ∧ k ≠ 28 + t ∧ k ≠ 16 + t) : dM2 F t k = F k := by
  unfold dM2; rw [upd_ne (by omega), upd_ne (by omega), upd_ne (by omega)]
theorem INV.dm {F1 : Nat → Int32} {t : Nat} (hi : INV F n r) (ht : t < 6) (hT : TS (dM2 F1 t)) (out : ∀ k, (k < 110 ∨ 222 ≤ k) → F1 k = F k) (hsz : ∀ o, o < 8 → (¬ F (46 + o) = 4 → F1 (110 + o) = 0 ∧ F1 (118 + o) = 0)) : INV (dM2 F1 t) n r := by
  have ev : ∀ k, k ≠ 10 + t → k ≠ 28 + t → k ≠ 16 + t → (k < 110 ∨ 222 ≤ k) → dM2 F1 t k = F k := fun k a1 a2 a3 a4 => by rw [dM2_out ⟨a1, a2, a3⟩, out k a4]
  refine ⟨hi.1, hT, hi.2.2.1.cg (Nat.le_refl _) (Nat.le_refl _) (fun k hk => ev k (by omega) (by omega) (by omega) (by omega)), fun t' ht' => ?_, fun o ho => ?_⟩
  · by_cases e : t' = t
    · subst e
      have e1 : dM2 F1 t' (16 + t') = 0 := by unfold dM2; rw [upd_eq]
      have e2 : dM2 F1 t' (10 + t') = 3 := by unfold dM2; rw [upd_ne (by omega), upd_ne (by omega), upd_eq]
      refine ⟨Or.inl e1, fun z => ?_⟩
      rw [e2] at z; exact absurd z (by decide)
    · exact (hi.2.2.2.1 t' ht').cg (Nat.le_refl _) (fun k hk => ev k (by omega) (by omega) (by omega) (by omega))
  · have hO := hi.2.2.2.2 o ho
    unfold OI at hO ⊢
    rw [ev 0 (by omega) (by omega) (by omega) (by omega), ev (46 + o) (by omega) (by omega) (by omega) (by omega), ev (54 + o) (by omega) (by omega) (by omega) (by omega), ev (62 + o) (by omega) (by omega) (by omega) (by omega), ev (70 + o) (by omega) (by omega) (by omega) (by omega), ev (78 + o) (by omega) (by omega) (by omega) (by omega), ev (222 + o % 3) (by omega) (by omega) (by omega) (by omega), ev (86 + o) (by omega) (by omega) (by omega) (by omega), ev (94 + o) (by omega) (by omega) (by omega) (by omega), dM2_out (k := 110 + o) (by omega), dM2_out (k := 118 + o) (by omega)]
    obtain ⟨a1, a2, a3, a4, a5, a6, a7⟩ := hO
    exact ⟨a1, a2, a3, a4, a5, hsz o ho, a7⟩
theorem die_loop {x : Int32} : ∀ (m i s : Nat) (C F : Nat → Int32) (a : Int32), i + m = 8 → s + m ≤ 100000000 → Rel C F → INV F n s → (dieL x m i C a).1 = (dML x m i F a).1 ∧ Rel (dieL x m i C a).2 (dML x m i F a).2 ∧ INV (dML x m i F a).2 n (s + m)
  | 0, i, s, C, F, a, _, _, h, hi => ⟨rfl, h, hi⟩
  | m + 1, i, s, C, F, a, hm, hs, h, hi => by
    show (dieL x m (i + 1) (dieS C x i) (if ¬ C (62 + i) ≤ 0 ∧ C (54 + i) = x then a + 1 else a)).1 = (dML x m (i + 1) (dMS F x i) (if ¬ F (62 + i) ≤ 0 then (if F (54 + i) = x then a + 1 else a) else a)).1 ∧ Rel (dieL x m (i + 1) (dieS C x i) (if ¬ C (62 + i) ≤ 0 ∧ C (54 + i) = x then a + 1 else a)).2 (dML x m (i + 1) (dMS F x i) (if ¬ F (62 + i) ≤ 0 then (if F (54 + i) = x then a + 1 else a) else a)).2 ∧ INV (dML x m (i + 1) (dMS F x i) (if ¬ F (62 + i) ≤ 0 then (if F (54 + i) = x then a + 1 else a) else a)).2 n (s + (m + 1))
    have c62 : C (62 + i) = F (62 + i) := h.e (by omega)
    have c54 : C (54 + i) = F (54 + i) := h.e (by omega)
    unfold dieS dMS
    rw [c62, c54]
    by_cases q : ¬ F (62 + i) ≤ 0 ∧ F (54 + i) = x
    · rw [if_pos q, if_pos q, if_pos q.1, if_pos q.1, if_pos q.2, if_pos q.2]
      have h1 := h.up (k := 86 + i) (x := 1) (by omega)
      have i1 : INV (upd F (86 + i) 1) n s := by
        refine hi.ob (o := i) (by omega) (Nat.le_refl _) (Nat.le_refl _) hi.1.2.1 hi.1.2.2 (fun k hk => upd_ne (by omega)) (by rw [upd_ne (by omega)]; exact hi.z) ?_
        have hO := hi.2.2.2.2 i (by omega)
        unfold OI at hO ⊢
        rw [upd_eq, upd_ne (show 0 ≠ 86 + i by omega), upd_ne (show 46 + i ≠ 86 + i by omega), upd_ne (show 54 + i ≠ 86 + i by omega), upd_ne (show 62 + i ≠ 86 + i by omega), upd_ne (show 70 + i ≠ 86 + i by omega), upd_ne (show 78 + i ≠ 86 + i by omega), upd_ne (show 222 + i % 3 ≠ 86 + i by omega), upd_ne (show 94 + i ≠ 86 + i by omega), upd_ne (show 110 + i ≠ 86 + i by omega), upd_ne (show 118 + i ≠ 86 + i by omega)]
        obtain ⟨a1, a2, a3, a4, a5, a6, a7, a8⟩ := hO
        exact ⟨a1, a2, a3, a4, a5, a6, Or.inr rfl, a8⟩
      obtain ⟨g1, g2⟩ := h1.rl i1 (by omega) (show i < 8 by omega)
      have := die_loop (x := x) m (i + 1) (s + 1) _ _ (a + 1) (by omega) (by omega) g1 g2
      rwa [show s + 1 + m = s + (m + 1) by omega] at this
    · rw [if_neg q, if_neg q]
      have e1 : (if ¬ F (62 + i) ≤ 0 then (if F (54 + i) = x then relM (upd F (86 + i) 1) i else F) else F) = F := by
        by_cases q1 : ¬ F (62 + i) ≤ 0
        · rw [if_pos q1, if_neg (fun z => q ⟨q1, z⟩)]
        · rw [if_neg q1]
      have e2 : (if ¬ F (62 + i) ≤ 0 then (if F (54 + i) = x then a + 1 else a) else a) = a := by
        by_cases q1 : ¬ F (62 + i) ≤ 0
        · rw [if_pos q1, if_neg (fun z => q ⟨q1, z⟩)]
        · rw [if_neg q1]
      rw [e1, e2]
      obtain ⟨g1, g2, g3⟩ := die_loop (x := x) m (i + 1) s C F a (by omega) (by omega) h hi
      exact ⟨g1, g2, g3.mono (Nat.le_refl _) (by omega) hi.1.2.1 (by omega)⟩
theorem die_end {C1 F1 : Nat → Int32} {t : Nat} (h : Rel C1 F1) (ht : t < 6) (hI : INV (dM2 F1 t) n r) (hj : OKr F1) (hn : n < 100000) (hr : r + 200 ≤ 100000000) : OPok n r (dieT C1 (nI t)) (dEnd F1 t) := by
  have hR : Rel (upd (leaveF C1 t 3) (16 + t) 0) (dM2 F1 t) := ((h.st0 ht (by decide)).up (by omega)).up (by omega)
  obtain ⟨g1, g2, g3⟩ := die_loop (x := nI t) 8 0 r _ _ 0 rfl (by omega) hR hI
  have hk : OKr (dML (nI t) 8 0 (dM2 F1 t) 0).2 := by
    have := (dML_TS (F0 := F1) (x := nI t) 8 0 (dM2 F1 t) 0 rfl hI.2.1 (((Hi.rf.up (by omega)).up (by omega)).up (by omega))).2
    exact this.r hj
  unfold dieT dEnd
  rw [ntn (show t < 2 ^ 31 by omega)]
  exact OPok.mk g1 g2 g3 (by omega) (by omega) hn hr (rcd_lo hk)
theorem op_die {x : Int32} (h : Rel C F) (hi : INV F n r) (hj : OKr F) (hn : n < 100000) (hr : r + 200 ≤ 100000000) : OPok n r (dieF C x) (dieM F x) := by
  unfold dieF dieM
  by_cases q : isT F x
  · obtain ⟨t, ht6, htT, rfl⟩ := isT_nat h.1 q
    rw [if_pos q, if_pos ((hasT_iff h hi).mpr q), ntn (show t < 2 ^ 31 by omega), h.e (q := 10 + t) (by omega), h.e (q := 28 + t) (by omega)]
    by_cases q3 : F (10 + t) = 3
    · rw [if_pos q3, if_pos q3]
      exact OPok.mk rfl h hi (by omega) (by omega) hn hr (fun _ _ => rfl)
    · rw [if_neg q3, if_neg q3]
      by_cases q8 : F (28 + t) = -8
      · rw [if_pos q8, q8, if_neg (show ¬ isO (-8) by decide)]
        exact die_end h ht6 (hi.dm ht6 (hi.2.1.die2 htT q8) (fun _ _ => rfl) (fun o ho => (hi.2.2.2.2 o ho).2.2.2.2.2.1)) hj hn hr
      · obtain ⟨o, ho, ha⟩ := hi.2.1.at_ htT q8
        have hio : isO (F (28 + t)) := by rw [ha]; exact ⟨nI_pos (by omega), nI_ge (a := o) (b := 8) ho (by decide)⟩
        rw [if_neg q8, if_pos hio, ha, ntn (show o < 2 ^ 31 by omega)]
        have hR : Rel (die2 C (nI t) o) (dM1 F t o) := (h.dropq ho).dropw ho
        have out : ∀ k, (k < 110 ∨ 222 ≤ k) → dM1 F t o k = F k := fun k hk => by
          unfold dM1
          rw [dropF_out ((h.1.dropq ho).w ho) (by omega) (by omega), dropF_out (h.1.q ho) (by omega) (by omega)]
        have h4 : F (46 + o) = 4 := Decidable.not_not.mp (fun z => by
          have hz := (hi.2.2.2.2 o ho).2.2.2.2.2.1 z
          have hs : ¬ (¬ F (10 + t) = 1 ∧ ¬ F (10 + t) = 2) := fun y => by
            have := (hi.2.1.run htT y).1
            rw [ha] at this; exact m8 ho this.symm
          have : F (10 + t) = 1 ∨ F (10 + t) = 2 := by
            by_cases y1 : F (10 + t) = 1
            · exact Or.inl y1
            · by_cases y2 : F (10 + t) = 2
              · exact Or.inr y2
              · exact absurd ⟨y1, y2⟩ hs
          rcases this with y | y
          · have hm := (hi.2.1.blkq htT y)
            obtain ⟨o', ho', ha', hm⟩ := hm
            have e : o' = o := nI_inj (by omega) (by omega) (ha'.symm.trans ha)
            subst e
            rw [show Qs F o' = [] from lst_zero hz.1] at hm; exact absurd hm (by simp)
          · obtain ⟨o', ho', ha', hm⟩ := hi.2.1.wait htT y
            have e : o' = o := nI_inj (by omega) (by omega) (ha'.symm.trans ha)
            subst e
            rw [show Ws F o' = [] from lst_zero hz.2] at hm; exact absurd hm (by simp))
        have hsz : ∀ o2, o2 < 8 → (¬ F (46 + o2) = 4 → dM1 F t o (110 + o2) = 0 ∧ dM1 F t o (118 + o2) = 0) := fun o2 ho2 z => by
          have hne : o2 ≠ o := fun e => z (e ▸ h4)
          have hz := (hi.2.2.2.2 o2 ho2).2.2.2.2.2.1 z
          unfold dM1
          rw [dropF_out ((h.1.dropq ho).w ho) (by omega) (by omega), dropF_out (h.1.q ho) (by omega) (by omega), dropF_out ((h.1.dropq ho).w ho) (by omega) (by omega), dropF_out (h.1.q ho) (by omega) (by omega)]
          exact hz
        have hk : OKr (dM1 F t o) := ((Hi.rf.drop (h.1.q ho) (by omega) (by omega)).drop ((h.1.dropq ho).w ho) (by omega) (by omega)).r hj
        exact die_end hR ht6 (hi.dm ht6 (hi.2.1.die1 htT ho ha) out hsz) hk hn hr
  · rw [if_neg q, if_neg (fun z => q ((hasT_iff h hi).mp z))]
    exact OPok.mk rfl h hi (by omega) (by omega) hn hr (fun _ _ => rfl)
/-- a hash code is made -/
theorem hs_end {C1 F1 : Nat → Int32} {o : Nat} (h : Rel C1 F1) (hi : INV F1 n r) (hj : OKr F1) (ho : o < 8) (hn : n < 100000) (hr : r + 200 ≤ 100000000) : OPok n r (hsT C1 (nI o)) (h86 F1 o) := by
  obtain ⟨k, k1, k2⟩ := hi.2.2.1.2.2.2.1
  have e240 : C1 240 = F1 240 := h.e (by omega)
  have e1 : upd C1 240 (C1 240 + 1) 240 = F1 240 + 1 := by rw [upd_eq, e240]
  have e13 : (13 : Int32) * nI o = nI (13 * o) := by rw [show (13 : Int32) = nI 13 from rfl, nJ_mul]
  have ev : (7919 : Int32) * (F1 240 + 1) + nI (13 * o) = nI (7919 * (k + 1) + 13 * o) := by
    rw [k2, show nI k + 1 = nI (k + 1) from (nI_succ k).symm, show (7919 : Int32) = nI 7919 from rfl, nJ_mul, nJ_add]
  have em : nI (7919 * (k + 1) + 13 * o) - nI (7919 * (k + 1) + 13 * o) / 1000 * 1000 = nI ((7919 * (k + 1) + 13 * o) % 1000) := pk_rem (a := 7919 * (k + 1) + 13 * o) (d := 1000) (by omega) (by decide) (by decide)
  have hv : (7919 * (k + 1) + 13 * o) % 1000 < 1000 := Nat.mod_lt _ (by decide)
  generalize hX : (7919 * (k + 1) + 13 * o) % 1000 = X at em hv
  have eC : hsT C1 (nI o) = (nI X, upd (upd C1 240 (F1 240 + 1)) (94 + o) (nI X)) := by
    unfold hsT
    rw [ntn (by omega), e1, e13, ev, em, upd_eq, e240]
  have e2 : upd F1 (94 + o) (nI X) 240 = F1 240 := upd_ne (by omega)
  have eF : h86 F1 o = h130 (upd (upd F1 (94 + o) (nI X)) 240 (F1 240 + 1)) o := by
    unfold h86
    rw [ev, em, e2]
  rw [eC, eF, upd_comm (f := F1) (i := 94 + o) (j := 240) (by omega)]
  have hR : Rel (upd (upd C1 240 (F1 240 + 1)) (94 + o) (nI X)) (upd (upd F1 240 (F1 240 + 1)) (94 + o) (nI X)) := (h.up (by omega)).ha ho (nI_pos' (by omega))
  have hk : OKr (upd (upd F1 240 (F1 240 + 1)) (94 + o) (nI X)) := OKr_up (by omega) (OKr_up (by omega) hj)
  have hI : INV (upd (upd F1 240 (F1 240 + 1)) (94 + o) (nI X)) (n + 1) r := by
    have ev2 : ∀ q, q ≠ 240 → q ≠ 94 + o → upd (upd F1 240 (F1 240 + 1)) (94 + o) (nI X) q = F1 q := fun q a b => by rw [upd_ne b, upd_ne a]
    refine ⟨⟨by omega, by omega, hi.1.2.2⟩, (hi.2.1.up (by omega)).up (by omega), ?_, fun t ht => (hi.2.2.2.1 t ht).cg (Nat.le_succ _) (fun q hq => ev2 q (by omega) (by omega)), fun o' ho' => ?_⟩
    · obtain ⟨q1, ⟨m, m1, m2⟩, q3, -, q5⟩ := hi.2.2.1
      unfold GI
      rw [ev2 0 (by omega) (by omega), ev2 9 (by omega) (by omega), ev2 239 (by omega) (by omega)]
      refine ⟨q1, ⟨m, by omega, m2⟩, q3, ⟨k + 1, by omega, ?_⟩, fun c hc => by rw [ev2 (228 + c) (by omega) (by omega)]; exact q5 c hc⟩
      rw [upd_ne (by omega), upd_eq, k2, nI_succ]
    · by_cases e : o' = o
      · subst e
        have hO := hi.2.2.2.2 o' ho'
        unfold OI at hO ⊢
        rw [ev2 0 (by omega) (by omega), ev2 (46 + o') (by omega) (by omega), ev2 (54 + o') (by omega) (by omega), ev2 (62 + o') (by omega) (by omega), ev2 (70 + o') (by omega) (by omega), ev2 (78 + o') (by omega) (by omega), ev2 (222 + o' % 3) (by omega) (by omega), ev2 (86 + o') (by omega) (by omega), ev2 (110 + o') (by omega) (by omega), ev2 (118 + o') (by omega) (by omega), upd_eq]
        obtain ⟨a1, ⟨c, c1, c2⟩, a3, a4, a5, a6, a7, a8⟩ := hO
        exact ⟨a1, ⟨c, by omega, c2⟩, a3, a4, a5, a6, a7, Or.inr ⟨X, hv, rfl⟩⟩
      · exact (hi.2.2.2.2 o' ho').cg (Nat.le_succ _) (fun q hq => ev2 q (by omega) (by omega))
  unfold h130
  refine OPok.mk ?_ hR hI (by omega) (by omega) hn hr (rcd_lo hk)
  rw [rcd_lo hk (94 + o) (by omega), upd_eq]
theorem op_hash {y : Int32} (h : Rel C F) (hi : INV F n r) (hj : OKr F) (hn : n < 100000) (hr : r + 200 ≤ 100000000) : OPok n r (hashF C y) (hashM F y) := by
  unfold hashF hashM
  by_cases q : isOb y
  · obtain ⟨o, ho, rfl⟩ := isOb_nat q
    rw [if_pos q, if_pos (isO_iff.mpr q), ntn (show o < 2 ^ 31 by omega), h.e (q := 46 + o) (by omega), h.e (q := 62 + o) (by omega)]
    have hOo := hi.2.2.2.2 o ho
    have hcn := hOo.cnt hi.1.2.1
    rcases h.2.2.2.2.2.1 o ho with ⟨p1, p2⟩ | ⟨p1, p2⟩
    · rw [if_pos p1, if_pos p2]
      have full : ∀ (hq : ¬ F (46 + o) = 4), OPok n r (if cinP C then hsT (inflF C o) (nI o) else (-6, C)) (if cifM F then h86 (infM F o) o else (-6, infM F o)) := fun hq => by
        have cin := h.cin hi
        by_cases qc : cifM F
        · rw [if_pos qc, if_pos (cin.mpr qc)]
          obtain ⟨a1, a2⟩ := h.inf hi ho qc
          exact hs_end a1 a2 ((Hi.infM Hi.rf ho).r hj) ho hn hr
        · rw [if_neg qc, if_neg (fun z => qc (cin.mp z))]
          have e : infM F o = F := by
            unfold infM
            rw [if_neg (fun w => qc (Or.inl w))]
            cases hl : lidM F with
            | none => rfl
            | some j => exact absurd (Or.inr (by rw [hl]; exact fun w => by cases w)) qc
          rw [e]
          exact OPok.mk rfl h hi (by omega) (by omega) hn hr (fun _ _ => rfl)
      by_cases hh : ¬ F (62 + o) ≤ 0
      · rw [if_pos hh]
        rcases lkv5 hOo.1 with l | l | l | l | l
        · exact absurd (by rw [hOo.2.2.1 (Or.inl l)]; decide) hh
        · exact absurd (by rw [hOo.2.2.1 (Or.inr l)]; decide) hh
        · have e63 : h63 (infM F o) o (F (46 + o)) = h86 (infM F o) o := by
            unfold h63
            rw [l, if_neg (by decide), if_pos rfl, if_pos (by rw [inf_out ho (by omega)]; exact hh)]
          rw [if_neg (show ¬ F (46 + o) = 4 by rw [l]; decide), if_neg (show ¬ F (46 + o) = 3 by rw [l]; decide), if_pos l, if_pos hh, e63]
          exact full (by rw [l]; decide)
        · have e63 : h63 (infM F o) o (F (46 + o)) = h86 (infM F o) o := by
            unfold h63
            rw [l, if_neg (by decide), if_neg (by decide)]
          rw [if_neg (show ¬ F (46 + o) = 4 by rw [l]; decide), if_pos l, e63]
          exact full (by rw [l]; decide)
        · have e63 : h63 F o (F (46 + o)) = h86 F o := by
            unfold h63
            rw [l, if_neg (by decide), if_neg (by decide)]
          have en : hsN C (nI o) = hsT C (nI o) := by unfold hsN; rw [ntn (by omega), if_pos ((h.e (by omega)).trans l)]
          rw [if_pos l, if_neg (show ¬ F (46 + o) = 3 by rw [l]; decide), if_neg (show ¬ F (46 + o) = 2 by rw [l]; decide), e63, en]
          exact hs_end h hi hj ho hn hr
      · have h0 : F (62 + o) ≤ 0 := Decidable.not_not.mp hh
        rw [if_neg hh]
        have ub0 : ∀ (hl : F (46 + o) = 1 ∨ F (46 + o) = 2), OPok n r (hsN C (nI o)) (h86 (ubM F o) o) := fun hl => by
          have en : hsN C (nI o) = hsT (loseF C o) (nI o) := by
            unfold hsN loseF
            rw [ntn (by omega), if_neg (by rw [h.e (by omega)]; rcases hl with z | z <;> rw [z] <;> decide), if_pos (by rw [h.e (by omega)]; exact h0)]
          rw [en]
          exact hs_end (h.lose ho) (hi.ub ho (by rcases hl with z | z <;> rw [z] <;> decide)) ((Hi.ub Hi.rf ho).r hj) ho hn hr
        rcases lkv5 hOo.1 with l | l | l | l | l
        · have e63 : h63 F o (F (46 + o)) = h86 F o := by
            unfold h63
            rw [l, if_neg (by decide), if_neg (by decide)]
          have en : hsN C (nI o) = hsT C (nI o) := by
            unfold hsN
            rw [ntn (by omega), if_neg (by rw [h.e (by omega), l]; decide), upd_id ((h.e (by omega)).trans l)]
          rw [if_neg (show ¬ F (46 + o) = 3 by rw [l]; decide), if_neg (show ¬ F (46 + o) = 2 by rw [l]; decide), e63, en]
          exact hs_end h hi hj ho hn hr
        · have e63 : h63 F o (F (46 + o)) = h86 (ubM F o) o := by
            unfold h63
            rw [l, if_pos rfl]
          rw [if_neg (show ¬ F (46 + o) = 3 by rw [l]; decide), if_neg (show ¬ F (46 + o) = 2 by rw [l]; decide), e63]
          exact ub0 (Or.inl l)
        · have e63 : h63 F o (F (46 + o)) = h86 (ubM F o) o := by
            unfold h63
            rw [l, if_neg (by decide), if_pos rfl, if_neg hh]
          rw [if_neg (show ¬ F (46 + o) = 3 by rw [l]; decide), if_pos l, if_neg hh, e63]
          exact ub0 (Or.inr l)
        · exact absurd h0 (hOo.2.2.2.1 l)
        · have e63 : h63 F o (F (46 + o)) = h86 F o := by
            unfold h63
            rw [l, if_neg (by decide), if_neg (by decide)]
          have en : hsN C (nI o) = hsT C (nI o) := by unfold hsN; rw [ntn (by omega), if_pos ((h.e (by omega)).trans l)]
          rw [if_neg (show ¬ F (46 + o) = 3 by rw [l]; decide), if_neg (show ¬ F (46 + o) = 2 by rw [l]; decide), e63, en]
          exact hs_end h hi hj ho hn hr
    · have n8 : ¬ F (94 + o) = -8 := fun z => by rw [z] at p2; exact absurd p2 (by decide)
      have n1 : ¬ C (94 + o) = -1 := fun z => by rw [p1] at z; rw [z] at p2; exact absurd p2 (by decide)
      rw [if_neg n1, if_neg n8]
      unfold h130
      exact OPok.mk (by rw [rcd_lo hj (94 + o) (by omega)]; exact p1) h hi (by omega) (by omega) hn hr (rcd_lo hj)
  · rw [if_neg q, if_neg (fun z => q (isO_iff.mp z))]
    exact OPok.mk rfl h hi (by omega) (by omega) hn hr (fun _ _ => rfl)
end OPU
