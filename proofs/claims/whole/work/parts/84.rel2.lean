/-! a lock is let go, given to the first of its queue -/
theorem upd22 {f : Nat → Int32} {a b c d : Nat} {x y z v : Int32} (h : a ≠ c ∧ a ≠ d ∧ b ≠ c ∧ b ≠ d) : upd (upd (upd (upd f a x) b y) c z) d v = upd (upd (upd (upd f c z) d v) a x) b y := by
  rw [upd_comm (f := upd f a x) (i := b) (j := c) h.2.2.1, upd_comm (f := f) (i := a) (j := c) h.1, upd_comm (f := upd (upd f c z) a x) (i := b) (j := d) h.2.2.2, upd_comm (f := upd f c z) (i := a) (j := d) h.2.1]
/-- what a recovery does -/
def rcv (F : Nat → Int32) (o : Nat) : Nat → Int32 := if F (86 + o) = 1 then upd (upd F (86 + o) 0) 239 (upd F (86 + o) 0 239 + 1) else F
theorem hld_rcv {F : Nat → Int32} {x : Int32} {o : Nat} {c : Int32} : hldM F x o c = rcv (upd (upd F (54 + o) x) (62 + o) c) o := rfl
theorem Rel.rc {C F : Nat → Int32} {o : Nat} (h : Rel C F) (ho : o < 8) (hb : F (86 + o) = 0 ∨ F (86 + o) = 1) : Rel (recF C o).2 (rcv F o) := by
  unfold recF rcv
  rw [h.e (q := 86 + o) (by omega)]
  rcases hb with q | q
  · rw [if_pos q, if_neg (by rw [q]; decide)]; exact h
  · rw [if_neg (by rw [q]; decide), if_pos q]
    have e : upd C (86 + o) 0 (231 + 8) = upd F (86 + o) 0 239 := by rw [upd_ne (by omega), upd_ne (by omega)]; exact h.e (by omega)
    show Rel (upd (upd C (86 + o) 0) (231 + 8) (upd C (86 + o) 0 (231 + 8) + 1)) _
    rw [e]
    exact (h.up (by omega)).up (by omega)
theorem rcv_out {F : Nat → Int32} {o k : Nat} (hk : k ≠ 86 + o ∧ k ≠ 239) : rcv F o k = F k := by
  unfold rcv
  split
  · rw [upd_ne hk.2, upd_ne hk.1]
  · rfl
theorem rcv_86 {F : Nat → Int32} {o : Nat} (ho : o < 8) (hb : F (86 + o) = 0 ∨ F (86 + o) = 1) : rcv F o (86 + o) = 0 := by
  unfold rcv
  rcases hb with q | q
  · rw [if_neg (by rw [q]; decide)]; exact q
  · rw [if_pos q, upd_ne (by omega), upd_eq]
theorem rcv_239 {F : Nat → Int32} {o r : Nat} (ho : o < 8) (hz : ∃ z, z ≤ r ∧ F 239 = nI z) : ∃ z, z ≤ r + 1 ∧ rcv F o 239 = nI z := by
  obtain ⟨z, h1, h2⟩ := hz
  unfold rcv
  split
  · exact ⟨z + 1, by omega, by rw [upd_eq, upd_ne (by omega), h2, nI_succ]⟩
  · exact ⟨z, by omega, h2⟩
/-- an object changes -/
theorem INV.ob {F F' : Nat → Int32} {n n' r r' o : Nat} (h : INV F n r) (ho : o < 8) (hn : n ≤ n') (hr : r ≤ r') (hn' : n' ≤ 100000) (hr' : r' ≤ 100000000) (out : ∀ k, ¬ (k = 46 + o ∨ k = 54 + o ∨ k = 62 + o ∨ k = 70 + o ∨ k = 78 + o ∨ k = 86 + o ∨ k = 94 + o ∨ k = 102 + o ∨ (231 ≤ k ∧ k < 240)) → F' k = F k) (hz : ∃ z, z ≤ r' ∧ F' 239 = nI z) (hO : OI F' n' o) : INV F' n' r' := by
  refine ⟨⟨by have := h.1.1; omega, hn', hr'⟩, h.2.1.of (fun q hq => out q (by omega)), ?_, fun t ht => (h.2.2.2.1 t ht).cg hn (fun k hk => out k (by omega)), fun o' ho' => ?_⟩
  · obtain ⟨h1, ⟨m, m1, m2⟩, -, ⟨k, k1, k2⟩, h5⟩ := h.2.2.1
    refine ⟨?_, ⟨m, by omega, (out 9 (by omega)).trans m2⟩, hz, ⟨k, by omega, (out 240 (by omega)).trans k2⟩, fun c hc => ?_⟩
    · obtain ⟨T, t1, t2, t3⟩ := h1
      exact ⟨T, t1, t2, (out 0 (by omega)).trans t3⟩
    · rw [out (228 + c) (by omega)]; exact h5 c hc
  · by_cases e : o' = o
    · subst e; exact hO
    · exact (h.2.2.2.2 o' ho').cg hn (fun k hk => out k (by omega))
theorem INV.z {F : Nat → Int32} {n r : Nat} (h : INV F n r) : ∃ z, z ≤ r ∧ F 239 = nI z := h.2.2.1.2.2.1
/-- a number that nothing speaks of -/
theorem INV.pl {F : Nat → Int32} {n r k : Nat} {x : Int32} (h : INV F n r) (hk : (1 ≤ k ∧ k < 9) ∨ (22 ≤ k ∧ k < 28) ∨ (34 ≤ k ∧ k < 40) ∨ (102 ≤ k ∧ k < 110) ∨ (225 ≤ k ∧ k < 228) ∨ (231 ≤ k ∧ k < 239)) : INV (upd F k x) n r :=
  ⟨h.1, h.2.1.up (by omega), h.2.2.1.cg (Nat.le_refl _) (Nat.le_refl _) (fun q hq => upd_ne (by omega)), fun t ht => (h.2.2.2.1 t ht).cg (Nat.le_refl _) (fun q hq => upd_ne (by omega)), fun o ho => (h.2.2.2.2 o ho).cg (Nat.le_refl _) (fun q hq => upd_ne (by omega))⟩
theorem rel1_out {F : Nat → Int32} {o k : Nat} (hk : k ≠ 54 + o ∧ k ≠ 62 + o) : rel1 F o k = F k := by
  unfold rel1; rw [upd_ne (by omega), upd_ne (by omega)]
theorem INV.r1 {F : Nat → Int32} {n r o : Nat} (h : INV F n r) (ho : o < 8) (h3 : ¬ F (46 + o) = 3) : INV (rel1 F o) n r := by
  refine h.ob ho (Nat.le_refl _) (Nat.le_refl _) h.1.2.1 h.1.2.2 (fun k hk => rel1_out (by omega)) (by rw [rel1_out (by omega)]; exact h.z) ?_
  have hO := h.2.2.2.2 o ho
  unfold OI at hO ⊢
  rw [rel1_out (k := 0) (by omega), rel1_out (k := 46 + o) (by omega), rel1_out (k := 70 + o) (by omega), rel1_out (k := 78 + o) (by omega), rel1_out (k := 222 + o % 3) (by omega), rel1_out (k := 86 + o) (by omega), rel1_out (k := 94 + o) (by omega), rel1_out (k := 110 + o) (by omega), rel1_out (k := 118 + o) (by omega), show rel1 F o (62 + o) = 0 from upd_eq, show rel1 F o (54 + o) = -8 by unfold rel1; rw [upd_ne (by omega), upd_eq]]
  exact ⟨hO.1, ⟨0, by omega, rfl, fun _ => rfl, fun q => absurd q (by omega)⟩, fun _ => rfl, fun q => absurd q h3, fun q => ⟨(hO.2.2.2.2.1 q).1, fun z => absurd (by decide) z⟩, hO.2.2.2.2.2.1, hO.2.2.2.2.2.2⟩
theorem Rel.r1 {C F : Nat → Int32} {o : Nat} (h : Rel C F) (ho : o < 8) : Rel (letGoF C o) (rel1 F o) := (h.up (by omega)).up (by omega)
theorem acq_out {F : Nat → Int32} {t o k : Nat} (hW : WI F) (ht : t < 6) (ho : o < 8) (hk : k ≠ 54 + o ∧ k ≠ 62 + o ∧ k ≠ 86 + o ∧ k ≠ 239 ∧ k ≠ 10 + t ∧ k ≠ 28 + t ∧ k ≠ 110 + o ∧ (k < 126 ∨ 174 ≤ k)) : acqM F t o k = F k := by
  unfold acqM
  rw [hld_rcv, rcv_out (by omega), upd_ne (by omega), upd_ne (by omega)]
  unfold acq1
  rw [upd_ne (by omega), upd_ne (by omega), dropF_out (hW.q ho) (by omega) (by omega)]
theorem acq1_out {F : Nat → Int32} {t o k : Nat} (hW : WI F) (ho : o < 8) (hk : k ≠ 10 + t ∧ k ≠ 28 + t ∧ k ≠ 110 + o ∧ (k < 126 ∨ 174 ≤ k)) : acq1 F t o k = F k := by
  unfold acq1
  rw [upd_ne (by omega), upd_ne (by omega), dropF_out (hW.q ho) (by omega) (by omega)]
theorem INV.acq {F : Nat → Int32} {n r t o : Nat} (h : INV F n r) (hr : r < 100000000) (ho : o < 8) (h4 : F (46 + o) = 4) (ht : t < nt (F 0)) (hs : F (10 + t) = 1) (ha : F (28 + t) = nI o) : INV (acqM F t o) n (r + 1) := by
  have hW := h.2.1.1
  obtain ⟨T, t1, t2, t3, t4⟩ := h.T
  have ht6 : t < 6 := by omega
  obtain ⟨g, g1, g2, g3⟩ := (h.2.2.2.1 t ht6).2 (Or.inl hs)
  have hOo := h.2.2.2.2 o ho
  have h86 : upd (upd (acq1 F t o) (54 + o) (nI t)) (62 + o) (acq1 F t o (40 + t)) (86 + o) = F (86 + o) := by rw [upd_ne (by omega), upd_ne (by omega), acq1_out hW ho (by omega)]
  have h239 : upd (upd (acq1 F t o) (54 + o) (nI t)) (62 + o) (acq1 F t o (40 + t)) 239 = F 239 := by rw [upd_ne (by omega), upd_ne (by omega), acq1_out hW ho (by omega)]
  have out := fun k hk => acq_out (F := F) (t := t) (o := o) (k := k) hW ht6 ho hk
  refine ⟨⟨h.1.1, h.1.2.1, by omega⟩, h.2.1.acq ht ho hs ha, ?_, fun t' ht' => ?_, fun o' ho' => ?_⟩
  · obtain ⟨q1, q2, q3, q4, q5⟩ := h.2.2.1
    unfold GI
    rw [out 0 (by omega), out 9 (by omega), out 240 (by omega)]
    refine ⟨q1, q2, ?_, q4, fun c hc => by rw [out (228 + c) (by omega)]; exact q5 c hc⟩
    exact rcv_239 (F := upd (upd (acq1 F t o) (54 + o) (nI t)) (62 + o) (acq1 F t o (40 + t))) ho (by rw [h239]; exact q3)
  · by_cases e : t' = t
    · subst e
      have hT := h.2.2.2.1 t' ht'
      refine ⟨by rw [out (16 + t') (by omega)]; exact hT.1, fun q => ?_⟩
      have : acqM F t' o (10 + t') = 0 := by
        unfold acqM
        rw [hld_rcv, rcv_out (by omega), upd_ne (by omega), upd_ne (by omega)]
        unfold acq1
        rw [upd_ne (by omega), upd_eq]
      rw [this] at q
      exact absurd q (by decide)
    · exact (h.2.2.2.1 t' ht').cg (Nat.le_refl _) (fun k hk => out k (by omega))
  · by_cases e : o' = o
    · subst e
      have v62 : acqM F t o' (62 + o') = nI g := by
        unfold acqM
        rw [hld_rcv, rcv_out (by omega), upd_eq, acq1_out hW ho (by omega), g3]
      have v54 : acqM F t o' (54 + o') = nI t := by
        unfold acqM
        rw [hld_rcv, rcv_out (by omega), upd_ne (by omega), upd_eq]
      have v86 : acqM F t o' (86 + o') = 0 := rcv_86 (F := upd (upd (acq1 F t o') (54 + o') (nI t)) (62 + o') (acq1 F t o' (40 + t))) ho (by rw [h86]; exact hOo.2.2.2.2.2.2.1)
      unfold OI
      rw [out 0 (by omega), out (46 + o') (by omega), v62, v54, v86, out (94 + o') (by omega), h4]
      exact ⟨⟨4, by omega, rfl⟩, ⟨g, g2, rfl, fun q => by omega, fun _ => ⟨t, ht, rfl⟩⟩, fun q => absurd q (by decide), fun q => absurd q (by decide), fun q => absurd q (by decide), fun q => absurd rfl q, Or.inl rfl, hOo.2.2.2.2.2.2.2⟩
    · exact (h.2.2.2.2 o' ho').cg (Nat.le_refl _) (fun k hk => out k (by omega))
theorem hasT_nI {C F : Nat → Int32} {t : Nat} (h : Rel C F) (ht : t < nt (F 0)) (hT : nt (F 0) ≤ 6) (h0 : F 0 = nI (nt (F 0))) : hasT C (nI t) := by
  refine ⟨nI_pos (by omega), ?_, show ¬ (6 : Int32) ≤ nI t from nI_ge (a := t) (b := 6) (by omega) (by decide)⟩
  rw [h.e (by omega), h0]
  exact nI_ge ht (by omega)
theorem Rel.g2f {C F : Nat → Int32} {n r t o : Nat} (h : Rel C F) (hi : INV F n r) (ho : o < 8) (hne : ¬ F (110 + o) ≤ 0) (ht : t < nt (F 0)) (hd : F (126 + 6 * o) = nI t) (hs : F (10 + t) = 1) : Rel (g2fF C o) (acqM F t o) := by
  obtain ⟨T, t1, t2, t3, t4⟩ := hi.T
  have ht6 : t < 6 := by omega
  have hat : atF C (110 + o) (126 + 6 * o) 0 = nI t := by
    rw [hd_eq h ho]
    rcases lst_at (p := 126 + 6 * o) (h.1.q ho) with ⟨b1, b2, b3⟩ | ⟨l', b1, b2, b3, b4⟩
    · exact absurd (by rw [b3]; decide) hne
    · rw [b2, hd]
  unfold g2fF
  rw [hat, if_pos (hasT_nI h ht (by omega) (by rw [t4]; exact t3)), ntn (by omega)]
  have hD := h.dropq (x := nI t) ho
  have e40 : dropF C (110 + o) (126 + 6 * o) (nI t) (40 + t) = F (40 + t) := by
    rw [dropF_out (h.wc.q ho) (by omega) (by omega)]; exact h.2.2.2.1 t ht6 (Or.inl hs)
  have e41 : acq1 F t o (40 + t) = F (40 + t) := acq1_out h.1 ho (by omega)
  unfold acqM
  rw [hld_rcv, e40, e41]
  have hst : leaveF (giveF (dropF C (110 + o) (126 + 6 * o) (nI t)) o (nI t) (F (40 + t))) t 0 = upd (upd (upd (upd (dropF C (110 + o) (126 + 6 * o) (nI t)) (10 + t) 0) (28 + t) (-8)) (54 + o) (nI t)) (62 + o) (F (40 + t)) := upd22 (by omega)
  rw [hst]
  refine Rel.rc ((((hD.st0 ht6 (by decide)).up (by omega)).up (by omega)).up (by omega)) ho ?_
  rw [upd_ne (by omega), upd_ne (by omega), acq1_out h.1 ho (by omega)]
  exact (hi.2.2.2.2 o ho).2.2.2.2.2.2.1
theorem Rel.rl {C F : Nat → Int32} {n r o : Nat} (h : Rel C F) (hi : INV F n r) (hr : r < 100000000) (ho : o < 8) : Rel (relF C o) (relM F o) ∧ INV (relM F o) n (r + 1) := by
  have h1 := h.r1 ho
  have c46 : letGoF C o (46 + o) = F (46 + o) := by unfold letGoF; rw [upd_ne (by omega), upd_ne (by omega)]; exact h.e (by omega)
  have f46 : rel1 F o (46 + o) = F (46 + o) := rel1_out (by omega)
  unfold relF relM
  rw [c46, f46]
  by_cases q3 : F (46 + o) = 3
  · rw [if_pos q3, if_pos q3]
    have e : upd (letGoF C o) (46 + o) 0 (231 + 0) = upd (rel1 F o) (46 + o) 0 231 := by rw [upd_ne (by omega), upd_ne (by omega)]; exact h1.e (by omega)
    rw [e]
    refine ⟨(h1.lk ho (by decide)).up (by omega), ?_⟩
    have out : ∀ k, ¬ (k = 46 + o ∨ k = 54 + o ∨ k = 62 + o ∨ k = 231) → upd (upd (rel1 F o) (46 + o) 0) 231 (upd (rel1 F o) (46 + o) 0 231 + 1) k = F k := fun k hk => by
      rw [upd_ne (by omega), upd_ne (by omega), rel1_out (by omega)]
    refine hi.ob ho (Nat.le_refl _) (Nat.le_succ _) hi.1.2.1 (by omega) (fun k hk => out k (by omega)) ?_ ?_
    · obtain ⟨z, z1, z2⟩ := hi.z
      exact ⟨z, by omega, by rw [out 239 (by omega)]; exact z2⟩
    · have hO := hi.2.2.2.2 o ho
      unfold OI at hO ⊢
      rw [out 0 (by omega), out (86 + o) (by omega), out (94 + o) (by omega), out (110 + o) (by omega), out (118 + o) (by omega), show upd (upd (rel1 F o) (46 + o) 0) 231 (upd (rel1 F o) (46 + o) 0 231 + 1) (46 + o) = 0 by rw [upd_ne (by omega), upd_eq], show upd (upd (rel1 F o) (46 + o) 0) 231 (upd (rel1 F o) (46 + o) 0 231 + 1) (62 + o) = 0 by rw [upd_ne (by omega), upd_ne (by omega)]; exact upd_eq, show upd (upd (rel1 F o) (46 + o) 0) 231 (upd (rel1 F o) (46 + o) 0 231 + 1) (54 + o) = -8 by rw [upd_ne (by omega), upd_ne (by omega)]; unfold rel1; rw [upd_ne (by omega), upd_eq]]
      exact ⟨⟨0, by omega, rfl⟩, ⟨0, by omega, rfl, fun _ => rfl, fun q => absurd q (by omega)⟩, fun _ => rfl, fun q => absurd q (by decide), fun q => absurd q (by decide), fun _ => hO.2.2.2.2.2.1 (by rw [q3]; decide), hO.2.2.2.2.2.2⟩
  · rw [if_neg q3, if_neg q3]
    have i1 := hi.r1 ho q3
    by_cases q4 : F (46 + o) = 4
    · rw [if_pos q4, if_pos q4]
      have e9 : letGoF C o 9 = rel1 F o 9 := h1.e (by omega)
      rw [e9]
      have h2 : Rel (upd (letGoF C o) (102 + o) (rel1 F o 9)) (upd (rel1 F o) (102 + o) (rel1 F o 9)) := h1.up (by omega)
      have i2 : INV (upd (rel1 F o) (102 + o) (rel1 F o 9)) n r := i1.pl (by omega)
      have g1 : valF (upd (letGoF C o) (102 + o) (rel1 F o 9)) 1 = upd (rel1 F o) (102 + o) (rel1 F o 9) 2 := by
        rw [show (1 : Int32) = nI 1 from rfl, valF_at (by decide)]; exact h2.e (by omega)
      have g2 : upd (letGoF C o) (102 + o) (rel1 F o 9) (110 + o) = upd (rel1 F o) (102 + o) (rel1 F o 9) (110 + o) := h2.e (by omega)
      rw [g1, g2]
      have e110 : upd (rel1 F o) (102 + o) (rel1 F o 9) (110 + o) = F (110 + o) := by rw [upd_ne (by omega), rel1_out (by omega)]
      have e2 : upd (rel1 F o) (102 + o) (rel1 F o 9) 2 = F 2 := by rw [upd_ne (by omega), rel1_out (by omega)]
      rw [e110, e2]
      have hs0 := hi.2.1.1.q ho
      have z0 : F (110 + o) ≤ 0 ↔ F (110 + o) = 0 := by
        obtain ⟨s, s1, s2⟩ := hs0
        rw [s2, ← nI_0, nI_leI (by omega) (by decide), nI_eq (by omega) (by decide)]; omega
      by_cases qz : F (110 + o) = 0
      · rw [if_pos qz, if_pos (z0.mpr qz)]
        split
        · exact ⟨h2, i2.mono (Nat.le_refl _) (Nat.le_succ _) hi.1.2.1 (by omega)⟩
        · exact ⟨h2, i2.mono (Nat.le_refl _) (Nat.le_succ _) hi.1.2.1 (by omega)⟩
      · rw [if_neg qz, if_neg (fun q => qz (z0.mp q))]
        by_cases qh : F 2 = 1
        · rw [if_pos qh, if_pos qh]
          have e6 : upd (letGoF C o) (102 + o) (rel1 F o 9) (231 + 6) = upd (rel1 F o) (102 + o) (rel1 F o 9) 237 := h2.e (by omega)
          rw [e6]
          have h3 := h2.up (k := 237) (x := upd (rel1 F o) (102 + o) (rel1 F o 9) 237 + 1) (by omega)
          have i3 := i2.pl (k := 237) (x := upd (rel1 F o) (102 + o) (rel1 F o 9) 237 + 1) (by omega)
          have ev : ∀ k, k ≠ 54 + o → k ≠ 62 + o → k ≠ 102 + o → k ≠ 237 → upd (upd (rel1 F o) (102 + o) (rel1 F o 9)) 237 (upd (rel1 F o) (102 + o) (rel1 F o 9) 237 + 1) k = F k := fun k a1 a2 a3 a4 => by rw [upd_ne a4, upd_ne a3, rel1_out ⟨a1, a2⟩]
          obtain ⟨t, u1, u2, u3, u4, -⟩ := hi.2.1.hd ho (fun q => qz (z0.mp q))
          have ht6 : t < 6 := by obtain ⟨T, t1, t2, t3, t4⟩ := hi.T; omega
          rw [u2, ntn (by omega)]
          refine ⟨h3.g2f i3 ho ?_ ?_ ?_ ?_, i3.acq hr ho ?_ ?_ ?_ ?_⟩
          · rw [ev _ (by omega) (by omega) (by omega) (by omega)]; exact fun q => qz (z0.mp q)
          · rw [ev _ (by omega) (by omega) (by omega) (by omega)]; exact u1
          · rw [ev _ (by omega) (by omega) (by omega) (by omega)]; exact u2
          · rw [ev _ (by omega) (by omega) (by omega) (by omega)]; exact u3
          · rw [ev _ (by omega) (by omega) (by omega) (by omega)]; exact q4
          · rw [ev _ (by omega) (by omega) (by omega) (by omega)]; exact u1
          · rw [ev _ (by omega) (by omega) (by omega) (by omega)]; exact u3
          · rw [ev _ (by omega) (by omega) (by omega) (by omega)]; exact u4
        · rw [if_neg qh, if_neg qh]
          exact ⟨h2, i2.mono (Nat.le_refl _) (Nat.le_succ _) hi.1.2.1 (by omega)⟩
    · rw [if_neg q4, if_neg q4]
      exact ⟨h1, i1.mono (Nat.le_refl _) (Nat.le_succ _) hi.1.2.1 (by omega)⟩
