/-! a bias is revoked -/
theorem beS_out {c k q : Nat} {G : Nat → Int32} (h : q ≠ 78 + k) : beS c G k q = G q := by
  unfold beS
  split
  · split
    · exact upd_ne h
    · rfl
  · rfl
theorem beL_out {c q : Nat} (hq : q < 78 ∨ 86 ≤ q) : ∀ (n k : Nat) (G : Nat → Int32), beL c n k G q = G q
  | 0, _, _ => rfl
  | n + 1, k, G => by
    show (if 8 ≤ k then G else beL c n (k + 3) (beS c G k)) q = G q
    split
    · rfl
    · rw [beL_out hq n (k + 3) _, beS_out (by omega)]
theorem beL_at {c j : Nat} (hj : j < 8) (hc : c < 3) : ∀ (n k : Nat) (G : Nat → Int32), beL c n k G (78 + j) = if (k ≤ j ∧ j < k + 3 * n ∧ (j - k) % 3 = 0) ∧ G (46 + j) = 2 ∧ ¬ G (62 + j) ≤ 0 then G (222 + c) else G (78 + j)
  | 0, k, G => by rw [if_neg (by omega)]; rfl
  | n + 1, k, G => by
    show (if 8 ≤ k then G else beL c n (k + 3) (beS c G k)) (78 + j) = _
    by_cases h8 : 8 ≤ k
    · rw [if_pos h8, if_neg (by omega)]
    · rw [if_neg h8, beL_at hj hc n (k + 3) _, beS_out (q := 46 + j) (by omega), beS_out (q := 62 + j) (by omega), beS_out (q := 222 + c) (by omega)]
      by_cases e : j = k
      · subst e
        rw [if_neg (by omega)]
        unfold beS
        by_cases q1 : G (46 + j) = 2
        · by_cases q2 : G (62 + j) ≤ 0
          · rw [if_pos q1, if_neg (fun z => z q2), if_neg (fun z => z.2.2 q2)]
          · rw [if_pos q1, if_pos q2, if_pos ⟨⟨Nat.le_refl _, by omega, by rw [Nat.sub_self]⟩, q1, q2⟩, upd_eq]
        · rw [if_neg q1, if_neg (fun z => q1 z.2.1)]
      · rw [beS_out (by omega)]
        by_cases q : (k + 3 ≤ j ∧ j < k + 3 + 3 * n ∧ (j - (k + 3)) % 3 = 0) ∧ G (46 + j) = 2 ∧ ¬ G (62 + j) ≤ 0
        · rw [if_pos q, if_pos ⟨by omega, q.2⟩]
        · rw [if_neg q, if_neg (fun z => q ⟨by omega, z.2⟩)]
theorem ebMS_out {k q : Nat} {G : Nat → Int32} (h : q ≠ 46 + k ∧ q ≠ 70 + k) : ebMS G k q = G q := by
  unfold ebMS
  split
  · exact ub_out h
  · split
    · exact ub_out h
    · rfl
theorem ebML_out {q : Nat} (hq : q < 46 ∨ (54 ≤ q ∧ q < 70) ∨ 78 ≤ q) : ∀ (n k : Nat) (G : Nat → Int32), ebML n k G q = G q
  | 0, _, _ => rfl
  | n + 1, k, G => by
    show (if 8 ≤ k then G else ebML n (k + 3) (ebMS G k)) q = G q
    split
    · rfl
    · rw [ebML_out hq n (k + 3) _, ebMS_out (by omega)]
theorem ebML_at {j : Nat} (hj : j < 8) : ∀ (n k : Nat) (G : Nat → Int32), ebML n k G (46 + j) = if (k ≤ j ∧ j < k + 3 * n ∧ (j - k) % 3 = 0) ∧ (G (46 + j) = 1 ∨ G (46 + j) = 2) then (if ¬ G (62 + j) ≤ 0 then 3 else 0) else G (46 + j)
  | 0, k, G => by rw [if_neg (by omega)]; rfl
  | n + 1, k, G => by
    show (if 8 ≤ k then G else ebML n (k + 3) (ebMS G k)) (46 + j) = _
    by_cases h8 : 8 ≤ k
    · rw [if_pos h8, if_neg (by omega)]
    · rw [if_neg h8, ebML_at hj n (k + 3) _, ebMS_out (q := 62 + j) (by omega)]
      by_cases e : j = k
      · subst e
        rw [if_neg (by omega)]
        unfold ebMS
        by_cases q1 : G (46 + j) = 1
        · have hx : (j ≤ j ∧ j < j + 3 * (n + 1) ∧ (j - j) % 3 = 0) ∧ (G (46 + j) = 1 ∨ G (46 + j) = 2) := ⟨⟨Nat.le_refl _, by omega, by rw [Nat.sub_self]⟩, Or.inl q1⟩
          rw [if_pos q1, ub_46 hj, if_pos hx]
        · by_cases q2 : G (46 + j) = 2
          · have hx : (j ≤ j ∧ j < j + 3 * (n + 1) ∧ (j - j) % 3 = 0) ∧ (G (46 + j) = 1 ∨ G (46 + j) = 2) := ⟨⟨Nat.le_refl _, by omega, by rw [Nat.sub_self]⟩, Or.inr q2⟩
            rw [if_neg q1, if_pos q2, ub_46 hj, if_pos hx]
          · rw [if_neg q1, if_neg q2, if_neg (fun z => z.2.elim q1 q2)]
      · rw [ebMS_out (q := 46 + j) (by omega)]
        by_cases q : (k + 3 ≤ j ∧ j < k + 3 + 3 * n ∧ (j - (k + 3)) % 3 = 0) ∧ (G (46 + j) = 1 ∨ G (46 + j) = 2)
        · have hx : (k ≤ j ∧ j < k + 3 * (n + 1) ∧ (j - k) % 3 = 0) ∧ (G (46 + j) = 1 ∨ G (46 + j) = 2) := ⟨by omega, q.2⟩
          rw [if_pos q, if_pos hx]
        · rw [if_neg q, if_neg (fun z => q ⟨by omega, z.2⟩)]
theorem Rel.be {c : Nat} (hc : c < 3) : ∀ (n k : Nat) (C F : Nat → Int32), Rel C F → Rel (beL c n k C) (beL c n k F)
  | 0, _, _, _, h => h
  | n + 1, k, C, F, h => by
    show Rel (if 8 ≤ k then C else beL c n (k + 3) (beS c C k)) (if 8 ≤ k then F else beL c n (k + 3) (beS c F k))
    by_cases h8 : 8 ≤ k
    · rw [if_pos h8, if_pos h8]; exact h
    · rw [if_neg h8, if_neg h8]
      refine Rel.be hc n (k + 3) _ _ ?_
      unfold beS
      rw [h.e (q := 46 + k) (by omega), h.e (q := 62 + k) (by omega), h.e (q := 222 + c) (by omega)]
      split
      · split
        · exact h.up (by omega)
        · exact h
      · exact h
theorem Rel.eb : ∀ (n k : Nat) (C F : Nat → Int32), Rel C F → Rel (ebL n k C) (ebML n k F)
  | 0, _, _, _, h => h
  | n + 1, k, C, F, h => by
    show Rel (if 8 ≤ k then C else ebL n (k + 3) (ebS C k)) (if 8 ≤ k then F else ebML n (k + 3) (ebMS F k))
    by_cases h8 : 8 ≤ k
    · rw [if_pos h8, if_pos h8]; exact h
    · rw [if_neg h8, if_neg h8]
      refine Rel.eb n (k + 3) _ _ ?_
      unfold ebS ebMS
      rw [h.e (q := 46 + k) (by omega)]
      split
      · exact h.lose (by omega)
      · split
        · exact h.lose (by omega)
        · exact h
theorem INV.eb : ∀ (n k : Nat) (F : Nat → Int32) (m r : Nat), INV F m r → INV (ebML n k F) m r
  | 0, _, _, _, _, h => h
  | n + 1, k, F, m, r, h => by
    show INV (if 8 ≤ k then F else ebML n (k + 3) (ebMS F k)) m r
    by_cases h8 : 8 ≤ k
    · rw [if_pos h8]; exact h
    · rw [if_neg h8]
      refine INV.eb n (k + 3) _ m r ?_
      unfold ebMS
      split
      · rename_i q; exact h.ub (by omega) (by rw [q]; decide)
      · split
        · rename_i q; exact h.ub (by omega) (by rw [q]; decide)
        · exact h
theorem INV.mb {F : Nat → Int32} {n r c : Nat} (h : INV F n r) (hc : c < 3) : INV (upd F (228 + c) 0) n r := by
  refine ⟨h.1, h.2.1.up (by omega), ?_, fun t ht => (h.2.2.2.1 t ht).cg (Nat.le_refl _) (fun q hq => upd_ne (by omega)), fun o ho => (h.2.2.2.2 o ho).cg (Nat.le_refl _) (fun q hq => upd_ne (by omega))⟩
  obtain ⟨q1, q2, q3, q4, q5⟩ := h.2.2.1
  unfold GI
  rw [upd_ne (by omega), upd_ne (by omega), upd_ne (by omega), upd_ne (by omega)]
  refine ⟨q1, q2, q3, q4, fun c' hc' => ?_⟩
  by_cases e : c' = c
  · subst e; rw [upd_eq]; exact Or.inl rfl
  · rw [upd_ne (by omega)]; exact q5 c' hc'
theorem bege_out {F : Nat → Int32} {c q : Nat} (hq : (q < 78 ∨ 86 ≤ q) ∧ q ≠ 222 + c) : begeF F c q = F q := by
  unfold begeF; rw [beL_out hq.1, upd_ne hq.2]
theorem bege_222 {F : Nat → Int32} {c : Nat} (hc : c < 3) : begeF F c (222 + c) = F (222 + c) + 1 := by
  unfold begeF; rw [beL_out (by omega), upd_eq]
theorem bege_78 {F : Nat → Int32} {c j : Nat} (hc : c < 3) (hj : j < 8) : begeF F c (78 + j) = if j % 3 = c ∧ F (46 + j) = 2 ∧ ¬ F (62 + j) ≤ 0 then F (222 + c) + 1 else F (78 + j) := by
  unfold begeF
  rw [beL_at hj hc, upd_ne (show 46 + j ≠ 222 + c by omega), upd_ne (show 62 + j ≠ 222 + c by omega), upd_ne (show 78 + j ≠ 222 + c by omega), upd_eq]
  by_cases q : j % 3 = c ∧ F (46 + j) = 2 ∧ ¬ F (62 + j) ≤ 0
  · rw [if_pos q, if_pos ⟨by have := q.1; omega, q.2⟩]
  · rw [if_neg q, if_neg (fun z => q ⟨by have := z.1; omega, z.2⟩)]
theorem INV.bege {F : Nat → Int32} {n r c : Nat} (h : INV F n r) (hc : c < 3) : INV (begeF F c) n r := by
  refine ⟨h.1, h.2.1.of (fun q hq => bege_out (by omega)), h.2.2.1.cg (Nat.le_refl _) (Nat.le_refl _) (fun k hk => bege_out (by omega)), fun t ht => (h.2.2.2.1 t ht).cg (Nat.le_refl _) (fun k hk => bege_out (by omega)), fun o ho => ?_⟩
  have hO := h.2.2.2.2 o ho
  unfold OI at hO ⊢
  rw [bege_out (q := 0) (by omega), bege_out (q := 46 + o) (by omega), bege_out (q := 54 + o) (by omega), bege_out (q := 62 + o) (by omega), bege_out (q := 70 + o) (by omega), bege_out (q := 86 + o) (by omega), bege_out (q := 94 + o) (by omega), bege_out (q := 110 + o) (by omega), bege_out (q := 118 + o) (by omega), bege_78 hc ho]
  obtain ⟨a1, a2, a3, a4, a5, a6⟩ := hO
  refine ⟨a1, a2, a3, a4, fun q => ⟨(a5 q).1, fun z => ⟨((a5 q).2 z).1, ?_⟩⟩, a6⟩
  by_cases e : o % 3 = c
  · rw [if_pos ⟨e, q, z⟩, e, bege_222 hc]
  · rw [if_neg (fun y => e y.1), bege_out (by omega)]; exact ((a5 q).2 z).2
theorem rev0_out {F : Nat → Int32} {o k : Nat} (hk : k ≠ 225 + o % 3 ∧ k ≠ 232) : rev0 F o k = F k := by
  unfold rev0; rw [upd_ne (by omega), upd_ne (by omega)]
theorem Rel.rv0 {C F : Nat → Int32} {o : Nat} (h : Rel C F) : Rel (rev0 C o) (rev0 F o) := by
  unfold rev0
  have e1 : C (225 + o % 3) = F (225 + o % 3) := h.e (by omega)
  have h1 := h.up (k := 225 + o % 3) (x := F (225 + o % 3) + 1) (by omega)
  have e2 : upd C (225 + o % 3) (F (225 + o % 3) + 1) (231 + 1) = upd F (225 + o % 3) (F (225 + o % 3) + 1) (231 + 1) := h1.e (by omega)
  rw [e1, e2]
  exact h1.up (by omega)
theorem INV.rv0 {F : Nat → Int32} {n r o : Nat} (h : INV F n r) : INV (rev0 F o) n r := by
  unfold rev0
  exact (h.pl (by omega)).pl (by omega)
/-- a revocation -/
theorem Rel.rv {C F : Nat → Int32} {n r o : Nat} (h : Rel C F) (hi : INV F n r) (ho : o < 8) (h2 : F (46 + o) = 2) : Rel (revF C o) (revM F o) ∧ INV (revM F o) n r := by
  have hc : o % 3 < 3 := Nat.mod_lt _ (by decide)
  have g := h.rv0 (o := o)
  have i := hi.rv0 (o := o)
  have v3 : valF (rev0 C o) 3 = rev0 F o 4 := by rw [show (3 : Int32) = nI 3 from rfl, valF_at (by decide)]; exact g.e (by omega)
  have v2 : valF (rev0 C o) 2 = rev0 F o 3 := by rw [show (2 : Int32) = nI 2 from rfl, valF_at (by decide)]; exact g.e (by omega)
  have l2 : rev0 F o (46 + o) = 2 := by rw [rev0_out (by omega)]; exact h2
  unfold revF revM
  rw [v3, v2, g.e (q := 225 + o % 3) (by omega)]
  split
  · split
    · have gb : Rel (begeF (rev0 C o) (o % 3)) (begeF (rev0 F o) (o % 3)) := by
        unfold begeF
        rw [g.e (q := 222 + o % 3) (by omega)]
        exact Rel.be hc 3 _ _ _ (g.up (by omega))
      have ib := i.bege hc
      rw [gb.e (q := 62 + o) (by omega)]
      split
      · exact ⟨gb.lose ho, ib.ub ho (by rw [bege_out (by omega), l2]; decide)⟩
      · exact ⟨gb, ib⟩
    · exact ⟨g.lose ho, i.ub ho (by rw [l2]; decide)⟩
  · unfold endbF endbM
    exact ⟨Rel.eb 3 _ _ _ (g.up (by omega)), INV.eb 3 _ _ _ _ (i.mb hc)⟩
theorem rv_out {F : Nat → Int32} {o k : Nat} (ho : o < 8) (hk : k < 46 ∨ (54 ≤ k ∧ k < 70) ∨ (86 ≤ k ∧ k < 222) ∨ (233 ≤ k)) : revM F o k = F k := by
  have hc : o % 3 < 3 := Nat.mod_lt _ (by decide)
  have e0 : rev0 F o k = F k := rev0_out (by omega)
  unfold revM
  split
  · split
    · split
      · rw [ub_out (by omega), bege_out (by omega), e0]
      · rw [bege_out (by omega), e0]
    · rw [ub_out (by omega), e0]
  · unfold endbM
    rw [ebML_out (by omega), upd_ne (by omega), e0]
/-- the lock behind a revocation -/
theorem rv_46 {F : Nat → Int32} {o : Nat} (ho : o < 8) (h2 : F (46 + o) = 2) : (¬ F (62 + o) ≤ 0 → revM F o (46 + o) = 3) ∧ (F (62 + o) ≤ 0 → revM F o (46 + o) = 0 ∨ (revM F o (46 + o) = 2 ∧ revM F o (70 + o) = F (70 + o) ∧ revM F o (222 + o % 3) = F (222 + o % 3) + 1 ∧ revM F o (78 + o) = F (78 + o))) := by
  have hc : o % 3 < 3 := Nat.mod_lt _ (by decide)
  have l2 : rev0 F o (46 + o) = 2 := by rw [rev0_out (by omega)]; exact h2
  have l62 : rev0 F o (62 + o) = F (62 + o) := rev0_out (by omega)
  have b62 : begeF (rev0 F o) (o % 3) (62 + o) = F (62 + o) := by rw [bege_out (by omega), l62]
  have b46 : begeF (rev0 F o) (o % 3) (46 + o) = 2 := by rw [bege_out (by omega), l2]
  unfold revM
  rw [b62]
  split
  · split
    · refine ⟨fun q => ?_, fun q => ?_⟩
      · rw [if_pos q, ub_46 ho, b62, if_pos q]
      · rw [if_neg (fun z => z q)]
        refine Or.inr ⟨b46, ?_, ?_, ?_⟩
        · rw [bege_out (by omega), rev0_out (by omega)]
        · rw [bege_222 hc, rev0_out (by omega)]
        · rw [bege_78 hc ho, if_neg (fun z => z.2.2 (by rw [l62]; exact q)), rev0_out (by omega)]
    · refine ⟨fun q => ?_, fun q => Or.inl ?_⟩
      · rw [ub_46 ho, l62, if_pos q]
      · rw [ub_46 ho, l62, if_neg (fun z => z q)]
  · have e : endbM (rev0 F o) (o % 3) (46 + o) = if ¬ F (62 + o) ≤ 0 then 3 else 0 := by
      unfold endbM
      rw [ebML_at ho, upd_ne (show 46 + o ≠ 228 + o % 3 by omega), upd_ne (show 62 + o ≠ 228 + o % 3 by omega), l62, if_pos ⟨by omega, Or.inr l2⟩]
    rw [e]
    exact ⟨fun q => if_pos q, fun q => Or.inl (if_neg (fun z => z q))⟩
