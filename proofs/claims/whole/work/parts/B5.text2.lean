/-! what the description needs, on both sides -/
section DF
variable {C F : Nat → Int32} {n r o : Nat}
theorem DOK.of (hi : INV F n r) (ho : o < 8) : DOK F o := by
  obtain ⟨T, t1, t2, t3, t4⟩ := hi.T
  have h := hi.2.1
  obtain ⟨i1, ⟨c, c1, c2, c3, c4⟩, i3, i4, i5, i6, i7, i8⟩ := hi.2.2.2.2 o ho
  have hn := hi.1.2.1
  have key : ∀ x : Int32, (∃ u, u < nt (F 0) ∧ x = nI u) → x = nI (nt x) ∧ nt x < 6 := fun x ⟨u, u1, u2⟩ => by
    rw [u2, ntn (show u < 2 ^ 31 by omega)]; exact ⟨rfl, by omega⟩
  refine ⟨fun z => key _ (i5 z).1, fun z => key _ (((hi.2.2.2.2 o ho).cnt hn).2.2 z), fun z => ?_, h.1.q ho, h.1.w ho, fun i hk => ?_, fun i hk => ?_⟩
  · rcases i8 with y | ⟨q, q1, q2⟩
    · exact absurd y z
    · rw [q2]; exact Int32.not_lt.mp (nI_pos (by omega))
  · obtain ⟨t, g1, g2⟩ := mem_ok (F := F) (q := 110 + o) (p := 126 + 6 * o) (fun x hx => by obtain ⟨t, a1, a2, -⟩ := h.2.2.1 o x ho hx; exact ⟨t, a1, a2⟩) (by omega) hk
    rw [g2, ntn (show t < 2 ^ 31 by omega)]; exact ⟨rfl, g1⟩
  · obtain ⟨t, g1, g2⟩ := mem_ok (F := F) (q := 118 + o) (p := 174 + 6 * o) (fun x hx => by obtain ⟨t, a1, a2, -⟩ := h.2.2.2.1 o x ho hx; exact ⟨t, a1, a2⟩) (by omega) hk
    rw [g2, ntn (show t < 2 ^ 31 by omega)]; exact ⟨rfl, g1⟩
theorem DCK.of (h : Rel C F) (hi : INV F n r) (ho : o < 8) : DCK C o := by
  obtain ⟨T, t1, t2, t3, t4⟩ := hi.T
  obtain ⟨d1, d2, d3, d4, d5, d6, d7⟩ := DOK.of hi ho
  obtain ⟨i1, ⟨c, c1, c2, c3, c4⟩, i3, i4, i5, i6, i7, i8⟩ := hi.2.2.2.2 o ho
  have hn := hi.1.2.1
  refine ⟨fun z => ?_, fun z => ?_, fun z => ?_, ?_, ?_⟩
  · rw [h.e (q := 46 + o) (by omega)] at z
    rw [h.2.2.2.2.1 o ho z]
    exact ⟨_, (d1 z).2, (d1 z).1⟩
  · rw [h.e (q := 62 + o) (by omega)] at z ⊢
    rw [h.e (q := 54 + o) (by omega)]
    exact ⟨⟨_, (d2 z).2, (d2 z).1⟩, c, by omega, c2⟩
  · rcases h.2.2.2.2.2.1 o ho with ⟨a, b⟩ | ⟨a, b⟩
    · exact absurd a z
    · rw [a]
      rcases i8 with y | ⟨q, q1, q2⟩
      · rw [y] at b; exact absurd b (by decide)
      · exact ⟨q, q1, q2⟩
  · refine ⟨nt (F (110 + o)), d4.nat.2, (h.e (q := 110 + o) (by omega)).trans d4.nat.1, fun i hk => ?_⟩
    rw [lst_pt (h.l ho).1 hk]; exact d6 i hk
  · refine ⟨nt (F (118 + o)), d5.nat.2, (h.e (q := 118 + o) (by omega)).trans d5.nat.1, fun i hk => ?_⟩
    rw [lst_pt (h.l ho).2 hk]; exact d7 i hk
end DF
/-- a memory in which every region stands is the whole memory -/
theorem sE_self {R : Nat → Rg} {S : Nat → Nat → Int32} {E : Nat → va_E} : ∀ n, (∀ i, i < n → At (R i) (S i) E) → sE R S E n = E
  | 0, _ => rfl
  | n + 1, h => by
    show rE (R n) (S n) (sE R S E n) = E
    rw [sE_self n (fun i hi => h i (by omega))]
    exact h n (by omega)
theorem Xm_self {G : GG} {X : Nat} {S : Nat → Nat → Int32} {M : Mem} (h : ∀ i, i < 13 → At (xr G X i) (S i) M.2.1) : M = Xm G X S M.2.1 M.1 M.2.2 := by
  show M = (M.1, sE (xr G X) S M.2.1 13, M.2.2)
  rw [sE_self 13 h]
/-- a region that nothing touched -/
theorem At.kp {r : Rg} {F : Nat → Int32} {E E' : Nat → va_E} (h : At r F E) (he : ∀ a, r.2.2.1 ≤ a → a < r.2.2.1 + r.2.2.2 → E' a = E a) : At r F E' := by
  unfold At at h ⊢
  funext a
  by_cases q : r.2.2.1 ≤ a ∧ a < r.2.2.1 + r.2.2.2
  · rw [rE_in (E' := E) q, h, he a q.1 q.2]
  · exact rE_out q
/-- behind a builder's call: the same regions -/
theorem Mv.xm {G : GG} {X b : Nat} {S : Nat → Nat → Int32} {M M1 : Mem} (h : Mv (X + 122) b M M1) (hb : b = X + 123 ∨ X + 256 ≤ b) (hs : X + 256 ≤ M.2.2) (ha : ∀ i, i < 13 → At (xr G X i) (S i) M.2.1) : ∀ i, i < 13 → At (xr G X i) (S i) M1.2.1 := by
  intro i hi
  have key : ∀ i, i < 13 → xlo i + xsz i ≤ 256 ∧ (xlo i + xsz i ≤ 122 ∨ 124 ≤ xlo i) := by decide
  obtain ⟨k1, k2⟩ := key i hi
  refine (ha i hi).kp (fun a a1 a2 => h.2.2 a ?_ ?_ ?_)
  · rw [(xr_lo hi).1, (xr_lo hi).2] at a2; omega
  · rw [(xr_lo hi).1] at a1; rw [(xr_lo hi).1, (xr_lo hi).2] at a2; omega
  · rw [(xr_lo hi).1] at a1; rw [(xr_lo hi).1, (xr_lo hi).2] at a2; omega
