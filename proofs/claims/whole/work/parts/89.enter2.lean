/-! an object that nobody holds is taken -/
theorem rec_1 {C F : Nat → Int32} {n r o : Nat} (h : Rel C F) (hi : INV F n r) (ho : o < 8) : (recF C o).1 = if rcv F o 239 ≤ F 239 then 0 else 10 := by
  obtain ⟨z, z1, z2⟩ := hi.z
  have hr := hi.1.2.2
  unfold recF rcv
  rw [h.e (q := 86 + o) (by omega)]
  rcases (hi.2.2.2.2 o ho).2.2.2.2.2.2.1 with q | q
  · rw [if_pos q, if_neg (show ¬ F (86 + o) = 1 by rw [q]; decide), if_pos (Int32.le_refl _)]
  · rw [if_neg (show ¬ F (86 + o) = 0 by rw [q]; decide), if_pos q, upd_eq, if_neg]
    rw [upd_ne (by omega), z2, show nI z + 1 = nI (z + 1) from (nI_succ z).symm]
    exact nI_ge (by omega) (by omega)
theorem rec_46 {C : Nat → Int32} {o k : Nat} (hk : k ≠ 86 + o ∧ k ≠ 239) : (recF C o).2 k = C k := by
  unfold recF
  split
  · rfl
  · show upd (upd C (86 + o) 0) (231 + 8) _ k = C k
    rw [upd_ne (by omega), upd_ne (by omega)]
/-- the recoveries that a hold counts -/
theorem hld_239 {G : Nat → Int32} {F : Nat → Int32} {x : Int32} {o : Nat} {c : Int32} (ho : o < 8) (h1 : G (86 + o) = F (86 + o)) (h2 : G 239 = F 239) : hldM G x o c 239 = rcv F o 239 := by
  rw [hld_in ho, upd_ne (by omega), upd_ne (by omega)]
  unfold rcv
  rw [h1]
  split
  · rw [upd_eq, upd_eq, upd_ne (by omega), upd_ne (by omega), h2]
  · exact h2
/-- the outcome of a taking -/
def TKok (C F : Nat → Int32) (t o n r : Nat) (R : Int32 × (Nat → Int32)) : Prop := (takeF (recF C o).2 (nI t) o).1 = R.1 ∧ ¬ R.1 = -6 ∧ R.2 239 = rcv F o 239 ∧ Rel (takeF (recF C o).2 (nI t) o).2 R.2 ∧ INV R.2 n (r + 1)
section TK
variable {C F : Nat → Int32} {n r t o : Nat}
theorem tk_0 (h : Rel C F) (hi : INV F n r) (hr : r < 100000000) (ho : o < 8) (ht : t < nt (F 0)) (h0 : F (46 + o) = 0) : TKok C F t o n r (2, hldM (upd (upd F (46 + o) 3) 231 (upd F (46 + o) 3 231 + 1)) (nI t) o 1) := by
  have hb := (hi.2.2.2.2 o ho).2.2.2.2.2.2.1
  have h1 := h.rc ho hb
  have c46 : (recF C o).2 (46 + o) = 0 := by rw [rec_46 (by omega), h.e (by omega)]; exact h0
  refine ⟨?_, (show ¬ (2 : Int32) = -6 by decide), hld_239 ho (by rw [upd_ne (by omega), upd_ne (by omega)]) (by rw [upd_ne (by omega), upd_ne (by omega)]), ?_, ?_⟩
  · unfold takeF; rw [if_pos c46]
  · unfold takeF
    rw [if_pos c46]
    have e1 : giveF (upd (recF C o).2 (46 + o) 3) o (nI t) 1 (231 + 0) = F 231 := by
      unfold giveF
      rw [upd_ne (by omega), upd_ne (by omega), upd_ne (by omega), rec_46 (by omega)]; exact h.e (by omega)
    have e2 : upd F (46 + o) 3 231 = F 231 := upd_ne (by omega)
    show Rel (upd (giveF (upd (recF C o).2 (46 + o) 3) o (nI t) 1) (231 + 0) (giveF (upd (recF C o).2 (46 + o) 3) o (nI t) 1 (231 + 0) + 1)) (hldM (upd (upd F (46 + o) 3) 231 (upd F (46 + o) 3 231 + 1)) (nI t) o 1)
    rw [hld_in ho, e1, e2, rcv_upd (by omega), rcv_upd (by omega), upd3 (f := upd (rcv F o) (46 + o) 3) (by omega)]
    exact (((h1.lk ho (by decide)).up (by omega)).up (by omega)).up (by omega)
  · refine hi.hold hr ho ht (fun k hk => by rw [upd_ne (by omega), upd_ne (by omega)]) (Or.inr (Or.inl (by rw [upd_ne (by omega), upd_eq]))) (fun _ => (hi.2.2.2.2 o ho).2.2.2.2.2.1 (by rw [h0]; decide))
theorem bia_eq (ho : o < 8) (G : Nat → Int32) : hldM (bia4 G t o 1) (nI t) o 1 = upd (upd (upd (upd (upd (upd (rcv G o) (54 + o) (nI t)) (62 + o) 1) (70 + o) (nI t)) (46 + o) 2) (78 + o) (G (222 + o % 3))) 231 (G 231 + 1) := by
  have e1 : upd (upd G (46 + o) 2) (70 + o) (nI t) (222 + o % 3) = G (222 + o % 3) := by rw [upd_ne (by omega), upd_ne (by omega)]
  have e2 : upd (upd (upd G (46 + o) 2) (70 + o) (nI t)) (78 + o) (G (222 + o % 3)) 231 = G 231 := by rw [upd_ne (by omega), upd_ne (by omega), upd_ne (by omega)]
  unfold bia4
  rw [e1, e2, if_neg (show ¬ (1 : Int32) = 0 by decide), hld_in ho, rcv_upd (by omega), rcv_upd (by omega), rcv_upd (by omega), rcv_upd (by omega), upd42 (by omega), upd_comm (f := upd (upd (rcv G o) (54 + o) (nI t)) (62 + o) 1) (i := 46 + o) (j := 70 + o) (by omega)]
theorem tkb2_eq (ho : o < 8) (D : Nat → Int32) : tkb2 D (nI t) o = upd (upd (upd (upd D (70 + o) (nI t)) (46 + o) 2) (78 + o) (D (222 + o % 3))) 231 (D 231 + 1) := by
  have e1 : upd (upd D (46 + o) 2) (70 + o) (nI t) (222 + o % 3) = D (222 + o % 3) := by rw [upd_ne (by omega), upd_ne (by omega)]
  have e2 : upd (upd (upd D (46 + o) 2) (70 + o) (nI t)) (78 + o) (D (222 + o % 3)) (231 + 0) = D 231 := by rw [upd_ne (by omega), upd_ne (by omega), upd_ne (by omega)]
  unfold tkb2
  rw [e1, e2, upd_comm (f := D) (i := 46 + o) (j := 70 + o) (by omega)]
/-- a bias is taken anew -/
theorem tk_b (h : Rel C F) (hi : INV F n r) (hr : r < 100000000) (ho : o < 8) (ht : t < nt (F 0)) (hl : F (46 + o) = 1 ∨ F (46 + o) = 2) (hnb : F (46 + o) = 2 → ¬ (C (70 + o) = nI t ∧ F (78 + o) = F (222 + o % 3))) : TKok C F t o n r (1, biaM F t o 1) := by
  have hb := (hi.2.2.2.2 o ho).2.2.2.2.2.2.1
  have h1 := h.rc ho hb
  have c46 : (recF C o).2 (46 + o) = F (46 + o) := by rw [rec_46 (by omega)]; exact h.e (by omega)
  have gv : ∀ k, k ≠ 54 + o → k ≠ 62 + o → giveF (recF C o).2 o (nI t) 1 k = (recF C o).2 k := fun k a1 a2 => by unfold giveF; rw [upd_ne a2, upd_ne a1]
  have htk : tkbF (recF C o).2 (nI t) o = tkb2 (giveF (recF C o).2 o (nI t) 1) (nI t) o := by
    unfold tkbF bOK
    rw [gv (46 + o) (by omega) (by omega), gv (70 + o) (by omega) (by omega), gv (78 + o) (by omega) (by omega), gv (222 + o % 3) (by omega) (by omega), c46, rec_46 (k := 70 + o) (by omega), rec_46 (k := 78 + o) (by omega), rec_46 (k := 222 + o % 3) (by omega), h.e (q := 78 + o) (by omega), h.e (q := 222 + o % 3) (by omega)]
    by_cases q2 : F (46 + o) = 2
    · rw [if_pos q2]
      by_cases qa : C (70 + o) = nI t
      · rw [if_pos qa, if_neg (fun z => hnb q2 ⟨qa, z⟩)]
      · rw [if_neg qa]
    · rw [if_neg q2]
  have hval : takeF (recF C o).2 (nI t) o = (1, tkb2 (giveF (recF C o).2 o (nI t) 1) (nI t) o) := by
    unfold takeF
    rw [c46, htk]
    rcases hl with q | q
    · rw [if_neg (by rw [q]; decide), if_pos q]
    · rw [if_neg (by rw [q]; decide), if_neg (by rw [q]; decide), if_pos q]
  have o4 : ∀ k, ¬ (k = 46 + o ∨ k = 70 + o ∨ k = 78 + o ∨ k = 231) → bia4 F t o 1 k = F k := fun k hk => by
    unfold bia4
    rw [upd_ne (by omega), upd_ne (by omega), upd_ne (by omega), upd_ne (by omega)]
  refine ⟨by rw [hval], (show ¬ (1 : Int32) = -6 by decide), hld_239 ho (o4 _ (by omega)) (o4 _ (by omega)), ?_, ?_⟩
  · rw [hval]
    show Rel (tkb2 (giveF (recF C o).2 o (nI t) 1) (nI t) o) (hldM (bia4 F t o 1) (nI t) o 1)
    have v1 : giveF (recF C o).2 o (nI t) 1 (222 + o % 3) = F (222 + o % 3) := by rw [gv _ (by omega) (by omega), rec_46 (by omega)]; exact h.e (by omega)
    have v2 : giveF (recF C o).2 o (nI t) 1 231 = F 231 := by rw [gv _ (by omega) (by omega), rec_46 (by omega)]; exact h.e (by omega)
    rw [bia_eq ho, tkb2_eq ho, v1, v2]
    exact ((((((h1.up (by omega)).up (by omega)).bi ho).lk2 ho (by rw [upd_eq, upd_eq])).up (by omega)).up (by omega))
  · refine hi.hold hr ho ht (fun k hk => o4 k (by omega)) (Or.inl ⟨?_, ?_, ?_⟩) (fun _ => (hi.2.2.2.2 o ho).2.2.2.2.2.1 (by rcases hl with q | q <;> rw [q] <;> decide))
    · unfold bia4; rw [upd_ne (by omega), upd_ne (by omega), upd_ne (by omega), upd_eq]
    · unfold bia4; rw [upd_ne (by omega), upd_ne (by omega), upd_eq]
    · rw [o4 (222 + o % 3) (by omega)]
      unfold bia4
      rw [upd_ne (by omega), upd_eq, upd_ne (by omega), upd_ne (by omega)]
/-- a bias stands -/
theorem tk_v (h : Rel C F) (hi : INV F n r) (hr : r < 100000000) (ho : o < 8) (ht : t < nt (F 0)) (h2 : F (46 + o) = 2) (hb7 : F (70 + o) = nI t) (hv : F (78 + o) = F (222 + o % 3)) : TKok C F t o n r (1, biaM F t o 0) := by
  have hb := (hi.2.2.2.2 o ho).2.2.2.2.2.2.1
  have h1 := h.rc ho hb
  have c46 : (recF C o).2 (46 + o) = F (46 + o) := by rw [rec_46 (by omega)]; exact h.e (by omega)
  have gv : ∀ k, k ≠ 54 + o → k ≠ 62 + o → giveF (recF C o).2 o (nI t) 1 k = (recF C o).2 k := fun k a1 a2 => by unfold giveF; rw [upd_ne a2, upd_ne a1]
  have htk : tkbF (recF C o).2 (nI t) o = giveF (recF C o).2 o (nI t) 1 := by
    unfold tkbF bOK
    rw [gv (46 + o) (by omega) (by omega), gv (70 + o) (by omega) (by omega), gv (78 + o) (by omega) (by omega), gv (222 + o % 3) (by omega) (by omega), c46, rec_46 (k := 70 + o) (by omega), rec_46 (k := 78 + o) (by omega), rec_46 (k := 222 + o % 3) (by omega), h.e (q := 78 + o) (by omega), h.e (q := 222 + o % 3) (by omega), h.2.2.2.2.1 o ho h2, if_pos h2, if_pos hb7, if_pos hv]
  have hval : takeF (recF C o).2 (nI t) o = (1, giveF (recF C o).2 o (nI t) 1) := by
    unfold takeF
    rw [c46, htk, if_neg (by rw [h2]; decide), if_neg (by rw [h2]; decide), if_pos h2]
  have hb4 : bia4 F t o 0 = F := by
    unfold bia4
    rw [upd_id (f := F) h2, upd_id (f := F) hb7, upd_id (f := F) hv, if_pos rfl, Int32.add_zero, upd_id (f := F) rfl]
  refine ⟨by rw [hval], (show ¬ (1 : Int32) = -6 by decide), ?_, ?_, ?_⟩
  · show hldM (bia4 F t o 0) (nI t) o 1 239 = _
    rw [hb4]; exact hld_239 ho rfl rfl
  · rw [hval]
    show Rel (giveF (recF C o).2 o (nI t) 1) (hldM (bia4 F t o 0) (nI t) o 1)
    rw [hb4, hld_in ho]
    exact (h1.up (by omega)).up (by omega)
  · show INV (hldM (bia4 F t o 0) (nI t) o 1) n (r + 1)
    rw [hb4]
    exact hi.hold hr ho ht (fun _ _ => rfl) (Or.inl ⟨h2, hb7, hv⟩) (fun q => (hi.2.2.2.2 o ho).2.2.2.2.2.1 q)
theorem tk_4 (h : Rel C F) (hi : INV F n r) (hr : r < 100000000) (ho : o < 8) (ht : t < nt (F 0)) (h4 : F (46 + o) = 4) : TKok C F t o n r (3, hldM (upd (upd F 231 (F 231 + 1)) 238 (upd F 231 (F 231 + 1) 238 + (if upd F 231 (F 231 + 1) (110 + o) ≤ 0 then 0 else 1))) (nI t) o 1) := by
  have hb := (hi.2.2.2.2 o ho).2.2.2.2.2.2.1
  have h1 := h.rc ho hb
  have c46 : (recF C o).2 (46 + o) = F (46 + o) := by rw [rec_46 (by omega)]; exact h.e (by omega)
  have gv : ∀ k, k ≠ 54 + o → k ≠ 62 + o → giveF (recF C o).2 o (nI t) 1 k = (recF C o).2 k := fun k a1 a2 => by unfold giveF; rw [upd_ne a2, upd_ne a1]
  have v1 : giveF (recF C o).2 o (nI t) 1 (231 + 0) = F 231 := by rw [gv _ (by omega) (by omega), rec_46 (by omega)]; exact h.e (by omega)
  have v2 : upd (giveF (recF C o).2 o (nI t) 1) (231 + 0) (F 231 + 1) (110 + o) = F (110 + o) := by rw [upd_ne (by omega), gv _ (by omega) (by omega), rec_46 (by omega)]; exact h.e (by omega)
  have v3 : upd (giveF (recF C o).2 o (nI t) 1) (231 + 0) (F 231 + 1) (231 + 7) = F 238 := by rw [upd_ne (by omega), gv _ (by omega) (by omega), rec_46 (by omega)]; exact h.e (by omega)
  have w1 : upd F 231 (F 231 + 1) 238 = F 238 := upd_ne (by omega)
  have w2 : upd F 231 (F 231 + 1) (110 + o) = F (110 + o) := upd_ne (by omega)
  have z0 : F (110 + o) ≤ 0 ↔ F (110 + o) = 0 := by
    obtain ⟨s, s1, s2⟩ := hi.2.1.1.q ho
    rw [s2, ← nI_0, nI_leI (by omega) (by decide), nI_eq (by omega) (by decide)]; omega
  have hval : takeF (recF C o).2 (nI t) o = (3, upd (upd (giveF (recF C o).2 o (nI t) 1) 231 (F 231 + 1)) 238 (F 238 + (if F (110 + o) ≤ 0 then 0 else 1))) := by
    unfold takeF
    rw [c46, if_neg (by rw [h4]; decide), if_neg (by rw [h4]; decide), if_neg (by rw [h4]; decide), v1, v2, v3]
    by_cases q : F (110 + o) = 0
    · rw [if_pos q, if_pos (z0.mpr q), Int32.add_zero, upd_id (k := 238) (x := F 238) v3]
    · rw [if_neg q, if_neg (fun z => q (z0.mp z))]
  rw [w1, w2]
  refine ⟨by rw [hval], (show ¬ (3 : Int32) = -6 by decide), hld_239 ho (by rw [upd_ne (by omega), upd_ne (by omega)]) (by rw [upd_ne (by omega), upd_ne (by omega)]), ?_, ?_⟩
  · rw [hval]
    show Rel (upd (upd (giveF (recF C o).2 o (nI t) 1) 231 (F 231 + 1)) 238 (F 238 + (if F (110 + o) ≤ 0 then 0 else 1))) (hldM (upd (upd F 231 (F 231 + 1)) 238 (F 238 + (if F (110 + o) ≤ 0 then 0 else 1))) (nI t) o 1)
    rw [hld_in ho, rcv_upd (by omega), rcv_upd (by omega), upd22 (f := rcv F o) (by omega)]
    exact (((h1.up (by omega)).up (by omega)).up (by omega)).up (by omega)
  · exact hi.hold hr ho ht (fun k hk => by rw [upd_ne (by omega), upd_ne (by omega)]) (Or.inr (Or.inr (by rw [upd_ne (by omega), upd_ne (by omega)]; exact h4))) (fun q => absurd (by rw [upd_ne (by omega), upd_ne (by omega)]; exact h4) q)
end TK
