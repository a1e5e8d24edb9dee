/-! entering, whole -/
def enC (C : Nat → Int32) (t o : Nat) : Int32 × (Nat → Int32) := if enmP C (nI t) o then (if cinP C then entB C (nI t) o else (-6, C)) else entB C (nI t) o
/-- class and reference behind an entering -/
def ENok (C F : Nat → Int32) (n r : Nat) (A R : Int32 × (Nat → Int32)) : Prop := (R.1 = -6 ∧ A = (-6, C)) ∨ (¬ R.1 = -6 ∧ A.1 = R.1 + (if R.2 239 ≤ F 239 then 0 else 10) ∧ Rel A.2 R.2 ∧ INV R.2 (n + 1) (r + 1))
section EN
variable {C F : Nat → Int32} {n r t o : Nat}
theorem lk_ne {a b : Int32} {k : Nat} (h : F k = a) (hab : ¬ a = b) : ¬ F k = b := fun z => hab (h.symm.trans z)
/-- not held, and no bias of another that is valid: the class takes it -/
theorem en_take (h : Rel C F) (hi : INV F n r) (hn : n < 100000) (hh : F (62 + o) ≤ 0) (ho : o < 8) {R : Int32 × (Nat → Int32)} (hk : TKok C F t o n r R) : ENok C F n r (entD C (nI t) o) R := by
  have c62 : C (62 + o) ≤ 0 := by rw [h.e (by omega)]; exact hh
  obtain ⟨k1, k2, k3, k4, k5⟩ := hk
  refine Or.inr ⟨k2, ?_, ?_, k5.mono (Nat.le_succ _) (Nat.le_refl _) (by omega) k5.1.2.2⟩
  · unfold entD
    rw [if_neg (fun z => z.1 c62), if_neg (fun z => z c62), k3]
    show (recF C o).1 + (takeF (recF C o).2 (nI t) o).1 = _
    rw [rec_1 h hi ho, k1, Int32.add_comm]
  · unfold entD
    rw [if_neg (fun z => z.1 c62), if_neg (fun z => z c62)]
    exact k4
theorem cif_rv (ho : o < 8) (h2 : F (46 + o) = 2) (hi : INV F n r) (h : Rel C F) : cifM (revM F o) ↔ cifM F := by
  have l4 : ∀ j, j < 8 → (revM F o (46 + j) = 4 ↔ F (46 + j) = 4) := fun j hj => by
    have hc : o % 3 < 3 := Nat.mod_lt _ (by decide)
    have e0 : rev0 F o (46 + j) = F (46 + j) := rev0_out (by omega)
    have l2 : rev0 F o (46 + o) = 2 := by rw [rev0_out (by omega)]; exact h2
    have ubq : ∀ G : Nat → Int32, G (46 + j) = F (46 + j) → G (46 + o) = 2 → (ubM G o (46 + j) = 4 ↔ F (46 + j) = 4) := fun G g1 g2 => by
      by_cases e : j = o
      · subst e
        rw [ub_46 hj, ← g1, g2]
        split <;> decide
      · rw [ub_out (by omega), g1]
    unfold revM
    split
    · split
      · split
        · exact ubq _ (by rw [bege_out (by omega), e0]) (by rw [bege_out (by omega), l2])
        · rw [bege_out (by omega), e0]
      · exact ubq _ e0 l2
    · unfold endbM
      rw [ebML_at hj, upd_ne (show 46 + j ≠ 228 + o % 3 by omega), e0]
      split
      · rename_i q
        have : ¬ F (46 + j) = 4 := by rcases q.2 with q | q <;> rw [q] <;> decide
        refine ⟨fun z => ?_, fun z => absurd z this⟩
        exfalso
        revert z
        split <;> decide
      · exact Iff.rfl
  have hid : ∀ j, j < 8 → (idlM (revM F o) j ↔ idlM F j) := fun j hj => by
    unfold idlM
    rw [l4 j hj, rv_out ho (by omega), rv_out (k := 110 + j) ho (by omega), rv_out (k := 118 + j) ho (by omega)]
  have hmon : monF (revM F o) = monF F := monL_cg 8 0 0 (by omega) l4
  have hlid : lidM (revM F o) = lidM F := by
    have key : ∀ (m i : Nat) (f : Option Nat), i + m ≤ 8 → (∀ j, f = some j → j < 8) → lidML (revM F o) m i f = lidML F m i f := by
      intro m
      induction m with
      | zero => intro i f _ _; rfl
      | succ m ih =>
        intro i f hi' hf
        show lidML (revM F o) m (i + 1) (lidMS (revM F o) i f) = lidML F m (i + 1) (lidMS F i f)
        have e : lidMS (revM F o) i f = lidMS F i f := by
          unfold lidMS
          by_cases q : idlM F i
          · rw [if_pos q, if_pos ((hid i (by omega)).mpr q)]
            cases f with
            | none => rfl
            | some j =>
              show (if revM F o (102 + j) ≤ revM F o (102 + i) then some j else some i) = (if F (102 + j) ≤ F (102 + i) then some j else some i)
              have := hf j rfl
              rw [rv_out ho (by omega), rv_out (k := 102 + i) ho (by omega)]
          · rw [if_neg q, if_neg (fun y => q ((hid i (by omega)).mp y))]
        rw [e]
        exact ih (i + 1) _ (by omega) (lidMS_lt (by omega) hf)
    exact key 8 0 none (by omega) (fun j q => by cases q)
  unfold cifM
  rw [hmon, hlid, rv_out ho (by omega)]
/-- held by another: it blocks -/
theorem en_blk {F' C' : Nat → Int32} (h : Rel C' F') (hi : INV F' n r) (hn : n < 100000) (hr : r < 100000000) (ho : o < 8) (h4 : F' (46 + o) = 4) (ht : t < nt (F' 0)) (hrun : F' (10 + t) = 0) (h239 : F' 239 = F 239) (hh : ¬ F' (62 + o) ≤ 0) (hot : ¬ F' (54 + o) = nI t) : ENok C F n r (entD C' (nI t) o) (enb F' t o) := by
  obtain ⟨b1, b2⟩ := h.bl hi ho h4 ht hrun
  have c62 : C' (62 + o) = F' (62 + o) := h.e (by omega)
  have c54 : C' (54 + o) = F' (54 + o) := h.e (by omega)
  obtain ⟨T, t1, t2, t3, t4⟩ := hi.T
  have hnq : nI t ∉ Qs F' o := (hi.2.1.run ht (by rw [hrun]; decide)).2 o ho |>.1
  have hD : entD C' (nI t) o = (0, blkF C' (nI t) o) := by
    unfold entD
    rw [c62, c54, if_neg (fun z => hot z.2), if_pos hh]
  rw [hD]
  refine Or.inr ⟨(show ¬ (0 : Int32) = -6 by decide), ?_, b1, b2.mono (Nat.le_succ _) (Nat.le_succ _) (by omega) (by omega)⟩
  show (0 : Int32) = 0 + (if (enb F' t o).2 239 ≤ F 239 then 0 else 10)
  rw [enb_239 hi.2.1.1 (by omega) ho (hi.2.1.roomq ht ho hnq), h239, if_pos (Int32.le_refl _)]; decide
theorem inf_out {F : Nat → Int32} {o k : Nat} (ho : o < 8) (hk : k < 46 ∨ (54 ≤ k ∧ k < 70) ∨ (78 ≤ k ∧ k < 102) ∨ (110 ≤ k ∧ k < 231) ∨ 235 ≤ k) : infM F o k = F k := by
  unfold infM
  split
  · exact inf2_out (by omega)
  · cases hj : lidM F with
    | none => rfl
    | some j =>
      obtain ⟨hj8, -⟩ := lidM_idle 8 0 none (by omega) (fun j q => by cases q) j hj
      show inf2 (deflF F j) o k = F k
      rw [inf2_out (by omega)]
      unfold deflF
      rw [upd_ne (by omega), upd_ne (by omega)]
theorem en_all (h : Rel C F) (hi : INV F n r) (hn : n < 100000) (hr : r < 100000000) (ho : o < 8) (ht : t < nt (F 0)) (hrun : F (10 + t) = 0) : ENok C F n r (enC C t o) (etrM F t o) := by
  have hOo := hi.2.2.2.2 o ho
  have hcn := hOo.cnt hi.1.2.1
  have c46 : C (46 + o) = F (46 + o) := h.e (by omega)
  have c62 : C (62 + o) = F (62 + o) := h.e (by omega)
  have c54 : C (54 + o) = F (54 + o) := h.e (by omega)
  have cv4 : valF C 4 = F 5 := by rw [show (4 : Int32) = nI 4 from rfl, valF_at (by decide)]; exact h.e (by omega)
  have cin := h.cin hi
  have hlk := lkv5 hOo.1
  by_cases hh : F (62 + o) ≤ 0
  · -- nobody holds it
    have hc0 : F (62 + o) = 0 := hcn.1.mp hh
    have nm : ¬ enmP C (nI t) o := fun z => z.1 (by rw [c62]; exact hh)
    have l3 : ¬ F (46 + o) = 3 := fun z => hOo.2.2.2.1 z hh
    have hA : enC C t o = entB C (nI t) o := by unfold enC; rw [if_neg nm]
    have hB : etrM F t o = et78 F t o := by unfold etrM; rw [if_neg (fun z => z hh)]
    rw [hA, hB]
    have entn : ∀ C1, entC C1 (nI t) o (enmP C (nI t) o) = entD C1 (nI t) o := fun C1 => by unfold entC; rw [if_neg nm]
    rcases hlk with q | q | q | q | q
    · -- neutral
      have e1 : entB C (nI t) o = entD C (nI t) o := by unfold entB; rw [if_neg (lk_ne (F := C) (c46.trans q) (by decide)), entn]
      have e2 : et78 F t o = (2, hldM (upd (upd F (46 + o) 3) 231 (upd F (46 + o) 3 231 + 1)) (nI t) o 1) := by
        unfold et78 et99 et149 entdM en37
        rw [if_neg (lk_ne q (by decide)), if_neg (lk_ne q (by decide)), if_neg (lk_ne q (by decide)), if_neg (lk_ne q (by decide)), if_pos q]
      rw [e1, e2]
      exact en_take h hi hn hh ho (tk_0 h hi hr ho ht q)
    · -- biasable
      have e1 : entB C (nI t) o = entD C (nI t) o := by unfold entB; rw [if_neg (lk_ne (F := C) (c46.trans q) (by decide)), entn]
      have e2 : et78 F t o = (1, biaM F t o 1) := by unfold et78; rw [if_pos q]
      rw [e1, e2]
      exact en_take h hi hn hh ho (tk_b h hi hr ho ht (Or.inl q) (fun z => absurd z (lk_ne q (by decide))))
    · -- biased
      have cb : C (70 + o) = F (70 + o) := h.2.2.2.2.1 o ho q
      have cok : bOK C o ↔ bOK F o := by unfold bOK; rw [h.e (q := 78 + o) (by omega), h.e (q := 222 + o % 3) (by omega)]
      have e78 : et78 F t o = et99 F t o := by unfold et78; rw [if_neg (lk_ne q (by decide))]
      rw [e78]
      by_cases qv : bOK F o
      · by_cases qb : F (70 + o) = nI t
        · have e1 : entB C (nI t) o = entD C (nI t) o := by unfold entB; rw [if_pos (c46.trans q), if_pos (cb.trans qb), entn]
          have e2 : et99 F t o = (1, biaM F t o 0) := by unfold et99; rw [if_pos q, if_neg (fun z => z hh), if_pos qb, if_pos qv]
          rw [e1, e2]
          exact en_take h hi hn hh ho (tk_v h hi hr ho ht q qb qv)
        · obtain ⟨rr, ri⟩ := h.rv hi ho q
          have e1 : entB C (nI t) o = entD (revF C o) (nI t) o := by unfold entB; rw [if_pos (c46.trans q), if_neg (fun z => qb (cb.symm.trans z)), if_pos (cok.mpr qv), entn]
          have e2 : et99 F t o = entdM (revM F o) t o := by unfold et99 et149; rw [if_pos q, if_neg (fun z => z hh), if_neg qb, if_pos q, if_pos qv]
          have r62 : revM F o (62 + o) ≤ 0 := by rw [rv_out ho (by omega)]; exact hh
          have r0 : t < nt (revM F o 0) := by rw [rv_out ho (by omega)]; exact ht
          have r239 : revM F o 239 = F 239 := rv_out ho (by omega)
          have fin : ∀ R, ENok (revF C o) (revM F o) n r (entD (revF C o) (nI t) o) R → ¬ R.1 = -6 → ENok C F n r (entD (revF C o) (nI t) o) R := fun R z1 z2 => by
            rcases z1 with ⟨y, -⟩ | ⟨y1, y2, y3, y4⟩
            · exact absurd y z2
            · exact Or.inr ⟨y1, by rw [y2, r239], y3, y4⟩
          rw [e1, e2]
          rcases (rv_46 ho q).2 hh with z | ⟨z1, z2, z3, z4⟩
          · have e3 : entdM (revM F o) t o = (2, hldM (upd (upd (revM F o) (46 + o) 3) 231 (upd (revM F o) (46 + o) 3 231 + 1)) (nI t) o 1) := by
              unfold entdM en37
              rw [if_neg (lk_ne z (by decide)), if_pos z]
            rw [e3]
            exact fin _ (en_take rr ri hn r62 ho (tk_0 rr ri hr ho r0 z)) (show ¬ (2 : Int32) = -6 by decide)
          · have nv : ¬ revM F o (78 + o) = revM F o (222 + o % 3) := by
              rw [z3, z4, show F (78 + o) = F (222 + o % 3) from qv]
              intro y
              have y : F (222 + o % 3) + 0 = F (222 + o % 3) + 1 := by rw [Int32.add_zero]; exact y
              rw [Int32.add_right_inj] at y
              exact absurd y (by decide)
            have e3 : entdM (revM F o) t o = (1, biaM (revM F o) t o 1) := by
              unfold entdM bOK
              rw [if_pos z1, if_neg (fun y => y r62), if_neg nv]
            rw [e3]
            exact fin _ (en_take rr ri hn r62 ho (tk_b rr ri hr ho r0 (Or.inr z1) (fun _ y => nv y.2))) (show ¬ (1 : Int32) = -6 by decide)
      · have e1 : entB C (nI t) o = entD C (nI t) o := by
          unfold entB
          rw [if_pos (c46.trans q)]
          by_cases qb : C (70 + o) = nI t
          · rw [if_pos qb, entn]
          · rw [if_neg qb, if_neg (fun z => qv (cok.mp z)), entn]
        have e2 : et99 F t o = (1, biaM F t o 1) := by
          have : et149 F t o = (1, biaM F t o 1) := by unfold et149 entdM; rw [if_pos q, if_neg qv, if_pos q, if_neg (fun z => z hh), if_neg qv]
          unfold et99
          rw [if_pos q, if_neg (fun z => z hh), this]
          split <;> first | rfl | rw [if_neg qv]
        rw [e1, e2]
        exact en_take h hi hn hh ho (tk_b h hi hr ho ht (Or.inr q) (fun _ z => qv z.2))
    · exact absurd q l3
    · -- inflated
      have e1 : entB C (nI t) o = entD C (nI t) o := by unfold entB; rw [if_neg (lk_ne (F := C) (c46.trans q) (by decide)), entn]
      have e2 : et78 F t o = (3, hldM (upd (upd F 231 (F 231 + 1)) 238 (upd F 231 (F 231 + 1) 238 + (if upd F 231 (F 231 + 1) (110 + o) ≤ 0 then 0 else 1))) (nI t) o 1) := by
        unfold et78 et99 et149 entdM en37 en80
        rw [if_neg (lk_ne q (by decide)), if_neg (lk_ne q (by decide)), if_neg (lk_ne q (by decide)), if_neg (lk_ne q (by decide)), if_neg (lk_ne q (by decide)), if_pos q, if_neg (fun z => z hh)]
      rw [e1, e2]
      exact en_take h hi hn hh ho (tk_4 h hi hr ho ht q)
  · -- somebody holds it
    have ch : ¬ C (62 + o) ≤ 0 := by rw [c62]; exact hh
    have l01 : ¬ (F (46 + o) = 0 ∨ F (46 + o) = 1) := fun z => hh (by rw [hOo.2.2.1 z]; decide)
    have l234 : F (46 + o) = 2 ∨ F (46 + o) = 3 ∨ F (46 + o) = 4 := by
      rcases hlk with q | q | q | q | q
      · exact absurd (Or.inl q) l01
      · exact absurd (Or.inr q) l01
      · exact Or.inl q
      · exact Or.inr (Or.inl q)
      · exact Or.inr (Or.inr q)
    by_cases hot : F (54 + o) = nI t
    · -- by the thread itself
      have cot : C (54 + o) = nI t := by rw [c54]; exact hot
      have own4 : ∀ C1 F1, Rel C1 F1 → INV F1 n r → F1 (62 + o) = F (62 + o) → F1 (54 + o) = F (54 + o) → F1 239 = F 239 → ENok C F n r (entD C1 (nI t) o) (et63 F1 t o) := fun C1 F1 g1 g2 g3 g4 g5 => by
        have a62 : C1 (62 + o) = F1 (62 + o) := g1.e (by omega)
        have a54 : C1 (54 + o) = F1 (54 + o) := g1.e (by omega)
        have hh1 : ¬ F1 (62 + o) ≤ 0 := by rw [g3]; exact hh
        have e1 : entD C1 (nI t) o = (4, upd C1 (62 + o) (F1 (62 + o) + 1)) := by
          unfold entD
          rw [a62, a54, if_pos ⟨hh1, g4.trans hot⟩]
        rw [e1]
        refine Or.inr ⟨(show ¬ (4 : Int32) = -6 by decide), ?_, g1.up (by omega), (g2.ct hn ho hh1).mono (Nat.le_refl _) (Nat.le_succ _) (by omega) (by omega)⟩
        show (4 : Int32) = 4 + (if upd F1 (62 + o) (F1 (62 + o) + 1) 239 ≤ F 239 then 0 else 10)
        rw [upd_ne (by omega), g5, if_pos (Int32.le_refl _)]; decide
      by_cases qr : F (46 + o) = 3 ∧ ¬ F (62 + o) < F 5
      · have nm : enmP C (nI t) o := ⟨ch, by rw [c46, qr.1]; decide, Or.inr ⟨by rw [c46]; exact qr.1, by rw [c62, cv4]; exact qr.2⟩⟩
        by_cases qc : cifM F
        · have e1 : enC C t o = entD (inflF C o) (nI t) o := by
            unfold enC entB entC
            rw [if_pos nm, if_pos (cin.mpr qc), if_neg (lk_ne (F := C) (c46.trans qr.1) (by decide)), if_pos nm]
          have e2 : etrM F t o = et63 (infM F o) t o := by
            unfold etrM
            rw [if_pos hh, if_pos hot, if_pos qr.1, if_neg qr.2, if_pos qc]
          obtain ⟨a1, a2⟩ := h.inf hi ho qc
          rw [e1, e2]
          exact own4 _ _ a1 a2 (inf_out ho (by omega)) (inf_out ho (by omega)) (inf_out ho (by omega))
        · refine Or.inl ⟨?_, ?_⟩
          · unfold etrM
            rw [if_pos hh, if_pos hot, if_pos qr.1, if_neg qr.2, if_neg qc]
          · unfold enC
            rw [if_pos nm, if_neg (fun z => qc (cin.mp z))]
      · have nm : ¬ enmP C (nI t) o := fun z => by
          rcases z.2.2 with y | y
          · exact y cot
          · exact qr ⟨by rw [← c46]; exact y.1, by rw [← c62, ← cv4]; exact y.2⟩
        have e1 : enC C t o = entD C (nI t) o := by
          unfold enC entB entC
          rw [if_neg nm]
          by_cases q2 : F (46 + o) = 2
          · have cb : C (70 + o) = nI t := by rw [h.2.2.2.2.1 o ho q2, ← ((hOo.2.2.2.2.1 q2).2 hh).1]; exact hot
            rw [if_pos (c46.trans q2), if_pos cb, if_neg nm]
          · rw [if_neg (fun z => q2 (c46.symm.trans z)), if_neg nm]
        have e2 : etrM F t o = et63 F t o := by
          unfold etrM
          rw [if_pos hh, if_pos hot]
          by_cases q3 : F (46 + o) = 3
          · rw [if_pos q3, if_pos (Decidable.not_not.mp (fun z => qr ⟨q3, z⟩))]
          · rw [if_neg q3]
        rw [e1, e2]
        exact own4 _ _ h hi rfl rfl rfl
    · -- by another
      have cot : ¬ C (54 + o) = nI t := by rw [c54]; exact hot
      have e0 : etrM F t o = et99 F t o := by
        unfold etrM et78
        rw [if_pos hh, if_neg hot, if_neg (fun z => l01 (Or.inr z))]
      rw [e0]
      rcases l234 with q | q | q
      · -- biased
        obtain ⟨⟨u, u1, u2⟩, hvv⟩ := hOo.2.2.2.2.1 q
        have hv := hvv hh
        have qv : bOK F o := hv.2
        have nm : enmP C (nI t) o := ⟨ch, by rw [c46, q]; decide, Or.inl cot⟩
        have cb : ¬ C (70 + o) = nI t := by rw [h.2.2.2.2.1 o ho q, ← hv.1]; exact hot
        have cok : bOK C o := by unfold bOK; rw [h.e (q := 78 + o) (by omega), h.e (q := 222 + o % 3) (by omega)]; exact qv
        obtain ⟨rr, ri⟩ := h.rv hi ho q
        have l3 : revM F o (46 + o) = 3 := (rv_46 ho q).1 hh
        have ceq := cif_rv ho q hi h
        have e2 : et99 F t o = en150 (revM F o) t o := by
          unfold et99 et149 entdM en37 en80
          rw [if_pos q, if_pos hh, if_pos q, if_pos qv, if_neg (lk_ne l3 (by decide)), if_neg (lk_ne l3 (by decide)), if_neg (lk_ne l3 (by decide))]
        rw [e2]
        by_cases qc : cifM F
        · obtain ⟨a1, a2⟩ := rr.inf ri ho (ceq.mpr qc)
          have e1 : enC C t o = entD (inflF (revF C o) o) (nI t) o := by
            unfold enC entB entC
            rw [if_pos nm, if_pos (cin.mpr qc), if_pos (c46.trans q), if_neg cb, if_pos cok, if_pos nm]
          have e3 : en150 (revM F o) t o = enb (infM (revM F o) o) t o := by unfold en150; rw [if_pos l3, if_pos (ceq.mpr qc)]
          rw [e1, e3]
          have ev : ∀ k, (k < 46 ∨ (54 ≤ k ∧ k < 70) ∨ (235 ≤ k)) → infM (revM F o) o k = F k := fun k hk => by rw [inf_out ho (by omega), rv_out ho (by omega)]
          exact en_blk a1 a2 hn hr ho (inf_46 ho (ceq.mpr qc)) (by rw [ev 0 (by omega)]; exact ht) (by rw [ev _ (by obtain ⟨T, t1, t2, t3, t4⟩ := hi.T; omega)]; exact hrun) (ev _ (by omega)) (by rw [ev _ (by omega)]; exact hh) (by rw [ev _ (by omega)]; exact hot)
        · refine Or.inl ⟨?_, ?_⟩
          · unfold en150; rw [if_pos l3, if_neg (fun z => qc (ceq.mp z))]
          · unfold enC; rw [if_pos nm, if_neg (fun z => qc (cin.mp z))]
      · -- thin
        have nm : enmP C (nI t) o := ⟨ch, by rw [c46, q]; decide, Or.inl cot⟩
        have e2 : et99 F t o = en150 F t o := by
          unfold et99 et149 entdM en37 en80
          rw [if_neg (lk_ne q (by decide)), if_neg (lk_ne q (by decide)), if_neg (lk_ne q (by decide)), if_neg (lk_ne q (by decide)), if_neg (lk_ne q (by decide))]
        rw [e2]
        by_cases qc : cifM F
        · obtain ⟨a1, a2⟩ := h.inf hi ho qc
          have e1 : enC C t o = entD (inflF C o) (nI t) o := by
            unfold enC entB entC
            rw [if_pos nm, if_pos (cin.mpr qc), if_neg (lk_ne (F := C) (c46.trans q) (by decide)), if_pos nm]
          have e3 : en150 F t o = enb (infM F o) t o := by unfold en150; rw [if_pos q, if_pos qc]
          rw [e1, e3]
          exact en_blk a1 a2 hn hr ho (inf_46 ho qc) (by rw [inf_out ho (by omega)]; exact ht) (by rw [inf_out ho (by obtain ⟨T, t1, t2, t3, t4⟩ := hi.T; omega)]; exact hrun) (inf_out ho (by omega)) (by rw [inf_out ho (by omega)]; exact hh) (by rw [inf_out ho (by omega)]; exact hot)
        · refine Or.inl ⟨?_, ?_⟩
          · unfold en150; rw [if_pos q, if_neg qc]
          · unfold enC; rw [if_pos nm, if_neg (fun z => qc (cin.mp z))]
      · -- inflated
        have nm : ¬ enmP C (nI t) o := fun z => z.2.1 (by rw [c46]; exact q)
        have e1 : enC C t o = entD C (nI t) o := by
          unfold enC entB entC
          rw [if_neg nm, if_neg (lk_ne (F := C) (c46.trans q) (by decide)), if_neg nm]
        have e2 : et99 F t o = enb F t o := by
          unfold et99 et149 entdM en37 en80 en150
          rw [if_neg (lk_ne q (by decide)), if_neg (lk_ne q (by decide)), if_neg (lk_ne q (by decide)), if_neg (lk_ne q (by decide)), if_pos q, if_pos hh, if_neg (lk_ne q (by decide))]
        rw [e1, e2]
        exact en_blk h hi hn hr ho q ht hrun rfl hh hot
end EN
