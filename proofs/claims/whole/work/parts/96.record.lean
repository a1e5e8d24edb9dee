/-! the record of the reference against the class's journal -/
abbrev isE (x : Int32) : Prop := x < 0 ∧ ¬ x = -8 ∧ ¬ x = -9
def JR (J F : Nat → Int32) : Prop := J 400 = F 241 ∧ ∀ i, i < nt (F 241) → J i = F (242 + 4 * i) ∧ J (100 + i) = F (242 + 4 * i + 1) ∧ J (200 + i) = F (242 + 4 * i + 2) ∧ J (300 + i) = F (242 + 4 * i + 3)
/-- the part of the record -/
def Rk (F F' : Nat → Int32) : Prop := ∀ k, 241 ≤ k → k < 482 → F' k = F k
theorem Hi.k {F F' : Nat → Int32} (h : Hi F F') : Rk F F' := fun k hk _ => h k hk
theorem Rk.rf {F : Nat → Int32} : Rk F F := fun _ _ _ => rfl
theorem Rk.tr {F F1 F2 : Nat → Int32} (h : Rk F F1) (h' : Rk F1 F2) : Rk F F2 := fun k hk hk' => (h' k hk hk').trans (h k hk hk')
/-- an error leaves the record, what is none is recorded -/
abbrev isEr (x : Int32) : Prop := isE x ∧ inP x (-7) (-1)
def RCk (F : Nat → Int32) (R : Int32 × (Nat → Int32)) (op a b c : Int32) : Prop := (isEr R.1 ∧ Rk F R.2) ∨ (¬ isE R.1 ∧ ∃ F1, Rk F F1 ∧ Rk (rcdM F1 op a b c) R.2)
theorem RCk.er {F F1 : Nat → Int32} {x op a b c : Int32} (hx : isEr x) (h : Rk F F1) : RCk F (x, F1) op a b c := Or.inl ⟨hx, h⟩
theorem RCk.ok {F F1 : Nat → Int32} {x op a b c : Int32} (hx : ¬ isE x) (h : Rk F F1) : RCk F (x, rcdM F1 op a b c) op a b c := Or.inr ⟨hx, F1, h, Rk.rf⟩
theorem RCk.o2 {F F1 F2 : Nat → Int32} {x op a b c : Int32} (hx : ¬ isE x) (h : Rk F F1) (h2 : Rk (rcdM F1 op a b c) F2) : RCk F (x, F2) op a b c := Or.inr ⟨hx, F1, h, h2⟩
theorem nE {m : Nat} (h : m < 2 ^ 31) : ¬ isE (nI m) := fun z => absurd z.1 (nI_pos h)
theorem RCk.step {J F : Nat → Int32} {R : Int32 × (Nat → Int32)} {op a b c : Int32} (h : JR J F) (hj : OKr F) (hk : RCk F R op a b c) : JR (if isE R.1 then J else jadF J op a b c) R.2 := by
  obtain ⟨m, m1, m2⟩ := hj
  have em : nt (F 241) = m := by rw [m2]; exact ntn (by omega)
  obtain ⟨h1, h2⟩ := h
  rcases hk with ⟨⟨e, -⟩, g⟩ | ⟨e, F1, g1, g2⟩
  · rw [if_pos e]
    refine ⟨h1.trans (g 241 (by omega) (by omega)).symm, fun i hi => ?_⟩
    rw [g 241 (by omega) (by omega), em] at hi
    rw [g (242 + 4 * i) (by omega) (by omega), g (242 + 4 * i + 1) (by omega) (by omega), g (242 + 4 * i + 2) (by omega) (by omega), g (242 + 4 * i + 3) (by omega) (by omega)]
    exact h2 i (by omega)
  · rw [if_neg e]
    have f1 : F1 241 = nI m := (g1 241 (by omega) (by omega)).trans m2
    have j1 : J 400 = nI m := h1.trans m2
    have nf : nt (F1 241) = m := by rw [f1]; exact ntn (by omega)
    have nj : nt (J 400) = m := by rw [j1]; exact ntn (by omega)
    unfold jadF
    unfold rcdM at g2
    rw [nf] at g2
    rw [nj]
    by_cases q : (60 : Int32) ≤ F1 241
    · rw [if_pos q] at g2
      rw [f1] at q
      rw [if_pos (by rw [j1]; exact q)]
      have g := g1.tr g2
      refine ⟨h1.trans (g 241 (by omega) (by omega)).symm, fun i hi => ?_⟩
      rw [g 241 (by omega) (by omega), em] at hi
      rw [g (242 + 4 * i) (by omega) (by omega), g (242 + 4 * i + 1) (by omega) (by omega), g (242 + 4 * i + 2) (by omega) (by omega), g (242 + 4 * i + 3) (by omega) (by omega)]
      exact h2 i (by omega)
    · rw [if_neg q] at g2
      rw [f1] at q
      have m6 : m < 60 := Decidable.not_not.mp (fun z => q (nI_le (a := 60) (b := m) (by omega) (by omega)))
      rw [if_neg (by rw [j1]; exact q)]
      have e241 : R.2 241 = nI (m + 1) := by
        rw [g2 241 (by omega) (by omega), upd_eq, upd_ne (by omega), upd_ne (by omega), upd_ne (by omega), upd_ne (by omega), f1, nI_succ]
      refine ⟨by rw [upd_eq, j1, e241, nI_succ], fun i hi => ?_⟩
      rw [e241, ntn (by omega)] at hi
      rw [g2 (242 + 4 * i) (by omega) (by omega), g2 (242 + 4 * i + 1) (by omega) (by omega), g2 (242 + 4 * i + 2) (by omega) (by omega), g2 (242 + 4 * i + 3) (by omega) (by omega)]
      by_cases ei : i = m
      · subst ei
        refine ⟨?_, ?_, ?_, ?_⟩
        · rw [upd_ne (by omega), upd_ne (by omega), upd_ne (by omega), upd_ne (by omega), upd_eq, upd_ne (by omega), upd_ne (by omega), upd_ne (by omega), upd_ne (by omega), upd_eq]
        · rw [upd_ne (by omega), upd_ne (by omega), upd_ne (by omega), upd_eq, upd_ne (by omega), upd_ne (by omega), upd_ne (by omega), upd_eq]
        · rw [upd_ne (by omega), upd_ne (by omega), upd_eq, upd_ne (by omega), upd_ne (by omega), upd_eq]
        · rw [upd_ne (by omega), upd_eq, upd_ne (by omega), upd_eq]
      · obtain ⟨p1, p2, p3, p4⟩ := h2 i (by omega)
        have w : ∀ k, k < 400 → ¬ k = m → ¬ k = 100 + m → ¬ k = 200 + m → ¬ k = 300 + m → upd (upd (upd (upd (upd J m op) (100 + m) a) (200 + m) b) (300 + m) c) 400 (J 400 + 1) k = J k := fun k a1 a2 a3 a4 a5 => by
          rw [upd_ne (by omega), upd_ne a5, upd_ne a4, upd_ne a3, upd_ne a2]
        rw [w i (by omega) (by omega) (by omega) (by omega) (by omega), w (100 + i) (by omega) (by omega) (by omega) (by omega) (by omega), w (200 + i) (by omega) (by omega) (by omega) (by omega) (by omega), w (300 + i) (by omega) (by omega) (by omega) (by omega) (by omega)]
        have v : ∀ k, 242 ≤ k → k < 242 + 4 * m → upd (upd (upd (upd (upd F1 (242 + 4 * m) op) (242 + 4 * m + 1) a) (242 + 4 * m + 2) b) (242 + 4 * m + 3) c) 241 (upd (upd (upd (upd F1 (242 + 4 * m) op) (242 + 4 * m + 1) a) (242 + 4 * m + 2) b) (242 + 4 * m + 3) c 241 + 1) k = F k := fun k a1 a2 => by
          rw [upd_ne (by omega), upd_ne (by omega), upd_ne (by omega), upd_ne (by omega), upd_ne (by omega)]; exact g1 k (by omega) (by omega)
        rw [v (242 + 4 * i) (by omega) (by omega), v (242 + 4 * i + 1) (by omega) (by omega), v (242 + 4 * i + 2) (by omega) (by omega), v (242 + 4 * i + 3) (by omega) (by omega)]
        exact ⟨p1, p2, p3, p4⟩
theorem RCk.e {F : Nat → Int32} {R : Int32 × (Nat → Int32)} {op a b c : Int32} (h : RCk F R op a b c) : isE R.1 ↔ inP R.1 (-7) (-1) := by
  rcases h with ⟨e, -⟩ | ⟨e, -⟩
  · exact ⟨fun _ => e.2, fun _ => e.1⟩
  · refine ⟨fun z => absurd z e, fun z => ?_⟩
    refine ⟨Int32.lt_of_le_of_lt (Int32.not_lt.mp z.2) (by decide), fun w => ?_, fun w => ?_⟩
    · rw [w] at z; exact absurd z.1 (by decide)
    · rw [w] at z; exact absurd z.1 (by decide)
section RC
variable {C F : Nat → Int32} {n r : Nat}
theorem entd_v {t o : Nat} : (entdM F t o).1 = -6 ∨ (entdM F t o).1 = 0 ∨ (entdM F t o).1 = 1 ∨ (entdM F t o).1 = 2 ∨ (entdM F t o).1 = 3 ∨ (entdM F t o).1 = 4 := by
  unfold entdM en37 en80 en150 enb
  repeat' split
  all_goals simp
theorem etr_v {t o : Nat} : (etrM F t o).1 = -6 ∨ (etrM F t o).1 = 0 ∨ (etrM F t o).1 = 1 ∨ (etrM F t o).1 = 2 ∨ (etrM F t o).1 = 3 ∨ (etrM F t o).1 = 4 := by
  unfold etrM et63 et78 et99 et149
  repeat' split
  all_goals first | exact entd_v | simp
theorem rc_enter {x y : Int32} (hi : INV F n r) : RCk F (enterM F x y) 0 x y 0 := by
  have h := hi.2.1
  unfold enterM
  split
  · rename_i hx
    split
    · rename_i hy
      obtain ⟨t, ht, htT, rfl⟩ := isT_nat h.1 hx
      obtain ⟨o, ho, rfl⟩ := isOb_nat hy
      have e1 : nt (nI t) = t := ntn (by omega)
      have e2 : nt (nI o) = o := ntn (by omega)
      rw [e1, e2]
      split
      · have hhe : Hi (cpA 482 0 F) (etrM (cpA 482 0 F) t o).2 := Hi.rf.etr (h.of (fun q hq => cpA_lo 482 0 F q (by omega))).1 ht ho
        have key : Rk F (cpB 482 0 (etrM (cpA 482 0 F) t o).2) := fun k hk hk' => enB_back h.1 ht ho (by omega)
        have r1 : Rk F (etrM (cpA 482 0 F) t o).2 := fun k hk hk' => by rw [hhe k (by omega), cpA_lo 482 0 F k (by omega)]
        generalize cpA 482 0 F = A at key r1
        unfold en62
        generalize cpB 482 0 (etrM A t o).2 = B at key
        split
        · exact RCk.er ⟨⟨by decide, by decide, by decide⟩, by decide, by decide⟩ key
        · rename_i c
          refine RCk.ok ?_ r1
          rcases etr_v (F := A) (t := t) (o := o) with z | z | z | z | z | z
          · exact absurd z c
          all_goals (rw [z]; split <;> exact fun w => absurd w.1 (by decide))
      · exact RCk.er ⟨⟨by decide, by decide, by decide⟩, by decide, by decide⟩ Rk.rf
    · exact RCk.er ⟨⟨by decide, by decide, by decide⟩, by decide, by decide⟩ Rk.rf
  · exact RCk.er ⟨⟨by decide, by decide, by decide⟩, by decide, by decide⟩ Rk.rf
theorem fb_E {x y : Int32} (h : ¬ 0 ≤ fbM F x y) : isEr (fbM F x y) := by
  rcases fb_err (F := F) (x := x) (y := y) (fun z => h (fb_0.mpr z)) with z | z | z | z <;> rw [z] <;> exact ⟨⟨by decide, by decide, by decide⟩, by decide, by decide⟩
theorem rc_exit {x y : Int32} (hi : INV F n r) : RCk F (exitM F x y) 1 x y 0 := by
  have h := hi.2.1
  unfold exitM
  split
  · rename_i hf
    obtain ⟨t, o, ⟨ht, htT⟩, ho, rfl, rfl, -, c1, -⟩ := fb_ok h.1 hf
    have e2 : nt (nI o) = o := ntn (by omega)
    rw [e2]
    have h1 : TS (upd F (62 + o) (F (62 + o) - 1)) := h.up (by omega)
    have g1 : Hi F (upd F (62 + o) (F (62 + o) - 1)) := Hi.rf.up (by omega)
    have hn := hi.1.2.1
    have hE : ¬ isE (upd F (62 + o) (F (62 + o) - 1) (62 + o)) := by
      obtain ⟨k, k1, k2, -, -⟩ := (hi.2.2.2.2 o ho).2.1
      have k3 : 1 ≤ k := Decidable.not_not.mp (fun z => c1 (by rw [k2, show k = 0 by omega]; decide))
      rw [upd_eq, k2, sub1 k3]
      exact nE (by omega)
    split
    · exact RCk.ok hE (g1.rel h1 ho).k
    · exact RCk.ok hE g1.k
  · rename_i hf
    exact RCk.er (fb_E hf) Rk.rf
theorem rc_awE {F1 : Nat → Int32} {t o : Nat} {z : Int32} (hh : Hi F F1) (h : TS F1) (htT : t < nt (F1 0)) (ho : o < 8) (hrun : F1 (10 + t) = 0) (hc : ∃ c, c < 2 ^ 31 ∧ F1 (62 + o) = nI c) : RCk F (awE F1 t o z) 2 (nI t) (nI o) z := by
  have hT := h.1.thr.2
  have h2 := h.aw2 (z := z) htT ho hrun
  obtain ⟨c, c1, c2⟩ := hc
  unfold awE
  exact RCk.ok (by rw [c2]; exact nE c1) ((hh.aw2 h.1 (by omega) ho).rel h2 ho).k
theorem rc_await {x y z : Int32} (hi : INV F n r) : RCk F (awaitM F x y z) 2 x y z := by
  have h := hi.2.1
  have hn := hi.1.2.1
  have er : ∀ {v : Int32}, isEr v → RCk F (v, F) 2 x y z := fun hv => RCk.er hv Rk.rf
  unfold awaitM
  split
  · split
    · split
      · split
        · rename_i hf
          obtain ⟨t, o, ⟨ht, htT⟩, ho, rfl, rfl, hrun, -, -⟩ := fb_ok h.1 hf
          have e1 : nt (nI t) = t := ntn (by omega)
          have e2 : nt (nI o) = o := ntn (by omega)
          rw [e1, e2]
          obtain ⟨k, k1, k2, -, -⟩ := (hi.2.2.2.2 o ho).2.1
          split
          · exact RCk.ok (fun w => w.2.2 rfl) ((Hi.rf.up (by omega)).up (by omega)).k
          · split
            · exact rc_awE Hi.rf h htT ho hrun ⟨k, by omega, k2⟩
            · split
              · refine rc_awE (Hi.rf.infM ho) (h.infM ho) ?_ ho ?_ ⟨k, by omega, ?_⟩
                · rw [infM_lo ho (by omega)]; exact htT
                · rw [infM_lo ho (by omega)]; exact hrun
                · rw [inf_out ho (by omega)]; exact k2
              · exact RCk.er ⟨⟨by decide, by decide, by decide⟩, by decide, by decide⟩ (Hi.rf.infM ho).k
        · rename_i hf
          exact er (fb_E hf)
      · exact er ⟨⟨by decide, by decide, by decide⟩, by decide, by decide⟩
    · exact er ⟨⟨by decide, by decide, by decide⟩, by decide, by decide⟩
  · exact er ⟨⟨by decide, by decide, by decide⟩, by decide, by decide⟩
theorem rc_signal {x y : Int32} (hi : INV F n r) : RCk F (sigM F x y) 3 x y 0 := by
  have h := hi.2.1
  unfold sigM
  split
  · rename_i hf
    obtain ⟨t, o, ⟨ht, htT⟩, ho, rfl, rfl, -, -, -⟩ := fb_ok h.1 hf
    have e2 : nt (nI o) = o := ntn (by omega)
    rw [e2]
    split
    · split
      · exact RCk.ok (fun w => w.2.1 rfl) Rk.rf
      · rename_i c
        obtain ⟨u, huT, hu1, hu2, hu3, hu4⟩ := h.wd ho c
        have hT6 := h.1.thr.2
        have e3 : nt (nI u) = u := ntn (by omega)
        rw [hu1, e3]
        split
        · exact RCk.ok (nE (by omega)) (Hi.rf.ew h.1 (by omega) ho).k
        · exact RCk.ok (nE (by omega)) (Hi.rf.ew h.1 (by omega) ho).k
    · exact RCk.ok (fun w => w.2.1 rfl) Rk.rf
  · rename_i hf
    exact RCk.er (fb_E hf) Rk.rf
theorem saL_n {o : Nat} : ∀ (m : Nat) (F : Nat → Int32) (s : Nat), ∃ q, q ≤ s + m ∧ (saL o m F (nI s)).1 = nI q
  | 0, _, s => ⟨s, by omega, rfl⟩
  | m + 1, F, s => by
    unfold saL
    split
    · split
      · exact ⟨s, by omega, rfl⟩
      · rw [← nI_succ]
        obtain ⟨q, q1, q2⟩ := saL_n m (ewM F (nt (F (174 + 6 * o))) o 1 0) (s + 1)
        exact ⟨q, by omega, q2⟩
    · exact ⟨s, by omega, rfl⟩
theorem rc_signalAll {x y : Int32} (hi : INV F n r) : RCk F (sgaM F x y) 4 x y 0 := by
  have h := hi.2.1
  unfold sgaM
  split
  · rename_i hf
    obtain ⟨t, o, ⟨ht, htT⟩, ho, rfl, rfl, -, -, -⟩ := fb_ok h.1 hf
    have e1 : nt (nI t) = t := ntn (by omega)
    have e2 : nt (nI o) = o := ntn (by omega)
    rw [e1, e2]
    obtain ⟨g1, g2⟩ := saL_TS ho 6 F 0 h Hi.rf
    obtain ⟨q, q1, q2⟩ := saL_n (o := o) 6 F 0
    have q2 : (saL o 6 F 0).1 = nI q := q2
    generalize saL o 6 F 0 = p at g1 g2 q2
    exact RCk.ok (by rw [q2]; exact nE (by omega)) g2.k
  · rename_i hf
    exact RCk.er (fb_E hf) Rk.rf
theorem rc_interrupt {x : Int32} (hi : INV F n r) (hr : OKr F) : RCk F (intM F x) 5 x 0 0 := by
  have h := hi.2.1
  unfold intM
  split
  · rename_i hx
    obtain ⟨t, ht, htT, rfl⟩ := isT_nat h.1 hx
    have e1 : nt (nI t) = t := ntn (by omega)
    rw [e1]
    have r1 : RO F (rcdM F 5 (nI t) 0 0) := (RO.rf h hr).rcd
    have h0 : rcdM F 5 (nI t) 0 0 0 = F 0 := SamT.rcd 0 (by omega)
    split
    · exact RCk.er ⟨⟨by decide, by decide, by decide⟩, by decide, by decide⟩ Rk.rf
    · split
      · rename_i c
        obtain ⟨o, ho, hat, -⟩ := r1.1.wait (by rw [h0]; exact htT) c
        have e2 : nt (nI o) = o := ntn (by omega)
        rw [hat, e2]
        exact RCk.o2 (fun w => absurd w.1 (by decide)) Rk.rf (Hi.rf.ew r1.1.1 ht ho).k
      · exact RCk.o2 (fun w => absurd w.1 (by decide)) Rk.rf (Hi.rf.up (by omega)).k
  · exact RCk.er ⟨⟨by decide, by decide, by decide⟩, by decide, by decide⟩ Rk.rf
theorem dML_n {x : Int32} : ∀ (m i : Nat) (F : Nat → Int32) (s : Nat), ∃ q, q ≤ s + m ∧ (dML x m i F (nI s)).1 = nI q
  | 0, _, _, s => ⟨s, by omega, rfl⟩
  | m + 1, i, F, s => by
    unfold dML
    split
    · split
      · rw [← nI_succ]
        obtain ⟨q, q1, q2⟩ := dML_n (x := x) m (i + 1) (dMS F x i) (s + 1)
        exact ⟨q, by omega, q2⟩
      · obtain ⟨q, q1, q2⟩ := dML_n (x := x) m (i + 1) (dMS F x i) s
        exact ⟨q, by omega, q2⟩
    · obtain ⟨q, q1, q2⟩ := dML_n (x := x) m (i + 1) (dMS F x i) s
      exact ⟨q, by omega, q2⟩
theorem rc_dEnd {F1 : Nat → Int32} {t : Nat} (ht : t < 6) (hh : Hi F F1) (h : TS (dM2 F1 t)) : RCk F (dEnd F1 t) 6 (nI t) 0 0 := by
  obtain ⟨g1, g2⟩ := dML_TS (F0 := F) (x := nI t) 8 0 (dM2 F1 t) 0 rfl h (((hh.up (by omega)).up (by omega)).up (by omega))
  obtain ⟨q, q1, q2⟩ := dML_n (x := nI t) 8 0 (dM2 F1 t) 0
  have q2 : (dML (nI t) 8 0 (dM2 F1 t) 0).1 = nI q := q2
  unfold dEnd
  generalize dML (nI t) 8 0 (dM2 F1 t) 0 = p at g1 g2 q2
  exact RCk.ok (by rw [q2]; exact nE (by omega)) g2.k
theorem rc_die {x : Int32} (hi : INV F n r) : RCk F (dieM F x) 6 x 0 0 := by
  have h := hi.2.1
  unfold dieM
  split
  · rename_i hx
    obtain ⟨t, ht, htT, rfl⟩ := isT_nat h.1 hx
    have e1 : nt (nI t) = t := ntn (by omega)
    rw [e1]
    split
    · exact RCk.er ⟨⟨by decide, by decide, by decide⟩, by decide, by decide⟩ Rk.rf
    · split
      · rename_i c
        exact rc_dEnd ht Hi.rf (h.die2 htT c)
      · rename_i c
        obtain ⟨o, ho, hat⟩ := h.at_ htT c
        have e2 : nt (nI o) = o := ntn (by omega)
        rw [hat, e2]
        exact rc_dEnd ht ((Hi.rf.drop (h.1.q ho) (by omega) (by omega)).drop ((h.1.dropq ho).w ho) (by omega) (by omega)) (h.die1 htT ho hat)
  · exact RCk.er ⟨⟨by decide, by decide, by decide⟩, by decide, by decide⟩ Rk.rf
theorem stL_n {K : Nat → Int32} : ∀ (m i s : Nat), ∃ q, q ≤ s + m ∧ stL K m i (nI s) = nI q
  | 0, _, s => ⟨s, by omega, rfl⟩
  | m + 1, i, s => by
    unfold stL
    split
    · obtain ⟨q, q1, q2⟩ := stL_n (K := K) m (i + 1) s
      exact ⟨q, by omega, q2⟩
    · rw [← nI_succ]
      obtain ⟨q, q1, q2⟩ := stL_n (K := K) m (i + 1) (s + 1)
      exact ⟨q, by omega, q2⟩
theorem rc_start {x : Int32} (hi : INV F n r) : RCk F (strM F x) 7 x 0 0 := by
  have h := hi.2.1
  unfold strM
  split
  · rename_i hx
    obtain ⟨t, ht, htT, rfl⟩ := isT_nat h.1 hx
    have e1 : nt (nI t) = t := ntn (by omega)
    rw [e1]
    split
    · obtain ⟨q, q1, q2⟩ := stL_n (K := rcdM (upd F (10 + t) 0) 7 (nI t) 0 0) (nt (F 0)) 0 0
      have hT6 := h.1.thr.2
      have q2 : stL (rcdM (upd F (10 + t) 0) 7 (nI t) 0 0) (nt (F 0)) 0 0 = nI q := q2
      rw [q2]
      exact RCk.ok (nE (by omega)) (Hi.rf.up (by omega)).k
    · exact RCk.er ⟨⟨by decide, by decide, by decide⟩, by decide, by decide⟩ Rk.rf
  · exact RCk.er ⟨⟨by decide, by decide, by decide⟩, by decide, by decide⟩ Rk.rf
/-- recorded, whatever the answer -/
def RCh (F : Nat → Int32) (R : Int32 × (Nat → Int32)) (o : Nat) : Prop := R.1 = R.2 (94 + o) ∧ ∃ F1, Rk F F1 ∧ Rk (rcdM F1 8 (nI o) 0 0) R.2
theorem rc_h86 {F1 : Nat → Int32} {o : Nat} (ho : o < 8) (hh : Hi F F1) : RCh F (h86 F1 o) o := ⟨rfl, _, ((hh.up (by omega)).up (by omega)).k, Rk.rf⟩
theorem rc_h63 {F1 : Nat → Int32} {o : Nat} {l : Int32} (ho : o < 8) (hh : Hi F F1) : RCh F (h63 F1 o l) o := by
  unfold h63
  split
  · exact rc_h86 ho (hh.ub ho)
  · split
    · split
      · exact rc_h86 ho hh
      · exact rc_h86 ho (hh.ub ho)
    · exact rc_h86 ho hh
theorem rc_hash {y : Int32} (h : Rel C F) (hi : INV F n r) (hj : OKr F) (hn : n < 100000) (hr : r + 200 ≤ 100000000) : RCk F (hashM F y) 8 y 0 0 := by
  have ok := (op_hash (y := y) h hi hj hn hr).2.2
  by_cases hy : isOb y
  · obtain ⟨o, ho, rfl⟩ := isOb_nat hy
    have e2 : nt (nI o) = o := ntn (by omega)
    have key : (∃ F1, hashM F (nI o) = (-6, F1) ∧ Rk F F1) ∨ RCh F (hashM F (nI o)) o := by
      unfold hashM
      rw [if_pos hy, e2]
      split
      · split
        · split
          · exact Or.inr (rc_h63 ho (Hi.rf.infM ho))
          · exact Or.inl ⟨_, rfl, (Hi.rf.infM ho).k⟩
        · split
          · split
            · split
              · exact Or.inr (rc_h63 ho (Hi.rf.infM ho))
              · exact Or.inl ⟨_, rfl, (Hi.rf.infM ho).k⟩
            · exact Or.inr (rc_h63 ho Hi.rf)
          · exact Or.inr (rc_h63 ho Hi.rf)
      · exact Or.inr ⟨rfl, F, Rk.rf, Rk.rf⟩
    rcases key with ⟨F1, k1, k2⟩ | ⟨k1, k2⟩
    · rw [k1]; exact RCk.er ⟨⟨by decide, by decide, by decide⟩, by decide, by decide⟩ k2
    · refine Or.inr ⟨?_, k2⟩
      rw [k1]
      rcases (ok.2.2.2.2 o ho).2.2.2.2.2.2.2 with z | ⟨q, q1, q2⟩
      · rw [z]; exact fun w => w.2.1 rfl
      · rw [q2]; exact nE (by omega)
  · unfold hashM
    rw [if_neg hy]
    exact RCk.er ⟨⟨by decide, by decide, by decide⟩, by decide, by decide⟩ Rk.rf
theorem wkL_n : ∀ (m i : Nat) (K : Nat → Int32) (s : Nat), ∃ q, q ≤ s + m ∧ (wkL m i K (nI s)).1 = nI q
  | 0, _, _, s => ⟨s, by omega, rfl⟩
  | m + 1, i, K, s => by
    unfold wkL
    split
    · rw [← nI_succ]
      obtain ⟨q, q1, q2⟩ := wkL_n m (i + 1) (wkS K i).2 (s + 1)
      exact ⟨q, by omega, q2⟩
    · obtain ⟨q, q1, q2⟩ := wkL_n m (i + 1) (wkS K i).2 s
      exact ⟨q, by omega, q2⟩
theorem wkF_n (K : Nat → Int32) : ∃ p, p ≤ 8 ∧ (wkF K).1 = nI p := by
  unfold wkF
  generalize e : (8 : Nat) = m
  obtain ⟨p, p1, p2⟩ := wkL_n m 0 K 0
  exact ⟨p, by omega, p2⟩
theorem tick1_n (K : Nat → Int32) : ∃ p, p ≤ 8 ∧ (tick1 K).1 = nI p := by
  obtain ⟨p, p1, p2⟩ := wkF_n (eowF (upd K 9 (K 9 + 1)))
  refine ⟨p, p1, ?_⟩
  simp only [tick1]
  exact p2
theorem tkL_n : ∀ (m : Nat) (K : Nat → Int32) (s : Nat), ∃ q, q ≤ s + 8 * m ∧ (tkL m K (nI s)).1 = nI q
  | 0, _, s => ⟨s, by omega, rfl⟩
  | m + 1, K, s => by
    obtain ⟨p, p1, p2⟩ := tick1_n K
    obtain ⟨q, q1, q2⟩ := tkL_n m (tick1 K).2 (s + p)
    refine ⟨q, by omega, ?_⟩
    unfold tkL
    rw [p2, show nI s + nI p = nI (s + p) from nI_add s p]
    exact q2
theorem rc_tick {z : Int32} (h : Rel C F) (hi : INV F n r) (hj : OKr F) (hn : n < 100000) (hr : r + 200 ≤ 100000000) : RCk F (tickM F z) 9 z 0 0 := by
  have ok := (op_tick (z := z) h hi hj hn hr).1
  unfold tickM at ok ⊢
  by_cases q : inP z 1 20
  · rw [if_pos q] at ok ⊢
    refine RCk.ok ?_ (Hi.tkML (nt z) F hi.2.1 Hi.rf).k
    have ok : (tickF C z).1 = rcdM (tkML (nt z) F) 9 z 0 0 236 - F 236 := ok
    rw [← ok]
    unfold tickF
    rw [if_neg q.1, if_pos (Int32.not_lt.mp q.2)]
    obtain ⟨w, w1, w2⟩ := tkL_n (nt z) C 0
    have z0 : ¬ z < 0 := fun y => q.1 (Int32.lt_of_lt_of_le y (by decide))
    obtain ⟨p1, p2⟩ := in_nat (x := z) (b := 20) ⟨z0, q.2⟩ rfl (show (20 : Nat) < 1000 by decide)
    have p2 : nt z ≤ 20 := p2
    have w2 : (tkL (nt z) C 0).1 = nI w := w2
    rw [w2]
    exact nE (by omega)
  · rw [if_neg q]
    exact RCk.er ⟨⟨by decide, by decide, by decide⟩, by decide, by decide⟩ Rk.rf
theorem rc_all {op a b c : Int32} (h : Rel C F) (hi : INV F n r) (hj : OKr F) (hn : n < 100000) (hr : r + 200 ≤ 100000000) (ho : isOp op) (hc : ¬ op = 2 → c = 0) (hb : op = 5 ∨ op = 6 ∨ op = 7 ∨ op = 8 ∨ op = 9 → b = 0) : RCk F (opM F op a b c) op a b c := by
  rcases ho with rfl | rfl | rfl | rfl | rfl | rfl | rfl | rfl | rfl | rfl
  · rw [hc (by decide)]; exact rc_enter hi
  · rw [hc (by decide)]; exact rc_exit hi
  · exact rc_await hi
  · rw [hc (by decide)]; exact rc_signal hi
  · rw [hc (by decide)]; exact rc_signalAll hi
  · rw [hc (by decide), hb (by decide)]; exact rc_interrupt hi hj
  · rw [hc (by decide), hb (by decide)]; exact rc_die hi
  · rw [hc (by decide), hb (by decide)]; exact rc_start hi
  · rw [hc (by decide), hb (by decide)]; exact rc_hash h hi hj hn hr
  · rw [hc (by decide), hb (by decide)]; exact rc_tick h hi hj hn hr
end RC
