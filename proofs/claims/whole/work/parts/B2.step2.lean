/-! a call of both: the rest -/
section SU
variable {G : GG} {X : Nat} {E : Nat → va_E} {L : List Nat} {sz d : Nat} {S : Nat → Nat → Int32} {n r : Nat} {yc ym : MethodName} {ic im : MI} {as : List Value}
theorem cm12 {S1 : Nat → Nat → Int32} {F F' : Nat → Int32} {args : List Value} {res : Option Value} (e : S1 12 = F) (c : ∀ E0 : Nat → va_E, Ct G d ym im args (Mm G (X + 248) F E0 L sz) 0 0 res (Mm G (X + 248) F' E0 L sz)) : Ct G d ym im args (Xm G X S1 E L sz) 0 0 res (Xm G X (updS S1 12 F') E L sz) := by
  refine Ct.xm (i := 12) (by decide) ?_
  rw [e]
  exact c _
/-- the state behind a call that leaves the saved states -/
theorem SR.nx {S1 : Nat → Nat → Int32} {F' : Nat → Int32} (h : SR S n r) (hC : CR S1 F' (n + 100) (r + 20000)) (hT : TXk S1 F') (hA : OKa (S1 4)) (hS : ∀ k, (6 ≤ k ∧ k < 12) → S1 k = S k) (hF : ∀ k, (3000 ≤ k ∧ k < 3964) ∨ k = 9000 → F' k = S 12 k) : SR (updS S1 12 F') (n + 100) (r + 20000) := by
  have e : updS S1 12 F' 12 = F' := updS_eq
  refine h.keep ?_ ?_ ?_ (fun k hk => ?_) ?_ (by omega) (by omega)
  · rw [e]; exact hC.sm (updS_ne (by decide)) (updS_ne (by decide)) (fun _ _ => rfl)
  · rw [e]; exact hT.cg (updS_ne (by decide)) (fun _ _ => rfl)
  · rw [updS_ne (by decide)]; exact hA
  · rw [updS_ne (by omega)]; exact hS k hk
  · rw [e]; exact hF
theorem beg_hi {F : Nat → Int32} {z : Int32} {k : Nat} (hk : 482 ≤ k) : begM F z k = F k := by
  rw [begM_at, if_neg (by omega), if_neg (by omega), if_neg (by omega), if_neg (by omega), if_neg (by omega), if_neg (by omega)]
theorem st_reset {x : Int32} (hG : GOK G) (hX : XIn X L) (h : SR S n r) (hn : n + 100 ≤ 100000) (hr : r + 20000 ≤ 100000000) (hdp : 3 ≤ d) : Stq G X E L sz d S n r yX11_reset iX11_reset yX12_reset iX12_reset [.int x] := by
  have c1 := cX_reset (S := S) (E := E) (sz := sz) (x := x) hG hX hdp
  have c2 := fun E0 => cm_reset (Y := X + 248) (F := S 12) (E0 := E0) (sz := sz) (x := x) hG (hX.r (G := G) (i := 12) (by decide)) (show 1 ≤ d by omega)
  unfold rsS at c1
  unfold resetM at c2
  have hmo : CR S (S 12) (n + 100) (r + 20000) := h.1.mo (by omega) (by omega) hn hr
  by_cases q : inP x 2 6
  · rw [if_neg q.1, if_pos (Int32.not_lt.mp q.2)] at c1
    simp only [if_pos q] at c2
    have x0 : ¬ x < 0 := fun z => q.1 (Int32.lt_of_lt_of_le z (by decide))
    obtain ⟨p1, p2⟩ := in_nat (x := x) (b := 6) ⟨x0, q.2⟩ rfl (show (6 : Nat) < 1000 by decide)
    have p2 : nt x ≤ 6 := p2
    have p3 : 2 ≤ nt x := Decidable.not_not.mp (fun z => q.1 (by rw [p1]; exact nI_lt (a := nt x) (b := 2) (by omega) (by decide)))
    rw [h.1.1.e (q := 0) (by omega)] at c1
    dsimp only at c1
    refine ⟨_, _, _, c1, cm12 ?_ c2, h.nx ?_ ?_ ?_ ?_ ?_⟩
    · rw [updS_ne (by decide), updS_ne (by decide)]
    · unfold CR
      rw [updS_ne (show 1 ≠ 3 by decide), updS_eq, updS_eq]
      generalize nt x = T at *
      subst p1
      refine ⟨Rel.beg (fun k a b => h.1.1.e (by omega)) p2, INV.beg p3 p2 (by have := h.1.2.1.1.1; omega) hn hr, OKr.beg, JR.beg upd_eq, fun i hi => ?_⟩
      rw [show begM (S 12) (nI T) 241 = 0 from beg0 (by omega)] at hi
      exact absurd hi (Nat.not_lt_zero _)
    · exact h.2.1.cg (by rw [updS_ne (by decide), updS_ne (by decide)]) (fun k hk => beg_hi (by omega))
    · rw [updS_ne (by decide), updS_ne (by decide)]; exact h.2.2.1
    · intro k hk; rw [updS_ne (by omega), updS_ne (by omega)]
    · intro k hk; exact beg_hi (by omega)
  · have e : (if x < 2 then ((-3 : Int32), S) else if x ≤ 6 then (S 1 0, updS (updS S 1 (begF (S 1) x)) 3 (upd (S 3) 400 0)) else (-3, S)) = (-3, S) := by
      by_cases a : x < 2
      · rw [if_pos a]
      · rw [if_neg a, if_neg (fun b => q ⟨a, Int32.not_lt.mpr b⟩)]
    rw [e] at c1
    simp only [if_neg q] at c2
    exact ⟨_, _, _, c1, cm12 rfl c2, h.nx hmo h.2.1 h.2.2.1 (fun _ _ => rfl) (fun _ _ => rfl)⟩
theorem set_hi {F : Nat → Int32} {x v : Int32} {k : Nat} (hk : 9 ≤ k) : (setM F x v).2 k = F k := by
  unfold setM
  split
  · rename_i q
    obtain ⟨o, ho, rfl⟩ := isOb_nat (y := x) q.1
    have e : nt (nI o) = o := ntn (by omega)
    rw [e]
    split
    · split
      · exact upd_ne (by omega)
      · rfl
    · exact upd_ne (by omega)
  · rfl
theorem st_set {x v : Int32} {aL aG aF aP : Nat} (hZ : GSt G aL aG aF aP) (hG : GOK G) (hX : XIn X L) (h : SR S n r) (hn : n + 100 ≤ 100000) (hr : r + 20000 ≤ 100000000) (hdp : 3 ≤ d) : Stq G X E L sz d S n r yX11_set iX11_set yX12_set iX12_set [.int x, .int v] := by
  obtain ⟨g1, g2, g3⟩ := q_set (x := x) (v := v) h.1.1 h.1.2.1
  have c1 : Ct G d yX11_set iX11_set [.ref X, .int x, .int v] (Xm G X S E L sz) 0 0 (some (.int (setC (S 1) x v).1)) (Xm G X (updS S 1 (setC (S 1) x v).2) E L sz) := Ct.xm (i := 1) (by decide) (cx_set hG (hX.r (G := G) (i := 1) (by decide)) hX.o hZ hdp)
  rw [g1] at c1
  refine ⟨_, _, _, c1, cm12 (updS_ne (by decide)) (fun E0 => cm_set hG (hX.r (G := G) (i := 12) (by decide)) (by omega)), h.nx ?_ ?_ ?_ ?_ ?_⟩
  · refine CR.mo (n := n) (r := r) ?_ (by omega) (by omega) hn hr
    obtain ⟨-, -, ⟨m, m1, m2⟩, ⟨j1, j2⟩, j3⟩ := h.1
    have e241 : (setM (S 12) x v).2 241 = S 12 241 := set_hi (by omega)
    unfold CR
    rw [updS_eq, updS_ne (show 3 ≠ 1 by decide)]
    refine ⟨g2, g3, ⟨m, m1, e241.trans m2⟩, ⟨j1.trans e241.symm, fun i hi => ?_⟩, fun i hi => ?_⟩
    · rw [e241] at hi
      rw [set_hi (by omega), set_hi (by omega), set_hi (by omega), set_hi (by omega)]
      exact j2 i hi
    · rw [e241] at hi
      rw [set_hi (by omega)]
      exact j3 i hi
  · exact h.2.1.cg (updS_ne (by decide)) (fun k hk => set_hi (by omega))
  · rw [updS_ne (by decide)]; exact h.2.2.1
  · intro k hk; exact updS_ne (by omega)
  · intro k hk; exact set_hi (by omega)
theorem st_wipe (hG : GOK G) (hX : XIn X L) (h : SR S n r) (hn : n + 100 ≤ 100000) (hr : r + 20000 ≤ 100000000) : Stq G X E L sz d S n r yX11_wipe iX11_wipe yX12_wipe iX12_wipe [] := by
  obtain ⟨tx, Ln, t1, t2⟩ := h.2.1
  have c1 := cX_wipe (S := S) (E := E) (sz := sz) (d := d) hG hX
  have c2 := fun E0 => cm_wipe (Y := X + 248) (F := S 12) (E0 := E0) (sz := sz) (d := d) hG (hX.r (G := G) (i := 12) (by decide))
  rw [t1.1, ← t2.1] at c1
  refine ⟨_, _, _, c1, cm12 (updS_ne (by decide)) c2, h.nx ?_ ?_ ?_ ?_ ?_⟩
  · exact (h.1.mo (by omega) (by omega) hn hr).sm (updS_ne (by decide)) (updS_ne (by decide)) (fun k hk => upd_ne (by omega))
  · refine ⟨tx, 0, ?_, ?_⟩
    · rw [updS_eq]
      exact ⟨upd_eq, by omega, fun k hk => by rw [upd_ne (by omega)]; exact t1.2.2 k hk⟩
    · exact ⟨by show upd (S 12) 9001 0 9001 = nI 0; exact upd_eq, by omega, fun k hk => by show upd _ _ _ _ = _; rw [upd_ne (by omega)]; exact t2.2.2 k hk⟩
  · rw [updS_eq]
    obtain ⟨m, m1, m2⟩ := h.2.2.1
    exact ⟨m, m1, by rw [upd_ne (by decide)]; exact m2⟩
  · intro k hk; exact updS_ne (by omega)
  · intro k hk; exact upd_ne (by omega)
theorem st_fault {fm : Value} {fa : Nat → Nat} (hN : GNS G fm) (hf : GFm G fa) (hJ : GSJ G) (hG : GOK G) (hX : XIn X L) (h : SR S n r) (hn : n + 100 ≤ 100000) (hr : r + 20000 ≤ 100000000) (hdp : 7 ≤ d) : Stq G X E L sz d S n r yX11_fault iX11_fault yX12_fault iX12_fault [] := by
  obtain ⟨tx, Ln, t1, t2⟩ := h.2.1
  have c1 := cX_fault (S := S) (E := E) (sz := sz) hG hX hN hf t1 hdp
  have ef : (fiL tx Ln 200 0 0 (S 4)).1 = (faultM (S 12) tx Ln).1 := fi_ft 200 0 0 (S 4) (Nat.zero_le _)
  rw [ef] at c1
  obtain ⟨g1, -⟩ := fault_all t2
  refine ⟨_, _, _, c1, cm12 (updS_ne (by decide)) (fun E0 => cm_fault hG (hX.r (G := G) (i := 12) (by decide)) hJ t2 (by omega)), h.nx ?_ ?_ ?_ ?_ ?_⟩
  · exact (h.1.mo (by omega) (by omega) hn hr).sm (updS_ne (by decide)) (updS_ne (by decide)) (fun k hk => g1 k (by omega))
  · refine ⟨tx, Ln, by rw [updS_eq]; exact (fiL_ok 200 0 0 _).t t1, (g1 9001 (by omega)).trans t2.1, t2.2.1, fun k hk => (g1 (5000 + k) (by omega)).trans (t2.2.2 k hk)⟩
  · rw [updS_eq]; exact fiL_a 200 0 0 _ h.2.2.1
  · intro k hk; exact updS_ne (by omega)
  · intro k hk; exact g1 k (by omega)
theorem st_run {fm : Value} {fa : Nat → Nat} (hN : GNS G fm) (hf : GFm G fa) (hJ : GSJ G) (hG : GOK G) (hX : XIn X L) (h : SR S n r) (hn : n + 100 ≤ 100000) (hr : r + 20000 ≤ 100000000) (hdp : 7 ≤ d) : Stq G X E L sz d S n r yX11_run iX11_run yX12_run iX12_run [] := by
  obtain ⟨tx, Ln, t1, t2⟩ := h.2.1
  obtain ⟨S1, ⟨f1, f2, f3, f4, f5, f6⟩, c1⟩ := cX_run (E := E) (sz := sz) hG hX hN hf t1 h.2.2.1 t2 h.1 hn hr hdp
  refine ⟨_, _, _, c1, cm12 (f5 12 (by decide) (by decide) (by decide)) (fun E0 => cm_run hG (hX.r (G := G) (i := 12) (by decide)) hJ t2 h.1.2.1.2.1 h.1.2.2.1 hdp), h.nx f4 ⟨tx, Ln, f1, f3⟩ f2 ?_ ?_⟩
  · intro k hk; exact f5 k (by omega) (by omega) (by omega)
  · intro k hk; exact f6 k (by omega)
theorem st_replayCost {x v : Int32} {aL aG aF aP : Nat} (hZ : GSt G aL aG aF aP) (hG : GOK G) (hX : XIn X L) (h : SR S n r) (hn : n + 100 ≤ 100000) (hr : r + 20000 ≤ 100000000) (hdp : 8 ≤ d) : Stq G X E L sz d S n r yX11_replayCost iX11_replayCost yX12_replayCost iX12_replayCost [.int x, .int v] := by
  obtain ⟨S1, f1, c1⟩ := cX_replayCost (E := E) (sz := sz) (d := d) (x := x) (v := v) hZ hG hX h.1 (by omega)
  have g : ∀ k, (k < 482 ∨ 3000 ≤ k) → (rcostM (S 12) x v).2 k = S 12 k := fun k hk => by
    unfold rcostM
    split
    · rename_i q
      obtain ⟨j, hj, rfl⟩ := isOb_nat (y := x) q.1
      have e : nt (nI j) = j := ntn (by omega)
      rw [e]
      exact rp_same h.1.1.1 hj k hk
    · rfl
  refine ⟨_, _, _, c1, cm12 (f1 12 (by decide)) (fun E0 => cm_replayCost hG (hX.r (G := G) (i := 12) (by decide)) h.1.1.1 h.1.2.2.1 hdp), h.nx ?_ ?_ ?_ ?_ ?_⟩
  · exact (h.1.mo (by omega) (by omega) hn hr).sm (f1 1 (by decide)) (f1 3 (by decide)) (fun k hk => g k (by omega))
  · exact h.2.1.cg (f1 4 (by decide)) (fun k hk => g k (by omega))
  · rw [f1 4 (by decide)]; exact h.2.2.1
  · intro k hk; exact f1 k (by omega)
  · intro k hk; exact g k (by omega)
theorem bv_same {j : Nat} (hj : j < 8) : ∀ (m i : Nat) (F : Nat → Int32) (b c : Int32), TS F → ∀ k, (k < 482 ∨ 3000 ≤ k) → (bvL j m i F b c).2 k = F k
  | 0, _, _, _, _, _, _, _ => rfl
  | m + 1, i, F, b, c, h, k, hk => by
    unfold bvL
    split
    · rw [bv_same hj m _ _ _ _ (rp_TS h hj) k hk]; exact rp_same h.1 hj k hk
    · rw [bv_same hj m _ _ _ _ (rp_TS h hj) k hk]; exact rp_same h.1 hj k hk
theorem st_bestValue {x : Int32} {aL aG aF aP : Nat} (hZ : GSt G aL aG aF aP) (hG : GOK G) (hX : XIn X L) (h : SR S n r) (hn : n + 100 ≤ 100000) (hr : r + 20000 ≤ 100000000) (hdp : 8 ≤ d) : Stq G X E L sz d S n r yX11_bestValue iX11_bestValue yX12_bestValue iX12_bestValue [.int x] := by
  obtain ⟨S1, f1, c1⟩ := cX_bestValue (E := E) (sz := sz) (d := d) (x := x) hZ hG hX h.1 (by omega)
  have g : ∀ k, (k < 482 ∨ 3000 ≤ k) → (bestM (S 12) x).2 k = S 12 k := fun k hk => by
    unfold bestM
    split
    · rename_i q
      obtain ⟨j, hj, rfl⟩ := isOb_nat (y := x) q
      have e : nt (nI j) = j := ntn (by omega)
      rw [e, bv_same hj _ _ _ _ _ (rp_TS h.1.2.1.2.1 hj) k hk]
      exact rp_same h.1.1.1 hj k hk
    · rfl
  refine ⟨_, _, _, c1, cm12 (f1 12 (by decide)) (fun E0 => cm_bestValue hG (hX.r (G := G) (i := 12) (by decide)) h.1.1.1 h.1.2.2.1 hdp), h.nx ?_ ?_ ?_ ?_ ?_⟩
  · exact (h.1.mo (by omega) (by omega) hn hr).sm (f1 1 (by decide)) (f1 3 (by decide)) (fun k hk => g k (by omega))
  · exact h.2.1.cg (f1 4 (by decide)) (fun k hk => g k (by omega))
  · rw [f1 4 (by decide)]; exact h.2.2.1
  · intro k hk; exact f1 k (by omega)
  · intro k hk; exact g k (by omega)
end SU
