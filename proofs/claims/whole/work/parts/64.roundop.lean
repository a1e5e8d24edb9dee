/-! the reference's operations keep its places, and what lies above -/
theorem cpA_at : ∀ (n i : Nat) (F : Nat → Int32) (k : Nat), i + n ≤ 482 → cpA n i F k = if 1000 + i ≤ k ∧ k < 1000 + i + n then F (k - 1000) else F k
  | 0, i, F, k, _ => by rw [if_neg (by omega)]; rfl
  | n + 1, i, F, k, h => by
    show cpA n (i + 1) (upd F (1000 + i) (F i)) k = _
    rw [cpA_at n (i + 1) _ k (by omega)]
    by_cases e : k = 1000 + i
    · subst e
      rw [if_neg (by omega), if_pos (by omega), upd_eq, show 1000 + i - 1000 = i by omega]
    · by_cases h1 : 1000 + (i + 1) ≤ k ∧ k < 1000 + (i + 1) + n
      · rw [if_pos h1, if_pos (by omega), upd_ne (by omega)]
      · rw [if_neg h1, if_neg (by omega), upd_ne e]
theorem cpB_at : ∀ (n i : Nat) (F : Nat → Int32) (k : Nat), i + n ≤ 482 → cpB n i F k = if i ≤ k ∧ k < i + n then F (1000 + k) else F k
  | 0, i, F, k, _ => by rw [if_neg (by omega)]; rfl
  | n + 1, i, F, k, h => by
    show cpB n (i + 1) (upd F i (F (1000 + i))) k = _
    rw [cpB_at n (i + 1) _ k (by omega)]
    by_cases e : k = i
    · subst e
      rw [if_neg (by omega), if_pos (by omega), upd_eq]
    · by_cases h1 : i + 1 ≤ k ∧ k < i + 1 + n
      · rw [if_pos h1, if_pos (by omega), upd_ne (by omega)]
      · rw [if_neg h1, if_neg (by omega), upd_ne e]
theorem rcd_hi {F : Nat → Int32} {a b c e : Int32} {k : Nat} (hr : OKr F) (hk : k < 241 ∨ 482 ≤ k) : rcdM F a b c e k = F k := by
  obtain ⟨m, h1, h2⟩ := hr
  unfold rcdM
  split
  · rfl
  · rename_i h
    rw [h2] at h
    have hm : m < 60 := by
      rcases Nat.lt_or_ge m 60 with q | q
      · exact q
      · exact absurd (nI_le (a := 60) (b := m) q (by omega)) h
    rw [h2, ntn (by omega)]
    rw [upd_ne (by omega), upd_ne (by omega), upd_ne (by omega), upd_ne (by omega), upd_ne (by omega)]
/-- a step of the reference: places and record stand, all above w and its copy is the same -/
def RO (F F' : Nat → Int32) : Prop := TS F' ∧ OKr F' ∧ ∀ k, 1482 ≤ k → F' k = F k
theorem RO.hi {F F1 : Nat → Int32} (hr : OKr F) (hh : Hi F F1) (h : TS F1) : RO F F1 := ⟨h, hh.r hr, fun k hk => hh k (by omega)⟩
theorem RO.rcd {F F1 : Nat → Int32} {a b c e : Int32} (h : RO F F1) : RO F (rcdM F1 a b c e) := ⟨h.1.of SamT.rcd, h.2.1.rcd, fun k hk => (rcd_hi h.2.1 (by omega)).trans (h.2.2 k hk)⟩
theorem RO.rf {F : Nat → Int32} (h : TS F) (hr : OKr F) : RO F F := ⟨h, hr, fun _ _ => rfl⟩
theorem SamT.infM {F F1 : Nat → Int32} {o : Nat} (h : SamT F F1) (ho : o < 8) : SamT F (infM F1 o) := fun q hq => (infM_lo ho (by omega)).trans (h q hq)
theorem SamT.ub {F F1 : Nat → Int32} {o : Nat} (h : SamT F F1) (ho : o < 8) : SamT F (ubM F1 o) := (h.up (by omega)).up (by omega)
theorem SamT.ebML : ∀ (n k : Nat) (F F1 : Nat → Int32), SamT F F1 → SamT F (ebML n k F1)
  | 0, _, _, _, h => h
  | n + 1, k, F, F1, h => by
    show SamT F (if 8 ≤ k then F1 else _)
    split
    · exact h
    · refine SamT.ebML n (k + 3) F _ ?_
      show SamT F (if F1 (46 + k) = 1 then ubM F1 k else if F1 (46 + k) = 2 then ubM F1 k else F1)
      split
      · exact h.ub (by omega)
      · split
        · exact h.ub (by omega)
        · exact h
theorem SamT.beL {c : Nat} : ∀ (n k : Nat) (F F1 : Nat → Int32), SamT F F1 → SamT F (beL c n k F1)
  | 0, _, _, _, h => h
  | n + 1, k, F, F1, h => by
    show SamT F (if 8 ≤ k then F1 else _)
    split
    · exact h
    · refine SamT.beL n (k + 3) F _ ?_
      show SamT F (if F1 (46 + k) = 2 then (if ¬ F1 (62 + k) ≤ 0 then upd F1 (78 + k) (F1 (222 + c)) else F1) else F1)
      split
      · split
        · exact h.up (by omega)
        · exact h
      · exact h
theorem SamT.revM {F F1 : Nat → Int32} {o : Nat} (h : SamT F F1) (ho : o < 8) : SamT F (revM F1 o) := by
  have h3 : o % 3 < 3 := Nat.mod_lt _ (by decide)
  have h0 : SamT F (rev0 F1 o) := (h.up (by omega)).up (by omega)
  have hb : SamT F (begeF (rev0 F1 o) (o % 3)) := SamT.beL _ _ _ _ (h0.up (by omega))
  show SamT F (if _ then _ else _)
  split
  · split
    · split
      · exact hb.ub ho
      · exact hb
    · exact h0.ub ho
  · exact SamT.ebML _ _ _ _ (h0.up (by omega))
theorem SamT.bia {F F1 : Nat → Int32} {t o : Nat} {v : Int32} (h : SamT F F1) (ho : o < 8) : SamT F (biaM F1 t o v) := by
  unfold biaM bia4
  exact ((((h.up (by omega)).up (by omega)).up (by omega)).up (by omega)).tr (SamT.hld ho)
theorem TS.enb {F F1 : Nat → Int32} {t o : Nat} (h : TS F) (hs : SamT F F1) (ht : t < nt (F 0)) (ho : o < 8) (hrun : F (10 + t) = 0) : TS (enb F1 t o).2 := by
  have hT := h.1.thr.2
  have hs2 : SamT F (upd (upd F1 235 (F1 235 + 1)) (40 + t) 1) := (hs.up (by omega)).up (by omega)
  refine (h.of hs2).qu (by rw [hs2 0 (Or.inl rfl)]; exact ht) ho ?_
  rw [hs2 (10 + t) (by omega), hrun]
  exact ⟨by decide, by decide⟩
theorem TS.entd {F F1 : Nat → Int32} {t o : Nat} (h : TS F) (hs : SamT F F1) (ht : t < nt (F 0)) (ho : o < 8) (hrun : F (10 + t) = 0) : TS (entdM F1 t o).2 := by
  have a150 : TS (en150 F1 t o).2 := by
    unfold en150
    split
    · split
      · exact h.enb (hs.infM ho) ht ho hrun
      · exact h.of (hs.infM ho)
    · exact h.enb hs ht ho hrun
  have a80 : TS (en80 F1 t o).2 := by
    unfold en80
    split
    · split
      · exact a150
      · exact h.of (((hs.up (by omega)).up (by omega)).tr (SamT.hld ho))
    · exact a150
  have a37 : TS (en37 F1 t o).2 := by
    unfold en37
    split
    · exact h.of (((hs.up (by omega)).up (by omega)).tr (SamT.hld ho))
    · exact a80
  unfold entdM
  split
  · split
    · exact a37
    · split
      · exact a37
      · exact h.of (hs.bia ho)
  · exact a37
theorem TS.etr {F : Nat → Int32} {t o : Nat} (h : TS F) (ht : t < nt (F 0)) (ho : o < 8) (hrun : F (10 + t) = 0) : TS (etrM F t o).2 := by
  have a149 : TS (et149 F t o).2 := by
    unfold et149
    split
    · split
      · exact h.entd (SamT.rf.revM ho) ht ho hrun
      · exact h.entd SamT.rf ht ho hrun
    · exact h.entd SamT.rf ht ho hrun
  have a99 : TS (et99 F t o).2 := by
    unfold et99
    split
    · split
      · exact a149
      · split
        · split
          · exact h.of (SamT.rf.bia ho)
          · exact a149
        · exact a149
    · exact a149
  have a78 : TS (et78 F t o).2 := by
    unfold et78
    split
    · exact h.of (SamT.rf.bia ho)
    · exact a99
  unfold etrM
  split
  · split
    · split
      · split
        · exact h.up (by omega)
        · split
          · exact (h.infM ho).up (by omega)
          · exact h.infM ho
      · exact h.up (by omega)
    · exact a78
  · exact a78
theorem enB_back {F : Nat → Int32} {t o k : Nat} (hW : WI F) (ht : t < 6) (ho : o < 8) (hk : k < 482 ∨ 1482 ≤ k) : cpB 482 0 (etrM (cpA 482 0 F) t o).2 k = F k := by
  have hWA : WI (cpA 482 0 F) := hW.of (fun q hq => cpA_lo 482 0 F q (by omega))
  have hh : Hi (cpA 482 0 F) (etrM (cpA 482 0 F) t o).2 := Hi.rf.etr hWA ht ho
  rw [cpB_at 482 0 _ k (by omega)]
  by_cases h1 : 0 ≤ k ∧ k < 0 + 482
  · rw [if_pos h1, hh _ (by omega), cpA_at 482 0 F _ (by omega), if_pos (by omega), show 1000 + k - 1000 = k by omega]
  · rw [if_neg h1, hh _ (by omega), cpA_at 482 0 F _ (by omega), if_neg (by omega)]
theorem ro_enter {F : Nat → Int32} {x y : Int32} (h : TS F) (hr : OKr F) : RO F (enterM F x y).2 := by
  unfold enterM
  split
  · rename_i hx
    split
    · rename_i hy
      obtain ⟨t, ht, htT, rfl⟩ := isT_nat h.1 hx
      obtain ⟨o, ho, rfl⟩ := isOb_nat hy
      have e1 : nt (nI t) = t := ntn (by omega)
      have e2 : nt (nI o) = o := ntn (by omega)
      rw [e1, e2]
      split
      · rename_i hrun
        have hs : SamT F (cpA 482 0 F) := fun q hq => cpA_lo 482 0 F q (by omega)
        have hA : TS (cpA 482 0 F) := h.of hs
        have hrA : OKr (cpA 482 0 F) := by
          obtain ⟨m, g1, g2⟩ := hr
          exact ⟨m, g1, by rw [cpA_lo 482 0 F 241 (by omega)]; exact g2⟩
        have hTe : TS (etrM (cpA 482 0 F) t o).2 := hA.etr (by rw [hs 0 (Or.inl rfl)]; exact htT) ho (by rw [hs (10 + t) (by omega)]; exact hrun)
        have hhe : Hi (cpA 482 0 F) (etrM (cpA 482 0 F) t o).2 := Hi.rf.etr hA.1 ht ho
        have key : RO F (cpB 482 0 (etrM (cpA 482 0 F) t o).2) := by
          refine ⟨h.of (fun q hq => enB_back h.1 ht ho (by omega)), ?_, fun k hk => enB_back h.1 ht ho (by omega)⟩
          obtain ⟨m, g1, g2⟩ := hr
          exact ⟨m, g1, by rw [enB_back h.1 ht ho (by omega)]; exact g2⟩
        have r1 : RO F (etrM (cpA 482 0 F) t o).2 := ⟨hTe, hhe.r hrA, fun k hk => by rw [hhe k (by omega), cpA_at 482 0 F k (by omega), if_neg (by omega)]⟩
        generalize cpA 482 0 F = A at key r1
        unfold en62
        generalize cpB 482 0 (etrM A t o).2 = B at key
        split
        · exact key
        · exact r1.rcd
      · exact RO.rf h hr
    · exact RO.rf h hr
  · exact RO.rf h hr
theorem ro_exit {F : Nat → Int32} {x y : Int32} (h : TS F) (hr : OKr F) : RO F (exitM F x y).2 := by
  unfold exitM
  split
  · rename_i hf
    obtain ⟨t, o, ⟨ht, htT⟩, ho, rfl, rfl, -, -, -⟩ := fb_ok h.1 hf
    have e2 : nt (nI o) = o := ntn (by omega)
    rw [e2]
    have h1 : TS (upd F (62 + o) (F (62 + o) - 1)) := h.up (by omega)
    have g1 : Hi F (upd F (62 + o) (F (62 + o) - 1)) := Hi.rf.up (by omega)
    split
    · exact (RO.hi hr (g1.rel h1 ho) (h1.rel ho)).rcd
    · exact (RO.hi hr g1 h1).rcd
  · exact RO.rf h hr
theorem ro_awE {F F1 : Nat → Int32} {t o : Nat} {z : Int32} (hr : OKr F) (hh : Hi F F1) (h : TS F1) (htT : t < nt (F1 0)) (ho : o < 8) (hrun : F1 (10 + t) = 0) : RO F (awE F1 t o z).2 := by
  have hT := h.1.thr.2
  have h2 := h.aw2 (z := z) htT ho hrun
  exact (RO.hi hr ((hh.aw2 h.1 (by omega) ho).rel h2 ho) (h2.rel ho)).rcd
theorem ro_await {F : Nat → Int32} {x y z : Int32} (h : TS F) (hr : OKr F) : RO F (awaitM F x y z).2 := by
  unfold awaitM
  split
  · split
    · split
      · split
        · rename_i hf
          obtain ⟨t, o, ⟨ht, htT⟩, ho, rfl, rfl, hrun, -, -⟩ := fb_ok h.1 hf
          have e1 : nt (nI t) = t := ntn (by omega)
          have e2 : nt (nI o) = o := ntn (by omega)
          rw [e1, e2]
          split
          · exact (RO.hi hr ((Hi.rf.up (by omega)).up (by omega)) ((h.up (by omega)).up (by omega))).rcd
          · split
            · exact ro_awE hr Hi.rf h htT ho hrun
            · split
              · refine ro_awE hr (Hi.rf.infM ho) (h.infM ho) ?_ ho ?_
                · rw [infM_lo ho (by omega)]; exact htT
                · rw [infM_lo ho (by omega)]; exact hrun
              · exact RO.hi hr (Hi.rf.infM ho) (h.infM ho)
        · exact RO.rf h hr
      · exact RO.rf h hr
    · exact RO.rf h hr
  · exact RO.rf h hr
