theorem nI_one : nI 1 = 1 := by decide
theorem mnR_ok {F : Nat → Int32} {g : Int32} {D : Nat} {r : Option Int32} (ha : OKa F) (hD : D ≤ 2) : (∃ q, q ≤ 2 ∧ (mnR F g D r).1 = nI q) ∧ OKa (mnR F g D r).2 ∧ SmP F (mnR F g D r).2 := by
  obtain ⟨han, ha3⟩ := ha.nat
  unfold mnR
  split
  · exact ⟨⟨0, by omega, nI_0.symm⟩, ha, SmP.rf⟩
  · split
    · exact ⟨⟨0, by omega, nI_0.symm⟩, ha, SmP.rf⟩
    · split
      · rename_i h
        have hlt : nt (F 310) < 3 := by
          rcases Nat.lt_or_ge (nt (F 310)) 3 with q | q
          · exact q
          · exact absurd h (by rw [han]; exact nI_nlt (a := nt (F 310)) (b := 3) q (by omega))
        refine ⟨⟨D, hD, rfl⟩, ⟨nt (F 310) + 1, by omega, ?_⟩, (SmP.rf.up (by omega)).up (by omega)⟩
        rw [nI_succ, ← han]
        dsimp only
        exact upd_eq
      · exact ⟨⟨0, by omega, nI_0.symm⟩, ha, SmP.rf⟩
theorem msF_ok {tx : Nat → Int32} {Ln e p : Nat} {c : Int32} {F : Nat → Int32} (ha : OKa F) : (∃ q, q ≤ 2 ∧ (msF tx Ln e c p F).1 = nI q) ∧ OKa (msF tx Ln e c p F).2 ∧ SmP F (msF tx Ln e c p F).2 := by
  unfold msF mnW
  split
  · split
    · split
      · split
        · exact mnR_ok ha (by omega)
        · split
          · exact mnR_ok ha (by omega)
          · exact mnR_ok ha (by omega)
      · split
        · exact mnR_ok ha (by omega)
        · split
          · exact mnR_ok ha (by omega)
          · split
            · exact ⟨⟨1, by omega, nI_one.symm⟩, ha, SmP.rf⟩
            · exact ⟨⟨0, by omega, nI_0.symm⟩, ha, SmP.rf⟩
    · exact ⟨⟨0, by omega, nI_0.symm⟩, ha, SmP.rf⟩
  · exact ⟨⟨0, by omega, nI_0.symm⟩, ha, SmP.rf⟩
def hfL (tx : Nat → Int32) (Ln e : Nat) : List Nat → Nat → (Nat → Int32) → Option Nat × (Nat → Int32)
  | [], p, F => (some p, F)
  | c :: cs, p, F => if (msF tx Ln e (nI c) p F).1 = 0 then (none, (msF tx Ln e (nI c) p F).2) else hfL tx Ln e cs (p + nt (msF tx Ln e (nI c) p F).1) (msF tx Ln e (nI c) p F).2
theorem hfL_ok {tx : Nat → Int32} {Ln e : Nat} : ∀ (l : List Nat) (p : Nat) (F : Nat → Int32), OKa F → OKa (hfL tx Ln e l p F).2 ∧ SmP F (hfL tx Ln e l p F).2
  | [], p, F, ha => ⟨ha, SmP.rf⟩
  | c :: cs, p, F, ha => by
    obtain ⟨-, h2, h3⟩ := msF_ok (tx := tx) (Ln := Ln) (e := e) (p := p) (c := nI c) ha
    simp only [hfL]
    split
    · exact ⟨h2, h3⟩
    · obtain ⟨g1, g2⟩ := hfL_ok (tx := tx) (Ln := Ln) (e := e) cs (p + nt (msF tx Ln e (nI c) p F).1) _ h2
      exact ⟨g1, h3.tr g2⟩
theorem drop_at {l : List Nat} {i : Nat} (h : i < l.length) : l.drop i = l.getD i 0 :: l.drop (i + 1) := by
  rw [List.drop_eq_getElem_cons h, List.getD_eq_getElem?_getD, List.getElem?_eq_getElem h]; rfl
set_option maxHeartbeats 2000000 in
theorem lp_hf {G : GG} {P : Nat} {E0 : Nat → va_E} {L : List Nat} {sz d : Nat} {tx : Nat → Int32} {Ln e : Nat} {fm : Value} {f : Nat} {l : List Nat} (hG : GOK G) (hM : rIn (pR G P) L) (hN : GNS G fm) (hs : StrOK G f l) (he : e < 1000) (hdp : 4 ≤ d) (n : Nat) : ∀ (i p : Nat) (F : Nat → Int32), i + n = l.length → POK F tx Ln → OKa F → p + 2 * n ≤ 800 → WP G iX5_hasForm d 0 0 (some (.int (bI ((hfL tx Ln e (l.drop i) p F).1 = some e)))) (Rm (pR G P) (hfL tx Ln e (l.drop i) p F).2 E0 L sz) 11 [some (.ref P), some (.ref f), none, some (.int (nI e)), some (.int (nI p)), some (.int (nI i)), none] [] (Rm (pR G P) F E0 L sz) 0 0 := by
  have hl50 := hs.2.1.1
  induction n with
  | zero =>
    intro i p F hi ht ha hp
    rw [List.drop_of_length_le (by omega)]
    refine wp_ild5 dX5_hasForm_11 ?_
    refine wp_ald1 dX5_hasForm_13 ?_
    refine oi_0 dX5_hasForm_14 kX5_48 (js_length (d := d - 1) hN hs (by omega)) hs.1 (by omega) (Nat.le_of_ble_eq_true rfl) (Nat.le_refl _) (Nat.le_refl _) ?_
    refine wp_icmp_ge (tgt := 55) dX5_hasForm_17 (by decide) (fun c_17 => ?_) (fun c_17 => absurd (nI_le (a := l.length) (b := i) (by omega) (by omega)) c_17)
    refine wp_ild4 dX5_hasForm_55 ?_
    refine wp_ild3 dX5_hasForm_57 ?_
    refine wp_icmp_ne (tgt := 65) dX5_hasForm_58 (by decide) (fun c_58 => ?_) (fun c_58 => ?_)
    · have c_58 : ¬ p = e := fun q => c_58 (by rw [q])
      refine wp_iconst (v := 0) dX5_hasForm_65 (by decide) ?_
      exact wp_zret dX5_hasForm_66 rfl rfl (Nat.le_refl _) (Nat.le_refl _) (by first | with_reducible rfl | (simp only [hfL, ]; done) | (simp only [hfL, ]; simp [bI]; done) | (simp [bI, hfL, c_58]; done)) (by first | with_reducible rfl | (simp only [hfL, ]; done) | (simp only [hfL, ]; simp [bI]; done) | (simp [bI, hfL, c_58]; done))
    · have c_58 : p = e := nI_inj (by omega) (by omega) c_58
      refine wp_iconst (v := 1) dX5_hasForm_61 (by decide) ?_
      refine wp_goto (tgt := 66) dX5_hasForm_62 (by decide) ?_
      exact wp_zret dX5_hasForm_66 rfl rfl (Nat.le_refl _) (Nat.le_refl _) (by first | with_reducible rfl | (simp only [hfL, ]; done) | (simp only [hfL, ]; simp [bI]; done) | (simp [bI, hfL, c_58]; done)) (by first | with_reducible rfl | (simp only [hfL, ]; done) | (simp only [hfL, ]; simp [bI]; done) | (simp [bI, hfL, c_58]; done))
  | succ n ih =>
    intro i p F hi ht ha hp
    obtain ⟨⟨q, hq2, hq⟩, ha', hsm⟩ := msF_ok (tx := tx) (Ln := Ln) (e := e) (p := p) (c := nI (l.getD i 0)) ha
    rw [drop_at (show i < l.length by omega)]
    refine wp_ild5 dX5_hasForm_11 ?_
    refine wp_ald1 dX5_hasForm_13 ?_
    refine oi_0 dX5_hasForm_14 kX5_48 (js_length (d := d - 1) hN hs (by omega)) hs.1 (by omega) (Nat.le_of_ble_eq_true rfl) (Nat.le_refl _) (Nat.le_refl _) ?_
    refine wp_icmp_ge (tgt := 55) dX5_hasForm_17 (by decide) (fun c_17 => absurd c_17 (nI_ge (a := i) (b := l.length) (by omega) (by omega))) (fun c_17 => ?_)
    have hil : i < l.length := by omega
    refine wp_ald0 dX5_hasForm_20 ?_
    refine wp_ald1 dX5_hasForm_21 ?_
    refine wp_ild5 dX5_hasForm_22 ?_
    refine oi_1 dX5_hasForm_24 kX5_53 (js_charAt (d := d - 1) hN hs hil (by omega)) hs.1 (by omega) (Nat.le_of_ble_eq_true rfl) (Nat.le_refl _) (Nat.le_refl _) ?_
    refine wp_ild4 dX5_hasForm_27 ?_
    refine wp_ild3 dX5_hasForm_29 ?_
    refine pi_3 dX5_hasForm_30 kX5_57 (cp_matchSign (d := d - 1) hG hM ht ha (by omega) he (by omega)) hM rfl (by omega) (Nat.le_of_ble_eq_true rfl) (Nat.le_refl _) (Nat.le_refl _) ?_
    refine wp_ist6 dX5_hasForm_33 (by decide) rfl ?_
    refine wp_ild6 dX5_hasForm_35 ?_
    refine wp_if_ne (tgt := 42) dX5_hasForm_37 (by decide) (fun c_37 => ?_) (fun c_37 => ?_)
    · have hmw : (msF tx Ln e (nI (l.getD i 0)) p F).1 = nI (nt (msF tx Ln e (nI (l.getD i 0)) p F).1) := by rw [hq, ntn (by omega)]
      have hm2 : nt (msF tx Ln e (nI (l.getD i 0)) p F).1 ≤ 2 := by rw [hq, ntn (by omega)]; exact hq2
      refine wp_ild4 dX5_hasForm_42 ?_
      refine wp_ild6 dX5_hasForm_44 ?_
      refine wp_iaddN (a := p) (b := nt (msF tx Ln e (nI (l.getD i 0)) p F).1) rfl hmw dX5_hasForm_46 ?_
      refine wp_ist4 dX5_hasForm_47 (by decide) rfl ?_
      refine wp_inc5 dX5_hasForm_49 (by decide) rfl ?_
      refine wp_goto (tgt := 11) dX5_hasForm_52 (by decide) ?_
      simp only [hfL, if_neg c_37]
      exact WP.fg (by simp [lcle]) (ih (i + 1) (p + nt (msF tx Ln e (nI (l.getD i 0)) p F).1) _ (by omega) (hsm.t ht) ha' (by omega))
    · refine wp_iconst (v := 0) dX5_hasForm_40 (by decide) ?_
      exact wp_zret dX5_hasForm_41 rfl rfl (Nat.le_refl _) (Nat.le_refl _) (by first | with_reducible rfl | (simp only [hfL, if_pos c_37]; done) | (simp only [hfL, if_pos c_37]; simp [bI]; done) | (simp [bI, hfL, if_pos c_37]; done)) (by first | with_reducible rfl | (simp only [hfL, if_pos c_37]; done) | (simp only [hfL, if_pos c_37]; simp [bI]; done) | (simp [bI, hfL, if_pos c_37]; done))
set_option maxHeartbeats 2000000 in
theorem cp_hasForm {G : GG} {P : Nat} {F : Nat → Int32} {E0 : Nat → va_E} {L : List Nat} {sz d : Nat} {tx : Nat → Int32} {Ln a e : Nat} {fm : Value} {f : Nat} {l : List Nat} (hG : GOK G) (hM : rIn (pR G P) L) (hN : GNS G fm) (hs : StrOK G f l) (ht : POK F tx Ln) (hal : a ≤ 300) (he : e < 1000) (hdp : 4 ≤ d) : Ct G d yX5_hasForm iX5_hasForm [.ref P, .ref f, .int (nI a), .int (nI e)] (Rm (pR G P) (F) E0 L sz) 0 0 (some (.int (bI ((hfL tx Ln e l a (upd F 310 0)).1 = some e)))) (Rm (pR G P) ((hfL tx Ln e l a (upd F 310 0)).2) E0 L sz) := by
  refine Ct.of 3 (by decide) rfl (by decide) (Nat.le_of_ble_eq_true rfl) ?_
  show WP _ _ _ _ _ _ _ 0 [some (.ref P), some (.ref f), some (.int (nI a)), some (.int (nI e)), none, none, none] [] _ 0 0
  refine wp_ald0 dX5_hasForm_0 ?_
  refine wp_iconst (v := 0) dX5_hasForm_1 (by decide) ?_
  refine pp_argumentCount dX5_hasForm_2 pX5_45 hM ?_
  refine wp_ild2 dX5_hasForm_5 ?_
  refine wp_ist4 dX5_hasForm_6 (by decide) rfl ?_
  refine wp_iconst (v := 0) dX5_hasForm_8 (by decide) ?_
  refine wp_ist5 dX5_hasForm_9 (by decide) rfl ?_
  exact WP.fg (by simp [lcle, nI_0]) (lp_hf hG hM hN hs he hdp l.length 0 a (upd F 310 0) (by omega) ((SmP.rf.up (by omega)).t ht) ⟨0, by omega, upd_eq⟩ (by have := hs.2.1.1; omega))

def rdL (tx : Nat → Int32) (Ln a e : Nat) : Nat → Nat → (Nat → Int32) → Int32 × (Nat → Int32)
  | 0, _, F => (-1, F)
  | n + 1, j, F => if (hfL tx Ln e (fmS j) a (upd F 310 0)).1 = some e then (nI j, (hfL tx Ln e (fmS j) a (upd F 310 0)).2) else rdL tx Ln a e n (j + 1) (hfL tx Ln e (fmS j) a (upd F 310 0)).2
theorem rdL_ok {tx : Nat → Int32} {Ln a e : Nat} : ∀ (n j : Nat) (F : Nat → Int32), SmP F (rdL tx Ln a e n j F).2
  | 0, _, _ => SmP.rf
  | n + 1, j, F => by
    have h := ((SmP.rf (F := F)).up (k := 310) (x := 0) (by omega)).tr (hfL_ok (tx := tx) (Ln := Ln) (e := e) (fmS j) a (upd F 310 0) ⟨0, by omega, upd_eq⟩).2
    simp only [rdL]
    split
    · exact h
    · exact h.tr (rdL_ok n (j + 1) _)
theorem rdL_a {tx : Nat → Int32} {Ln a e : Nat} : ∀ (n j : Nat) (F : Nat → Int32), OKa F → OKa (rdL tx Ln a e n j F).2
  | 0, _, _, h => h
  | n + 1, j, F, h => by
    have h := (hfL_ok (tx := tx) (Ln := Ln) (e := e) (fmS j) a (upd F 310 0) ⟨0, by omega, upd_eq⟩).1
    simp only [rdL]
    split
    · exact h
    · exact rdL_a n (j + 1) _ h
set_option maxHeartbeats 2000000 in
theorem lp_ri {G : GG} {P : Nat} {E0 : Nat → va_E} {L : List Nat} {sz d : Nat} {tx : Nat → Int32} {Ln a e : Nat} {fm : Value} {fa : Nat → Nat} (hG : GOK G) (hM : rIn (pR G P) L) (hN : GNS G fm) (hf : GFm G fa) (hal : a ≤ 300) (he : e < 1000) (hdp : 5 ≤ d) (n : Nat) : ∀ (j : Nat) (F : Nat → Int32), j + n = 10 → POK F tx Ln → WP G iX5_readItem d 0 0 (some (.int (rdL tx Ln a e n j F).1)) (Rm (pR G P) (rdL tx Ln a e n j F).2 E0 L sz) 2 [some (.ref P), some (.int (nI a)), some (.int (nI e)), some (.int (nI j))] [] (Rm (pR G P) F E0 L sz) 0 0 := by
  induction n with
  | zero =>
    intro j F hj ht
    refine wp_ild3 dX5_readItem_2 ?_
    refine wp_bipush (v := 10) dX5_readItem_3 (by decide) ?_
    refine wp_icmp_ge (tgt := 29) dX5_readItem_5 (by decide) (fun c_5 => ?_) (fun c_5 => absurd (nI_le (a := 10) (b := j) (by omega) (by omega)) c_5)
    refine wp_iconst (v := (-1)) dX5_readItem_29 (by decide) ?_
    exact wp_iret dX5_readItem_30 rfl (Nat.le_refl _) (Nat.le_refl _) (by first | with_reducible rfl | (simp only [rdL]; done) | (simp only [rdL]; rfl) | rfl) (by first | with_reducible rfl | (simp only [rdL]; done) | (simp only [rdL]; rfl) | rfl)
  | succ n ih =>
    intro j F hj ht
    refine wp_ild3 dX5_readItem_2 ?_
    refine wp_bipush (v := 10) dX5_readItem_3 (by decide) ?_
    refine wp_icmp_ge (tgt := 29) dX5_readItem_5 (by decide) (fun c_5 => absurd c_5 (nI_ge (a := j) (b := 10) (by omega) (by omega))) (fun c_5 => ?_)
    have hj10 : j < 10 := by omega
    refine wp_ald0 dX5_readItem_8 ?_
    refine wp_ild3 dX5_readItem_9 ?_
    refine ci_1 dX5_readItem_10 kX5_37 (js_form (d := d - 1) hf hj10) (by omega) (Nat.le_of_ble_eq_true rfl) (Nat.le_refl _) (Nat.le_refl _) ?_
    refine wp_ild1 dX5_readItem_13 ?_
    refine wp_ild2 dX5_readItem_14 ?_
    refine pi_3 dX5_readItem_15 kX5_41 (cp_hasForm (d := d - 1) hG hM hN (hf j hj10).2 ht hal he (by omega)) hM rfl (by omega) (Nat.le_of_ble_eq_true rfl) (Nat.le_refl _) (Nat.le_refl _) ?_
    refine wp_ifB_eq (tgt := 23) dX5_readItem_18 (by decide) (fun c_18 => ?_) (fun c_18 => ?_)
    · refine wp_inc3 dX5_readItem_23 (by decide) rfl ?_
      refine wp_goto (tgt := 2) dX5_readItem_26 (by decide) ?_
      simp only [rdL, if_neg c_18]
      exact ih (j + 1) _ (by omega) ((((SmP.rf (F := F)).up (k := 310) (x := 0) (by omega)).tr (hfL_ok _ _ _ ⟨0, by omega, upd_eq⟩).2).t ht)
    · refine wp_ild3 dX5_readItem_21 ?_
      exact wp_iret dX5_readItem_22 rfl (Nat.le_refl _) (Nat.le_refl _) (by first | with_reducible rfl | (simp only [rdL, if_pos c_18]; done) | (simp only [rdL, if_pos c_18]; rfl) | rfl) (by first | with_reducible rfl | (simp only [rdL, if_pos c_18]; done) | (simp only [rdL, if_pos c_18]; rfl) | rfl)
set_option maxHeartbeats 2000000 in
theorem cp_readItem {G : GG} {P : Nat} {F : Nat → Int32} {E0 : Nat → va_E} {L : List Nat} {sz d : Nat} {tx : Nat → Int32} {Ln a e : Nat} {fm : Value} {fa : Nat → Nat} (hG : GOK G) (hM : rIn (pR G P) L) (hN : GNS G fm) (hf : GFm G fa) (ht : POK F tx Ln) (hal : a ≤ 300) (he : e < 1000) (hdp : 5 ≤ d) : Ct G d yX5_readItem iX5_readItem [.ref P, .int (nI a), .int (nI e)] (Rm (pR G P) (F) E0 L sz) 0 0 (some (.int (rdL tx Ln a e 10 0 F).1)) (Rm (pR G P) ((rdL tx Ln a e 10 0 F).2) E0 L sz) := by
  refine Ct.of 1 (by decide) rfl (by decide) (Nat.le_of_ble_eq_true rfl) ?_
  show WP _ _ _ _ _ _ _ 0 [some (.ref P), some (.int (nI a)), some (.int (nI e)), none] [] _ 0 0
  refine wp_iconst (v := 0) dX5_readItem_0 (by decide) ?_
  refine wp_ist3 dX5_readItem_1 (by decide) rfl ?_
  exact WP.fg (by simp [lcle, nI_0]) (lp_ri hG hM hN hf hal he hdp 10 0 F rfl ht)

def eoL (tx : Nat → Int32) (Ln : Nat) : Nat → Nat → Nat
  | 0, _ => Ln
  | n + 1, p => if tx p = 59 then p else eoL tx Ln n (p + 1)
theorem eoL_le {tx : Nat → Int32} {Ln : Nat} : ∀ (n p : Nat), p + n = Ln → p ≤ eoL tx Ln n p ∧ eoL tx Ln n p ≤ Ln
  | 0, p, h => by show p ≤ Ln ∧ Ln ≤ Ln; omega
  | n + 1, p, h => by
    simp only [eoL]
    split
    · exact ⟨Nat.le_refl _, by omega⟩
    · have := eoL_le (tx := tx) (Ln := Ln) n (p + 1) (by omega)
      omega
def eoI (tx : Nat → Int32) (Ln a : Nat) : Nat := eoL tx Ln (Ln - a) a
set_option maxHeartbeats 2000000 in
theorem lp_eo {G : GG} {P : Nat} {F : Nat → Int32} {E0 : Nat → va_E} {L : List Nat} {sz d : Nat} {tx : Nat → Int32} {Ln : Nat} (hG : GOK G) (hM : rIn (pR G P) L) (ht : POK F tx Ln) (n : Nat) : ∀ (p : Nat), p + n = Ln → WP G iX5_endOfItem d 0 0 (some (.int (nI (eoL tx Ln n p)))) (Rm (pR G P) F E0 L sz) 6 [some (.ref P), none, some (.int (nI p))] [] (Rm (pR G P) F E0 L sz) 0 0 := by
  have hL := ht.2.1
  induction n with
  | zero =>
    intro p hp
    refine wp_ild2 dX5_endOfItem_6 ?_
    refine wp_ald0 dX5_endOfItem_7 ?_
    refine gp_length dX5_endOfItem_8 fX5_18 hM ?_
    rw [ht.1]
    refine wp_icmp_ge (tgt := 33) dX5_endOfItem_11 (by decide) (fun c_11 => ?_) (fun c_11 => absurd (nI_le (a := Ln) (b := p) (by omega) (by omega)) c_11)
    refine wp_ald0 dX5_endOfItem_33 ?_
    refine gp_length dX5_endOfItem_34 fX5_18 hM ?_
    exact wp_iret dX5_endOfItem_37 rfl (Nat.le_refl _) (Nat.le_refl _) (by first | with_reducible rfl | (simp only [eoL, ht.1]; done) | (simp only [eoL, ht.1]; rfl) | rfl) (by first | with_reducible rfl | (simp only [eoL, ht.1]; done) | (simp only [eoL, ht.1]; rfl) | rfl)
  | succ n ih =>
    intro p hp
    refine wp_ild2 dX5_endOfItem_6 ?_
    refine wp_ald0 dX5_endOfItem_7 ?_
    refine gp_length dX5_endOfItem_8 fX5_18 hM ?_
    rw [ht.1]
    refine wp_icmp_ge (tgt := 33) dX5_endOfItem_11 (by decide) (fun c_11 => absurd c_11 (nI_ge (a := p) (b := Ln) (by omega) (by omega))) (fun c_11 => ?_)
    have hpL : p < Ln := by omega
    refine wp_ald0 dX5_endOfItem_14 ?_
    refine gp_codes dX5_endOfItem_15 fX5_11 hM ?_
    refine wp_ild2 dX5_endOfItem_18 ?_
    refine rp_codes (i' := p) dX5_endOfItem_19 hG hM rfl (by first | assumption | omega) ?_
    rw [ht.2.2 _ (by omega)]
    refine wp_bipush (v := 59) dX5_endOfItem_20 (by decide) ?_
    refine wp_icmp_ne (tgt := 27) dX5_endOfItem_22 (by decide) (fun c_22 => ?_) (fun c_22 => ?_)
    · refine wp_inc2 dX5_endOfItem_27 (by decide) rfl ?_
      refine wp_goto (tgt := 6) dX5_endOfItem_30 (by decide) ?_
      simp only [eoL, if_neg c_22]
      exact ih (p + 1) (by omega)
    · refine wp_ild2 dX5_endOfItem_25 ?_
      exact wp_iret dX5_endOfItem_26 rfl (Nat.le_refl _) (Nat.le_refl _) (by first | with_reducible rfl | (simp only [eoL, if_pos c_22]; done) | (simp only [eoL, if_pos c_22]; rfl) | rfl) (by first | with_reducible rfl | (simp only [eoL, if_pos c_22]; done) | (simp only [eoL, if_pos c_22]; rfl) | rfl)
set_option maxHeartbeats 2000000 in
theorem cp_endOfItem {G : GG} {P : Nat} {F : Nat → Int32} {E0 : Nat → va_E} {L : List Nat} {sz d : Nat} {tx : Nat → Int32} {Ln a : Nat} (hG : GOK G) (hM : rIn (pR G P) L) (ht : POK F tx Ln) (haL : a ≤ Ln) (hdp : 1 ≤ d) : Ct G d yX5_endOfItem iX5_endOfItem [.ref P, .int (nI a)] (Rm (pR G P) (F) E0 L sz) 0 0 (some (.int (nI (eoI tx Ln a)))) (Rm (pR G P) (F) E0 L sz) := by
  have hL := ht.2.1
  refine Ct.of 1 (by decide) rfl (by decide) (Nat.le_of_ble_eq_true rfl) ?_
  show WP _ _ _ _ _ _ _ 0 [some (.ref P), some (.int (nI a)), none] [] _ 0 0
  refine wp_ild1 dX5_endOfItem_0 ?_
  refine wp_iconst (v := 0) dX5_endOfItem_1 (by decide) ?_
  refine wp_max dX5_endOfItem_2 kX5_30 hdp (Nat.le_of_ble_eq_true rfl) (Nat.le_refl _) (Nat.le_refl _) ?_
  rw [if_neg (nI_pos (by omega))]
  refine wp_ist2 dX5_endOfItem_5 (by decide) rfl ?_
  exact WP.fg (by simp [lcle]) (lp_eo hG hM ht (Ln - a) a (by omega))

theorem eoI_le {tx : Nat → Int32} {Ln a : Nat} (h : a ≤ Ln) : a ≤ eoI tx Ln a ∧ eoI tx Ln a ≤ Ln := eoL_le _ _ (by omega)
def fiL (tx : Nat → Int32) (Ln : Nat) : Nat → Nat → Nat → (Nat → Int32) → Int32 × (Nat → Int32)
  | 0, _, _, F => (-8, F)
  | n + 1, a, it, F => if a < Ln then (if eoI tx Ln a < Ln then (if (rdL tx Ln a (eoI tx Ln a) 10 0 F).1 = -1 then (nI it, (rdL tx Ln a (eoI tx Ln a) 10 0 F).2) else fiL tx Ln n (eoI tx Ln a + 1) (it + 1) (rdL tx Ln a (eoI tx Ln a) 10 0 F).2) else (nI it, F)) else (-8, F)
theorem fiL_ok {tx : Nat → Int32} {Ln : Nat} : ∀ (n a it : Nat) (F : Nat → Int32), SmP F (fiL tx Ln n a it F).2
  | 0, _, _, _ => SmP.rf
  | n + 1, a, it, F => by
    simp only [fiL]
    split
    · split
      · split
        · exact rdL_ok _ _ _
        · exact (rdL_ok _ _ _).tr (fiL_ok n _ _ _)
      · exact SmP.rf
    · exact SmP.rf
set_option maxHeartbeats 2000000 in
theorem lp_fi {G : GG} {P : Nat} {E0 : Nat → va_E} {L : List Nat} {sz d : Nat} {tx : Nat → Int32} {Ln : Nat} {fm : Value} {fa : Nat → Nat} (hG : GOK G) (hM : rIn (pR G P) L) (hN : GNS G fm) (hf : GFm G fa) (hdp : 6 ≤ d) (n : Nat) : ∀ (a it : Nat) (F : Nat → Int32), Ln ≤ a + n → it ≤ a → a ≤ 300 → POK F tx Ln → WP G iX5_faultyItem d 0 0 (some (.int (fiL tx Ln n a it F).1)) (Rm (pR G P) (fiL tx Ln n a it F).2 E0 L sz) 4 [some (.ref P), some (.int (nI a)), some (.int (nI it)), none] [] (Rm (pR G P) F E0 L sz) 0 0 := by
  induction n with
  | zero =>
    intro a it F hn hit ha3 ht
    have hL := ht.2.1
    refine wp_ild2 dX5_faultyItem_4 ?_
    refine wp_sipush (v := 200) dX5_faultyItem_5 (by decide) ?_
    refine wp_icmp_ge (tgt := 55) dX5_faultyItem_8 (by decide) (fun c_8 => ?_) (fun c_8 => ?_)
    · have hge : ¬ a < Ln := fun q => absurd c_8 (nI_ge (a := it) (b := 200) (by omega) (by omega))
      refine wp_bipush (v := (-8)) dX5_faultyItem_55 (by decide) ?_
      exact wp_iret dX5_faultyItem_57 rfl (Nat.le_refl _) (Nat.le_refl _) (by first | with_reducible rfl | (simp only [fiL, if_neg hge]; done) | (simp only [fiL, if_neg hge]; rfl) | rfl) (by first | with_reducible rfl | (simp only [fiL, if_neg hge]; done) | (simp only [fiL, if_neg hge]; rfl) | rfl)
    · refine wp_ild1 dX5_faultyItem_11 ?_
      refine wp_ald0 dX5_faultyItem_12 ?_
      refine gp_length dX5_faultyItem_13 fX5_18 hM ?_
      refine wp_icmp_ge (tgt := 55) dX5_faultyItem_16 (by decide) (fun c_16 => ?_) (fun c_16 => ?_)
      · have c_16 : ¬ a < Ln := Nat.not_lt.mpr ((nI_leI (by omega) (by omega)).mp (ht.1 ▸ c_16))
        refine wp_bipush (v := (-8)) dX5_faultyItem_55 (by decide) ?_
        exact wp_iret dX5_faultyItem_57 rfl (Nat.le_refl _) (Nat.le_refl _) (by first | with_reducible rfl | (simp only [fiL, if_neg c_16]; done) | (simp only [fiL, if_neg c_16]; rfl) | rfl) (by first | with_reducible rfl | (simp only [fiL, if_neg c_16]; done) | (simp only [fiL, if_neg c_16]; rfl) | rfl)
      · have c_16 : a < Ln := Nat.lt_of_not_le (fun q => c_16 (by rw [ht.1]; exact (nI_leI (by omega) (by omega)).mpr q))
        exact absurd c_16 (by omega)
  | succ n ih =>
    intro a it F hn hit ha3 ht
    have hL := ht.2.1
    refine wp_ild2 dX5_faultyItem_4 ?_
    refine wp_sipush (v := 200) dX5_faultyItem_5 (by decide) ?_
    refine wp_icmp_ge (tgt := 55) dX5_faultyItem_8 (by decide) (fun c_8 => ?_) (fun c_8 => ?_)
    · have hge : ¬ a < Ln := fun q => absurd c_8 (nI_ge (a := it) (b := 200) (by omega) (by omega))
      refine wp_bipush (v := (-8)) dX5_faultyItem_55 (by decide) ?_
      exact wp_iret dX5_faultyItem_57 rfl (Nat.le_refl _) (Nat.le_refl _) (by first | with_reducible rfl | (simp only [fiL, if_neg hge]; done) | (simp only [fiL, if_neg hge]; rfl) | rfl) (by first | with_reducible rfl | (simp only [fiL, if_neg hge]; done) | (simp only [fiL, if_neg hge]; rfl) | rfl)
    · refine wp_ild1 dX5_faultyItem_11 ?_
      refine wp_ald0 dX5_faultyItem_12 ?_
      refine gp_length dX5_faultyItem_13 fX5_18 hM ?_
      refine wp_icmp_ge (tgt := 55) dX5_faultyItem_16 (by decide) (fun c_16 => ?_) (fun c_16 => ?_)
      · have c_16 : ¬ a < Ln := Nat.not_lt.mpr ((nI_leI (by omega) (by omega)).mp (ht.1 ▸ c_16))
        refine wp_bipush (v := (-8)) dX5_faultyItem_55 (by decide) ?_
        exact wp_iret dX5_faultyItem_57 rfl (Nat.le_refl _) (Nat.le_refl _) (by first | with_reducible rfl | (simp only [fiL, if_neg c_16]; done) | (simp only [fiL, if_neg c_16]; rfl) | rfl) (by first | with_reducible rfl | (simp only [fiL, if_neg c_16]; done) | (simp only [fiL, if_neg c_16]; rfl) | rfl)
      · have c_16 : a < Ln := Nat.lt_of_not_le (fun q => c_16 (by rw [ht.1]; exact (nI_leI (by omega) (by omega)).mpr q))
        refine wp_ald0 dX5_faultyItem_19 ?_
        refine wp_ild1 dX5_faultyItem_20 ?_
        refine pi_1 dX5_faultyItem_21 kX5_22 (cp_endOfItem (d := d - 1) hG hM ht (by omega) (by omega)) hM rfl (by omega) (Nat.le_of_ble_eq_true rfl) (Nat.le_refl _) (Nat.le_refl _) ?_
        have heo := eoI_le (tx := tx) (Ln := Ln) (a := a) (by omega)
        refine wp_ist3 dX5_faultyItem_24 (by decide) rfl ?_
        refine wp_ild3 dX5_faultyItem_25 ?_
        refine wp_ald0 dX5_faultyItem_26 ?_
        refine gp_length dX5_faultyItem_27 fX5_18 hM ?_
        refine wp_icmp_ge (tgt := 43) dX5_faultyItem_30 (by decide) (fun c_30 => ?_) (fun c_30 => ?_)
        · have c_30 : ¬ eoI tx Ln a < Ln := Nat.not_lt.mpr ((nI_leI (by omega) (by omega)).mp (ht.1 ▸ c_30))
          refine wp_ild2 dX5_faultyItem_43 ?_
          exact wp_iret dX5_faultyItem_44 rfl (Nat.le_refl _) (Nat.le_refl _) (by first | with_reducible rfl | (simp only [fiL, if_pos c_16, if_neg c_30]; done) | (simp only [fiL, if_pos c_16, if_neg c_30]; rfl) | rfl) (by first | with_reducible rfl | (simp only [fiL, if_pos c_16, if_neg c_30]; done) | (simp only [fiL, if_pos c_16, if_neg c_30]; rfl) | rfl)
        · have c_30 : eoI tx Ln a < Ln := Nat.lt_of_not_le (fun q => c_30 (by rw [ht.1]; exact (nI_leI (by omega) (by omega)).mpr q))
          refine wp_ald0 dX5_faultyItem_33 ?_
          refine wp_ild1 dX5_faultyItem_34 ?_
          refine wp_ild3 dX5_faultyItem_35 ?_
          refine pi_2 dX5_faultyItem_36 kX5_26 (cp_readItem (d := d - 1) hG hM hN hf ht (by omega) (by omega) (by omega)) hM rfl (by omega) (Nat.le_of_ble_eq_true rfl) (Nat.le_refl _) (Nat.le_refl _) ?_
          refine wp_iconst (v := (-1)) dX5_faultyItem_39 (by decide) ?_
          refine wp_icmp_ne (tgt := 45) dX5_faultyItem_40 (by decide) (fun c_40 => ?_) (fun c_40 => ?_)
          · refine wp_ild3 dX5_faultyItem_45 ?_
            refine wp_iconst (v := 1) dX5_faultyItem_46 (by decide) ?_
            refine wp_iaddN (a := eoI tx Ln a) (b := 1) rfl (by decide) dX5_faultyItem_47 ?_
            refine wp_ist1 dX5_faultyItem_48 (by decide) rfl ?_
            refine wp_inc2 dX5_faultyItem_49 (by decide) rfl ?_
            refine wp_goto (tgt := 4) dX5_faultyItem_52 (by decide) ?_
            simp only [fiL, if_pos c_16, if_pos c_30, if_neg c_40]
            exact WP.fg (by simp [lcle]) (ih (eoI tx Ln a + 1) (it + 1) _ (by omega) (by omega) (by omega) ((rdL_ok _ _ _).t ht))
          · refine wp_ild2 dX5_faultyItem_43 ?_
            exact wp_iret dX5_faultyItem_44 rfl (Nat.le_refl _) (Nat.le_refl _) (by first | with_reducible rfl | (simp only [fiL, if_pos c_16, if_pos c_30, if_pos c_40]; done) | (simp only [fiL, if_pos c_16, if_pos c_30, if_pos c_40]; rfl) | rfl) (by first | with_reducible rfl | (simp only [fiL, if_pos c_16, if_pos c_30, if_pos c_40]; done) | (simp only [fiL, if_pos c_16, if_pos c_30, if_pos c_40]; rfl) | rfl)
set_option maxHeartbeats 2000000 in
theorem cp_faultyItem {G : GG} {P : Nat} {F : Nat → Int32} {E0 : Nat → va_E} {L : List Nat} {sz d : Nat} {tx : Nat → Int32} {Ln : Nat} {fm : Value} {fa : Nat → Nat} (hG : GOK G) (hM : rIn (pR G P) L) (hN : GNS G fm) (hf : GFm G fa) (ht : POK F tx Ln) (hdp : 6 ≤ d) : Ct G d yX5_faultyItem iX5_faultyItem [.ref P] (Rm (pR G P) (F) E0 L sz) 0 0 (some (.int (fiL tx Ln 200 0 0 F).1)) (Rm (pR G P) ((fiL tx Ln 200 0 0 F).2) E0 L sz) := by
  have hL := ht.2.1
  refine Ct.of 3 (by decide) rfl (by decide) (Nat.le_of_ble_eq_true rfl) ?_
  show WP _ _ _ _ _ _ _ 0 [some (.ref P), none, none, none] [] _ 0 0
  refine wp_iconst (v := 0) dX5_faultyItem_0 (by decide) ?_
  refine wp_ist1 dX5_faultyItem_1 (by decide) rfl ?_
  refine wp_iconst (v := 0) dX5_faultyItem_2 (by decide) ?_
  refine wp_ist2 dX5_faultyItem_3 (by decide) rfl ?_
  exact WP.fg (by simp [lcle, nI_0]) (lp_fi hG hM hN hf hdp 200 0 0 F (by omega) (by omega) (by omega) ht)

def argF (F : Nat → Int32) (x : Int32) : Int32 := if F 310 ≤ x then 0 else F (300 + nt x)
def apdF (F : Nat → Int32) (x : Int32) : Nat → Int32 := if F 311 < 200 then upd (upd F (nt (F 311)) x) 311 (F 311 + 1) else F
set_option maxHeartbeats 2000000 in
theorem cp_argument {G : GG} {P : Nat} {F : Nat → Int32} {E0 : Nat → va_E} {L : List Nat} {sz d : Nat} {i : Nat} (hG : GOK G) (hM : rIn (pR G P) L) (ha : OKa F) (hi : i < 3) : Ct G d yX5_argument iX5_argument [.ref P, .int (nI i)] (Rm (pR G P) (F) E0 L sz) 0 0 (some (.int (argF F (nI i)))) (Rm (pR G P) (F) E0 L sz) := by
  refine Ct.of 0 (by decide) rfl (by decide) (Nat.le_of_ble_eq_true rfl) ?_
  show WP _ _ _ _ _ _ _ 0 [some (.ref P), some (.int (nI i))] [] _ 0 0
  refine wp_ild1 dX5_argument_0 ?_
  refine wp_if_lt (tgt := 21) dX5_argument_1 (by decide) (fun h => absurd h (nI_pos (by omega))) (fun _ => ?_)
  refine wp_ild1 dX5_argument_4 ?_
  refine wp_ald0 dX5_argument_5 ?_
  refine gp_argumentCount dX5_argument_6 fX5_45 hM ?_
  refine wp_icmp_ge (tgt := 21) dX5_argument_9 (by decide) (fun c_9 => ?_) (fun c_9 => ?_)
  · refine wp_iconst (v := 0) dX5_argument_21 (by decide) ?_
    exact wp_iret dX5_argument_22 rfl (Nat.le_refl _) (Nat.le_refl _) (by first | with_reducible rfl | (simp only [argF, if_pos c_9]; done) | (simp only [argF, if_pos c_9, ntn (show i < 2 ^ 31 by omega)]; done) | rfl) (by first | with_reducible rfl | (simp only [argF, if_pos c_9]; done) | (simp only [argF, if_pos c_9, ntn (show i < 2 ^ 31 by omega)]; done) | rfl)
  · refine wp_ald0 dX5_argument_12 ?_
    refine gp_arguments dX5_argument_13 fX5_15 hM ?_
    refine wp_ild1 dX5_argument_16 ?_
    refine rp_arguments (i' := i) dX5_argument_17 hG hM rfl (by first | assumption | omega) ?_
    refine wp_goto (tgt := 22) dX5_argument_18 (by decide) ?_
    exact wp_iret dX5_argument_22 rfl (Nat.le_refl _) (Nat.le_refl _) (by first | with_reducible rfl | (simp only [argF, if_neg c_9]; done) | (simp only [argF, if_neg c_9, ntn (show i < 2 ^ 31 by omega)]; done) | rfl) (by first | with_reducible rfl | (simp only [argF, if_neg c_9]; done) | (simp only [argF, if_neg c_9, ntn (show i < 2 ^ 31 by omega)]; done) | rfl)

set_option maxHeartbeats 2000000 in
theorem cp_append {G : GG} {P : Nat} {F : Nat → Int32} {E0 : Nat → va_E} {L : List Nat} {sz d : Nat} {tx : Nat → Int32} {Ln : Nat} {x : Int32} (hG : GOK G) (hM : rIn (pR G P) L) (ht : POK F tx Ln) : Ct G d yX5_append iX5_append [.ref P, .int x] (Rm (pR G P) (F) E0 L sz) 0 0 (some (.int (bI (F 311 < 200)))) (Rm (pR G P) (apdF F x) E0 L sz) := by
  have hL := ht.2.1
  have h311 : F 311 = nI (nt (F 311)) := by rw [ht.1, ntn (by omega)]
  refine Ct.of 0 (by decide) rfl (by decide) (Nat.le_of_ble_eq_true rfl) ?_
  show WP _ _ _ _ _ _ _ 0 [some (.ref P), some (.int x)] [] _ 0 0
  refine wp_ald0 dX5_append_0 ?_
  refine gp_length dX5_append_1 fX5_18 hM ?_
  refine wp_sipush (v := 200) dX5_append_4 (by decide) ?_
  refine wp_icmp_lt (tgt := 12) dX5_append_7 (by decide) (fun c_7 => ?_) (fun c_7 => ?_)
  · have hlt : nt (F 311) < 200 := by
      rw [ht.1, ntn (by omega)]
      exact Nat.lt_of_not_le (fun q => absurd c_7 (by rw [ht.1]; exact nI_nlt (a := Ln) (b := 200) q (by omega)))
    refine wp_ald0 dX5_append_12 ?_
    refine gp_codes dX5_append_13 fX5_11 hM ?_
    refine wp_ald0 dX5_append_16 ?_
    refine gp_length dX5_append_17 fX5_18 hM ?_
    refine wp_ild1 dX5_append_20 ?_
    refine sp_codes (i' := nt (F 311)) dX5_append_21 hG hM h311 (by first | assumption | omega) ?_
    refine wp_ald0 dX5_append_22 ?_
    refine wp_dup dX5_append_23 rfl ?_
    refine gp_length dX5_append_24 fX5_18 hM ?_
    rw [upd_ne (by omega)]
    refine wp_iconst (v := 1) dX5_append_27 (by decide) ?_
    refine wp_iadd dX5_append_28 ?_
    refine pp_length dX5_append_29 pX5_18 hM ?_
    refine wp_iconst (v := 1) dX5_append_32 (by decide) ?_
    exact wp_zret dX5_append_33 rfl rfl (Nat.le_refl _) (Nat.le_refl _) (by first | with_reducible rfl | (simp only [apdF, if_pos c_7]; done) | (simp [bI, c_7]; done)) (by first | with_reducible rfl | (simp only [apdF, if_pos c_7]; done) | (simp [bI, c_7]; done))
  · refine wp_iconst (v := 0) dX5_append_10 (by decide) ?_
    exact wp_zret dX5_append_11 rfl rfl (Nat.le_refl _) (Nat.le_refl _) (by first | with_reducible rfl | (simp only [apdF, if_neg c_7]; done) | (simp [bI, c_7]; done)) (by first | with_reducible rfl | (simp only [apdF, if_neg c_7]; done) | (simp [bI, c_7]; done))

