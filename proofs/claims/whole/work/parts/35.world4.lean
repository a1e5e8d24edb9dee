theorem appF_out {C : Nat → Int32} {q p q' : Nat} {x : Int32} (hs : OKs C q) (h1 : q' ≠ q) (h2 : q' < p ∨ p + 6 < q') : appF C q p x q' = C q' := by
  unfold appF
  split
  · rfl
  · have := hs.nat.2
    rw [upd_ne h1, upd_ne (by omega)]
theorem OKs.app {C : Nat → Int32} {q p : Nat} {x : Int32} (hs : OKs C q) (hp : q < p ∨ p + 6 < q) : OKs (appF C q p x) q := by
  have h1 := hs.nat.1
  have h2 := hs.nat.2
  unfold appF
  split
  · exact hs
  · rename_i h
    refine ⟨(C q).toNatClampNeg + 1, ?_, ?_⟩
    · rcases Nat.lt_or_ge (C q).toNatClampNeg 6 with h3 | h3
      · omega
      · exact absurd (by rw [h1, show (C q).toNatClampNeg = 6 from Nat.le_antisymm h2 h3]; decide) h
    · rw [upd_eq, upd_ne (by omega), nI_succ, ← h1]
theorem drp_out {p : Nat} {x : Int32} : ∀ (n k t : Nat) (C : Nat → Int32) (q' : Nat), t ≤ k → (q' < p ∨ p + (k + n) ≤ q') → (drp p x n k t C).1 q' = C q'
  | 0, _, _, _, _, _, _ => rfl
  | n + 1, k, t, C, q', ht, h => by
    show (if C (p + k) = x then drp p x n (k + 1) t C else drp p x n (k + 1) (t + 1) (upd C (p + t) (C (p + k)))).1 q' = C q'
    split
    · exact drp_out n (k + 1) t C q' (by omega) (by omega)
    · rw [drp_out n (k + 1) (t + 1) _ q' (by omega) (by omega), upd_ne (by omega)]
theorem drp_le {p : Nat} {x : Int32} : ∀ (n k t : Nat) (C : Nat → Int32), (drp p x n k t C).2 ≤ t + n
  | 0, _, _, _ => Nat.le_refl _
  | n + 1, k, t, C => by
    show (if C (p + k) = x then drp p x n (k + 1) t C else drp p x n (k + 1) (t + 1) (upd C (p + t) (C (p + k)))).2 ≤ _
    split
    · have := drp_le (p := p) (x := x) n (k + 1) t C; omega
    · have := drp_le (p := p) (x := x) n (k + 1) (t + 1) (upd C (p + t) (C (p + k))); omega
theorem dropF_out {C : Nat → Int32} {q p q' : Nat} {x : Int32} (hs : OKs C q) (h1 : q' ≠ q) (h2 : q' < p ∨ p + 6 ≤ q') : dropF C q p x q' = C q' := by
  unfold dropF
  have := hs.nat.2
  rw [upd_ne h1, drp_out _ _ _ _ _ (Nat.le_refl _) (by omega)]
theorem OKs.drop {C : Nat → Int32} {q p : Nat} {x : Int32} (hs : OKs C q) : OKs (dropF C q p x) q := by
  unfold dropF
  refine ⟨_, ?_, upd_eq⟩
  have := hs.nat.2
  have := drp_le (p := p) (x := x) (C q).toNatClampNeg 0 0 C
  omega
theorem pfiF_out {C : Nat → Int32} {q p q' : Nat} {x : Int32} (hs : OKs C q) (h1 : q' ≠ q) (h2 : q' < p ∨ p + 6 < q') : pfiF C q p x q' = C q' := by
  unfold pfiF
  split
  · rfl
  · have := hs.nat.2
    rw [upd_ne h1, upd_ne (by omega), shf_out _ _ (fun i hi => by omega)]
theorem OKs.pfi {C : Nat → Int32} {q p : Nat} {x : Int32} (hs : OKs C q) (hp : q < p ∨ p + 6 < q) : OKs (pfiF C q p x) q := by
  have h1 := hs.nat.1
  have h2 := hs.nat.2
  unfold pfiF
  split
  · exact hs
  · rename_i h
    refine ⟨(C q).toNatClampNeg + 1, ?_, ?_⟩
    · rcases Nat.lt_or_ge (C q).toNatClampNeg 6 with h3 | h3
      · omega
      · exact absurd (by rw [h1, show (C q).toNatClampNeg = 6 from Nat.le_antisymm h2 h3]; decide) h
    · rw [upd_eq, upd_ne (by omega), shf_out _ _ (fun i hi => by omega), nI_succ, ← h1]
/-- one line's size is another, and is right -/
theorem WI.line {C C1 : Nat → Int32} {q : Nat} (hW : WI C) (hq : 110 ≤ q ∧ q < 126) (h : ∀ q', q' ≠ q → (q' = 0 ∨ (110 ≤ q' ∧ q' < 126)) → C1 q' = C q') (hs : OKs C1 q) : WI C1 := by
  have key : ∀ q', (110 ≤ q' ∧ q' < 126) → OKs C q' → OKs C1 q' := fun q' hq' h' => by
    by_cases e : q' = q
    · subst e; exact hs
    · obtain ⟨s, h1, h2⟩ := h'; exact ⟨s, h1, (h q' e (Or.inr hq')).trans h2⟩
  refine ⟨?_, fun o ho => ⟨key _ (by omega) (hW.2 o ho).1, key _ (by omega) (hW.2 o ho).2⟩⟩
  obtain ⟨T, h1, h2⟩ := hW.1
  exact ⟨T, h1, (h 0 (by omega) (Or.inl rfl)).trans h2⟩
theorem WI.q {C : Nat → Int32} (hW : WI C) {o : Nat} (ho : o < 8) : OKs C (110 + o) := (hW.2 o ho).1
theorem WI.w {C : Nat → Int32} (hW : WI C) {o : Nat} (ho : o < 8) : OKs C (118 + o) := (hW.2 o ho).2
theorem WI.appq {C : Nat → Int32} {x : Int32} {o : Nat} (hW : WI C) (ho : o < 8) : WI (appF C (110 + o) (126 + 6 * o) x) := hW.line (q := 110 + o) (by omega) (fun q' h h' => appF_out (hW.q ho) h (by omega)) ((hW.q ho).app (by omega))
theorem WI.appw {C : Nat → Int32} {x : Int32} {o : Nat} (hW : WI C) (ho : o < 8) : WI (appF C (118 + o) (174 + 6 * o) x) := hW.line (q := 118 + o) (by omega) (fun q' h h' => appF_out (hW.w ho) h (by omega)) ((hW.w ho).app (by omega))
theorem WI.dropq {C : Nat → Int32} {x : Int32} {o : Nat} (hW : WI C) (ho : o < 8) : WI (dropF C (110 + o) (126 + 6 * o) x) := hW.line (q := 110 + o) (by omega) (fun q' h h' => dropF_out (hW.q ho) h (by omega)) (hW.q ho).drop
theorem WI.dropw {C : Nat → Int32} {x : Int32} {o : Nat} (hW : WI C) (ho : o < 8) : WI (dropF C (118 + o) (174 + 6 * o) x) := hW.line (q := 118 + o) (by omega) (fun q' h h' => dropF_out (hW.w ho) h (by omega)) (hW.w ho).drop
theorem WI.pfiq {C : Nat → Int32} {x : Int32} {o : Nat} (hW : WI C) (ho : o < 8) : WI (pfiF C (110 + o) (126 + 6 * o) x) := hW.line (q := 110 + o) (by omega) (fun q' h h' => pfiF_out (hW.q ho) h (by omega)) ((hW.q ho).pfi (by omega))
theorem WI.up {C : Nat → Int32} {k : Nat} {x : Int32} (hW : WI C) (hk : k ≠ 0 ∧ (k < 110 ∨ 126 ≤ k)) : WI (upd C k x) := hW.of (SameS.rf.up hk)
theorem WI.rec {C : Nat → Int32} {o : Nat} (hW : WI C) (ho : o < 8) : WI (recF C o).2 := by
  unfold recF
  split
  · exact hW
  · exact (hW.up (by omega)).up (by omega)
theorem WI.g2f {C : Nat → Int32} {o : Nat} (hW : WI C) (ho : o < 8) : WI (g2fF C o) := by
  unfold g2fF
  split
  · rename_i h
    have hx := (nat_of6 h.1 h.2.2).2
    refine WI.rec ?_ ho
    exact ((((hW.dropq ho).up (by omega)).up (by omega)).up (by omega)).up (by omega)
  · exact hW
theorem WI.letGo {C : Nat → Int32} {o : Nat} (hW : WI C) (ho : o < 8) : WI (letGoF C o) := (hW.up (by omega)).up (by omega)
theorem WI.rel {C : Nat → Int32} {o : Nat} (hW : WI C) (ho : o < 8) : WI (relF C o) := by
  have h0 := hW.letGo ho
  unfold relF
  split
  · exact (h0.up (by omega)).up (by omega)
  · split
    · split
      · split
        · exact h0.up (by omega)
        · exact ((h0.up (by omega)).up (by omega)).g2f ho
      · exact h0.up (by omega)
    · exact h0

def entD (C : Nat → Int32) (x : Int32) (o : Nat) : Int32 × (Nat → Int32) := if ¬ C (62 + o) ≤ 0 ∧ C (54 + o) = x then (4, upd C (62 + o) (C (62 + o) + 1)) else if ¬ C (62 + o) ≤ 0 then (0, blkF C x o) else ((recF C o).1 + (takeF (recF C o).2 x o).1, (takeF (recF C o).2 x o).2)
def entC (C : Nat → Int32) (x : Int32) (o : Nat) (nm : Prop) [Decidable nm] : Int32 × (Nat → Int32) := if nm then entD (inflF C o) x o else entD C x o
def entB (C : Nat → Int32) (x : Int32) (o : Nat) : Int32 × (Nat → Int32) := if C (46 + o) = 2 then (if C (70 + o) = x then entC C x o (enmP C x o) else if bOK C o then entC (revF C o) x o (enmP C x o) else entC C x o (enmP C x o)) else entC C x o (enmP C x o)
def enterF (C : Nat → Int32) (x y : Int32) : Int32 × (Nat → Int32) := if rErrF C x y = 0 then (if enmP C x (nt y) then (if cinP C then entB C x (nt y) else (-6, C)) else entB C x (nt y)) else (rErrF C x y, C)
set_option maxHeartbeats 2000000 in
theorem tl_entD {G : GG} {B : Nat} {C : Nat → Int32} {E0 : Nat → va_E} {L : List Nat} {sz d : Nat} {o : Nat} {x : Int32} (hG : GOK G) (hL : rIn (wR G B) L) (ho : o < 8) (hx : x = nI (nt x)) (hxb : nt x < 6) (hW : WI C) (hdp : 4 ≤ d) : WP G iX10_enterObject d 0 0 (some (.int (entD C x o).1)) (Wm G B ((entD C x o).2) E0 L sz) 89 [some (.ref B), some (.int x), none, none, some (.ref (aLk B o)), none, none] [] (Wm G B C E0 L sz) 0 0 := by
  refine wp_ald4 dX10_enterObject_89 ?_
  refine wp_ild1 dX10_enterObject_91 ?_
  refine vi_Lock1 dX10_enterObject_92 kX10_141 (ct_isHeldBy (d := d - 1) hG hL (by assumption) (by omega)) hL (by assumption) rfl (by omega) (Nat.le_of_ble_eq_true rfl) (Nat.le_refl _) (Nat.le_refl _) ?_
  refine wp_ifB_eq (tgt := 111) dX10_enterObject_95 (by decide) (fun c_95 => ?_) (fun c_95 => ?_)
  · refine wp_ald4 dX10_enterObject_111 ?_
    refine vi_Lock0 dX10_enterObject_113 kX10_169 (ct_isHeld (d := d - 1) hG hL (by assumption)) hL (by assumption) rfl (by omega) (Nat.le_of_ble_eq_true rfl) (Nat.le_refl _) (Nat.le_refl _) ?_
    refine wp_ifB_eq (tgt := 128) dX10_enterObject_116 (by decide) (fun c_116 => ?_) (fun c_116 => ?_)
    · refine wp_ald0 dX10_enterObject_128 ?_
      refine wp_ald4 dX10_enterObject_129 ?_
      refine vi_World1 dX10_enterObject_131 kX10_176 (ct_recover (d := d - 1) hG hL ho) hL rfl (by omega) (Nat.le_of_ble_eq_true rfl) (Nat.le_refl _) (Nat.le_refl _) ?_
      refine wp_ist6 dX10_enterObject_134 (by decide) rfl ?_
      refine wp_ild6 dX10_enterObject_136 ?_
      refine wp_ald0 dX10_enterObject_138 ?_
      refine wp_ild1 dX10_enterObject_139 ?_
      refine wp_ald4 dX10_enterObject_140 ?_
      refine vi_World2 dX10_enterObject_142 kX10_180 (ct_take (d := d - 1) hG hL ho (by omega)) hL rfl (by omega) (Nat.le_of_ble_eq_true rfl) (Nat.le_refl _) (Nat.le_refl _) ?_
      refine wp_iadd dX10_enterObject_145 ?_
      exact wp_iret dX10_enterObject_146 rfl (Nat.le_refl _) (Nat.le_refl _) (by first | with_reducible rfl | (simp only [entD, if_neg c_95, if_neg c_116]; done) | (simp only [entD, if_neg c_95, if_neg c_116]; rfl) | rfl) (by first | with_reducible rfl | (simp only [entD, if_neg c_95, if_neg c_116]; done) | (simp only [entD, if_neg c_95, if_neg c_116]; rfl) | rfl)
    · refine wp_ald0 dX10_enterObject_119 ?_
      refine wp_ild1 dX10_enterObject_120 ?_
      refine wp_ald4 dX10_enterObject_121 ?_
      refine vv_World2 dX10_enterObject_123 kX10_172 (ct_block (d := d - 1) hG hL ho hx hxb (hW.q ho) (by omega)) hL rfl (by omega) (Nat.le_of_ble_eq_true rfl) (Nat.le_refl _) (Nat.le_refl _) ?_
      refine wp_iconst (v := 0) dX10_enterObject_126 (by decide) ?_
      exact wp_iret dX10_enterObject_127 rfl (Nat.le_refl _) (Nat.le_refl _) (by first | with_reducible rfl | (simp only [entD, if_neg c_95, if_pos c_116]; done) | (simp only [entD, if_neg c_95, if_pos c_116]; rfl) | rfl) (by first | with_reducible rfl | (simp only [entD, if_neg c_95, if_pos c_116]; done) | (simp only [entD, if_neg c_95, if_pos c_116]; rfl) | rfl)
  · refine wp_ald4 dX10_enterObject_98 ?_
    refine wp_dup dX10_enterObject_100 rfl ?_
    refine g_Lock_entries dX10_enterObject_101 fX10_166 hL (by assumption) ?_
    refine wp_iconst (v := 1) dX10_enterObject_104 (by decide) ?_
    refine wp_iadd dX10_enterObject_105 ?_
    refine p_Lock_entries dX10_enterObject_106 pX10_166 hL (by assumption) ?_
    refine wp_iconst (v := 4) dX10_enterObject_109 (by decide) ?_
    exact wp_iret dX10_enterObject_110 rfl (Nat.le_refl _) (Nat.le_refl _) (by first | with_reducible rfl | (simp only [entD, if_pos c_95]; done) | (simp only [entD, if_pos c_95]; rfl) | rfl) (by first | with_reducible rfl | (simp only [entD, if_pos c_95]; done) | (simp only [entD, if_pos c_95]; rfl) | rfl)
set_option maxHeartbeats 2000000 in
theorem tl_entC {G : GG} {B : Nat} {C : Nat → Int32} {E0 : Nat → va_E} {L : List Nat} {sz d : Nat} {o : Nat} {x : Int32} {nm : Prop} [Decidable nm] (hG : GOK G) (hL : rIn (wR G B) L) (ho : o < 8) (hx : x = nI (nt x)) (hxb : nt x < 6) (hW : WI C) (hdp : 4 ≤ d) : WP G iX10_enterObject d 0 0 (some (.int (entC C x o nm).1)) (Wm G B ((entC C x o nm).2) E0 L sz) 78 [some (.ref B), some (.int x), none, none, some (.ref (aLk B o)), some (.int (bI nm)), none] [] (Wm G B C E0 L sz) 0 0 := by
  refine wp_ild5 dX10_enterObject_78 ?_
  refine wp_ifB_eq (tgt := 89) dX10_enterObject_80 (by decide) (fun c_80 => ?_) (fun c_80 => ?_)
  · simp only [entC, if_neg c_80]
    exact WP.fg (by simp [lcle]) (tl_entD hG hL ho hx hxb hW hdp)
  · refine wp_ald0 dX10_enterObject_83 ?_
    refine wp_ald4 dX10_enterObject_84 ?_
    refine vv_World1 dX10_enterObject_86 kX10_163 (ct_inflate (d := d - 1) hG hL ho (by omega)) hL rfl (by omega) (Nat.le_of_ble_eq_true rfl) (Nat.le_refl _) (Nat.le_refl _) ?_
    simp only [entC, if_pos c_80]
    exact WP.fg (by simp [lcle]) (tl_entD hG hL ho hx hxb (hW.of (SameS.infl ho)) hdp)
set_option maxHeartbeats 1000000 in
theorem ct_enterObject {G : GG} {B : Nat} {C : Nat → Int32} {E0 : Nat → va_E} {L : List Nat} {sz d : Nat} {x y : Int32} (hG : GOK G) (hL : rIn (wR G B) L) (hW : WI C) (hdp : 4 ≤ d) : Ct G d yX10_enterObject iX10_enterObject [.ref B, .int x, .int y] (Wm G B C E0 L sz) 0 0 (some (.int (enterF C x y).1)) (Wm G B ((enterF C x y).2) E0 L sz) := by
  refine Ct.of 4 (by decide) rfl (by decide) (Nat.le_of_ble_eq_true rfl) ?_
  show WP _ _ _ _ _ _ _ 0 [some (.ref B), some (.int x), some (.int y), none, none, none, none] [] _ 0 0
  refine wp_ald0 dX10_enterObject_0 ?_
  refine wp_ild1 dX10_enterObject_1 ?_
  refine wp_ild2 dX10_enterObject_2 ?_
  refine vi_World2 dX10_enterObject_3 kX10_138 (ct_runnerError (d := d - 1) hG hL (by omega)) hL rfl (by omega) (Nat.le_of_ble_eq_true rfl) (Nat.le_refl _) (Nat.le_refl _) ?_
  refine wp_ist3 dX10_enterObject_6 (by decide) rfl ?_
  refine wp_ild3 dX10_enterObject_7 ?_
  refine wp_if_eq (tgt := 13) dX10_enterObject_8 (by decide) (fun c_8 => ?_) (fun c_8 => ?_)
  · obtain ⟨⟨hx, hxb⟩, hy, hyb⟩ := rErrN c_8
    refine wp_ald0 dX10_enterObject_13 ?_
    refine g_World_locks dX10_enterObject_14 fX10_32 hL ?_
    refine wp_ild2 dX10_enterObject_17 ?_
    refine r_locks (i' := nt y) dX10_enterObject_18 hG hL hy (by first | assumption | omega) ?_
    refine wp_ast4 dX10_enterObject_19 (by decide) rfl ?_
    refine wp_ald0 dX10_enterObject_21 ?_
    refine wp_ild1 dX10_enterObject_22 ?_
    refine wp_ald4 dX10_enterObject_23 ?_
    refine vi_World2 dX10_enterObject_25 kX10_144 (ct_entryNeedsMonitor (d := d - 1) hG hL hyb (by omega)) hL rfl (by omega) (Nat.le_of_ble_eq_true rfl) (Nat.le_refl _) (Nat.le_refl _) ?_
    refine wp_ist5 dX10_enterObject_28 (by decide) rfl ?_
    refine wp_ild5 dX10_enterObject_30 ?_
    refine wp_ifB_eq (tgt := 45) dX10_enterObject_32 (by decide) (fun c_32 => ?_) (fun c_32 => ?_)
    · refine wp_ald4 dX10_enterObject_45 ?_
      refine g_Lock_state dX10_enterObject_47 fX10_152 hL (by assumption) ?_
      refine wp_iconst (v := 2) dX10_enterObject_50 (by decide) ?_
      refine wp_icmp_ne (tgt := 78) dX10_enterObject_51 (by decide) (fun c_51 => ?_) (fun c_51 => ?_)
      · simp only [enterF, entB, if_pos c_8, if_neg c_32, if_neg c_51]
        exact WP.fg (by simp [lcle]) (tl_entC hG hL hyb hx hxb hW hdp)
      · refine wp_ald4 dX10_enterObject_54 ?_
        refine g_Lock_biasThread dX10_enterObject_56 fX10_153 hL (by assumption) ?_
        refine wp_ild1 dX10_enterObject_59 ?_
        refine wp_icmp_eq (tgt := 78) dX10_enterObject_60 (by decide) (fun c_60 => ?_) (fun c_60 => ?_)
        · simp only [enterF, entB, if_pos c_8, if_neg c_32, if_pos c_51, if_pos c_60]
          exact WP.fg (by simp [lcle]) (tl_entC hG hL hyb hx hxb hW hdp)
        · refine wp_ald0 dX10_enterObject_63 ?_
          refine wp_ald4 dX10_enterObject_64 ?_
          refine vi_World1 dX10_enterObject_66 kX10_156 (ct_biasIsValid (d := d - 1) hG hL hyb) hL rfl (by omega) (Nat.le_of_ble_eq_true rfl) (Nat.le_refl _) (Nat.le_refl _) ?_
          refine wp_ifB_eq (tgt := 78) dX10_enterObject_69 (by decide) (fun c_69 => ?_) (fun c_69 => ?_)
          · simp only [enterF, entB, if_pos c_8, if_neg c_32, if_pos c_51, if_neg c_60, if_neg c_69]
            exact WP.fg (by simp [lcle]) (tl_entC hG hL hyb hx hxb hW hdp)
          · refine wp_ald0 dX10_enterObject_72 ?_
            refine wp_ald4 dX10_enterObject_73 ?_
            refine vv_World1 dX10_enterObject_75 kX10_160 (ct_revokeBias (d := d - 1) hG hL hyb (by omega)) hL rfl (by omega) (Nat.le_of_ble_eq_true rfl) (Nat.le_refl _) (Nat.le_refl _) ?_
            simp only [enterF, entB, if_pos c_8, if_neg c_32, if_pos c_51, if_neg c_60, if_pos c_69]
            exact WP.fg (by simp [lcle]) (tl_entC hG hL hyb hx hxb (hW.of (SameS.rev hyb)) hdp)
    · refine wp_ald0 dX10_enterObject_35 ?_
      refine vi_World0 dX10_enterObject_36 kX10_148 (ct_canInflate (d := d - 1) hG hL (by omega)) hL rfl (by omega) (Nat.le_of_ble_eq_true rfl) (Nat.le_refl _) (Nat.le_refl _) ?_
      refine wp_ifB_ne (tgt := 45) dX10_enterObject_39 (by decide) (fun c_39 => ?_) (fun c_39 => ?_)
      · refine wp_ald4 dX10_enterObject_45 ?_
        refine g_Lock_state dX10_enterObject_47 fX10_152 hL (by assumption) ?_
        refine wp_iconst (v := 2) dX10_enterObject_50 (by decide) ?_
        refine wp_icmp_ne (tgt := 78) dX10_enterObject_51 (by decide) (fun c_51 => ?_) (fun c_51 => ?_)
        · simp only [enterF, entB, if_pos c_8, if_pos c_32, if_pos c_39, if_neg c_51]
          exact WP.fg (by simp [lcle]) (tl_entC hG hL hyb hx hxb hW hdp)
        · refine wp_ald4 dX10_enterObject_54 ?_
          refine g_Lock_biasThread dX10_enterObject_56 fX10_153 hL (by assumption) ?_
          refine wp_ild1 dX10_enterObject_59 ?_
          refine wp_icmp_eq (tgt := 78) dX10_enterObject_60 (by decide) (fun c_60 => ?_) (fun c_60 => ?_)
          · simp only [enterF, entB, if_pos c_8, if_pos c_32, if_pos c_39, if_pos c_51, if_pos c_60]
            exact WP.fg (by simp [lcle]) (tl_entC hG hL hyb hx hxb hW hdp)
          · refine wp_ald0 dX10_enterObject_63 ?_
            refine wp_ald4 dX10_enterObject_64 ?_
            refine vi_World1 dX10_enterObject_66 kX10_156 (ct_biasIsValid (d := d - 1) hG hL hyb) hL rfl (by omega) (Nat.le_of_ble_eq_true rfl) (Nat.le_refl _) (Nat.le_refl _) ?_
            refine wp_ifB_eq (tgt := 78) dX10_enterObject_69 (by decide) (fun c_69 => ?_) (fun c_69 => ?_)
            · simp only [enterF, entB, if_pos c_8, if_pos c_32, if_pos c_39, if_pos c_51, if_neg c_60, if_neg c_69]
              exact WP.fg (by simp [lcle]) (tl_entC hG hL hyb hx hxb hW hdp)
            · refine wp_ald0 dX10_enterObject_72 ?_
              refine wp_ald4 dX10_enterObject_73 ?_
              refine vv_World1 dX10_enterObject_75 kX10_160 (ct_revokeBias (d := d - 1) hG hL hyb (by omega)) hL rfl (by omega) (Nat.le_of_ble_eq_true rfl) (Nat.le_refl _) (Nat.le_refl _) ?_
              simp only [enterF, entB, if_pos c_8, if_pos c_32, if_pos c_39, if_pos c_51, if_neg c_60, if_pos c_69]
              exact WP.fg (by simp [lcle]) (tl_entC hG hL hyb hx hxb (hW.of (SameS.rev hyb)) hdp)
      · refine wp_bipush (v := (-6)) dX10_enterObject_42 (by decide) ?_
        exact wp_iret dX10_enterObject_44 rfl (Nat.le_refl _) (Nat.le_refl _) (by first | with_reducible rfl | (simp only [enterF, if_pos c_8, if_pos c_32, if_neg c_39]; done) | (simp only [enterF, if_pos c_8, if_pos c_32, if_neg c_39]; rfl) | rfl) (by first | with_reducible rfl | (simp only [enterF, if_pos c_8, if_pos c_32, if_neg c_39]; done) | (simp only [enterF, if_pos c_8, if_pos c_32, if_neg c_39]; rfl) | rfl)
  · refine wp_ild3 dX10_enterObject_11 ?_
    exact wp_iret dX10_enterObject_12 rfl (Nat.le_refl _) (Nat.le_refl _) (by first | with_reducible rfl | (simp only [enterF, if_neg c_8]; done) | (simp only [enterF, if_neg c_8]; rfl) | rfl) (by first | with_reducible rfl | (simp only [enterF, if_neg c_8]; done) | (simp only [enterF, if_neg c_8]; rfl) | rfl)

def bwtF (C : Nat → Int32) (x : Int32) (o : Nat) (z : Int32) : Nat → Int32 := appF (upd (upd (upd (upd C (10 + nt x) 2) (28 + nt x) (nI o)) (34 + nt x) (if z = 0 then -1 else upd (upd C (10 + nt x) 2) (28 + nt x) (nI o) 9 + z)) (40 + nt x) (upd (upd (upd C (10 + nt x) 2) (28 + nt x) (nI o)) (34 + nt x) (if z = 0 then -1 else upd (upd C (10 + nt x) 2) (28 + nt x) (nI o) 9 + z) (62 + o))) (118 + o) (174 + 6 * o) x
theorem WI.bwt {C : Nat → Int32} {x : Int32} {o : Nat} {z : Int32} (hW : WI C) (ho : o < 8) (hxb : nt x < 6) : WI (bwtF C x o z) := by
  unfold bwtF
  refine WI.appw ?_ ho
  exact (((hW.up (by omega)).up (by omega)).up (by omega)).up (by omega)
set_option maxHeartbeats 1000000 in
theorem ct_beginWait {G : GG} {B : Nat} {C : Nat → Int32} {E0 : Nat → va_E} {L : List Nat} {sz d : Nat} {o : Nat} {x z : Int32} (hG : GOK G) (hL : rIn (wR G B) L) (ho : o < 8) (hx : x = nI (nt x)) (hxb : nt x < 6) (hs : OKs C (118 + o)) (hdp : 1 ≤ d) : Ct G d yX10_beginWait iX10_beginWait [.ref B, .int x, .ref (aLk B o), .int z] (Wm G B C E0 L sz) 0 0 none (Wm G B (bwtF C x o z) E0 L sz) := by
  refine Ct.of 1 (by decide) rfl (by decide) (Nat.le_of_ble_eq_true rfl) ?_
  show WP _ _ _ _ _ _ _ 0 [some (.ref B), some (.int x), some (.ref (aLk B o)), some (.int z), none] [] _ 0 0
  refine wp_ald0 dX10_beginWait_0 ?_
  refine g_World_strands dX10_beginWait_1 fX10_26 hL ?_
  refine wp_ild1 dX10_beginWait_4 ?_
  refine r_strands (i' := nt x) dX10_beginWait_5 hG hL hx (by first | assumption | omega) ?_
  refine wp_ast4 dX10_beginWait_6 (by decide) rfl ?_
  refine wp_ald4 dX10_beginWait_8 ?_
  refine wp_iconst (v := 2) dX10_beginWait_10 (by decide) ?_
  refine p_Strand_state dX10_beginWait_11 pX10_135 hL (by assumption) ?_
  refine wp_ald4 dX10_beginWait_14 ?_
  refine wp_ald2 dX10_beginWait_16 ?_
  refine g_Lock_number dX10_beginWait_17 fX10_213 hL (by assumption) ?_
  refine p_Strand_place dX10_beginWait_20 pX10_216 hL (by assumption) ?_
  refine wp_ald4 dX10_beginWait_23 ?_
  refine wp_ild3 dX10_beginWait_25 ?_
  refine wp_if_ne (tgt := 33) dX10_beginWait_26 (by decide) (fun c_26 => ?_) (fun c_26 => ?_)
  · refine wp_ald0 dX10_beginWait_33 ?_
    refine g_World_now dX10_beginWait_34 fX10_54 hL ?_
    refine wp_ild3 dX10_beginWait_37 ?_
    refine wp_iadd dX10_beginWait_38 ?_
    refine p_Strand_limit dX10_beginWait_39 pX10_292 hL (by assumption) ?_
    refine wp_ald4 dX10_beginWait_42 ?_
    refine wp_ald2 dX10_beginWait_44 ?_
    refine g_Lock_entries dX10_beginWait_45 fX10_166 hL (by assumption) ?_
    refine p_Strand_dueEntries dX10_beginWait_48 pX10_219 hL (by assumption) ?_
    refine wp_ald2 dX10_beginWait_51 ?_
    refine g_Lock_waitSet dX10_beginWait_52 fX10_295 hL (by assumption) ?_
    refine wp_ild1 dX10_beginWait_55 ?_
    refine vv_Line1 (j := 16 + 5 * o) dX10_beginWait_56 kX10_210 (ct_append (d := d - 1) hG hL (LNw ho) (by repeat (first | exact hs | apply OKs.upd (by omega)))) hL (LNw (by assumption)) rfl (by omega) (Nat.le_of_ble_eq_true rfl) (Nat.le_refl _) (Nat.le_refl _) ?_
    exact wp_vret dX10_beginWait_59 rfl (Nat.le_refl _) (Nat.le_refl _) (by first | with_reducible rfl | (simp only [bwtF, if_neg c_26]; done) | (simp only [bwtF, if_neg c_26]; rfl) | rfl) (by first | with_reducible rfl | (simp only [bwtF, if_neg c_26]; done) | (simp only [bwtF, if_neg c_26]; rfl) | rfl)
  · refine wp_iconst (v := (-1)) dX10_beginWait_29 (by decide) ?_
    refine wp_goto (tgt := 39) dX10_beginWait_30 (by decide) ?_
    refine p_Strand_limit dX10_beginWait_39 pX10_292 hL (by assumption) ?_
    refine wp_ald4 dX10_beginWait_42 ?_
    refine wp_ald2 dX10_beginWait_44 ?_
    refine g_Lock_entries dX10_beginWait_45 fX10_166 hL (by assumption) ?_
    refine p_Strand_dueEntries dX10_beginWait_48 pX10_219 hL (by assumption) ?_
    refine wp_ald2 dX10_beginWait_51 ?_
    refine g_Lock_waitSet dX10_beginWait_52 fX10_295 hL (by assumption) ?_
    refine wp_ild1 dX10_beginWait_55 ?_
    refine vv_Line1 (j := 16 + 5 * o) dX10_beginWait_56 kX10_210 (ct_append (d := d - 1) hG hL (LNw ho) (by repeat (first | exact hs | apply OKs.upd (by omega)))) hL (LNw (by assumption)) rfl (by omega) (Nat.le_of_ble_eq_true rfl) (Nat.le_refl _) (Nat.le_refl _) ?_
    exact wp_vret dX10_beginWait_59 rfl (Nat.le_refl _) (Nat.le_refl _) (by first | with_reducible rfl | (simp only [bwtF, if_pos c_26]; done) | (simp only [bwtF, if_pos c_26]; rfl) | rfl) (by first | with_reducible rfl | (simp only [bwtF, if_pos c_26]; done) | (simp only [bwtF, if_pos c_26]; rfl) | rfl)

def awD (C : Nat → Int32) (x : Int32) (o : Nat) (z : Int32) : Int32 × (Nat → Int32) := (relF (bwtF C x o z) o (40 + nt x), relF (bwtF C x o z) o)
def awT (C : Nat → Int32) (x y z : Int32) : Int32 × (Nat → Int32) := if oErrF C x y = 0 then (if C (16 + nt x) = 0 then (if C (46 + nt y) = 4 then awD C x (nt y) z else if cinP C then awD (inflF C (nt y)) x (nt y) z else (-6, C)) else (-9, upd (upd C (16 + nt x) 0) (22 + nt x) 3)) else (oErrF C x y, C)
def awaitF (C : Nat → Int32) (x y z : Int32) : Int32 × (Nat → Int32) := if z < 0 then (if hasT C x then (if isO y then (-3, C) else awT C x y z) else awT C x y z) else if z ≤ 50 then awT C x y z else (if hasT C x then (if isO y then (-3, C) else awT C x y z) else awT C x y z)
set_option maxHeartbeats 2000000 in
theorem tl_awD {G : GG} {B : Nat} {C : Nat → Int32} {E0 : Nat → va_E} {L : List Nat} {sz d : Nat} {o : Nat} {x z : Int32} (hG : GOK G) (hL : rIn (wR G B) L) (ho : o < 8) (hx : x = nI (nt x)) (hxb : nt x < 6) (hW : WI C) (hdp : 3 ≤ d) : WP G iX10_awaitAt d 0 0 (some (.int (awD C x o z).1)) (Wm G B ((awD C x o z).2) E0 L sz) 120 [some (.ref B), some (.int x), none, some (.int z), none, none, some (.ref (aSt B (nt x))), some (.ref (aLk B o))] [] (Wm G B C E0 L sz) 0 0 := by
  refine wp_ald0 dX10_awaitAt_120 ?_
  refine wp_ild1 dX10_awaitAt_121 ?_
  refine wp_ald7 dX10_awaitAt_122 ?_
  refine wp_ild3 dX10_awaitAt_124 ?_
  refine vv_World3 dX10_awaitAt_125 kX10_288 (ct_beginWait (d := d - 1) hG hL ho hx hxb (hW.w ho) (by omega)) hL rfl (by omega) (Nat.le_of_ble_eq_true rfl) (Nat.le_refl _) (Nat.le_refl _) ?_
  refine wp_ald0 dX10_awaitAt_128 ?_
  refine wp_ald7 dX10_awaitAt_129 ?_
  refine vv_World1 dX10_awaitAt_131 kX10_264 (ct_release (d := d - 1) hG hL ho ((hW.bwt ho hxb).q ho) (by omega)) hL rfl (by omega) (Nat.le_of_ble_eq_true rfl) (Nat.le_refl _) (Nat.le_refl _) ?_
  refine wp_ald6 dX10_awaitAt_134 ?_
  refine g_Strand_dueEntries dX10_awaitAt_136 fX10_219 hL (by assumption) ?_
  exact wp_iret dX10_awaitAt_139 rfl (Nat.le_refl _) (Nat.le_refl _) (by first | with_reducible rfl | (simp only [awD]; done) | (simp only [awD]; rfl) | rfl) (by first | with_reducible rfl | (simp only [awD]; done) | (simp only [awD]; rfl) | rfl)
set_option maxHeartbeats 2000000 in
theorem tl_awT {G : GG} {B : Nat} {C : Nat → Int32} {E0 : Nat → va_E} {L : List Nat} {sz d : Nat} {x y z : Int32} (hG : GOK G) (hL : rIn (wR G B) L) (hW : WI C) (hdp : 3 ≤ d) : WP G iX10_awaitAt d 0 0 (some (.int (awT C x y z).1)) (Wm G B ((awT C x y z).2) E0 L sz) 40 [some (.ref B), some (.int x), some (.int y), some (.int z), none, none, none, none] [] (Wm G B C E0 L sz) 0 0 := by
  refine wp_ald0 dX10_awaitAt_40 ?_
  refine wp_ild1 dX10_awaitAt_41 ?_
  refine wp_ild2 dX10_awaitAt_42 ?_
  refine vi_World2 dX10_awaitAt_43 kX10_261 (ct_ownerError (d := d - 1) hG hL (by omega)) hL rfl (by omega) (Nat.le_of_ble_eq_true rfl) (Nat.le_refl _) (Nat.le_refl _) ?_
  refine wp_ist5 dX10_awaitAt_46 (by decide) rfl ?_
  refine wp_ild5 dX10_awaitAt_48 ?_
  refine wp_if_eq (tgt := 56) dX10_awaitAt_50 (by decide) (fun c_50 => ?_) (fun c_50 => ?_)
  · obtain ⟨⟨hx, hxb⟩, hy, hyb⟩ := oErrN c_50
    refine wp_ald0 dX10_awaitAt_56 ?_
    refine g_World_strands dX10_awaitAt_57 fX10_26 hL ?_
    refine wp_ild1 dX10_awaitAt_60 ?_
    refine r_strands (i' := nt x) dX10_awaitAt_61 hG hL hx (by first | assumption | omega) ?_
    refine wp_ast6 dX10_awaitAt_62 (by decide) rfl ?_
    refine wp_ald6 dX10_awaitAt_64 ?_
    refine g_Strand_interrupted dX10_awaitAt_66 fX10_282 hL (by assumption) ?_
    refine wp_if_eq (tgt := 87) dX10_awaitAt_69 (by decide) (fun c_69 => ?_) (fun c_69 => ?_)
    · refine wp_ald0 dX10_awaitAt_87 ?_
      refine g_World_locks dX10_awaitAt_88 fX10_32 hL ?_
      refine wp_ild2 dX10_awaitAt_91 ?_
      refine r_locks (i' := nt y) dX10_awaitAt_92 hG hL hy (by first | assumption | omega) ?_
      refine wp_ast7 dX10_awaitAt_93 (by decide) rfl ?_
      refine wp_ald7 dX10_awaitAt_95 ?_
      refine g_Lock_state dX10_awaitAt_97 fX10_152 hL (by assumption) ?_
      refine wp_iconst (v := 4) dX10_awaitAt_100 (by decide) ?_
      refine wp_icmp_eq (tgt := 120) dX10_awaitAt_101 (by decide) (fun c_101 => ?_) (fun c_101 => ?_)
      · simp only [awT, if_pos c_50, if_pos c_69, if_pos c_101]
        exact WP.fg (by simp [lcle]) (tl_awD hG hL hyb hx hxb hW hdp)
      · refine wp_ald0 dX10_awaitAt_104 ?_
        refine vi_World0 dX10_awaitAt_105 kX10_148 (ct_canInflate (d := d - 1) hG hL (by omega)) hL rfl (by omega) (Nat.le_of_ble_eq_true rfl) (Nat.le_refl _) (Nat.le_refl _) ?_
        refine wp_ifB_ne (tgt := 114) dX10_awaitAt_108 (by decide) (fun c_108 => ?_) (fun c_108 => ?_)
        · refine wp_ald0 dX10_awaitAt_114 ?_
          refine wp_ald7 dX10_awaitAt_115 ?_
          refine vv_World1 dX10_awaitAt_117 kX10_163 (ct_inflate (d := d - 1) hG hL hyb (by omega)) hL rfl (by omega) (Nat.le_of_ble_eq_true rfl) (Nat.le_refl _) (Nat.le_refl _) ?_
          simp only [awT, if_pos c_50, if_pos c_69, if_neg c_101, if_pos c_108]
          exact WP.fg (by simp [lcle]) (tl_awD hG hL hyb hx hxb (hW.of (SameS.infl hyb)) hdp)
        · refine wp_bipush (v := (-6)) dX10_awaitAt_111 (by decide) ?_
          exact wp_iret dX10_awaitAt_113 rfl (Nat.le_refl _) (Nat.le_refl _) (by first | with_reducible rfl | (simp only [awT, if_pos c_50, if_pos c_69, if_neg c_101, if_neg c_108]; done) | (simp only [awT, if_pos c_50, if_pos c_69, if_neg c_101, if_neg c_108]; rfl) | rfl) (by first | with_reducible rfl | (simp only [awT, if_pos c_50, if_pos c_69, if_neg c_101, if_neg c_108]; done) | (simp only [awT, if_pos c_50, if_pos c_69, if_neg c_101, if_neg c_108]; rfl) | rfl)
    · refine wp_ald6 dX10_awaitAt_72 ?_
      refine wp_iconst (v := 0) dX10_awaitAt_74 (by decide) ?_
      refine p_Strand_interrupted dX10_awaitAt_75 pX10_282 hL (by assumption) rfl rfl ?_
      refine wp_ald6 dX10_awaitAt_78 ?_
      refine wp_iconst (v := 3) dX10_awaitAt_80 (by decide) ?_
      refine p_Strand_waitEnding dX10_awaitAt_81 pX10_285 hL (by assumption) ?_
      refine wp_bipush (v := (-9)) dX10_awaitAt_84 (by decide) ?_
      exact wp_iret dX10_awaitAt_86 rfl (Nat.le_refl _) (Nat.le_refl _) (by first | with_reducible rfl | (simp only [awT, if_pos c_50, if_neg c_69]; done) | (simp only [awT, if_pos c_50, if_neg c_69]; rfl) | rfl) (by first | with_reducible rfl | (simp only [awT, if_pos c_50, if_neg c_69]; done) | (simp only [awT, if_pos c_50, if_neg c_69]; rfl) | rfl)
  · refine wp_ild5 dX10_awaitAt_53 ?_
    exact wp_iret dX10_awaitAt_55 rfl (Nat.le_refl _) (Nat.le_refl _) (by first | with_reducible rfl | (simp only [awT, if_neg c_50]; done) | (simp only [awT, if_neg c_50]; rfl) | rfl) (by first | with_reducible rfl | (simp only [awT, if_neg c_50]; done) | (simp only [awT, if_neg c_50]; rfl) | rfl)
set_option maxHeartbeats 1000000 in
theorem ct_awaitAt {G : GG} {B : Nat} {C : Nat → Int32} {E0 : Nat → va_E} {L : List Nat} {sz d : Nat} {x y z : Int32} (hG : GOK G) (hL : rIn (wR G B) L) (hW : WI C) (hdp : 3 ≤ d) : Ct G d yX10_awaitAt iX10_awaitAt [.ref B, .int x, .int y, .int z] (Wm G B C E0 L sz) 0 0 (some (.int (awaitF C x y z).1)) (Wm G B ((awaitF C x y z).2) E0 L sz) := by
  refine Ct.of 4 (by decide) rfl (by decide) (Nat.le_of_ble_eq_true rfl) ?_
  show WP _ _ _ _ _ _ _ 0 [some (.ref B), some (.int x), some (.int y), some (.int z), none, none, none, none] [] _ 0 0
  refine wp_ild3 dX10_awaitAt_0 ?_
  refine wp_if_lt (tgt := 10) dX10_awaitAt_1 (by decide) (fun c_1 => ?_) (fun c_1 => ?_)
  · refine wp_iconst (v := 1) dX10_awaitAt_10 (by decide) ?_
    refine wp_goto (tgt := 15) dX10_awaitAt_11 (by decide) ?_
    refine wp_ist4 dX10_awaitAt_15 (by decide) rfl ?_
    refine wp_ild4 dX10_awaitAt_17 ?_
    refine wp_if_eq (tgt := 40) dX10_awaitAt_19 (by decide) (fun h => absurd h (by decide)) (fun _ => ?_)
    refine wp_ald0 dX10_awaitAt_22 ?_
    refine wp_ild1 dX10_awaitAt_23 ?_
    refine vi_World1 dX10_awaitAt_24 kX10_128 (ct_hasThread (d := d - 1) hG hL) hL rfl (by omega) (Nat.le_of_ble_eq_true rfl) (Nat.le_refl _) (Nat.le_refl _) ?_
    refine wp_ifB_eq (tgt := 40) dX10_awaitAt_27 (by decide) (fun c_27 => ?_) (fun c_27 => ?_)
    · simp only [awaitF, if_pos c_1, if_neg c_27]
      exact WP.fg (by simp [lcle]) (tl_awT hG hL hW hdp)
    · refine wp_ild2 dX10_awaitAt_30 ?_
      refine ci_isObj rfl dX10_awaitAt_31 (ct_isObject (d := d - 1)) (by omega) (Nat.le_of_ble_eq_true rfl) (Nat.le_refl _) (Nat.le_refl _) ?_
      refine wp_ifB_eq (tgt := 40) dX10_awaitAt_34 (by decide) (fun c_34 => ?_) (fun c_34 => ?_)
      · simp only [awaitF, if_pos c_1, if_pos c_27, if_neg c_34]
        exact WP.fg (by simp [lcle]) (tl_awT hG hL hW hdp)
      · refine wp_bipush (v := (-3)) dX10_awaitAt_37 (by decide) ?_
        exact wp_iret dX10_awaitAt_39 rfl (Nat.le_refl _) (Nat.le_refl _) (by first | with_reducible rfl | (simp only [awaitF, if_pos c_1, if_pos c_27, if_pos c_34]; done) | (simp only [awaitF, if_pos c_1, if_pos c_27, if_pos c_34]; rfl) | rfl) (by first | with_reducible rfl | (simp only [awaitF, if_pos c_1, if_pos c_27, if_pos c_34]; done) | (simp only [awaitF, if_pos c_1, if_pos c_27, if_pos c_34]; rfl) | rfl)
  · refine wp_ild3 dX10_awaitAt_4 ?_
    refine wp_bipush (v := 50) dX10_awaitAt_5 (by decide) ?_
    refine wp_icmp_le (tgt := 14) dX10_awaitAt_7 (by decide) (fun c_7 => ?_) (fun c_7 => ?_)
    · refine wp_iconst (v := 0) dX10_awaitAt_14 (by decide) ?_
      refine wp_ist4 dX10_awaitAt_15 (by decide) rfl ?_
      refine wp_ild4 dX10_awaitAt_17 ?_
      refine wp_if_eq (tgt := 40) dX10_awaitAt_19 (by decide) (fun _ => ?_) (fun h => absurd h (by decide))
      simp only [awaitF, if_neg c_1, if_pos c_7]
      exact WP.fg (by simp [lcle]) (tl_awT hG hL hW hdp)
    · refine wp_iconst (v := 1) dX10_awaitAt_10 (by decide) ?_
      refine wp_goto (tgt := 15) dX10_awaitAt_11 (by decide) ?_
      refine wp_ist4 dX10_awaitAt_15 (by decide) rfl ?_
      refine wp_ild4 dX10_awaitAt_17 ?_
      refine wp_if_eq (tgt := 40) dX10_awaitAt_19 (by decide) (fun h => absurd h (by decide)) (fun _ => ?_)
      refine wp_ald0 dX10_awaitAt_22 ?_
      refine wp_ild1 dX10_awaitAt_23 ?_
      refine vi_World1 dX10_awaitAt_24 kX10_128 (ct_hasThread (d := d - 1) hG hL) hL rfl (by omega) (Nat.le_of_ble_eq_true rfl) (Nat.le_refl _) (Nat.le_refl _) ?_
      refine wp_ifB_eq (tgt := 40) dX10_awaitAt_27 (by decide) (fun c_27 => ?_) (fun c_27 => ?_)
      · simp only [awaitF, if_neg c_1, if_neg c_7, if_neg c_27]
        exact WP.fg (by simp [lcle]) (tl_awT hG hL hW hdp)
      · refine wp_ild2 dX10_awaitAt_30 ?_
        refine ci_isObj rfl dX10_awaitAt_31 (ct_isObject (d := d - 1)) (by omega) (Nat.le_of_ble_eq_true rfl) (Nat.le_refl _) (Nat.le_refl _) ?_
        refine wp_ifB_eq (tgt := 40) dX10_awaitAt_34 (by decide) (fun c_34 => ?_) (fun c_34 => ?_)
        · simp only [awaitF, if_neg c_1, if_neg c_7, if_pos c_27, if_neg c_34]
          exact WP.fg (by simp [lcle]) (tl_awT hG hL hW hdp)
        · refine wp_bipush (v := (-3)) dX10_awaitAt_37 (by decide) ?_
          exact wp_iret dX10_awaitAt_39 rfl (Nat.le_refl _) (Nat.le_refl _) (by first | with_reducible rfl | (simp only [awaitF, if_neg c_1, if_neg c_7, if_pos c_27, if_pos c_34]; done) | (simp only [awaitF, if_neg c_1, if_neg c_7, if_pos c_27, if_pos c_34]; rfl) | rfl) (by first | with_reducible rfl | (simp only [awaitF, if_neg c_1, if_neg c_7, if_pos c_27, if_pos c_34]; done) | (simp only [awaitF, if_neg c_1, if_neg c_7, if_pos c_27, if_pos c_34]; rfl) | rfl)

