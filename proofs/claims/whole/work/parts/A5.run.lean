/-! an operation, and a text that is run: class and reference together -/
section OS
variable {S : Nat → Nat → Int32} {F : Nat → Int32} {n r : Nat} {op a b c : Int32}
theorem opS_o {k : Nat} (h1 : k ≠ 1) (h3 : k ≠ 3) : opS S op a b c k = S k := by
  unfold opS
  split
  · exact updS_ne h1
  · rw [updS_ne h3, updS_ne h1]
theorem opS_1 : opS S op a b c 1 = (perfF (S 1) op a b c).2 := by
  unfold opS
  split
  · exact updS_eq
  · rw [updS_ne (by decide), updS_eq]
theorem opS_3 : opS S op a b c 3 = if isE (perfF (S 1) op a b c).1 then S 3 else jadF (S 3) op a b c := by
  unfold opS
  split
  · exact updS_ne (by decide)
  · exact updS_eq
theorem JR.ok {J : Nat → Int32} (h : JR J F) (hr : OKr F) : OKj J := by
  obtain ⟨m, m1, m2⟩ := hr
  exact ⟨m, m1, h.1.trans m2⟩
/-- what is recorded are operations -/
def ROP (F : Nat → Int32) : Prop := ∀ i, i < nt (F 241) → isOp (F (242 + 4 * i))
theorem ROP.st {R : Int32 × (Nat → Int32)} (h : ROP F) (hr : OKr F) (hk : RCk F R op a b c) (ho : isOp op) : ROP R.2 := by
  obtain ⟨m, m1, m2⟩ := hr
  have em : nt (F 241) = m := by rw [m2]; exact ntn (by omega)
  have same : ∀ K : Nat → Int32, Rk F K → ROP K := fun K g i hi => by
    rw [g 241 (by omega) (by omega), em] at hi
    rw [g (242 + 4 * i) (by omega) (by omega)]
    exact h i (by omega)
  rcases hk with ⟨-, g⟩ | ⟨-, F1, g1, g2⟩
  · exact same _ g
  · have f1 : F1 241 = nI m := (g1 241 (by omega) (by omega)).trans m2
    have nf : nt (F1 241) = m := by rw [f1]; exact ntn (by omega)
    unfold rcdM at g2
    rw [nf] at g2
    by_cases q : (60 : Int32) ≤ F1 241
    · rw [if_pos q] at g2
      exact same _ (g1.tr g2)
    · rw [if_neg q] at g2
      rw [f1] at q
      have m6 : m < 60 := Decidable.not_not.mp (fun z => q (nI_le (a := 60) (b := m) (by omega) (by omega)))
      intro i hi
      have e241 : R.2 241 = nI (m + 1) := by
        rw [g2 241 (by omega) (by omega), upd_eq, upd_ne (by omega), upd_ne (by omega), upd_ne (by omega), upd_ne (by omega), f1, nI_succ]
      rw [e241, ntn (by omega)] at hi
      rw [g2 (242 + 4 * i) (by omega) (by omega)]
      by_cases ei : i = m
      · subst ei
        rw [upd_ne (by omega), upd_ne (by omega), upd_ne (by omega), upd_ne (by omega), upd_eq]; exact ho
      · rw [upd_ne (by omega), upd_ne (by omega), upd_ne (by omega), upd_ne (by omega), upd_ne (by omega), g1 (242 + 4 * i) (by omega) (by omega)]
        exact h i (by omega)
/-- class and reference after the same calls -/
def CR (S : Nat → Nat → Int32) (F : Nat → Int32) (n r : Nat) : Prop := Rel (S 1) F ∧ INV F n r ∧ OKr F ∧ JR (S 3) F ∧ ROP F
theorem op_step (h : CR S F n r) (hn : n < 100000) (hr : r + 200 ≤ 100000000) (ho : isOp op) (hc : ¬ op = 2 → c = 0) (hb : op = 5 ∨ op = 6 ∨ op = 7 ∨ op = 8 ∨ op = 9 → b = 0) : (perfF (S 1) op a b c).1 = (opM F op a b c).1 ∧ CR (opS S op a b c) (opM F op a b c).2 (n + 1) (r + 200) ∧ (isE (opM F op a b c).1 ↔ inP (opM F op a b c).1 (-7) (-1)) := by
  obtain ⟨h1, h2, h3, h4, h5⟩ := h
  obtain ⟨g1, g2, g3⟩ := op_all (a := a) (b := b) (c := c) h1 h2 h3 hn hr ho
  have rc := rc_all (a := a) (b := b) (c := c) h1 h2 h3 hn hr ho hc hb
  refine ⟨g1, ⟨?_, g3, (ro_op h2.2.1 h3).2.1, ?_, h5.st h3 rc ho⟩, rc.e⟩
  · rw [opS_1]; exact g2
  · rw [opS_3, g1]; exact rc.step h4 h3
theorem it_zero {tx : Nat → Int32} {Ln p : Nat} : (¬ (itX tx Ln p).1 = 2 → (itX tx Ln p).2.2.2 = 0) ∧ ((itX tx Ln p).1 = 5 ∨ (itX tx Ln p).1 = 6 ∨ (itX tx Ln p).1 = 7 ∨ (itX tx Ln p).1 = 8 ∨ (itX tx Ln p).1 = 9 → (itX tx Ln p).2.2.1 = 0) := by
  unfold itX
  cases q : opL tx Ln p 10 0 with
  | none => exact ⟨fun _ => rfl, fun _ => rfl⟩
  | some j =>
    constructor
    · intro h
      have h : ¬ nI j = 2 := h
      have e : soM (nI j) (nI 2) = -1 := by
        unfold soM
        rw [if_neg (by decide), if_neg (by decide), if_neg h]
      show (agS tx Ln _ (soM (nI j) (nI 2))).1 = 0
      rw [e, ag_n (by decide)]
    · intro h
      have h : nI j = 5 ∨ nI j = 6 ∨ nI j = 7 ∨ nI j = 8 ∨ nI j = 9 := h
      have e : soM (nI j) (nI 1) = -1 := by
        unfold soM
        rw [if_neg (by decide), if_pos (by decide)]
        rcases h with z | z | z | z | z <;> rw [z] <;> decide
      show (agS tx Ln _ (soM (nI j) (nI 1))).1 = 0
      rw [e, ag_n (by decide)]
theorem isOp_of : ∀ j, j < 10 → isOp (nI j) := by unfold isOp; decide
theorem tok_op {tx : Nat → Int32} {Ln : Nat} (h : TOK F tx Ln) (hT : TS F) (hr : OKr F) : TOK (opM F op a b c).2 tx Ln := by
  have g := (ro_op (op := op) (a := a) (b := b) (c := c) hT hr).2.2
  exact ⟨(g 9001 (by omega)).trans h.1, h.2.1, fun k hk => (g (5000 + k) (by omega)).trans (h.2.2 k hk)⟩
end OS
theorem fiL_a {tx : Nat → Int32} {Ln : Nat} : ∀ (n a it : Nat) (F : Nat → Int32), OKa F → OKa (fiL tx Ln n a it F).2
  | 0, _, _, _, h => h
  | n + 1, a, it, F, h => by
    unfold fiL
    split
    · split
      · split
        · exact rdL_a 10 0 F h
        · exact fiL_a n _ _ _ (rdL_a 10 0 F h)
      · exact h
    · exact h
set_option maxHeartbeats 2000000 in
theorem lx_run {G : GG} {X : Nat} {E : Nat → va_E} {L : List Nat} {sz d : Nat} {tx : Nat → Int32} {Ln : Nat} {fm : Value} {fa : Nat → Nat} (hG : GOK G) (hX : XIn X L) (hN : GNS G fm) (hf : GFm G fa) (hdp : 7 ≤ d) (n : Nat) : ∀ (p i it : Nat) (S : Nat → Nat → Int32) (e : Int32) (F : Nat → Int32) (q r : Nat), i + n = 200 → p ≤ Ln → ftR tx Ln n p it = -8 → it ≤ i → POK (S 4) tx Ln → OKa (S 4) → TOK F tx Ln → CR S F q r → q + (itL tx Ln n p).length ≤ 100000 → r + 200 * (itL tx Ln n p).length ≤ 100000000 → ∃ S', (POK (S' 4) tx Ln ∧ OKa (S' 4) ∧ TOK (rnA (itL tx Ln n p) F e).2 tx Ln ∧ CR S' (rnA (itL tx Ln n p) F e).2 (q + (itL tx Ln n p).length) (r + 200 * (itL tx Ln n p).length) ∧ (∀ k, k ≠ 1 → k ≠ 3 → k ≠ 4 → S' k = S k) ∧ RO F (rnA (itL tx Ln n p) F e).2) ∧ WP G iX11_run d 0 0 (some (.int (rnA (itL tx Ln n p) F e).1)) (Xm G X S' E L sz) 21 [some (.ref X), some (.int e), some (.int (nI p)), some (.int (nI i)), none, none] [] (Xm G X S E L sz) 0 0 := by
  induction n with
  | zero =>
    intro p i it S e F q r hi hp hft hit ht ha hT hC hq hr
    refine ⟨S, ⟨ht, ha, hT, hC, fun _ _ _ _ => rfl, RO.rf hC.2.1.2.1 hC.2.2.1⟩, ?_⟩
    show WP _ _ _ _ _ (some (.int e)) _ _ _ _ _ _ _
    have hL2 := ht.2.1
    refine wp_ild3 dX11_run_21 ?_
    refine wp_sipush (v := 200) dX11_run_22 (by decide) ?_
    refine wp_icmp_ge (tgt := 111) dX11_run_25 (by decide) (fun c_25 => ?_) (fun c_25 => absurd (nI_le (a := 200) (b := i) (by omega) (by omega)) c_25)
    refine wp_ild1 dX11_run_111 ?_
    exact wp_iret dX11_run_112 rfl (Nat.le_refl _) (Nat.le_refl _) (by rfl) (by rfl)
  | succ n ih =>
    intro p i it S e F q r hi hp hft hit ht ha hT hC hq hr
    have hL2 := ht.2.1
    by_cases hpL : p < Ln
    · have hft' := hft
      unfold ftR at hft'
      rw [if_neg (show ¬ Ln ≤ p by omega)] at hft'
      have he : eoI tx Ln p < Ln := Decidable.not_not.mp (fun z => by
        rw [it_no hp z] at hft'
        have hft' : nI it = -8 := hft'
        exact absurd (by rw [hft']; decide) (nI_pos (show it < 2 ^ 31 by omega)))
      have H := Smc.of (tx := tx) hp he
      rcases rd_item (F := S 4) H with ⟨h1, -⟩ | ⟨h1, j, hj, h2, h3, h4, h5, h6⟩
      · rw [h1] at hft'
        have hft' : nI it = -8 := hft'
        exact absurd (by rw [hft']; decide) (nI_pos (show it < 2 ^ 31 by omega))
      · rw [h1] at hft'
        have hft' : ftR tx Ln n (eoI tx Ln p + 1) (it + 1) = -8 := hft'
        have eI : itL tx Ln (n + 1) p = itX tx Ln p :: itL tx Ln n (eoI tx Ln p + 1) := by
          show (if Ln ≤ p then [] else match itA tx Ln p with | none => [] | some a' => itX tx Ln p :: itL tx Ln n a') = _
          rw [if_neg (show ¬ Ln ≤ p by omega), h1]
        rw [eI] at hq hr ⊢
        have hq : q + ((itL tx Ln n (eoI tx Ln p + 1)).length + 1) ≤ 100000 := hq
        have hr : r + 200 * ((itL tx Ln n (eoI tx Ln p + 1)).length + 1) ≤ 100000000 := hr
        have hop : isOp (itX tx Ln p).1 := by rw [h2]; exact isOp_of j hj
        have g1 : updS S 4 (rdL tx Ln p (eoI tx Ln p) 10 0 (S 4)).2 1 = S 1 := updS_ne (by decide)
        have g3 : updS S 4 (rdL tx Ln p (eoI tx Ln p) 10 0 (S 4)).2 3 = S 3 := updS_ne (by decide)
        have g4 : updS S 4 (rdL tx Ln p (eoI tx Ln p) 10 0 (S 4)).2 4 = (rdL tx Ln p (eoI tx Ln p) 10 0 (S 4)).2 := updS_eq
        have hC2 : CR (updS S 4 (rdL tx Ln p (eoI tx Ln p) 10 0 (S 4)).2) F q r := by unfold CR; rw [g1, g3]; exact hC
        obtain ⟨s1, s2, s3⟩ := op_step (op := (itX tx Ln p).1) (a := (itX tx Ln p).2.1) (b := (itX tx Ln p).2.2.1) (c := (itX tx Ln p).2.2.2) hC2 (by omega) (by omega) hop it_zero.1 it_zero.2
        have hA : OKa (updS S 4 (rdL tx Ln p (eoI tx Ln p) 10 0 (S 4)).2 4) := by rw [g4]; exact rdL_a 10 0 _ ha
        have hW2 : WI (updS S 4 (rdL tx Ln p (eoI tx Ln p) 10 0 (S 4)).2 1) := hC2.1.wc
        have hj2 : OKj (updS S 4 (rdL tx Ln p (eoI tx Ln p) 10 0 (S 4)).2 3) := hC2.2.2.2.1.ok hC.2.2.1
        have o4 : opS (updS S 4 (rdL tx Ln p (eoI tx Ln p) 10 0 (S 4)).2) (itX tx Ln p).1 (itX tx Ln p).2.1 (itX tx Ln p).2.2.1 (itX tx Ln p).2.2.2 4 = (rdL tx Ln p (eoI tx Ln p) 10 0 (S 4)).2 := (opS_o (by decide) (by decide)).trans g4
        obtain ⟨S', ⟨f1, f2, f3, f4, f5, f6⟩, kw⟩ := ih (eoI tx Ln p + 1) (i + 1) (it + 1) (opS (updS S 4 (rdL tx Ln p (eoI tx Ln p) 10 0 (S 4)).2) (itX tx Ln p).1 (itX tx Ln p).2.1 (itX tx Ln p).2.2.1 (itX tx Ln p).2.2.2) (if inP (opM F (itX tx Ln p).1 (itX tx Ln p).2.1 (itX tx Ln p).2.2.1 (itX tx Ln p).2.2.2).1 (-7) (-1) then e + 1 else e + 0) (opM F (itX tx Ln p).1 (itX tx Ln p).2.1 (itX tx Ln p).2.2.1 (itX tx Ln p).2.2.2).2 (q + 1) (r + 200) (by omega) (by omega) hft' (by omega) (by rw [o4]; exact (rdL_ok 10 0 _).t ht) (by rw [o4]; exact rdL_a 10 0 _ ha) (tok_op hT hC.2.1.2.1 hC.2.2.1) s2 (by omega) (by omega)
        have ro1 := ro_op (op := (itX tx Ln p).1) (a := (itX tx Ln p).2.1) (b := (itX tx Ln p).2.2.1) (c := (itX tx Ln p).2.2.2) hC.2.1.2.1 hC.2.2.1
        refine ⟨S', ⟨f1, f2, f3, ?_, fun k k1 k3 k4 => ?_, ro1.tr f6⟩, ?_⟩
        · rw [show q + (itX tx Ln p :: itL tx Ln n (eoI tx Ln p + 1)).length = q + 1 + (itL tx Ln n (eoI tx Ln p + 1)).length by show q + (_ + 1) = _; omega, show r + 200 * (itX tx Ln p :: itL tx Ln n (eoI tx Ln p + 1)).length = r + 200 + 200 * (itL tx Ln n (eoI tx Ln p + 1)).length by show r + 200 * (_ + 1) = _; omega]
          exact f4
        · rw [f5 k k1 k3 k4, opS_o k1 k3, updS_ne k4]
        · show WP _ _ _ _ _ (some (.int (rnA (itL tx Ln n (eoI tx Ln p + 1)) (opM F (itX tx Ln p).1 (itX tx Ln p).2.1 (itX tx Ln p).2.2.1 (itX tx Ln p).2.2.2).2 (if inP (opM F (itX tx Ln p).1 (itX tx Ln p).2.1 (itX tx Ln p).2.2.1 (itX tx Ln p).2.2.2).1 (-7) (-1) then e + 1 else e + 0)).1)) _ _ _ _ _ _ _
          generalize hE : (some (Value.int (rnA (itL tx Ln n (eoI tx Ln p + 1)) (opM F (itX tx Ln p).1 (itX tx Ln p).2.1 (itX tx Ln p).2.2.1 (itX tx Ln p).2.2.2).2 (if inP (opM F (itX tx Ln p).1 (itX tx Ln p).2.1 (itX tx Ln p).2.2.1 (itX tx Ln p).2.2.2).1 (-7) (-1) then e + 1 else e + 0)).1)) = RES at kw ⊢
          have eE : (if inP (opM F (itX tx Ln p).1 (itX tx Ln p).2.1 (itX tx Ln p).2.2.1 (itX tx Ln p).2.2.2).1 (-7) (-1) then e + 1 else e + 0) = if isE (perfF (updS S 4 (rdL tx Ln p (eoI tx Ln p) 10 0 (S 4)).2 1) (rdL tx Ln p (eoI tx Ln p) 10 0 (S 4)).1 (argF (updS S 4 (rdL tx Ln p (eoI tx Ln p) 10 0 (S 4)).2 4) (nI 0)) (argF (updS S 4 (rdL tx Ln p (eoI tx Ln p) 10 0 (S 4)).2 4) (nI 1)) (argF (updS S 4 (rdL tx Ln p (eoI tx Ln p) 10 0 (S 4)).2 4) (nI 2))).1 then e + 1 else e := by
            rw [g4, h4, h5, h6, h3, ← h2, s1]
            by_cases z : isE (opM F (itX tx Ln p).1 (itX tx Ln p).2.1 (itX tx Ln p).2.2.1 (itX tx Ln p).2.2.2).1
            · rw [if_pos z, if_pos (s3.mp z)]
            · rw [if_neg z, if_neg (fun y => z (s3.mpr y)), Int32.add_zero]
          have eS : opS (updS S 4 (rdL tx Ln p (eoI tx Ln p) 10 0 (S 4)).2) (itX tx Ln p).1 (itX tx Ln p).2.1 (itX tx Ln p).2.2.1 (itX tx Ln p).2.2.2 = opS (updS S 4 (rdL tx Ln p (eoI tx Ln p) 10 0 (S 4)).2) (rdL tx Ln p (eoI tx Ln p) 10 0 (S 4)).1 (argF (updS S 4 (rdL tx Ln p (eoI tx Ln p) 10 0 (S 4)).2 4) (nI 0)) (argF (updS S 4 (rdL tx Ln p (eoI tx Ln p) 10 0 (S 4)).2 4) (nI 1)) (argF (updS S 4 (rdL tx Ln p (eoI tx Ln p) 10 0 (S 4)).2 4) (nI 2)) := by
            rw [g4, h4, h5, h6, h3, ← h2]
          rw [eE, eS] at kw
          clear eE eS o4 s1 s2 s3 f3 f4 f6 hE
          refine wp_ild3 dX11_run_21 ?_
          refine wp_sipush (v := 200) dX11_run_22 (by decide) ?_
          refine wp_icmp_ge (tgt := 111) dX11_run_25 (by decide) (fun c_25 => absurd c_25 (nI_ge (a := i) (b := 200) (by omega) (by omega))) (fun c_25 => ?_)
          refine wp_ild2 dX11_run_28 ?_
          refine wp_ald0 dX11_run_29 ?_
          refine gX_script dX11_run_30 fX11_29 hX ?_
          refine gX_Plength dX11_run_33 fX11_240 hX ?_
          refine wp_icmp_ge (tgt := 111) dX11_run_36 (by decide) (fun c_36 => absurd c_36 (by rw [ht.1]; exact nI_ge (by omega) (by omega))) (fun c_36 => ?_)
          refine wp_ald0 dX11_run_39 ?_
          refine gX_script dX11_run_40 fX11_29 hX ?_
          refine wp_ild2 dX11_run_43 ?_
          refine xPi_1 dX11_run_44 kX11_245 (xp_endOf (d := d - 1) hG hX ht (by omega) (by omega)) hX rfl (by omega) (Nat.le_of_ble_eq_true rfl) (Nat.le_refl _) (Nat.le_refl _) ?_
          refine wp_ist4 dX11_run_47 (by decide) rfl ?_
          refine wp_ald0 dX11_run_49 ?_
          refine gX_script dX11_run_50 fX11_29 hX ?_
          refine wp_ild2 dX11_run_53 ?_
          refine wp_ild4 dX11_run_54 ?_
          refine xPi_2 dX11_run_56 kX11_248 (xp_read (d := d - 1) hG hX hN hf ht (by omega) (by omega) (by omega)) hX rfl (by omega) (Nat.le_of_ble_eq_true rfl) (Nat.le_refl _) (Nat.le_refl _) ?_
          refine wp_ist5 dX11_run_59 (by decide) rfl ?_
          refine wp_ald0 dX11_run_61 ?_
          refine wp_ild5 dX11_run_62 ?_
          refine wp_ald0 dX11_run_64 ?_
          refine gX_script dX11_run_65 fX11_29 hX ?_
          refine wp_iconst (v := 0) dX11_run_68 (by decide) ?_
          refine xPi_1 dX11_run_69 kX11_251 (xp_arg (d := d - 1) (i := 0) hG hX hA (by decide)) hX rfl (by omega) (Nat.le_of_ble_eq_true rfl) (Nat.le_refl _) (Nat.le_refl _) ?_
          refine wp_ald0 dX11_run_72 ?_
          refine gX_script dX11_run_73 fX11_29 hX ?_
          refine wp_iconst (v := 1) dX11_run_76 (by decide) ?_
          refine xPi_1 dX11_run_77 kX11_251 (xp_arg (d := d - 1) (i := 1) hG hX hA (by decide)) hX rfl (by omega) (Nat.le_of_ble_eq_true rfl) (Nat.le_refl _) (Nat.le_refl _) ?_
          refine wp_ald0 dX11_run_80 ?_
          refine gX_script dX11_run_81 fX11_29 hX ?_
          refine wp_iconst (v := 2) dX11_run_84 (by decide) ?_
          refine xPi_1 dX11_run_85 kX11_251 (xp_arg (d := d - 1) (i := 2) hG hX hA (by decide)) hX rfl (by omega) (Nat.le_of_ble_eq_true rfl) (Nat.le_refl _) (Nat.le_refl _) ?_
          refine xXi_4 dX11_run_88 kX11_86 (cX_operate (d := d - 1) hG hX hW2 hj2 (by omega)) hX rfl (by omega) (Nat.le_of_ble_eq_true rfl) (Nat.le_refl _) (Nat.le_refl _) ?_
          refine ci_1 dX11_run_91 kX11_93 (ct_isError (d := d - 1)) (by omega) (Nat.le_of_ble_eq_true rfl) (Nat.le_refl _) (Nat.le_refl _) ?_
          refine wp_ifB_eq (tgt := 100) dX11_run_94 (by decide) (fun c_94 => ?_) (fun c_94 => ?_)
          · refine wp_ild4 dX11_run_100 ?_
            refine wp_iconst (v := 1) dX11_run_102 (by decide) ?_
            refine wp_iaddN (a := (eoI tx Ln p)) (b := 1) rfl (by decide) dX11_run_103 ?_
            refine wp_ist2 dX11_run_104 (by decide) rfl ?_
            refine wp_inc3 dX11_run_105 (by decide) rfl ?_
            refine wp_goto (tgt := 21) dX11_run_108 (by decide) ?_
            rw [if_neg c_94] at kw
            exact WP.fg (by simp [lcle]) kw
          · refine wp_iinc1 dX11_run_97 (by decide) rfl ?_
            refine wp_ild4 dX11_run_100 ?_
            refine wp_iconst (v := 1) dX11_run_102 (by decide) ?_
            refine wp_iaddN (a := (eoI tx Ln p)) (b := 1) rfl (by decide) dX11_run_103 ?_
            refine wp_ist2 dX11_run_104 (by decide) rfl ?_
            refine wp_inc3 dX11_run_105 (by decide) rfl ?_
            refine wp_goto (tgt := 21) dX11_run_108 (by decide) ?_
            rw [if_pos c_94] at kw
            exact WP.fg (by simp [lcle]) kw
    · have eI : itL tx Ln (n + 1) p = [] := by
        show (if Ln ≤ p then [] else match itA tx Ln p with | none => [] | some a' => itX tx Ln p :: itL tx Ln n a') = _
        rw [if_pos (show Ln ≤ p by omega)]
      rw [eI]
      refine ⟨S, ⟨ht, ha, hT, hC, fun _ _ _ _ => rfl, RO.rf hC.2.1.2.1 hC.2.2.1⟩, ?_⟩
      show WP _ _ _ _ _ (some (.int e)) _ _ _ _ _ _ _
      refine wp_ild3 dX11_run_21 ?_
      refine wp_sipush (v := 200) dX11_run_22 (by decide) ?_
      refine wp_icmp_ge (tgt := 111) dX11_run_25 (by decide) (fun c_25 => absurd c_25 (nI_ge (a := i) (b := 200) (by omega) (by omega))) (fun c_25 => ?_)
      refine wp_ild2 dX11_run_28 ?_
      refine wp_ald0 dX11_run_29 ?_
      refine gX_script dX11_run_30 fX11_29 hX ?_
      refine gX_Plength dX11_run_33 fX11_240 hX ?_
      refine wp_icmp_ge (tgt := 111) dX11_run_36 (by decide) (fun c_36 => ?_) (fun c_36 => absurd (by rw [ht.1]; exact nI_le (by omega) (by omega)) c_36)
      refine wp_ild1 dX11_run_111 ?_
      exact wp_iret dX11_run_112 rfl (Nat.le_refl _) (Nat.le_refl _) (by rfl) (by rfl)
