section INC
variable {G : GG} {mi : MI} {d mc ms : Nat} {res : Option Value} {M' : Mem} {pc : Nat} {lc : List (Option Value)} {st : List Value} {M : Mem} {k n : Nat}
theorem wp_inc0 {r : List (Option Value)} {x : Nat} (hd : decode mi.2.1 pc = .ok (.iinc 0 1, 3)) (hn : 0 < mi.2.2.1) (hf : lc_fr (some (.int (nI x)) :: r) 0 = true) (kk : WP G mi d mc ms res M' (pc + 3) (some (.int (nI (x + 1))) :: r) st M k n) : WP G mi d mc ms res M' pc (some (.int (nI x)) :: r) st M k n := wp_iinc0 hd hn hf (by rw [show nI x + Int32.ofInt 1 = nI (x + 1) from (nI_succ x).symm]; exact kk)
theorem wp_inc1 {v0 : Option Value} {r : List (Option Value)} {x : Nat} (hd : decode mi.2.1 pc = .ok (.iinc 1 1, 3)) (hn : 1 < mi.2.2.1) (hf : lc_fr (v0 :: some (.int (nI x)) :: r) 1 = true) (kk : WP G mi d mc ms res M' (pc + 3) (v0 :: some (.int (nI (x + 1))) :: r) st M k n) : WP G mi d mc ms res M' pc (v0 :: some (.int (nI x)) :: r) st M k n := wp_iinc1 hd hn hf (by rw [show nI x + Int32.ofInt 1 = nI (x + 1) from (nI_succ x).symm]; exact kk)
theorem wp_inc2 {v0 v1 : Option Value} {r : List (Option Value)} {x : Nat} (hd : decode mi.2.1 pc = .ok (.iinc 2 1, 3)) (hn : 2 < mi.2.2.1) (hf : lc_fr (v0 :: v1 :: some (.int (nI x)) :: r) 2 = true) (kk : WP G mi d mc ms res M' (pc + 3) (v0 :: v1 :: some (.int (nI (x + 1))) :: r) st M k n) : WP G mi d mc ms res M' pc (v0 :: v1 :: some (.int (nI x)) :: r) st M k n := wp_iinc2 hd hn hf (by rw [show nI x + Int32.ofInt 1 = nI (x + 1) from (nI_succ x).symm]; exact kk)
theorem wp_inc3 {v0 v1 v2 : Option Value} {r : List (Option Value)} {x : Nat} (hd : decode mi.2.1 pc = .ok (.iinc 3 1, 3)) (hn : 3 < mi.2.2.1) (hf : lc_fr (v0 :: v1 :: v2 :: some (.int (nI x)) :: r) 3 = true) (kk : WP G mi d mc ms res M' (pc + 3) (v0 :: v1 :: v2 :: some (.int (nI (x + 1))) :: r) st M k n) : WP G mi d mc ms res M' pc (v0 :: v1 :: v2 :: some (.int (nI x)) :: r) st M k n := wp_iinc3 hd hn hf (by rw [show nI x + Int32.ofInt 1 = nI (x + 1) from (nI_succ x).symm]; exact kk)
theorem wp_inc4 {v0 v1 v2 v3 : Option Value} {r : List (Option Value)} {x : Nat} (hd : decode mi.2.1 pc = .ok (.iinc 4 1, 3)) (hn : 4 < mi.2.2.1) (hf : lc_fr (v0 :: v1 :: v2 :: v3 :: some (.int (nI x)) :: r) 4 = true) (kk : WP G mi d mc ms res M' (pc + 3) (v0 :: v1 :: v2 :: v3 :: some (.int (nI (x + 1))) :: r) st M k n) : WP G mi d mc ms res M' pc (v0 :: v1 :: v2 :: v3 :: some (.int (nI x)) :: r) st M k n := wp_iinc4 hd hn hf (by rw [show nI x + Int32.ofInt 1 = nI (x + 1) from (nI_succ x).symm]; exact kk)
theorem wp_inc5 {v0 v1 v2 v3 v4 : Option Value} {r : List (Option Value)} {x : Nat} (hd : decode mi.2.1 pc = .ok (.iinc 5 1, 3)) (hn : 5 < mi.2.2.1) (hf : lc_fr (v0 :: v1 :: v2 :: v3 :: v4 :: some (.int (nI x)) :: r) 5 = true) (kk : WP G mi d mc ms res M' (pc + 3) (v0 :: v1 :: v2 :: v3 :: v4 :: some (.int (nI (x + 1))) :: r) st M k n) : WP G mi d mc ms res M' pc (v0 :: v1 :: v2 :: v3 :: v4 :: some (.int (nI x)) :: r) st M k n := wp_iinc5 hd hn hf (by rw [show nI x + Int32.ofInt 1 = nI (x + 1) from (nI_succ x).symm]; exact kk)
theorem wp_inc6 {v0 v1 v2 v3 v4 v5 : Option Value} {r : List (Option Value)} {x : Nat} (hd : decode mi.2.1 pc = .ok (.iinc 6 1, 3)) (hn : 6 < mi.2.2.1) (hf : lc_fr (v0 :: v1 :: v2 :: v3 :: v4 :: v5 :: some (.int (nI x)) :: r) 6 = true) (kk : WP G mi d mc ms res M' (pc + 3) (v0 :: v1 :: v2 :: v3 :: v4 :: v5 :: some (.int (nI (x + 1))) :: r) st M k n) : WP G mi d mc ms res M' pc (v0 :: v1 :: v2 :: v3 :: v4 :: v5 :: some (.int (nI x)) :: r) st M k n := wp_iinc6 hd hn hf (by rw [show nI x + Int32.ofInt 1 = nI (x + 1) from (nI_succ x).symm]; exact kk)
theorem wp_inc7 {v0 v1 v2 v3 v4 v5 v6 : Option Value} {r : List (Option Value)} {x : Nat} (hd : decode mi.2.1 pc = .ok (.iinc 7 1, 3)) (hn : 7 < mi.2.2.1) (hf : lc_fr (v0 :: v1 :: v2 :: v3 :: v4 :: v5 :: v6 :: some (.int (nI x)) :: r) 7 = true) (kk : WP G mi d mc ms res M' (pc + 3) (v0 :: v1 :: v2 :: v3 :: v4 :: v5 :: v6 :: some (.int (nI (x + 1))) :: r) st M k n) : WP G mi d mc ms res M' pc (v0 :: v1 :: v2 :: v3 :: v4 :: v5 :: v6 :: some (.int (nI x)) :: r) st M k n := wp_iinc7 hd hn hf (by rw [show nI x + Int32.ofInt 1 = nI (x + 1) from (nI_succ x).symm]; exact kk)
theorem wp_inc8 {v0 v1 v2 v3 v4 v5 v6 v7 : Option Value} {r : List (Option Value)} {x : Nat} (hd : decode mi.2.1 pc = .ok (.iinc 8 1, 3)) (hn : 8 < mi.2.2.1) (hf : lc_fr (v0 :: v1 :: v2 :: v3 :: v4 :: v5 :: v6 :: v7 :: some (.int (nI x)) :: r) 8 = true) (kk : WP G mi d mc ms res M' (pc + 3) (v0 :: v1 :: v2 :: v3 :: v4 :: v5 :: v6 :: v7 :: some (.int (nI (x + 1))) :: r) st M k n) : WP G mi d mc ms res M' pc (v0 :: v1 :: v2 :: v3 :: v4 :: v5 :: v6 :: v7 :: some (.int (nI x)) :: r) st M k n := wp_iinc8 hd hn hf (by rw [show nI x + Int32.ofInt 1 = nI (x + 1) from (nI_succ x).symm]; exact kk)
theorem wp_inc9 {v0 v1 v2 v3 v4 v5 v6 v7 v8 : Option Value} {r : List (Option Value)} {x : Nat} (hd : decode mi.2.1 pc = .ok (.iinc 9 1, 3)) (hn : 9 < mi.2.2.1) (hf : lc_fr (v0 :: v1 :: v2 :: v3 :: v4 :: v5 :: v6 :: v7 :: v8 :: some (.int (nI x)) :: r) 9 = true) (kk : WP G mi d mc ms res M' (pc + 3) (v0 :: v1 :: v2 :: v3 :: v4 :: v5 :: v6 :: v7 :: v8 :: some (.int (nI (x + 1))) :: r) st M k n) : WP G mi d mc ms res M' pc (v0 :: v1 :: v2 :: v3 :: v4 :: v5 :: v6 :: v7 :: v8 :: some (.int (nI x)) :: r) st M k n := wp_iinc9 hd hn hf (by rw [show nI x + Int32.ofInt 1 = nI (x + 1) from (nI_succ x).symm]; exact kk)
theorem wp_inc10 {v0 v1 v2 v3 v4 v5 v6 v7 v8 v9 : Option Value} {r : List (Option Value)} {x : Nat} (hd : decode mi.2.1 pc = .ok (.iinc 10 1, 3)) (hn : 10 < mi.2.2.1) (hf : lc_fr (v0 :: v1 :: v2 :: v3 :: v4 :: v5 :: v6 :: v7 :: v8 :: v9 :: some (.int (nI x)) :: r) 10 = true) (kk : WP G mi d mc ms res M' (pc + 3) (v0 :: v1 :: v2 :: v3 :: v4 :: v5 :: v6 :: v7 :: v8 :: v9 :: some (.int (nI (x + 1))) :: r) st M k n) : WP G mi d mc ms res M' pc (v0 :: v1 :: v2 :: v3 :: v4 :: v5 :: v6 :: v7 :: v8 :: v9 :: some (.int (nI x)) :: r) st M k n := wp_iinc10 hd hn hf (by rw [show nI x + Int32.ofInt 1 = nI (x + 1) from (nI_succ x).symm]; exact kk)
theorem wp_inc11 {v0 v1 v2 v3 v4 v5 v6 v7 v8 v9 v10 : Option Value} {r : List (Option Value)} {x : Nat} (hd : decode mi.2.1 pc = .ok (.iinc 11 1, 3)) (hn : 11 < mi.2.2.1) (hf : lc_fr (v0 :: v1 :: v2 :: v3 :: v4 :: v5 :: v6 :: v7 :: v8 :: v9 :: v10 :: some (.int (nI x)) :: r) 11 = true) (kk : WP G mi d mc ms res M' (pc + 3) (v0 :: v1 :: v2 :: v3 :: v4 :: v5 :: v6 :: v7 :: v8 :: v9 :: v10 :: some (.int (nI (x + 1))) :: r) st M k n) : WP G mi d mc ms res M' pc (v0 :: v1 :: v2 :: v3 :: v4 :: v5 :: v6 :: v7 :: v8 :: v9 :: v10 :: some (.int (nI x)) :: r) st M k n := wp_iinc11 hd hn hf (by rw [show nI x + Int32.ofInt 1 = nI (x + 1) from (nI_succ x).symm]; exact kk)
end INC
def lcle : List (Option Value) → List (Option Value) → Prop
  | [], _ => True
  | none :: a, _ :: b => lcle a b
  | some v :: a, some u :: b => u = v ∧ lcle a b
  | _ :: _, _ => False
theorem lcle_at : ∀ {a b : List (Option Value)}, lcle a b → ∀ (i : Nat) (v : Value), a[i]? = some (some v) → b[i]? = some (some v)
  | [], _, _, i, v, h => by simp at h
  | none :: a, [], hl, i, v, h => by simp [lcle] at hl
  | none :: a, _ :: b, hl, 0, v, h => by simp at h
  | none :: a, _ :: b, hl, i + 1, v, h => by simpa using lcle_at (a := a) (b := b) hl i v (by simpa using h)
  | some u :: a, [], hl, i, v, h => by simp [lcle] at hl
  | some u :: a, none :: b, hl, i, v, h => by simp [lcle] at hl
  | some u :: a, some u' :: b, hl, 0, v, h => by
    have := hl.1; subst this; simpa using h
  | some u :: a, some u' :: b, hl, i + 1, v, h => by simpa using lcle_at (a := a) (b := b) hl.2 i v (by simpa using h)
theorem WP.fg {G : GG} {mi : MI} {d mc ms : Nat} {res : Option Value} {M' : Mem} {pc : Nat} {lc lc2 : List (Option Value)} {st : List Value} {M : Mem} {k n : Nat} (h : lcle lc2 lc) (kk : WP G mi d mc ms res M' pc lc2 st M k n) : WP G mi d mc ms res M' pc lc st M k n := WP.loc (lcle_at h) kk
theorem nat_of {x : Int32} {s : Nat} (h0 : ¬ x < 0) (h1 : ¬ nI s ≤ x) (hs : s < 2 ^ 31) : x = nI x.toNatClampNeg ∧ x.toNatClampNeg < s := by
  have a0 : (0 : Int) ≤ x.toInt := by
    have := Int32.not_lt.mp h0
    simpa using Int32.le_iff_toInt_le.mp this
  have a1 : x.toInt < (s : Int) := by
    have := Int32.not_le.mp h1
    have := Int32.lt_iff_toInt_lt.mp this
    rwa [nI_toInt hs] at this
  have e : ((x.toNatClampNeg : Nat) : Int) = x.toInt := by
    show ((x.toInt.toNat : Nat) : Int) = x.toInt
    omega
  refine ⟨Int32.toInt_inj.mp ?_, by omega⟩
  rw [nI_toInt (by omega), e]

set_option maxHeartbeats 1000000 in
theorem ct_isHeld {G : GG} {B : Nat} {C : Nat → Int32} {E0 : Nat → va_E} {L : List Nat} {sz d : Nat} {o : Nat} (hG : GOK G) (hL : rIn (wR G B) L) (ho : o < 8) : Ct G d yX3_isHeld iX3_isHeld [.ref (aLk B o)] (Wm G B C E0 L sz) 0 0 (some (.int (bI (¬ C (62 + o) ≤ 0)))) (Wm G B (C) E0 L sz) := by
  refine Ct.of 0 (by decide) rfl (by decide) (Nat.le_of_ble_eq_true rfl) ?_
  show WP _ _ _ _ _ _ _ 0 [some (.ref (aLk B o))] [] _ 0 0
  refine wp_ald0 dX3_isHeld_0 ?_
  refine g_Lock_entries dX3_isHeld_1 fX3_53 hL (by assumption) ?_
  refine wp_if_le (tgt := 11) dX3_isHeld_4 (by decide) (fun c_4 => ?_) (fun c_4 => ?_)
  · refine wp_iconst (v := 0) dX3_isHeld_11 (by decide) ?_
    exact wp_zret dX3_isHeld_12 rfl rfl (Nat.le_refl _) (Nat.le_refl _) (by first | rfl | (simp [bI, c_4]; done)) (by first | rfl | (simp [bI, c_4]; done))
  · refine wp_iconst (v := 1) dX3_isHeld_7 (by decide) ?_
    refine wp_goto (tgt := 12) dX3_isHeld_8 (by decide) ?_
    exact wp_zret dX3_isHeld_12 rfl rfl (Nat.le_refl _) (Nat.le_refl _) (by first | rfl | (simp [bI, c_4]; done)) (by first | rfl | (simp [bI, c_4]; done))

set_option maxHeartbeats 1000000 in
theorem ct_isHeldBy {G : GG} {B : Nat} {C : Nat → Int32} {E0 : Nat → va_E} {L : List Nat} {sz d : Nat} {o : Nat} {t : Int32} (hG : GOK G) (hL : rIn (wR G B) L) (ho : o < 8) (hdp : 1 ≤ d) : Ct G d yX3_isHeldBy iX3_isHeldBy [.ref (aLk B o), .int t] (Wm G B C E0 L sz) 0 0 (some (.int (bI (¬ C (62 + o) ≤ 0 ∧ C (54 + o) = t)))) (Wm G B (C) E0 L sz) := by
  refine Ct.of 0 (by decide) rfl (by decide) (Nat.le_of_ble_eq_true rfl) ?_
  show WP _ _ _ _ _ _ _ 0 [some (.ref (aLk B o)), some (.int t)] [] _ 0 0
  refine wp_ald0 dX3_isHeldBy_0 ?_
  refine vi_Lock0 dX3_isHeldBy_1 kX3_56 (ct_isHeld (d := d - 1) hG hL ho) hL (by assumption) rfl (by omega) (Nat.le_of_ble_eq_true rfl) (Nat.le_refl _) (Nat.le_refl _) ?_
  refine wp_ifB_eq (tgt := 19) dX3_isHeldBy_4 (by decide) (fun c_4 => ?_) (fun c_4 => ?_)
  · refine wp_iconst (v := 0) dX3_isHeldBy_19 (by decide) ?_
    exact wp_zret dX3_isHeldBy_20 rfl rfl (Nat.le_refl _) (Nat.le_refl _) (by first | rfl | (simp [bI, c_4]; done)) (by first | rfl | (simp [bI, c_4]; done))
  · refine wp_ald0 dX3_isHeldBy_7 ?_
    refine g_Lock_holder dX3_isHeldBy_8 fX3_60 hL (by assumption) ?_
    refine wp_ild1 dX3_isHeldBy_11 ?_
    refine wp_icmp_ne (tgt := 19) dX3_isHeldBy_12 (by decide) (fun c_12 => ?_) (fun c_12 => ?_)
    · refine wp_iconst (v := 0) dX3_isHeldBy_19 (by decide) ?_
      exact wp_zret dX3_isHeldBy_20 rfl rfl (Nat.le_refl _) (Nat.le_refl _) (by first | rfl | (simp [bI, c_4, c_12]; done)) (by first | rfl | (simp [bI, c_4, c_12]; done))
    · refine wp_iconst (v := 1) dX3_isHeldBy_15 (by decide) ?_
      refine wp_goto (tgt := 20) dX3_isHeldBy_16 (by decide) ?_
      exact wp_zret dX3_isHeldBy_20 rfl rfl (Nat.le_refl _) (Nat.le_refl _) (by first | rfl | (simp [bI, c_4, c_12]; done)) (by first | rfl | (simp [bI, c_4, c_12]; done))

set_option maxHeartbeats 1000000 in
theorem ct_isIdle {G : GG} {B : Nat} {C : Nat → Int32} {E0 : Nat → va_E} {L : List Nat} {sz d : Nat} {o : Nat} (hG : GOK G) (hL : rIn (wR G B) L) (ho : o < 8) : Ct G d yX3_isIdle iX3_isIdle [.ref (aLk B o)] (Wm G B C E0 L sz) 0 0 (some (.int (bI (C (46 + o) = 4 ∧ C (62 + o) = 0 ∧ C (110 + o) = 0 ∧ C (118 + o) = 0)))) (Wm G B (C) E0 L sz) := by
  refine Ct.of 0 (by decide) rfl (by decide) (Nat.le_of_ble_eq_true rfl) ?_
  show WP _ _ _ _ _ _ _ 0 [some (.ref (aLk B o))] [] _ 0 0
  refine wp_ald0 dX3_isIdle_0 ?_
  refine g_Lock_state dX3_isIdle_1 fX3_28 hL (by assumption) ?_
  refine wp_iconst (v := 4) dX3_isIdle_4 (by decide) ?_
  refine wp_icmp_ne (tgt := 39) dX3_isIdle_5 (by decide) (fun c_5 => ?_) (fun c_5 => ?_)
  · refine wp_iconst (v := 0) dX3_isIdle_39 (by decide) ?_
    exact wp_zret dX3_isIdle_40 rfl rfl (Nat.le_refl _) (Nat.le_refl _) (by first | rfl | (simp [bI, c_5]; done)) (by first | rfl | (simp [bI, c_5]; done))
  · refine wp_ald0 dX3_isIdle_8 ?_
    refine g_Lock_entries dX3_isIdle_9 fX3_53 hL (by assumption) ?_
    refine wp_if_ne (tgt := 39) dX3_isIdle_12 (by decide) (fun c_12 => ?_) (fun c_12 => ?_)
    · refine wp_iconst (v := 0) dX3_isIdle_39 (by decide) ?_
      exact wp_zret dX3_isIdle_40 rfl rfl (Nat.le_refl _) (Nat.le_refl _) (by first | rfl | (simp [bI, c_5, c_12]; done)) (by first | rfl | (simp [bI, c_5, c_12]; done))
    · refine wp_ald0 dX3_isIdle_15 ?_
      refine g_Lock_queue dX3_isIdle_16 fX3_12 hL (by assumption) ?_
      refine g_Line_sizeN (j := 14 + 5 * o) rfl dX3_isIdle_19 hL (LNq (by assumption)) ?_
      refine wp_if_ne (tgt := 39) dX3_isIdle_22 (by decide) (fun c_22 => ?_) (fun c_22 => ?_)
      · refine wp_iconst (v := 0) dX3_isIdle_39 (by decide) ?_
        exact wp_zret dX3_isIdle_40 rfl rfl (Nat.le_refl _) (Nat.le_refl _) (by first | rfl | (simp [bI, c_5, c_12, c_22]; done)) (by first | rfl | (simp [bI, c_5, c_12, c_22]; done))
      · refine wp_ald0 dX3_isIdle_25 ?_
        refine g_Lock_waitSet dX3_isIdle_26 fX3_18 hL (by assumption) ?_
        refine g_Line_sizeN (j := 16 + 5 * o) rfl dX3_isIdle_29 hL (LNw (by assumption)) ?_
        refine wp_if_ne (tgt := 39) dX3_isIdle_32 (by decide) (fun c_32 => ?_) (fun c_32 => ?_)
        · refine wp_iconst (v := 0) dX3_isIdle_39 (by decide) ?_
          exact wp_zret dX3_isIdle_40 rfl rfl (Nat.le_refl _) (Nat.le_refl _) (by first | rfl | (simp [bI, c_5, c_12, c_22, c_32]; done)) (by first | rfl | (simp [bI, c_5, c_12, c_22, c_32]; done))
        · refine wp_iconst (v := 1) dX3_isIdle_35 (by decide) ?_
          refine wp_goto (tgt := 40) dX3_isIdle_36 (by decide) ?_
          exact wp_zret dX3_isIdle_40 rfl rfl (Nat.le_refl _) (Nat.le_refl _) (by first | rfl | (simp [bI, c_5, c_12, c_22, c_32]; done)) (by first | rfl | (simp [bI, c_5, c_12, c_22, c_32]; done))

def giveF (C : Nat → Int32) (o : Nat) (t x : Int32) : Nat → Int32 := upd (upd C (54 + o) t) (62 + o) x
set_option maxHeartbeats 1000000 in
theorem ct_give {G : GG} {B : Nat} {C : Nat → Int32} {E0 : Nat → va_E} {L : List Nat} {sz d : Nat} {o : Nat} {t x : Int32} (hG : GOK G) (hL : rIn (wR G B) L) (ho : o < 8) : Ct G d yX3_give iX3_give [.ref (aLk B o), .int t, .int x] (Wm G B C E0 L sz) 0 0 none (Wm G B (giveF C o t x) E0 L sz) := by
  refine Ct.of 0 (by decide) rfl (by decide) (Nat.le_of_ble_eq_true rfl) ?_
  show WP _ _ _ _ _ _ _ 0 [some (.ref (aLk B o)), some (.int t), some (.int x)] [] _ 0 0
  refine wp_ald0 dX3_give_0 ?_
  refine wp_ild1 dX3_give_1 ?_
  refine p_Lock_holder dX3_give_2 pX3_60 hL (by assumption) ?_
  refine wp_ald0 dX3_give_5 ?_
  refine wp_ild2 dX3_give_6 ?_
  refine p_Lock_entries dX3_give_7 pX3_53 hL (by assumption) ?_
  exact wp_vret dX3_give_10 rfl (Nat.le_refl _) (Nat.le_refl _) (by first | rfl | (simp only [giveF]; done) | (simp only [giveF]; rfl)) (by first | rfl | (simp only [giveF]; done) | (simp only [giveF]; rfl))

def letGoF (C : Nat → Int32) (o : Nat) : Nat → Int32 := upd (upd C (54 + o) (-8)) (62 + o) 0
set_option maxHeartbeats 1000000 in
theorem ct_letGo {G : GG} {B : Nat} {C : Nat → Int32} {E0 : Nat → va_E} {L : List Nat} {sz d : Nat} {o : Nat} (hG : GOK G) (hL : rIn (wR G B) L) (ho : o < 8) : Ct G d yX3_letGo iX3_letGo [.ref (aLk B o)] (Wm G B C E0 L sz) 0 0 none (Wm G B (letGoF C o) E0 L sz) := by
  refine Ct.of 0 (by decide) rfl (by decide) (Nat.le_of_ble_eq_true rfl) ?_
  show WP _ _ _ _ _ _ _ 0 [some (.ref (aLk B o))] [] _ 0 0
  refine wp_ald0 dX3_letGo_0 ?_
  refine wp_bipush (v := (-8)) dX3_letGo_1 (by decide) ?_
  refine p_Lock_holder dX3_letGo_3 pX3_60 hL (by assumption) ?_
  refine wp_ald0 dX3_letGo_6 ?_
  refine wp_iconst (v := 0) dX3_letGo_7 (by decide) ?_
  refine p_Lock_entries dX3_letGo_8 pX3_53 hL (by assumption) ?_
  exact wp_vret dX3_letGo_11 rfl (Nat.le_refl _) (Nat.le_refl _) (by first | rfl | (simp only [letGoF]; done) | (simp only [letGoF]; rfl)) (by first | rfl | (simp only [letGoF]; done) | (simp only [letGoF]; rfl))

def loseF (C : Nat → Int32) (o : Nat) : Nat → Int32 := upd C (46 + o) (if C (62 + o) ≤ 0 then 0 else 3)
set_option maxHeartbeats 1000000 in
theorem ct_loseBias {G : GG} {B : Nat} {C : Nat → Int32} {E0 : Nat → va_E} {L : List Nat} {sz d : Nat} {o : Nat} (hG : GOK G) (hL : rIn (wR G B) L) (ho : o < 8) : Ct G d yX3_loseBias iX3_loseBias [.ref (aLk B o)] (Wm G B C E0 L sz) 0 0 none (Wm G B (loseF C o) E0 L sz) := by
  refine Ct.of 0 (by decide) rfl (by decide) (Nat.le_of_ble_eq_true rfl) ?_
  show WP _ _ _ _ _ _ _ 0 [some (.ref (aLk B o))] [] _ 0 0
  refine wp_ald0 dX3_loseBias_0 ?_
  refine wp_ald0 dX3_loseBias_1 ?_
  refine g_Lock_entries dX3_loseBias_2 fX3_53 hL (by assumption) ?_
  refine wp_if_le (tgt := 12) dX3_loseBias_5 (by decide) (fun c_5 => ?_) (fun c_5 => ?_)
  · refine wp_iconst (v := 0) dX3_loseBias_12 (by decide) ?_
    refine p_Lock_state dX3_loseBias_13 pX3_28 hL (by assumption) ?_
    exact wp_vret dX3_loseBias_16 rfl (Nat.le_refl _) (Nat.le_refl _) (by first | rfl | (simp only [loseF, if_pos c_5]; done) | (simp only [loseF, if_pos c_5]; rfl)) (by first | rfl | (simp only [loseF, if_pos c_5]; done) | (simp only [loseF, if_pos c_5]; rfl))
  · refine wp_iconst (v := 3) dX3_loseBias_8 (by decide) ?_
    refine wp_goto (tgt := 13) dX3_loseBias_9 (by decide) ?_
    refine p_Lock_state dX3_loseBias_13 pX3_28 hL (by assumption) ?_
    exact wp_vret dX3_loseBias_16 rfl (Nat.le_refl _) (Nat.le_refl _) (by first | rfl | (simp only [loseF, if_neg c_5]; done) | (simp only [loseF, if_neg c_5]; rfl)) (by first | rfl | (simp only [loseF, if_neg c_5]; done) | (simp only [loseF, if_neg c_5]; rfl))

def leaveF (C : Nat → Int32) (t : Nat) (x : Int32) : Nat → Int32 := upd (upd C (10 + t) x) (28 + t) (-8)
set_option maxHeartbeats 1000000 in
theorem ct_leave {G : GG} {B : Nat} {C : Nat → Int32} {E0 : Nat → va_E} {L : List Nat} {sz d : Nat} {t : Nat} {x : Int32} (hG : GOK G) (hL : rIn (wR G B) L) (ht : t < 6) : Ct G d yX8_leavePlace iX8_leavePlace [.ref (aSt B t), .int x] (Wm G B C E0 L sz) 0 0 none (Wm G B (leaveF C t x) E0 L sz) := by
  refine Ct.of 0 (by decide) rfl (by decide) (Nat.le_of_ble_eq_true rfl) ?_
  show WP _ _ _ _ _ _ _ 0 [some (.ref (aSt B t)), some (.int x)] [] _ 0 0
  refine wp_ald0 dX8_leavePlace_0 ?_
  refine wp_ild1 dX8_leavePlace_1 ?_
  refine p_Strand_state dX8_leavePlace_2 pX8_11 hL (by assumption) ?_
  refine wp_ald0 dX8_leavePlace_5 ?_
  refine wp_bipush (v := (-8)) dX8_leavePlace_6 (by decide) ?_
  refine p_Strand_place dX8_leavePlace_8 pX8_19 hL (by assumption) ?_
  exact wp_vret dX8_leavePlace_11 rfl (Nat.le_refl _) (Nat.le_refl _) (by first | rfl | (simp only [leaveF]; done) | (simp only [leaveF]; rfl)) (by first | rfl | (simp only [leaveF]; done) | (simp only [leaveF]; rfl))

def sclrF (C : Nat → Int32) (t : Nat) : Nat → Int32 := upd (upd (upd (upd (upd (upd C (10 + t) 0) (16 + t) 0) (28 + t) (-8)) (34 + t) (-1)) (40 + t) 1) (22 + t) (-8)
set_option maxHeartbeats 1000000 in
theorem ct_sclear {G : GG} {B : Nat} {C : Nat → Int32} {E0 : Nat → va_E} {L : List Nat} {sz d : Nat} {t : Nat} (hG : GOK G) (hL : rIn (wR G B) L) (ht : t < 6) : Ct G d yX8_clear iX8_clear [.ref (aSt B t)] (Wm G B C E0 L sz) 0 0 none (Wm G B (sclrF C t) E0 L sz) := by
  refine Ct.of 0 (by decide) rfl (by decide) (Nat.le_of_ble_eq_true rfl) ?_
  show WP _ _ _ _ _ _ _ 0 [some (.ref (aSt B t))] [] _ 0 0
  refine wp_ald0 dX8_clear_0 ?_
  refine wp_iconst (v := 0) dX8_clear_1 (by decide) ?_
  refine p_Strand_state dX8_clear_2 pX8_11 hL (by assumption) ?_
  refine wp_ald0 dX8_clear_5 ?_
  refine wp_iconst (v := 0) dX8_clear_6 (by decide) ?_
  refine p_Strand_interrupted dX8_clear_7 pX8_15 hL (by assumption) rfl rfl ?_
  refine wp_ald0 dX8_clear_10 ?_
  refine wp_bipush (v := (-8)) dX8_clear_11 (by decide) ?_
  refine p_Strand_place dX8_clear_13 pX8_19 hL (by assumption) ?_
  refine wp_ald0 dX8_clear_16 ?_
  refine wp_iconst (v := (-1)) dX8_clear_17 (by decide) ?_
  refine p_Strand_limit dX8_clear_18 pX8_22 hL (by assumption) ?_
  refine wp_ald0 dX8_clear_21 ?_
  refine wp_iconst (v := 1) dX8_clear_22 (by decide) ?_
  refine p_Strand_dueEntries dX8_clear_23 pX8_25 hL (by assumption) ?_
  refine wp_ald0 dX8_clear_26 ?_
  refine wp_bipush (v := (-8)) dX8_clear_27 (by decide) ?_
  refine p_Strand_waitEnding dX8_clear_29 pX8_28 hL (by assumption) ?_
  exact wp_vret dX8_clear_32 rfl (Nat.le_refl _) (Nat.le_refl _) (by first | rfl | (simp only [sclrF]; done) | (simp only [sclrF]; rfl)) (by first | rfl | (simp only [sclrF]; done) | (simp only [sclrF]; rfl))

def kclrF (C : Nat → Int32) (c : Nat) : Nat → Int32 := upd (upd (upd C (222 + c) 0) (225 + c) 0) (228 + c) 1
set_option maxHeartbeats 1000000 in
theorem ct_kclear {G : GG} {B : Nat} {C : Nat → Int32} {E0 : Nat → va_E} {L : List Nat} {sz d : Nat} {c : Nat} (hG : GOK G) (hL : rIn (wR G B) L) (hc : c < 3) : Ct G d yX1_clear iX1_clear [.ref (aKd B c)] (Wm G B C E0 L sz) 0 0 none (Wm G B (kclrF C c) E0 L sz) := by
  refine Ct.of 0 (by decide) rfl (by decide) (Nat.le_of_ble_eq_true rfl) ?_
  show WP _ _ _ _ _ _ _ 0 [some (.ref (aKd B c))] [] _ 0 0
  refine wp_ald0 dX1_clear_0 ?_
  refine wp_iconst (v := 0) dX1_clear_1 (by decide) ?_
  refine p_Kind_epoch dX1_clear_2 pX1_7 hL (by assumption) ?_
  refine wp_ald0 dX1_clear_5 ?_
  refine wp_iconst (v := 0) dX1_clear_6 (by decide) ?_
  refine p_Kind_revocations dX1_clear_7 pX1_13 hL (by assumption) ?_
  refine wp_ald0 dX1_clear_10 ?_
  refine wp_iconst (v := 1) dX1_clear_11 (by decide) ?_
  refine p_Kind_biasable dX1_clear_12 pX1_16 hL (by assumption) rfl rfl ?_
  exact wp_vret dX1_clear_15 rfl (Nat.le_refl _) (Nat.le_refl _) (by first | rfl | (simp only [kclrF]; done) | (simp only [kclrF]; rfl)) (by first | rfl | (simp only [kclrF]; done) | (simp only [kclrF]; rfl))

set_option maxHeartbeats 1000000 in
theorem ct_isEmpty {G : GG} {B : Nat} {C : Nat → Int32} {E0 : Nat → va_E} {L : List Nat} {sz d : Nat} {j q p : Nat} (hG : GOK G) (hL : rIn (wR G B) L) (hN : LN G B j q p) : Ct G d yX2_isEmpty iX2_isEmpty [.ref (B + j)] (Wm G B C E0 L sz) 0 0 (some (.int (bI (C q = 0)))) (Wm G B (C) E0 L sz) := by
  refine Ct.of 0 (by decide) rfl (by decide) (Nat.le_of_ble_eq_true rfl) ?_
  show WP _ _ _ _ _ _ _ 0 [some (.ref (B + j))] [] _ 0 0
  refine wp_ald0 dX2_isEmpty_0 ?_
  refine g_Line_size dX2_isEmpty_1 fX2_15 hL hN ?_
  refine wp_if_ne (tgt := 11) dX2_isEmpty_4 (by decide) (fun c_4 => ?_) (fun c_4 => ?_)
  · refine wp_iconst (v := 0) dX2_isEmpty_11 (by decide) ?_
    exact wp_zret dX2_isEmpty_12 rfl rfl (Nat.le_refl _) (Nat.le_refl _) (by first | rfl | (simp [bI, c_4]; done)) (by first | rfl | (simp [bI, c_4]; done))
  · refine wp_iconst (v := 1) dX2_isEmpty_7 (by decide) ?_
    refine wp_goto (tgt := 12) dX2_isEmpty_8 (by decide) ?_
    exact wp_zret dX2_isEmpty_12 rfl rfl (Nat.le_refl _) (Nat.le_refl _) (by first | rfl | (simp [bI, c_4]; done)) (by first | rfl | (simp [bI, c_4]; done))

def atF (C : Nat → Int32) (q p : Nat) (x : Int32) : Int32 := if x < 0 then -8 else if C q ≤ x then -8 else C (p + x.toNatClampNeg)
def OKs (C : Nat → Int32) (q : Nat) : Prop := ∃ s, s ≤ 6 ∧ C q = nI s
theorem OKs.nat {C : Nat → Int32} {q : Nat} (h : OKs C q) : C q = nI (C q).toNatClampNeg ∧ (C q).toNatClampNeg ≤ 6 := by
  obtain ⟨s, h1, h2⟩ := h
  rw [h2, nI_clamp (by omega)]
  exact ⟨rfl, h1⟩
theorem upd_ne {f : Nat → Int32} {k j : Nat} {x : Int32} (h : j ≠ k) : upd f k x j = f j := if_neg h
theorem upd_eq {f : Nat → Int32} {k : Nat} {x : Int32} : upd f k x k = x := if_pos rfl
theorem OKs.upd {C : Nat → Int32} {q k : Nat} {x : Int32} (hne : q ≠ k) (h : OKs C q) : OKs (upd C k x) q := by
  obtain ⟨s, h1, h2⟩ := h
  exact ⟨s, h1, by rw [upd_ne hne]; exact h2⟩
set_option maxHeartbeats 1000000 in
theorem ct_at {G : GG} {B : Nat} {C : Nat → Int32} {E0 : Nat → va_E} {L : List Nat} {sz d : Nat} {j q p : Nat} {x : Int32} (hG : GOK G) (hL : rIn (wR G B) L) (hN : LN G B j q p) (hs : OKs C q) : Ct G d yX2_at iX2_at [.ref (B + j), .int x] (Wm G B C E0 L sz) 0 0 (some (.int (atF C q p x))) (Wm G B (C) E0 L sz) := by
  refine Ct.of 0 (by decide) rfl (by decide) (Nat.le_of_ble_eq_true rfl) ?_
  show WP _ _ _ _ _ _ _ 0 [some (.ref (B + j)), some (.int x)] [] _ 0 0
  refine wp_ild1 dX2_at_0 ?_
  refine wp_if_lt (tgt := 21) dX2_at_1 (by decide) (fun c_1 => ?_) (fun c_1 => ?_)
  · refine wp_bipush (v := (-8)) dX2_at_21 (by decide) ?_
    exact wp_iret dX2_at_23 rfl (Nat.le_refl _) (Nat.le_refl _) (by first | rfl | (simp only [atF, if_pos c_1]; done) | (simp only [atF, if_pos c_1]; rfl)) (by first | rfl | (simp only [atF, if_pos c_1]; done) | (simp only [atF, if_pos c_1]; rfl))
  · refine wp_ild1 dX2_at_4 ?_
    refine wp_ald0 dX2_at_5 ?_
    refine g_Line_size dX2_at_6 fX2_15 hL hN ?_
    refine wp_icmp_ge (tgt := 21) dX2_at_9 (by decide) (fun c_9 => ?_) (fun c_9 => ?_)
    · refine wp_bipush (v := (-8)) dX2_at_21 (by decide) ?_
      exact wp_iret dX2_at_23 rfl (Nat.le_refl _) (Nat.le_refl _) (by first | rfl | (simp only [atF, if_neg c_1, if_pos c_9]; done) | (simp only [atF, if_neg c_1, if_pos c_9]; rfl)) (by first | rfl | (simp only [atF, if_neg c_1, if_pos c_9]; done) | (simp only [atF, if_neg c_1, if_pos c_9]; rfl))
    · refine wp_ald0 dX2_at_12 ?_
      refine g_Line_members dX2_at_13 fX2_9 hL hN ?_
      refine wp_ild1 dX2_at_16 ?_
      refine r_Line_members (i' := x.toNatClampNeg) dX2_at_17 hG hL hN (nat_of c_1 (by rw [← hs.nat.1]; exact c_9) (by have := hs.nat.2; omega)).1 (Nat.lt_of_lt_of_le (nat_of c_1 (by rw [← hs.nat.1]; exact c_9) (by have := hs.nat.2; omega)).2 hs.nat.2) ?_
      refine wp_goto (tgt := 23) dX2_at_18 (by decide) ?_
      exact wp_iret dX2_at_23 rfl (Nat.le_refl _) (Nat.le_refl _) (by first | rfl | (simp only [atF, if_neg c_1, if_neg c_9]; done) | (simp only [atF, if_neg c_1, if_neg c_9]; rfl)) (by first | rfl | (simp only [atF, if_neg c_1, if_neg c_9]; done) | (simp only [atF, if_neg c_1, if_neg c_9]; rfl))

def appF (C : Nat → Int32) (q p : Nat) (x : Int32) : Nat → Int32 := if 6 ≤ C q then C else upd (upd C (p + (C q).toNatClampNeg) x) q (upd C (p + (C q).toNatClampNeg) x q + 1)
set_option maxHeartbeats 1000000 in
theorem ct_append {G : GG} {B : Nat} {C : Nat → Int32} {E0 : Nat → va_E} {L : List Nat} {sz d : Nat} {j q p : Nat} {x : Int32} (hG : GOK G) (hL : rIn (wR G B) L) (hN : LN G B j q p) (hs : OKs C q) : Ct G d yX2_append iX2_append [.ref (B + j), .int x] (Wm G B C E0 L sz) 0 0 none (Wm G B (appF C q p x) E0 L sz) := by
  refine Ct.of 0 (by decide) rfl (by decide) (Nat.le_of_ble_eq_true rfl) ?_
  show WP _ _ _ _ _ _ _ 0 [some (.ref (B + j)), some (.int x)] [] _ 0 0
  refine wp_ald0 dX2_append_0 ?_
  refine g_Line_size dX2_append_1 fX2_15 hL hN ?_
  refine wp_bipush (v := 6) dX2_append_4 (by decide) ?_
  refine wp_icmp_ge (tgt := 29) dX2_append_6 (by decide) (fun c_6 => ?_) (fun c_6 => ?_)
  · exact wp_vret dX2_append_29 rfl (Nat.le_refl _) (Nat.le_refl _) (by first | rfl | (simp only [appF, if_pos c_6]; done) | (simp only [appF, if_pos c_6]; rfl)) (by first | rfl | (simp only [appF, if_pos c_6]; done) | (simp only [appF, if_pos c_6]; rfl))
  · refine wp_ald0 dX2_append_9 ?_
    refine g_Line_members dX2_append_10 fX2_9 hL hN ?_
    refine wp_ald0 dX2_append_13 ?_
    refine g_Line_size dX2_append_14 fX2_15 hL hN ?_
    refine wp_ild1 dX2_append_17 ?_
    refine s_Line_members (i' := (C q).toNatClampNeg) dX2_append_18 hG hL hN hs.nat.1 (by rcases Nat.lt_or_ge (C q).toNatClampNeg 6 with h | h; exact h; exact absurd (by rw [hs.nat.1, show (C q).toNatClampNeg = 6 from Nat.le_antisymm hs.nat.2 h]; decide) c_6) ?_
    refine wp_ald0 dX2_append_19 ?_
    refine wp_dup dX2_append_20 rfl ?_
    refine g_Line_size dX2_append_21 fX2_15 hL hN ?_
    refine wp_iconst (v := 1) dX2_append_24 (by decide) ?_
    refine wp_iadd dX2_append_25 ?_
    refine p_Line_size dX2_append_26 pX2_15 hL hN ?_
    exact wp_vret dX2_append_29 rfl (Nat.le_refl _) (Nat.le_refl _) (by first | rfl | (simp only [appF, if_neg c_6]; done) | (simp only [appF, if_neg c_6]; rfl)) (by first | rfl | (simp only [appF, if_neg c_6]; done) | (simp only [appF, if_neg c_6]; rfl))

set_option maxHeartbeats 1000000 in
theorem ct_lclear {G : GG} {B : Nat} {C : Nat → Int32} {E0 : Nat → va_E} {L : List Nat} {sz d : Nat} {j q p : Nat} (hG : GOK G) (hL : rIn (wR G B) L) (hN : LN G B j q p) : Ct G d yX2_clear iX2_clear [.ref (B + j)] (Wm G B C E0 L sz) 0 0 none (Wm G B (upd C q 0) E0 L sz) := by
  refine Ct.of 0 (by decide) rfl (by decide) (Nat.le_of_ble_eq_true rfl) ?_
  show WP _ _ _ _ _ _ _ 0 [some (.ref (B + j))] [] _ 0 0
  refine wp_ald0 dX2_clear_0 ?_
  refine wp_iconst (v := 0) dX2_clear_1 (by decide) ?_
  refine p_Line_size dX2_clear_2 pX2_15 hL hN ?_
  exact wp_vret dX2_clear_5 rfl (Nat.le_refl _) (Nat.le_refl _) (by first | rfl | (simp only []; done) | (simp only []; rfl)) (by first | rfl | (simp only []; done) | (simp only []; rfl))

