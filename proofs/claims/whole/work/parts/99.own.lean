/-! the object's own methods: those that ask the world alone -/
def xCell (X : Nat) : va_E := .inr (10, [.ref (X + 1), .ref (X + 57), .ref (X + 113), .ref (X + 118), .ref (X + 121), .ref (X + 122)])
def XO (X : Nat) (L : List Nat) (E : Nat → va_E) : Prop := X ∈ L ∧ E X = xCell X
section XG
variable {G : GG} {mi : MI} {d mc ms : Nat} {res : Option Value} {M' : Mem} {pc : Nat} {lc : List (Option Value)} {st : List Value} {k n : Nat} {r : Rg} {F : Nat → Int32} {E0 : Nat → va_E} {L : List Nat} {sz X idx : Nat}
theorem gx_f {f : Nat} {v : Value} (hd : decode mi.2.1 pc = .ok (.getfield idx, 3)) (hk : FldOK mi.1 idx 10 f) (hX : XO X L E0) (hr : ¬ (r.2.2.1 ≤ X ∧ X < r.2.2.1 + r.2.2.2)) (hv : ([.ref (X + 1), .ref (X + 57), .ref (X + 113), .ref (X + 118), .ref (X + 121), .ref (X + 122)] : List Value)[f]? = some v) (kk : WP G mi d mc ms res M' (pc + 3) lc (v :: st) (Rm r F E0 L sz) k n) : WP G mi d mc ms res M' pc lc (.ref X :: st) (Rm r F E0 L sz) k n :=
  wp_get hd hk hX.1 ((rE_out hr).trans hX.2) hv kk
theorem gx_world (hd : decode mi.2.1 pc = .ok (.getfield idx, 3)) (hk : FldOK mi.1 idx 10 0) (hX : XO X L E0) (kk : WP G mi d mc ms res M' (pc + 3) lc (.ref (X + 1) :: st) (Wm G (X + 1) F E0 L sz) k n) : WP G mi d mc ms res M' pc lc (.ref X :: st) (Wm G (X + 1) F E0 L sz) k n := gx_f (r := wR G (X + 1)) hd hk hX (by show ¬ (X + 1 ≤ X ∧ X < X + 1 + 56); omega) rfl kk
end XG
def tsC (C : Nat → Int32) (x : Int32) : Int32 := if hasT C x then (if C (16 + nt x) = 0 then C (10 + nt x) else C (10 + nt x) + 10) else -1
def taC (C : Nat → Int32) (x : Int32) : Int32 := if hasT C x then C (28 + nt x) else -1
def weC (C : Nat → Int32) (x : Int32) : Int32 := if hasT C x then C (22 + nt x) else -1
def lsC (C : Nat → Int32) (y : Int32) : Int32 := if isO y then (if C (86 + nt y) = 0 then C (46 + nt y) else C (46 + nt y) + 10) else -2
def owC (C : Nat → Int32) (y : Int32) : Int32 := if isO y then C (54 + nt y) else -2
def cnC (C : Nat → Int32) (y : Int32) : Int32 := if isO y then C (62 + nt y) else -2
def biC (C : Nat → Int32) (y : Int32) : Int32 := if isO y then (if C (46 + nt y) = 2 then (if bOK C (nt y) then C (70 + nt y) else C (70 + nt y) + 10) else -8) else -2
def quC (C : Nat → Int32) (y k : Int32) : Int32 := if isO y then (if 0 ≤ k then atF C (110 + nt y) (126 + 6 * nt y) k else -3) else -2
def waC (C : Nat → Int32) (y k : Int32) : Int32 := if isO y then (if 0 ≤ k then atF C (118 + nt y) (174 + 6 * nt y) k else -3) else -2
def tyC (C : Nat → Int32) (x k : Int32) : Int32 := if x < 0 then -3 else if x < 3 then (if k = 0 then C (222 + nt x) else if k = 1 then C (225 + nt x) else if k = 2 then (if C (228 + nt x) = 0 then 0 else 1) else -3) else -3
def cdC (C : Nat → Int32) (x : Int32) : Int32 := if x < 0 then -3 else if x < 9 then C (231 + nt x) else -3
def stC (C : Nat → Int32) (x : Int32) : Int32 := if isO x then valF C x else -3
def setC (C : Nat → Int32) (x v : Int32) : Int32 × (Nat → Int32) := if allP x v then (if x = 6 then (if monF C ≤ v then (valF C x, chgF C x v) else (-7, C)) else (valF C x, chgF C x v)) else (-3, C)
theorem nat_of3 {x : Int32} (h0 : ¬ x < 0) (h1 : x < 3) : x = nI (nt x) ∧ nt x < 3 := nat_of (s := 3) h0 (Int32.not_le.mpr h1) (by decide)
theorem nat_of9 {x : Int32} (h0 : ¬ x < 0) (h1 : x < 9) : x = nI (nt x) ∧ nt x < 9 := nat_of (s := 9) h0 (Int32.not_le.mpr h1) (by decide)
theorem swt3 {x : Int32} (h0 : ¬ x = 0) (h1 : ¬ x = 1) (h2 : ¬ x = 2) : x.toInt < 0 ∨ (2 : Int) < x.toInt := sw_out 2 (by decide) (fun i hi => by
  match i, hi with
  | 0, _ => exact h0
  | 1, _ => exact h1
  | 2, _ => exact h2)
set_option maxHeartbeats 1000000 in
theorem cx_threadState {G : GG} {X : Nat} {C : Nat → Int32} {E0 : Nat → va_E} {L : List Nat} {sz d : Nat} {x : Int32} (hG : GOK G) (hL : rIn (wR G (X + 1)) L) (hX : XO X L E0)  (hdp : 1 ≤ d) : Ct G d yX11_threadState iX11_threadState [.ref X, .int x] (Wm G (X + 1) (C) E0 L sz) 0 0 (some (.int (tsC C x))) (Wm G (X + 1) (C) E0 L sz) := by
  refine Ct.of 1 (by decide) rfl (by decide) (Nat.le_of_ble_eq_true rfl) ?_
  show WP _ _ _ _ _ _ _ 0 [some (.ref X), some (.int x), none] [] _ 0 0
  refine wp_ald0 dX11_threadState_0 ?_
  refine gx_world dX11_threadState_1 fX11_10 hX ?_
  refine wp_ild1 dX11_threadState_4 ?_
  refine vi_World1 dX11_threadState_5 kX11_100 (ct_hasThread (d := d - 1) hG hL) hL rfl (by omega) (Nat.le_of_ble_eq_true rfl) (Nat.le_refl _) (Nat.le_refl _) ?_
  refine wp_ifB_ne (tgt := 13) dX11_threadState_8 (by decide) (fun c_8 => ?_) (fun c_8 => ?_)
  · obtain ⟨hx, hxb⟩ := nat_of6 c_8.1 c_8.2.2
    refine wp_ald0 dX11_threadState_13 ?_
    refine gx_world dX11_threadState_14 fX11_10 hX ?_
    refine g_World_strands dX11_threadState_17 fX11_103 hL ?_
    refine wp_ild1 dX11_threadState_20 ?_
    refine r_strands (i' := nt x) dX11_threadState_21 hG hL hx (by first | assumption | omega) ?_
    refine wp_ast2 dX11_threadState_22 (by decide) rfl ?_
    refine wp_ald2 dX11_threadState_23 ?_
    refine g_Strand_interrupted dX11_threadState_24 fX11_107 hL (by assumption) ?_
    refine wp_if_eq (tgt := 40) dX11_threadState_27 (by decide) (fun c_27 => ?_) (fun c_27 => ?_)
    · refine wp_ald2 dX11_threadState_40 ?_
      refine g_Strand_state dX11_threadState_41 fX11_113 hL (by assumption) ?_
      exact wp_iret dX11_threadState_44 rfl (Nat.le_refl _) (Nat.le_refl _) (by first | with_reducible rfl | (simp only [tsC, if_pos c_8, if_pos c_27]; done) | (simp only [tsC, if_pos c_8, if_pos c_27]; rfl) | rfl) (by first | with_reducible rfl | (simp only [tsC, if_pos c_8, if_pos c_27]; done) | (simp only [tsC, if_pos c_8, if_pos c_27]; rfl) | rfl)
    · refine wp_ald2 dX11_threadState_30 ?_
      refine g_Strand_state dX11_threadState_31 fX11_113 hL (by assumption) ?_
      refine wp_bipush (v := 10) dX11_threadState_34 (by decide) ?_
      refine wp_iadd dX11_threadState_36 ?_
      refine wp_goto (tgt := 44) dX11_threadState_37 (by decide) ?_
      exact wp_iret dX11_threadState_44 rfl (Nat.le_refl _) (Nat.le_refl _) (by first | with_reducible rfl | (simp only [tsC, if_pos c_8, if_neg c_27]; done) | (simp only [tsC, if_pos c_8, if_neg c_27]; rfl) | rfl) (by first | with_reducible rfl | (simp only [tsC, if_pos c_8, if_neg c_27]; done) | (simp only [tsC, if_pos c_8, if_neg c_27]; rfl) | rfl)
  · refine wp_iconst (v := (-1)) dX11_threadState_11 (by decide) ?_
    exact wp_iret dX11_threadState_12 rfl (Nat.le_refl _) (Nat.le_refl _) (by first | with_reducible rfl | (simp only [tsC, if_neg c_8]; done) | (simp only [tsC, if_neg c_8]; rfl) | rfl) (by first | with_reducible rfl | (simp only [tsC, if_neg c_8]; done) | (simp only [tsC, if_neg c_8]; rfl) | rfl)

set_option maxHeartbeats 1000000 in
theorem cx_threadAt {G : GG} {X : Nat} {C : Nat → Int32} {E0 : Nat → va_E} {L : List Nat} {sz d : Nat} {x : Int32} (hG : GOK G) (hL : rIn (wR G (X + 1)) L) (hX : XO X L E0)  (hdp : 1 ≤ d) : Ct G d yX11_threadAt iX11_threadAt [.ref X, .int x] (Wm G (X + 1) (C) E0 L sz) 0 0 (some (.int (taC C x))) (Wm G (X + 1) (C) E0 L sz) := by
  refine Ct.of 0 (by decide) rfl (by decide) (Nat.le_of_ble_eq_true rfl) ?_
  show WP _ _ _ _ _ _ _ 0 [some (.ref X), some (.int x)] [] _ 0 0
  refine wp_ald0 dX11_threadAt_0 ?_
  refine gx_world dX11_threadAt_1 fX11_10 hX ?_
  refine wp_ild1 dX11_threadAt_4 ?_
  refine vi_World1 dX11_threadAt_5 kX11_100 (ct_hasThread (d := d - 1) hG hL) hL rfl (by omega) (Nat.le_of_ble_eq_true rfl) (Nat.le_refl _) (Nat.le_refl _) ?_
  refine wp_ifB_eq (tgt := 26) dX11_threadAt_8 (by decide) (fun c_8 => ?_) (fun c_8 => ?_)
  · refine wp_iconst (v := (-1)) dX11_threadAt_26 (by decide) ?_
    exact wp_iret dX11_threadAt_27 rfl (Nat.le_refl _) (Nat.le_refl _) (by first | with_reducible rfl | (simp only [taC, if_neg c_8]; done) | (simp only [taC, if_neg c_8]; rfl) | rfl) (by first | with_reducible rfl | (simp only [taC, if_neg c_8]; done) | (simp only [taC, if_neg c_8]; rfl) | rfl)
  · obtain ⟨hx, hxb⟩ := nat_of6 c_8.1 c_8.2.2
    refine wp_ald0 dX11_threadAt_11 ?_
    refine gx_world dX11_threadAt_12 fX11_10 hX ?_
    refine g_World_strands dX11_threadAt_15 fX11_103 hL ?_
    refine wp_ild1 dX11_threadAt_18 ?_
    refine r_strands (i' := nt x) dX11_threadAt_19 hG hL hx (by first | assumption | omega) ?_
    refine g_Strand_place dX11_threadAt_20 fX11_116 hL (by assumption) ?_
    refine wp_goto (tgt := 27) dX11_threadAt_23 (by decide) ?_
    exact wp_iret dX11_threadAt_27 rfl (Nat.le_refl _) (Nat.le_refl _) (by first | with_reducible rfl | (simp only [taC, if_pos c_8]; done) | (simp only [taC, if_pos c_8]; rfl) | rfl) (by first | with_reducible rfl | (simp only [taC, if_pos c_8]; done) | (simp only [taC, if_pos c_8]; rfl) | rfl)

set_option maxHeartbeats 1000000 in
theorem cx_waitEnd {G : GG} {X : Nat} {C : Nat → Int32} {E0 : Nat → va_E} {L : List Nat} {sz d : Nat} {x : Int32} (hG : GOK G) (hL : rIn (wR G (X + 1)) L) (hX : XO X L E0)  (hdp : 1 ≤ d) : Ct G d yX11_waitEnd iX11_waitEnd [.ref X, .int x] (Wm G (X + 1) (C) E0 L sz) 0 0 (some (.int (weC C x))) (Wm G (X + 1) (C) E0 L sz) := by
  refine Ct.of 0 (by decide) rfl (by decide) (Nat.le_of_ble_eq_true rfl) ?_
  show WP _ _ _ _ _ _ _ 0 [some (.ref X), some (.int x)] [] _ 0 0
  refine wp_ald0 dX11_waitEnd_0 ?_
  refine gx_world dX11_waitEnd_1 fX11_10 hX ?_
  refine wp_ild1 dX11_waitEnd_4 ?_
  refine vi_World1 dX11_waitEnd_5 kX11_100 (ct_hasThread (d := d - 1) hG hL) hL rfl (by omega) (Nat.le_of_ble_eq_true rfl) (Nat.le_refl _) (Nat.le_refl _) ?_
  refine wp_ifB_eq (tgt := 26) dX11_waitEnd_8 (by decide) (fun c_8 => ?_) (fun c_8 => ?_)
  · refine wp_iconst (v := (-1)) dX11_waitEnd_26 (by decide) ?_
    exact wp_iret dX11_waitEnd_27 rfl (Nat.le_refl _) (Nat.le_refl _) (by first | with_reducible rfl | (simp only [weC, if_neg c_8]; done) | (simp only [weC, if_neg c_8]; rfl) | rfl) (by first | with_reducible rfl | (simp only [weC, if_neg c_8]; done) | (simp only [weC, if_neg c_8]; rfl) | rfl)
  · obtain ⟨hx, hxb⟩ := nat_of6 c_8.1 c_8.2.2
    refine wp_ald0 dX11_waitEnd_11 ?_
    refine gx_world dX11_waitEnd_12 fX11_10 hX ?_
    refine g_World_strands dX11_waitEnd_15 fX11_103 hL ?_
    refine wp_ild1 dX11_waitEnd_18 ?_
    refine r_strands (i' := nt x) dX11_waitEnd_19 hG hL hx (by first | assumption | omega) ?_
    refine g_Strand_waitEnding dX11_waitEnd_20 fX11_128 hL (by assumption) ?_
    refine wp_goto (tgt := 27) dX11_waitEnd_23 (by decide) ?_
    exact wp_iret dX11_waitEnd_27 rfl (Nat.le_refl _) (Nat.le_refl _) (by first | with_reducible rfl | (simp only [weC, if_pos c_8]; done) | (simp only [weC, if_pos c_8]; rfl) | rfl) (by first | with_reducible rfl | (simp only [weC, if_pos c_8]; done) | (simp only [weC, if_pos c_8]; rfl) | rfl)

set_option maxHeartbeats 1000000 in
theorem cx_lockState {G : GG} {X : Nat} {C : Nat → Int32} {E0 : Nat → va_E} {L : List Nat} {sz d : Nat} {y : Int32} (hG : GOK G) (hL : rIn (wR G (X + 1)) L) (hX : XO X L E0)  (hdp : 1 ≤ d) : Ct G d yX11_lockState iX11_lockState [.ref X, .int y] (Wm G (X + 1) (C) E0 L sz) 0 0 (some (.int (lsC C y))) (Wm G (X + 1) (C) E0 L sz) := by
  refine Ct.of 1 (by decide) rfl (by decide) (Nat.le_of_ble_eq_true rfl) ?_
  show WP _ _ _ _ _ _ _ 0 [some (.ref X), some (.int y), none] [] _ 0 0
  refine wp_ild1 dX11_lockState_0 ?_
  refine ci_1 dX11_lockState_1 kX11_134 (ct_isObject (d := d - 1)) (by omega) (Nat.le_of_ble_eq_true rfl) (Nat.le_refl _) (Nat.le_refl _) ?_
  refine wp_ifB_ne (tgt := 10) dX11_lockState_4 (by decide) (fun c_4 => ?_) (fun c_4 => ?_)
  · obtain ⟨hy, hyb⟩ := nat_of8 c_4.1 c_4.2
    refine wp_ald0 dX11_lockState_10 ?_
    refine gx_world dX11_lockState_11 fX11_10 hX ?_
    refine g_World_locks dX11_lockState_14 fX11_119 hL ?_
    refine wp_ild1 dX11_lockState_17 ?_
    refine r_locks (i' := nt y) dX11_lockState_18 hG hL hy (by first | assumption | omega) ?_
    refine wp_ast2 dX11_lockState_19 (by decide) rfl ?_
    refine wp_ald2 dX11_lockState_20 ?_
    refine g_Lock_abandoned dX11_lockState_21 fX11_137 hL (by assumption) ?_
    refine wp_if_eq (tgt := 37) dX11_lockState_24 (by decide) (fun c_24 => ?_) (fun c_24 => ?_)
    · refine wp_ald2 dX11_lockState_37 ?_
      refine g_Lock_state dX11_lockState_38 fX11_140 hL (by assumption) ?_
      exact wp_iret dX11_lockState_41 rfl (Nat.le_refl _) (Nat.le_refl _) (by first | with_reducible rfl | (simp only [lsC, if_pos c_4, if_pos c_24]; done) | (simp only [lsC, if_pos c_4, if_pos c_24]; rfl) | rfl) (by first | with_reducible rfl | (simp only [lsC, if_pos c_4, if_pos c_24]; done) | (simp only [lsC, if_pos c_4, if_pos c_24]; rfl) | rfl)
    · refine wp_ald2 dX11_lockState_27 ?_
      refine g_Lock_state dX11_lockState_28 fX11_140 hL (by assumption) ?_
      refine wp_bipush (v := 10) dX11_lockState_31 (by decide) ?_
      refine wp_iadd dX11_lockState_33 ?_
      refine wp_goto (tgt := 41) dX11_lockState_34 (by decide) ?_
      exact wp_iret dX11_lockState_41 rfl (Nat.le_refl _) (Nat.le_refl _) (by first | with_reducible rfl | (simp only [lsC, if_pos c_4, if_neg c_24]; done) | (simp only [lsC, if_pos c_4, if_neg c_24]; rfl) | rfl) (by first | with_reducible rfl | (simp only [lsC, if_pos c_4, if_neg c_24]; done) | (simp only [lsC, if_pos c_4, if_neg c_24]; rfl) | rfl)
  · refine wp_bipush (v := (-2)) dX11_lockState_7 (by decide) ?_
    exact wp_iret dX11_lockState_9 rfl (Nat.le_refl _) (Nat.le_refl _) (by first | with_reducible rfl | (simp only [lsC, if_neg c_4]; done) | (simp only [lsC, if_neg c_4]; rfl) | rfl) (by first | with_reducible rfl | (simp only [lsC, if_neg c_4]; done) | (simp only [lsC, if_neg c_4]; rfl) | rfl)

set_option maxHeartbeats 1000000 in
theorem cx_owner {G : GG} {X : Nat} {C : Nat → Int32} {E0 : Nat → va_E} {L : List Nat} {sz d : Nat} {y : Int32} (hG : GOK G) (hL : rIn (wR G (X + 1)) L) (hX : XO X L E0)  (hdp : 1 ≤ d) : Ct G d yX11_owner iX11_owner [.ref X, .int y] (Wm G (X + 1) (C) E0 L sz) 0 0 (some (.int (owC C y))) (Wm G (X + 1) (C) E0 L sz) := by
  refine Ct.of 0 (by decide) rfl (by decide) (Nat.le_of_ble_eq_true rfl) ?_
  show WP _ _ _ _ _ _ _ 0 [some (.ref X), some (.int y)] [] _ 0 0
  refine wp_ild1 dX11_owner_0 ?_
  refine ci_1 dX11_owner_1 kX11_134 (ct_isObject (d := d - 1)) (by omega) (Nat.le_of_ble_eq_true rfl) (Nat.le_refl _) (Nat.le_refl _) ?_
  refine wp_ifB_eq (tgt := 22) dX11_owner_4 (by decide) (fun c_4 => ?_) (fun c_4 => ?_)
  · refine wp_bipush (v := (-2)) dX11_owner_22 (by decide) ?_
    exact wp_iret dX11_owner_24 rfl (Nat.le_refl _) (Nat.le_refl _) (by first | with_reducible rfl | (simp only [owC, if_neg c_4]; done) | (simp only [owC, if_neg c_4]; rfl) | rfl) (by first | with_reducible rfl | (simp only [owC, if_neg c_4]; done) | (simp only [owC, if_neg c_4]; rfl) | rfl)
  · obtain ⟨hy, hyb⟩ := nat_of8 c_4.1 c_4.2
    refine wp_ald0 dX11_owner_7 ?_
    refine gx_world dX11_owner_8 fX11_10 hX ?_
    refine g_World_locks dX11_owner_11 fX11_119 hL ?_
    refine wp_ild1 dX11_owner_14 ?_
    refine r_locks (i' := nt y) dX11_owner_15 hG hL hy (by first | assumption | omega) ?_
    refine g_Lock_holder dX11_owner_16 fX11_141 hL (by assumption) ?_
    refine wp_goto (tgt := 24) dX11_owner_19 (by decide) ?_
    exact wp_iret dX11_owner_24 rfl (Nat.le_refl _) (Nat.le_refl _) (by first | with_reducible rfl | (simp only [owC, if_pos c_4]; done) | (simp only [owC, if_pos c_4]; rfl) | rfl) (by first | with_reducible rfl | (simp only [owC, if_pos c_4]; done) | (simp only [owC, if_pos c_4]; rfl) | rfl)

set_option maxHeartbeats 1000000 in
theorem cx_count {G : GG} {X : Nat} {C : Nat → Int32} {E0 : Nat → va_E} {L : List Nat} {sz d : Nat} {y : Int32} (hG : GOK G) (hL : rIn (wR G (X + 1)) L) (hX : XO X L E0)  (hdp : 1 ≤ d) : Ct G d yX11_count iX11_count [.ref X, .int y] (Wm G (X + 1) (C) E0 L sz) 0 0 (some (.int (cnC C y))) (Wm G (X + 1) (C) E0 L sz) := by
  refine Ct.of 0 (by decide) rfl (by decide) (Nat.le_of_ble_eq_true rfl) ?_
  show WP _ _ _ _ _ _ _ 0 [some (.ref X), some (.int y)] [] _ 0 0
  refine wp_ild1 dX11_count_0 ?_
  refine ci_1 dX11_count_1 kX11_134 (ct_isObject (d := d - 1)) (by omega) (Nat.le_of_ble_eq_true rfl) (Nat.le_refl _) (Nat.le_refl _) ?_
  refine wp_ifB_eq (tgt := 22) dX11_count_4 (by decide) (fun c_4 => ?_) (fun c_4 => ?_)
  · refine wp_bipush (v := (-2)) dX11_count_22 (by decide) ?_
    exact wp_iret dX11_count_24 rfl (Nat.le_refl _) (Nat.le_refl _) (by first | with_reducible rfl | (simp only [cnC, if_neg c_4]; done) | (simp only [cnC, if_neg c_4]; rfl) | rfl) (by first | with_reducible rfl | (simp only [cnC, if_neg c_4]; done) | (simp only [cnC, if_neg c_4]; rfl) | rfl)
  · obtain ⟨hy, hyb⟩ := nat_of8 c_4.1 c_4.2
    refine wp_ald0 dX11_count_7 ?_
    refine gx_world dX11_count_8 fX11_10 hX ?_
    refine g_World_locks dX11_count_11 fX11_119 hL ?_
    refine wp_ild1 dX11_count_14 ?_
    refine r_locks (i' := nt y) dX11_count_15 hG hL hy (by first | assumption | omega) ?_
    refine g_Lock_entries dX11_count_16 fX11_144 hL (by assumption) ?_
    refine wp_goto (tgt := 24) dX11_count_19 (by decide) ?_
    exact wp_iret dX11_count_24 rfl (Nat.le_refl _) (Nat.le_refl _) (by first | with_reducible rfl | (simp only [cnC, if_pos c_4]; done) | (simp only [cnC, if_pos c_4]; rfl) | rfl) (by first | with_reducible rfl | (simp only [cnC, if_pos c_4]; done) | (simp only [cnC, if_pos c_4]; rfl) | rfl)

set_option maxHeartbeats 1000000 in
theorem cx_bias {G : GG} {X : Nat} {C : Nat → Int32} {E0 : Nat → va_E} {L : List Nat} {sz d : Nat} {y : Int32} (hG : GOK G) (hL : rIn (wR G (X + 1)) L) (hX : XO X L E0)  (hdp : 1 ≤ d) : Ct G d yX11_bias iX11_bias [.ref X, .int y] (Wm G (X + 1) (C) E0 L sz) 0 0 (some (.int (biC C y))) (Wm G (X + 1) (C) E0 L sz) := by
  refine Ct.of 1 (by decide) rfl (by decide) (Nat.le_of_ble_eq_true rfl) ?_
  show WP _ _ _ _ _ _ _ 0 [some (.ref X), some (.int y), none] [] _ 0 0
  refine wp_ild1 dX11_bias_0 ?_
  refine ci_1 dX11_bias_1 kX11_134 (ct_isObject (d := d - 1)) (by omega) (Nat.le_of_ble_eq_true rfl) (Nat.le_refl _) (Nat.le_refl _) ?_
  refine wp_ifB_ne (tgt := 10) dX11_bias_4 (by decide) (fun c_4 => ?_) (fun c_4 => ?_)
  · obtain ⟨hy, hyb⟩ := nat_of8 c_4.1 c_4.2
    refine wp_ald0 dX11_bias_10 ?_
    refine gx_world dX11_bias_11 fX11_10 hX ?_
    refine g_World_locks dX11_bias_14 fX11_119 hL ?_
    refine wp_ild1 dX11_bias_17 ?_
    refine r_locks (i' := nt y) dX11_bias_18 hG hL hy (by first | assumption | omega) ?_
    refine wp_ast2 dX11_bias_19 (by decide) rfl ?_
    refine wp_ald2 dX11_bias_20 ?_
    refine g_Lock_state dX11_bias_21 fX11_140 hL (by assumption) ?_
    refine wp_iconst (v := 2) dX11_bias_24 (by decide) ?_
    refine wp_icmp_eq (tgt := 31) dX11_bias_25 (by decide) (fun c_25 => ?_) (fun c_25 => ?_)
    · refine wp_ald0 dX11_bias_31 ?_
      refine gx_world dX11_bias_32 fX11_10 hX ?_
      refine wp_ald2 dX11_bias_35 ?_
      refine vi_World1 dX11_bias_36 kX11_147 (ct_biasIsValid (d := d - 1) hG hL (by assumption)) hL rfl (by omega) (Nat.le_of_ble_eq_true rfl) (Nat.le_refl _) (Nat.le_refl _) ?_
      refine wp_ifB_eq (tgt := 49) dX11_bias_39 (by decide) (fun c_39 => ?_) (fun c_39 => ?_)
      · refine wp_ald2 dX11_bias_49 ?_
        refine g_Lock_biasThread dX11_bias_50 fX11_151 hL (by assumption) ?_
        refine wp_bipush (v := 10) dX11_bias_53 (by decide) ?_
        refine wp_iadd dX11_bias_55 ?_
        exact wp_iret dX11_bias_56 rfl (Nat.le_refl _) (Nat.le_refl _) (by first | with_reducible rfl | (simp only [biC, if_pos c_4, if_pos c_25, if_neg c_39]; done) | (simp only [biC, if_pos c_4, if_pos c_25, if_neg c_39]; rfl) | rfl) (by first | with_reducible rfl | (simp only [biC, if_pos c_4, if_pos c_25, if_neg c_39]; done) | (simp only [biC, if_pos c_4, if_pos c_25, if_neg c_39]; rfl) | rfl)
      · refine wp_ald2 dX11_bias_42 ?_
        refine g_Lock_biasThread dX11_bias_43 fX11_151 hL (by assumption) ?_
        refine wp_goto (tgt := 56) dX11_bias_46 (by decide) ?_
        exact wp_iret dX11_bias_56 rfl (Nat.le_refl _) (Nat.le_refl _) (by first | with_reducible rfl | (simp only [biC, if_pos c_4, if_pos c_25, if_pos c_39]; done) | (simp only [biC, if_pos c_4, if_pos c_25, if_pos c_39]; rfl) | rfl) (by first | with_reducible rfl | (simp only [biC, if_pos c_4, if_pos c_25, if_pos c_39]; done) | (simp only [biC, if_pos c_4, if_pos c_25, if_pos c_39]; rfl) | rfl)
    · refine wp_bipush (v := (-8)) dX11_bias_28 (by decide) ?_
      exact wp_iret dX11_bias_30 rfl (Nat.le_refl _) (Nat.le_refl _) (by first | with_reducible rfl | (simp only [biC, if_pos c_4, if_neg c_25]; done) | (simp only [biC, if_pos c_4, if_neg c_25]; rfl) | rfl) (by first | with_reducible rfl | (simp only [biC, if_pos c_4, if_neg c_25]; done) | (simp only [biC, if_pos c_4, if_neg c_25]; rfl) | rfl)
  · refine wp_bipush (v := (-2)) dX11_bias_7 (by decide) ?_
    exact wp_iret dX11_bias_9 rfl (Nat.le_refl _) (Nat.le_refl _) (by first | with_reducible rfl | (simp only [biC, if_neg c_4]; done) | (simp only [biC, if_neg c_4]; rfl) | rfl) (by first | with_reducible rfl | (simp only [biC, if_neg c_4]; done) | (simp only [biC, if_neg c_4]; rfl) | rfl)

set_option maxHeartbeats 1000000 in
theorem cx_queued {G : GG} {X : Nat} {C : Nat → Int32} {E0 : Nat → va_E} {L : List Nat} {sz d : Nat} {y k : Int32} (hG : GOK G) (hL : rIn (wR G (X + 1)) L) (hX : XO X L E0) (hW : WI C) (hdp : 1 ≤ d) : Ct G d yX11_queued iX11_queued [.ref X, .int y, .int k] (Wm G (X + 1) (C) E0 L sz) 0 0 (some (.int (quC C y k))) (Wm G (X + 1) (C) E0 L sz) := by
  refine Ct.of 0 (by decide) rfl (by decide) (Nat.le_of_ble_eq_true rfl) ?_
  show WP _ _ _ _ _ _ _ 0 [some (.ref X), some (.int y), some (.int k)] [] _ 0 0
  refine wp_ild1 dX11_queued_0 ?_
  refine ci_1 dX11_queued_1 kX11_134 (ct_isObject (d := d - 1)) (by omega) (Nat.le_of_ble_eq_true rfl) (Nat.le_refl _) (Nat.le_refl _) ?_
  refine wp_ifB_ne (tgt := 10) dX11_queued_4 (by decide) (fun c_4 => ?_) (fun c_4 => ?_)
  · obtain ⟨hy, hyb⟩ := nat_of8 c_4.1 c_4.2
    refine wp_ild2 dX11_queued_10 ?_
    refine wp_if_ge (tgt := 19) dX11_queued_11 (by decide) (fun c_11 => ?_) (fun c_11 => ?_)
    · refine wp_ald0 dX11_queued_19 ?_
      refine gx_world dX11_queued_20 fX11_10 hX ?_
      refine g_World_locks dX11_queued_23 fX11_119 hL ?_
      refine wp_ild1 dX11_queued_26 ?_
      refine r_locks (i' := nt y) dX11_queued_27 hG hL hy (by first | assumption | omega) ?_
      refine g_Lock_queue dX11_queued_28 fX11_154 hL (by assumption) ?_
      refine wp_ild2 dX11_queued_31 ?_
      refine vi_Line1 (j := 14 + 5 * nt y) dX11_queued_32 kX11_158 (ct_at (d := d - 1) hG hL (LNq hyb) (hW.q hyb)) hL (LNq (by assumption)) rfl (by omega) (Nat.le_of_ble_eq_true rfl) (Nat.le_refl _) (Nat.le_refl _) ?_
      exact wp_iret dX11_queued_35 rfl (Nat.le_refl _) (Nat.le_refl _) (by first | with_reducible rfl | (simp only [quC, if_pos c_4, if_pos c_11]; done) | (simp only [quC, if_pos c_4, if_pos c_11]; rfl) | rfl) (by first | with_reducible rfl | (simp only [quC, if_pos c_4, if_pos c_11]; done) | (simp only [quC, if_pos c_4, if_pos c_11]; rfl) | rfl)
    · refine wp_bipush (v := (-3)) dX11_queued_14 (by decide) ?_
      refine wp_goto (tgt := 35) dX11_queued_16 (by decide) ?_
      exact wp_iret dX11_queued_35 rfl (Nat.le_refl _) (Nat.le_refl _) (by first | with_reducible rfl | (simp only [quC, if_pos c_4, if_neg c_11]; done) | (simp only [quC, if_pos c_4, if_neg c_11]; rfl) | rfl) (by first | with_reducible rfl | (simp only [quC, if_pos c_4, if_neg c_11]; done) | (simp only [quC, if_pos c_4, if_neg c_11]; rfl) | rfl)
  · refine wp_bipush (v := (-2)) dX11_queued_7 (by decide) ?_
    exact wp_iret dX11_queued_9 rfl (Nat.le_refl _) (Nat.le_refl _) (by first | with_reducible rfl | (simp only [quC, if_neg c_4]; done) | (simp only [quC, if_neg c_4]; rfl) | rfl) (by first | with_reducible rfl | (simp only [quC, if_neg c_4]; done) | (simp only [quC, if_neg c_4]; rfl) | rfl)

set_option maxHeartbeats 1000000 in
theorem cx_waiting {G : GG} {X : Nat} {C : Nat → Int32} {E0 : Nat → va_E} {L : List Nat} {sz d : Nat} {y k : Int32} (hG : GOK G) (hL : rIn (wR G (X + 1)) L) (hX : XO X L E0) (hW : WI C) (hdp : 1 ≤ d) : Ct G d yX11_waiting iX11_waiting [.ref X, .int y, .int k] (Wm G (X + 1) (C) E0 L sz) 0 0 (some (.int (waC C y k))) (Wm G (X + 1) (C) E0 L sz) := by
  refine Ct.of 0 (by decide) rfl (by decide) (Nat.le_of_ble_eq_true rfl) ?_
  show WP _ _ _ _ _ _ _ 0 [some (.ref X), some (.int y), some (.int k)] [] _ 0 0
  refine wp_ild1 dX11_waiting_0 ?_
  refine ci_1 dX11_waiting_1 kX11_134 (ct_isObject (d := d - 1)) (by omega) (Nat.le_of_ble_eq_true rfl) (Nat.le_refl _) (Nat.le_refl _) ?_
  refine wp_ifB_ne (tgt := 10) dX11_waiting_4 (by decide) (fun c_4 => ?_) (fun c_4 => ?_)
  · obtain ⟨hy, hyb⟩ := nat_of8 c_4.1 c_4.2
    refine wp_ild2 dX11_waiting_10 ?_
    refine wp_if_ge (tgt := 19) dX11_waiting_11 (by decide) (fun c_11 => ?_) (fun c_11 => ?_)
    · refine wp_ald0 dX11_waiting_19 ?_
      refine gx_world dX11_waiting_20 fX11_10 hX ?_
      refine g_World_locks dX11_waiting_23 fX11_119 hL ?_
      refine wp_ild1 dX11_waiting_26 ?_
      refine r_locks (i' := nt y) dX11_waiting_27 hG hL hy (by first | assumption | omega) ?_
      refine g_Lock_waitSet dX11_waiting_28 fX11_163 hL (by assumption) ?_
      refine wp_ild2 dX11_waiting_31 ?_
      refine vi_Line1 (j := 16 + 5 * nt y) dX11_waiting_32 kX11_158 (ct_at (d := d - 1) hG hL (LNw hyb) (hW.w hyb)) hL (LNw (by assumption)) rfl (by omega) (Nat.le_of_ble_eq_true rfl) (Nat.le_refl _) (Nat.le_refl _) ?_
      exact wp_iret dX11_waiting_35 rfl (Nat.le_refl _) (Nat.le_refl _) (by first | with_reducible rfl | (simp only [waC, if_pos c_4, if_pos c_11]; done) | (simp only [waC, if_pos c_4, if_pos c_11]; rfl) | rfl) (by first | with_reducible rfl | (simp only [waC, if_pos c_4, if_pos c_11]; done) | (simp only [waC, if_pos c_4, if_pos c_11]; rfl) | rfl)
    · refine wp_bipush (v := (-3)) dX11_waiting_14 (by decide) ?_
      refine wp_goto (tgt := 35) dX11_waiting_16 (by decide) ?_
      exact wp_iret dX11_waiting_35 rfl (Nat.le_refl _) (Nat.le_refl _) (by first | with_reducible rfl | (simp only [waC, if_pos c_4, if_neg c_11]; done) | (simp only [waC, if_pos c_4, if_neg c_11]; rfl) | rfl) (by first | with_reducible rfl | (simp only [waC, if_pos c_4, if_neg c_11]; done) | (simp only [waC, if_pos c_4, if_neg c_11]; rfl) | rfl)
  · refine wp_bipush (v := (-2)) dX11_waiting_7 (by decide) ?_
    exact wp_iret dX11_waiting_9 rfl (Nat.le_refl _) (Nat.le_refl _) (by first | with_reducible rfl | (simp only [waC, if_neg c_4]; done) | (simp only [waC, if_neg c_4]; rfl) | rfl) (by first | with_reducible rfl | (simp only [waC, if_neg c_4]; done) | (simp only [waC, if_neg c_4]; rfl) | rfl)

set_option maxHeartbeats 1000000 in
theorem cx_type {G : GG} {X : Nat} {C : Nat → Int32} {E0 : Nat → va_E} {L : List Nat} {sz d : Nat} {x k : Int32} (hG : GOK G) (hL : rIn (wR G (X + 1)) L) (hX : XO X L E0)  : Ct G d yX11_type iX11_type [.ref X, .int x, .int k] (Wm G (X + 1) (C) E0 L sz) 0 0 (some (.int (tyC C x k))) (Wm G (X + 1) (C) E0 L sz) := by
  refine Ct.of 1 (by decide) rfl (by decide) (Nat.le_of_ble_eq_true rfl) ?_
  show WP _ _ _ _ _ _ _ 0 [some (.ref X), some (.int x), some (.int k), none] [] _ 0 0
  refine wp_ild1 dX11_type_0 ?_
  refine wp_if_lt (tgt := 9) dX11_type_1 (by decide) (fun c_1 => ?_) (fun c_1 => ?_)
  · refine wp_bipush (v := (-3)) dX11_type_9 (by decide) ?_
    exact wp_iret dX11_type_11 rfl (Nat.le_refl _) (Nat.le_refl _) (by first | with_reducible rfl | (simp only [tyC, if_pos c_1]; done) | (simp only [tyC, if_pos c_1]; rfl) | rfl) (by first | with_reducible rfl | (simp only [tyC, if_pos c_1]; done) | (simp only [tyC, if_pos c_1]; rfl) | rfl)
  · refine wp_ild1 dX11_type_4 ?_
    refine wp_iconst (v := 3) dX11_type_5 (by decide) ?_
    refine wp_icmp_lt (tgt := 12) dX11_type_6 (by decide) (fun c_6 => ?_) (fun c_6 => ?_)
    · obtain ⟨hx, hxb⟩ := nat_of3 c_1 c_6
      refine wp_ald0 dX11_type_12 ?_
      refine gx_world dX11_type_13 fX11_10 hX ?_
      refine g_World_kinds dX11_type_16 fX11_180 hL ?_
      refine wp_ild1 dX11_type_19 ?_
      refine r_kinds (i' := nt x) dX11_type_20 hG hL hx (by first | assumption | omega) ?_
      refine wp_ast3 dX11_type_21 (by decide) rfl ?_
      refine wp_ild2 dX11_type_22 ?_
      by_cases s23_0 : k = 0
      · refine wp_tableIn (off := 25) (tgt := 48) dX11_type_23 (by rw [s23_0]; decide) (by rw [s23_0]; decide) (by rw [s23_0]; rfl) (by decide) ?_
        refine wp_ald3 dX11_type_48 ?_
        refine g_Kind_epoch dX11_type_49 fX11_184 hL (by assumption) ?_
        exact wp_iret dX11_type_52 rfl (Nat.le_refl _) (Nat.le_refl _) (by first | with_reducible rfl | (simp only [tyC, if_neg c_1, if_pos c_6, if_pos s23_0]; done) | (simp only [tyC, if_neg c_1, if_pos c_6, if_pos s23_0]; rfl) | rfl) (by first | with_reducible rfl | (simp only [tyC, if_neg c_1, if_pos c_6, if_pos s23_0]; done) | (simp only [tyC, if_neg c_1, if_pos c_6, if_pos s23_0]; rfl) | rfl)
      · by_cases s23_1 : k = 1
        · refine wp_tableIn (off := 30) (tgt := 53) dX11_type_23 (by rw [s23_1]; decide) (by rw [s23_1]; decide) (by rw [s23_1]; rfl) (by decide) ?_
          refine wp_ald3 dX11_type_53 ?_
          refine g_Kind_revocations dX11_type_54 fX11_189 hL (by assumption) ?_
          exact wp_iret dX11_type_57 rfl (Nat.le_refl _) (Nat.le_refl _) (by first | with_reducible rfl | (simp only [tyC, if_neg c_1, if_pos c_6, if_neg s23_0, if_pos s23_1]; done) | (simp only [tyC, if_neg c_1, if_pos c_6, if_neg s23_0, if_pos s23_1]; rfl) | rfl) (by first | with_reducible rfl | (simp only [tyC, if_neg c_1, if_pos c_6, if_neg s23_0, if_pos s23_1]; done) | (simp only [tyC, if_neg c_1, if_pos c_6, if_neg s23_0, if_pos s23_1]; rfl) | rfl)
        · by_cases s23_2 : k = 2
          · refine wp_tableIn (off := 35) (tgt := 58) dX11_type_23 (by rw [s23_2]; decide) (by rw [s23_2]; decide) (by rw [s23_2]; rfl) (by decide) ?_
            refine wp_ald3 dX11_type_58 ?_
            refine g_Kind_biasable dX11_type_59 fX11_192 hL (by assumption) ?_
            refine wp_if_eq (tgt := 69) dX11_type_62 (by decide) (fun c_62 => ?_) (fun c_62 => ?_)
            · refine wp_iconst (v := 0) dX11_type_69 (by decide) ?_
              exact wp_iret dX11_type_70 rfl (Nat.le_refl _) (Nat.le_refl _) (by first | with_reducible rfl | (simp only [tyC, if_neg c_1, if_pos c_6, if_neg s23_0, if_neg s23_1, if_pos s23_2, if_pos c_62]; done) | (simp only [tyC, if_neg c_1, if_pos c_6, if_neg s23_0, if_neg s23_1, if_pos s23_2, if_pos c_62]; rfl) | rfl) (by first | with_reducible rfl | (simp only [tyC, if_neg c_1, if_pos c_6, if_neg s23_0, if_neg s23_1, if_pos s23_2, if_pos c_62]; done) | (simp only [tyC, if_neg c_1, if_pos c_6, if_neg s23_0, if_neg s23_1, if_pos s23_2, if_pos c_62]; rfl) | rfl)
            · refine wp_iconst (v := 1) dX11_type_65 (by decide) ?_
              refine wp_goto (tgt := 70) dX11_type_66 (by decide) ?_
              exact wp_iret dX11_type_70 rfl (Nat.le_refl _) (Nat.le_refl _) (by first | with_reducible rfl | (simp only [tyC, if_neg c_1, if_pos c_6, if_neg s23_0, if_neg s23_1, if_pos s23_2, if_neg c_62]; done) | (simp only [tyC, if_neg c_1, if_pos c_6, if_neg s23_0, if_neg s23_1, if_pos s23_2, if_neg c_62]; rfl) | rfl) (by first | with_reducible rfl | (simp only [tyC, if_neg c_1, if_pos c_6, if_neg s23_0, if_neg s23_1, if_pos s23_2, if_neg c_62]; done) | (simp only [tyC, if_neg c_1, if_pos c_6, if_neg s23_0, if_neg s23_1, if_pos s23_2, if_neg c_62]; rfl) | rfl)
          · refine wp_tableOut (tgt := 71) dX11_type_23 (swt3 s23_0 s23_1 s23_2) (by decide) ?_
            refine wp_bipush (v := (-3)) dX11_type_71 (by decide) ?_
            exact wp_iret dX11_type_73 rfl (Nat.le_refl _) (Nat.le_refl _) (by first | with_reducible rfl | (simp only [tyC, if_neg c_1, if_pos c_6, if_neg s23_0, if_neg s23_1, if_neg s23_2]; done) | (simp only [tyC, if_neg c_1, if_pos c_6, if_neg s23_0, if_neg s23_1, if_neg s23_2]; rfl) | rfl) (by first | with_reducible rfl | (simp only [tyC, if_neg c_1, if_pos c_6, if_neg s23_0, if_neg s23_1, if_neg s23_2]; done) | (simp only [tyC, if_neg c_1, if_pos c_6, if_neg s23_0, if_neg s23_1, if_neg s23_2]; rfl) | rfl)
    · refine wp_bipush (v := (-3)) dX11_type_9 (by decide) ?_
      exact wp_iret dX11_type_11 rfl (Nat.le_refl _) (Nat.le_refl _) (by first | with_reducible rfl | (simp only [tyC, if_neg c_1, if_neg c_6]; done) | (simp only [tyC, if_neg c_1, if_neg c_6]; rfl) | rfl) (by first | with_reducible rfl | (simp only [tyC, if_neg c_1, if_neg c_6]; done) | (simp only [tyC, if_neg c_1, if_neg c_6]; rfl) | rfl)

set_option maxHeartbeats 1000000 in
theorem cx_counted {G : GG} {X : Nat} {C : Nat → Int32} {E0 : Nat → va_E} {L : List Nat} {sz d : Nat} {x : Int32} (hG : GOK G) (hL : rIn (wR G (X + 1)) L) (hX : XO X L E0)  : Ct G d yX11_counted iX11_counted [.ref X, .int x] (Wm G (X + 1) (C) E0 L sz) 0 0 (some (.int (cdC C x))) (Wm G (X + 1) (C) E0 L sz) := by
  refine Ct.of 0 (by decide) rfl (by decide) (Nat.le_of_ble_eq_true rfl) ?_
  show WP _ _ _ _ _ _ _ 0 [some (.ref X), some (.int x)] [] _ 0 0
  refine wp_ild1 dX11_counted_0 ?_
  refine wp_if_lt (tgt := 10) dX11_counted_1 (by decide) (fun c_1 => ?_) (fun c_1 => ?_)
  · refine wp_bipush (v := (-3)) dX11_counted_10 (by decide) ?_
    refine wp_goto (tgt := 24) dX11_counted_12 (by decide) ?_
    exact wp_iret dX11_counted_24 rfl (Nat.le_refl _) (Nat.le_refl _) (by first | with_reducible rfl | (simp only [cdC, if_pos c_1]; done) | (simp only [cdC, if_pos c_1]; rfl) | rfl) (by first | with_reducible rfl | (simp only [cdC, if_pos c_1]; done) | (simp only [cdC, if_pos c_1]; rfl) | rfl)
  · refine wp_ild1 dX11_counted_4 ?_
    refine wp_bipush (v := 9) dX11_counted_5 (by decide) ?_
    refine wp_icmp_lt (tgt := 15) dX11_counted_7 (by decide) (fun c_7 => ?_) (fun c_7 => ?_)
    · obtain ⟨hx, hxb⟩ := nat_of9 c_1 c_7
      refine wp_ald0 dX11_counted_15 ?_
      refine gx_world dX11_counted_16 fX11_10 hX ?_
      refine g_World_counts dX11_counted_19 fX11_200 hL ?_
      refine wp_ild1 dX11_counted_22 ?_
      refine r_counts (i' := nt x) dX11_counted_23 hG hL hx (by first | assumption | omega) ?_
      exact wp_iret dX11_counted_24 rfl (Nat.le_refl _) (Nat.le_refl _) (by first | with_reducible rfl | (simp only [cdC, if_neg c_1, if_pos c_7]; done) | (simp only [cdC, if_neg c_1, if_pos c_7]; rfl) | rfl) (by first | with_reducible rfl | (simp only [cdC, if_neg c_1, if_pos c_7]; done) | (simp only [cdC, if_neg c_1, if_pos c_7]; rfl) | rfl)
    · refine wp_bipush (v := (-3)) dX11_counted_10 (by decide) ?_
      refine wp_goto (tgt := 24) dX11_counted_12 (by decide) ?_
      exact wp_iret dX11_counted_24 rfl (Nat.le_refl _) (Nat.le_refl _) (by first | with_reducible rfl | (simp only [cdC, if_neg c_1, if_neg c_7]; done) | (simp only [cdC, if_neg c_1, if_neg c_7]; rfl) | rfl) (by first | with_reducible rfl | (simp only [cdC, if_neg c_1, if_neg c_7]; done) | (simp only [cdC, if_neg c_1, if_neg c_7]; rfl) | rfl)

set_option maxHeartbeats 1000000 in
theorem cx_setting {G : GG} {X : Nat} {C : Nat → Int32} {E0 : Nat → va_E} {L : List Nat} {sz d : Nat} {x : Int32} (hG : GOK G) (hL : rIn (wR G (X + 1)) L) (hX : XO X L E0)  (hdp : 1 ≤ d) : Ct G d yX11_setting iX11_setting [.ref X, .int x] (Wm G (X + 1) (C) E0 L sz) 0 0 (some (.int (stC C x))) (Wm G (X + 1) (C) E0 L sz) := by
  refine Ct.of 0 (by decide) rfl (by decide) (Nat.le_of_ble_eq_true rfl) ?_
  show WP _ _ _ _ _ _ _ 0 [some (.ref X), some (.int x)] [] _ 0 0
  refine wp_ild1 dX11_setting_0 ?_
  refine ci_1 dX11_setting_1 kX11_80 (ct_exists (d := d - 1)) (by omega) (Nat.le_of_ble_eq_true rfl) (Nat.le_refl _) (Nat.le_refl _) ?_
  refine wp_ifB_eq (tgt := 21) dX11_setting_4 (by decide) (fun c_4 => ?_) (fun c_4 => ?_)
  · refine wp_bipush (v := (-3)) dX11_setting_21 (by decide) ?_
    exact wp_iret dX11_setting_23 rfl (Nat.le_refl _) (Nat.le_refl _) (by first | with_reducible rfl | (simp only [stC, if_neg c_4]; done) | (simp only [stC, if_neg c_4]; rfl) | rfl) (by first | with_reducible rfl | (simp only [stC, if_neg c_4]; done) | (simp only [stC, if_neg c_4]; rfl) | rfl)
  · refine wp_ald0 dX11_setting_7 ?_
    refine gx_world dX11_setting_8 fX11_10 hX ?_
    refine g_World_settings dX11_setting_11 fX11_68 hL ?_
    refine wp_ild1 dX11_setting_14 ?_
    refine vi_Settings1 dX11_setting_15 kX11_72 (ct_valueOf (d := d - 1) hG hL) hL rfl (by omega) (Nat.le_of_ble_eq_true rfl) (Nat.le_refl _) (Nat.le_refl _) ?_
    refine wp_goto (tgt := 23) dX11_setting_18 (by decide) ?_
    exact wp_iret dX11_setting_23 rfl (Nat.le_refl _) (Nat.le_refl _) (by first | with_reducible rfl | (simp only [stC, if_pos c_4]; done) | (simp only [stC, if_pos c_4]; rfl) | rfl) (by first | with_reducible rfl | (simp only [stC, if_pos c_4]; done) | (simp only [stC, if_pos c_4]; rfl) | rfl)

set_option maxHeartbeats 1000000 in
theorem cx_set {G : GG} {X : Nat} {C : Nat → Int32} {E0 : Nat → va_E} {L : List Nat} {sz d : Nat} {x v : Int32} (hG : GOK G) (hL : rIn (wR G (X + 1)) L) (hX : XO X L E0) {aL aG aF aP : Nat} (hZ : GSt G aL aG aF aP) (hdp : 3 ≤ d) : Ct G d yX11_set iX11_set [.ref X, .int x, .int v] (Wm G (X + 1) (C) E0 L sz) 0 0 (some (.int ((setC C x v).1))) (Wm G (X + 1) ((setC C x v).2) E0 L sz) := by
  refine Ct.of 1 (by decide) rfl (by decide) (Nat.le_of_ble_eq_true rfl) ?_
  show WP _ _ _ _ _ _ _ 0 [some (.ref X), some (.int x), some (.int v), none] [] _ 0 0
  refine wp_ild1 dX11_set_0 ?_
  refine wp_ild2 dX11_set_1 ?_
  refine ci_2 dX11_set_2 kX11_58 (ct_allows (d := d - 1) hZ (by omega)) (by omega) (Nat.le_of_ble_eq_true rfl) (Nat.le_refl _) (Nat.le_refl _) ?_
  refine wp_ifB_ne (tgt := 11) dX11_set_5 (by decide) (fun c_5 => ?_) (fun c_5 => ?_)
  · refine wp_ild1 dX11_set_11 ?_
    refine wp_bipush (v := 6) dX11_set_12 (by decide) ?_
    refine wp_icmp_ne (tgt := 31) dX11_set_14 (by decide) (fun c_14 => ?_) (fun c_14 => ?_)
    · refine wp_ald0 dX11_set_31 ?_
      refine gx_world dX11_set_32 fX11_10 hX ?_
      refine g_World_settings dX11_set_35 fX11_68 hL ?_
      refine wp_ild1 dX11_set_38 ?_
      refine vi_Settings1 dX11_set_39 kX11_72 (ct_valueOf (d := d - 1) hG hL) hL rfl (by omega) (Nat.le_of_ble_eq_true rfl) (Nat.le_refl _) (Nat.le_refl _) ?_
      refine wp_ist3 dX11_set_42 (by decide) rfl ?_
      refine wp_ald0 dX11_set_43 ?_
      refine gx_world dX11_set_44 fX11_10 hX ?_
      refine g_World_settings dX11_set_47 fX11_68 hL ?_
      refine wp_ild1 dX11_set_50 ?_
      refine wp_ild2 dX11_set_51 ?_
      refine vv_Settings2 dX11_set_52 kX11_76 (ct_change (d := d - 1) hG hL hZ (by omega)) hL rfl (by omega) (Nat.le_of_ble_eq_true rfl) (Nat.le_refl _) (Nat.le_refl _) ?_
      refine wp_ild3 dX11_set_55 ?_
      exact wp_iret dX11_set_56 rfl (Nat.le_refl _) (Nat.le_refl _) (by first | with_reducible rfl | (simp only [setC, if_pos c_5, if_neg c_14]; done) | (simp only [setC, if_pos c_5, if_neg c_14]; rfl) | rfl) (by first | with_reducible rfl | (simp only [setC, if_pos c_5, if_neg c_14]; done) | (simp only [setC, if_pos c_5, if_neg c_14]; rfl) | rfl)
    · refine wp_ild2 dX11_set_17 ?_
      refine wp_ald0 dX11_set_18 ?_
      refine gx_world dX11_set_19 fX11_10 hX ?_
      refine vi_World0 dX11_set_22 kX11_64 (ct_monitorsInUse (d := d - 1) hG hL) hL rfl (by omega) (Nat.le_of_ble_eq_true rfl) (Nat.le_refl _) (Nat.le_refl _) ?_
      refine wp_icmp_ge (tgt := 31) dX11_set_25 (by decide) (fun c_25 => ?_) (fun c_25 => ?_)
      · refine wp_ald0 dX11_set_31 ?_
        refine gx_world dX11_set_32 fX11_10 hX ?_
        refine g_World_settings dX11_set_35 fX11_68 hL ?_
        refine wp_ild1 dX11_set_38 ?_
        refine vi_Settings1 dX11_set_39 kX11_72 (ct_valueOf (d := d - 1) hG hL) hL rfl (by omega) (Nat.le_of_ble_eq_true rfl) (Nat.le_refl _) (Nat.le_refl _) ?_
        refine wp_ist3 dX11_set_42 (by decide) rfl ?_
        refine wp_ald0 dX11_set_43 ?_
        refine gx_world dX11_set_44 fX11_10 hX ?_
        refine g_World_settings dX11_set_47 fX11_68 hL ?_
        refine wp_ild1 dX11_set_50 ?_
        refine wp_ild2 dX11_set_51 ?_
        refine vv_Settings2 dX11_set_52 kX11_76 (ct_change (d := d - 1) hG hL hZ (by omega)) hL rfl (by omega) (Nat.le_of_ble_eq_true rfl) (Nat.le_refl _) (Nat.le_refl _) ?_
        refine wp_ild3 dX11_set_55 ?_
        exact wp_iret dX11_set_56 rfl (Nat.le_refl _) (Nat.le_refl _) (by first | with_reducible rfl | (simp only [setC, if_pos c_5, if_pos c_14, if_pos c_25]; done) | (simp only [setC, if_pos c_5, if_pos c_14, if_pos c_25]; rfl) | rfl) (by first | with_reducible rfl | (simp only [setC, if_pos c_5, if_pos c_14, if_pos c_25]; done) | (simp only [setC, if_pos c_5, if_pos c_14, if_pos c_25]; rfl) | rfl)
      · refine wp_bipush (v := (-7)) dX11_set_28 (by decide) ?_
        exact wp_iret dX11_set_30 rfl (Nat.le_refl _) (Nat.le_refl _) (by first | with_reducible rfl | (simp only [setC, if_pos c_5, if_pos c_14, if_neg c_25]; done) | (simp only [setC, if_pos c_5, if_pos c_14, if_neg c_25]; rfl) | rfl) (by first | with_reducible rfl | (simp only [setC, if_pos c_5, if_pos c_14, if_neg c_25]; done) | (simp only [setC, if_pos c_5, if_pos c_14, if_neg c_25]; rfl) | rfl)
  · refine wp_bipush (v := (-3)) dX11_set_8 (by decide) ?_
    exact wp_iret dX11_set_10 rfl (Nat.le_refl _) (Nat.le_refl _) (by first | with_reducible rfl | (simp only [setC, if_neg c_5]; done) | (simp only [setC, if_neg c_5]; rfl) | rfl) (by first | with_reducible rfl | (simp only [setC, if_neg c_5]; done) | (simp only [setC, if_neg c_5]; rfl) | rfl)

set_option maxHeartbeats 1000000 in
theorem cx_threads {G : GG} {X : Nat} {C : Nat → Int32} {E0 : Nat → va_E} {L : List Nat} {sz d : Nat}  (hG : GOK G) (hL : rIn (wR G (X + 1)) L) (hX : XO X L E0)  : Ct G d yX11_threads iX11_threads [.ref X] (Wm G (X + 1) (C) E0 L sz) 0 0 (some (.int (C 0))) (Wm G (X + 1) (C) E0 L sz) := by
  refine Ct.of 0 (by decide) rfl (by decide) (Nat.le_of_ble_eq_true rfl) ?_
  show WP _ _ _ _ _ _ _ 0 [some (.ref X)] [] _ 0 0
  refine wp_ald0 dX11_threads_0 ?_
  refine gx_world dX11_threads_1 fX11_10 hX ?_
  refine g_World_threadCount dX11_threads_4 fX11_47 hL ?_
  exact wp_iret dX11_threads_7 rfl (Nat.le_refl _) (Nat.le_refl _) (by rfl) (by rfl)

set_option maxHeartbeats 1000000 in
theorem cx_time {G : GG} {X : Nat} {C : Nat → Int32} {E0 : Nat → va_E} {L : List Nat} {sz d : Nat}  (hG : GOK G) (hL : rIn (wR G (X + 1)) L) (hX : XO X L E0)  : Ct G d yX11_time iX11_time [.ref X] (Wm G (X + 1) (C) E0 L sz) 0 0 (some (.int (C 9))) (Wm G (X + 1) (C) E0 L sz) := by
  refine Ct.of 0 (by decide) rfl (by decide) (Nat.le_of_ble_eq_true rfl) ?_
  show WP _ _ _ _ _ _ _ 0 [some (.ref X)] [] _ 0 0
  refine wp_ald0 dX11_time_0 ?_
  refine gx_world dX11_time_1 fX11_10 hX ?_
  refine g_World_now dX11_time_4 fX11_195 hL ?_
  exact wp_iret dX11_time_7 rfl (Nat.le_refl _) (Nat.le_refl _) (by rfl) (by rfl)

set_option maxHeartbeats 1000000 in
theorem cx_monitors {G : GG} {X : Nat} {C : Nat → Int32} {E0 : Nat → va_E} {L : List Nat} {sz d : Nat}  (hG : GOK G) (hL : rIn (wR G (X + 1)) L) (hX : XO X L E0)  (hdp : 1 ≤ d) : Ct G d yX11_monitors iX11_monitors [.ref X] (Wm G (X + 1) (C) E0 L sz) 0 0 (some (.int (monF C))) (Wm G (X + 1) (C) E0 L sz) := by
  refine Ct.of 0 (by decide) rfl (by decide) (Nat.le_of_ble_eq_true rfl) ?_
  show WP _ _ _ _ _ _ _ 0 [some (.ref X)] [] _ 0 0
  refine wp_ald0 dX11_monitors_0 ?_
  refine gx_world dX11_monitors_1 fX11_10 hX ?_
  refine vi_World0 dX11_monitors_4 kX11_64 (ct_monitorsInUse (d := d - 1) hG hL) hL rfl (by omega) (Nat.le_of_ble_eq_true rfl) (Nat.le_refl _) (Nat.le_refl _) ?_
  exact wp_iret dX11_monitors_7 rfl (Nat.le_refl _) (Nat.le_refl _) (by rfl) (by rfl)

def heC (C : Nat → Int32) (x : Int32) : Nat → Nat → Int32 → Int32
  | 0, _, a => a
  | n + 1, i, a => heC C x n (i + 1) (if ¬ C (62 + i) ≤ 0 ∧ C (54 + i) = x then a ||| (1 <<< (nI i &&& 31)) else a)
def deC (C : Nat → Int32) : Nat → Nat → Int32 → Int32
  | 0, _, a => a
  | n + 1, i, a => deC C n (i + 1) (if wsL C (nI i) (nt (C 0)) (nI i) = true then a ||| (1 <<< (nI i &&& 31)) else a)
def pcC (C : Nat → Int32) : Nat → Nat → Int32 → Int32
  | 0, _, a => a
  | n + 1, i, a => pcC C n (i + 1) (a + sPrice i * C (231 + i))

set_option maxHeartbeats 1000000 in
theorem lx_held {G : GG} {X : Nat} {C : Nat → Int32} {E0 : Nat → va_E} {L : List Nat} {sz d : Nat} {x : Int32} (hG : GOK G) (hL : rIn (wR G (X + 1)) L) (hX : XO X L E0)  (hdp : 2 ≤ d) (n : Nat) : ∀ (i : Nat) (a : Int32), i + n = 8 → WP G iX11_held d 0 0 (some (.int (heC C x n i a))) (Wm G (X + 1) (C) E0 L sz) 17 [some (.ref X), some (.int x), some (.int a), some (.int (nI i))] [] (Wm G (X + 1) (C) E0 L sz) 0 0 := by
  induction n with
  | zero =>
    intro i a hi
    refine wp_ild3 dX11_held_17 ?_
    refine wp_bipush (v := 8) dX11_held_18 (by decide) ?_
    refine wp_icmp_ge (tgt := 51) dX11_held_20 (by decide) (fun c_20 => ?_) (fun c_20 => absurd (nI_le (a := 8) (b := i) (by omega) (by omega)) c_20)
    refine wp_ild2 dX11_held_51 ?_
    exact wp_iret dX11_held_52 rfl (Nat.le_refl _) (Nat.le_refl _) (by first | with_reducible rfl | (simp only [heC]; done) | (simp only [heC]; rfl) | rfl) (by first | with_reducible rfl | (simp only [heC]; done) | (simp only [heC]; rfl) | rfl)
  | succ n ih =>
    intro i a hi
    refine wp_ild3 dX11_held_17 ?_
    refine wp_bipush (v := 8) dX11_held_18 (by decide) ?_
    refine wp_icmp_ge (tgt := 51) dX11_held_20 (by decide) (fun c_20 => absurd c_20 (nI_ge (a := i) (b := 8) (by omega) (by omega))) (fun c_20 => ?_)
    have hi8 : i < 8 := by omega
    refine wp_ald0 dX11_held_23 ?_
    refine gx_world dX11_held_24 fX11_10 hX ?_
    refine g_World_locks dX11_held_27 fX11_119 hL ?_
    refine wp_ild3 dX11_held_30 ?_
    refine r_locks (i' := i) dX11_held_31 hG hL rfl (by first | assumption | omega) ?_
    refine wp_ild1 dX11_held_32 ?_
    refine vi_Lock1 dX11_held_33 kX11_123 (ct_isHeldBy (d := d - 1) hG hL (by assumption) (by omega)) hL (by assumption) rfl (by omega) (Nat.le_of_ble_eq_true rfl) (Nat.le_refl _) (Nat.le_refl _) ?_
    refine wp_ifB_eq (tgt := 45) dX11_held_36 (by decide) (fun c_36 => ?_) (fun c_36 => ?_)
    · refine wp_inc3 dX11_held_45 (by decide) rfl ?_
      refine wp_goto (tgt := 17) dX11_held_48 (by decide) ?_
      simp only [heC, if_neg c_36]
      exact WP.fg (by simp [lcle]) (ih (i + 1) _ (by omega))
    · refine wp_ild2 dX11_held_39 ?_
      refine wp_iconst (v := 1) dX11_held_40 (by decide) ?_
      refine wp_ild3 dX11_held_41 ?_
      refine wp_ishl dX11_held_42 ?_
      refine wp_ior dX11_held_43 ?_
      refine wp_ist2 dX11_held_44 (by decide) rfl ?_
      refine wp_inc3 dX11_held_45 (by decide) rfl ?_
      refine wp_goto (tgt := 17) dX11_held_48 (by decide) ?_
      simp only [heC, if_pos c_36]
      exact WP.fg (by simp [lcle]) (ih (i + 1) _ (by omega))
def hlC (C : Nat → Int32) (x : Int32) : Int32 := if hasT C x then heC C x 8 0 0 else -1
set_option maxHeartbeats 1000000 in
theorem cx_held {G : GG} {X : Nat} {C : Nat → Int32} {E0 : Nat → va_E} {L : List Nat} {sz d : Nat} {x : Int32} (hG : GOK G) (hL : rIn (wR G (X + 1)) L) (hX : XO X L E0)  (hdp : 2 ≤ d) : Ct G d yX11_held iX11_held [.ref X, .int x] (Wm G (X + 1) (C) E0 L sz) 0 0 (some (.int (hlC C x))) (Wm G (X + 1) (C) E0 L sz) := by
  refine Ct.of 2 (by decide) rfl (by decide) (Nat.le_of_ble_eq_true rfl) ?_
  show WP _ _ _ _ _ _ _ 0 [some (.ref X), some (.int x), none, none] [] _ 0 0
  refine wp_ald0 dX11_held_0 ?_
  refine gx_world dX11_held_1 fX11_10 hX ?_
  refine wp_ild1 dX11_held_4 ?_
  refine vi_World1 dX11_held_5 kX11_100 (ct_hasThread (d := d - 1) hG hL) hL rfl (by omega) (Nat.le_of_ble_eq_true rfl) (Nat.le_refl _) (Nat.le_refl _) ?_
  refine wp_ifB_ne (tgt := 13) dX11_held_8 (by decide) (fun c_8 => ?_) (fun c_8 => ?_)
  · refine wp_iconst (v := 0) dX11_held_13 (by decide) ?_
    refine wp_ist2 dX11_held_14 (by decide) rfl ?_
    refine wp_iconst (v := 0) dX11_held_15 (by decide) ?_
    refine wp_ist3 dX11_held_16 (by decide) rfl ?_
    simp only [hlC, if_pos c_8]
    exact WP.fg (by simp [lcle, nI_0]) (lx_held hG hL hX hdp 8 0 0 rfl)
  · refine wp_iconst (v := (-1)) dX11_held_11 (by decide) ?_
    exact wp_iret dX11_held_12 rfl (Nat.le_refl _) (Nat.le_refl _) (by first | with_reducible rfl | (simp only [hlC, if_neg c_8]; done) | (simp only [hlC, if_neg c_8]; rfl) | rfl) (by first | with_reducible rfl | (simp only [hlC, if_neg c_8]; done) | (simp only [hlC, if_neg c_8]; rfl) | rfl)

set_option maxHeartbeats 1000000 in
theorem lx_dead {G : GG} {X : Nat} {C : Nat → Int32} {E0 : Nat → va_E} {L : List Nat} {sz d : Nat} {T : Nat} (hG : GOK G) (hL : rIn (wR G (X + 1)) L) (hX : XO X L E0) (hW : WI C) (hT : C 0 = nI T) (hT6 : T ≤ 6) (hdp : 3 ≤ d) (n : Nat) : ∀ (i : Nat) (a : Int32), i + n = T → WP G iX11_deadlocked d 0 0 (some (.int (deC C n i a))) (Wm G (X + 1) (C) E0 L sz) 4 [some (.ref X), some (.int a), some (.int (nI i))] [] (Wm G (X + 1) (C) E0 L sz) 0 0 := by
  induction n with
  | zero =>
    intro i a hi
    refine wp_ild2 dX11_deadlocked_4 ?_
    refine wp_ald0 dX11_deadlocked_5 ?_
    refine gx_world dX11_deadlocked_6 fX11_10 hX ?_
    refine g_World_threadCount dX11_deadlocked_9 fX11_47 hL ?_
    refine wp_icmp_ge (tgt := 38) dX11_deadlocked_12 (by decide) (fun c_12 => ?_) (fun c_12 => absurd (by rw [hT]; exact nI_le (by omega) (by omega)) c_12)
    refine wp_ild1 dX11_deadlocked_38 ?_
    exact wp_iret dX11_deadlocked_39 rfl (Nat.le_refl _) (Nat.le_refl _) (by first | with_reducible rfl | (simp only [deC]; done) | (simp only [deC]; rfl) | rfl) (by first | with_reducible rfl | (simp only [deC]; done) | (simp only [deC]; rfl) | rfl)
  | succ n ih =>
    intro i a hi
    refine wp_ild2 dX11_deadlocked_4 ?_
    refine wp_ald0 dX11_deadlocked_5 ?_
    refine gx_world dX11_deadlocked_6 fX11_10 hX ?_
    refine g_World_threadCount dX11_deadlocked_9 fX11_47 hL ?_
    refine wp_icmp_ge (tgt := 38) dX11_deadlocked_12 (by decide) (fun c_12 => absurd c_12 (by rw [hT]; exact nI_ge (by omega) (by omega))) (fun c_12 => ?_)
    refine wp_ald0 dX11_deadlocked_15 ?_
    refine gx_world dX11_deadlocked_16 fX11_10 hX ?_
    refine wp_ild2 dX11_deadlocked_19 ?_
    refine vi_World1 dX11_deadlocked_20 kX11_131 (ct_waitsForItself (d := d - 1) hG hL hW (by omega)) hL rfl (by omega) (Nat.le_of_ble_eq_true rfl) (Nat.le_refl _) (Nat.le_refl _) ?_
    refine wp_ifB_eq (tgt := 32) dX11_deadlocked_23 (by decide) (fun c_23 => ?_) (fun c_23 => ?_)
    · refine wp_inc2 dX11_deadlocked_32 (by decide) rfl ?_
      refine wp_goto (tgt := 4) dX11_deadlocked_35 (by decide) ?_
      simp only [deC, if_neg c_23]
      exact WP.fg (by simp [lcle]) (ih (i + 1) _ (by omega))
    · refine wp_ild1 dX11_deadlocked_26 ?_
      refine wp_iconst (v := 1) dX11_deadlocked_27 (by decide) ?_
      refine wp_ild2 dX11_deadlocked_28 ?_
      refine wp_ishl dX11_deadlocked_29 ?_
      refine wp_ior dX11_deadlocked_30 ?_
      refine wp_ist1 dX11_deadlocked_31 (by decide) rfl ?_
      refine wp_inc2 dX11_deadlocked_32 (by decide) rfl ?_
      refine wp_goto (tgt := 4) dX11_deadlocked_35 (by decide) ?_
      simp only [deC, if_pos c_23]
      exact WP.fg (by simp [lcle]) (ih (i + 1) _ (by omega))
set_option maxHeartbeats 1000000 in
theorem cx_deadlocked {G : GG} {X : Nat} {C : Nat → Int32} {E0 : Nat → va_E} {L : List Nat} {sz d : Nat}  (hG : GOK G) (hL : rIn (wR G (X + 1)) L) (hX : XO X L E0) (hW : WI C) (hdp : 3 ≤ d) : Ct G d yX11_deadlocked iX11_deadlocked [.ref X] (Wm G (X + 1) (C) E0 L sz) 0 0 (some (.int (deC C (nt (C 0)) 0 0))) (Wm G (X + 1) (C) E0 L sz) := by
  refine Ct.of 2 (by decide) rfl (by decide) (Nat.le_of_ble_eq_true rfl) ?_
  show WP _ _ _ _ _ _ _ 0 [some (.ref X), none, none] [] _ 0 0
  refine wp_iconst (v := 0) dX11_deadlocked_0 (by decide) ?_
  refine wp_ist1 dX11_deadlocked_1 (by decide) rfl ?_
  refine wp_iconst (v := 0) dX11_deadlocked_2 (by decide) ?_
  refine wp_ist2 dX11_deadlocked_3 (by decide) rfl ?_
  exact WP.fg (by simp [lcle, nI_0]) (lx_dead hG hL hX hW hW.thr.1 hW.thr.2 hdp _ 0 0 (by omega))

