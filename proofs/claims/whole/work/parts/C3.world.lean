/-! the world's constructor -/
def wC0 (q : Nat) : Int32 := if 1 ≤ q ∧ q ≤ 8 then sFirst (q - 1) else 0
def pRow (cA : ClassId) (z : Nat) (g : Nat → Nat) (i : Nat) : va_E := .inl (cA, z, .inr (.inr (.inr (.inr (fun t => if t < i then some (g t) else none)))))
theorem pRow_0 {cA : ClassId} {z : Nat} {g : Nat → Nat} : (.inl (cA, z, .inr (.inr (.inr (.inr (fun _ => none))))) : va_E) = pRow cA z g 0 := by
  unfold pRow
  congr 7
theorem pRow_s {cA : ClassId} {z i b : Nat} {g : Nat → Nat} (hb : b = g i) : (.inl (cA, z, .inr (.inr (.inr (.inr (va_up (fun t => if t < i then some (g t) else none) i (some b)))))) : va_E) = pRow cA z g (i + 1) := by
  have e : va_up (fun t => if t < i then some (g t) else none) i (some b) = fun t => if t < i + 1 then some (g t) else none := by
    funext t
    by_cases c : t = i
    · subst c; rw [vu_eq, if_pos (by omega), hb]
    · rw [vu_ne c]
      by_cases q : t < i
      · rw [if_pos q, if_pos (by omega)]
      · rw [if_neg q, if_neg (by omega)]
  unfold pRow
  rw [e]
theorem pRow_z {cA : ClassId} {z : Nat} {g : Nat → Nat} : eqE (pRow cA z g z) (.inl (cA, z, .inr (.inr (.inr (.inr (fun t => some (g t))))))) := Or.inr ⟨cA, z, _, _, rfl, rfl, fun j hj => if_pos hj⟩
def Wst (G : GG) (B i4 i5 i6 : Nat) : Nat → va_E := fun j => if j = 4 then pRow (cyS G) 6 (aSt B) i4 else if j = 5 then pRow (cyL G) 8 (aLk B) i5 else if j = 6 then pRow (cyK G) 3 (aKd B) i6 else rc (wR G B) wC0 j
theorem Wst_o {G : GG} {B i4 i5 i6 j : Nat} (h4 : j ≠ 4) (h5 : j ≠ 5) (h6 : j ≠ 6) : Wst G B i4 i5 i6 j = rc (wR G B) wC0 j := by
  unfold Wst
  rw [if_neg h4, if_neg h5, if_neg h6]
theorem wC0_z {q : Nat} (h : q = 0 ∨ 8 < q) : wC0 q = 0 := by
  unfold wC0
  rw [if_neg (by omega)]
/-- a shape whose numbers are all 0 -/
theorem rc_zl {r : Rg} {C : Nat → Int32} {j ci : Nat} {sl : List (Option Value)} (hs : r.1 j = .inl (ci, sl)) (hz : ∀ f, sl[f]? = some none → C (r.2.1 j f) = 0) : rc r C j = .inr (ci, sl.map (fun x => x.getD (.int 0))) := by
  unfold rc
  rw [hs]
  show Sum.inr (ci, vals sl _) = Sum.inr (ci, _)
  congr 2
  apply List.ext_getElem?
  intro i
  simp only [vals, List.getElem?_mapIdx, List.getElem?_map]
  cases hx : sl[i]? with
  | none => rfl
  | some x =>
    cases x with
    | some v => rfl
    | none => simp only [Option.map_some, Option.getD_none]; rw [hz i hx]
theorem rc_za {r : Rg} {C : Nat → Int32} {j z : Nat} {cA : ClassId} (hs : r.1 j = .inr (cA, z, none)) (hz : ∀ f, f < z → C (r.2.1 j f) = 0) : rc r C j = .inl (cA, z, .inl (fun _ => 0)) := by
  unfold rc
  rw [hs, inst_congr (e := .inr (cA, z, none)) (J := fun _ => 0) (fun f h => hz f h)]
  exact inst_z
theorem wix_pos {j f : Nat} (hj : 7 ≤ j ∧ j < 56) (hf : wnI j f = true) : 9 ≤ wix j f := by
  have := wnI_lt j hj.2 f hf
  have key : ∀ j, j < 56 → ∀ f, f < 12 → wnI j f = true → 7 ≤ j → 9 ≤ wix j f := by decide +kernel
  exact key j hj.2 f this hf hj.1
theorem wc_z {G : GG} {B j f : Nat} (hj : 7 ≤ j ∧ j < 56) (h : isI (wSh G B j) f) : wC0 (wix j f) = 0 := wC0_z (Or.inr (by have := wix_pos hj (isI_wSh hj.2 h); omega))
theorem wc_st {G : GG} {B t : Nat} (h : t < 6) : rc (wR G B) wC0 (7 + t) = .inr (8, [.int 0, .int 0, .int 0, .int 0, .int 0, .int 0]) := rc_zl (r := wR G B) (wSh_st h) (fun f hf => wc_z (G := G) (B := B) (by omega) (by rw [wSh_st h]; exact hf))
theorem wc_kd {G : GG} {B c : Nat} (h : c < 3) : rc (wR G B) wC0 (53 + c) = .inr (2, [.int 0, .int 0, .int 0]) := rc_zl (r := wR G B) (wSh_kd h) (fun f hf => wc_z (G := G) (B := B) (by omega) (by rw [wSh_kd h]; exact hf))
theorem wc_lk {G : GG} {B o q : Nat} (h : o < 8) (hq : q < 5) : rc (wR G B) wC0 (13 + 5 * o + q) = lkC G (B + (13 + 5 * o)) (nI o) q := by
  match q, hq with
  | 0, _ =>
    refine (rc_zl (r := wR G B) (j := 13 + 5 * o + 0) (wSh_lk h) (fun f hf => wc_z (G := G) (B := B) (by omega) (by rw [show 13 + 5 * o + 0 = 13 + 5 * o from rfl, wSh_lk h]; exact hf))).trans ?_
    have e : nI o - nI o / 3 * 3 = nI (o % 3) := by
      match o, h with
      | 0, _ => decide
      | 1, _ => decide
      | 2, _ => decide
      | 3, _ => decide
      | 4, _ => decide
      | 5, _ => decide
      | 6, _ => decide
      | 7, _ => decide
    show Sum.inr (4, [Value.int (nI o), .int (nI (o % 3)), .int 0, .int 0, .int 0, .int 0, .int 0, .int 0, .int 0, .int 0, .ref (aQ B o), .ref (aW B o)]) = Sum.inr (4, [Value.int (nI o), .int (nI o - nI o / 3 * 3), .int 0, .int 0, .int 0, .int 0, .int 0, .int 0, .int 0, .int 0, .ref (B + (13 + 5 * o) + 1), .ref (B + (13 + 5 * o) + 3)])
    rw [e, show aQ B o = B + (13 + 5 * o) + 1 by unfold aQ; omega, show aW B o = B + (13 + 5 * o) + 3 by unfold aW; omega]
  | 1, _ =>
    rw [show 13 + 5 * o + 1 = 14 + 5 * o by omega]
    refine (rc_zl (r := wR G B) (wSh_q h) (fun f hf => wc_z (G := G) (B := B) (by omega) (by rw [wSh_q h]; exact hf))).trans ?_
    show Sum.inr (3, [Value.ref (aQm B o), .int 0]) = Sum.inr (3, [Value.ref (B + (13 + 5 * o) + 2), .int 0])
    rw [show aQm B o = B + (13 + 5 * o) + 2 by unfold aQm; omega]
  | 2, _ =>
    rw [show 13 + 5 * o + 2 = 15 + 5 * o by omega]
    exact rc_za (r := wR G B) (wSh_qm h) (fun f hf => wc_z (G := G) (B := B) (by omega) (by rw [wSh_qm h]; exact hf))
  | 3, _ =>
    rw [show 13 + 5 * o + 3 = 16 + 5 * o by omega]
    refine (rc_zl (r := wR G B) (wSh_w h) (fun f hf => wc_z (G := G) (B := B) (by omega) (by rw [wSh_w h]; exact hf))).trans ?_
    show Sum.inr (3, [Value.ref (aWm B o), .int 0]) = Sum.inr (3, [Value.ref (B + (13 + 5 * o) + 4), .int 0])
    rw [show aWm B o = B + (13 + 5 * o) + 4 by unfold aWm; omega]
  | 4, _ =>
    rw [show 13 + 5 * o + 4 = 17 + 5 * o by omega]
    exact rc_za (r := wR G B) (wSh_wm h) (fun f hf => wc_z (G := G) (B := B) (by omega) (by rw [wSh_wm h]; exact hf))
theorem wc_0 {G : GG} {B : Nat} : rc (wR G B) wC0 0 = .inr (9, [.ref (B + 1), .ref (B + 3), .ref (B + 4), .ref (B + 5), .ref (B + 6), .int 0, .int 0, .int 0]) := rfl
section WI
variable {G : GG} {d mc ms : Nat} {res : Option Value} {M' M : Mem} {k n i : Nat}
theorem Wst_s (hi : i < 6) : Fm M (7 + i + 1) (va_up (va_up (Wst G M.2.2 i 0 0) (7 + i) (.inr (8, [.int 0, .int 0, .int 0, .int 0, .int 0, .int 0]))) 4 (pRow (cyS G) 6 (aSt M.2.2) (i + 1))) = Fm M (7 + (i + 1)) (Wst G M.2.2 (i + 1) 0 0) := by
  refine Fm.cg (k := 7 + (i + 1)) (fun j hj => ?_)
  by_cases c4 : j = 4
  · subst c4; rw [vu_eq]; rfl
  · rw [vu_ne c4]
    by_cases c : j = 7 + i
    · subst c; rw [vu_eq, Wst_o (by omega) (by omega) (by omega), wc_st hi]
    · rw [vu_ne c]
      unfold Wst
      rw [if_neg c4, if_neg c4]
theorem wi_s (hG : GOK G) (hi : i < 6) (hdp : 2 ≤ d) (hmc : k + 1 ≤ mc) (hms : n + 6 ≤ ms) (kk : WP G iX10_init d mc ms res M' 51 [some (.ref M.2.2), some (.int (nI (i + 1)))] [] (Fm M (7 + (i + 1)) (Wst G M.2.2 (i + 1) 0 0)) (k + 1) (n + 6)) : WP G iX10_init d mc ms res M' 51 [some (.ref M.2.2), some (.int (nI i))] [] (Fm M (7 + i) (Wst G M.2.2 i 0 0)) k n := by
  refine wp_ild1 dX10_init_51 ?_
  refine wp_bipush (v := 6) dX10_init_52 (by decide) ?_
  refine wp_icmp_ge (tgt := 76) dX10_init_54 (by decide) (fun c => absurd c (show ¬ nI 6 ≤ nI i from nI_ge (by omega) (by omega))) (fun _ => ?_)
  refine wp_ald0 dX10_init_57 ?_
  refine fm_get (j := 0) dX10_init_58 fX10_26 rfl (by omega) ((Wst_o (by decide) (by decide) (by decide)).trans wc_0) rfl ?_
  refine wp_ild1 dX10_init_61 ?_
  refine wp_new dX10_init_62 nX10_24 hmc hms ?_
  refine wp_dup dX10_init_65 rfl ?_
  refine wp_callI (As := []) (d' := d - 1) dX10_init_66 kX10_42 (ci_Strand (by omega)) rfl (by omega) (by omega) (by omega) rfl (Nat.le_of_ble_eq_true rfl) ?_
  rw [Fm.push]
  refine fm_aast (j := 4) (jb := 7 + i) (ci := 8) (i' := i) (z := 6) (r := (RX8, TX8, 6)) dX10_init_69 hG.2.2.1 rfl (by omega) (vu_ne (by omega)) rfl (by omega) vu_eq rfl rfl hi (by decide) ?_
  rw [pRow_s (b := (Fm M (7 + i) (Wst G M.2.2 i 0 0)).2.2) (g := aSt M.2.2) rfl, Wst_s hi]
  refine wp_inc1 dX10_init_70 (by decide) rfl ?_
  exact wp_goto (tgt := 51) dX10_init_73 (by decide) kk
end WI
section WJ
variable {G : GG} {d mc ms : Nat} {res : Option Value} {M' M : Mem} {k n i : Nat}
theorem WP.ct {mi : MI} {pc : Nat} {lc : List (Option Value)} {st : List Value} {k' n' : Nat} (hk : k = k') (hn : n = n') (kk : WP G mi d mc ms res M' pc lc st M k n) : WP G mi d mc ms res M' pc lc st M k' n' := hk ▸ hn ▸ kk
theorem wi_sl (hG : GOK G) (hdp : 2 ≤ d) : ∀ (q i k n : Nat), i + q = 6 → k + q ≤ mc → n + 6 * q ≤ ms → WP G iX10_init d mc ms res M' 51 [some (.ref M.2.2), some (.int (nI 6))] [] (Fm M 13 (Wst G M.2.2 6 0 0)) (k + q) (n + 6 * q) → WP G iX10_init d mc ms res M' 51 [some (.ref M.2.2), some (.int (nI i))] [] (Fm M (7 + i) (Wst G M.2.2 i 0 0)) k n
  | 0, i, k, n, h, _, _, kk => by
    have e : i = 6 := h
    subst e
    exact kk
  | q + 1, i, k, n, h, h1, h2, kk => wi_s hG (by omega) hdp (by omega) (by omega) (wi_sl hG hdp q (i + 1) (k + 1) (n + 6) (by omega) (by omega) (by omega) (WP.ct (by omega) (by omega) kk))
theorem Wst_l (hi : i < 8) : Fm M (13 + 5 * i + 5) (va_up (jn (13 + 5 * i) (Wst G M.2.2 6 i 0) (lkC G (M.2.2 + (13 + 5 * i)) (nI i))) 5 (pRow (cyL G) 8 (aLk M.2.2) (i + 1))) = Fm M (13 + 5 * (i + 1)) (Wst G M.2.2 6 (i + 1) 0) := by
  rw [show 13 + 5 * (i + 1) = 13 + 5 * i + 5 by omega]
  refine Fm.cg (fun j hj => ?_)
  by_cases c5 : j = 5
  · subst c5; rw [vu_eq]; rfl
  · rw [vu_ne c5]
    by_cases c : j < 13 + 5 * i
    · rw [jn_l c]
      unfold Wst
      rw [if_neg c5, if_neg c5]
    · obtain ⟨q, rfl⟩ := Nat.exists_eq_add_of_le (Nat.not_lt.mp c)
      rw [jn_r, Wst_o (by omega) (by omega) (by omega), wc_lk hi (by omega)]
theorem wi_l (hG : GOK G) (hi : i < 8) (hdp : 3 ≤ d) (hmc : k + 5 ≤ mc) (hms : n + 28 ≤ ms) (kk : WP G iX10_init d mc ms res M' 78 [some (.ref M.2.2), some (.int (nI (i + 1)))] [] (Fm M (13 + 5 * (i + 1)) (Wst G M.2.2 6 (i + 1) 0)) (k + 5) (n + 28)) : WP G iX10_init d mc ms res M' 78 [some (.ref M.2.2), some (.int (nI i))] [] (Fm M (13 + 5 * i) (Wst G M.2.2 6 i 0)) k n := by
  refine wp_ild1 dX10_init_78 ?_
  refine wp_bipush (v := 8) dX10_init_79 (by decide) ?_
  refine wp_icmp_ge (tgt := 104) dX10_init_81 (by decide) (fun c => absurd c (show ¬ nI 8 ≤ nI i from nI_ge (by omega) (by omega))) (fun _ => ?_)
  refine wp_ald0 dX10_init_84 ?_
  refine fm_get (j := 0) dX10_init_85 fX10_32 rfl (by omega) ((Wst_o (by decide) (by decide) (by decide)).trans wc_0) rfl ?_
  refine wp_ild1 dX10_init_88 ?_
  refine wp_new dX10_init_89 nX10_30 (by omega) (by omega) ?_
  refine wp_dup dX10_init_92 rfl ?_
  refine wp_ild1 dX10_init_93 ?_
  refine fm_callI (As := [.int (nI i)]) dX10_init_94 kX10_43 (ci_Lock (d := d - 1) hG (by omega)) rfl (by omega) (by omega) (by omega) rfl (Nat.le_of_ble_eq_true rfl) ?_
  refine fm_aast (j := 5) (jb := 13 + 5 * i) (ci := 4) (i' := i) (z := 8) (r := (RX3, TX3, 12)) dX10_init_97 hG.2.2.2.1 rfl (by omega) (jn_l (by omega)) rfl (by omega) (jn_r (j := 0)) rfl rfl hi (by decide) ?_
  rw [pRow_s (b := (Fm M (13 + 5 * i) (Wst G M.2.2 6 i 0)).2.2) (g := aLk M.2.2) rfl]
  refine WP.to (Wst_l hi) ?_
  refine wp_inc1 dX10_init_98 (by decide) rfl ?_
  exact wp_goto (tgt := 78) dX10_init_101 (by decide) kk
theorem wi_ll (hG : GOK G) (hdp : 3 ≤ d) : ∀ (q i k n : Nat), i + q = 8 → k + 5 * q ≤ mc → n + 28 * q ≤ ms → WP G iX10_init d mc ms res M' 78 [some (.ref M.2.2), some (.int (nI 8))] [] (Fm M 53 (Wst G M.2.2 6 8 0)) (k + 5 * q) (n + 28 * q) → WP G iX10_init d mc ms res M' 78 [some (.ref M.2.2), some (.int (nI i))] [] (Fm M (13 + 5 * i) (Wst G M.2.2 6 i 0)) k n
  | 0, i, k, n, h, _, _, kk => by
    have e : i = 8 := h
    subst e
    exact kk
  | q + 1, i, k, n, h, h1, h2, kk => wi_l hG (by omega) hdp (by omega) (by omega) (wi_ll hG hdp q (i + 1) (k + 5) (n + 28) (by omega) (by omega) (by omega) (WP.ct (by omega) (by omega) kk))
theorem Wst_k (hi : i < 3) : Fm M (53 + i + 1) (va_up (va_up (Wst G M.2.2 6 8 i) (53 + i) (.inr (2, [.int 0, .int 0, .int 0]))) 6 (pRow (cyK G) 3 (aKd M.2.2) (i + 1))) = Fm M (53 + (i + 1)) (Wst G M.2.2 6 8 (i + 1)) := by
  refine Fm.cg (k := 53 + (i + 1)) (fun j hj => ?_)
  by_cases c6 : j = 6
  · subst c6; rw [vu_eq]; rfl
  · rw [vu_ne c6]
    by_cases c : j = 53 + i
    · subst c; rw [vu_eq, Wst_o (by omega) (by omega) (by omega), wc_kd hi]
    · rw [vu_ne c]
      unfold Wst
      rw [if_neg c6, if_neg c6]
theorem wi_k (hG : GOK G) (hi : i < 3) (hdp : 2 ≤ d) (hmc : k + 1 ≤ mc) (hms : n + 3 ≤ ms) (kk : WP G iX10_init d mc ms res M' 106 [some (.ref M.2.2), some (.int (nI (i + 1)))] [] (Fm M (53 + (i + 1)) (Wst G M.2.2 6 8 (i + 1))) (k + 1) (n + 3)) : WP G iX10_init d mc ms res M' 106 [some (.ref M.2.2), some (.int (nI i))] [] (Fm M (53 + i) (Wst G M.2.2 6 8 i)) k n := by
  refine wp_ild1 dX10_init_106 ?_
  refine wp_iconst (v := 3) dX10_init_107 (by decide) ?_
  refine wp_icmp_ge (tgt := 130) dX10_init_108 (by decide) (fun c => absurd c (show ¬ nI 3 ≤ nI i from nI_ge (by omega) (by omega))) (fun _ => ?_)
  refine wp_ald0 dX10_init_111 ?_
  refine fm_get (j := 0) dX10_init_112 fX10_38 rfl (by omega) ((Wst_o (by decide) (by decide) (by decide)).trans wc_0) rfl ?_
  refine wp_ild1 dX10_init_115 ?_
  refine wp_new dX10_init_116 nX10_36 hmc hms ?_
  refine wp_dup dX10_init_119 rfl ?_
  refine wp_callI (As := []) (d' := d - 1) dX10_init_120 kX10_46 (ci_Kind (by omega)) rfl (by omega) (by omega) (by omega) rfl (Nat.le_of_ble_eq_true rfl) ?_
  rw [Fm.push]
  refine fm_aast (j := 6) (jb := 53 + i) (ci := 2) (i' := i) (z := 3) (r := (RX1, TX1, 3)) dX10_init_123 hG.2.2.2.2.1 rfl (by omega) (vu_ne (by omega)) rfl (by omega) vu_eq rfl rfl hi (by decide) ?_
  rw [pRow_s (b := (Fm M (53 + i) (Wst G M.2.2 6 8 i)).2.2) (g := aKd M.2.2) rfl, Wst_k hi]
  refine wp_inc1 dX10_init_124 (by decide) rfl ?_
  exact wp_goto (tgt := 106) dX10_init_127 (by decide) kk
theorem wi_kl (hG : GOK G) (hdp : 2 ≤ d) : ∀ (q i k n : Nat), i + q = 3 → k + q ≤ mc → n + 3 * q ≤ ms → WP G iX10_init d mc ms res M' 106 [some (.ref M.2.2), some (.int (nI 3))] [] (Fm M 56 (Wst G M.2.2 6 8 3)) (k + q) (n + 3 * q) → WP G iX10_init d mc ms res M' 106 [some (.ref M.2.2), some (.int (nI i))] [] (Fm M (53 + i) (Wst G M.2.2 6 8 i)) k n
  | 0, i, k, n, h, _, _, kk => by
    have e : i = 3 := h
    subst e
    exact kk
  | q + 1, i, k, n, h, h1, h2, kk => wi_k hG (by omega) hdp (by omega) (by omega) (wi_kl hG hdp q (i + 1) (k + 1) (n + 3) (by omega) (by omega) (by omega) (WP.ct (by omega) (by omega) kk))
theorem Fm_W {C : Nat → Int32} : Fm M 56 (rc (wR G M.2.2) C) = Wm G M.2.2 C M.2.1 (M.1 ++ List.range' M.2.2 56) (M.2.2 + 56) := rfl
theorem Wst_z {j : Nat} : eqE (Wst G M.2.2 6 8 3 j) (rc (wR G M.2.2) wC0 j) := by
  by_cases h4 : j = 4
  · subst h4; exact pRow_z
  · by_cases h5 : j = 5
    · subst h5; exact pRow_z
    · by_cases h6 : j = 6
      · subst h6; exact pRow_z
      · rw [Wst_o h4 h5 h6]; exact Or.inl rfl
theorem wc_2 {B : Nat} : rc (wR G B) wC0 2 = .inl (cyI G, 8, .inl (va_cpy sFirst (fun _ => 0) 0 0 8)) := by
  show Sum.inl (cyI G, 8, Sum.inl (fun i => if i < 8 then wC0 (1 + i) else 0)) = Sum.inl (cyI G, 8, Sum.inl (va_cpy sFirst (fun _ => 0) 0 0 8))
  have e : (fun i => if i < 8 then wC0 (1 + i) else 0) = va_cpy sFirst (fun _ => (0 : Int32)) 0 0 8 := by
    funext i
    unfold va_cpy
    by_cases h : i < 8
    · rw [if_pos h, if_pos (by omega)]
      unfold wC0
      rw [if_pos (by omega)]
      congr 1
      omega
    · rw [if_neg h, if_neg (by omega)]
  rw [e]
theorem wc_3 {B : Nat} : rc (wR G B) wC0 3 = zI G 9 := rc_za (r := wR G B) (j := 3) rfl (fun f hf => wC0_z (Or.inr (by show 8 < 231 + f; omega)))
set_option maxHeartbeats 1000000 in
theorem ci_World {aL aG aF aP : Nat} (hG : GOK G) (hZ : GSt G aL aG aF aP) (hdp : 3 ≤ d) : Ct G d yX10_init iX10_init [.ref M.2.2] (pushM M (.inr (9, [.null, .null, .null, .null, .null, .int 0, .int 0, .int 0]))) 55 304 none (Fm M 56 (rc (wR G M.2.2) (begF wC0 3))) := by
  refine Ct.of 1 (by decide) rfl (by decide) (Nat.le_of_ble_eq_true rfl) ?_
  show WP _ _ _ _ _ _ _ 0 [some (.ref M.2.2), none] [] _ 0 0
  rw [Fm.one]
  refine wp_ald0 dX10_init_0 ?_
  refine wp_objInit dX10_init_1 kX10_3 mw_oi1 mw_oi2 (by omega) (Nat.le_of_ble_eq_true rfl) ?_
  refine wp_ald0 dX10_init_4 ?_
  refine wp_new dX10_init_5 nX10_9 (by decide) (by decide) ?_
  refine wp_dup dX10_init_8 rfl ?_
  refine fm_callI (As := []) dX10_init_9 kX10_11 (ci_Settings (d := d - 1) hG hZ (by omega)) rfl (by omega) (by decide) (by decide) rfl (Nat.le_of_ble_eq_true rfl) ?_
  refine fm_putF (j := 0) rfl dX10_init_12 pX10_12 rfl (by decide) rfl (Nat.le_of_ble_eq_true rfl) rfl rfl ?_
  refine wp_ald0 dX10_init_15 ?_
  refine wp_bipush (v := 9) dX10_init_16 (by decide) ?_
  refine fm_newI (N := 9) hG dX10_init_18 rfl (by decide) (by decide) (by decide) ?_
  refine fm_putF (j := 0) rfl dX10_init_20 pX10_20 rfl (by decide) rfl (Nat.le_of_ble_eq_true rfl) rfl rfl ?_
  refine wp_ald0 dX10_init_23 ?_
  refine wp_bipush (v := 6) dX10_init_24 (by decide) ?_
  refine fm_anew (N := 6) hG.2.2.1 dX10_init_26 aX10_24 (by decide) rfl (by decide) (by decide) (by decide) ?_
  refine fm_putF (j := 0) rfl dX10_init_29 pX10_26 rfl (by decide) rfl (Nat.le_of_ble_eq_true rfl) rfl rfl ?_
  refine wp_ald0 dX10_init_32 ?_
  refine wp_bipush (v := 8) dX10_init_33 (by decide) ?_
  refine fm_anew (N := 8) hG.2.2.2.1 dX10_init_35 aX10_30 (by decide) rfl (by decide) (by decide) (by decide) ?_
  refine fm_putF (j := 0) rfl dX10_init_38 pX10_32 rfl (by decide) rfl (Nat.le_of_ble_eq_true rfl) rfl rfl ?_
  refine wp_ald0 dX10_init_41 ?_
  refine wp_iconst (v := 3) dX10_init_42 (by decide) ?_
  refine fm_anew (N := 3) hG.2.2.2.2.1 dX10_init_43 aX10_36 (by decide) rfl (by decide) (by decide) (by decide) ?_
  refine fm_putF (j := 0) rfl dX10_init_46 pX10_38 rfl (by decide) rfl (Nat.le_of_ble_eq_true rfl) rfl rfl ?_
  refine wp_iconst (v := 0) dX10_init_49 (by decide) ?_
  refine wp_ist1 dX10_init_50 (by decide) rfl ?_
  refine WP.to (M2 := Fm M (7 + 0) (Wst G M.2.2 0 0 0)) (Fm.cg (k := 7) fun j hj => ?_) ?_
  · match j, hj with
    | 0, _ => rfl
    | 1, _ => rfl
    | 2, _ => exact wc_2.symm
    | 3, _ => exact wc_3.symm
    | 4, _ => exact pRow_0
    | 5, _ => exact pRow_0
    | 6, _ => exact pRow_0
  refine wi_sl hG (by omega) 6 0 _ _ rfl (by decide) (by decide) ?_
  refine wp_ild1 dX10_init_51 ?_
  refine wp_bipush (v := 6) dX10_init_52 (by decide) ?_
  refine wp_icmp_ge (tgt := 76) dX10_init_54 (by decide) (fun _ => ?_) (fun c => absurd (Int32.le_refl _) c)
  refine wp_iconst (v := 0) dX10_init_76 (by decide) ?_
  refine wp_ist1 dX10_init_77 (by decide) rfl ?_
  refine wi_ll hG hdp 8 0 _ _ rfl (by decide) (by decide) ?_
  refine wp_ild1 dX10_init_78 ?_
  refine wp_bipush (v := 8) dX10_init_79 (by decide) ?_
  refine wp_icmp_ge (tgt := 104) dX10_init_81 (by decide) (fun _ => ?_) (fun c => absurd (Int32.le_refl _) c)
  refine wp_iconst (v := 0) dX10_init_104 (by decide) ?_
  refine wp_ist1 dX10_init_105 (by decide) rfl ?_
  refine wi_kl hG (by omega) 3 0 _ _ rfl (by decide) (by decide) ?_
  refine wp_ild1 dX10_init_106 ?_
  refine wp_iconst (v := 3) dX10_init_107 (by decide) ?_
  refine wp_icmp_ge (tgt := 130) dX10_init_108 (by decide) (fun _ => ?_) (fun c => absurd (Int32.le_refl _) c)
  refine WP.fwk (g := rc (wR G M.2.2) wC0) (fun j _ => Wst_z) ?_
  rw [Fm_W]
  have hL : rIn (wR G M.2.2) (M.1 ++ List.range' M.2.2 56) := fun j hj => List.mem_append_right _ (List.mem_range'_1.mpr ⟨Nat.le_add_right _ _, Nat.add_lt_add_left hj _⟩)
  refine wp_ald0 dX10_init_130 ?_
  refine wp_iconst (v := 3) dX10_init_131 (by decide) ?_
  refine vv_World1 dX10_init_132 kX10_47 (ct_begin (d := d - 1) hG hL (by omega)) hL rfl (by omega) (Nat.le_of_ble_eq_true rfl) (by decide) (by decide) ?_
  exact wp_vret dX10_init_135 rfl (by decide) (by decide) rfl Fm_W.symm
end WJ
