/-! describe: both -/
theorem cX_desE {G : GG} {X d : Nat} {M : Mem} {y k : Int32} (hq : ¬ (isO y ∧ 0 ≤ k)) (hdp : 1 ≤ d) : Ct G d yX11_describe iX11_describe [.ref X, .int y, .int k] M 0 0 (some (.int (if isO y then -3 else -2))) M := by
  refine Ct.of 1 (by decide) rfl (by decide) (Nat.le_of_ble_eq_true rfl) ?_
  show WP _ _ _ _ _ _ _ 0 [some (.ref X), some (.int y), some (.int k), none] [] _ 0 0
  refine wp_ild1 dX11_describe_0 ?_
  refine ci_1 dX11_describe_1 kX11_134 (ct_isObject (d := d - 1)) (by omega) (Nat.le_of_ble_eq_true rfl) (by omega) (by omega) ?_
  refine wp_ifB_ne (tgt := 10) dX11_describe_4 (by decide) (fun c_4 => ?_) (fun c_4 => ?_)
  · refine wp_ild2 dX11_describe_10 ?_
    refine wp_if_ge (tgt := 17) dX11_describe_11 (by decide) (fun c_11 => absurd ⟨c_4, c_11⟩ hq) (fun c_11 => ?_)
    rw [if_pos c_4]
    refine wp_bipush (v := (-3)) dX11_describe_14 (by decide) ?_
    exact wp_iret dX11_describe_16 rfl (by omega) (by omega) rfl rfl
  · rw [if_neg c_4]
    refine wp_bipush (v := (-2)) dX11_describe_7 (by decide) ?_
    exact wp_iret dX11_describe_9 rfl (by omega) (by omega) rfl rfl
theorem getD_mapI (l : List Nat) (i : Nat) : (l.map nI).getD i 0 = nI (l.getD i 0) := by
  rw [List.getD_eq_getElem?_getD, List.getD_eq_getElem?_getD, List.getElem?_map]
  cases l[i]? with
  | none => rfl
  | some x => rfl
theorem des_lo {F : Nat → Int32} {y k : Int32} (hD : ∀ o, o < 8 → DOK F o) {q : Nat} (hq : q < 6000 ∨ (6200 ≤ q ∧ q ≠ 9002)) : (desM F y k).2 q = F q := by
  unfold desM
  split
  · rename_i z
    obtain ⟨o, ho, rfl⟩ := isOb_nat z
    have e : nt (nI o) = o := ntn (by omega)
    rw [e]
    have key : putL (upd F 9002 0) (mkT F o) q = F q := by
      rw [putL_lo hq (mkT F o) (upd F 9002 0) 0 upd_eq (by have := mkT_len (hD o ho); omega), upd_ne (by omega)]
    split
    · split
      · exact key
      · exact key
    · rfl
  · rfl
theorem st_describe {G : GG} {X d b m n r : Nat} {S : Nat → Nat → Int32} {t : List Nat} {M : Mem} {y k : Int32} {fm : Value} {la : Nat → Nat} (hG : GOK G) (hN : GNS G fm) (hg : GDg G) (hK : GLk G la) (hJ : GSJ G) (hx : XS G X S b m t M) (h : SR S n r) (hn : n + 100 ≤ 100000) (hr : r + 20000 ≤ 100000000) (hdp : 9 ≤ d) : Sty G X d S b m M n r yX11_describe iX11_describe yX12_describe iX12_describe [.int y, .int k] := by
  have hD : ∀ o, o < 8 → DOK (S 12) o := fun o ho => DOK.of h.1.2.1 ho
  have nx : SR (updS S 12 (desM (S 12) y k).2) (n + 100) (r + 20000) := h.nx ((h.1.mo (by omega) (by omega) hn hr).sm rfl rfl (fun q hq => des_lo hD (by omega))) (h.2.1.cg rfl (fun q hq => des_lo hD (by omega))) h.2.2.1 (fun _ _ => rfl) (fun q hq => des_lo hD (by omega))
  by_cases q : isO y ∧ 0 ≤ k
  · obtain ⟨q1, q2⟩ := q
    obtain ⟨o, ho, rfl⟩ := isOb_nat (isO_iff.mp q1)
    obtain ⟨M1, b1, m1, c1, x1, le⟩ := cX_describe hG hN hg hK ho q2 (DCK.of h.1.1 h.1.2.1 ho) hx hdp
    have e := Xm_self (S := S) x1.1
    have tx := tx_all h.1.1 h.1.2.1 ho
    have ev : (desM (S 12) (nI o) k).1 = if nI (pdT (S 1) o (bOK (S 1) o)).length ≤ k then -8 else nI ((pdT (S 1) o (bOK (S 1) o)).getD (nt k) 0) := by
      unfold desM
      rw [if_pos (isO_iff.mp q1), if_pos q2, ntn (show o < 2 ^ 31 by omega), ← tx, List.length_map]
      split
      · rfl
      · exact getD_mapI _ _
    rw [← ev] at c1
    refine ⟨M1, Xm G X (updS S 12 (desM (S 12) (nI o) k).2) M1.2.1 M1.1 M1.2.2, updS S 12 (desM (S 12) (nI o) k).2, b1, m1, _, _, c1, ?_, x1.st, nx, le, S, b1, _, x1⟩
    exact Ct.to e.symm (cm12 (S1 := S) rfl (fun E0 => cm_describe hG (x1.2.1.r (G := G) (i := 12) (by decide)) hJ hD (by omega)))
  · have c1 := cX_desE (G := G) (X := X) (M := M) q (show 1 ≤ d by omega)
    have e := Xm_self (S := S) hx.1
    have ev : (desM (S 12) y k).1 = if isO y then -3 else -2 := by
      unfold desM
      by_cases z : isO y
      · rw [if_pos (isO_iff.mp z), if_pos z, if_neg (fun w => q ⟨z, w⟩)]
      · rw [if_neg (fun w => z (isO_iff.mpr w)), if_neg z]
    rw [← ev] at c1
    refine ⟨M, Xm G X (updS S 12 (desM (S 12) y k).2) M.2.1 M.1 M.2.2, updS S 12 (desM (S 12) y k).2, b, m, t, _, by rw [Nat.sub_self]; exact c1, ?_, hx.st, nx, Nat.le_refl _, S, b, t, hx⟩
    exact Ct.to e.symm (cm12 (S1 := S) rfl (fun E0 => cm_describe hG (hx.2.1.r (G := G) (i := 12) (by decide)) hJ hD (by omega)))
