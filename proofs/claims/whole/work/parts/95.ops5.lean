/-! entering, and all operations -/
section OPW
variable {C F : Nat → Int32} {n r : Nat}
theorem op_enter {x y : Int32} (h : Rel C F) (hi : INV F n r) (hj : OKr F) (hn : n < 100000) (hr : r + 200 ≤ 100000000) : OPok n r (enterF C x y) (enterM F x y) := by
  have hE := rErr_eq (x := x) (y := y) h hi
  by_cases q : isT F x
  · by_cases q2 : isOb y
    · by_cases q3 : F (10 + nt x) = 0
      · have he : rErrF C x y = 0 := by rw [hE, if_pos q, if_pos q2, if_pos q3]
        obtain ⟨t, ht6, htT, rfl⟩ := isT_nat h.1 q
        obtain ⟨o, ho, rfl⟩ := isOb_nat q2
        have e1 : nt (nI t) = t := ntn (by omega)
        have e2 : nt (nI o) = o := ntn (by omega)
        have eC : enterF C (nI t) (nI o) = enC C t o := by
          unfold enterF enC
          rw [if_pos he, e2]
        have eF : enterM F (nI t) (nI o) = en62 (cpA 482 0 F) t o := by
          unfold enterM
          rw [if_pos q, if_pos q2, if_pos q3, e1, e2]
        rw [e1] at q3
        rw [eC, eF]
        have hA : ∀ k, k < 242 → cpA 482 0 F k = F k := fun k hk => cpA_lo 482 0 F k (by omega)
        have key : ∀ k, k < 241 → cpB 482 0 (etrM (cpA 482 0 F) t o).2 k = F k := fun k hk => enB_back h.1 ht6 ho (by omega)
        generalize cpA 482 0 F = A at hA key
        have h' : Rel C A := h.lo (fun k hk => hA k (by omega))
        have hi' : INV A n r := hi.lo (fun k hk => hA k (by omega))
        have hrA : OKr A := by
          obtain ⟨m, g1, g2⟩ := hj
          exact ⟨m, g1, by rw [hA 241 (by omega)]; exact g2⟩
        have hk : OKr (etrM A t o).2 := (Hi.rf.etr h'.1 ht6 ho).r hrA
        have en := en_all h' hi' hn (by omega) ho (by rw [hA 0 (by omega)]; exact htT) (by rw [hA (10 + t) (by omega)]; exact q3)
        unfold en62
        rcases en with ⟨g1, g2⟩ | ⟨g1, g2, g3, g4⟩
        · rw [if_pos g1, g2]
          exact OPok.mk rfl h hi (by omega) (by omega) hn hr key
        · rw [if_neg g1]
          refine OPok.mk ?_ g3 g4 (by omega) (by omega) hn hr (rcd_lo hk)
          rw [g2, rcd_lo hk 239 (by omega)]
      · have he : rErrF C x y = -4 := by rw [hE, if_pos q, if_pos q2, if_neg q3]
        unfold enterF enterM
        rw [he, if_neg (by decide), if_pos q, if_pos q2, if_neg q3]
        exact OPok.mk rfl h hi (by omega) (by omega) hn hr (fun _ _ => rfl)
    · have he : rErrF C x y = -2 := by rw [hE, if_pos q, if_neg q2]
      unfold enterF enterM
      rw [he, if_neg (by decide), if_pos q, if_neg q2]
      exact OPok.mk rfl h hi (by omega) (by omega) hn hr (fun _ _ => rfl)
  · have he : rErrF C x y = -1 := by rw [hE, if_neg q]
    unfold enterF enterM
    rw [he, if_neg (by decide), if_neg q]
    exact OPok.mk rfl h hi (by omega) (by omega) hn hr (fun _ _ => rfl)
/-- an operation's number -/
def isOp (op : Int32) : Prop := op = 0 ∨ op = 1 ∨ op = 2 ∨ op = 3 ∨ op = 4 ∨ op = 5 ∨ op = 6 ∨ op = 7 ∨ op = 8 ∨ op = 9
theorem op_all {op a b c : Int32} (h : Rel C F) (hi : INV F n r) (hj : OKr F) (hn : n < 100000) (hr : r + 200 ≤ 100000000) (ho : isOp op) : OPok n r (perfF C op a b c) (opM F op a b c) := by
  rcases ho with rfl | rfl | rfl | rfl | rfl | rfl | rfl | rfl | rfl | rfl
  · exact op_enter h hi hj hn hr
  · exact op_exit h hi hj hn hr
  · exact op_await h hi hj hn hr
  · exact op_signal h hi hj hn hr
  · exact op_signalAll h hi hj hn hr
  · exact op_interrupt h hi hj hn hr
  · exact op_die h hi hj hn hr
  · exact op_start h hi hj hn hr
  · exact op_hash h hi hj hn hr
  · exact op_tick h hi hj hn hr
end OPW
