/-! the description: class against reference -/
theorem nd_dg (V : Nat) : ∀ j, (ndg V j).map nI = dgs V j
  | 0 => rfl
  | j + 1 => by
    show nI (48 + V / 10 ^ j % 10) :: (ndg V j).map nI = nI (48 + V / 10 ^ j % 10) :: dgs V j
    rw [nd_dg V j]
theorem nu_eq (V : Nat) : (numN V).map nI = numL V := nd_dg V _
theorem me_eq {C F : Nat → Int32} {p : Nat} : ∀ (n i : Nat), (∀ k, k < i + n → C (p + k) = F (p + k)) → (memN C p n i).map nI = memL F p n i
  | 0, _, _ => rfl
  | n + 1, i, h => by
    show (numN (nt (C (p + i))) ++ memN C p n (i + 1)).map nI = numL (nt (F (p + i))) ++ memL F p n (i + 1)
    rw [List.map_append, nu_eq, me_eq n (i + 1) (fun k hk => h k (by omega)), h i (by omega)]
theorem wo_to : (lkS 76).map nI = ([32] ++ wrd 703300894720) ++ [32] := by decide +kernel
theorem wo_old : (lkS 83).map nI = [32] ++ wrd 528415195136 := by decide +kernel
theorem wo_by : (lkS 85).map nI = ([32] ++ wrd 95563022336) ++ [32] := by decide +kernel
theorem wo_x : (lkS 87).map nI = [32] ++ [120] := by decide +kernel
theorem wo_qu : (lkS 92).map nI = ([32] ++ wrd 606854086656) ++ [32] := by decide +kernel
theorem wo_wa : (lkS 98).map nI = ([32] ++ wrd 791670685696) ++ [32] := by decide +kernel
theorem wo_ha : (lkS 100).map nI = [32] ++ [35] := by decide +kernel
theorem wo_ab : (lkS 102).map nI = ([32] ++ wrd 36555603397) ++ [100] := by decide +kernel
theorem wo_no : (lkS 81).map nI = [] := by decide +kernel
theorem wo_0 : (lkS 104).map nI = wrd 487131252096 := by decide +kernel
theorem wo_1 : (lkS 106).map nI = wrd 78436665733 := by decide +kernel
theorem wo_2 : (lkS 108).map nI = wrd 78436798464 := by decide +kernel
theorem wo_3 : (lkS 110).map nI = wrd 696101371904 := by decide +kernel
theorem wo_4 : (lkS 112).map nI = wrd 324483993764 := by decide +kernel
section DE
variable {C F : Nat → Int32} {n r o : Nat}
theorem tx_0 (h : Rel C F) (hi : INV F n r) (ho : o < 8) : (lkS (swI (C (46 + o)))).map nI = wrd (lwd (F (46 + o))) := by
  rw [h.e (q := 46 + o) (by omega)]
  unfold swI lwd
  rcases lkv5 (hi.2.2.2.2 o ho).1 with l | l | l | l | l <;> rw [l]
  · rw [if_pos rfl, if_pos rfl]; exact wo_0
  · rw [if_neg (by decide), if_pos rfl, if_neg (by decide), if_pos rfl]; exact wo_1
  · rw [if_neg (by decide), if_neg (by decide), if_pos rfl, if_neg (by decide), if_neg (by decide), if_pos rfl]; exact wo_2
  · rw [if_neg (by decide), if_neg (by decide), if_neg (by decide), if_pos rfl, if_neg (by decide), if_neg (by decide), if_neg (by decide), if_pos rfl]; exact wo_3
  · rw [if_neg (by decide), if_neg (by decide), if_neg (by decide), if_neg (by decide), if_neg (by decide), if_neg (by decide), if_neg (by decide), if_neg (by decide)]; exact wo_4
theorem tx_1 (h : Rel C F) (ho : o < 8) : (pd1 C o (bOK C o)).map nI = mk1 F o := by
  have ho3 : o % 3 < 3 := Nat.mod_lt _ (by decide)
  have hb : bOK C o ↔ bOK F o := by unfold bOK; rw [h.e (q := 78 + o) (by omega), h.e (q := 222 + o % 3) (by omega)]
  unfold pd1 mk1
  rw [h.e (q := 46 + o) (by omega)]
  by_cases z : F (46 + o) = 2
  · rw [if_pos z, if_pos z, h.2.2.2.2.1 o ho z]
    by_cases b : bOK F o
    · rw [if_pos b, if_pos (hb.mpr b), List.map_append, List.map_append, wo_to, nu_eq, wo_no, List.append_nil]
    · rw [if_neg b, if_neg (fun w => b (hb.mp w)), List.map_append, List.map_append, wo_to, nu_eq, wo_old]
      simp only [List.append_assoc]
  · rw [if_neg z, if_neg z]; rfl
theorem tx_2 (h : Rel C F) (ho : o < 8) : (pd2 C o).map nI = mk2 F o := by
  unfold pd2 mk2
  rw [h.e (q := 62 + o) (by omega), h.e (q := 54 + o) (by omega)]
  by_cases z : ¬ F (62 + o) ≤ 0
  · rw [if_pos z, if_pos z, List.map_append, List.map_append, List.map_append, wo_by, nu_eq, wo_x, nu_eq]
    simp only [List.append_assoc]
  · rw [if_neg z, if_neg z]; rfl
theorem tx_l {q p : Nat} {x : Int64} {w : Nat} (hl : lst C q p = lst F q p) (hs : OKs F q) (hc : C q = F q) (hw : (lkS w).map nI = ([32] ++ wrd x) ++ [32]) : (if C q = 0 then [] else lkS w ++ memN C p (nt (C q)) 0).map nI = lsT F x p q := by
  obtain ⟨s, s1, s2⟩ := hs
  have hz : F q ≤ 0 ↔ F q = 0 := by rw [s2, ← nI_0, nI_leI (by omega) (by decide), nI_eq (by omega) (by decide)]; omega
  unfold lsT
  rw [hc]
  by_cases z : F q = 0
  · rw [if_pos z, if_pos (hz.mpr z)]; rfl
  · rw [if_neg z, if_neg (fun y => z (hz.mp y)), List.map_append, hw, me_eq _ 0 (fun k hk => lst_pt hl (by omega))]
theorem tx_3 (h : Rel C F) (hi : INV F n r) (ho : o < 8) : (pd3 C o).map nI ++ (pd4 C o).map nI = mk3 F o := by
  have e3 : (pd3 C o).map nI = lsT F 606854086656 (126 + 6 * o) (110 + o) := tx_l (h.l ho).1 (h.1.q ho) (h.e (by omega)) wo_qu
  have e4 : (pd4 C o).map nI = lsT F 791670685696 (174 + 6 * o) (118 + o) := tx_l (h.l ho).2 (h.1.w ho) (h.e (by omega)) wo_wa
  rw [e3, e4]
  unfold mk3
  by_cases z : F (46 + o) = 4
  · rw [if_pos z]
  · obtain ⟨a, b⟩ := (hi.2.2.2.2 o ho).2.2.2.2.2.1 z
    rw [if_neg z]
    unfold lsT
    rw [a, b, if_pos (by decide), if_pos (by decide)]; rfl
theorem tx_4 (h : Rel C F) (ho : o < 8) : (pd5 C o).map nI = mk4 F o := by
  unfold pd5 mk4
  rcases h.2.2.2.2.2.1 o ho with ⟨a, b⟩ | ⟨a, b⟩
  · rw [a, b, if_pos rfl, if_pos rfl]; rfl
  · rw [a, if_neg (fun z => absurd b (by rw [z]; decide)), if_neg (fun z => absurd b (by rw [z]; decide)), List.map_append, wo_ha, nu_eq]
theorem tx_5 (h : Rel C F) (hi : INV F n r) (ho : o < 8) : (pd6 C o).map nI = mk5 F o := by
  unfold pd6 mk5
  rw [h.e (q := 86 + o) (by omega)]
  rcases (hi.2.2.2.2 o ho).2.2.2.2.2.2.1 with z | z
  · rw [z, if_pos rfl, if_neg (by decide)]; exact wo_no
  · rw [z, if_neg (by decide), if_pos rfl]; exact wo_ab
/-- the same letters -/
theorem tx_all (h : Rel C F) (hi : INV F n r) (ho : o < 8) : (pdT C o (bOK C o)).map nI = mkT F o := by
  unfold pdT mkT
  rw [List.map_append, List.map_append, List.map_append, List.map_append, List.map_append, List.map_append, tx_0 h hi ho, tx_1 h ho, tx_2 h ho, tx_4 h ho, tx_5 h hi ho, ← tx_3 h hi ho, List.append_assoc ((pd3 C o).map nI)]
theorem mem_ok {q p : Nat} (hl : ∀ x, x ∈ lst F q p → ∃ t, t < nt (F 0) ∧ x = nI t) (hT : nt (F 0) ≤ 6) {k : Nat} (hk : k < nt (F q)) : ∃ t, t < 6 ∧ F (p + k) = nI t := by
  have : F (p + k) ∈ lst F q p := List.mem_map.mpr ⟨k, List.mem_range.mpr hk, rfl⟩
  obtain ⟨t, t1, t2⟩ := hl _ this
  exact ⟨t, by omega, t2⟩
end DE
