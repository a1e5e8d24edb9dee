/-! a new world: the relation, and what always holds -/
section BG
variable {C F : Nat → Int32} {T : Nat}
theorem bgF9 {k : Nat} {z : Int32} (h : 1 ≤ k ∧ k < 9) : begF C z k = C k := by
  rw [begF_at, if_neg (by omega), if_neg (by omega), if_neg (by omega), if_neg (by omega), if_neg (by omega), if_neg (by omega), if_neg (by omega)]
theorem bgM9 {k : Nat} {z : Int32} (h : 1 ≤ k ∧ k < 9) : begM F z k = F k := by
  rw [begM_at, if_neg (by omega), if_pos (by omega)]
theorem bgF0 {z : Int32} : begF C z 0 = z := by
  rw [begF_at, if_neg (by omega), if_neg (by omega), if_neg (by omega), if_neg (by omega), if_neg (by omega), if_neg (by omega), if_pos rfl]
theorem bgM0 {z : Int32} : begM F z 0 = z := by rw [begM_at, if_pos rfl]
theorem bgFz {k : Nat} {z : Int32} (h : (9 ≤ k ∧ k < 22) ∨ (62 ≤ k ∧ k < 70) ∨ (78 ≤ k ∧ k < 94) ∨ (102 ≤ k ∧ k < 126) ∨ (222 ≤ k ∧ k < 228) ∨ (231 ≤ k ∧ k < 241)) : begF C z k = 0 := by
  rw [begF_at]
  by_cases a : 222 ≤ k ∧ k < 231
  · rw [if_pos a]; unfold vlK; rw [if_pos (by omega)]
  rw [if_neg a]
  by_cases a : 46 ≤ k ∧ k < 126
  · rw [if_pos a]; unfold vlL; rw [if_neg (by omega), if_neg (by omega)]
    by_cases b : k < 70
    · rw [if_pos b]
    rw [if_neg b, if_neg (by omega)]
    by_cases b : k < 94
    · rw [if_pos b]
    rw [if_neg b, if_neg (by omega)]
  rw [if_neg a]
  by_cases a : 10 ≤ k ∧ k < 46
  · rw [if_pos a]; unfold vlS; rw [if_pos (by omega)]
  rw [if_neg a]
  by_cases a : 231 ≤ k ∧ k < 240
  · rw [if_pos a]
  rw [if_neg a]
  by_cases a : k = 240
  · rw [if_pos a]
  rw [if_neg a, if_pos (by omega)]
theorem bgF8 {k : Nat} {z : Int32} (h : (22 ≤ k ∧ k < 34) ∨ (54 ≤ k ∧ k < 62) ∨ (70 ≤ k ∧ k < 78)) : begF C z k = -8 := by
  rw [begF_at, if_neg (by omega)]
  by_cases a : 46 ≤ k ∧ k < 126
  · rw [if_pos a]; unfold vlL; rw [if_neg (by omega)]
    by_cases b : k < 62
    · rw [if_pos b]
    rw [if_neg b, if_neg (by omega), if_pos (by omega)]
  rw [if_neg a, if_pos (by omega)]
  unfold vlS; rw [if_neg (by omega), if_pos (by omega)]
theorem bgM8 {k : Nat} {z : Int32} (h : (22 ≤ k ∧ k < 34) ∨ (54 ≤ k ∧ k < 62) ∨ (70 ≤ k ∧ k < 78) ∨ (94 ≤ k ∧ k < 102)) : begM F z k = -8 := by
  rw [begM_at, if_neg (by omega), if_neg (by omega), if_neg (by omega), if_neg (by omega), if_pos h]
theorem bgF46 {o : Nat} {z : Int32} (ho : o < 8) : begF C z (46 + o) = if C 1 = 1 then 1 else 0 := by
  rw [begF_at, if_neg (by omega), if_pos (by omega)]; unfold vlL; rw [if_pos (by omega)]
theorem bgM46 {o : Nat} {z : Int32} (ho : o < 8) : begM F z (46 + o) = if F 1 = 1 then 1 else 0 := by
  rw [begM_at, if_neg (by omega), if_neg (by omega), if_neg (by omega), if_pos (by omega)]
theorem bgF1 {k : Nat} {z : Int32} (h : 228 ≤ k ∧ k < 231) : begF C z k = 1 := by
  rw [begF_at, if_pos (by omega)]; unfold vlK; rw [if_neg (by omega)]
theorem bgM1 {k : Nat} {z : Int32} (h : 228 ≤ k ∧ k < 231) : begM F z k = 1 := by
  rw [begM_at, if_neg (by omega), if_neg (by omega), if_pos h]
theorem bgF94 {o : Nat} {z : Int32} (ho : o < 8) : begF C z (94 + o) = -1 := by
  rw [begF_at, if_neg (by omega), if_pos (by omega)]; unfold vlL; rw [if_neg (by omega), if_neg (by omega), if_neg (by omega), if_neg (by omega), if_neg (by omega), if_pos (by omega)]
theorem Rel.beg (hs : ∀ q, 1 ≤ q → q < 9 → C q = F q) (hT : T ≤ 6) : Rel (begF C (nI T)) (begM F (nI T)) := by
  refine ⟨(TS.beg hT).1, fun q hq => ?_, fun t ht h2 => ?_, fun t ht h2 => ?_, fun o ho h2 => ?_, fun o ho => ?_, fun o ho => ?_⟩
  · by_cases a : q = 0
    · subst a; rw [bgF0, bgM0]
    by_cases a : q < 9
    · rw [bgF9 (by omega), bgM9 (by omega)]; exact hs q (by omega) a
    by_cases a : 228 ≤ q ∧ q < 231
    · rw [bgF1 a, bgM1 a]
    by_cases a : (22 ≤ q ∧ q < 34) ∨ (54 ≤ q ∧ q < 62)
    · rw [bgF8 (by omega), bgM8 (by omega)]
    by_cases a : 46 ≤ q ∧ q < 54
    · obtain ⟨o, rfl⟩ : ∃ o, q = 46 + o := ⟨q - 46, by omega⟩
      rw [bgF46 (by omega), bgM46 (by omega), hs 1 (by omega) (by omega)]
    · rw [bgFz (by omega), beg0 (by omega)]
  · rw [beg0 (by omega)] at h2; exact absurd h2 (by decide)
  · rw [beg0 (by omega)] at h2; exact absurd h2 (by decide)
  · rw [bgF8 (by omega), bgM8 (by omega)]
  · exact Or.inl ⟨bgF94 ho, bgM8 (by omega)⟩
  · have e1 : Qs (begF C (nI T)) o = [] := lst_zero (bgFz (by omega))
    have e2 : Qs (begM F (nI T)) o = [] := lst_zero (beg0 (by omega))
    have e3 : Ws (begF C (nI T)) o = [] := lst_zero (bgFz (by omega))
    have e4 : Ws (begM F (nI T)) o = [] := lst_zero (beg0 (by omega))
    rw [e1, e2, e3, e4]; exact ⟨rfl, rfl⟩
theorem INV.beg (h2 : 2 ≤ T) (hT : T ≤ 6) {n r : Nat} (hn : 1 ≤ n) (hn' : n ≤ 100000) (hr : r ≤ 100000000) : INV (begM F (nI T)) n r := by
  refine ⟨⟨hn, hn', hr⟩, TS.beg hT, ⟨⟨T, h2, hT, bgM0⟩, ⟨0, by omega, beg0 (by omega)⟩, ⟨0, by omega, beg0 (by omega)⟩, ⟨0, by omega, beg0 (by omega)⟩, fun c hc => Or.inr (bgM1 (by omega))⟩, fun t ht => ⟨Or.inl (beg0 (by omega)), fun z => ?_⟩, fun o ho => ?_⟩
  · rw [beg0 (by omega)] at z; rcases z with z | z <;> exact absurd z (by decide)
  · have e46 : begM F (nI T) (46 + o) = 0 ∨ begM F (nI T) (46 + o) = 1 := by
      rw [bgM46 ho]; split
      · exact Or.inr rfl
      · exact Or.inl rfl
    have e62 : begM F (nI T) (62 + o) = 0 := beg0 (by omega)
    refine ⟨?_, ⟨0, by omega, e62, fun _ => bgM8 (by omega), fun z => absurd z (by omega)⟩, fun _ => e62, fun z => ?_, fun z => ?_, fun _ => ⟨beg0 (by omega), beg0 (by omega)⟩, Or.inl (beg0 (by omega)), Or.inl (bgM8 (by omega))⟩
    · rcases e46 with e | e
      · exact ⟨0, by omega, e⟩
      · exact ⟨1, by omega, e⟩
    · rcases e46 with e | e <;> rw [e] at z <;> exact absurd z (by decide)
    · rcases e46 with e | e <;> rw [e] at z <;> exact absurd z (by decide)
theorem JR.beg {J : Nat → Int32} {z : Int32} (h : J 400 = 0) : JR J (begM F z) := by
  have e : begM F z 241 = 0 := beg0 (by omega)
  refine ⟨h.trans e.symm, fun i hi => ?_⟩
  rw [e] at hi
  exact absurd hi (Nat.not_lt_zero i)
end BG
