/-! a new world: class against reference -/
theorem lp_at {L : Nat → Nat → (Nat → Int32) → (Nat → Int32)} {f : (Nat → Int32) → Nat → (Nat → Int32)} {ow : Nat → Nat} {val : Nat → Int32} {N : Nat} (h0 : ∀ i C, L 0 i C = C) (hs : ∀ n i C, L (n + 1) i C = L n (i + 1) (f C i)) (hf : ∀ i C k, i < N → f C i k = if ow k = i then val k else C k) : ∀ (n i : Nat) (C : Nat → Int32) (k : Nat), i + n ≤ N → L n i C k = if i ≤ ow k ∧ ow k < i + n then val k else C k
  | 0, i, C, k, _ => by rw [h0, if_neg (by omega)]
  | n + 1, i, C, k, hN => by
    rw [hs, lp_at h0 hs hf n (i + 1) _ k (by omega), hf i C k (by omega)]
    by_cases e : ow k = i
    · rw [if_neg (by omega), if_pos e, if_pos (by omega)]
    · by_cases e2 : i + 1 ≤ ow k ∧ ow k < i + 1 + n
      · rw [if_pos e2, if_pos (by omega)]
      · rw [if_neg e2, if_neg e, if_neg (by omega)]
def owS (k : Nat) : Nat := if 10 ≤ k ∧ k < 46 then (k - 10) % 6 else 100
def vlS (k : Nat) : Int32 := if k < 22 then 0 else if k < 34 then -8 else if k < 40 then -1 else 1
def owL (k : Nat) : Nat := if 46 ≤ k ∧ k < 126 then (k - 46) % 8 else 100
def vlL (b : Prop) [Decidable b] (k : Nat) : Int32 := if k < 54 then (if b then 1 else 0) else if k < 62 then -8 else if k < 70 then 0 else if k < 78 then -8 else if k < 94 then 0 else if k < 102 then -1 else 0
def owK (k : Nat) : Nat := if 222 ≤ k ∧ k < 231 then (k - 222) % 3 else 100
def vlK (k : Nat) : Int32 := if k < 228 then 0 else 1
def owT (k : Nat) : Nat := if 231 ≤ k ∧ k < 240 then k - 231 else 100
theorem stS {i k : Nat} {C : Nat → Int32} (hi : i < 6) : sclrF C i k = if owS k = i then vlS k else C k := by
  unfold sclrF owS vlS
  by_cases e : k = 22 + i
  · subst e; rw [upd_eq, if_pos (show 10 ≤ 22 + i ∧ 22 + i < 46 by omega), if_pos (by omega), if_neg (by omega), if_pos (by omega)]
  rw [upd_ne e]
  by_cases e : k = 40 + i
  · subst e; rw [upd_eq, if_pos (show 10 ≤ 40 + i ∧ 40 + i < 46 by omega), if_pos (by omega), if_neg (by omega), if_neg (by omega), if_neg (by omega)]
  rw [upd_ne e]
  by_cases e : k = 34 + i
  · subst e; rw [upd_eq, if_pos (show 10 ≤ 34 + i ∧ 34 + i < 46 by omega), if_pos (by omega), if_neg (by omega), if_neg (by omega), if_pos (by omega)]
  rw [upd_ne e]
  by_cases e : k = 28 + i
  · subst e; rw [upd_eq, if_pos (show 10 ≤ 28 + i ∧ 28 + i < 46 by omega), if_pos (by omega), if_neg (by omega), if_pos (by omega)]
  rw [upd_ne e]
  by_cases e : k = 16 + i
  · subst e; rw [upd_eq, if_pos (show 10 ≤ 16 + i ∧ 16 + i < 46 by omega), if_pos (by omega), if_pos (by omega)]
  rw [upd_ne e]
  by_cases e : k = 10 + i
  · subst e; rw [upd_eq, if_pos (show 10 ≤ 10 + i ∧ 10 + i < 46 by omega), if_pos (by omega), if_pos (by omega)]
  rw [upd_ne e]
  by_cases q : 10 ≤ k ∧ k < 46
  · rw [if_pos q, if_neg (by omega)]
  · rw [if_neg q, if_neg (by omega)]
theorem stK {i k : Nat} {C : Nat → Int32} (hi : i < 3) : kclrF C i k = if owK k = i then vlK k else C k := by
  unfold kclrF owK vlK
  by_cases e : k = 228 + i
  · subst e; rw [upd_eq, if_pos (show 222 ≤ 228 + i ∧ 228 + i < 231 by omega), if_pos (by omega), if_neg (by omega)]
  rw [upd_ne e]
  by_cases e : k = 225 + i
  · subst e; rw [upd_eq, if_pos (show 222 ≤ 225 + i ∧ 225 + i < 231 by omega), if_pos (by omega), if_pos (by omega)]
  rw [upd_ne e]
  by_cases e : k = 222 + i
  · subst e; rw [upd_eq, if_pos (show 222 ≤ 222 + i ∧ 222 + i < 231 by omega), if_pos (by omega), if_pos (by omega)]
  rw [upd_ne e]
  by_cases q : 222 ≤ k ∧ k < 231
  · rw [if_pos q, if_neg (by omega)]
  · rw [if_neg q, if_neg (by omega)]
theorem stT {i k : Nat} {C : Nat → Int32} {v : Int32} (hi : i < 9) : upd C (231 + i) v k = if owT k = i then v else C k := by
  unfold owT
  by_cases e : k = 231 + i
  · subst e; rw [upd_eq, if_pos (show 231 ≤ 231 + i ∧ 231 + i < 240 by omega), if_pos (by omega)]
  rw [upd_ne e]
  by_cases q : 231 ≤ k ∧ k < 240
  · rw [if_pos q, if_neg (by omega)]
  · rw [if_neg q, if_neg (by omega)]
theorem stL_ {i k : Nat} {C : Nat → Int32} {b : Prop} [Decidable b] (hi : i < 8) : lclrF C i b k = if owL k = i then vlL b k else C k := by
  unfold lclrF letGoF owL vlL
  generalize (if b then (1 : Int32) else 0) = y
  by_cases e : k = 118 + i
  · subst e; rw [upd_eq, if_pos (show 46 ≤ 118 + i ∧ 118 + i < 126 by omega), if_pos (by omega), if_neg (by omega), if_neg (by omega), if_neg (by omega), if_neg (by omega), if_neg (by omega), if_neg (by omega)]
  rw [upd_ne e]
  by_cases e : k = 110 + i
  · subst e; rw [upd_eq, if_pos (show 46 ≤ 110 + i ∧ 110 + i < 126 by omega), if_pos (by omega), if_neg (by omega), if_neg (by omega), if_neg (by omega), if_neg (by omega), if_neg (by omega), if_neg (by omega)]
  rw [upd_ne e]
  by_cases e : k = 102 + i
  · subst e; rw [upd_eq, if_pos (show 46 ≤ 102 + i ∧ 102 + i < 126 by omega), if_pos (by omega), if_neg (by omega), if_neg (by omega), if_neg (by omega), if_neg (by omega), if_neg (by omega), if_neg (by omega)]
  rw [upd_ne e]
  by_cases e : k = 94 + i
  · subst e; rw [upd_eq, if_pos (show 46 ≤ 94 + i ∧ 94 + i < 126 by omega), if_pos (by omega), if_neg (by omega), if_neg (by omega), if_neg (by omega), if_neg (by omega), if_neg (by omega), if_pos (by omega)]
  rw [upd_ne e]
  by_cases e : k = 86 + i
  · subst e; rw [upd_eq, if_pos (show 46 ≤ 86 + i ∧ 86 + i < 126 by omega), if_pos (by omega), if_neg (by omega), if_neg (by omega), if_neg (by omega), if_neg (by omega), if_pos (by omega)]
  rw [upd_ne e]
  by_cases e : k = 78 + i
  · subst e; rw [upd_eq, if_pos (show 46 ≤ 78 + i ∧ 78 + i < 126 by omega), if_pos (by omega), if_neg (by omega), if_neg (by omega), if_neg (by omega), if_neg (by omega), if_pos (by omega)]
  rw [upd_ne e]
  by_cases e : k = 70 + i
  · subst e; rw [upd_eq, if_pos (show 46 ≤ 70 + i ∧ 70 + i < 126 by omega), if_pos (by omega), if_neg (by omega), if_neg (by omega), if_neg (by omega), if_pos (by omega)]
  rw [upd_ne e]
  by_cases e : k = 62 + i
  · subst e; rw [upd_eq, if_pos (show 46 ≤ 62 + i ∧ 62 + i < 126 by omega), if_pos (by omega), if_neg (by omega), if_neg (by omega), if_pos (by omega)]
  rw [upd_ne e]
  by_cases e : k = 54 + i
  · subst e; rw [upd_eq, if_pos (show 46 ≤ 54 + i ∧ 54 + i < 126 by omega), if_pos (by omega), if_neg (by omega), if_pos (by omega)]
  rw [upd_ne e]
  by_cases e : k = 46 + i
  · subst e; rw [upd_eq, if_pos (show 46 ≤ 46 + i ∧ 46 + i < 126 by omega), if_pos (by omega), if_pos (by omega)]
  rw [upd_ne e]
  by_cases q : 46 ≤ k ∧ k < 126
  · rw [if_pos q, if_neg (by omega)]
  · rw [if_neg q, if_neg (by omega)]
theorem scL_at {C : Nat → Int32} {k : Nat} : scL 6 0 C k = if 10 ≤ k ∧ k < 46 then vlS k else C k := by
  rw [lp_at (L := scL) (f := sclrF) (N := 6) (fun _ _ => rfl) (fun _ _ _ => rfl) (fun i C k hi => stS hi) 6 0 C k (by omega)]
  unfold owS
  by_cases q : 10 ≤ k ∧ k < 46
  · rw [if_pos q, if_pos q, if_pos (by omega)]
  · rw [if_neg q, if_neg q, if_neg (by omega)]
theorem kcL_at {C : Nat → Int32} {k : Nat} : kcL 3 0 C k = if 222 ≤ k ∧ k < 231 then vlK k else C k := by
  rw [lp_at (L := kcL) (f := kclrF) (N := 3) (fun _ _ => rfl) (fun _ _ _ => rfl) (fun i C k hi => stK hi) 3 0 C k (by omega)]
  unfold owK
  by_cases q : 222 ≤ k ∧ k < 231
  · rw [if_pos q, if_pos q, if_pos (by omega)]
  · rw [if_neg q, if_neg q, if_neg (by omega)]
theorem flL_at {C : Nat → Int32} {k : Nat} {v : Int32} : flL v 9 0 C k = if 231 ≤ k ∧ k < 240 then v else C k := by
  rw [lp_at (L := flL v) (f := fun C i => upd C (231 + i) v) (val := fun _ => v) (N := 9) (fun _ _ => rfl) (fun _ _ _ => rfl) (fun i C k hi => stT hi) 9 0 C k (by omega)]
  unfold owT
  by_cases q : 231 ≤ k ∧ k < 240
  · rw [if_pos q, if_pos q, if_pos (by omega)]
  · rw [if_neg q, if_neg q, if_neg (by omega)]
theorem lcL_at {C : Nat → Int32} {k : Nat} {b : Prop} [Decidable b] : lcL b 8 0 C k = if 46 ≤ k ∧ k < 126 then vlL b k else C k := by
  rw [lp_at (L := lcL b) (f := fun C i => lclrF C i b) (val := vlL b) (N := 8) (fun _ _ => rfl) (fun _ _ _ => rfl) (fun i C k hi => stL_ hi) 8 0 C k (by omega)]
  unfold owL
  by_cases q : 46 ≤ k ∧ k < 126
  · rw [if_pos q, if_pos q, if_pos (by omega)]
  · rw [if_neg q, if_neg q, if_neg (by omega)]
theorem begF_at {C : Nat → Int32} {T : Int32} {k : Nat} : begF C T k = if 222 ≤ k ∧ k < 231 then vlK k else if 46 ≤ k ∧ k < 126 then vlL (C 1 = 1) k else if 10 ≤ k ∧ k < 46 then vlS k else if 231 ≤ k ∧ k < 240 then 0 else if k = 240 then 0 else if k = 9 then 0 else if k = 0 then T else C k := by
  unfold begF begT
  have e1 : valF (scL 6 0 (flL 0 9 0 (upd (upd (upd C 0 T) 9 0) 240 0))) 0 = C 1 := by
    rw [show (0 : Int32) = nI 0 from rfl, valF_at (by decide), scL_at, if_neg (by omega), flL_at, if_neg (by omega), upd_ne (by omega), upd_ne (by omega), upd_ne (by omega)]
  rw [kcL_at, lcL_at, scL_at, flL_at]
  simp only [e1]
  by_cases a : 222 ≤ k ∧ k < 231
  · rw [if_pos a, if_pos a]
  rw [if_neg a, if_neg a]
  by_cases a : 46 ≤ k ∧ k < 126
  · rw [if_pos a, if_pos a]
  rw [if_neg a, if_neg a]
  by_cases a : 10 ≤ k ∧ k < 46
  · rw [if_pos a, if_pos a]
  rw [if_neg a, if_neg a]
  by_cases a : 231 ≤ k ∧ k < 240
  · rw [if_pos a, if_pos a]
  rw [if_neg a, if_neg a]
  by_cases a : k = 240
  · subst a; rw [upd_eq, if_pos rfl]
  rw [if_neg a, upd_ne a]
  by_cases a : k = 9
  · subst a; rw [upd_eq, if_pos rfl]
  rw [if_neg a, upd_ne a]
  by_cases a : k = 0
  · subst a; rw [upd_eq, if_pos rfl]
  rw [if_neg a, upd_ne a]
