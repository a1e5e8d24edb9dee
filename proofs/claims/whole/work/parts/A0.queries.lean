/-! what the world is asked: class against reference -/
section QU
variable {C F : Nat → Int32} {n r : Nat}
theorem q_threadState {x : Int32} (h : Rel C F) (hi : INV F n r) : tsC C x = threadStateQ F x := by
  unfold tsC threadStateQ
  by_cases q : isT F x
  · obtain ⟨t, ht6, htT, rfl⟩ := isT_nat h.1 q
    rw [if_pos q, if_pos ((hasT_iff h hi).mpr q), ntn (show t < 2 ^ 31 by omega), h.e (q := 16 + t) (by omega), h.e (q := 10 + t) (by omega)]
    rcases (hi.2.2.2.1 t ht6).1 with z | z
    · rw [z, if_pos rfl, Int32.mul_zero, Int32.add_zero]
    · rw [z, if_neg (by decide), Int32.mul_one]
  · rw [if_neg q, if_neg (fun z => q ((hasT_iff h hi).mp z))]
theorem q_threadAt {x : Int32} (h : Rel C F) (hi : INV F n r) : taC C x = threadAtQ F x := by
  unfold taC threadAtQ
  by_cases q : isT F x
  · obtain ⟨t, ht6, htT, rfl⟩ := isT_nat h.1 q
    rw [if_pos q, if_pos ((hasT_iff h hi).mpr q), ntn (show t < 2 ^ 31 by omega), h.e (q := 28 + t) (by omega)]
  · rw [if_neg q, if_neg (fun z => q ((hasT_iff h hi).mp z))]
theorem q_waitEnd {x : Int32} (h : Rel C F) (hi : INV F n r) : weC C x = waitEndQ F x := by
  unfold weC waitEndQ
  by_cases q : isT F x
  · obtain ⟨t, ht6, htT, rfl⟩ := isT_nat h.1 q
    rw [if_pos q, if_pos ((hasT_iff h hi).mpr q), ntn (show t < 2 ^ 31 by omega), h.e (q := 22 + t) (by omega)]
  · rw [if_neg q, if_neg (fun z => q ((hasT_iff h hi).mp z))]
theorem q_lockState {y : Int32} (h : Rel C F) (hi : INV F n r) : lsC C y = lockStateQ F y := by
  unfold lsC lockStateQ
  by_cases q : isOb y
  · obtain ⟨o, ho, rfl⟩ := isOb_nat q
    rw [if_pos q, if_pos (isO_iff.mpr q), ntn (show o < 2 ^ 31 by omega), h.e (q := 86 + o) (by omega), h.e (q := 46 + o) (by omega)]
    rcases (hi.2.2.2.2 o ho).2.2.2.2.2.2.1 with z | z
    · rw [z, if_pos rfl, Int32.mul_zero, Int32.add_zero]
    · rw [z, if_neg (by decide), Int32.mul_one]
  · rw [if_neg q, if_neg (fun z => q (isO_iff.mp z))]
theorem q_owner {y : Int32} (h : Rel C F) (hi : INV F n r) : owC C y = ownerQ F y := by
  unfold owC ownerQ
  by_cases q : isOb y
  · obtain ⟨o, ho, rfl⟩ := isOb_nat q
    rw [if_pos q, if_pos (isO_iff.mpr q), ntn (show o < 2 ^ 31 by omega), h.e (q := 54 + o) (by omega)]
    have hc := (hi.2.2.2.2 o ho).cnt hi.1.2.1
    by_cases z : F (62 + o) ≤ 0
    · rw [if_neg (fun w => w z), hc.2.1 (hc.1.mp z)]
    · rw [if_pos z]
  · rw [if_neg q, if_neg (fun z => q (isO_iff.mp z))]
theorem q_count {y : Int32} (h : Rel C F) : cnC C y = countQ F y := by
  unfold cnC countQ
  by_cases q : isOb y
  · obtain ⟨o, ho, rfl⟩ := isOb_nat q
    rw [if_pos q, if_pos (isO_iff.mpr q), ntn (show o < 2 ^ 31 by omega), h.e (q := 62 + o) (by omega)]
  · rw [if_neg q, if_neg (fun z => q (isO_iff.mp z))]
theorem q_bias {y : Int32} (h : Rel C F) : biC C y = biasQ F y := by
  unfold biC biasQ
  by_cases q : isOb y
  · obtain ⟨o, ho, rfl⟩ := isOb_nat q
    have ho3 : o % 3 < 3 := Nat.mod_lt _ (by decide)
    rw [if_pos q, if_pos (isO_iff.mpr q), ntn (show o < 2 ^ 31 by omega), h.e (q := 46 + o) (by omega)]
    by_cases z : F (46 + o) = 2
    · have hb : bOK C o ↔ bOK F o := by unfold bOK; rw [h.e (q := 78 + o) (by omega), h.e (q := 222 + o % 3) (by omega)]
      rw [if_pos z, if_pos z, h.2.2.2.2.1 o ho z]
      by_cases b : bOK F o
      · rw [if_pos b, if_pos (hb.mpr b), Int32.add_zero]
      · rw [if_neg b, if_neg (fun w => b (hb.mp w))]
    · rw [if_neg z, if_neg z]
  · rw [if_neg q, if_neg (fun z => q (isO_iff.mp z))]
theorem lst_pt {q p i : Nat} (h : lst C q p = lst F q p) (hi : i < nt (F q)) : C (p + i) = F (p + i) := by
  have e : nt (C q) = nt (F q) := by rw [← lst_len (F := C) (q := q) (p := p), h, lst_len]
  have g : (lst C q p)[i]? = (lst F q p)[i]? := by rw [h]
  unfold lst at g
  rw [List.getElem?_map, List.getElem?_map, e, List.getElem?_range hi] at g
  exact Option.some.inj g
theorem at_pt {q p : Nat} {k : Int32} (hl : lst C q p = lst F q p) (hs : OKs F q) (hc : C q = F q) (hk : 0 ≤ k) : atF C q p k = if F q ≤ k then -8 else F (p + nt k) := by
  unfold atF
  rw [if_neg (Int32.not_lt.mpr hk), hc]
  by_cases z : F q ≤ k
  · rw [if_pos z, if_pos z]
  · rw [if_neg z, if_neg z]
    obtain ⟨s, s1, s2⟩ := hs
    rw [s2] at z
    obtain ⟨k1, k2⟩ := nat_of (Int32.not_lt.mpr hk) z (by omega)
    exact lst_pt hl (by rw [s2, ntn (by omega)]; exact k2)
theorem q_queued {y k : Int32} (h : Rel C F) (hi : INV F n r) : quC C y k = queuedQ F y k := by
  unfold quC queuedQ
  by_cases q : isOb y
  · obtain ⟨o, ho, rfl⟩ := isOb_nat q
    rw [if_pos q, if_pos (isO_iff.mpr q), ntn (show o < 2 ^ 31 by omega)]
    by_cases z : 0 ≤ k
    · rw [if_pos z, if_pos z, at_pt (h.l ho).1 (h.1.q ho) (h.e (by omega)) z]
      by_cases w : F (46 + o) = 4
      · rw [if_pos w]
      · rw [if_neg w, if_pos (by rw [((hi.2.2.2.2 o ho).2.2.2.2.2.1 w).1]; exact z)]
    · rw [if_neg z, if_neg z]
  · rw [if_neg q, if_neg (fun z => q (isO_iff.mp z))]
theorem q_waiting {y k : Int32} (h : Rel C F) (hi : INV F n r) : waC C y k = waitingQ F y k := by
  unfold waC waitingQ
  by_cases q : isOb y
  · obtain ⟨o, ho, rfl⟩ := isOb_nat q
    rw [if_pos q, if_pos (isO_iff.mpr q), ntn (show o < 2 ^ 31 by omega)]
    by_cases z : 0 ≤ k
    · rw [if_pos z, if_pos z, at_pt (h.l ho).2 (h.1.w ho) (h.e (by omega)) z]
      by_cases w : F (46 + o) = 4
      · rw [if_pos w]
      · rw [if_neg w, if_pos (by rw [((hi.2.2.2.2 o ho).2.2.2.2.2.1 w).2]; exact z)]
    · rw [if_neg z, if_neg z]
  · rw [if_neg q, if_neg (fun z => q (isO_iff.mp z))]
theorem lt3_iff {x : Int32} : (¬ x < 0 ∧ x < 3) ↔ inP x 0 2 := by
  constructor
  · rintro ⟨a, b⟩
    obtain ⟨p1, p2⟩ := nat_of3 a b
    refine ⟨a, ?_⟩
    rw [p1]
    exact nI_nlt (a := 2) (b := nt x) (by omega) (by decide)
  · rintro ⟨a, b⟩
    exact ⟨a, Int32.not_le.mp (fun z => b (Int32.lt_of_lt_of_le (by decide) z))⟩
theorem lt9_iff {x : Int32} : (¬ x < 0 ∧ x < 9) ↔ inP x 0 8 := by
  constructor
  · rintro ⟨a, b⟩
    obtain ⟨p1, p2⟩ := nat_of9 a b
    refine ⟨a, ?_⟩
    rw [p1]
    exact nI_nlt (a := 8) (b := nt x) (by omega) (by decide)
  · rintro ⟨a, b⟩
    exact ⟨a, Int32.not_le.mp (fun z => b (Int32.lt_of_lt_of_le (by decide) z))⟩
theorem q_counted {x : Int32} (h : Rel C F) : cdC C x = countedQ F x := by
  unfold cdC countedQ
  by_cases q : inP x 0 8
  · obtain ⟨a, b⟩ := lt9_iff.mpr q
    obtain ⟨p1, p2⟩ := nat_of9 a b
    rw [if_pos q, if_neg a, if_pos b, h.e (by omega)]
  · rw [if_neg q]
    split
    · rfl
    · rename_i a
      rw [if_neg (fun b => q (lt9_iff.mp ⟨a, b⟩))]
theorem q_type {x k : Int32} (h : Rel C F) (hi : INV F n r) : tyC C x k = typeQ F x k := by
  unfold tyC typeQ
  by_cases q : inP x 0 2
  · obtain ⟨a, b⟩ := lt3_iff.mpr q
    obtain ⟨p1, p2⟩ := nat_of3 a b
    rw [if_pos q, if_neg a, if_pos b]
    by_cases k0 : k = 0
    · rw [if_pos k0, if_pos (by rw [k0]; exact ⟨by decide, by decide⟩), if_pos k0, h.e (by omega)]
    · rw [if_neg k0]
      by_cases k1 : k = 1
      · rw [if_pos k1, if_pos (by rw [k1]; exact ⟨by decide, by decide⟩), if_neg k0, if_pos k1, h.e (by omega)]
      · rw [if_neg k1]
        by_cases k2 : k = 2
        · rw [if_pos k2, if_pos (show inP k 0 2 by rw [k2]; exact ⟨by decide, by decide⟩), if_neg k0, if_neg k1, h.e (by omega)]
          rcases hi.2.2.1.2.2.2.2 (nt x) p2 with z | z
          · rw [z, if_pos rfl]
          · rw [z, if_neg (by decide)]
        · rw [if_neg k2]
          have : ¬ inP k 0 2 := fun w => by
            obtain ⟨c, d⟩ := lt3_iff.mpr w
            obtain ⟨e1, e2⟩ := nat_of3 c d
            generalize nt k = j at e1 e2
            match j, e2 with
            | 0, _ => exact k0 e1
            | 1, _ => exact k1 e1
            | 2, _ => exact k2 e1
          rw [if_neg this]
  · rw [if_neg q]
    split
    · rfl
    · rename_i a
      rw [if_neg (fun b => q (lt3_iff.mp ⟨a, b⟩))]
theorem q_setting {x : Int32} (h : Rel C F) : stC C x = settingQ F x := by
  unfold stC settingQ
  by_cases q : isOb x
  · obtain ⟨o, ho, rfl⟩ := isOb_nat q
    rw [if_pos (show inP (nI o) 0 7 from q), if_pos (isO_iff.mpr q), valF_at ho, ntn (show o < 2 ^ 31 by omega), h.e (by omega)]
  · rw [if_neg (show ¬ inP x 0 7 from q), if_neg (fun z => q (isO_iff.mp z))]
theorem all_val {x v : Int32} : allP x v ↔ valP x v := by
  have key : ∀ j, j < 8 → leaM (nI j) = sLeast j ∧ mosM (nI j) = sGreat j := by decide
  constructor
  · rintro ⟨a, b, c⟩
    have q : isOb x := isO_iff.mp a
    obtain ⟨o, ho, rfl⟩ := isOb_nat q
    rw [ntn (by omega)] at b c
    exact ⟨q, by rw [(key o ho).1]; exact b, by rw [(key o ho).2]; exact c⟩
  · rintro ⟨a, b, c⟩
    obtain ⟨o, ho, rfl⟩ := isOb_nat (y := x) a
    rw [(key o ho).1] at b
    rw [(key o ho).2] at c
    exact ⟨isO_iff.mpr a, by rw [ntn (by omega)]; exact b, by rw [ntn (by omega)]; exact c⟩
theorem q_set {x v : Int32} (h : Rel C F) (hi : INV F n r) : (setC C x v).1 = (setM F x v).1 ∧ Rel (setC C x v).2 (setM F x v).2 ∧ INV (setM F x v).2 n r := by
  unfold setC setM
  by_cases q : valP x v
  · obtain ⟨o, ho, rfl⟩ := isOb_nat (y := x) q.1
    have e : nt (nI o) = o := ntn (by omega)
    rw [if_pos q, if_pos (all_val.mpr q), h.mon, e, valF_at ho, h.e (q := 1 + o) (by omega)]
    have hc : chgF C (nI o) v = upd C (1 + o) v := by unfold chgF; rw [if_pos (all_val.mpr q), e]
    rw [hc]
    have ok : Rel (upd C (1 + o) v) (upd F (1 + o) v) ∧ INV (upd F (1 + o) v) n r := ⟨h.up (by omega), hi.pl (by omega)⟩
    by_cases q6 : nI o = 6
    · rw [if_pos q6, if_pos q6]
      by_cases qm : monF F ≤ v
      · rw [if_pos qm, if_pos qm]; exact ⟨rfl, ok⟩
      · rw [if_neg qm, if_neg qm]; exact ⟨rfl, h, hi⟩
    · rw [if_neg q6, if_neg q6]; exact ⟨rfl, ok⟩
  · rw [if_neg q, if_neg (fun z => q (all_val.mp z))]; exact ⟨rfl, h, hi⟩
theorem he_hd {x : Int32} (h : Rel C F) : ∀ (m i : Nat) (a : Int32), i + m = 8 → heC C x m i a = hdL F x m i a
  | 0, _, _, _ => rfl
  | m + 1, i, a, hm => by
    unfold heC hdL
    rw [h.e (q := 62 + i) (by omega), h.e (q := 54 + i) (by omega), he_hd h m (i + 1) _ (by omega)]
    congr 1
    by_cases z : F (62 + i) ≤ 0
    · rw [if_neg (fun w => w.1 z), if_neg (fun w => w z), Int32.or_zero]
    · rw [if_pos z]
      by_cases w : F (54 + i) = x
      · rw [if_pos ⟨z, w⟩, if_pos w]
      · rw [if_neg (fun y => w y.2), if_neg w, Int32.or_zero]
theorem q_held {x : Int32} (h : Rel C F) (hi : INV F n r) : hlC C x = heldQ F x := by
  unfold hlC heldQ
  by_cases q : isT F x
  · rw [if_pos q, if_pos ((hasT_iff h hi).mpr q), he_hd h 8 0 0 rfl]
  · rw [if_neg q, if_neg (fun z => q ((hasT_iff h hi).mp z))]
theorem q_cost (h : Rel C F) : pcC C 9 0 0 = costQ F := by
  show 0 + sPrice 0 * C 231 + sPrice 1 * C 232 + sPrice 2 * C 233 + sPrice 3 * C 234 + sPrice 4 * C 235 + sPrice 5 * C 236 + sPrice 6 * C 237 + sPrice 7 * C 238 + sPrice 8 * C 239 = costQ F
  have e7 : sPrice 7 = 0 := by decide
  have e8 : sPrice 8 = 0 := by decide
  rw [e7, e8, Int32.zero_mul, Int32.zero_mul, Int32.add_zero, Int32.add_zero, Int32.zero_add, h.e (q := 231) (by omega), h.e (q := 232) (by omega), h.e (q := 233) (by omega), h.e (q := 234) (by omega), h.e (q := 235) (by omega), h.e (q := 236) (by omega), h.e (q := 237) (by omega)]
  rfl
end QU
