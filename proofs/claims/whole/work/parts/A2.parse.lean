/-! reading the text: class against reference -/
theorem eo_spec {tx : Nat → Int32} {Ln : Nat} : ∀ (n p : Nat), p + n = Ln → (eoL tx Ln n p < Ln → tx (eoL tx Ln n p) = 59) ∧ ∀ q, p ≤ q → q < eoL tx Ln n p → ¬ tx q = 59
  | 0, p, h => ⟨fun z => absurd z (Nat.lt_irrefl _), fun q a b => by
      have b : q < Ln := b
      omega⟩
  | n + 1, p, h => by
    unfold eoL
    by_cases e : tx p = 59
    · rw [if_pos e]
      exact ⟨fun _ => e, fun q a b => absurd b (by omega)⟩
    · rw [if_neg e]
      obtain ⟨g1, g2⟩ := eo_spec (tx := tx) (Ln := Ln) n (p + 1) (by omega)
      refine ⟨g1, fun q a b => ?_⟩
      by_cases z : q = p
      · subst z; exact e
      · exact g2 q (by omega) b
/-- e is the first semicolon from a on -/
def Smc (tx : Nat → Int32) (Ln a e : Nat) : Prop := a ≤ e ∧ e < Ln ∧ tx e = 59 ∧ ∀ q, a ≤ q → q < e → ¬ tx q = 59
theorem Smc.of {tx : Nat → Int32} {Ln a : Nat} (ha : a ≤ Ln) (h : eoI tx Ln a < Ln) : Smc tx Ln a (eoI tx Ln a) := by
  obtain ⟨g1, g2⟩ := eo_spec (tx := tx) (Ln := Ln) (Ln - a) a (by omega)
  exact ⟨(eoI_le ha).1, h, g1 h, g2⟩
theorem Smc.no {tx : Nat → Int32} {Ln a b : Nat} (ha : a ≤ Ln) (h : ¬ eoI tx Ln a < Ln) (hab : a ≤ b) (hb : b < Ln) : ¬ tx b = 59 := by
  obtain ⟨g1, g2⟩ := eo_spec (tx := tx) (Ln := Ln) (Ln - a) a (by omega)
  exact g2 b hab (by have : eoL tx Ln (Ln - a) a = eoI tx Ln a := rfl
                     omega)
def litc (c : Nat) : Prop := c < 128 ∧ c ≠ 78 ∧ c ≠ 79 ∧ c ≠ 84 ∧ c ≠ 32 ∧ c ≠ 59
theorem ms_lit {tx : Nat → Int32} {Ln e p c : Nat} {F : Nat → Int32} (he : e < Ln) (hc : c < 128 ∧ c ≠ 78 ∧ c ≠ 79 ∧ c ≠ 84) : msF tx Ln e (nI c) p F = if p < e ∧ tx p = nI c then (1, F) else (0, F) := by
  unfold msF
  by_cases q : p < e
  · rw [if_pos q, if_pos (show p < Ln by omega), if_neg (show ¬ nI c = 78 from fun z => hc.2.1 (nI_inj (b := 78) (by omega) (by decide) z)), if_neg (show ¬ nI c = 79 from fun z => hc.2.2.1 (nI_inj (b := 79) (by omega) (by decide) z)), if_neg (show ¬ nI c = 84 from fun z => hc.2.2.2 (nI_inj (b := 84) (by omega) (by decide) z))]
    by_cases z : tx p = nI c
    · rw [if_pos z, if_pos ⟨q, z⟩]
    · rw [if_neg z, if_neg (fun w => z w.2)]
  · rw [if_neg q, if_neg (fun w => q w.1)]
theorem hf_word {tx : Nat → Int32} {Ln e : Nat} {F : Nat → Int32} {rest : List Nat} (he : e < Ln) : ∀ (ws : List Nat) (p : Nat), p ≤ e → (∀ c, c ∈ ws → litc c) → hfL tx Ln e (ws ++ rest) p F = if p + ws.length ≤ e ∧ pl tx p (ws.map nI) = true then hfL tx Ln e rest (p + ws.length) F else (none, F)
  | [], p, hp, _ => by
    rw [if_pos ⟨hp, rfl⟩]; rfl
  | c :: cs, p, hp, hc => by
    obtain ⟨c1, c2, c3, c4, c5, c6⟩ := hc c List.mem_cons_self
    show (if (msF tx Ln e (nI c) p F).1 = 0 then (none, (msF tx Ln e (nI c) p F).2) else hfL tx Ln e (cs ++ rest) (p + nt (msF tx Ln e (nI c) p F).1) (msF tx Ln e (nI c) p F).2) = _
    rw [ms_lit he ⟨c1, c2, c3, c4⟩]
    by_cases q : p < e ∧ tx p = nI c
    · rw [if_pos q]
      dsimp only
      rw [if_neg (show ¬ (1 : Int32) = 0 by decide)]
      show hfL tx Ln e (cs ++ rest) (p + 1) F = _
      rw [hf_word he cs (p + 1) (by omega) (fun x hx => hc x (List.mem_cons_of_mem _ hx))]
      have e1 : (p + 1 + cs.length ≤ e ∧ pl tx (p + 1) (cs.map nI) = true) ↔ (p + (c :: cs).length ≤ e ∧ pl tx p ((c :: cs).map nI) = true) := by
        show _ ↔ (p + (cs.length + 1) ≤ e ∧ (decide (tx p = nI c) && pl tx (p + 1) (cs.map nI)) = true)
        rw [decide_eq_true q.2, Bool.true_and, show p + 1 + cs.length = p + (cs.length + 1) by omega]
      rw [show p + (c :: cs).length = p + 1 + cs.length by show p + (cs.length + 1) = _; omega] at e1 ⊢
      by_cases w : p + 1 + cs.length ≤ e ∧ pl tx (p + 1) (cs.map nI) = true
      · rw [if_pos w, if_pos (e1.mp w)]
      · rw [if_neg w, if_neg (fun z => w (e1.mpr z))]
    · rw [if_neg q]
      dsimp only
      rw [if_pos rfl, if_neg]
      rintro ⟨a1, a2⟩
      have a1 : p + (cs.length + 1) ≤ e := a1
      have a2 : (decide (tx p = nI c) && pl tx (p + 1) (cs.map nI)) = true := a2
      rw [Bool.and_eq_true] at a2
      exact q ⟨by omega, of_decide_eq_true a2.1⟩
theorem dgv {tx : Nat → Int32} {Ln q : Nat} (h : dgT tx Ln q) : ∃ w, w ≤ 9 ∧ tx q = nI (48 + w) ∧ tx q - 48 = nI w := by
  obtain ⟨-, h1, h2⟩ := h
  have a0 : ¬ tx q < 0 := fun z => h1 (Int32.lt_trans z (by decide))
  have a1 : ¬ nI 58 ≤ tx q := fun z => h2 (Int32.lt_of_lt_of_le (by decide) z)
  obtain ⟨e1, e2⟩ := nat_of a0 a1 (by decide)
  have e2 : nt (tx q) < 58 := e2
  have e1 : tx q = nI (nt (tx q)) := e1
  have e3 : 48 ≤ nt (tx q) := Decidable.not_not.mp (fun z => h1 (by rw [e1]; exact nI_lt (a := nt (tx q)) (b := 48) (by omega) (by decide)))
  refine ⟨nt (tx q) - 48, by omega, ?_, ?_⟩
  · rw [show 48 + (nt (tx q) - 48) = nt (tx q) by omega]; exact e1
  · have := nJ_sub (a := nt (tx q)) (b := 48) e3
    rw [← e1] at this
    exact this
def srt (s : Int32) : List Nat := if s < 0 then [] else [32, if s = 0 then 84 else if s = 1 then 79 else 78]
theorem mn_1 {tx : Nat → Int32} {Ln p : Nat} (h : dgT tx Ln p) : mnL tx Ln p 1 0 0 = some (tx p - 48) := by
  show (if dgT tx Ln (p + 0) then mnL tx Ln p 0 1 (10 * 0 + tx (p + 0) - 48) else none) = _
  rw [if_pos (show dgT tx Ln (p + 0) from h)]
  show some (10 * 0 + tx (p + 0) - 48) = _
  rw [Int32.mul_zero, Int32.zero_add, Nat.add_zero]
theorem mn_2 {tx : Nat → Int32} {Ln p : Nat} (h : dgT tx Ln p) (h' : dgT tx Ln (p + 1)) : mnL tx Ln p 2 0 0 = some (10 * (tx p - 48) + tx (p + 1) - 48) := by
  show (if dgT tx Ln (p + 0) then mnL tx Ln p 1 1 (10 * 0 + tx (p + 0) - 48) else none) = _
  rw [if_pos (show dgT tx Ln (p + 0) from h)]
  show (if dgT tx Ln (p + 1) then mnL tx Ln p 0 2 (10 * (10 * 0 + tx (p + 0) - 48) + tx (p + 1) - 48) else none) = _
  rw [if_pos h']
  show some (10 * (10 * 0 + tx (p + 0) - 48) + tx (p + 1) - 48) = _
  rw [Int32.mul_zero, Int32.zero_add, Nat.add_zero]
theorem mn_0 {tx : Nat → Int32} {Ln p n : Nat} (h : ¬ dgT tx Ln p) : mnL tx Ln p (n + 1) 0 0 = none := by
  show (if dgT tx Ln (p + 0) then _ else none) = _
  rw [if_neg (show ¬ dgT tx Ln (p + 0) from h)]
theorem mnR_s {F : Nat → Int32} {g v : Int32} {D m : Nat} (hm : m < 3) (hF : F 310 = nI m) (hv : ¬ g < v) : mnR F g D (some v) = (nI D, upd (upd F (300 + m) v) 310 (nI (m + 1))) := by
  show (if g < v then (0, F) else if F 310 < 3 then (nI D, upd (upd F (300 + nt (F 310)) v) 310 (F 310 + 1)) else (0, F)) = _
  rw [if_neg hv, hF, if_pos (show nI m < 3 from nI_lt (a := m) (b := 3) hm (by decide)), ntn (by omega), nI_succ]
theorem mnR_f {F : Nat → Int32} {g v : Int32} {D : Nat} (hv : g < v) : mnR F g D (some v) = (0, F) := by
  show (if g < v then (0, F) else _) = _
  rw [if_pos hv]
section PA
variable {tx : Nat → Int32} {Ln a e : Nat}
/-- one argument -/
theorem hf_arg {F : Nat → Int32} {rest : List Nat} {p m : Nat} {s : Int32} (H : Smc tx Ln a e) (hap : a ≤ p) (hp : p ≤ e) (hs : s = 0 ∨ s = 1 ∨ s = 2) (hm : m < 3) (hF : F 310 = nI m) : ((argT tx Ln p s).1 < 0 ∧ (hfL tx Ln e (srt s ++ rest) p F).1 = none) ∨ (¬ (argT tx Ln p s).1 < 0 ∧ p ≤ (argT tx Ln p s).2 ∧ (argT tx Ln p s).2 ≤ e ∧ tx p = 32 ∧ hfL tx Ln e (srt s ++ rest) p F = hfL tx Ln e rest (argT tx Ln p s).2 (upd (upd F (300 + m) (argT tx Ln p s).1) 310 (nI (m + 1)))) := by
  obtain ⟨H1, H2, H3, H4⟩ := H
  have hs0 : ¬ s < 0 := by rcases hs with rfl | rfl | rfl <;> decide
  have es : srt s ++ rest = 32 :: (if s = 0 then 84 else if s = 1 then 79 else 78) :: rest := by unfold srt; rw [if_neg hs0]; rfl
  have l32 : msF tx Ln e (nI 32) p F = if p < e ∧ tx p = nI 32 then (1, F) else (0, F) := ms_lit H2 ⟨by decide, by decide, by decide, by decide⟩
  have hfs : ∀ (c : Nat) (cs : List Nat) (q : Nat) (K : Nat → Int32), hfL tx Ln e (c :: cs) q K = if (msF tx Ln e (nI c) q K).1 = 0 then (none, (msF tx Ln e (nI c) q K).2) else hfL tx Ln e cs (q + nt (msF tx Ln e (nI c) q K).1) (msF tx Ln e (nI c) q K).2 := fun _ _ _ _ => rfl
  rw [es, hfs, l32]
  unfold argT
  rw [if_neg (show ¬ Ln ≤ p by omega)]
  by_cases t32 : tx p = 32
  · have hpe : p < e := by
      rcases Nat.lt_or_ge p e with z | z
      · exact z
      · exact absurd (show (32 : Int32) = 59 by rw [← t32, ← H3, show p = e by omega]) (by decide)
    rw [if_pos t32, if_pos (show p < e ∧ tx p = nI 32 from ⟨hpe, t32⟩)]
    dsimp only
    rw [if_neg (show ¬ (1 : Int32) = 0 by decide)]
    show (_ ∧ (hfL tx Ln e ((if s = 0 then 84 else if s = 1 then 79 else 78) :: rest) (p + 1) F).1 = none) ∨ (_ ∧ _ ∧ _ ∧ _ ∧ hfL tx Ln e ((if s = 0 then 84 else if s = 1 then 79 else 78) :: rest) (p + 1) F = _)
    rw [hfs]
    have edg : ¬ dgT tx Ln e := fun z => absurd z.2.2 (by rw [H3]; decide)
    by_cases dg : dgT tx Ln (p + 1)
    · have hpe1 : p + 1 < e := by
        rcases Nat.lt_or_ge (p + 1) e with z | z
        · exact z
        · exact absurd (show dgT tx Ln e by rw [show e = p + 1 by omega]; exact dg) edg
      obtain ⟨w, w1, w2, w3⟩ := dgv dg
      rw [if_pos dg, w3]
      rcases hs with rfl | rfl | rfl
      · have eM : msF tx Ln e (nI (if (0 : Int32) = 0 then 84 else if (0 : Int32) = 1 then 79 else 78)) (p + 1) F = mnR F 5 1 (some (nI w)) := by
          unfold msF mnW
          rw [if_pos rfl, if_pos hpe1, if_pos (show p + 1 < Ln by omega), if_neg (by decide), if_neg (by decide), if_pos (by decide), mn_1 dg, w3]
        have eA : ar2 tx Ln (p + 2) 0 (nI w) = (if 5 < nI w then -1 else nI w, p + 2) := by
          unfold ar2 arC
          rw [if_neg (show ¬ (0 : Int32) = 2 by decide), if_pos rfl, if_neg (show ¬ (0 : Int32) = 1 by decide)]
        rw [eM, eA]
        by_cases z : (5 : Int32) < nI w
        · rw [mnR_f z, if_pos z]
          dsimp only
          exact Or.inl ⟨by decide, by rw [if_pos rfl]⟩
        · rw [mnR_s hm hF z, if_neg z]
          dsimp only
          exact Or.inr ⟨nI_pos (by omega), by omega, by omega, t32, by rw [if_neg (show ¬ nI 1 = 0 by decide), ntn (show 1 < 2 ^ 31 by decide)]⟩
      · have eM : msF tx Ln e (nI (if (1 : Int32) = 0 then 84 else if (1 : Int32) = 1 then 79 else 78)) (p + 1) F = mnR F 7 1 (some (nI w)) := by
          unfold msF mnW
          rw [if_neg (show ¬ (1 : Int32) = 0 by decide), if_pos rfl, if_pos hpe1, if_pos (show p + 1 < Ln by omega), if_neg (by decide), if_pos (by decide), mn_1 dg, w3]
        have eA : ar2 tx Ln (p + 2) 1 (nI w) = (if nI w ≤ 7 then nI w else -1, p + 2) := by
          unfold ar2 arC
          rw [if_neg (by decide), if_neg (by decide), if_pos rfl]
        rw [eM, eA]
        by_cases z : (7 : Int32) < nI w
        · rw [mnR_f z, if_neg (Int32.not_le.mpr z)]
          dsimp only
          exact Or.inl ⟨by decide, by rw [if_pos rfl]⟩
        · rw [mnR_s hm hF z, if_pos (Int32.not_lt.mp z)]
          dsimp only
          exact Or.inr ⟨nI_pos (by omega), by omega, by omega, t32, by rw [if_neg (show ¬ nI 1 = 0 by decide), ntn (show 1 < 2 ^ 31 by decide)]⟩
      · have eS : (if (2 : Int32) = 0 then 84 else if (2 : Int32) = 1 then 79 else 78) = (78 : Nat) := rfl
        have n99 : ∀ u, u ≤ 99 → ¬ (99 : Int32) < nI u := fun u hu => nI_nlt (a := 99) (b := u) (by omega) (by decide)
        by_cases z : nI w ≤ 0
        · have w0 : w = 0 := by
            have := (nI_leI (a := w) (b := 0) (by omega) (by decide)).mp z
            omega
          subst w0
          have eM : msF tx Ln e (nI 78) (p + 1) F = mnR F 99 1 (some (nI 0)) := by
            unfold msF mnW
            rw [if_pos hpe1, if_pos (show p + 1 < Ln by omega), if_pos (by decide), if_pos (show tx (p + 1) = 48 from w2), mn_1 dg, w3]
          have eA : ar2 tx Ln (p + 2) 2 (nI 0) = (nI 0, p + 2) := by
            unfold ar2 arC
            rw [if_pos rfl, if_pos z, if_neg (by decide), if_neg (by decide)]
          rw [eS, eM, eA, mnR_s hm hF (n99 0 (by omega))]
          dsimp only
          exact Or.inr ⟨nI_pos (by omega), by omega, by omega, t32, by rw [if_neg (show ¬ nI 1 = 0 by decide), ntn (show 1 < 2 ^ 31 by decide)]⟩
        · have w0 : ¬ w = 0 := fun q => z (by rw [q]; decide)
          have n48 : ¬ tx (p + 1) = 48 := fun q => w0 (by
            have := nI_inj (a := 48 + w) (b := 48) (by omega) (by decide) (w2.symm.trans q)
            omega)
          by_cases dg2 : dgT tx Ln (p + 2)
          · obtain ⟨u, u1, u2, u3⟩ := dgv dg2
            have hpe2 : p + 2 < e := by
              rcases Nat.lt_or_ge (p + 2) e with z | z
              · exact z
              · exact absurd (show dgT tx Ln e by rw [show e = p + 2 by omega]; exact dg2) edg
            have val : 10 * nI w + tx (p + 2) - 48 = nI (10 * w + u) := by
              rw [u2, show (10 : Int32) = nI 10 from rfl, show nI 10 * nI w = nI (10 * w) from nJ_mul 10 w, nI_add, show (48 : Int32) = nI 48 from rfl, nJ_sub (by omega)]
              congr 1; omega
            have eM : msF tx Ln e (nI 78) (p + 1) F = mnR F 99 2 (some (nI (10 * w + u))) := by
              unfold msF mnW
              rw [if_pos hpe1, if_pos (show p + 1 < Ln by omega), if_pos (by decide), if_neg n48, if_pos (show dgT tx Ln (p + 1 + 1) from dg2), mn_2 dg dg2, w3]
              rw [show p + 1 + 1 = p + 2 from rfl, val]
            have eA : ar2 tx Ln (p + 2) 2 (nI w) = (nI (10 * w + u), p + 3) := by
              unfold ar2 arC
              rw [if_pos rfl, if_neg z, if_pos dg2, if_neg (by decide), if_neg (by decide), val]
            rw [eS, eM, eA, mnR_s hm hF (n99 _ (by omega))]
            dsimp only
            exact Or.inr ⟨nI_pos (by omega), by omega, by omega, t32, by rw [if_neg (show ¬ nI 2 = 0 by decide), ntn (show 2 < 2 ^ 31 by decide)]⟩
          · have eM : msF tx Ln e (nI 78) (p + 1) F = mnR F 99 1 (some (nI w)) := by
              unfold msF mnW
              rw [if_pos hpe1, if_pos (show p + 1 < Ln by omega), if_pos (by decide), if_neg n48, if_neg (show ¬ dgT tx Ln (p + 1 + 1) from dg2), mn_1 dg, w3]
            have eA : ar2 tx Ln (p + 2) 2 (nI w) = (nI w, p + 2) := by
              unfold ar2 arC
              rw [if_pos rfl, if_neg z, if_neg dg2, if_neg (by decide), if_neg (by decide)]
            rw [eS, eM, eA, mnR_s hm hF (n99 w (by omega))]
            dsimp only
            exact Or.inr ⟨nI_pos (by omega), by omega, by omega, t32, by rw [if_neg (show ¬ nI 1 = 0 by decide), ntn (show 1 < 2 ^ 31 by decide)]⟩
    · rw [if_neg dg]
      refine Or.inl ⟨show (-1 : Int32) < 0 by decide, ?_⟩
      have eM : (msF tx Ln e (nI (if s = 0 then 84 else if s = 1 then 79 else 78)) (p + 1) F).1 = 0 := by
        by_cases hpe1 : p + 1 < e
        · have n48 : ¬ tx (p + 1) = 48 := fun q => dg ⟨by omega, by rw [q]; exact ⟨by decide, by decide⟩⟩
          unfold msF mnW
          rw [if_pos hpe1, if_pos (show p + 1 < Ln by omega)]
          rcases hs with rfl | rfl | rfl
          · rw [if_pos rfl, if_neg (by decide), if_neg (by decide), if_pos (by decide), mn_0 dg]; rfl
          · rw [if_neg (show ¬ (1 : Int32) = 0 by decide), if_pos rfl, if_neg (by decide), if_pos (by decide), mn_0 dg]; rfl
          · rw [if_neg (show ¬ (2 : Int32) = 0 by decide), if_neg (show ¬ (2 : Int32) = 1 by decide), if_pos (by decide), if_neg n48, mn_0 (n := 1) dg, mn_0 (n := 0) dg]
            split <;> rfl
        · unfold msF; rw [if_neg hpe1]
      rw [if_pos eM]
  · rw [if_neg t32, if_neg (fun z : p < e ∧ tx p = nI 32 => t32 z.2)]
    dsimp only
    exact Or.inl ⟨by decide, by rw [if_pos rfl]⟩
end PA
