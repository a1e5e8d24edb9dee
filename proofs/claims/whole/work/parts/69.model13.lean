def opd (x : Int32) : Int64 := if x = 0 then 187507998720 else if x = 1 then 197891457024 else if x = 2 then 59099447296 else if x = 3 then 662748311552 else if x = 4 then 662748311552 else if x = 5 then 324946971312 else if x = 6 then 147270402048 else if x = 7 then 674362949632 else if x = 8 then 276597571584 else 696970641408
set_option maxHeartbeats 2000000 in
theorem cm_operationWord {G : GG} {M : Mem} {d : Nat} {x : Int32}  (hZ : GSJ G) : Ct G d yX12_operationWord iX12_operationWord [.int x] M 0 0 (some (.long (opd x))) M := by
  refine Ct.of 0 (by decide) rfl (by decide) (Nat.le_of_ble_eq_true rfl) ?_
  show WP _ _ _ _ _ _ _ 0 [some (.int x)] [] _ 0 0
  refine wp_ild0 dX12_operationWord_0 ?_
  by_cases s1_0 : x = 0
  · refine wp_tableIn (off := 51) (tgt := 52) dX12_operationWord_1 (by rw [s1_0]; decide) (by rw [s1_0]; decide) (by rw [s1_0]; rfl) (by decide) ?_
    refine wp_gets dX12_operationWord_52 hZ.ENTER_WORD sX12_238 ?_
    exact wp_lret dX12_operationWord_55 rfl (Nat.le_refl _) (Nat.le_refl _) (by first | with_reducible rfl | (simp only [opd, if_pos s1_0]; done) | (simp only [opd, if_pos s1_0]; rfl) | rfl) (by first | with_reducible rfl | (simp only [opd, if_pos s1_0]; done) | (simp only [opd, if_pos s1_0]; rfl) | rfl)
  · by_cases s1_1 : x = 1
    · refine wp_tableIn (off := 55) (tgt := 56) dX12_operationWord_1 (by rw [s1_1]; decide) (by rw [s1_1]; decide) (by rw [s1_1]; rfl) (by decide) ?_
      refine wp_gets dX12_operationWord_56 hZ.EXIT_WORD sX12_241 ?_
      exact wp_lret dX12_operationWord_59 rfl (Nat.le_refl _) (Nat.le_refl _) (by first | with_reducible rfl | (simp only [opd, if_neg s1_0, if_pos s1_1]; done) | (simp only [opd, if_neg s1_0, if_pos s1_1]; rfl) | rfl) (by first | with_reducible rfl | (simp only [opd, if_neg s1_0, if_pos s1_1]; done) | (simp only [opd, if_neg s1_0, if_pos s1_1]; rfl) | rfl)
    · by_cases s1_2 : x = 2
      · refine wp_tableIn (off := 59) (tgt := 60) dX12_operationWord_1 (by rw [s1_2]; decide) (by rw [s1_2]; decide) (by rw [s1_2]; rfl) (by decide) ?_
        refine wp_gets dX12_operationWord_60 hZ.AWAIT_WORD sX12_244 ?_
        exact wp_lret dX12_operationWord_63 rfl (Nat.le_refl _) (Nat.le_refl _) (by first | with_reducible rfl | (simp only [opd, if_neg s1_0, if_neg s1_1, if_pos s1_2]; done) | (simp only [opd, if_neg s1_0, if_neg s1_1, if_pos s1_2]; rfl) | rfl) (by first | with_reducible rfl | (simp only [opd, if_neg s1_0, if_neg s1_1, if_pos s1_2]; done) | (simp only [opd, if_neg s1_0, if_neg s1_1, if_pos s1_2]; rfl) | rfl)
      · by_cases s1_3 : x = 3
        · refine wp_tableIn (off := 63) (tgt := 64) dX12_operationWord_1 (by rw [s1_3]; decide) (by rw [s1_3]; decide) (by rw [s1_3]; rfl) (by decide) ?_
          refine wp_gets dX12_operationWord_64 hZ.SIGNAL_WORD sX12_247 ?_
          exact wp_lret dX12_operationWord_67 rfl (Nat.le_refl _) (Nat.le_refl _) (by first | with_reducible rfl | (simp only [opd, if_neg s1_0, if_neg s1_1, if_neg s1_2, if_pos s1_3]; done) | (simp only [opd, if_neg s1_0, if_neg s1_1, if_neg s1_2, if_pos s1_3]; rfl) | rfl) (by first | with_reducible rfl | (simp only [opd, if_neg s1_0, if_neg s1_1, if_neg s1_2, if_pos s1_3]; done) | (simp only [opd, if_neg s1_0, if_neg s1_1, if_neg s1_2, if_pos s1_3]; rfl) | rfl)
        · by_cases s1_4 : x = 4
          · refine wp_tableIn (off := 63) (tgt := 64) dX12_operationWord_1 (by rw [s1_4]; decide) (by rw [s1_4]; decide) (by rw [s1_4]; rfl) (by decide) ?_
            refine wp_gets dX12_operationWord_64 hZ.SIGNAL_WORD sX12_247 ?_
            exact wp_lret dX12_operationWord_67 rfl (Nat.le_refl _) (Nat.le_refl _) (by first | with_reducible rfl | (simp only [opd, if_neg s1_0, if_neg s1_1, if_neg s1_2, if_neg s1_3, if_pos s1_4]; done) | (simp only [opd, if_neg s1_0, if_neg s1_1, if_neg s1_2, if_neg s1_3, if_pos s1_4]; rfl) | rfl) (by first | with_reducible rfl | (simp only [opd, if_neg s1_0, if_neg s1_1, if_neg s1_2, if_neg s1_3, if_pos s1_4]; done) | (simp only [opd, if_neg s1_0, if_neg s1_1, if_neg s1_2, if_neg s1_3, if_pos s1_4]; rfl) | rfl)
          · by_cases s1_5 : x = 5
            · refine wp_tableIn (off := 67) (tgt := 68) dX12_operationWord_1 (by rw [s1_5]; decide) (by rw [s1_5]; decide) (by rw [s1_5]; rfl) (by decide) ?_
              refine wp_gets dX12_operationWord_68 hZ.INTER_WORD sX12_250 ?_
              exact wp_lret dX12_operationWord_71 rfl (Nat.le_refl _) (Nat.le_refl _) (by first | with_reducible rfl | (simp only [opd, if_neg s1_0, if_neg s1_1, if_neg s1_2, if_neg s1_3, if_neg s1_4, if_pos s1_5]; done) | (simp only [opd, if_neg s1_0, if_neg s1_1, if_neg s1_2, if_neg s1_3, if_neg s1_4, if_pos s1_5]; rfl) | rfl) (by first | with_reducible rfl | (simp only [opd, if_neg s1_0, if_neg s1_1, if_neg s1_2, if_neg s1_3, if_neg s1_4, if_pos s1_5]; done) | (simp only [opd, if_neg s1_0, if_neg s1_1, if_neg s1_2, if_neg s1_3, if_neg s1_4, if_pos s1_5]; rfl) | rfl)
            · by_cases s1_6 : x = 6
              · refine wp_tableIn (off := 71) (tgt := 72) dX12_operationWord_1 (by rw [s1_6]; decide) (by rw [s1_6]; decide) (by rw [s1_6]; rfl) (by decide) ?_
                refine wp_gets dX12_operationWord_72 hZ.DIE_WORD sX12_253 ?_
                exact wp_lret dX12_operationWord_75 rfl (Nat.le_refl _) (Nat.le_refl _) (by first | with_reducible rfl | (simp only [opd, if_neg s1_0, if_neg s1_1, if_neg s1_2, if_neg s1_3, if_neg s1_4, if_neg s1_5, if_pos s1_6]; done) | (simp only [opd, if_neg s1_0, if_neg s1_1, if_neg s1_2, if_neg s1_3, if_neg s1_4, if_neg s1_5, if_pos s1_6]; rfl) | rfl) (by first | with_reducible rfl | (simp only [opd, if_neg s1_0, if_neg s1_1, if_neg s1_2, if_neg s1_3, if_neg s1_4, if_neg s1_5, if_pos s1_6]; done) | (simp only [opd, if_neg s1_0, if_neg s1_1, if_neg s1_2, if_neg s1_3, if_neg s1_4, if_neg s1_5, if_pos s1_6]; rfl) | rfl)
              · by_cases s1_7 : x = 7
                · refine wp_tableIn (off := 75) (tgt := 76) dX12_operationWord_1 (by rw [s1_7]; decide) (by rw [s1_7]; decide) (by rw [s1_7]; rfl) (by decide) ?_
                  refine wp_gets dX12_operationWord_76 hZ.START_WORD sX12_256 ?_
                  exact wp_lret dX12_operationWord_79 rfl (Nat.le_refl _) (Nat.le_refl _) (by first | with_reducible rfl | (simp only [opd, if_neg s1_0, if_neg s1_1, if_neg s1_2, if_neg s1_3, if_neg s1_4, if_neg s1_5, if_neg s1_6, if_pos s1_7]; done) | (simp only [opd, if_neg s1_0, if_neg s1_1, if_neg s1_2, if_neg s1_3, if_neg s1_4, if_neg s1_5, if_neg s1_6, if_pos s1_7]; rfl) | rfl) (by first | with_reducible rfl | (simp only [opd, if_neg s1_0, if_neg s1_1, if_neg s1_2, if_neg s1_3, if_neg s1_4, if_neg s1_5, if_neg s1_6, if_pos s1_7]; done) | (simp only [opd, if_neg s1_0, if_neg s1_1, if_neg s1_2, if_neg s1_3, if_neg s1_4, if_neg s1_5, if_neg s1_6, if_pos s1_7]; rfl) | rfl)
                · by_cases s1_8 : x = 8
                  · refine wp_tableIn (off := 79) (tgt := 80) dX12_operationWord_1 (by rw [s1_8]; decide) (by rw [s1_8]; decide) (by rw [s1_8]; rfl) (by decide) ?_
                    refine wp_gets dX12_operationWord_80 hZ.HASH_WORD sX12_259 ?_
                    exact wp_lret dX12_operationWord_83 rfl (Nat.le_refl _) (Nat.le_refl _) (by first | with_reducible rfl | (simp only [opd, if_neg s1_0, if_neg s1_1, if_neg s1_2, if_neg s1_3, if_neg s1_4, if_neg s1_5, if_neg s1_6, if_neg s1_7, if_pos s1_8]; done) | (simp only [opd, if_neg s1_0, if_neg s1_1, if_neg s1_2, if_neg s1_3, if_neg s1_4, if_neg s1_5, if_neg s1_6, if_neg s1_7, if_pos s1_8]; rfl) | rfl) (by first | with_reducible rfl | (simp only [opd, if_neg s1_0, if_neg s1_1, if_neg s1_2, if_neg s1_3, if_neg s1_4, if_neg s1_5, if_neg s1_6, if_neg s1_7, if_pos s1_8]; done) | (simp only [opd, if_neg s1_0, if_neg s1_1, if_neg s1_2, if_neg s1_3, if_neg s1_4, if_neg s1_5, if_neg s1_6, if_neg s1_7, if_pos s1_8]; rfl) | rfl)
                  · refine wp_tableOut (tgt := 84) dX12_operationWord_1 (sw9 s1_0 s1_1 s1_2 s1_3 s1_4 s1_5 s1_6 s1_7 s1_8) (by decide) ?_
                    refine wp_gets dX12_operationWord_84 hZ.TICK_WORD sX12_262 ?_
                    exact wp_lret dX12_operationWord_87 rfl (Nat.le_refl _) (Nat.le_refl _) (by first | with_reducible rfl | (simp only [opd, if_neg s1_0, if_neg s1_1, if_neg s1_2, if_neg s1_3, if_neg s1_4, if_neg s1_5, if_neg s1_6, if_neg s1_7, if_neg s1_8]; done) | (simp only [opd, if_neg s1_0, if_neg s1_1, if_neg s1_2, if_neg s1_3, if_neg s1_4, if_neg s1_5, if_neg s1_6, if_neg s1_7, if_neg s1_8]; rfl) | rfl) (by first | with_reducible rfl | (simp only [opd, if_neg s1_0, if_neg s1_1, if_neg s1_2, if_neg s1_3, if_neg s1_4, if_neg s1_5, if_neg s1_6, if_neg s1_7, if_neg s1_8]; done) | (simp only [opd, if_neg s1_0, if_neg s1_1, if_neg s1_2, if_neg s1_3, if_neg s1_4, if_neg s1_5, if_neg s1_6, if_neg s1_7, if_neg s1_8]; rfl) | rfl)

def opw1 (x : Int32) : List Int32 := if x = 4 then (wrd (opd x) ++ [65] ++ [108]) ++ [108] else wrd (opd x)
def opw (x : Int32) : List Int32 := if x = 5 then opw1 x ++ [116] else opw1 x
/-- the text: its letters and its length -/
def TOK (F : Nat → Int32) (tx : Nat → Int32) (Ln : Nat) : Prop := F 9001 = nI Ln ∧ Ln ≤ 200 ∧ ∀ k, k < 200 → F (5000 + k) = tx k
def pl (tx : Nat → Int32) : Nat → List Int32 → Bool
  | _, [] => true
  | a, c :: l => decide (tx a = c) && pl tx (a + 1) l
abbrev psT (tx : Nat → Int32) (Ln a : Nat) (l : List Int32) : Prop := (a + l.length < Ln ∧ tx (a + l.length) = 32) ∧ pl tx a l = true
/-- at once all but the made letters and the places of reading -/
def SmT (F F' : Nat → Int32) : Prop := ∀ k, (k < 6000 ∨ (7400 ≤ k ∧ k < 9002) ∨ 9005 ≤ k) → F' k = F k
theorem SmT.rf {F : Nat → Int32} : SmT F F := fun _ _ => rfl
theorem SmT.tr {F F1 F2 : Nat → Int32} (h : SmT F F1) (h' : SmT F1 F2) : SmT F F2 := fun k hk => (h' k hk).trans (h k hk)
theorem SmT.up {F F1 : Nat → Int32} {k : Nat} {x : Int32} (h : SmT F F1) (hk : (6000 ≤ k ∧ k < 7400) ∨ (9002 ≤ k ∧ k < 9005)) : SmT F (upd F1 k x) := fun q hq => by rw [upd_ne (by omega)]; exact h q hq
theorem SmT.t {F F1 : Nat → Int32} {tx : Nat → Int32} {Ln : Nat} (h : SmT F F1) (ht : TOK F tx Ln) : TOK F1 tx Ln := ⟨(h 9001 (by omega)).trans ht.1, ht.2.1, fun k hk => (h _ (by omega)).trans (ht.2.2 k hk)⟩
def psE (F : Nat → Int32) (q : Prop) [Decidable q] : Nat → Int32 := upd F 9004 (F 9004 + (if q then F 9002 else 0))
set_option maxHeartbeats 2000000 in
theorem tm_ps134 {G : GG} {Y : Nat} {F : Nat → Int32} {E0 : Nat → va_E} {L : List Nat} {sz d : Nat} {q : Prop} [Decidable q] (hG : GOK G) (hM : rIn (mR G Y) L)  (hdp : 0 ≤ d) : WP G iX12_passes d 0 0 (some (.int (bI q))) (Mm G Y (psE F q) E0 L sz) 134 [some (.ref Y), none, some (.int (bI q)), none] [] (Mm G Y F E0 L sz) 0 0 := by
  refine wp_ald0 dX12_passes_134 ?_
  refine wp_dup dX12_passes_135 rfl ?_
  refine gm_at dX12_passes_136 fX12_268 hM ?_
  refine wp_ild2 dX12_passes_139 ?_
  refine wp_ifB_eq (tgt := 150) dX12_passes_140 (by decide) (fun c_140 => ?_) (fun c_140 => ?_)
  · refine wp_iconst (v := 0) dX12_passes_150 (by decide) ?_
    refine wp_iadd dX12_passes_151 ?_
    refine pm_at dX12_passes_152 pX12_268 hM ?_
    refine wp_ild2 dX12_passes_155 ?_
    exact wp_zret dX12_passes_156 rfl (bI_nar _) (Nat.le_refl _) (Nat.le_refl _) (by first | with_reducible rfl | (simp only [psE, if_neg c_140]; done) | (simp only [psE, if_neg c_140]; rfl) | rfl) (by first | with_reducible rfl | (simp only [psE, if_neg c_140]; done) | (simp only [psE, if_neg c_140]; rfl) | rfl)
  · refine wp_ald0 dX12_passes_143 ?_
    refine gm_many dX12_passes_144 fX12_130 hM ?_
    refine wp_goto (tgt := 151) dX12_passes_147 (by decide) ?_
    refine wp_iadd dX12_passes_151 ?_
    refine pm_at dX12_passes_152 pX12_268 hM ?_
    refine wp_ild2 dX12_passes_155 ?_
    exact wp_zret dX12_passes_156 rfl (bI_nar _) (Nat.le_refl _) (Nat.le_refl _) (by first | with_reducible rfl | (simp only [psE, if_pos c_140]; done) | (simp only [psE, if_pos c_140]; rfl) | rfl) (by first | with_reducible rfl | (simp only [psE, if_pos c_140]; done) | (simp only [psE, if_pos c_140]; rfl) | rfl)
theorem pl_step {tx : Nat → Int32} {a i : Nat} {l : List Int32} {q : Prop} (h : i < l.length) (e : tx (a + i) = l.getD i 0) (hq : q) : (q ∧ pl tx (a + i) (l.drop i) = true) ↔ (True ∧ pl tx (a + (i + 1)) (l.drop (i + 1)) = true) := by
  rw [List.drop_eq_getElem_cons h]
  rw [List.getD_eq_getElem?_getD, List.getElem?_eq_getElem h] at e
  simp only [pl, show tx (a + i) = l[i] from e, decide_true, Bool.true_and, hq, true_and]
  exact Iff.rfl
theorem pl_stop {tx : Nat → Int32} {a i : Nat} {l : List Int32} {q : Prop} (h : i < l.length) (e : ¬ tx (a + i) = l.getD i 0) : (q ∧ pl tx (a + i) (l.drop i) = true) ↔ (False ∧ pl tx (a + (i + 1)) (l.drop (i + 1)) = true) := by
  rw [List.drop_eq_getElem_cons h]
  rw [List.getD_eq_getElem?_getD, List.getElem?_eq_getElem h] at e
  have e : ¬ tx (a + i) = l[i] := e
  simp [pl, e]
set_option maxHeartbeats 2000000 in
theorem lm_ps {G : GG} {Y : Nat} {F : Nat → Int32} {E0 : Nat → va_E} {L : List Nat} {sz d : Nat} {tx : Nat → Int32} {Ln a : Nat} {l : List Int32} {res : Option Value} {M' : Mem} (hG : GOK G) (hM : rIn (mR G Y) L) (ht : TOK F tx Ln) (ha : F 9004 = nI a) (hl : l.length ≤ 20) (hm : pOK F l.length) (hmade : ∀ i, i < l.length → F (6000 + i) = l.getD i 0) (n : Nat) : ∀ (i : Nat) (q : Prop) [Decidable q], i + n = l.length → (q → a + l.length ≤ 200) → WP G iX12_passes d 0 0 res M' 134 [some (.ref Y), none, some (.int (bI (q ∧ pl tx (a + i) (l.drop i) = true))), none] [] (Mm G Y F E0 L sz) 0 0 → WP G iX12_passes d 0 0 res M' 90 [some (.ref Y), none, some (.int (bI q)), some (.int (nI i))] [] (Mm G Y F E0 L sz) 0 0 := by
  have hmu := hm
  unfold pOK at hmu
  induction n with
  | zero =>
    intro i q _ hi hq kk
    refine wp_ild3 dX12_passes_90 ?_
    refine wp_ald0 dX12_passes_91 ?_
    refine gm_many dX12_passes_92 fX12_130 hM ?_
    rw [hm]
    refine wp_icmp_ge (tgt := 134) dX12_passes_95 (by decide) (fun c_95 => ?_) (fun c_95 => absurd (nI_le (a := l.length) (b := i) (by omega) (by omega)) c_95)
    rw [bI_congr (show q ∧ pl tx (a + i) (l.drop i) = true ↔ q from ⟨fun x => x.1, fun x => ⟨x, by rw [List.drop_of_length_le (by omega)]; rfl⟩⟩)] at kk
    exact WP.fg (by simp [lcle]) kk
  | succ n ih =>
    intro i q _ hi hq kk
    refine wp_ild3 dX12_passes_90 ?_
    refine wp_ald0 dX12_passes_91 ?_
    refine gm_many dX12_passes_92 fX12_130 hM ?_
    rw [hm]
    refine wp_icmp_ge (tgt := 134) dX12_passes_95 (by decide) (fun c_95 => absurd c_95 (nI_ge (a := i) (b := l.length) (by omega) (by omega))) (fun c_95 => ?_)
    have hil : i < l.length := by omega
    refine wp_ild2 dX12_passes_98 ?_
    refine wp_ifB_eq (tgt := 134) dX12_passes_99 (by decide) (fun c_99 => ?_) (fun c_99 => ?_)
    · rw [bI_congr (show q ∧ pl tx (a + i) (l.drop i) = true ↔ q from ⟨fun x => x.1, fun x => absurd x c_99⟩)] at kk
      exact WP.fg (by simp [lcle]) kk
    · have hal := hq c_99
      refine wp_ald0 dX12_passes_102 ?_
      refine gm_text dX12_passes_103 fX12_22 hM ?_
      refine wp_ald0 dX12_passes_106 ?_
      refine gm_at dX12_passes_107 fX12_268 hM ?_
      refine wp_ild3 dX12_passes_110 ?_
      refine wp_iaddN (a := a) (b := i) ha rfl dX12_passes_111 ?_
      refine rm_text (i' := (a + i)) dX12_passes_112 hG hM rfl (by first | assumption | omega) ?_
      refine wp_ald0 dX12_passes_113 ?_
      refine gm_made dX12_passes_114 fX12_25 hM ?_
      refine wp_ild3 dX12_passes_117 ?_
      refine rm_made (i' := i) dX12_passes_118 hG hM rfl (by first | assumption | omega) ?_
      refine wp_icmp_ne (tgt := 126) dX12_passes_119 (by decide) (fun c_119 => ?_) (fun c_119 => ?_)
      · refine wp_iconst (v := 0) dX12_passes_126 (by decide) ?_
        refine wp_ist2 dX12_passes_127 (by decide) rfl ?_
        refine wp_inc3 dX12_passes_128 (by decide) rfl ?_
        refine wp_goto (tgt := 90) dX12_passes_131 (by decide) ?_
        exact ih (i + 1) False (by omega) (fun x => x.elim) (by rw [bI_congr (pl_stop hil (fun e => c_119 (by rw [ht.2.2 (a + i) (by omega), hmade i hil]; exact e)))] at kk; exact kk)
      · refine wp_iconst (v := 1) dX12_passes_122 (by decide) ?_
        refine wp_goto (tgt := 127) dX12_passes_123 (by decide) ?_
        refine wp_ist2 dX12_passes_127 (by decide) rfl ?_
        refine wp_inc3 dX12_passes_128 (by decide) rfl ?_
        refine wp_goto (tgt := 90) dX12_passes_131 (by decide) ?_
        exact ih (i + 1) True (by omega) (fun _ => hq c_99) (by rw [bI_congr (pl_step hil (ht.2.2 (a + i) (by omega) ▸ hmade i hil ▸ c_119) c_99)] at kk; exact kk)
theorem psE_congr {F : Nat → Int32} {p q : Prop} [Decidable p] [Decidable q] (h : p ↔ q) : psE F p = psE F q := by
  unfold psE
  by_cases hp : p
  · rw [if_pos hp, if_pos (h.mp hp)]
  · rw [if_neg hp, if_neg (fun x => hp (h.mpr x))]
theorem ps_no {tx : Nat → Int32} {Ln a : Nat} {l : List Int32} (h : ¬ (a + l.length < Ln ∧ tx (a + l.length) = 32)) : (False ∧ pl tx (a + 0) (l.drop 0) = true) ↔ psT tx Ln a l := ⟨fun x => x.1.elim, fun x => absurd x.1 h⟩
theorem ps_yes {tx : Nat → Int32} {Ln a : Nat} {l : List Int32} (h : a + l.length < Ln ∧ tx (a + l.length) = 32) : (True ∧ pl tx (a + 0) (l.drop 0) = true) ↔ psT tx Ln a l := ⟨fun x => ⟨h, x.2⟩, fun x => ⟨trivial, x.2⟩⟩
set_option maxHeartbeats 2000000 in
theorem tm_ps47 {G : GG} {Y : Nat} {F : Nat → Int32} {E0 : Nat → va_E} {L : List Nat} {sz d : Nat} {tx : Nat → Int32} {Ln a : Nat} {l : List Int32} (hG : GOK G) (hM : rIn (mR G Y) L) (ht : TOK F tx Ln) (ha : F 9004 = nI a) (haL : a ≤ 200) (hl : l.length ≤ 20) (hm : pOK F l.length) (hmade : ∀ i, i < l.length → F (6000 + i) = l.getD i 0) (hdp : 0 ≤ d) : WP G iX12_passes d 0 0 (some (.int (bI (psT tx Ln a l)))) (Mm G Y (psE F (psT tx Ln a l)) E0 L sz) 47 [some (.ref Y), none, none, none] [] (Mm G Y F E0 L sz) 0 0 := by
  have hL := ht.2.1
  refine wp_ald0 dX12_passes_47 ?_
  refine gm_at dX12_passes_48 fX12_268 hM ?_
  refine wp_ald0 dX12_passes_51 ?_
  refine gm_many dX12_passes_52 fX12_130 hM ?_
  refine wp_iaddN (a := a) (b := l.length) ha hm dX12_passes_55 ?_
  refine wp_ald0 dX12_passes_56 ?_
  refine gm_length dX12_passes_57 fX12_235 hM ?_
  refine wp_icmp_ge (tgt := 86) dX12_passes_60 (by decide) (fun c_60 => ?_) (fun c_60 => ?_)
  · refine wp_iconst (v := 0) dX12_passes_86 (by decide) ?_
    refine wp_ist2 dX12_passes_87 (by decide) rfl ?_
    refine wp_iconst (v := 0) dX12_passes_88 (by decide) ?_
    refine wp_ist3 dX12_passes_89 (by decide) rfl ?_
    have b_60 : Ln ≤ a + l.length := (nI_leI (by omega) (by omega)).mp (ht.1 ▸ c_60)
    rw [← bI_congr (ps_no (fun x => absurd x.1 (Nat.not_lt.mpr b_60))), ← psE_congr (ps_no (fun x => absurd x.1 (Nat.not_lt.mpr b_60)))]
    exact WP.fg (by simp [lcle, bI, nI_0]) (lm_ps hG hM ht ha hl hm hmade l.length 0 False (by omega) (by first | exact fun x => x.elim | exact fun _ => (by omega)) (tm_ps134 hG hM (Nat.zero_le _)))
  · have b_60 : a + l.length < Ln := Nat.lt_of_not_le (fun q => c_60 (by rw [ht.1]; exact (nI_leI (by omega) (by omega)).mpr q))
    refine wp_ald0 dX12_passes_63 ?_
    refine gm_text dX12_passes_64 fX12_22 hM ?_
    refine wp_ald0 dX12_passes_67 ?_
    refine gm_at dX12_passes_68 fX12_268 hM ?_
    refine wp_ald0 dX12_passes_71 ?_
    refine gm_many dX12_passes_72 fX12_130 hM ?_
    refine wp_iaddN (a := a) (b := l.length) ha hm dX12_passes_75 ?_
    refine rm_text (i' := (a + l.length)) dX12_passes_76 hG hM rfl (by first | assumption | omega) ?_
    rw [ht.2.2 _ (by omega)]
    refine wp_bipush (v := 32) dX12_passes_77 (by decide) ?_
    refine wp_icmp_ne (tgt := 86) dX12_passes_79 (by decide) (fun c_79 => ?_) (fun c_79 => ?_)
    · refine wp_iconst (v := 0) dX12_passes_86 (by decide) ?_
      refine wp_ist2 dX12_passes_87 (by decide) rfl ?_
      refine wp_iconst (v := 0) dX12_passes_88 (by decide) ?_
      refine wp_ist3 dX12_passes_89 (by decide) rfl ?_
      rw [← bI_congr (ps_no (fun x => c_79 x.2)), ← psE_congr (ps_no (fun x => c_79 x.2))]
      exact WP.fg (by simp [lcle, bI, nI_0]) (lm_ps hG hM ht ha hl hm hmade l.length 0 False (by omega) (by first | exact fun x => x.elim | exact fun _ => (by omega)) (tm_ps134 hG hM (Nat.zero_le _)))
    · refine wp_iconst (v := 1) dX12_passes_82 (by decide) ?_
      refine wp_goto (tgt := 87) dX12_passes_83 (by decide) ?_
      refine wp_ist2 dX12_passes_87 (by decide) rfl ?_
      refine wp_iconst (v := 0) dX12_passes_88 (by decide) ?_
      refine wp_ist3 dX12_passes_89 (by decide) rfl ?_
      rw [← bI_congr (ps_yes ⟨b_60, c_79⟩), ← psE_congr (ps_yes ⟨b_60, c_79⟩)]
      exact WP.fg (by simp [lcle, bI, nI_0]) (lm_ps hG hM ht ha hl hm hmade l.length 0 True (by omega) (by first | exact fun x => x.elim | exact fun _ => (by omega)) (tm_ps134 hG hM (Nat.zero_le _)))
theorem made_at {F : Nat → Int32} {l : List Int32} (hm : pOK F 0) (hl : l.length ≤ 200) : ∀ i, i < l.length → putL F l (6000 + i) = l.getD i 0 := fun i hi => by
  rw [putL_at l F 0 i hm (by omega) (by omega), if_neg (by omega), Nat.sub_zero, List.getD_eq_getElem?_getD, List.getElem?_eq_getElem hi]; rfl
theorem SmT.putL {F : Nat → Int32} {l : List Int32} {m : Nat} (hm : pOK F m) (hl : m + l.length ≤ 200) : SmT F (putL F l) := fun k hk => putL_lo (by omega) l F m hm hl
theorem opw1_len (x : Int32) : (opw1 x).length ≤ 11 := by
  have := wrd_len (opd x)
  unfold opw1
  split
  · simp only [List.length_append, List.length_cons, List.length_nil]; omega
  · omega
theorem opw_len (x : Int32) : (opw x).length ≤ 12 := by
  have := opw1_len x
  unfold opw
  split
  · simp only [List.length_append, List.length_cons, List.length_nil]; omega
  · omega
theorem pOK_putL {F : Nat → Int32} {l : List Int32} (hm : pOK F 0) (hl : l.length ≤ 200) : pOK (putL F l) l.length := by
  have := putL_many l F 0 hm (by omega)
  rwa [Nat.zero_add] at this
set_option maxHeartbeats 2000000 in
theorem tm_ps36 {G : GG} {Y : Nat} {F : Nat → Int32} {E0 : Nat → va_E} {L : List Nat} {sz d : Nat} {F0 : Nat → Int32} {tx : Nat → Int32} {Ln a j : Nat} (hG : GOK G) (hM : rIn (mR G Y) L) (hF : F = putL F0 (opw1 (nI j))) (ht : TOK F0 tx Ln) (ha : F0 9004 = nI a) (haL : a ≤ 200) (hj : j < 10) (hm0 : pOK F0 0) (hdp : 1 ≤ d) : WP G iX12_passes d 0 0 (some (.int (bI (psT tx Ln a (opw (nI j)))))) (Mm G Y (psE (putL F0 (opw (nI j))) (psT tx Ln a (opw (nI j)))) E0 L sz) 36 [some (.ref Y), some (.int (nI j)), none, none] [] (Mm G Y F E0 L sz) 0 0 := by
  have h11 := opw1_len (nI j)
  have h12 := opw_len (nI j)
  have hmF : pOK F (opw1 (nI j)).length := by rw [hF]; exact pOK_putL hm0 (by omega)
  refine wp_ild1 dX12_passes_36 ?_
  refine wp_iconst (v := 5) dX12_passes_37 (by decide) ?_
  refine wp_icmp_ne (tgt := 47) dX12_passes_38 (by decide) (fun c_38 => ?_) (fun c_38 => ?_)
  · subst hF
    rw [show putL F0 (opw1 (nI j)) = putL F0 (opw (nI j)) by simp only [opw, if_neg c_38]]
    exact WP.fg (by simp [lcle]) (tm_ps47 hG hM ((SmT.putL hm0 (by omega)).t ht) ((putL_lo (by omega) _ F0 0 hm0 (by omega)).trans ha) haL (by omega) (pOK_putL hm0 (by omega)) (made_at hm0 (by omega)) (Nat.zero_le _))
  · refine wp_ald0 dX12_passes_41 ?_
    refine wp_bipush (v := 116) dX12_passes_42 (by decide) ?_
    refine mv_1 dX12_passes_44 kX12_136 (cm_sign (d := d - 1) hG hM hmF (by omega)) hM rfl (by omega) (Nat.le_of_ble_eq_true rfl) (Nat.le_refl _) (Nat.le_refl _) ?_
    subst hF
    rw [show sgM (putL F0 (opw1 (nI j))) 116 = putL F0 (opw (nI j)) by simp only [opw, if_pos c_38]; rw [putL_app]; rfl]
    exact WP.fg (by simp [lcle]) (tm_ps47 hG hM ((SmT.putL hm0 (by omega)).t ht) ((putL_lo (by omega) _ F0 0 hm0 (by omega)).trans ha) haL (by omega) (pOK_putL hm0 (by omega)) (made_at hm0 (by omega)) (Nat.zero_le _))
set_option maxHeartbeats 2000000 in
theorem tm_ps5 {G : GG} {Y : Nat} {F : Nat → Int32} {E0 : Nat → va_E} {L : List Nat} {sz d : Nat} {tx : Nat → Int32} {Ln a j : Nat} (hG : GOK G) (hM : rIn (mR G Y) L) (hZ : GSJ G) (ht : TOK F tx Ln) (ha : F 9004 = nI a) (haL : a ≤ 200) (hj : j < 10) (hm : pOK F 0) (hdp : 2 ≤ d) : WP G iX12_passes d 0 0 (some (.int (bI (psT tx Ln a (opw (nI j)))))) (Mm G Y (psE (putL F (opw (nI j))) (psT tx Ln a (opw (nI j)))) E0 L sz) 5 [some (.ref Y), some (.int (nI j)), none, none] [] (Mm G Y F E0 L sz) 0 0 := by
  have w8 := wrd_len (opd (nI j))
  refine wp_ald0 dX12_passes_5 ?_
  refine wp_ild1 dX12_passes_6 ?_
  refine ci_1 dX12_passes_7 kX12_265 (cm_operationWord (d := d - 1) hZ) (by omega) (Nat.le_of_ble_eq_true rfl) (Nat.le_refl _) (Nat.le_refl _) ?_
  refine mv_1 dX12_passes_10 kX12_158 (cm_word (d := d - 1) hG hM hm (by first | omega | (simp only [List.length_append, List.length_cons, List.length_nil]; omega)) (by omega)) hM rfl (by omega) (Nat.le_of_ble_eq_true rfl) (Nat.le_refl _) (Nat.le_refl _) ?_
  refine wp_ild1 dX12_passes_13 ?_
  refine wp_iconst (v := 4) dX12_passes_14 (by decide) ?_
  refine wp_icmp_ne (tgt := 36) dX12_passes_15 (by decide) (fun c_15 => ?_) (fun c_15 => ?_)
  · rw [show putL F (wrd (opd (nI j))) = putL F (opw1 (nI j)) by simp only [opw1, if_neg c_15]]
    exact tm_ps36 hG hM rfl ht ha haL hj hm (by omega)
  · refine wp_ald0 dX12_passes_18 ?_
    refine wp_bipush (v := 65) dX12_passes_19 (by decide) ?_
    refine mv_1 dX12_passes_21 kX12_136 (cm_sign (d := d - 1) hG hM (putL_many (wrd (opd (nI j))) F 0 hm (by first | omega | (simp only [List.length_append, List.length_cons, List.length_nil]; omega))) (by first | omega | (simp only [List.length_append, List.length_cons, List.length_nil]; omega))) hM rfl (by omega) (Nat.le_of_ble_eq_true rfl) (Nat.le_refl _) (Nat.le_refl _) ?_
    rw [show sgM (putL F (wrd (opd (nI j)))) 65 = putL (putL F (wrd (opd (nI j)))) [65] from rfl]
    rw [← putL_app]
    refine wp_ald0 dX12_passes_24 ?_
    refine wp_bipush (v := 108) dX12_passes_25 (by decide) ?_
    refine mv_1 dX12_passes_27 kX12_136 (cm_sign (d := d - 1) hG hM (putL_many ((wrd (opd (nI j))) ++ [65]) F 0 hm (by first | omega | (simp only [List.length_append, List.length_cons, List.length_nil]; omega))) (by first | omega | (simp only [List.length_append, List.length_cons, List.length_nil]; omega))) hM rfl (by omega) (Nat.le_of_ble_eq_true rfl) (Nat.le_refl _) (Nat.le_refl _) ?_
    rw [show sgM (putL F ((wrd (opd (nI j))) ++ [65])) 108 = putL (putL F ((wrd (opd (nI j))) ++ [65])) [108] from rfl]
    rw [← putL_app]
    refine wp_ald0 dX12_passes_30 ?_
    refine wp_bipush (v := 108) dX12_passes_31 (by decide) ?_
    refine mv_1 dX12_passes_33 kX12_136 (cm_sign (d := d - 1) hG hM (putL_many (((wrd (opd (nI j))) ++ [65]) ++ [108]) F 0 hm (by first | omega | (simp only [List.length_append, List.length_cons, List.length_nil]; omega))) (by first | omega | (simp only [List.length_append, List.length_cons, List.length_nil]; omega))) hM rfl (by omega) (Nat.le_of_ble_eq_true rfl) (Nat.le_refl _) (Nat.le_refl _) ?_
    rw [show sgM (putL F (((wrd (opd (nI j))) ++ [65]) ++ [108])) 108 = putL (putL F (((wrd (opd (nI j))) ++ [65]) ++ [108])) [108] from rfl]
    rw [← putL_app]
    rw [show putL F ((((wrd (opd (nI j))) ++ [65]) ++ [108]) ++ [108]) = putL F (opw1 (nI j)) by simp only [opw1, if_pos c_15]]
    exact tm_ps36 hG hM rfl ht ha haL hj hm (by omega)
abbrev psS (F : Nat → Int32) (tx : Nat → Int32) (Ln a j : Nat) : Nat → Int32 := psE (putL (upd F 9002 0) (opw (nI j))) (psT tx Ln a (opw (nI j)))
set_option maxHeartbeats 2000000 in
theorem cm_passes {G : GG} {Y : Nat} {F : Nat → Int32} {E0 : Nat → va_E} {L : List Nat} {sz d : Nat} {tx : Nat → Int32} {Ln a j : Nat} (hG : GOK G) (hM : rIn (mR G Y) L) (hZ : GSJ G) (ht : TOK F tx Ln) (ha : F 9004 = nI a) (haL : a ≤ 200) (hj : j < 10) (hdp : 2 ≤ d) : Ct G d yX12_passes iX12_passes [.ref Y, .int (nI j)] (Mm G Y F E0 L sz) 0 0 (some (.int (bI (psT tx Ln a (opw (nI j)))))) (Mm G Y (psS F tx Ln a j) E0 L sz) := by
  refine Ct.of 2 (by decide) rfl (by decide) (Nat.le_of_ble_eq_true rfl) ?_
  show WP _ _ _ _ _ _ _ 0 [some (.ref Y), some (.int (nI j)), none, none] [] _ 0 0
  refine wp_ald0 dX12_passes_0 ?_
  refine wp_iconst (v := 0) dX12_passes_1 (by decide) ?_
  refine pm_many dX12_passes_2 pX12_130 hM ?_
  exact tm_ps5 hG hM hZ ((SmT.rf.up (by omega)).t ht) ((upd_ne (by omega)).trans ha) haL hj upd_eq hdp

theorem p00 {F : Nat → Int32} : pOK (upd F 9002 0) 0 := upd_eq
theorem psS_sm {F : Nat → Int32} {tx : Nat → Int32} {Ln a j : Nat} : SmT F (psS F tx Ln a j) := by
  have := opw_len (nI j)
  exact ((SmT.rf.up (by omega)).tr (SmT.putL p00 (by omega))).up (by omega)
theorem psS_it {F : Nat → Int32} {tx : Nat → Int32} {Ln a j k : Nat} (hk : (7000 ≤ k ∧ k ≠ 9002 ∧ k ≠ 9004)) : psS F tx Ln a j k = F k := by
  have := opw_len (nI j)
  show upd _ _ _ k = _
  rw [upd_ne (by omega), putL_lo (by omega) _ _ 0 p00 (by omega), upd_ne (by omega)]
theorem psS_at {F : Nat → Int32} {tx : Nat → Int32} {Ln a j : Nat} (ha : F 9004 = nI a) : psS F tx Ln a j 9004 = nI (if psT tx Ln a (opw (nI j)) then a + (opw (nI j)).length else a) := by
  have h12 := opw_len (nI j)
  show upd _ _ _ 9004 = _
  rw [upd_eq, putL_lo (by omega) _ _ 0 p00 (by omega), upd_ne (by omega), ha, pOK_putL p00 (by omega)]
  split
  · exact nI_add _ _
  · exact nI_add _ 0
abbrev dgT (tx : Nat → Int32) (Ln p : Nat) : Prop := p < Ln ∧ inP (tx p) 48 57
set_option maxHeartbeats 2000000 in
theorem cm_isDigit {G : GG} {Y : Nat} {F : Nat → Int32} {E0 : Nat → va_E} {L : List Nat} {sz d : Nat} {tx : Nat → Int32} {Ln p : Nat} (hG : GOK G) (hM : rIn (mR G Y) L) (ht : TOK F tx Ln) (hp : p < 2 ^ 31) (hdp : 1 ≤ d) : Ct G d yX12_isDigit iX12_isDigit [.ref Y, .int (nI p)] (Mm G Y F E0 L sz) 0 0 (some (.int (bI (dgT tx Ln p)))) (Mm G Y (F) E0 L sz) := by
  have hL := ht.2.1
  refine Ct.of 0 (by decide) rfl (by decide) (Nat.le_of_ble_eq_true rfl) ?_
  show WP _ _ _ _ _ _ _ 0 [some (.ref Y), some (.int (nI p))] [] _ 0 0
  refine wp_ild1 dX12_isDigit_0 ?_
  refine wp_ald0 dX12_isDigit_1 ?_
  refine gm_length dX12_isDigit_2 fX12_235 hM ?_
  refine wp_icmp_ge (tgt := 28) dX12_isDigit_5 (by decide) (fun c_5 => ?_) (fun c_5 => ?_)
  · have c_5 : ¬ p < Ln := Nat.not_lt.mpr ((nI_leI (by omega) (by omega)).mp (ht.1 ▸ c_5))
    refine wp_iconst (v := 0) dX12_isDigit_28 (by decide) ?_
    exact wp_zret dX12_isDigit_29 rfl rfl (Nat.le_refl _) (Nat.le_refl _) (by first | with_reducible rfl | (simp [bI, dgT, c_5]; done) | (simp_all [bI, dgT]; done)) (by first | with_reducible rfl | (simp [bI, dgT, c_5]; done) | (simp_all [bI, dgT]; done))
  · have c_5 : p < Ln := Nat.lt_of_not_le (fun q => c_5 (by rw [ht.1]; exact (nI_leI (by omega) (by omega)).mpr q))
    refine wp_ald0 dX12_isDigit_8 ?_
    refine gm_text dX12_isDigit_9 fX12_22 hM ?_
    refine wp_ild1 dX12_isDigit_12 ?_
    refine rm_text (i' := p) dX12_isDigit_13 hG hM rfl (by first | assumption | omega) ?_
    rw [ht.2.2 _ (by omega)]
    refine wp_bipush (v := 48) dX12_isDigit_14 (by decide) ?_
    refine wp_bipush (v := 57) dX12_isDigit_16 (by decide) ?_
    refine ci_3 dX12_isDigit_18 kX12_35 (cm_isIn (d := d - 1)) (by omega) (Nat.le_of_ble_eq_true rfl) (Nat.le_refl _) (Nat.le_refl _) ?_
    refine wp_ifB_eq (tgt := 28) dX12_isDigit_21 (by decide) (fun c_21 => ?_) (fun c_21 => ?_)
    · refine wp_iconst (v := 0) dX12_isDigit_28 (by decide) ?_
      exact wp_zret dX12_isDigit_29 rfl rfl (Nat.le_refl _) (Nat.le_refl _) (by first | with_reducible rfl | (simp [bI, dgT, c_5, c_21]; done) | (simp_all [bI, dgT]; done)) (by first | with_reducible rfl | (simp [bI, dgT, c_5, c_21]; done) | (simp_all [bI, dgT]; done))
    · refine wp_iconst (v := 1) dX12_isDigit_24 (by decide) ?_
      refine wp_goto (tgt := 29) dX12_isDigit_25 (by decide) ?_
      exact wp_zret dX12_isDigit_29 rfl rfl (Nat.le_refl _) (Nat.le_refl _) (by first | with_reducible rfl | (simp [bI, dgT, c_5, c_21]; done) | (simp_all [bI, dgT]; done)) (by first | with_reducible rfl | (simp [bI, dgT, c_5, c_21]; done) | (simp_all [bI, dgT]; done))

def soM (x k : Int32) : Int32 := if k = 0 then (if x = 8 then 1 else if x = 9 then 2 else 0) else if k = 1 then (if 4 < x then -1 else 1) else (if x = 2 then 2 else -1)
def arC (s v : Int32) : Int32 := if s = 0 then (if 5 < v then -1 else (if s = 1 then (if v ≤ 7 then v else -1) else v)) else (if s = 1 then (if v ≤ 7 then v else -1) else v)
def ar2 (tx : Nat → Int32) (Ln b : Nat) (s v : Int32) : Int32 × Nat := if s = 2 then (if v ≤ 0 then (arC s v, b) else if dgT tx Ln b then (arC s (10 * v + tx b - 48), b + 1) else (arC s v, b)) else (arC s v, b)
def argT (tx : Nat → Int32) (Ln a : Nat) (s : Int32) : Int32 × Nat := if Ln ≤ a then (-1, a) else if tx a = 32 then (if dgT tx Ln (a + 1) then ar2 tx Ln (a + 2) s (tx (a + 1) - 48) else (-1, a)) else (-1, a)
theorem upd_twice {f : Nat → Int32} {i : Nat} {x y : Int32} : upd (upd f i x) i y = upd f i y := by
  funext k
  by_cases h : k = i
  · subst h; rw [upd_eq, upd_eq]
  · rw [upd_ne h, upd_ne h, upd_ne h]
set_option maxHeartbeats 2000000 in
theorem cm_sortOf {G : GG} {M : Mem} {d : Nat} {x k : Int32}   : Ct G d yX12_sortOf iX12_sortOf [.int x, .int k] M 0 0 (some (.int (soM x k))) M := by
  refine Ct.of 0 (by decide) rfl (by decide) (Nat.le_of_ble_eq_true rfl) ?_
  show WP _ _ _ _ _ _ _ 0 [some (.int x), some (.int k)] [] _ 0 0
  refine wp_ild1 dX12_sortOf_0 ?_
  refine wp_if_ne (tgt := 26) dX12_sortOf_1 (by decide) (fun c_1 => ?_) (fun c_1 => ?_)
  · refine wp_ild1 dX12_sortOf_26 ?_
    refine wp_iconst (v := 1) dX12_sortOf_27 (by decide) ?_
    refine wp_icmp_ne (tgt := 42) dX12_sortOf_28 (by decide) (fun c_28 => ?_) (fun c_28 => ?_)
    · refine wp_ild0 dX12_sortOf_42 ?_
      refine wp_iconst (v := 2) dX12_sortOf_43 (by decide) ?_
      refine wp_icmp_ne (tgt := 51) dX12_sortOf_44 (by decide) (fun c_44 => ?_) (fun c_44 => ?_)
      · refine wp_iconst (v := (-1)) dX12_sortOf_51 (by decide) ?_
        exact wp_iret dX12_sortOf_52 rfl (Nat.le_refl _) (Nat.le_refl _) (by first | with_reducible rfl | (simp only [soM, if_neg c_1, if_neg c_28, if_neg c_44]; done) | (simp only [soM, if_neg c_1, if_neg c_28, if_neg c_44]; rfl) | rfl) (by first | with_reducible rfl | (simp only [soM, if_neg c_1, if_neg c_28, if_neg c_44]; done) | (simp only [soM, if_neg c_1, if_neg c_28, if_neg c_44]; rfl) | rfl)
      · refine wp_iconst (v := 2) dX12_sortOf_47 (by decide) ?_
        refine wp_goto (tgt := 52) dX12_sortOf_48 (by decide) ?_
        exact wp_iret dX12_sortOf_52 rfl (Nat.le_refl _) (Nat.le_refl _) (by first | with_reducible rfl | (simp only [soM, if_neg c_1, if_neg c_28, if_pos c_44]; done) | (simp only [soM, if_neg c_1, if_neg c_28, if_pos c_44]; rfl) | rfl) (by first | with_reducible rfl | (simp only [soM, if_neg c_1, if_neg c_28, if_pos c_44]; done) | (simp only [soM, if_neg c_1, if_neg c_28, if_pos c_44]; rfl) | rfl)
    · refine wp_ild0 dX12_sortOf_31 ?_
      refine wp_iconst (v := 4) dX12_sortOf_32 (by decide) ?_
      refine wp_icmp_gt (tgt := 40) dX12_sortOf_33 (by decide) (fun c_33 => ?_) (fun c_33 => ?_)
      · refine wp_iconst (v := (-1)) dX12_sortOf_40 (by decide) ?_
        exact wp_iret dX12_sortOf_41 rfl (Nat.le_refl _) (Nat.le_refl _) (by first | with_reducible rfl | (simp only [soM, if_neg c_1, if_pos c_28, if_pos c_33]; done) | (simp only [soM, if_neg c_1, if_pos c_28, if_pos c_33]; rfl) | rfl) (by first | with_reducible rfl | (simp only [soM, if_neg c_1, if_pos c_28, if_pos c_33]; done) | (simp only [soM, if_neg c_1, if_pos c_28, if_pos c_33]; rfl) | rfl)
      · refine wp_iconst (v := 1) dX12_sortOf_36 (by decide) ?_
        refine wp_goto (tgt := 41) dX12_sortOf_37 (by decide) ?_
        exact wp_iret dX12_sortOf_41 rfl (Nat.le_refl _) (Nat.le_refl _) (by first | with_reducible rfl | (simp only [soM, if_neg c_1, if_pos c_28, if_neg c_33]; done) | (simp only [soM, if_neg c_1, if_pos c_28, if_neg c_33]; rfl) | rfl) (by first | with_reducible rfl | (simp only [soM, if_neg c_1, if_pos c_28, if_neg c_33]; done) | (simp only [soM, if_neg c_1, if_pos c_28, if_neg c_33]; rfl) | rfl)
  · refine wp_ild0 dX12_sortOf_4 ?_
    refine wp_bipush (v := 8) dX12_sortOf_5 (by decide) ?_
    refine wp_icmp_ne (tgt := 14) dX12_sortOf_7 (by decide) (fun c_7 => ?_) (fun c_7 => ?_)
    · refine wp_ild0 dX12_sortOf_14 ?_
      refine wp_bipush (v := 9) dX12_sortOf_15 (by decide) ?_
      refine wp_icmp_ne (tgt := 24) dX12_sortOf_17 (by decide) (fun c_17 => ?_) (fun c_17 => ?_)
      · refine wp_iconst (v := 0) dX12_sortOf_24 (by decide) ?_
        exact wp_iret dX12_sortOf_25 rfl (Nat.le_refl _) (Nat.le_refl _) (by first | with_reducible rfl | (simp only [soM, if_pos c_1, if_neg c_7, if_neg c_17]; done) | (simp only [soM, if_pos c_1, if_neg c_7, if_neg c_17]; rfl) | rfl) (by first | with_reducible rfl | (simp only [soM, if_pos c_1, if_neg c_7, if_neg c_17]; done) | (simp only [soM, if_pos c_1, if_neg c_7, if_neg c_17]; rfl) | rfl)
      · refine wp_iconst (v := 2) dX12_sortOf_20 (by decide) ?_
        refine wp_goto (tgt := 25) dX12_sortOf_21 (by decide) ?_
        exact wp_iret dX12_sortOf_25 rfl (Nat.le_refl _) (Nat.le_refl _) (by first | with_reducible rfl | (simp only [soM, if_pos c_1, if_neg c_7, if_pos c_17]; done) | (simp only [soM, if_pos c_1, if_neg c_7, if_pos c_17]; rfl) | rfl) (by first | with_reducible rfl | (simp only [soM, if_pos c_1, if_neg c_7, if_pos c_17]; done) | (simp only [soM, if_pos c_1, if_neg c_7, if_pos c_17]; rfl) | rfl)
    · refine wp_iconst (v := 1) dX12_sortOf_10 (by decide) ?_
      refine wp_goto (tgt := 25) dX12_sortOf_11 (by decide) ?_
      exact wp_iret dX12_sortOf_25 rfl (Nat.le_refl _) (Nat.le_refl _) (by first | with_reducible rfl | (simp only [soM, if_pos c_1, if_pos c_7]; done) | (simp only [soM, if_pos c_1, if_pos c_7]; rfl) | rfl) (by first | with_reducible rfl | (simp only [soM, if_pos c_1, if_pos c_7]; done) | (simp only [soM, if_pos c_1, if_pos c_7]; rfl) | rfl)

set_option maxHeartbeats 2000000 in
theorem tm_ag113 {G : GG} {Y : Nat} {F : Nat → Int32} {E0 : Nat → va_E} {L : List Nat} {sz d : Nat} {s v : Int32} (hG : GOK G) (hM : rIn (mR G Y) L)  (hdp : 0 ≤ d) : WP G iX12_argument d 0 0 (some (.int (arC s v))) (Mm G Y (F) E0 L sz) 113 [some (.ref Y), some (.int s), some (.int v)] [] (Mm G Y F E0 L sz) 0 0 := by
  refine wp_ild1 dX12_argument_113 ?_
  refine wp_if_ne (tgt := 122) dX12_argument_114 (by decide) (fun c_114 => ?_) (fun c_114 => ?_)
  · refine wp_ild1 dX12_argument_122 ?_
    refine wp_iconst (v := 1) dX12_argument_123 (by decide) ?_
    refine wp_icmp_ne (tgt := 137) dX12_argument_124 (by decide) (fun c_124 => ?_) (fun c_124 => ?_)
    · refine wp_ild2 dX12_argument_137 ?_
      exact wp_iret dX12_argument_138 rfl (Nat.le_refl _) (Nat.le_refl _) (by first | with_reducible rfl | (simp only [arC, if_neg c_114, if_neg c_124]; done) | (simp only [arC, if_neg c_114, if_neg c_124]; rfl) | rfl) (by first | with_reducible rfl | (simp only [arC, if_neg c_114, if_neg c_124]; done) | (simp only [arC, if_neg c_114, if_neg c_124]; rfl) | rfl)
    · refine wp_ild2 dX12_argument_127 ?_
      refine wp_bipush (v := 7) dX12_argument_128 (by decide) ?_
      refine wp_icmp_le (tgt := 137) dX12_argument_130 (by decide) (fun c_130 => ?_) (fun c_130 => ?_)
      · refine wp_ild2 dX12_argument_137 ?_
        exact wp_iret dX12_argument_138 rfl (Nat.le_refl _) (Nat.le_refl _) (by first | with_reducible rfl | (simp only [arC, if_neg c_114, if_pos c_124, if_pos c_130]; done) | (simp only [arC, if_neg c_114, if_pos c_124, if_pos c_130]; rfl) | rfl) (by first | with_reducible rfl | (simp only [arC, if_neg c_114, if_pos c_124, if_pos c_130]; done) | (simp only [arC, if_neg c_114, if_pos c_124, if_pos c_130]; rfl) | rfl)
      · refine wp_iconst (v := (-1)) dX12_argument_133 (by decide) ?_
        refine wp_goto (tgt := 138) dX12_argument_134 (by decide) ?_
        exact wp_iret dX12_argument_138 rfl (Nat.le_refl _) (Nat.le_refl _) (by first | with_reducible rfl | (simp only [arC, if_neg c_114, if_pos c_124, if_neg c_130]; done) | (simp only [arC, if_neg c_114, if_pos c_124, if_neg c_130]; rfl) | rfl) (by first | with_reducible rfl | (simp only [arC, if_neg c_114, if_pos c_124, if_neg c_130]; done) | (simp only [arC, if_neg c_114, if_pos c_124, if_neg c_130]; rfl) | rfl)
  · refine wp_ild2 dX12_argument_117 ?_
    refine wp_iconst (v := 5) dX12_argument_118 (by decide) ?_
    refine wp_icmp_gt (tgt := 133) dX12_argument_119 (by decide) (fun c_119 => ?_) (fun c_119 => ?_)
    · refine wp_iconst (v := (-1)) dX12_argument_133 (by decide) ?_
      refine wp_goto (tgt := 138) dX12_argument_134 (by decide) ?_
      exact wp_iret dX12_argument_138 rfl (Nat.le_refl _) (Nat.le_refl _) (by first | with_reducible rfl | (simp only [arC, if_pos c_114, if_pos c_119]; done) | (simp only [arC, if_pos c_114, if_pos c_119]; rfl) | rfl) (by first | with_reducible rfl | (simp only [arC, if_pos c_114, if_pos c_119]; done) | (simp only [arC, if_pos c_114, if_pos c_119]; rfl) | rfl)
    · refine wp_ild1 dX12_argument_122 ?_
      refine wp_iconst (v := 1) dX12_argument_123 (by decide) ?_
      refine wp_icmp_ne (tgt := 137) dX12_argument_124 (by decide) (fun c_124 => ?_) (fun c_124 => ?_)
      · refine wp_ild2 dX12_argument_137 ?_
        exact wp_iret dX12_argument_138 rfl (Nat.le_refl _) (Nat.le_refl _) (by first | with_reducible rfl | (simp only [arC, if_pos c_114, if_neg c_119, if_neg c_124]; done) | (simp only [arC, if_pos c_114, if_neg c_119, if_neg c_124]; rfl) | rfl) (by first | with_reducible rfl | (simp only [arC, if_pos c_114, if_neg c_119, if_neg c_124]; done) | (simp only [arC, if_pos c_114, if_neg c_119, if_neg c_124]; rfl) | rfl)
      · refine wp_ild2 dX12_argument_127 ?_
        refine wp_bipush (v := 7) dX12_argument_128 (by decide) ?_
        refine wp_icmp_le (tgt := 137) dX12_argument_130 (by decide) (fun c_130 => ?_) (fun c_130 => ?_)
        · refine wp_ild2 dX12_argument_137 ?_
          exact wp_iret dX12_argument_138 rfl (Nat.le_refl _) (Nat.le_refl _) (by first | with_reducible rfl | (simp only [arC, if_pos c_114, if_neg c_119, if_pos c_124, if_pos c_130]; done) | (simp only [arC, if_pos c_114, if_neg c_119, if_pos c_124, if_pos c_130]; rfl) | rfl) (by first | with_reducible rfl | (simp only [arC, if_pos c_114, if_neg c_119, if_pos c_124, if_pos c_130]; done) | (simp only [arC, if_pos c_114, if_neg c_119, if_pos c_124, if_pos c_130]; rfl) | rfl)
        · refine wp_iconst (v := (-1)) dX12_argument_133 (by decide) ?_
          refine wp_goto (tgt := 138) dX12_argument_134 (by decide) ?_
          exact wp_iret dX12_argument_138 rfl (Nat.le_refl _) (Nat.le_refl _) (by first | with_reducible rfl | (simp only [arC, if_pos c_114, if_neg c_119, if_pos c_124, if_neg c_130]; done) | (simp only [arC, if_pos c_114, if_neg c_119, if_pos c_124, if_neg c_130]; rfl) | rfl) (by first | with_reducible rfl | (simp only [arC, if_pos c_114, if_neg c_119, if_pos c_124, if_neg c_130]; done) | (simp only [arC, if_pos c_114, if_neg c_119, if_pos c_124, if_neg c_130]; rfl) | rfl)
set_option maxHeartbeats 2000000 in
theorem tm_ag65 {G : GG} {Y : Nat} {F : Nat → Int32} {E0 : Nat → va_E} {L : List Nat} {sz d : Nat} {tx : Nat → Int32} {Ln b : Nat} {s v : Int32} (hG : GOK G) (hM : rIn (mR G Y) L) (ht : TOK F tx Ln) (ha : F 9004 = nI b) (hb : b ≤ 300) (hdp : 2 ≤ d) : WP G iX12_argument d 0 0 (some (.int (ar2 tx Ln b s v).1)) (Mm G Y (upd F 9004 (nI (ar2 tx Ln b s v).2)) E0 L sz) 65 [some (.ref Y), some (.int s), some (.int v)] [] (Mm G Y F E0 L sz) 0 0 := by
  have hL := ht.2.1
  refine wp_ild1 dX12_argument_65 ?_
  refine wp_iconst (v := 2) dX12_argument_66 (by decide) ?_
  refine wp_icmp_ne (tgt := 113) dX12_argument_67 (by decide) (fun c_67 => ?_) (fun c_67 => ?_)
  · simp only [ar2, if_neg c_67]
    rw [upd_id ha]
    exact tm_ag113 hG hM (Nat.zero_le _)
  · refine wp_ild2 dX12_argument_70 ?_
    refine wp_if_le (tgt := 113) dX12_argument_71 (by decide) (fun c_71 => ?_) (fun c_71 => ?_)
    · simp only [ar2, if_pos c_67, if_pos c_71]
      rw [upd_id ha]
      exact tm_ag113 hG hM (Nat.zero_le _)
    · refine wp_ald0 dX12_argument_74 ?_
      refine wp_ald0 dX12_argument_75 ?_
      refine gm_at dX12_argument_76 fX12_268 hM ?_
      refine mi_1 dX12_argument_79 kX12_271 (ha.symm ▸ cm_isDigit (d := d - 1) hG hM ht (by omega) (by omega)) hM rfl (by omega) (Nat.le_of_ble_eq_true rfl) (Nat.le_refl _) (Nat.le_refl _) ?_
      refine wp_ifB_eq (tgt := 113) dX12_argument_82 (by decide) (fun c_82 => ?_) (fun c_82 => ?_)
      · simp only [ar2, if_pos c_67, if_neg c_71, if_neg c_82]
        rw [upd_id ha]
        exact tm_ag113 hG hM (Nat.zero_le _)
      · have hbL := c_82.1
        refine wp_bipush (v := 10) dX12_argument_85 (by decide) ?_
        refine wp_ild2 dX12_argument_87 ?_
        refine wp_imul dX12_argument_88 ?_
        refine wp_ald0 dX12_argument_89 ?_
        refine gm_text dX12_argument_90 fX12_22 hM ?_
        refine wp_ald0 dX12_argument_93 ?_
        refine gm_at dX12_argument_94 fX12_268 hM ?_
        refine rm_text (i' := b) dX12_argument_97 hG hM ha (by first | assumption | omega) ?_
        rw [ht.2.2 _ (by omega)]
        refine wp_iadd dX12_argument_98 ?_
        refine wp_bipush (v := 48) dX12_argument_99 (by decide) ?_
        refine wp_isub dX12_argument_101 ?_
        refine wp_ist2 dX12_argument_102 (by decide) rfl ?_
        refine wp_ald0 dX12_argument_103 ?_
        refine wp_dup dX12_argument_104 rfl ?_
        refine gm_at dX12_argument_105 fX12_268 hM ?_
        refine wp_iconst (v := 1) dX12_argument_108 (by decide) ?_
        refine wp_iaddN (a := b) (b := 1) ha (by decide) dX12_argument_109 ?_
        refine pm_at dX12_argument_110 pX12_268 hM ?_
        simp only [ar2, if_pos c_67, if_neg c_71, if_pos c_82]
        exact tm_ag113 hG hM (Nat.zero_le _)
