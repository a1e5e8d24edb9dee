/-! a lock's description -/
def lkS (i : Nat) : List Nat := if i = 76 then [32, 116, 111, 32] else if i = 83 then [32, 111, 108, 100] else if i = 85 then [32, 98, 121, 32] else if i = 87 then [32, 120] else if i = 92 then [32, 113, 117, 101, 117, 101, 32] else if i = 98 then [32, 119, 97, 105, 116, 32] else if i = 100 then [32, 35] else if i = 102 then [32, 97, 98, 97, 110, 100, 111, 110, 101, 100] else if i = 104 then [110, 101, 117, 116, 114, 97, 108] else if i = 106 then [98, 105, 97, 115, 97, 98, 108, 101] else if i = 108 then [98, 105, 97, 115, 101, 100] else if i = 110 then [116, 104, 105, 110] else if i = 112 then [105, 110, 102, 108, 97, 116, 101, 100] else []
def lkT (i : Nat) : String := if i = 76 then " to " else if i = 83 then " old" else if i = 85 then " by " else if i = 87 then " x" else if i = 92 then " queue " else if i = 98 then " wait " else if i = 100 then " #" else if i = 102 then " abandoned" else if i = 104 then "neutral" else if i = 106 then "biasable" else if i = 108 then "biased" else if i = 110 then "thin" else if i = 112 then "inflated" else ""
def lkI : List Nat := [76, 81, 83, 85, 87, 92, 98, 100, 102, 104, 106, 108, 110, 112]
def GLk (G : GG) (la : Nat → Nat) : Prop := ∀ i, i ∈ lkI → ("LockSimulator$Lock", i, lkT i, la i) ∈ gR G ∧ StrOK G (la i) (lkS i)
theorem lkS_len : ∀ i, (lkS i).length ≤ 10 := fun i => by
  unfold lkS
  by_cases c76 : i = 76
  · rw [if_pos c76]; decide
  rw [if_neg c76]
  by_cases c83 : i = 83
  · rw [if_pos c83]; decide
  rw [if_neg c83]
  by_cases c85 : i = 85
  · rw [if_pos c85]; decide
  rw [if_neg c85]
  by_cases c87 : i = 87
  · rw [if_pos c87]; decide
  rw [if_neg c87]
  by_cases c92 : i = 92
  · rw [if_pos c92]; decide
  rw [if_neg c92]
  by_cases c98 : i = 98
  · rw [if_pos c98]; decide
  rw [if_neg c98]
  by_cases c100 : i = 100
  · rw [if_pos c100]; decide
  rw [if_neg c100]
  by_cases c102 : i = 102
  · rw [if_pos c102]; decide
  rw [if_neg c102]
  by_cases c104 : i = 104
  · rw [if_pos c104]; decide
  rw [if_neg c104]
  by_cases c106 : i = 106
  · rw [if_pos c106]; decide
  rw [if_neg c106]
  by_cases c108 : i = 108
  · rw [if_pos c108]; decide
  rw [if_neg c108]
  by_cases c110 : i = 110
  · rw [if_pos c110]; decide
  rw [if_neg c110]
  by_cases c112 : i = 112
  · rw [if_pos c112]; decide
  rw [if_neg c112]
  decide
/-- a world and a builder side by side -/
def WSB (G : GG) (B : Nat) (C : Nat → Int32) (A b : Nat) (M : Mem) : Prop := rIn (wR G B) M.1 ∧ At (wR G B) C M.2.1 ∧ B + 56 ≤ M.2.2 ∧ ¬ (B ≤ A ∧ A < B + 56) ∧ ¬ (B ≤ b ∧ b < B + 56)
theorem At.ag {r : Rg} {F : Nat → Int32} {E E1 : Nat → va_E} (h : At r F E) (he : ∀ a, r.2.2.1 ≤ a ∧ a < r.2.2.1 + r.2.2.2 → E1 a = E a) : At r F E1 := by
  unfold At at h ⊢
  funext a
  by_cases hin : r.2.2.1 ≤ a ∧ a < r.2.2.1 + r.2.2.2
  · rw [rE_in (E' := E) hin, h, he a hin]
  · rw [rE_out hin]
theorem WSB.sx {G : GG} {B : Nat} {C : Nat → Int32} {A b m b1 m1 : Nat} {M M1 : Mem} (h : WSB G B C A b M) (hx : Sx A M b m M1 b1 m1) : WSB G B C A b1 M1 := by
  obtain ⟨h1, h2, h3, h4, h5⟩ := h
  obtain ⟨⟨g1, g2, g3⟩, g4, -⟩ := hx
  refine ⟨fun j hj => g1 _ (h1 j hj), h2.ag (fun a ha => ?_), Nat.le_trans h3 g2, h4, ?_⟩
  · have ha : B ≤ a ∧ a < B + 56 := ha
    exact g3 a (by omega) (fun e => h4 (e ▸ ha)) (fun e => h5 (e ▸ ha))
  · rcases g4 with rfl | g4
    · exact h5
    · omega
def memN (C : Nat → Int32) (p : Nat) : Nat → Nat → List Nat
  | 0, _ => []
  | n + 1, i => numN (nt (C (p + i))) ++ memN C p n (i + 1)
theorem num1N {V : Nat} (h : V < 10) : sb_dg V = 1 := if_pos h
theorem memN_len {C : Nat → Int32} {p N : Nat} (h : MOK C p N) : ∀ (n i : Nat), i + n = N → (memN C p n i).length = n
  | 0, _, _ => rfl
  | n + 1, i, hi => by
    have h2 := (h i (by omega)).2
    show (numN (nt (C (p + i))) ++ memN C p n (i + 1)).length = _
    rw [List.length_append, memN_len h n (i + 1) (by omega), ndg_len, num1N (by omega)]; omega
set_option maxHeartbeats 2000000 in
theorem lp_pm {G : GG} {d B A : Nat} {C : Nat → Int32} {fm : Value} {j q p N : Nat} (hG : GOK G) (hN : GNS G fm) (hg : GDg G) (hNl : LN G B j q p) (hNq : C q = nI N) (hN6 : N ≤ 6) (hmem : MOK C p N) (hdp : 6 ≤ d) (n : Nat) : ∀ (i : Nat) (M : Mem) (b m : Nat) (t : List Nat), i + n = N → SB G A b m t M → WSB G B C A b M → t.length + n ≤ 200 → ∃ M1 b1 m1, (∀ k nn mc ms, k + (m1 - m) ≤ mc → nn + 2 * (m1 - m) ≤ ms → WP G iX2_putMembers d mc ms none M1 2 [some (.ref (B + j)), some (.ref A), some (.int (nI i))] [] M k nn) ∧ SB G A b1 m1 (t ++ memN C p n i) M1 ∧ Sx A M b m M1 b1 m1 := by
  induction n with
  | zero =>
    intro i M b m t hi h hw hl
    refine ⟨M, b, m, fun k nn mc ms hk hnn => ?_, by rw [show t ++ memN C p 0 i = t from List.append_nil t]; exact h, Sx.rf⟩
    refine wp_ild2 dX2_putMembers_2 ?_
    refine wp_ald0 dX2_putMembers_3 ?_
    refine WP.to (At.rm hw.2.1).symm ?_
    refine g_Line_size dX2_putMembers_4 fX2_15 hw.1 hNl ?_
    refine WP.to (At.rm hw.2.1) ?_
    rw [hNq]
    refine wp_icmp_ge (tgt := 27) dX2_putMembers_7 (by decide) (fun _ => ?_) (fun h => absurd (nI_le (a := N) (b := i) (by omega) (by omega)) h)
    exact wp_vret dX2_putMembers_27 rfl (by omega) (by omega) rfl rfl
  | succ n ih =>
    intro i M b m t hi h hw hl
    obtain ⟨v1, v2⟩ := hmem i (by omega)
    obtain ⟨fs, hA, hE⟩ := h.obj
    obtain ⟨M2, b2, m2, hct, h2, hx⟩ := sx_appI (d := d - 1) (V := nt (C (p + i))) hG hN hg h (by omega) (by omega) (by omega)
    have hl2 : (t ++ numN (nt (C (p + i)))).length = t.length + 1 := by rw [List.length_append, ndg_len, num1N (by omega)]
    obtain ⟨M1, b1, m1, hwp, h1, hx1⟩ := ih (i + 1) M2 b2 m2 _ (by omega) h2 (hw.sx hx) (by omega)
    have le1 := hx.2.2
    have le2 := hx1.2.2
    refine ⟨M1, b1, m1, fun k nn mc ms hk hnn => ?_, by rw [show t ++ memN C p (n + 1) i = t ++ numN (nt (C (p + i))) ++ memN C p n (i + 1) from (List.append_assoc _ _ _).symm]; exact h1, hx.tr hx1⟩
    refine wp_ild2 dX2_putMembers_2 ?_
    refine wp_ald0 dX2_putMembers_3 ?_
    refine WP.to (At.rm hw.2.1).symm ?_
    refine g_Line_size dX2_putMembers_4 fX2_15 hw.1 hNl ?_
    rw [hNq]
    refine wp_icmp_ge (tgt := 27) dX2_putMembers_7 (by decide) (fun c => absurd c (nI_ge (a := i) (b := N) (by omega) (by omega))) (fun _ => ?_)
    refine wp_ald1 dX2_putMembers_10 ?_
    refine wp_ald0 dX2_putMembers_11 ?_
    refine g_Line_members dX2_putMembers_12 fX2_9 hw.1 hNl ?_
    refine wp_ild2 dX2_putMembers_15 ?_
    refine r_Line_members (i' := i) dX2_putMembers_16 hG hw.1 hNl rfl (by omega) ?_
    refine WP.to (At.rm hw.2.1) ?_
    rw [v1]
    refine wp_callV (As := [.int (nI (nt (C (p + i))))]) dX2_putMembers_17 kX2_19 hct hA hE rfl rfl (by omega) (by omega) (by omega) rfl (Nat.le_of_ble_eq_true rfl) ?_
    refine wp_pop dX2_putMembers_20 rfl ?_
    refine wp_inc2 dX2_putMembers_21 (by decide) rfl ?_
    refine wp_goto (tgt := 2) dX2_putMembers_24 (by decide) ?_
    exact hwp _ _ _ _ (by omega) (by omega)
theorem sx_putMem {G : GG} {d B A : Nat} {C : Nat → Int32} {fm : Value} {j q p N : Nat} {M : Mem} {b m : Nat} {t : List Nat} (hG : GOK G) (hN : GNS G fm) (hg : GDg G) (hNl : LN G B j q p) (hNq : C q = nI N) (hN6 : N ≤ 6) (hmem : MOK C p N) (h : SB G A b m t M) (hw : WSB G B C A b M) (hl : t.length ≤ 190) (hdp : 6 ≤ d) : ∃ M1 b1 m1, Ct G d yX2_putMembers iX2_putMembers [.ref (B + j), .ref A] M (m1 - m) (2 * (m1 - m)) none M1 ∧ SB G A b1 m1 (t ++ memN C p N 0) M1 ∧ Sx A M b m M1 b1 m1 := by
  obtain ⟨M1, b1, m1, hwp, h1, hx⟩ := lp_pm (d := d) hG hN hg hNl hNq hN6 hmem hdp N 0 M b m t (by omega) h hw (by omega)
  refine ⟨M1, b1, m1, ?_, h1, hx⟩
  refine Ct.of 1 (by decide) rfl (by decide) (Nat.le_of_ble_eq_true rfl) ?_
  show WP _ _ _ _ _ _ _ 0 [some (.ref (B + j)), some (.ref A), none] [] _ 0 0
  refine wp_iconst (v := nI 0) dX2_putMembers_0 (by decide) ?_
  refine wp_ist2 dX2_putMembers_1 (by decide) rfl ?_
  exact hwp 0 0 _ _ (by omega) (by omega)
def swI (x : Int32) : Nat := if x = 0 then 104 else if x = 1 then 106 else if x = 2 then 108 else if x = 3 then 110 else 112
theorem swI_in (x : Int32) : swI x ∈ lkI := by
  unfold swI
  by_cases c0 : x = 0
  · rw [if_pos c0]; decide
  rw [if_neg c0]
  by_cases c1 : x = 1
  · rw [if_pos c1]; decide
  rw [if_neg c1]
  by_cases c2 : x = 2
  · rw [if_pos c2]; decide
  rw [if_neg c2]
  by_cases c3 : x = 3
  · rw [if_pos c3]; decide
  rw [if_neg c3]; decide
set_option maxHeartbeats 2000000 in
theorem ct_stateWord {G : GG} {B o d : Nat} {C : Nat → Int32} {E0 : Nat → va_E} {L : List Nat} {sz : Nat} {la : Nat → Nat} (hG : GOK G) (hL : rIn (wR G B) L) (ho : o < 8) (hK : GLk G la) : Ct G d yX3_stateWord iX3_stateWord [.ref (aLk B o)] (Wm G B C E0 L sz) 0 0 (some (.ref (la (swI (C (46 + o)))))) (Wm G B C E0 L sz) := by
  refine Ct.of 0 (by decide) rfl (by decide) (Nat.le_of_ble_eq_true rfl) ?_
  show WP _ _ _ _ _ _ _ 0 [some (.ref (aLk B o))] [] _ 0 0
  refine wp_ald0 dX3_stateWord_0 ?_
  refine g_Lock_state dX3_stateWord_1 fX3_28 hL ho ?_
  unfold swI
  by_cases c_0 : C (46 + o) = 0
  · refine wp_tableIn (off := 32) (tgt := 36) dX3_stateWord_4 (by rw [c_0]; decide) (by rw [c_0]; decide) (by rw [c_0]; rfl) (by decide) ?_
    rw [if_pos c_0]
    refine wp_ldcS dX3_stateWord_36 (hK 104 (by decide)).1 ?_
    exact wp_aret dX3_stateWord_38 rfl (Or.inl ⟨_, rfl⟩) (Or.inr ⟨_, rfl⟩) (Nat.le_refl _) (Nat.le_refl _) rfl rfl
  · by_cases c_1 : C (46 + o) = 1
    · refine wp_tableIn (off := 35) (tgt := 39) dX3_stateWord_4 (by rw [c_1]; decide) (by rw [c_1]; decide) (by rw [c_1]; rfl) (by decide) ?_
      rw [if_neg c_0, if_pos c_1]
      refine wp_ldcS dX3_stateWord_39 (hK 106 (by decide)).1 ?_
      exact wp_aret dX3_stateWord_41 rfl (Or.inl ⟨_, rfl⟩) (Or.inr ⟨_, rfl⟩) (Nat.le_refl _) (Nat.le_refl _) rfl rfl
    · by_cases c_2 : C (46 + o) = 2
      · refine wp_tableIn (off := 38) (tgt := 42) dX3_stateWord_4 (by rw [c_2]; decide) (by rw [c_2]; decide) (by rw [c_2]; rfl) (by decide) ?_
        rw [if_neg c_0, if_neg c_1, if_pos c_2]
        refine wp_ldcS dX3_stateWord_42 (hK 108 (by decide)).1 ?_
        exact wp_aret dX3_stateWord_44 rfl (Or.inl ⟨_, rfl⟩) (Or.inr ⟨_, rfl⟩) (Nat.le_refl _) (Nat.le_refl _) rfl rfl
      · by_cases c_3 : C (46 + o) = 3
        · refine wp_tableIn (off := 41) (tgt := 45) dX3_stateWord_4 (by rw [c_3]; decide) (by rw [c_3]; decide) (by rw [c_3]; rfl) (by decide) ?_
          rw [if_neg c_0, if_neg c_1, if_neg c_2, if_pos c_3]
          refine wp_ldcS dX3_stateWord_45 (hK 110 (by decide)).1 ?_
          exact wp_aret dX3_stateWord_47 rfl (Or.inl ⟨_, rfl⟩) (Or.inr ⟨_, rfl⟩) (Nat.le_refl _) (Nat.le_refl _) rfl rfl
        · refine wp_tableOut (tgt := 48) dX3_stateWord_4 (sw03 c_0 c_1 c_2 c_3) (by decide) ?_
          rw [if_neg c_0, if_neg c_1, if_neg c_2, if_neg c_3]
          refine wp_ldcS dX3_stateWord_48 (hK 112 (by decide)).1 ?_
          exact wp_aret dX3_stateWord_50 rfl (Or.inl ⟨_, rfl⟩) (Or.inr ⟨_, rfl⟩) (Nat.le_refl _) (Nat.le_refl _) rfl rfl
def DCK (C : Nat → Int32) (o : Nat) : Prop := (C (46 + o) = 2 → ∃ u, u < 6 ∧ C (70 + o) = nI u) ∧ (¬ C (62 + o) ≤ 0 → (∃ u, u < 6 ∧ C (54 + o) = nI u) ∧ ∃ c, c < 1000000000 ∧ C (62 + o) = nI c) ∧ (¬ C (94 + o) = -1 → ∃ h, h < 1000 ∧ C (94 + o) = nI h) ∧ (∃ N, N ≤ 6 ∧ C (110 + o) = nI N ∧ MOK C (126 + 6 * o) N) ∧ (∃ N, N ≤ 6 ∧ C (118 + o) = nI N ∧ MOK C (174 + 6 * o) N)
def pd6 (C : Nat → Int32) (o : Nat) : List Nat := if C (86 + o) = 0 then lkS 81 else lkS 102
def pd5 (C : Nat → Int32) (o : Nat) : List Nat := if C (94 + o) = -1 then [] else lkS 100 ++ numN (nt (C (94 + o)))
def pd4 (C : Nat → Int32) (o : Nat) : List Nat := if C (118 + o) = 0 then [] else lkS 98 ++ memN C (174 + 6 * o) (nt (C (118 + o))) 0
def pd3 (C : Nat → Int32) (o : Nat) : List Nat := if C (110 + o) = 0 then [] else lkS 92 ++ memN C (126 + 6 * o) (nt (C (110 + o))) 0
def pd2 (C : Nat → Int32) (o : Nat) : List Nat := if ¬ C (62 + o) ≤ 0 then (((lkS 85 ++ numN (nt (C (54 + o)))) ++ lkS 87) ++ numN (nt (C (62 + o)))) else []
def pd1 (C : Nat → Int32) (o : Nat) (q : Prop) [Decidable q] : List Nat := if C (46 + o) = 2 then ((lkS 76 ++ numN (nt (C (70 + o)))) ++ (if q then lkS 81 else lkS 83)) else []
def pdT (C : Nat → Int32) (o : Nat) (q : Prop) [Decidable q] : List Nat := lkS (swI (C (46 + o))) ++ (pd1 C o q ++ (pd2 C o ++ (pd3 C o ++ (pd4 C o ++ (pd5 C o ++ pd6 C o)))))
set_option maxHeartbeats 4000000 in
theorem pd_152 {G : GG} {d B A : Nat} {C : Nat → Int32} {fm : Value} {o : Nat} {la : Nat → Nat}  (hG : GOK G) (hN : GNS G fm) (hg : GDg G) (hK : GLk G la) (ho : o < 8) (hD : DCK C o) (hdp : 7 ≤ d) : ∀ (M0 : Mem) (b0 m0 : Nat) (t : List Nat), SB G A b0 m0 t M0 → WSB G B C A b0 M0 → t.length ≤ 170 → ∃ M1 b1 m1, (∀ k nn mc ms, k + (m1 - m0) ≤ mc → nn + 2 * (m1 - m0) ≤ ms → WP G iX3_putDescription d mc ms none M1 152 [some (.ref (aLk B o)), some (.ref A), none] [] M0 k nn) ∧ SB G A b1 m1 (t ++ pd6 C o) M1 ∧ Sx A M0 b0 m0 M1 b1 m1 := by
  intro M0 b0 m0 t h0 w0 hl0
  by_cases c : C (86 + o) = 0
  · obtain ⟨fs0, hA0, hE0⟩ := h0.obj
    obtain ⟨M1, b1, m1, ct1, h1, x1⟩ := sx_appS (d := d - 1) hG hN h0 (hK 81 (by decide)).2 (by have := lkS_len 76; have := lkS_len 81; have := lkS_len 83; have := lkS_len 85; have := lkS_len 87; have := lkS_len 92; have := lkS_len 98; have := lkS_len 100; have := lkS_len 102; first | omega | (simp only [List.length_append, ndg_len]; omega)) (by omega)
    have w1 := w0.sx x1
    have le1 := x1.2.2
    refine ⟨M1, b1, m1, fun k nn mc ms hk hnn => ?_, by rw [pd6, if_pos c]; exact h1, x1⟩
    refine wp_ald1 dX3_putDescription_152 ?_
    refine wp_ald0 dX3_putDescription_153 ?_
    refine WP.to (At.rm w0.2.1).symm ?_
    refine g_Lock_abandoned dX3_putDescription_154 fX3_40 w0.1 ho ?_
    refine WP.to (At.rm w0.2.1) ?_
    refine wp_if_eq (tgt := 165) dX3_putDescription_157 (by decide) (fun _ => ?_) (fun z => absurd c z)
    refine wp_ldcS dX3_putDescription_165 (hK 81 (by decide)).1 ?_
    refine wp_callV (As := [.ref (la 81)]) dX3_putDescription_167 kX3_70 ct1 hA0 hE0 rfl rfl (by omega) (by omega) (by omega) rfl (Nat.le_of_ble_eq_true rfl) ?_
    refine wp_pop dX3_putDescription_170 rfl ?_
    exact wp_vret dX3_putDescription_171 rfl (by omega) (by omega) rfl rfl
  · obtain ⟨fs0, hA0, hE0⟩ := h0.obj
    obtain ⟨M1, b1, m1, ct1, h1, x1⟩ := sx_appS (d := d - 1) hG hN h0 (hK 102 (by decide)).2 (by have := lkS_len 76; have := lkS_len 81; have := lkS_len 83; have := lkS_len 85; have := lkS_len 87; have := lkS_len 92; have := lkS_len 98; have := lkS_len 100; have := lkS_len 102; first | omega | (simp only [List.length_append, ndg_len]; omega)) (by omega)
    have w1 := w0.sx x1
    have le1 := x1.2.2
    refine ⟨M1, b1, m1, fun k nn mc ms hk hnn => ?_, by rw [pd6, if_neg c]; exact h1, x1⟩
    refine wp_ald1 dX3_putDescription_152 ?_
    refine wp_ald0 dX3_putDescription_153 ?_
    refine WP.to (At.rm w0.2.1).symm ?_
    refine g_Lock_abandoned dX3_putDescription_154 fX3_40 w0.1 ho ?_
    refine WP.to (At.rm w0.2.1) ?_
    refine wp_if_eq (tgt := 165) dX3_putDescription_157 (by decide) (fun z => absurd z c) (fun _ => ?_)
    refine wp_ldcS dX3_putDescription_160 (hK 102 (by decide)).1 ?_
    refine wp_goto (tgt := 167) dX3_putDescription_162 (by decide) ?_
    refine wp_callV (As := [.ref (la 102)]) dX3_putDescription_167 kX3_70 ct1 hA0 hE0 rfl rfl (by omega) (by omega) (by omega) rfl (Nat.le_of_ble_eq_true rfl) ?_
    refine wp_pop dX3_putDescription_170 rfl ?_
    exact wp_vret dX3_putDescription_171 rfl (by omega) (by omega) rfl rfl

set_option maxHeartbeats 4000000 in
theorem pd_130 {G : GG} {d B A : Nat} {C : Nat → Int32} {fm : Value} {o : Nat} {la : Nat → Nat}  (hG : GOK G) (hN : GNS G fm) (hg : GDg G) (hK : GLk G la) (ho : o < 8) (hD : DCK C o) (hdp : 7 ≤ d) : ∀ (M0 : Mem) (b0 m0 : Nat) (t : List Nat), SB G A b0 m0 t M0 → WSB G B C A b0 M0 → t.length ≤ 150 → ∃ M1 b1 m1, (∀ k nn mc ms, k + (m1 - m0) ≤ mc → nn + 2 * (m1 - m0) ≤ ms → WP G iX3_putDescription d mc ms none M1 130 [some (.ref (aLk B o)), some (.ref A), none] [] M0 k nn) ∧ SB G A b1 m1 (t ++ (pd5 C o ++ pd6 C o)) M1 ∧ Sx A M0 b0 m0 M1 b1 m1 := by
  intro M0 b0 m0 t h0 w0 hl0
  by_cases c : C (94 + o) = -1
  · obtain ⟨M1, b1, m1, wp1, h1, x1⟩ := pd_152 (d := d) hG hN hg hK ho hD (by omega) M0 b0 m0 _ h0 w0 (by have := lkS_len 76; have := lkS_len 81; have := lkS_len 83; have := lkS_len 85; have := lkS_len 87; have := lkS_len 92; have := lkS_len 98; have := lkS_len 100; have := lkS_len 102; first | omega | (simp only [List.length_append, ndg_len]; omega))
    have le1 := x1.2.2
    refine ⟨M1, b1, m1, fun k nn mc ms hk hnn => ?_, by rw [pd5, if_pos c, List.nil_append]; exact h1, x1⟩
    refine wp_ald0 dX3_putDescription_130 ?_
    refine WP.to (At.rm w0.2.1).symm ?_
    refine g_Lock_hashValue dX3_putDescription_131 fX3_44 w0.1 ho ?_
    refine WP.to (At.rm w0.2.1) ?_
    refine wp_iconst (v := -1) dX3_putDescription_134 (by decide) ?_
    refine wp_icmp_eq (tgt := 152) dX3_putDescription_135 (by decide) (fun _ => ?_) (fun z => absurd c z)
    exact wp1 _ _ _ _ (by omega) (by omega)
  · obtain ⟨hh, hh1, hh2⟩ := hD.2.2.1 c
    have hv : C (94 + o) = nI (nt (C (94 + o))) := by rw [hh2, ntn (by omega)]
    have hvb : nt (C (94 + o)) < 1000 := by rw [hh2, ntn (by omega)]; exact hh1
    have hd1 := sb_dg_in (nt (C (94 + o)))
    obtain ⟨fs0, hA0, hE0⟩ := h0.obj
    obtain ⟨M1, b1, m1, ct1, h1, x1⟩ := sx_appS (d := d - 1) hG hN h0 (hK 100 (by decide)).2 (by have := lkS_len 76; have := lkS_len 81; have := lkS_len 83; have := lkS_len 85; have := lkS_len 87; have := lkS_len 92; have := lkS_len 98; have := lkS_len 100; have := lkS_len 102; first | omega | (simp only [List.length_append, ndg_len]; omega)) (by omega)
    have w1 := w0.sx x1
    have le1 := x1.2.2
    obtain ⟨fs1, hA1, hE1⟩ := h1.obj
    obtain ⟨M2, b2, m2, ct2, h2, x2⟩ := sx_appI (d := d - 1) (V := nt (C (94 + o))) hG hN hg h1 (by omega) (by have := lkS_len 76; have := lkS_len 85; have := lkS_len 87; have := lkS_len 100; first | omega | (simp only [List.length_append, ndg_len]; omega)) (by omega)
    have w2 := w1.sx x2
    have le2 := x2.2.2
    obtain ⟨M3, b3, m3, wp3, h3, x3⟩ := pd_152 (d := d) hG hN hg hK ho hD (by omega) M2 b2 m2 _ h2 w2 (by have := lkS_len 76; have := lkS_len 81; have := lkS_len 83; have := lkS_len 85; have := lkS_len 87; have := lkS_len 92; have := lkS_len 98; have := lkS_len 100; have := lkS_len 102; first | omega | (simp only [List.length_append, ndg_len]; omega))
    have le3 := x3.2.2
    refine ⟨M3, b3, m3, fun k nn mc ms hk hnn => ?_, by rw [pd5, if_neg c]; simp only [List.append_assoc, List.nil_append, List.append_nil] at *; exact h3, (x1.tr x2).tr x3⟩
    refine wp_ald0 dX3_putDescription_130 ?_
    refine WP.to (At.rm w0.2.1).symm ?_
    refine g_Lock_hashValue dX3_putDescription_131 fX3_44 w0.1 ho ?_
    refine WP.to (At.rm w0.2.1) ?_
    refine wp_iconst (v := -1) dX3_putDescription_134 (by decide) ?_
    refine wp_icmp_eq (tgt := 152) dX3_putDescription_135 (by decide) (fun z => absurd z c) (fun _ => ?_)
    refine wp_ald1 dX3_putDescription_138 ?_
    refine wp_ldcS dX3_putDescription_139 (hK 100 (by decide)).1 ?_
    refine wp_callV (As := [.ref (la 100)]) dX3_putDescription_141 kX3_70 ct1 hA0 hE0 rfl rfl (by omega) (by omega) (by omega) rfl (Nat.le_of_ble_eq_true rfl) ?_
    refine wp_ald0 dX3_putDescription_144 ?_
    refine WP.to (At.rm w1.2.1).symm ?_
    refine g_Lock_hashValue dX3_putDescription_145 fX3_44 w1.1 ho ?_
    refine WP.to (At.rm w1.2.1) ?_
    rw [hv]
    refine wp_callV (As := [.int (nI (nt (C (94 + o))))]) dX3_putDescription_148 kX3_78 ct2 hA1 hE1 rfl rfl (by omega) (by omega) (by omega) rfl (Nat.le_of_ble_eq_true rfl) ?_
    refine wp_pop dX3_putDescription_151 rfl ?_
    exact wp3 _ _ _ _ (by omega) (by omega)

set_option maxHeartbeats 4000000 in
theorem pd_105 {G : GG} {d B A : Nat} {C : Nat → Int32} {fm : Value} {o : Nat} {la : Nat → Nat}  (hG : GOK G) (hN : GNS G fm) (hg : GDg G) (hK : GLk G la) (ho : o < 8) (hD : DCK C o) (hdp : 8 ≤ d) : ∀ (M0 : Mem) (b0 m0 : Nat) (t : List Nat), SB G A b0 m0 t M0 → WSB G B C A b0 M0 → t.length ≤ 130 → ∃ M1 b1 m1, (∀ k nn mc ms, k + (m1 - m0) ≤ mc → nn + 2 * (m1 - m0) ≤ ms → WP G iX3_putDescription d mc ms none M1 105 [some (.ref (aLk B o)), some (.ref A), none] [] M0 k nn) ∧ SB G A b1 m1 (t ++ (pd4 C o ++ (pd5 C o ++ pd6 C o))) M1 ∧ Sx A M0 b0 m0 M1 b1 m1 := by
  intro M0 b0 m0 t h0 w0 hl0
  by_cases c : C (118 + o) = 0
  · obtain ⟨M1, b1, m1, wp1, h1, x1⟩ := pd_130 (d := d) hG hN hg hK ho hD (by omega) M0 b0 m0 _ h0 w0 (by have := lkS_len 76; have := lkS_len 81; have := lkS_len 83; have := lkS_len 85; have := lkS_len 87; have := lkS_len 92; have := lkS_len 98; have := lkS_len 100; have := lkS_len 102; first | omega | (simp only [List.length_append, ndg_len]; omega))
    have le1 := x1.2.2
    refine ⟨M1, b1, m1, fun k nn mc ms hk hnn => ?_, by rw [pd4, if_pos c, List.nil_append]; exact h1, x1⟩
    refine wp_ald0 dX3_putDescription_105 ?_
    refine WP.to (At.rm w0.2.1).symm ?_
    refine g_Lock_waitSet dX3_putDescription_106 fX3_18 w0.1 ho ?_
    refine vi_Line0 (j := 16 + 5 * o) dX3_putDescription_109 kX3_89 (ct_isEmpty (d := d - 1) hG w0.1 (LNw ho)) w0.1 (LNw ho) rfl (by omega) (Nat.le_of_ble_eq_true rfl) (by omega) (by omega) ?_
    refine WP.to (At.rm w0.2.1) ?_
    refine wp_ifB_ne (tgt := 130) dX3_putDescription_112 (by decide) (fun _ => ?_) (fun z => absurd c z)
    exact wp1 _ _ _ _ (by omega) (by omega)
  · obtain ⟨N, hN6, hNq, hmm⟩ := hD.2.2.2.2
    obtain ⟨fs0, hA0, hE0⟩ := h0.obj
    obtain ⟨M1, b1, m1, ct1, h1, x1⟩ := sx_appS (d := d - 1) hG hN h0 (hK 98 (by decide)).2 (by have := lkS_len 76; have := lkS_len 81; have := lkS_len 83; have := lkS_len 85; have := lkS_len 87; have := lkS_len 92; have := lkS_len 98; have := lkS_len 100; have := lkS_len 102; first | omega | (simp only [List.length_append, ndg_len]; omega)) (by omega)
    have w1 := w0.sx x1
    have le1 := x1.2.2
    obtain ⟨fs1, hA1, hE1⟩ := h1.obj
    obtain ⟨M2, b2, m2, ct2, h2, x2⟩ := sx_putMem (d := d - 1) (N := N) hG hN hg (LNw (G := G) (B := B) ho) hNq hN6 hmm h1 w1 (by have := lkS_len 76; have := lkS_len 81; have := lkS_len 83; have := lkS_len 85; have := lkS_len 87; have := lkS_len 92; have := lkS_len 98; have := lkS_len 100; have := lkS_len 102; first | omega | (simp only [List.length_append, ndg_len]; omega)) (by omega)
    have w2 := w1.sx x2
    have le2 := x2.2.2
    have ct2w : Ct G (d - 1) yX2_putMembers iX2_putMembers [.ref (B + (16 + 5 * o)), .ref A] (Wm G B C M1.2.1 M1.1 M1.2.2) (m2 - m1) (2 * (m2 - m1)) none M2 := by show Ct _ _ _ _ _ (Rm (wR G B) C M1.2.1 M1.1 M1.2.2) _ _ _ _; rw [At.rm (L := M1.1) (sz := M1.2.2) w1.2.1]; exact ct2
    have hml : (memN C (174 + 6 * o) N 0).length ≤ 6 := by rw [memN_len hmm N 0 (by omega)]; exact hN6
    obtain ⟨M3, b3, m3, wp3, h3, x3⟩ := pd_130 (d := d) hG hN hg hK ho hD (by omega) M2 b2 m2 _ h2 w2 (by have := lkS_len 76; have := lkS_len 81; have := lkS_len 83; have := lkS_len 85; have := lkS_len 87; have := lkS_len 92; have := lkS_len 98; have := lkS_len 100; have := lkS_len 102; first | omega | (simp only [List.length_append, ndg_len]; omega))
    have le3 := x3.2.2
    refine ⟨M3, b3, m3, fun k nn mc ms hk hnn => ?_, by rw [pd4, if_neg c, hNq, ntn (by omega)]; simp only [List.append_assoc, List.nil_append, List.append_nil] at *; exact h3, (x1.tr x2).tr x3⟩
    refine wp_ald0 dX3_putDescription_105 ?_
    refine WP.to (At.rm w0.2.1).symm ?_
    refine g_Lock_waitSet dX3_putDescription_106 fX3_18 w0.1 ho ?_
    refine vi_Line0 (j := 16 + 5 * o) dX3_putDescription_109 kX3_89 (ct_isEmpty (d := d - 1) hG w0.1 (LNw ho)) w0.1 (LNw ho) rfl (by omega) (Nat.le_of_ble_eq_true rfl) (by omega) (by omega) ?_
    refine WP.to (At.rm w0.2.1) ?_
    refine wp_ifB_ne (tgt := 130) dX3_putDescription_112 (by decide) (fun z => absurd z c) (fun _ => ?_)
    refine wp_ald1 dX3_putDescription_115 ?_
    refine wp_ldcS dX3_putDescription_116 (hK 98 (by decide)).1 ?_
    refine wp_callV (As := [.ref (la 98)]) dX3_putDescription_118 kX3_70 ct1 hA0 hE0 rfl rfl (by omega) (by omega) (by omega) rfl (Nat.le_of_ble_eq_true rfl) ?_
    refine wp_pop dX3_putDescription_121 rfl ?_
    refine wp_ald0 dX3_putDescription_122 ?_
    refine WP.to (At.rm w1.2.1).symm ?_
    refine g_Lock_waitSet dX3_putDescription_123 fX3_18 w1.1 ho ?_
    refine WP.to (At.rm w1.2.1) ?_
    refine wp_ald1 dX3_putDescription_126 ?_
    refine WP.to (At.rm w1.2.1).symm ?_
    refine v_Line (j := 16 + 5 * o) (As := [.ref A]) dX3_putDescription_127 kX3_94 ct2w w1.1 (LNw ho) rfl rfl (by omega) (by omega) (by omega) rfl (Nat.le_of_ble_eq_true rfl) ?_
    exact wp3 _ _ _ _ (by omega) (by omega)

set_option maxHeartbeats 4000000 in
theorem pd_80 {G : GG} {d B A : Nat} {C : Nat → Int32} {fm : Value} {o : Nat} {la : Nat → Nat}  (hG : GOK G) (hN : GNS G fm) (hg : GDg G) (hK : GLk G la) (ho : o < 8) (hD : DCK C o) (hdp : 8 ≤ d) : ∀ (M0 : Mem) (b0 m0 : Nat) (t : List Nat), SB G A b0 m0 t M0 → WSB G B C A b0 M0 → t.length ≤ 110 → ∃ M1 b1 m1, (∀ k nn mc ms, k + (m1 - m0) ≤ mc → nn + 2 * (m1 - m0) ≤ ms → WP G iX3_putDescription d mc ms none M1 80 [some (.ref (aLk B o)), some (.ref A), none] [] M0 k nn) ∧ SB G A b1 m1 (t ++ (pd3 C o ++ (pd4 C o ++ (pd5 C o ++ pd6 C o)))) M1 ∧ Sx A M0 b0 m0 M1 b1 m1 := by
  intro M0 b0 m0 t h0 w0 hl0
  by_cases c : C (110 + o) = 0
  · obtain ⟨M1, b1, m1, wp1, h1, x1⟩ := pd_105 (d := d) hG hN hg hK ho hD (by omega) M0 b0 m0 _ h0 w0 (by have := lkS_len 76; have := lkS_len 81; have := lkS_len 83; have := lkS_len 85; have := lkS_len 87; have := lkS_len 92; have := lkS_len 98; have := lkS_len 100; have := lkS_len 102; first | omega | (simp only [List.length_append, ndg_len]; omega))
    have le1 := x1.2.2
    refine ⟨M1, b1, m1, fun k nn mc ms hk hnn => ?_, by rw [pd3, if_pos c, List.nil_append]; exact h1, x1⟩
    refine wp_ald0 dX3_putDescription_80 ?_
    refine WP.to (At.rm w0.2.1).symm ?_
    refine g_Lock_queue dX3_putDescription_81 fX3_12 w0.1 ho ?_
    refine vi_Line0 (j := 14 + 5 * o) dX3_putDescription_84 kX3_89 (ct_isEmpty (d := d - 1) hG w0.1 (LNq ho)) w0.1 (LNq ho) rfl (by omega) (Nat.le_of_ble_eq_true rfl) (by omega) (by omega) ?_
    refine WP.to (At.rm w0.2.1) ?_
    refine wp_ifB_ne (tgt := 105) dX3_putDescription_87 (by decide) (fun _ => ?_) (fun z => absurd c z)
    exact wp1 _ _ _ _ (by omega) (by omega)
  · obtain ⟨N, hN6, hNq, hmm⟩ := hD.2.2.2.1
    obtain ⟨fs0, hA0, hE0⟩ := h0.obj
    obtain ⟨M1, b1, m1, ct1, h1, x1⟩ := sx_appS (d := d - 1) hG hN h0 (hK 92 (by decide)).2 (by have := lkS_len 76; have := lkS_len 81; have := lkS_len 83; have := lkS_len 85; have := lkS_len 87; have := lkS_len 92; have := lkS_len 98; have := lkS_len 100; have := lkS_len 102; first | omega | (simp only [List.length_append, ndg_len]; omega)) (by omega)
    have w1 := w0.sx x1
    have le1 := x1.2.2
    obtain ⟨fs1, hA1, hE1⟩ := h1.obj
    obtain ⟨M2, b2, m2, ct2, h2, x2⟩ := sx_putMem (d := d - 1) (N := N) hG hN hg (LNq (G := G) (B := B) ho) hNq hN6 hmm h1 w1 (by have := lkS_len 76; have := lkS_len 81; have := lkS_len 83; have := lkS_len 85; have := lkS_len 87; have := lkS_len 92; have := lkS_len 98; have := lkS_len 100; have := lkS_len 102; first | omega | (simp only [List.length_append, ndg_len]; omega)) (by omega)
    have w2 := w1.sx x2
    have le2 := x2.2.2
    have ct2w : Ct G (d - 1) yX2_putMembers iX2_putMembers [.ref (B + (14 + 5 * o)), .ref A] (Wm G B C M1.2.1 M1.1 M1.2.2) (m2 - m1) (2 * (m2 - m1)) none M2 := by show Ct _ _ _ _ _ (Rm (wR G B) C M1.2.1 M1.1 M1.2.2) _ _ _ _; rw [At.rm (L := M1.1) (sz := M1.2.2) w1.2.1]; exact ct2
    have hml : (memN C (126 + 6 * o) N 0).length ≤ 6 := by rw [memN_len hmm N 0 (by omega)]; exact hN6
    obtain ⟨M3, b3, m3, wp3, h3, x3⟩ := pd_105 (d := d) hG hN hg hK ho hD (by omega) M2 b2 m2 _ h2 w2 (by have := lkS_len 76; have := lkS_len 81; have := lkS_len 83; have := lkS_len 85; have := lkS_len 87; have := lkS_len 92; have := lkS_len 98; have := lkS_len 100; have := lkS_len 102; first | omega | (simp only [List.length_append, ndg_len]; omega))
    have le3 := x3.2.2
    refine ⟨M3, b3, m3, fun k nn mc ms hk hnn => ?_, by rw [pd3, if_neg c, hNq, ntn (by omega)]; simp only [List.append_assoc, List.nil_append, List.append_nil] at *; exact h3, (x1.tr x2).tr x3⟩
    refine wp_ald0 dX3_putDescription_80 ?_
    refine WP.to (At.rm w0.2.1).symm ?_
    refine g_Lock_queue dX3_putDescription_81 fX3_12 w0.1 ho ?_
    refine vi_Line0 (j := 14 + 5 * o) dX3_putDescription_84 kX3_89 (ct_isEmpty (d := d - 1) hG w0.1 (LNq ho)) w0.1 (LNq ho) rfl (by omega) (Nat.le_of_ble_eq_true rfl) (by omega) (by omega) ?_
    refine WP.to (At.rm w0.2.1) ?_
    refine wp_ifB_ne (tgt := 105) dX3_putDescription_87 (by decide) (fun z => absurd z c) (fun _ => ?_)
    refine wp_ald1 dX3_putDescription_90 ?_
    refine wp_ldcS dX3_putDescription_91 (hK 92 (by decide)).1 ?_
    refine wp_callV (As := [.ref (la 92)]) dX3_putDescription_93 kX3_70 ct1 hA0 hE0 rfl rfl (by omega) (by omega) (by omega) rfl (Nat.le_of_ble_eq_true rfl) ?_
    refine wp_pop dX3_putDescription_96 rfl ?_
    refine wp_ald0 dX3_putDescription_97 ?_
    refine WP.to (At.rm w1.2.1).symm ?_
    refine g_Lock_queue dX3_putDescription_98 fX3_12 w1.1 ho ?_
    refine WP.to (At.rm w1.2.1) ?_
    refine wp_ald1 dX3_putDescription_101 ?_
    refine WP.to (At.rm w1.2.1).symm ?_
    refine v_Line (j := 14 + 5 * o) (As := [.ref A]) dX3_putDescription_102 kX3_94 ct2w w1.1 (LNq ho) rfl rfl (by omega) (by omega) (by omega) rfl (Nat.le_of_ble_eq_true rfl) ?_
    exact wp3 _ _ _ _ (by omega) (by omega)

set_option maxHeartbeats 4000000 in
theorem pd_47 {G : GG} {d B A : Nat} {C : Nat → Int32} {fm : Value} {o : Nat} {la : Nat → Nat}  (hG : GOK G) (hN : GNS G fm) (hg : GDg G) (hK : GLk G la) (ho : o < 8) (hD : DCK C o) (hdp : 8 ≤ d) : ∀ (M0 : Mem) (b0 m0 : Nat) (t : List Nat), SB G A b0 m0 t M0 → WSB G B C A b0 M0 → t.length ≤ 60 → ∃ M1 b1 m1, (∀ k nn mc ms, k + (m1 - m0) ≤ mc → nn + 2 * (m1 - m0) ≤ ms → WP G iX3_putDescription d mc ms none M1 47 [some (.ref (aLk B o)), some (.ref A), none] [] M0 k nn) ∧ SB G A b1 m1 (t ++ (pd2 C o ++ (pd3 C o ++ (pd4 C o ++ (pd5 C o ++ pd6 C o))))) M1 ∧ Sx A M0 b0 m0 M1 b1 m1 := by
  intro M0 b0 m0 t h0 w0 hl0
  by_cases c : ¬ C (62 + o) ≤ 0
  · obtain ⟨⟨u, u1, u2⟩, cc, c1, c2⟩ := hD.2.1 c
    have hv : C (54 + o) = nI (nt (C (54 + o))) := by rw [u2, ntn (by omega)]
    have hvb : nt (C (54 + o)) < 6 := by rw [u2, ntn (by omega)]; exact u1
    have hy : C (62 + o) = nI (nt (C (62 + o))) := by rw [c2, ntn (by omega)]
    have hyb : nt (C (62 + o)) < 1000000000 := by rw [c2, ntn (by omega)]; exact c1
    have hd1 := sb_dg_in (nt (C (54 + o)))
    have hd2 := sb_dg_in (nt (C (62 + o)))
    obtain ⟨fs0, hA0, hE0⟩ := h0.obj
    obtain ⟨M1, b1, m1, ct1, h1, x1⟩ := sx_appS (d := d - 1) hG hN h0 (hK 85 (by decide)).2 (by have := lkS_len 76; have := lkS_len 81; have := lkS_len 83; have := lkS_len 85; have := lkS_len 87; have := lkS_len 92; have := lkS_len 98; have := lkS_len 100; have := lkS_len 102; first | omega | (simp only [List.length_append, ndg_len]; omega)) (by omega)
    have w1 := w0.sx x1
    have le1 := x1.2.2
    obtain ⟨fs1, hA1, hE1⟩ := h1.obj
    obtain ⟨M2, b2, m2, ct2, h2, x2⟩ := sx_appI (d := d - 1) (V := nt (C (54 + o))) hG hN hg h1 (by omega) (by have := lkS_len 76; have := lkS_len 85; have := lkS_len 87; have := lkS_len 100; first | omega | (simp only [List.length_append, ndg_len]; omega)) (by omega)
    have w2 := w1.sx x2
    have le2 := x2.2.2
    obtain ⟨fs2, hA2, hE2⟩ := h2.obj
    obtain ⟨M3, b3, m3, ct3, h3, x3⟩ := sx_appS (d := d - 1) hG hN h2 (hK 87 (by decide)).2 (by have := lkS_len 76; have := lkS_len 81; have := lkS_len 83; have := lkS_len 85; have := lkS_len 87; have := lkS_len 92; have := lkS_len 98; have := lkS_len 100; have := lkS_len 102; first | omega | (simp only [List.length_append, ndg_len]; omega)) (by omega)
    have w3 := w2.sx x3
    have le3 := x3.2.2
    obtain ⟨fs3, hA3, hE3⟩ := h3.obj
    obtain ⟨M4, b4, m4, ct4, h4, x4⟩ := sx_appI (d := d - 1) (V := nt (C (62 + o))) hG hN hg h3 (by omega) (by have := lkS_len 76; have := lkS_len 85; have := lkS_len 87; have := lkS_len 100; first | omega | (simp only [List.length_append, ndg_len]; omega)) (by omega)
    have w4 := w3.sx x4
    have le4 := x4.2.2
    obtain ⟨M5, b5, m5, wp5, h5, x5⟩ := pd_80 (d := d) hG hN hg hK ho hD (by omega) M4 b4 m4 _ h4 w4 (by have := lkS_len 76; have := lkS_len 81; have := lkS_len 83; have := lkS_len 85; have := lkS_len 87; have := lkS_len 92; have := lkS_len 98; have := lkS_len 100; have := lkS_len 102; first | omega | (simp only [List.length_append, ndg_len]; omega))
    have le5 := x5.2.2
    refine ⟨M5, b5, m5, fun k nn mc ms hk hnn => ?_, by rw [pd2, if_pos c]; simp only [List.append_assoc, List.nil_append, List.append_nil] at *; exact h5, (((x1.tr x2).tr x3).tr x4).tr x5⟩
    refine wp_ald0 dX3_putDescription_47 ?_
    refine WP.to (At.rm w0.2.1).symm ?_
    refine vi_Lock0 dX3_putDescription_48 kX3_56 (ct_isHeld (d := d - 1) hG w0.1 ho) w0.1 ho rfl (by omega) (Nat.le_of_ble_eq_true rfl) (by omega) (by omega) ?_
    refine WP.to (At.rm w0.2.1) ?_
    refine wp_ifB_eq (tgt := 80) dX3_putDescription_51 (by decide) (fun z => absurd c z) (fun _ => ?_)
    refine wp_ald1 dX3_putDescription_54 ?_
    refine wp_ldcS dX3_putDescription_55 (hK 85 (by decide)).1 ?_
    refine wp_callV (As := [.ref (la 85)]) dX3_putDescription_57 kX3_70 ct1 hA0 hE0 rfl rfl (by omega) (by omega) (by omega) rfl (Nat.le_of_ble_eq_true rfl) ?_
    refine wp_ald0 dX3_putDescription_60 ?_
    refine WP.to (At.rm w1.2.1).symm ?_
    refine g_Lock_holder dX3_putDescription_61 fX3_60 w1.1 ho ?_
    refine WP.to (At.rm w1.2.1) ?_
    rw [hv]
    refine wp_callV (As := [.int (nI (nt (C (54 + o))))]) dX3_putDescription_64 kX3_78 ct2 hA1 hE1 rfl rfl (by omega) (by omega) (by omega) rfl (Nat.le_of_ble_eq_true rfl) ?_
    refine wp_ldcS dX3_putDescription_67 (hK 87 (by decide)).1 ?_
    refine wp_callV (As := [.ref (la 87)]) dX3_putDescription_69 kX3_70 ct3 hA2 hE2 rfl rfl (by omega) (by omega) (by omega) rfl (Nat.le_of_ble_eq_true rfl) ?_
    refine wp_ald0 dX3_putDescription_72 ?_
    refine WP.to (At.rm w3.2.1).symm ?_
    refine g_Lock_entries dX3_putDescription_73 fX3_53 w3.1 ho ?_
    refine WP.to (At.rm w3.2.1) ?_
    rw [hy]
    refine wp_callV (As := [.int (nI (nt (C (62 + o))))]) dX3_putDescription_76 kX3_78 ct4 hA3 hE3 rfl rfl (by omega) (by omega) (by omega) rfl (Nat.le_of_ble_eq_true rfl) ?_
    refine wp_pop dX3_putDescription_79 rfl ?_
    exact wp5 _ _ _ _ (by omega) (by omega)
  · obtain ⟨M1, b1, m1, wp1, h1, x1⟩ := pd_80 (d := d) hG hN hg hK ho hD (by omega) M0 b0 m0 _ h0 w0 (by have := lkS_len 76; have := lkS_len 81; have := lkS_len 83; have := lkS_len 85; have := lkS_len 87; have := lkS_len 92; have := lkS_len 98; have := lkS_len 100; have := lkS_len 102; first | omega | (simp only [List.length_append, ndg_len]; omega))
    have le1 := x1.2.2
    refine ⟨M1, b1, m1, fun k nn mc ms hk hnn => ?_, by rw [pd2, if_neg c, List.nil_append]; exact h1, x1⟩
    refine wp_ald0 dX3_putDescription_47 ?_
    refine WP.to (At.rm w0.2.1).symm ?_
    refine vi_Lock0 dX3_putDescription_48 kX3_56 (ct_isHeld (d := d - 1) hG w0.1 ho) w0.1 ho rfl (by omega) (Nat.le_of_ble_eq_true rfl) (by omega) (by omega) ?_
    refine WP.to (At.rm w0.2.1) ?_
    refine wp_ifB_eq (tgt := 80) dX3_putDescription_51 (by decide) (fun _ => ?_) (fun z => absurd z c)
    exact wp1 _ _ _ _ (by omega) (by omega)

set_option maxHeartbeats 4000000 in
theorem pd_9 {G : GG} {d B A : Nat} {C : Nat → Int32} {fm : Value} {o : Nat} {la : Nat → Nat} {q : Prop} [Decidable q] (hG : GOK G) (hN : GNS G fm) (hg : GDg G) (hK : GLk G la) (ho : o < 8) (hD : DCK C o) (hdp : 8 ≤ d) : ∀ (M0 : Mem) (b0 m0 : Nat) (t : List Nat), SB G A b0 m0 t M0 → WSB G B C A b0 M0 → t.length ≤ 25 → ∃ M1 b1 m1, (∀ k nn mc ms, k + (m1 - m0) ≤ mc → nn + 2 * (m1 - m0) ≤ ms → WP G iX3_putDescription d mc ms none M1 9 [some (.ref (aLk B o)), some (.ref A), some (.int (bI q))] [] M0 k nn) ∧ SB G A b1 m1 (t ++ (pd1 C o q ++ (pd2 C o ++ (pd3 C o ++ (pd4 C o ++ (pd5 C o ++ pd6 C o)))))) M1 ∧ Sx A M0 b0 m0 M1 b1 m1 := by
  intro M0 b0 m0 t h0 w0 hl0
  by_cases c : C (46 + o) = 2
  · obtain ⟨u, u1, u2⟩ := hD.1 c
    have hv : C (70 + o) = nI (nt (C (70 + o))) := by rw [u2, ntn (by omega)]
    have hvb : nt (C (70 + o)) < 6 := by rw [u2, ntn (by omega)]; exact u1
    have hd1 : sb_dg (nt (C (70 + o))) = 1 := num1N (by omega)
    by_cases cq : q
    · obtain ⟨fs0, hA0, hE0⟩ := h0.obj
      obtain ⟨M1, b1, m1, ct1, h1, x1⟩ := sx_appS (d := d - 1) hG hN h0 (hK 76 (by decide)).2 (by have := lkS_len 76; have := lkS_len 81; have := lkS_len 83; have := lkS_len 85; have := lkS_len 87; have := lkS_len 92; have := lkS_len 98; have := lkS_len 100; have := lkS_len 102; first | omega | (simp only [List.length_append, ndg_len]; omega)) (by omega)
      have w1 := w0.sx x1
      have le1 := x1.2.2
      obtain ⟨fs1, hA1, hE1⟩ := h1.obj
      obtain ⟨M2, b2, m2, ct2, h2, x2⟩ := sx_appI (d := d - 1) (V := nt (C (70 + o))) hG hN hg h1 (by omega) (by have := lkS_len 76; have := lkS_len 85; have := lkS_len 87; have := lkS_len 100; first | omega | (simp only [List.length_append, ndg_len]; omega)) (by omega)
      have w2 := w1.sx x2
      have le2 := x2.2.2
      obtain ⟨fs2, hA2, hE2⟩ := h2.obj
      obtain ⟨M3, b3, m3, ct3, h3, x3⟩ := sx_appS (d := d - 1) hG hN h2 (hK 81 (by decide)).2 (by have := lkS_len 76; have := lkS_len 81; have := lkS_len 83; have := lkS_len 85; have := lkS_len 87; have := lkS_len 92; have := lkS_len 98; have := lkS_len 100; have := lkS_len 102; first | omega | (simp only [List.length_append, ndg_len]; omega)) (by omega)
      have w3 := w2.sx x3
      have le3 := x3.2.2
      obtain ⟨M4, b4, m4, wp4, h4, x4⟩ := pd_47 (d := d) hG hN hg hK ho hD (by omega) M3 b3 m3 _ h3 w3 (by have := lkS_len 76; have := lkS_len 81; have := lkS_len 83; have := lkS_len 85; have := lkS_len 87; have := lkS_len 92; have := lkS_len 98; have := lkS_len 100; have := lkS_len 102; first | omega | (simp only [List.length_append, ndg_len]; omega))
      have le4 := x4.2.2
      refine ⟨M4, b4, m4, fun k nn mc ms hk hnn => ?_, by rw [pd1, if_pos c, if_pos cq]; simp only [List.append_assoc, List.nil_append, List.append_nil] at *; exact h4, ((x1.tr x2).tr x3).tr x4⟩
      refine wp_ald0 dX3_putDescription_9 ?_
      refine WP.to (At.rm w0.2.1).symm ?_
      refine g_Lock_state dX3_putDescription_10 fX3_28 w0.1 ho ?_
      refine WP.to (At.rm w0.2.1) ?_
      refine wp_iconst (v := 2) dX3_putDescription_13 (by decide) ?_
      refine wp_icmp_ne (tgt := 47) dX3_putDescription_14 (by decide) (fun z => absurd c z) (fun _ => ?_)
      refine wp_ald1 dX3_putDescription_17 ?_
      refine wp_ldcS dX3_putDescription_18 (hK 76 (by decide)).1 ?_
      refine wp_callV (As := [.ref (la 76)]) dX3_putDescription_20 kX3_70 ct1 hA0 hE0 rfl rfl (by omega) (by omega) (by omega) rfl (Nat.le_of_ble_eq_true rfl) ?_
      refine wp_ald0 dX3_putDescription_23 ?_
      refine WP.to (At.rm w1.2.1).symm ?_
      refine g_Lock_biasThread dX3_putDescription_24 fX3_34 w1.1 ho ?_
      refine WP.to (At.rm w1.2.1) ?_
      rw [hv]
      refine wp_callV (As := [.int (nI (nt (C (70 + o))))]) dX3_putDescription_27 kX3_78 ct2 hA1 hE1 rfl rfl (by omega) (by omega) (by omega) rfl (Nat.le_of_ble_eq_true rfl) ?_
      refine wp_pop dX3_putDescription_30 rfl ?_
      refine wp_ald1 dX3_putDescription_31 ?_
      refine wp_ild2 dX3_putDescription_32 ?_
      refine wp_ifB_eq (tgt := 41) dX3_putDescription_33 (by decide) (fun z => absurd cq z) (fun _ => ?_)
      refine wp_ldcS dX3_putDescription_36 (hK 81 (by decide)).1 ?_
      refine wp_goto (tgt := 43) dX3_putDescription_38 (by decide) ?_
      refine wp_callV (As := [.ref (la 81)]) dX3_putDescription_43 kX3_70 ct3 hA2 hE2 rfl rfl (by omega) (by omega) (by omega) rfl (Nat.le_of_ble_eq_true rfl) ?_
      refine wp_pop dX3_putDescription_46 rfl ?_
      exact WP.fg (by simp [lcle]) (wp4 _ _ _ _ (by omega) (by omega))
    · obtain ⟨fs0, hA0, hE0⟩ := h0.obj
      obtain ⟨M1, b1, m1, ct1, h1, x1⟩ := sx_appS (d := d - 1) hG hN h0 (hK 76 (by decide)).2 (by have := lkS_len 76; have := lkS_len 81; have := lkS_len 83; have := lkS_len 85; have := lkS_len 87; have := lkS_len 92; have := lkS_len 98; have := lkS_len 100; have := lkS_len 102; first | omega | (simp only [List.length_append, ndg_len]; omega)) (by omega)
      have w1 := w0.sx x1
      have le1 := x1.2.2
      obtain ⟨fs1, hA1, hE1⟩ := h1.obj
      obtain ⟨M2, b2, m2, ct2, h2, x2⟩ := sx_appI (d := d - 1) (V := nt (C (70 + o))) hG hN hg h1 (by omega) (by have := lkS_len 76; have := lkS_len 85; have := lkS_len 87; have := lkS_len 100; first | omega | (simp only [List.length_append, ndg_len]; omega)) (by omega)
      have w2 := w1.sx x2
      have le2 := x2.2.2
      obtain ⟨fs2, hA2, hE2⟩ := h2.obj
      obtain ⟨M3, b3, m3, ct3, h3, x3⟩ := sx_appS (d := d - 1) hG hN h2 (hK 83 (by decide)).2 (by have := lkS_len 76; have := lkS_len 81; have := lkS_len 83; have := lkS_len 85; have := lkS_len 87; have := lkS_len 92; have := lkS_len 98; have := lkS_len 100; have := lkS_len 102; first | omega | (simp only [List.length_append, ndg_len]; omega)) (by omega)
      have w3 := w2.sx x3
      have le3 := x3.2.2
      obtain ⟨M4, b4, m4, wp4, h4, x4⟩ := pd_47 (d := d) hG hN hg hK ho hD (by omega) M3 b3 m3 _ h3 w3 (by have := lkS_len 76; have := lkS_len 81; have := lkS_len 83; have := lkS_len 85; have := lkS_len 87; have := lkS_len 92; have := lkS_len 98; have := lkS_len 100; have := lkS_len 102; first | omega | (simp only [List.length_append, ndg_len]; omega))
      have le4 := x4.2.2
      refine ⟨M4, b4, m4, fun k nn mc ms hk hnn => ?_, by rw [pd1, if_pos c, if_neg cq]; simp only [List.append_assoc, List.nil_append, List.append_nil] at *; exact h4, ((x1.tr x2).tr x3).tr x4⟩
      refine wp_ald0 dX3_putDescription_9 ?_
      refine WP.to (At.rm w0.2.1).symm ?_
      refine g_Lock_state dX3_putDescription_10 fX3_28 w0.1 ho ?_
      refine WP.to (At.rm w0.2.1) ?_
      refine wp_iconst (v := 2) dX3_putDescription_13 (by decide) ?_
      refine wp_icmp_ne (tgt := 47) dX3_putDescription_14 (by decide) (fun z => absurd c z) (fun _ => ?_)
      refine wp_ald1 dX3_putDescription_17 ?_
      refine wp_ldcS dX3_putDescription_18 (hK 76 (by decide)).1 ?_
      refine wp_callV (As := [.ref (la 76)]) dX3_putDescription_20 kX3_70 ct1 hA0 hE0 rfl rfl (by omega) (by omega) (by omega) rfl (Nat.le_of_ble_eq_true rfl) ?_
      refine wp_ald0 dX3_putDescription_23 ?_
      refine WP.to (At.rm w1.2.1).symm ?_
      refine g_Lock_biasThread dX3_putDescription_24 fX3_34 w1.1 ho ?_
      refine WP.to (At.rm w1.2.1) ?_
      rw [hv]
      refine wp_callV (As := [.int (nI (nt (C (70 + o))))]) dX3_putDescription_27 kX3_78 ct2 hA1 hE1 rfl rfl (by omega) (by omega) (by omega) rfl (Nat.le_of_ble_eq_true rfl) ?_
      refine wp_pop dX3_putDescription_30 rfl ?_
      refine wp_ald1 dX3_putDescription_31 ?_
      refine wp_ild2 dX3_putDescription_32 ?_
      refine wp_ifB_eq (tgt := 41) dX3_putDescription_33 (by decide) (fun _ => ?_) (fun z => absurd z cq)
      refine wp_ldcS dX3_putDescription_41 (hK 83 (by decide)).1 ?_
      refine wp_callV (As := [.ref (la 83)]) dX3_putDescription_43 kX3_70 ct3 hA2 hE2 rfl rfl (by omega) (by omega) (by omega) rfl (Nat.le_of_ble_eq_true rfl) ?_
      refine wp_pop dX3_putDescription_46 rfl ?_
      exact WP.fg (by simp [lcle]) (wp4 _ _ _ _ (by omega) (by omega))
  · obtain ⟨M1, b1, m1, wp1, h1, x1⟩ := pd_47 (d := d) hG hN hg hK ho hD (by omega) M0 b0 m0 _ h0 w0 (by have := lkS_len 76; have := lkS_len 81; have := lkS_len 83; have := lkS_len 85; have := lkS_len 87; have := lkS_len 92; have := lkS_len 98; have := lkS_len 100; have := lkS_len 102; first | omega | (simp only [List.length_append, ndg_len]; omega))
    have le1 := x1.2.2
    refine ⟨M1, b1, m1, fun k nn mc ms hk hnn => ?_, by rw [pd1, if_neg c, List.nil_append]; exact h1, x1⟩
    refine wp_ald0 dX3_putDescription_9 ?_
    refine WP.to (At.rm w0.2.1).symm ?_
    refine g_Lock_state dX3_putDescription_10 fX3_28 w0.1 ho ?_
    refine WP.to (At.rm w0.2.1) ?_
    refine wp_iconst (v := 2) dX3_putDescription_13 (by decide) ?_
    refine wp_icmp_ne (tgt := 47) dX3_putDescription_14 (by decide) (fun _ => ?_) (fun z => absurd z c)
    exact WP.fg (by simp [lcle]) (wp1 _ _ _ _ (by omega) (by omega))

set_option maxHeartbeats 4000000 in
theorem sx_putDesc {G : GG} {d B A : Nat} {C : Nat → Int32} {fm : Value} {o : Nat} {la : Nat → Nat} {q : Prop} [Decidable q] {M0 : Mem} {b0 m0 : Nat} (hG : GOK G) (hN : GNS G fm) (hg : GDg G) (hK : GLk G la) (ho : o < 8) (hD : DCK C o) (h0 : SB G A b0 m0 [] M0) (w0 : WSB G B C A b0 M0) (hdp : 8 ≤ d) : ∃ M1 b1 m1, Ct G d yX3_putDescription iX3_putDescription [.ref (aLk B o), .ref A, .int (bI q)] M0 (m1 - m0) (2 * (m1 - m0)) none M1 ∧ SB G A b1 m1 (pdT C o q) M1 ∧ Sx A M0 b0 m0 M1 b1 m1 := by
  obtain ⟨fs0, hA0, hE0⟩ := h0.obj
  obtain ⟨M1, b1, m1, ct1, h1, x1⟩ := sx_appS (d := d - 1) hG hN h0 (hK _ (swI_in (C (46 + o)))).2 (by have := lkS_len (swI (C (46 + o))); show 0 + _ ≤ _; omega) (by omega)
  have w1 := w0.sx x1
  have le1 := x1.2.2
  obtain ⟨M2, b2, m2, wp2, h2, x2⟩   := pd_9 (d := d) (q := q) hG hN hg hK ho hD (by omega) M1 b1 m1 _ h1 w1 (by have := lkS_len (swI (C (46 + o))); show (([] : List Nat) ++ _).length ≤ _; rw [List.nil_append]; omega)
  have le2 := x2.2.2
  refine ⟨M2, b2, m2, ?_, h2, x1.tr x2⟩
  refine Ct.of 0 (by decide) rfl (by decide) (Nat.le_of_ble_eq_true rfl) ?_
  show WP _ _ _ _ _ _ _ 0 [some (.ref (aLk B o)), some (.ref A), some (.int (bI q))] [] _ 0 0
  refine wp_ald1 dX3_putDescription_0 ?_
  refine wp_ald0 dX3_putDescription_1 ?_
  refine WP.to (At.rm w0.2.1).symm ?_
  refine vi_Lock0 dX3_putDescription_2 kX3_66 (ct_stateWord (d := d - 1) hG w0.1 ho hK) w0.1 ho rfl (by omega) (Nat.le_of_ble_eq_true rfl) (by omega) (by omega) ?_
  refine WP.to (At.rm w0.2.1) ?_
  refine wp_callV (As := [.ref (la (swI (C (46 + o))))]) dX3_putDescription_5 kX3_70 ct1 hA0 hE0 rfl rfl (by omega) (by omega) (by omega) rfl (Nat.le_of_ble_eq_true rfl) ?_
  refine wp_pop dX3_putDescription_8 rfl ?_
  exact wp2 _ _ _ _ (by omega) (by omega)
