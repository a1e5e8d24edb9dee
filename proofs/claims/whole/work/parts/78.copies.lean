/-! copies between two worlds and between two journals -/
def bl (x : Int32) : Prop := x = 0 ∨ x = 1
theorem bl_nar {x : Int32} (h : bl x) : narrow .boolean (.int x) = .int x := by
  rcases h with rfl | rfl <;> rfl
theorem bl_fit {x : Int32} (h : bl x) : fits .boolean (.int x) = true := by
  rcases h with rfl | rfl <;> rfl
def blk (lo z : Nat) (C' C : Nat → Int32) : Nat → Int32 := fun q => if lo ≤ q ∧ q < lo + z then C' q else C q
section RGC
variable {G : GG} {mi : MI} {d mc ms : Nat} {res : Option Value} {M' : Mem} {pc : Nat} {lc : List (Option Value)} {st : List Value} {k n : Nat} {r r' : Rg} {F F' : Nat → Int32} {E0 : Nat → va_E} {L : List Nat} {sz : Nat}
theorem va_cpy0 {f g : Nat → Int32} {z i : Nat} : va_cpy f g 0 0 z i = if i < z then f i else g i := by
  by_cases h : i < z
  · rw [if_pos h, sb_cpy0 h]
  · rw [if_neg h]
    unfold va_cpy
    rw [if_neg (by omega)]
theorem rg_copy {idx j j' a0 a1 z lo : Nat} {zz : Int32} (hd : decode mi.2.1 pc = .ok (.invokestatic idx, 3)) (w1 : Cond.methodLink mi.1 idx arraycopyName ∈ lw_g) (hG : GOK G) (hdj : Dj r r') (ha : At r' F' E0) (hr : rOK r) (hL : rIn r L) (hL' : rIn r' L) (e1 : a1 = r.2.2.1 + j) (e0 : a0 = r'.2.2.1 + j') (hj : j < r.2.2.2) (hj' : j' < r'.2.2.2) (hs : r.1 j = .inr (cyI G, z, none)) (hs' : r'.1 j' = .inr (cyI G, z, none)) (hq : ∀ i, i < z → r.2.1 j i = lo + i) (hq' : ∀ i, i < z → r'.2.1 j' i = lo + i) (hzz : zz = nI z) (hz : z < 1000) (hd1 : 1 ≤ d) (hsum : (st.map fun v => v.category).sum ≤ 8)
    (kk : WP G mi d mc ms res M' (pc + 3) lc st (Rm r (blk lo z F' F) E0 L sz) k n) : WP G mi d mc ms res M' pc lc (.int zz :: .int 0 :: .ref a1 :: .int 0 :: .ref a0 :: st) (Rm r F E0 L sz) k n := by
  subst e1; subst e0; subst hzz
  have hne : r'.2.2.1 + j' ≠ r.2.2.1 + j := by
    rcases hdj with h | h <;> omega
  have hat : rE r F E0 (r'.2.2.1 + j') = .inl (cyI G, z, .inl (fun i => if i < z then F' (lo + i) else 0)) := by
    rw [rE_out (by rcases hdj with h | h <;> omega), ← ha, rE_at hj', hs']
    show Sum.inl (cyI G, z, Sum.inl _) = _
    congr 4
    funext i
    by_cases hi : i < z
    · rw [if_pos hi, if_pos hi]
      show F' (r'.2.1 j' i) = _
      rw [hq' i hi]
    · rw [if_neg hi, if_neg hi]
  have hat2 : rE r F E0 (r.2.2.1 + j) = .inl (cyI G, z, .inl (fun i => if i < z then F (lo + i) else 0)) := by
    rw [rE_at hj, hs]
    show Sum.inl (cyI G, z, Sum.inl _) = _
    congr 4
    funext i
    by_cases hi : i < z
    · rw [if_pos hi, if_pos hi]
      show F (r.2.1 j i) = _
      rw [hq i hi]
    · rw [if_neg hi, if_neg hi]
  refine wp_copy (t := 0) (c1 := cyI G) (n0 := z) (n1 := z) hd w1 mw_ac1 mw_ac2 mw_ac3 hG.1 rfl (Or.inl ⟨hL' j' hj', hat⟩) (hL j hj) hat2 (by decide) (by decide) (nI_pos (by omega)) (by rw [nI_clamp (by omega)]; show 0 + z ≤ z; omega) (by rw [nI_clamp (by omega)]; show 0 + z ≤ z; omega) (fun _ _ => rfl) hd1 hsum ?_
  refine WP.to ?_ kk
  show (L, va_up (rE r F E0) (r.2.2.1 + j) _, sz) = (L, rE r (blk lo z F' F) E0, sz)
  congr 2
  funext a
  by_cases hA : a = r.2.2.1 + j
  · subst hA
    rw [rE_at hj, hs]
    simp only [va_up, if_true]
    show Sum.inl (cyI G, z, Sum.inl _) = Sum.inl (cyI G, z, Sum.inl _)
    congr 4
    funext i
    rw [nI_clamp (by omega), show (0 : Int32).toNatClampNeg = 0 from rfl, va_cpy0]
    by_cases hi : i < z
    · rw [if_pos hi, if_pos hi, if_pos hi]
      show _ = blk lo z F' F (r.2.1 j i)
      rw [hq i hi]
      unfold blk
      rw [if_pos ⟨Nat.le_add_right _ _, by omega⟩]
    · rw [if_neg hi, if_neg hi, if_neg hi]
  · simp only [va_up, if_neg hA]
    by_cases hin : r.2.2.1 ≤ a ∧ a < r.2.2.1 + r.2.2.2
    · unfold rE
      rw [if_pos hin, if_pos hin]
      apply inst_congr
      intro g hg
      unfold blk
      rw [if_neg]
      rintro ⟨h1, h2⟩
      have := (hr (a - r.2.2.1) g j (r.2.1 (a - r.2.2.1) g - lo) (by omega) hj hg (by rw [hs]; show _ < z; omega) (by rw [hq _ (by omega)]; omega)).1
      omega
    · rw [rE_out hin, rE_out hin]
end RGC
def cpyS (C2 : Nat → Int32) (t : Nat) (C : Nat → Int32) : Nat → Int32 := upd (upd (upd (upd (upd (upd (C) (10 + t) (C2 (10 + t))) (16 + t) (C2 (16 + t))) (28 + t) (C2 (28 + t))) (34 + t) (C2 (34 + t))) (40 + t) (C2 (40 + t))) (22 + t) (C2 (22 + t))
set_option maxHeartbeats 2000000 in
theorem cc_strand {G : GG} {B B2 : Nat} {C C2 : Nat → Int32} {E0 : Nat → va_E} {L : List Nat} {sz d : Nat} {t : Nat} (hG : GOK G) (hL : rIn (wR G B) L) (hL2 : rIn (wR G B2) L) (hdj : Dj (wR G B) (wR G B2)) (ha : At (wR G B2) C2 E0) (ht : t < 6) (hb : ∀ q, (16 ≤ q ∧ q < 22) ∨ (86 ≤ q ∧ q < 94) ∨ (228 ≤ q ∧ q < 231) → bl (C2 q)) : Ct G d yX8_copyFrom iX8_copyFrom [.ref (aSt B t), .ref (aSt B2 t)] (Wm G B C E0 L sz) 0 0 none (Wm G B (cpyS C2 t C) E0 L sz) := by
  refine Ct.of 0 (by decide) rfl (by decide) (Nat.le_of_ble_eq_true rfl) ?_
  show WP _ _ _ _ _ _ _ 0 [some (.ref (aSt B t)), some (.ref (aSt B2 t))] [] _ 0 0
  refine wp_ald0 dX8_copyFrom_0 ?_
  refine wp_ald1 dX8_copyFrom_1 ?_
  refine WP.to (At.vw hdj ha) ?_
  refine g_Strand_state dX8_copyFrom_2 fX8_11 hL2 (by assumption) ?_
  refine WP.to (At.vw hdj ha).symm ?_
  refine p_Strand_state dX8_copyFrom_5 pX8_11 hL (by assumption) ?_
  refine wp_ald0 dX8_copyFrom_8 ?_
  refine wp_ald1 dX8_copyFrom_9 ?_
  refine WP.to (At.vw hdj ha) ?_
  refine g_Strand_interrupted dX8_copyFrom_10 fX8_15 hL2 (by assumption) ?_
  refine WP.to (At.vw hdj ha).symm ?_
  refine p_Strand_interrupted dX8_copyFrom_13 pX8_15 hL (by assumption) (bl_nar (hb _ (by omega))) (bl_fit (hb _ (by omega))) ?_
  refine wp_ald0 dX8_copyFrom_16 ?_
  refine wp_ald1 dX8_copyFrom_17 ?_
  refine WP.to (At.vw hdj ha) ?_
  refine g_Strand_place dX8_copyFrom_18 fX8_19 hL2 (by assumption) ?_
  refine WP.to (At.vw hdj ha).symm ?_
  refine p_Strand_place dX8_copyFrom_21 pX8_19 hL (by assumption) ?_
  refine wp_ald0 dX8_copyFrom_24 ?_
  refine wp_ald1 dX8_copyFrom_25 ?_
  refine WP.to (At.vw hdj ha) ?_
  refine g_Strand_limit dX8_copyFrom_26 fX8_22 hL2 (by assumption) ?_
  refine WP.to (At.vw hdj ha).symm ?_
  refine p_Strand_limit dX8_copyFrom_29 pX8_22 hL (by assumption) ?_
  refine wp_ald0 dX8_copyFrom_32 ?_
  refine wp_ald1 dX8_copyFrom_33 ?_
  refine WP.to (At.vw hdj ha) ?_
  refine g_Strand_dueEntries dX8_copyFrom_34 fX8_25 hL2 (by assumption) ?_
  refine WP.to (At.vw hdj ha).symm ?_
  refine p_Strand_dueEntries dX8_copyFrom_37 pX8_25 hL (by assumption) ?_
  refine wp_ald0 dX8_copyFrom_40 ?_
  refine wp_ald1 dX8_copyFrom_41 ?_
  refine WP.to (At.vw hdj ha) ?_
  refine g_Strand_waitEnding dX8_copyFrom_42 fX8_28 hL2 (by assumption) ?_
  refine WP.to (At.vw hdj ha).symm ?_
  refine p_Strand_waitEnding dX8_copyFrom_45 pX8_28 hL (by assumption) ?_
  exact wp_vret dX8_copyFrom_48 rfl (Nat.le_refl _) (Nat.le_refl _) (by first | with_reducible rfl | (simp only [cpyS]; done) | (simp only [cpyS]; rfl) | rfl) (by first | with_reducible rfl | (simp only [cpyS]; done) | (simp only [cpyS]; rfl) | rfl)

def cpyK (C2 : Nat → Int32) (c : Nat) (C : Nat → Int32) : Nat → Int32 := upd (upd (upd (C) (222 + c) (C2 (222 + c))) (225 + c) (C2 (225 + c))) (228 + c) (C2 (228 + c))
set_option maxHeartbeats 2000000 in
theorem cc_kind {G : GG} {B B2 : Nat} {C C2 : Nat → Int32} {E0 : Nat → va_E} {L : List Nat} {sz d : Nat} {c : Nat} (hG : GOK G) (hL : rIn (wR G B) L) (hL2 : rIn (wR G B2) L) (hdj : Dj (wR G B) (wR G B2)) (ha : At (wR G B2) C2 E0) (hc : c < 3) (hb : ∀ q, (16 ≤ q ∧ q < 22) ∨ (86 ≤ q ∧ q < 94) ∨ (228 ≤ q ∧ q < 231) → bl (C2 q)) : Ct G d yX1_copyFrom iX1_copyFrom [.ref (aKd B c), .ref (aKd B2 c)] (Wm G B C E0 L sz) 0 0 none (Wm G B (cpyK C2 c C) E0 L sz) := by
  refine Ct.of 0 (by decide) rfl (by decide) (Nat.le_of_ble_eq_true rfl) ?_
  show WP _ _ _ _ _ _ _ 0 [some (.ref (aKd B c)), some (.ref (aKd B2 c))] [] _ 0 0
  refine wp_ald0 dX1_copyFrom_0 ?_
  refine wp_ald1 dX1_copyFrom_1 ?_
  refine WP.to (At.vw hdj ha) ?_
  refine g_Kind_epoch dX1_copyFrom_2 fX1_7 hL2 (by assumption) ?_
  refine WP.to (At.vw hdj ha).symm ?_
  refine p_Kind_epoch dX1_copyFrom_5 pX1_7 hL (by assumption) ?_
  refine wp_ald0 dX1_copyFrom_8 ?_
  refine wp_ald1 dX1_copyFrom_9 ?_
  refine WP.to (At.vw hdj ha) ?_
  refine g_Kind_revocations dX1_copyFrom_10 fX1_13 hL2 (by assumption) ?_
  refine WP.to (At.vw hdj ha).symm ?_
  refine p_Kind_revocations dX1_copyFrom_13 pX1_13 hL (by assumption) ?_
  refine wp_ald0 dX1_copyFrom_16 ?_
  refine wp_ald1 dX1_copyFrom_17 ?_
  refine WP.to (At.vw hdj ha) ?_
  refine g_Kind_biasable dX1_copyFrom_18 fX1_16 hL2 (by assumption) ?_
  refine WP.to (At.vw hdj ha).symm ?_
  refine p_Kind_biasable dX1_copyFrom_21 pX1_16 hL (by assumption) (bl_nar (hb _ (by omega))) (bl_fit (hb _ (by omega))) ?_
  exact wp_vret dX1_copyFrom_24 rfl (Nat.le_refl _) (Nat.le_refl _) (by first | with_reducible rfl | (simp only [cpyK]; done) | (simp only [cpyK]; rfl) | rfl) (by first | with_reducible rfl | (simp only [cpyK]; done) | (simp only [cpyK]; rfl) | rfl)

def cpyN (C2 : Nat → Int32) (q p : Nat) (C : Nat → Int32) : Nat → Int32 := upd (blk p 6 C2 C) q (C2 q)
set_option maxHeartbeats 2000000 in
theorem cc_line {G : GG} {B B2 : Nat} {C C2 : Nat → Int32} {E0 : Nat → va_E} {L : List Nat} {sz d : Nat} {j q p : Nat} (hG : GOK G) (hL : rIn (wR G B) L) (hL2 : rIn (wR G B2) L) (hdj : Dj (wR G B) (wR G B2)) (ha : At (wR G B2) C2 E0) (hN : LN G B j q p) (hN2 : LN G B2 j q p) (hdp : 1 ≤ d) : Ct G d yX2_copyFrom iX2_copyFrom [.ref (B + j), .ref (B2 + j)] (Wm G B C E0 L sz) 0 0 none (Wm G B (cpyN C2 q p C) E0 L sz) := by
  refine Ct.of 0 (by decide) rfl (by decide) (Nat.le_of_ble_eq_true rfl) ?_
  show WP _ _ _ _ _ _ _ 0 [some (.ref (B + j)), some (.ref (B2 + j))] [] _ 0 0
  refine wp_ald1 dX2_copyFrom_0 ?_
  refine WP.to (At.vw hdj ha) ?_
  refine g_Line_members dX2_copyFrom_1 fX2_9 hL2 hN2 ?_
  refine WP.to (At.vw hdj ha).symm ?_
  refine wp_iconst (v := 0) dX2_copyFrom_4 (by decide) ?_
  refine wp_ald0 dX2_copyFrom_5 ?_
  refine g_Line_members dX2_copyFrom_6 fX2_9 hL hN ?_
  refine wp_iconst (v := 0) dX2_copyFrom_9 (by decide) ?_
  refine wp_bipush (v := 6) dX2_copyFrom_10 (by decide) ?_
  refine rg_copy (r := wR G B) (r' := wR G B2) (lo := p) (j := j + 1) (j' := j + 1) (z := 6) dX2_copyFrom_12 kX2_25 hG hdj ha (wR_ok G B) hL hL2 rfl rfl hN.1 hN2.1 hN.2.2.1 hN2.2.2.1 hN.2.2.2.2 hN2.2.2.2.2 (by decide) (by decide) (by omega) (Nat.le_of_ble_eq_true rfl) ?_
  refine wp_ald0 dX2_copyFrom_15 ?_
  refine wp_ald1 dX2_copyFrom_16 ?_
  refine WP.to (At.vw hdj ha) ?_
  refine g_Line_size dX2_copyFrom_17 fX2_15 hL2 hN2 ?_
  refine WP.to (At.vw hdj ha).symm ?_
  refine p_Line_size dX2_copyFrom_20 pX2_15 hL hN ?_
  exact wp_vret dX2_copyFrom_23 rfl (Nat.le_refl _) (Nat.le_refl _) (by first | with_reducible rfl | (simp only [cpyN]; done) | (simp only [cpyN]; rfl) | rfl) (by first | with_reducible rfl | (simp only [cpyN]; done) | (simp only [cpyN]; rfl) | rfl)

def cpyL (C2 : Nat → Int32) (o : Nat) (C : Nat → Int32) : Nat → Int32 := cpyN C2 (118 + o) (174 + 6 * o) (cpyN C2 (110 + o) (126 + 6 * o) (upd (upd (upd (upd (upd (upd (upd (upd (C) (46 + o) (C2 (46 + o))) (54 + o) (C2 (54 + o))) (62 + o) (C2 (62 + o))) (70 + o) (C2 (70 + o))) (78 + o) (C2 (78 + o))) (86 + o) (C2 (86 + o))) (94 + o) (C2 (94 + o))) (102 + o) (C2 (102 + o))))
set_option maxHeartbeats 2000000 in
theorem cc_lock {G : GG} {B B2 : Nat} {C C2 : Nat → Int32} {E0 : Nat → va_E} {L : List Nat} {sz d : Nat} {o : Nat} (hG : GOK G) (hL : rIn (wR G B) L) (hL2 : rIn (wR G B2) L) (hdj : Dj (wR G B) (wR G B2)) (ha : At (wR G B2) C2 E0) (ho : o < 8) (hb : ∀ q, (16 ≤ q ∧ q < 22) ∨ (86 ≤ q ∧ q < 94) ∨ (228 ≤ q ∧ q < 231) → bl (C2 q)) (hdp : 2 ≤ d) : Ct G d yX3_copyFrom iX3_copyFrom [.ref (aLk B o), .ref (aLk B2 o)] (Wm G B C E0 L sz) 0 0 none (Wm G B (cpyL C2 o C) E0 L sz) := by
  refine Ct.of 0 (by decide) rfl (by decide) (Nat.le_of_ble_eq_true rfl) ?_
  show WP _ _ _ _ _ _ _ 0 [some (.ref (aLk B o)), some (.ref (aLk B2 o))] [] _ 0 0
  refine wp_ald0 dX3_copyFrom_0 ?_
  refine wp_ald1 dX3_copyFrom_1 ?_
  refine WP.to (At.vw hdj ha) ?_
  refine g_Lock_state dX3_copyFrom_2 fX3_28 hL2 (by assumption) ?_
  refine WP.to (At.vw hdj ha).symm ?_
  refine p_Lock_state dX3_copyFrom_5 pX3_28 hL (by assumption) ?_
  refine wp_ald0 dX3_copyFrom_8 ?_
  refine wp_ald1 dX3_copyFrom_9 ?_
  refine WP.to (At.vw hdj ha) ?_
  refine g_Lock_holder dX3_copyFrom_10 fX3_60 hL2 (by assumption) ?_
  refine WP.to (At.vw hdj ha).symm ?_
  refine p_Lock_holder dX3_copyFrom_13 pX3_60 hL (by assumption) ?_
  refine wp_ald0 dX3_copyFrom_16 ?_
  refine wp_ald1 dX3_copyFrom_17 ?_
  refine WP.to (At.vw hdj ha) ?_
  refine g_Lock_entries dX3_copyFrom_18 fX3_53 hL2 (by assumption) ?_
  refine WP.to (At.vw hdj ha).symm ?_
  refine p_Lock_entries dX3_copyFrom_21 pX3_53 hL (by assumption) ?_
  refine wp_ald0 dX3_copyFrom_24 ?_
  refine wp_ald1 dX3_copyFrom_25 ?_
  refine WP.to (At.vw hdj ha) ?_
  refine g_Lock_biasThread dX3_copyFrom_26 fX3_34 hL2 (by assumption) ?_
  refine WP.to (At.vw hdj ha).symm ?_
  refine p_Lock_biasThread dX3_copyFrom_29 pX3_34 hL (by assumption) ?_
  refine wp_ald0 dX3_copyFrom_32 ?_
  refine wp_ald1 dX3_copyFrom_33 ?_
  refine WP.to (At.vw hdj ha) ?_
  refine g_Lock_epoch dX3_copyFrom_34 fX3_37 hL2 (by assumption) ?_
  refine WP.to (At.vw hdj ha).symm ?_
  refine p_Lock_epoch dX3_copyFrom_37 pX3_37 hL (by assumption) ?_
  refine wp_ald0 dX3_copyFrom_40 ?_
  refine wp_ald1 dX3_copyFrom_41 ?_
  refine WP.to (At.vw hdj ha) ?_
  refine g_Lock_abandoned dX3_copyFrom_42 fX3_40 hL2 (by assumption) ?_
  refine WP.to (At.vw hdj ha).symm ?_
  refine p_Lock_abandoned dX3_copyFrom_45 pX3_40 hL (by assumption) (bl_nar (hb _ (by omega))) (bl_fit (hb _ (by omega))) ?_
  refine wp_ald0 dX3_copyFrom_48 ?_
  refine wp_ald1 dX3_copyFrom_49 ?_
  refine WP.to (At.vw hdj ha) ?_
  refine g_Lock_hashValue dX3_copyFrom_50 fX3_44 hL2 (by assumption) ?_
  refine WP.to (At.vw hdj ha).symm ?_
  refine p_Lock_hashValue dX3_copyFrom_53 pX3_44 hL (by assumption) ?_
  refine wp_ald0 dX3_copyFrom_56 ?_
  refine wp_ald1 dX3_copyFrom_57 ?_
  refine WP.to (At.vw hdj ha) ?_
  refine g_Lock_idleSince dX3_copyFrom_58 fX3_47 hL2 (by assumption) ?_
  refine WP.to (At.vw hdj ha).symm ?_
  refine p_Lock_idleSince dX3_copyFrom_61 pX3_47 hL (by assumption) ?_
  refine wp_ald0 dX3_copyFrom_64 ?_
  refine g_Lock_queue dX3_copyFrom_65 fX3_12 hL (by assumption) ?_
  refine wp_ald1 dX3_copyFrom_68 ?_
  refine WP.to (At.vw hdj ha) ?_
  refine g_Lock_queue dX3_copyFrom_69 fX3_12 hL2 (by assumption) ?_
  refine WP.to (At.vw hdj ha).symm ?_
  refine vv_Line1 (j := 14 + 5 * o) dX3_copyFrom_72 kX3_114 (cc_line (d := d - 1) (j := 14 + 5 * o) (B2 := B2) hG hL hL2 hdj ha (LNq ho) (LNq ho) (by omega)) hL (LNq (by assumption)) rfl (by omega) (Nat.le_of_ble_eq_true rfl) (Nat.le_refl _) (Nat.le_refl _) ?_
  refine wp_ald0 dX3_copyFrom_75 ?_
  refine g_Lock_waitSet dX3_copyFrom_76 fX3_18 hL (by assumption) ?_
  refine wp_ald1 dX3_copyFrom_79 ?_
  refine WP.to (At.vw hdj ha) ?_
  refine g_Lock_waitSet dX3_copyFrom_80 fX3_18 hL2 (by assumption) ?_
  refine WP.to (At.vw hdj ha).symm ?_
  refine vv_Line1 (j := 16 + 5 * o) dX3_copyFrom_83 kX3_114 (cc_line (d := d - 1) (j := 16 + 5 * o) (B2 := B2) hG hL hL2 hdj ha (LNw ho) (LNw ho) (by omega)) hL (LNw (by assumption)) rfl (by omega) (Nat.le_of_ble_eq_true rfl) (Nat.le_refl _) (Nat.le_refl _) ?_
  exact wp_vret dX3_copyFrom_86 rfl (Nat.le_refl _) (Nat.le_refl _) (by first | with_reducible rfl | (simp only [cpyL]; done) | (simp only [cpyL]; rfl) | rfl) (by first | with_reducible rfl | (simp only [cpyL]; done) | (simp only [cpyL]; rfl) | rfl)

set_option maxHeartbeats 2000000 in
theorem cc_settings {G : GG} {B B2 : Nat} {C C2 : Nat → Int32} {E0 : Nat → va_E} {L : List Nat} {sz d : Nat}  (hG : GOK G) (hL : rIn (wR G B) L) (hL2 : rIn (wR G B2) L) (hdj : Dj (wR G B) (wR G B2)) (ha : At (wR G B2) C2 E0)  (hdp : 1 ≤ d) : Ct G d yX6_copyFrom iX6_copyFrom [.ref (B + 1), .ref (B2 + 1)] (Wm G B C E0 L sz) 0 0 none (Wm G B (blk 1 8 C2 C) E0 L sz) := by
  refine Ct.of 0 (by decide) rfl (by decide) (Nat.le_of_ble_eq_true rfl) ?_
  show WP _ _ _ _ _ _ _ 0 [some (.ref (B + 1)), some (.ref (B2 + 1))] [] _ 0 0
  refine wp_ald1 dX6_copyFrom_0 ?_
  refine WP.to (At.vw hdj ha) ?_
  refine g_Settings_values dX6_copyFrom_1 fX6_9 hL2 ?_
  refine WP.to (At.vw hdj ha).symm ?_
  refine wp_iconst (v := 0) dX6_copyFrom_4 (by decide) ?_
  refine wp_ald0 dX6_copyFrom_5 ?_
  refine g_Settings_values dX6_copyFrom_6 fX6_9 hL ?_
  refine wp_iconst (v := 0) dX6_copyFrom_9 (by decide) ?_
  refine wp_bipush (v := 8) dX6_copyFrom_10 (by decide) ?_
  refine rg_copy (r := wR G B) (r' := wR G B2) (j := 2) (j' := 2) (z := 8) dX6_copyFrom_12 kX6_16 hG hdj ha (wR_ok G B) hL hL2 rfl rfl (by show _ < 56; omega) (by show _ < 56; omega) rfl rfl (fun _ _ => rfl) (fun _ _ => rfl) (by decide) (by decide) (by omega) (Nat.le_of_ble_eq_true rfl) ?_
  exact wp_vret dX6_copyFrom_15 rfl (Nat.le_refl _) (Nat.le_refl _) (by rfl) (by rfl)

def csL (C2 : Nat → Int32) : Nat → Nat → (Nat → Int32) → (Nat → Int32)
  | 0, _, C => C
  | n + 1, i, C => csL C2 n (i + 1) (cpyS C2 i C)
def clL (C2 : Nat → Int32) : Nat → Nat → (Nat → Int32) → (Nat → Int32)
  | 0, _, C => C
  | n + 1, i, C => clL C2 n (i + 1) (cpyL C2 i C)
def ckL (C2 : Nat → Int32) : Nat → Nat → (Nat → Int32) → (Nat → Int32)
  | 0, _, C => C
  | n + 1, i, C => ckL C2 n (i + 1) (cpyK C2 i C)
set_option maxHeartbeats 2000000 in
theorem lp_ck {G : GG} {B B2 : Nat} {C2 : Nat → Int32} {E0 : Nat → va_E} {L : List Nat} {sz d : Nat} (hG : GOK G) (hL : rIn (wR G B) L) (hL2 : rIn (wR G B2) L) (hdj : Dj (wR G B) (wR G B2)) (ha : At (wR G B2) C2 E0) (hb : ∀ q, (16 ≤ q ∧ q < 22) ∨ (86 ≤ q ∧ q < 94) ∨ (228 ≤ q ∧ q < 231) → bl (C2 q)) (hdp : 1 ≤ d) (n : Nat) : ∀ (i : Nat) (C : Nat → Int32), i + n = 3 → WP G iX10_copyFrom d 0 0 none (Wm G B (ckL C2 n i C) E0 L sz) 110 [some (.ref B), some (.ref B2), some (.int (nI i))] [] (Wm G B C E0 L sz) 0 0 := by
  induction n with
  | zero =>
    intro i C hi
    refine wp_ild2 dX10_copyFrom_110 ?_
    refine wp_iconst (v := 3) dX10_copyFrom_111 (by decide) ?_
    refine wp_icmp_ge (tgt := 136) dX10_copyFrom_112 (by decide) (fun c_112 => ?_) (fun c_112 => absurd (nI_le (a := 3) (b := i) (by omega) (by omega)) c_112)
    exact wp_vret dX10_copyFrom_136 rfl (Nat.le_refl _) (Nat.le_refl _) (by first | with_reducible rfl | (simp only [ckL]; done) | (simp only [ckL]; rfl) | rfl) (by first | with_reducible rfl | (simp only [ckL]; done) | (simp only [ckL]; rfl) | rfl)
  | succ n ih =>
    intro i C hi
    refine wp_ild2 dX10_copyFrom_110 ?_
    refine wp_iconst (v := 3) dX10_copyFrom_111 (by decide) ?_
    refine wp_icmp_ge (tgt := 136) dX10_copyFrom_112 (by decide) (fun c_112 => absurd c_112 (nI_ge (a := i) (b := 3) (by omega) (by omega))) (fun c_112 => ?_)
    have hiN : i < 3 := by omega
    refine wp_ald0 dX10_copyFrom_115 ?_
    refine g_World_kinds dX10_copyFrom_116 fX10_38 hL ?_
    refine wp_ild2 dX10_copyFrom_119 ?_
    refine r_kinds (i' := i) dX10_copyFrom_120 hG hL rfl (by first | assumption | omega) ?_
    refine wp_ald1 dX10_copyFrom_121 ?_
    refine WP.to (At.vw hdj ha) ?_
    refine g_World_kinds dX10_copyFrom_122 fX10_38 hL2 ?_
    refine WP.to (At.vw hdj ha).symm ?_
    refine wp_ild2 dX10_copyFrom_125 ?_
    refine WP.to (At.vw hdj ha) ?_
    refine r_kinds (i' := i) dX10_copyFrom_126 hG hL2 rfl (by first | assumption | omega) ?_
    refine WP.to (At.vw hdj ha).symm ?_
    refine vv_Kind1 dX10_copyFrom_127 kX10_93 (cc_kind (d := d - 1) (B2 := B2) hG hL hL2 hdj ha hiN hb) hL (by assumption) rfl (by omega) (Nat.le_of_ble_eq_true rfl) (Nat.le_refl _) (Nat.le_refl _) ?_
    refine wp_inc2 dX10_copyFrom_130 (by decide) rfl ?_
    refine wp_goto (tgt := 110) dX10_copyFrom_133 (by decide) ?_
    exact ih (i + 1) _ (by omega)
set_option maxHeartbeats 2000000 in
theorem lp_cl {G : GG} {B B2 : Nat} {C2 : Nat → Int32} {E0 : Nat → va_E} {L : List Nat} {sz d : Nat} (hG : GOK G) (hL : rIn (wR G B) L) (hL2 : rIn (wR G B2) L) (hdj : Dj (wR G B) (wR G B2)) (ha : At (wR G B2) C2 E0) (hb : ∀ q, (16 ≤ q ∧ q < 22) ∨ (86 ≤ q ∧ q < 94) ∨ (228 ≤ q ∧ q < 231) → bl (C2 q)) (hdp : 3 ≤ d) (n : Nat) : ∀ (i : Nat) (C : Nat → Int32), i + n = 8 → WP G iX10_copyFrom d 0 0 none (Wm G B (ckL C2 3 0 (clL C2 n i C)) E0 L sz) 81 [some (.ref B), some (.ref B2), some (.int (nI i))] [] (Wm G B C E0 L sz) 0 0 := by
  induction n with
  | zero =>
    intro i C hi
    refine wp_ild2 dX10_copyFrom_81 ?_
    refine wp_bipush (v := 8) dX10_copyFrom_82 (by decide) ?_
    refine wp_icmp_ge (tgt := 108) dX10_copyFrom_84 (by decide) (fun c_84 => ?_) (fun c_84 => absurd (nI_le (a := 8) (b := i) (by omega) (by omega)) c_84)
    refine wp_iconst (v := nI 0) dX10_copyFrom_108 (by decide) ?_
    refine wp_ist2 dX10_copyFrom_109 (by decide) rfl ?_
    exact lp_ck hG hL hL2 hdj ha hb (by omega) 3 0 _ rfl
  | succ n ih =>
    intro i C hi
    refine wp_ild2 dX10_copyFrom_81 ?_
    refine wp_bipush (v := 8) dX10_copyFrom_82 (by decide) ?_
    refine wp_icmp_ge (tgt := 108) dX10_copyFrom_84 (by decide) (fun c_84 => absurd c_84 (nI_ge (a := i) (b := 8) (by omega) (by omega))) (fun c_84 => ?_)
    have hiN : i < 8 := by omega
    refine wp_ald0 dX10_copyFrom_87 ?_
    refine g_World_locks dX10_copyFrom_88 fX10_32 hL ?_
    refine wp_ild2 dX10_copyFrom_91 ?_
    refine r_locks (i' := i) dX10_copyFrom_92 hG hL rfl (by first | assumption | omega) ?_
    refine wp_ald1 dX10_copyFrom_93 ?_
    refine WP.to (At.vw hdj ha) ?_
    refine g_World_locks dX10_copyFrom_94 fX10_32 hL2 ?_
    refine WP.to (At.vw hdj ha).symm ?_
    refine wp_ild2 dX10_copyFrom_97 ?_
    refine WP.to (At.vw hdj ha) ?_
    refine r_locks (i' := i) dX10_copyFrom_98 hG hL2 rfl (by first | assumption | omega) ?_
    refine WP.to (At.vw hdj ha).symm ?_
    refine vv_Lock1 dX10_copyFrom_99 kX10_90 (cc_lock (d := d - 1) (B2 := B2) hG hL hL2 hdj ha hiN hb (by omega)) hL (by assumption) rfl (by omega) (Nat.le_of_ble_eq_true rfl) (Nat.le_refl _) (Nat.le_refl _) ?_
    refine wp_inc2 dX10_copyFrom_102 (by decide) rfl ?_
    refine wp_goto (tgt := 81) dX10_copyFrom_105 (by decide) ?_
    exact ih (i + 1) _ (by omega)
set_option maxHeartbeats 2000000 in
theorem lp_cs {G : GG} {B B2 : Nat} {C2 : Nat → Int32} {E0 : Nat → va_E} {L : List Nat} {sz d : Nat} (hG : GOK G) (hL : rIn (wR G B) L) (hL2 : rIn (wR G B2) L) (hdj : Dj (wR G B) (wR G B2)) (ha : At (wR G B2) C2 E0) (hb : ∀ q, (16 ≤ q ∧ q < 22) ∨ (86 ≤ q ∧ q < 94) ∨ (228 ≤ q ∧ q < 231) → bl (C2 q)) (hdp : 3 ≤ d) (n : Nat) : ∀ (i : Nat) (C : Nat → Int32), i + n = 6 → WP G iX10_copyFrom d 0 0 none (Wm G B (ckL C2 3 0 (clL C2 8 0 (csL C2 n i C))) E0 L sz) 52 [some (.ref B), some (.ref B2), some (.int (nI i))] [] (Wm G B C E0 L sz) 0 0 := by
  induction n with
  | zero =>
    intro i C hi
    refine wp_ild2 dX10_copyFrom_52 ?_
    refine wp_bipush (v := 6) dX10_copyFrom_53 (by decide) ?_
    refine wp_icmp_ge (tgt := 79) dX10_copyFrom_55 (by decide) (fun c_55 => ?_) (fun c_55 => absurd (nI_le (a := 6) (b := i) (by omega) (by omega)) c_55)
    refine wp_iconst (v := nI 0) dX10_copyFrom_79 (by decide) ?_
    refine wp_ist2 dX10_copyFrom_80 (by decide) rfl ?_
    exact lp_cl hG hL hL2 hdj ha hb (by omega) 8 0 _ rfl
  | succ n ih =>
    intro i C hi
    refine wp_ild2 dX10_copyFrom_52 ?_
    refine wp_bipush (v := 6) dX10_copyFrom_53 (by decide) ?_
    refine wp_icmp_ge (tgt := 79) dX10_copyFrom_55 (by decide) (fun c_55 => absurd c_55 (nI_ge (a := i) (b := 6) (by omega) (by omega))) (fun c_55 => ?_)
    have hiN : i < 6 := by omega
    refine wp_ald0 dX10_copyFrom_58 ?_
    refine g_World_strands dX10_copyFrom_59 fX10_26 hL ?_
    refine wp_ild2 dX10_copyFrom_62 ?_
    refine r_strands (i' := i) dX10_copyFrom_63 hG hL rfl (by first | assumption | omega) ?_
    refine wp_ald1 dX10_copyFrom_64 ?_
    refine WP.to (At.vw hdj ha) ?_
    refine g_World_strands dX10_copyFrom_65 fX10_26 hL2 ?_
    refine WP.to (At.vw hdj ha).symm ?_
    refine wp_ild2 dX10_copyFrom_68 ?_
    refine WP.to (At.vw hdj ha) ?_
    refine r_strands (i' := i) dX10_copyFrom_69 hG hL2 rfl (by first | assumption | omega) ?_
    refine WP.to (At.vw hdj ha).symm ?_
    refine vv_Strand1 dX10_copyFrom_70 kX10_87 (cc_strand (d := d - 1) (B2 := B2) hG hL hL2 hdj ha hiN hb) hL (by assumption) rfl (by omega) (Nat.le_of_ble_eq_true rfl) (Nat.le_refl _) (Nat.le_refl _) ?_
    refine wp_inc2 dX10_copyFrom_73 (by decide) rfl ?_
    refine wp_goto (tgt := 52) dX10_copyFrom_76 (by decide) ?_
    exact ih (i + 1) _ (by omega)
def cpyW (C2 C : Nat → Int32) : Nat → Int32 := ckL C2 3 0 (clL C2 8 0 (csL C2 6 0 (blk 231 9 C2 (blk 1 8 C2 (upd (upd (upd (C) (0) (C2 (0))) (9) (C2 (9))) (240) (C2 (240)))))))
set_option maxHeartbeats 2000000 in
theorem cc_world0 {G : GG} {B B2 : Nat} {C C2 : Nat → Int32} {E0 : Nat → va_E} {L : List Nat} {sz d : Nat}  (hG : GOK G) (hL : rIn (wR G B) L) (hL2 : rIn (wR G B2) L) (hdj : Dj (wR G B) (wR G B2)) (ha : At (wR G B2) C2 E0) (hb : ∀ q, (16 ≤ q ∧ q < 22) ∨ (86 ≤ q ∧ q < 94) ∨ (228 ≤ q ∧ q < 231) → bl (C2 q)) (hdp : 4 ≤ d) : Ct G d yX10_copyFrom iX10_copyFrom [.ref B, .ref B2] (Wm G B C E0 L sz) 0 0 none (Wm G B (cpyW C2 C) E0 L sz) := by
  refine Ct.of 1 (by decide) rfl (by decide) (Nat.le_of_ble_eq_true rfl) ?_
  show WP _ _ _ _ _ _ _ 0 [some (.ref B), some (.ref B2), none] [] _ 0 0
  refine wp_ald0 dX10_copyFrom_0 ?_
  refine wp_ald1 dX10_copyFrom_1 ?_
  refine WP.to (At.vw hdj ha) ?_
  refine g_World_threadCount dX10_copyFrom_2 fX10_50 hL2 ?_
  refine WP.to (At.vw hdj ha).symm ?_
  refine p_World_threadCount dX10_copyFrom_5 pX10_50 hL ?_
  refine wp_ald0 dX10_copyFrom_8 ?_
  refine wp_ald1 dX10_copyFrom_9 ?_
  refine WP.to (At.vw hdj ha) ?_
  refine g_World_now dX10_copyFrom_10 fX10_54 hL2 ?_
  refine WP.to (At.vw hdj ha).symm ?_
  refine p_World_now dX10_copyFrom_13 pX10_54 hL ?_
  refine wp_ald0 dX10_copyFrom_16 ?_
  refine wp_ald1 dX10_copyFrom_17 ?_
  refine WP.to (At.vw hdj ha) ?_
  refine g_World_hashesMade dX10_copyFrom_18 fX10_57 hL2 ?_
  refine WP.to (At.vw hdj ha).symm ?_
  refine p_World_hashesMade dX10_copyFrom_21 pX10_57 hL ?_
  refine wp_ald0 dX10_copyFrom_24 ?_
  refine g_World_settings dX10_copyFrom_25 fX10_12 hL ?_
  refine wp_ald1 dX10_copyFrom_28 ?_
  refine WP.to (At.vw hdj ha) ?_
  refine g_World_settings dX10_copyFrom_29 fX10_12 hL2 ?_
  refine WP.to (At.vw hdj ha).symm ?_
  refine vv_Settings1 dX10_copyFrom_32 kX10_77 (cc_settings (d := d - 1) (B2 := B2) hG hL hL2 hdj ha (by omega)) hL rfl (by omega) (Nat.le_of_ble_eq_true rfl) (Nat.le_refl _) (Nat.le_refl _) ?_
  refine wp_ald1 dX10_copyFrom_35 ?_
  refine WP.to (At.vw hdj ha) ?_
  refine g_World_counts dX10_copyFrom_36 fX10_20 hL2 ?_
  refine WP.to (At.vw hdj ha).symm ?_
  refine wp_iconst (v := 0) dX10_copyFrom_39 (by decide) ?_
  refine wp_ald0 dX10_copyFrom_40 ?_
  refine g_World_counts dX10_copyFrom_41 fX10_20 hL ?_
  refine wp_iconst (v := 0) dX10_copyFrom_44 (by decide) ?_
  refine wp_bipush (v := 9) dX10_copyFrom_45 (by decide) ?_
  refine rg_copy (r := wR G B) (r' := wR G B2) (j := 3) (j' := 3) (z := 9) dX10_copyFrom_47 kX10_81 hG hdj ha (wR_ok G B) hL hL2 rfl rfl (by show _ < 56; omega) (by show _ < 56; omega) rfl rfl (fun _ _ => rfl) (fun _ _ => rfl) (by decide) (by decide) (by omega) (Nat.le_of_ble_eq_true rfl) ?_
  refine wp_iconst (v := nI 0) dX10_copyFrom_50 (by decide) ?_
  refine wp_ist2 dX10_copyFrom_51 (by decide) rfl ?_
  simp only [cpyW]
  exact lp_cs hG hL hL2 hdj ha hb (by omega) 6 0 _ rfl

theorem upd_ag {C2 C : Nat → Int32} {k q : Nat} (h : C q = C2 q) : upd C k (C2 k) q = C2 q := by
  by_cases e : q = k
  · rw [e, upd_eq]
  · rw [upd_ne e]; exact h
theorem blk_ag {C2 C : Nat → Int32} {lo z q : Nat} (h : C q = C2 q) : blk lo z C2 C q = C2 q := by
  unfold blk
  split
  · rfl
  · exact h
theorem blk_in {C2 C : Nat → Int32} {lo z q : Nat} (h : lo ≤ q ∧ q < lo + z) : blk lo z C2 C q = C2 q := if_pos h
theorem cpyS_ag {C2 C : Nat → Int32} {t q : Nat} (h : C q = C2 q) : cpyS C2 t C q = C2 q := upd_ag (upd_ag (upd_ag (upd_ag (upd_ag (upd_ag h)))))
theorem cpyS_in {C2 C : Nat → Int32} {t q : Nat} (h : q = 10 + t ∨ q = 16 + t ∨ q = 22 + t ∨ q = 28 + t ∨ q = 34 + t ∨ q = 40 + t) : cpyS C2 t C q = C2 q := by
  rcases h with rfl | rfl | rfl | rfl | rfl | rfl
  · exact upd_ag (upd_ag (upd_ag (upd_ag (upd_ag upd_eq))))
  · exact upd_ag (upd_ag (upd_ag (upd_ag upd_eq)))
  · exact upd_eq
  · exact upd_ag (upd_ag (upd_ag upd_eq))
  · exact upd_ag (upd_ag upd_eq)
  · exact upd_ag upd_eq
theorem cpyK_ag {C2 C : Nat → Int32} {t q : Nat} (h : C q = C2 q) : cpyK C2 t C q = C2 q := upd_ag (upd_ag (upd_ag h))
theorem cpyK_in {C2 C : Nat → Int32} {t q : Nat} (h : q = 222 + t ∨ q = 225 + t ∨ q = 228 + t) : cpyK C2 t C q = C2 q := by
  rcases h with rfl | rfl | rfl
  · exact upd_ag (upd_ag upd_eq)
  · exact upd_ag upd_eq
  · exact upd_eq
theorem cpyN_ag {C2 C : Nat → Int32} {a p q : Nat} (h : C q = C2 q) : cpyN C2 a p C q = C2 q := upd_ag (blk_ag h)
theorem cpyN_in {C2 C : Nat → Int32} {a p q : Nat} (h : q = a ∨ (p ≤ q ∧ q < p + 6)) : cpyN C2 a p C q = C2 q := by
  rcases h with rfl | h
  · exact upd_eq
  · exact upd_ag (blk_in h)
theorem cpyL_ag {C2 C : Nat → Int32} {t q : Nat} (h : C q = C2 q) : cpyL C2 t C q = C2 q := cpyN_ag (cpyN_ag (upd_ag (upd_ag (upd_ag (upd_ag (upd_ag (upd_ag (upd_ag (upd_ag h)))))))))
theorem cpyL_in {C2 C : Nat → Int32} {t q : Nat} (h : q = 46 + t ∨ q = 54 + t ∨ q = 62 + t ∨ q = 70 + t ∨ q = 78 + t ∨ q = 86 + t ∨ q = 94 + t ∨ q = 102 + t ∨ q = 110 + t ∨ q = 118 + t ∨ (126 + 6 * t ≤ q ∧ q < 132 + 6 * t) ∨ (174 + 6 * t ≤ q ∧ q < 180 + 6 * t)) : cpyL C2 t C q = C2 q := by
  rcases h with rfl | rfl | rfl | rfl | rfl | rfl | rfl | rfl | h | h | h | h
  · exact cpyN_ag (cpyN_ag (upd_ag (upd_ag (upd_ag (upd_ag (upd_ag (upd_ag (upd_ag upd_eq))))))))
  · exact cpyN_ag (cpyN_ag (upd_ag (upd_ag (upd_ag (upd_ag (upd_ag (upd_ag upd_eq)))))))
  · exact cpyN_ag (cpyN_ag (upd_ag (upd_ag (upd_ag (upd_ag (upd_ag upd_eq))))))
  · exact cpyN_ag (cpyN_ag (upd_ag (upd_ag (upd_ag (upd_ag upd_eq)))))
  · exact cpyN_ag (cpyN_ag (upd_ag (upd_ag (upd_ag upd_eq))))
  · exact cpyN_ag (cpyN_ag (upd_ag (upd_ag upd_eq)))
  · exact cpyN_ag (cpyN_ag (upd_ag upd_eq))
  · exact cpyN_ag (cpyN_ag upd_eq)
  · exact cpyN_ag (cpyN_in (Or.inl h))
  · exact cpyN_in (Or.inl h)
  · exact cpyN_ag (cpyN_in (Or.inr (by omega)))
  · exact cpyN_in (Or.inr (by omega))
theorem csL_ag {C2 : Nat → Int32} {q : Nat} : ∀ (n i : Nat) (C : Nat → Int32), C q = C2 q → csL C2 n i C q = C2 q
  | 0, _, _, h => h
  | n + 1, i, C, h => csL_ag n (i + 1) _ (cpyS_ag h)
theorem csL_in {C2 : Nat → Int32} {q t : Nat} (h : q = 10 + t ∨ q = 16 + t ∨ q = 22 + t ∨ q = 28 + t ∨ q = 34 + t ∨ q = 40 + t) : ∀ (n i : Nat) (C : Nat → Int32), i ≤ t → t < i + n → csL C2 n i C q = C2 q
  | 0, _, _, h1, h2 => by omega
  | n + 1, i, C, h1, h2 => by
    show csL C2 n (i + 1) (cpyS C2 i C) q = C2 q
    by_cases e : t = i
    · subst e
      exact csL_ag n (t + 1) _ (cpyS_in h)
    · exact csL_in h n (i + 1) _ (by omega) (by omega)
theorem clL_ag {C2 : Nat → Int32} {q : Nat} : ∀ (n i : Nat) (C : Nat → Int32), C q = C2 q → clL C2 n i C q = C2 q
  | 0, _, _, h => h
  | n + 1, i, C, h => clL_ag n (i + 1) _ (cpyL_ag h)
theorem clL_in {C2 : Nat → Int32} {q t : Nat} (h : q = 46 + t ∨ q = 54 + t ∨ q = 62 + t ∨ q = 70 + t ∨ q = 78 + t ∨ q = 86 + t ∨ q = 94 + t ∨ q = 102 + t ∨ q = 110 + t ∨ q = 118 + t ∨ (126 + 6 * t ≤ q ∧ q < 132 + 6 * t) ∨ (174 + 6 * t ≤ q ∧ q < 180 + 6 * t)) : ∀ (n i : Nat) (C : Nat → Int32), i ≤ t → t < i + n → clL C2 n i C q = C2 q
  | 0, _, _, h1, h2 => by omega
  | n + 1, i, C, h1, h2 => by
    show clL C2 n (i + 1) (cpyL C2 i C) q = C2 q
    by_cases e : t = i
    · subst e
      exact clL_ag n (t + 1) _ (cpyL_in h)
    · exact clL_in h n (i + 1) _ (by omega) (by omega)
theorem ckL_ag {C2 : Nat → Int32} {q : Nat} : ∀ (n i : Nat) (C : Nat → Int32), C q = C2 q → ckL C2 n i C q = C2 q
  | 0, _, _, h => h
  | n + 1, i, C, h => ckL_ag n (i + 1) _ (cpyK_ag h)
theorem ckL_in {C2 : Nat → Int32} {q t : Nat} (h : q = 222 + t ∨ q = 225 + t ∨ q = 228 + t) : ∀ (n i : Nat) (C : Nat → Int32), i ≤ t → t < i + n → ckL C2 n i C q = C2 q
  | 0, _, _, h1, h2 => by omega
  | n + 1, i, C, h1, h2 => by
    show ckL C2 n (i + 1) (cpyK C2 i C) q = C2 q
    by_cases e : t = i
    · subst e
      exact ckL_ag n (t + 1) _ (cpyK_in h)
    · exact ckL_in h n (i + 1) _ (by omega) (by omega)
theorem cpyW_at {C2 C : Nat → Int32} {q : Nat} (hq : q < 241) : cpyW C2 C q = C2 q := by
  unfold cpyW
  rcases (by omega : (222 ≤ q ∧ q < 231) ∨ (46 ≤ q ∧ q < 222) ∨ (10 ≤ q ∧ q < 46) ∨ (231 ≤ q ∧ q < 240) ∨ (1 ≤ q ∧ q < 9) ∨ q = 240 ∨ q = 9 ∨ q = 0) with h | h | h | h | h | rfl | rfl | rfl
  · exact ckL_in (t := (q - 222) % 3) (by omega) 3 0 _ (by omega) (by omega)
  · refine ckL_ag 3 0 _ ?_
    by_cases h2 : q < 126
    · exact clL_in (t := (q - 46) % 8) (by omega) 8 0 _ (by omega) (by omega)
    · exact clL_in (t := (q - 126) / 6 % 8) (by omega) 8 0 _ (by omega) (by omega)
  · exact ckL_ag 3 0 _ (clL_ag 8 0 _ (csL_in (t := (q - 10) % 6) (by omega) 6 0 _ (by omega) (by omega)))
  · exact ckL_ag 3 0 _ (clL_ag 8 0 _ (csL_ag 6 0 _ (blk_in (by omega))))
  · exact ckL_ag 3 0 _ (clL_ag 8 0 _ (csL_ag 6 0 _ (blk_ag (blk_in (by omega)))))
  · exact ckL_ag 3 0 _ (clL_ag 8 0 _ (csL_ag 6 0 _ (blk_ag (blk_ag upd_eq))))
  · exact ckL_ag 3 0 _ (clL_ag 8 0 _ (csL_ag 6 0 _ (blk_ag (blk_ag (upd_ag upd_eq)))))
  · exact ckL_ag 3 0 _ (clL_ag 8 0 _ (csL_ag 6 0 _ (blk_ag (blk_ag (upd_ag (upd_ag upd_eq))))))
theorem wix_lt : ∀ j, j < 56 → ∀ f, f < 12 → wnI j f = true → wix j f < 241 := by decide +kernel
theorem Wm_congr {G : GG} {B : Nat} {C C2 : Nat → Int32} {E0 : Nat → va_E} {L : List Nat} {sz : Nat} (h : ∀ q, q < 241 → C q = C2 q) : Wm G B C E0 L sz = Wm G B C2 E0 L sz := by
  show (L, rE (wR G B) C E0, sz) = (L, rE (wR G B) C2 E0, sz)
  congr 2
  funext a
  by_cases hin : B ≤ a ∧ a < B + 56
  · unfold rE
    rw [if_pos hin, if_pos hin]
    apply inst_congr
    intro f hf
    have hj : a - B < 56 := by omega
    have := isI_wSh hj hf
    exact h _ (wix_lt _ hj f (wnI_lt _ hj f this) this)
  · rw [rE_out hin, rE_out hin]
theorem cc_world {G : GG} {B B2 : Nat} {C C2 : Nat → Int32} {E0 : Nat → va_E} {L : List Nat} {sz d : Nat} (hG : GOK G) (hL : rIn (wR G B) L) (hL2 : rIn (wR G B2) L) (hdj : Dj (wR G B) (wR G B2)) (ha : At (wR G B2) C2 E0) (hb : ∀ q, (16 ≤ q ∧ q < 22) ∨ (86 ≤ q ∧ q < 94) ∨ (228 ≤ q ∧ q < 231) → bl (C2 q)) (hdp : 4 ≤ d) : Ct G d yX10_copyFrom iX10_copyFrom [.ref B, .ref B2] (Wm G B C E0 L sz) 0 0 none (Wm G B C2 E0 L sz) := by
  have h := cc_world0 (C := C) (sz := sz) hG hL hL2 hdj ha hb hdp
  rwa [Wm_congr (C := cpyW C2 C) (C2 := C2) (fun q hq => cpyW_at hq)] at h
def cpyJ (F2 F : Nat → Int32) : Nat → Int32 := upd (blk 300 60 F2 (blk 200 60 F2 (blk 100 60 F2 (blk 0 60 F2 F)))) 400 (F2 400)
set_option maxHeartbeats 2000000 in
theorem cj_copy0 {G : GG} {J J2 : Nat} {F F2 : Nat → Int32} {E0 : Nat → va_E} {L : List Nat} {sz d : Nat} (hG : GOK G) (hM : rIn (jR G J) L) (hM2 : rIn (jR G J2) L) (hdj : Dj (jR G J) (jR G J2)) (ha : At (jR G J2) F2 E0) (hdp : 1 ≤ d) : Ct G d yX0_copyFrom iX0_copyFrom [.ref J, .ref J2] (Rm (jR G J) F E0 L sz) 0 0 none (Rm (jR G J) (cpyJ F2 F) E0 L sz) := by
  refine Ct.of 0 (by decide) rfl (by decide) (Nat.le_of_ble_eq_true rfl) ?_
  show WP _ _ _ _ _ _ _ 0 [some (.ref J), some (.ref J2)] [] _ 0 0
  refine wp_ald1 dX0_copyFrom_0 ?_
  refine WP.to (At.vw hdj ha) ?_
  refine gj_operations dX0_copyFrom_1 fX0_9 hM2 ?_
  refine WP.to (At.vw hdj ha).symm ?_
  refine wp_iconst (v := 0) dX0_copyFrom_4 (by decide) ?_
  refine wp_ald0 dX0_copyFrom_5 ?_
  refine gj_operations dX0_copyFrom_6 fX0_9 hM ?_
  refine wp_iconst (v := 0) dX0_copyFrom_9 (by decide) ?_
  refine wp_bipush (v := 60) dX0_copyFrom_10 (by decide) ?_
  refine rg_copy (r := jR G J) (r' := jR G J2) (lo := 0) (j := 1) (j' := 1) (z := 60) dX0_copyFrom_12 kX0_26 hG hdj ha (jR_ok G J) hM hM2 rfl rfl (by show _ < 5; omega) (by show _ < 5; omega) rfl rfl (fun i _ => (Nat.zero_add i).symm) (fun i _ => (Nat.zero_add i).symm) (by decide) (by decide) (by omega) (Nat.le_of_ble_eq_true rfl) ?_
  refine wp_ald1 dX0_copyFrom_15 ?_
  refine WP.to (At.vw hdj ha) ?_
  refine gj_firsts dX0_copyFrom_16 fX0_13 hM2 ?_
  refine WP.to (At.vw hdj ha).symm ?_
  refine wp_iconst (v := 0) dX0_copyFrom_19 (by decide) ?_
  refine wp_ald0 dX0_copyFrom_20 ?_
  refine gj_firsts dX0_copyFrom_21 fX0_13 hM ?_
  refine wp_iconst (v := 0) dX0_copyFrom_24 (by decide) ?_
  refine wp_bipush (v := 60) dX0_copyFrom_25 (by decide) ?_
  refine rg_copy (r := jR G J) (r' := jR G J2) (lo := 100) (j := 2) (j' := 2) (z := 60) dX0_copyFrom_27 kX0_26 hG hdj ha (jR_ok G J) hM hM2 rfl rfl (by show _ < 5; omega) (by show _ < 5; omega) rfl rfl (fun _ _ => rfl) (fun _ _ => rfl) (by decide) (by decide) (by omega) (Nat.le_of_ble_eq_true rfl) ?_
  refine wp_ald1 dX0_copyFrom_30 ?_
  refine WP.to (At.vw hdj ha) ?_
  refine gj_seconds dX0_copyFrom_31 fX0_16 hM2 ?_
  refine WP.to (At.vw hdj ha).symm ?_
  refine wp_iconst (v := 0) dX0_copyFrom_34 (by decide) ?_
  refine wp_ald0 dX0_copyFrom_35 ?_
  refine gj_seconds dX0_copyFrom_36 fX0_16 hM ?_
  refine wp_iconst (v := 0) dX0_copyFrom_39 (by decide) ?_
  refine wp_bipush (v := 60) dX0_copyFrom_40 (by decide) ?_
  refine rg_copy (r := jR G J) (r' := jR G J2) (lo := 200) (j := 3) (j' := 3) (z := 60) dX0_copyFrom_42 kX0_26 hG hdj ha (jR_ok G J) hM hM2 rfl rfl (by show _ < 5; omega) (by show _ < 5; omega) rfl rfl (fun _ _ => rfl) (fun _ _ => rfl) (by decide) (by decide) (by omega) (Nat.le_of_ble_eq_true rfl) ?_
  refine wp_ald1 dX0_copyFrom_45 ?_
  refine WP.to (At.vw hdj ha) ?_
  refine gj_thirds dX0_copyFrom_46 fX0_19 hM2 ?_
  refine WP.to (At.vw hdj ha).symm ?_
  refine wp_iconst (v := 0) dX0_copyFrom_49 (by decide) ?_
  refine wp_ald0 dX0_copyFrom_50 ?_
  refine gj_thirds dX0_copyFrom_51 fX0_19 hM ?_
  refine wp_iconst (v := 0) dX0_copyFrom_54 (by decide) ?_
  refine wp_bipush (v := 60) dX0_copyFrom_55 (by decide) ?_
  refine rg_copy (r := jR G J) (r' := jR G J2) (lo := 300) (j := 4) (j' := 4) (z := 60) dX0_copyFrom_57 kX0_26 hG hdj ha (jR_ok G J) hM hM2 rfl rfl (by show _ < 5; omega) (by show _ < 5; omega) rfl rfl (fun _ _ => rfl) (fun _ _ => rfl) (by decide) (by decide) (by omega) (Nat.le_of_ble_eq_true rfl) ?_
  refine wp_ald0 dX0_copyFrom_60 ?_
  refine wp_ald1 dX0_copyFrom_61 ?_
  refine WP.to (At.vw hdj ha) ?_
  refine gj_size dX0_copyFrom_62 fX0_22 hM2 ?_
  refine WP.to (At.vw hdj ha).symm ?_
  refine pj_size dX0_copyFrom_65 pX0_22 hM ?_
  exact wp_vret dX0_copyFrom_68 rfl (Nat.le_refl _) (Nat.le_refl _) (by first | with_reducible rfl | (simp only [cpyJ]; done) | (simp only [cpyJ]; rfl) | rfl) (by first | with_reducible rfl | (simp only [cpyJ]; done) | (simp only [cpyJ]; rfl) | rfl)
theorem Jm_congr {G : GG} {J : Nat} {F F2 : Nat → Int32} {E0 : Nat → va_E} {L : List Nat} {sz : Nat} (h : ∀ q, (q < 60 ∨ (100 ≤ q ∧ q < 160) ∨ (200 ≤ q ∧ q < 260) ∨ (300 ≤ q ∧ q < 360) ∨ q = 400) → F q = F2 q) : Rm (jR G J) F E0 L sz = Rm (jR G J) F2 E0 L sz := by
  show (L, rE (jR G J) F E0, sz) = (L, rE (jR G J) F2 E0, sz)
  congr 2
  funext a
  by_cases hin : J ≤ a ∧ a < J + 5
  · unfold rE
    rw [if_pos hin, if_pos hin]
    apply inst_congr
    intro f hf
    have hj : a - J < 5 := by omega
    have h1 := isI_jSh hj hf
    have h2 := jix_at hj h1
    refine h _ ?_
    have h3 : (jR G J).2.1 (a - (jR G J).2.2.1) f = if a - J = 0 then 400 else 100 * (a - J - 1) + f := h2
    rw [h3]
    rcases h1 with ⟨e1, e2⟩ | ⟨e1, e2⟩
    · rw [if_pos e1]; omega
    · rw [if_neg (by omega)]; omega
  · rw [rE_out hin, rE_out hin]
theorem cj_copy {G : GG} {J J2 : Nat} {F F2 : Nat → Int32} {E0 : Nat → va_E} {L : List Nat} {sz d : Nat} (hG : GOK G) (hM : rIn (jR G J) L) (hM2 : rIn (jR G J2) L) (hdj : Dj (jR G J) (jR G J2)) (ha : At (jR G J2) F2 E0) (hdp : 1 ≤ d) : Ct G d yX0_copyFrom iX0_copyFrom [.ref J, .ref J2] (Rm (jR G J) F E0 L sz) 0 0 none (Rm (jR G J) F2 E0 L sz) := by
  have h := cj_copy0 (F := F) (sz := sz) hG hM hM2 hdj ha hdp
  rwa [Jm_congr (F := cpyJ F2 F) (F2 := F2) (fun q hq => by
    rcases hq with h | h | h | h | rfl
    · exact upd_ag (blk_ag (blk_ag (blk_ag (blk_in (by omega)))))
    · exact upd_ag (blk_ag (blk_ag (blk_in (by omega))))
    · exact upd_ag (blk_ag (blk_in (by omega)))
    · exact upd_ag (blk_in (by omega))
    · exact upd_eq)] at h
