/-! the class's text and its reading -/
def POK (F : Nat → Int32) (tx : Nat → Int32) (Ln : Nat) : Prop := F 311 = nI Ln ∧ Ln ≤ 200 ∧ ∀ k, k < 200 → F k = tx k
def OKa (F : Nat → Int32) : Prop := ∃ m, m ≤ 3 ∧ F 310 = nI m
theorem OKa.nat {F : Nat → Int32} (h : OKa F) : F 310 = nI (nt (F 310)) ∧ nt (F 310) ≤ 3 := by
  obtain ⟨s, h1, h2⟩ := h
  rw [h2, ntn (by omega)]
  exact ⟨rfl, h1⟩
def SmP (F F' : Nat → Int32) : Prop := ∀ k, (k < 300 ∨ 311 ≤ k) → F' k = F k
theorem SmP.rf {F : Nat → Int32} : SmP F F := fun _ _ => rfl
theorem SmP.tr {F F1 F2 : Nat → Int32} (h : SmP F F1) (h' : SmP F1 F2) : SmP F F2 := fun k hk => (h' k hk).trans (h k hk)
theorem SmP.up {F F1 : Nat → Int32} {k : Nat} {x : Int32} (h : SmP F F1) (hk : 300 ≤ k ∧ k < 311) : SmP F (upd F1 k x) := fun q hq => by rw [upd_ne (by omega)]; exact h q hq
theorem SmP.t {F F1 : Nat → Int32} {tx : Nat → Int32} {Ln : Nat} (h : SmP F F1) (ht : POK F tx Ln) : POK F1 tx Ln := ⟨(h 311 (by omega)).trans ht.1, ht.2.1, fun k hk => (h _ (by omega)).trans (ht.2.2 k hk)⟩
set_option maxHeartbeats 2000000 in
theorem cp_isDigit {G : GG} {P : Nat} {F : Nat → Int32} {E0 : Nat → va_E} {L : List Nat} {sz d : Nat} {tx : Nat → Int32} {Ln p : Nat} (hG : GOK G) (hM : rIn (pR G P) L) (ht : POK F tx Ln) (hp : p < 2 ^ 31) : Ct G d yX5_isDigit iX5_isDigit [.ref P, .int (nI p)] (Rm (pR G P) (F) E0 L sz) 0 0 (some (.int (bI (dgT tx Ln p)))) (Rm (pR G P) (F) E0 L sz) := by
  have hL := ht.2.1
  refine Ct.of 0 (by decide) rfl (by decide) (Nat.le_of_ble_eq_true rfl) ?_
  show WP _ _ _ _ _ _ _ 0 [some (.ref P), some (.int (nI p))] [] _ 0 0
  refine wp_ild1 dX5_isDigit_0 ?_
  refine wp_if_lt (tgt := 38) dX5_isDigit_1 (by decide) (fun h => absurd h (nI_pos (by omega))) (fun _ => ?_)
  refine wp_ild1 dX5_isDigit_4 ?_
  refine wp_ald0 dX5_isDigit_5 ?_
  refine gp_length dX5_isDigit_6 fX5_18 hM ?_
  refine wp_icmp_ge (tgt := 38) dX5_isDigit_9 (by decide) (fun c_9 => ?_) (fun c_9 => ?_)
  · have c_9 : ¬ p < Ln := Nat.not_lt.mpr ((nI_leI (by omega) (by omega)).mp (ht.1 ▸ c_9))
    refine wp_iconst (v := 0) dX5_isDigit_38 (by decide) ?_
    exact wp_zret dX5_isDigit_39 rfl rfl (Nat.le_refl _) (Nat.le_refl _) (by first | with_reducible rfl | (simp [bI, dgT, inP, c_9]; done) | (simp_all [bI, dgT, inP]; done)) (by first | with_reducible rfl | (simp [bI, dgT, inP, c_9]; done) | (simp_all [bI, dgT, inP]; done))
  · have c_9 : p < Ln := Nat.lt_of_not_le (fun q => c_9 (by rw [ht.1]; exact (nI_leI (by omega) (by omega)).mpr q))
    refine wp_ald0 dX5_isDigit_12 ?_
    refine gp_codes dX5_isDigit_13 fX5_11 hM ?_
    refine wp_ild1 dX5_isDigit_16 ?_
    refine rp_codes (i' := p) dX5_isDigit_17 hG hM rfl (by first | assumption | omega) ?_
    rw [ht.2.2 _ (by omega)]
    refine wp_bipush (v := 48) dX5_isDigit_18 (by decide) ?_
    refine wp_icmp_lt (tgt := 38) dX5_isDigit_20 (by decide) (fun c_20 => ?_) (fun c_20 => ?_)
    · refine wp_iconst (v := 0) dX5_isDigit_38 (by decide) ?_
      exact wp_zret dX5_isDigit_39 rfl rfl (Nat.le_refl _) (Nat.le_refl _) (by first | with_reducible rfl | (simp [bI, dgT, inP, c_9, c_20]; done) | (simp_all [bI, dgT, inP]; done)) (by first | with_reducible rfl | (simp [bI, dgT, inP, c_9, c_20]; done) | (simp_all [bI, dgT, inP]; done))
    · refine wp_ald0 dX5_isDigit_23 ?_
      refine gp_codes dX5_isDigit_24 fX5_11 hM ?_
      refine wp_ild1 dX5_isDigit_27 ?_
      refine rp_codes (i' := p) dX5_isDigit_28 hG hM rfl (by first | assumption | omega) ?_
      rw [ht.2.2 _ (by omega)]
      refine wp_bipush (v := 57) dX5_isDigit_29 (by decide) ?_
      refine wp_icmp_gt (tgt := 38) dX5_isDigit_31 (by decide) (fun c_31 => ?_) (fun c_31 => ?_)
      · refine wp_iconst (v := 0) dX5_isDigit_38 (by decide) ?_
        exact wp_zret dX5_isDigit_39 rfl rfl (Nat.le_refl _) (Nat.le_refl _) (by first | with_reducible rfl | (simp [bI, dgT, inP, c_9, c_20, c_31]; done) | (simp_all [bI, dgT, inP]; done)) (by first | with_reducible rfl | (simp [bI, dgT, inP, c_9, c_20, c_31]; done) | (simp_all [bI, dgT, inP]; done))
      · refine wp_iconst (v := 1) dX5_isDigit_34 (by decide) ?_
        refine wp_goto (tgt := 39) dX5_isDigit_35 (by decide) ?_
        exact wp_zret dX5_isDigit_39 rfl rfl (Nat.le_refl _) (Nat.le_refl _) (by first | with_reducible rfl | (simp [bI, dgT, inP, c_9, c_20, c_31]; done) | (simp_all [bI, dgT, inP]; done)) (by first | with_reducible rfl | (simp [bI, dgT, inP, c_9, c_20, c_31]; done) | (simp_all [bI, dgT, inP]; done))

def mnL (tx : Nat → Int32) (Ln p : Nat) : Nat → Nat → Int32 → Option Int32
  | 0, _, v => some v
  | n + 1, i, v => if dgT tx Ln (p + i) then mnL tx Ln p n (i + 1) (10 * v + tx (p + i) - 48) else none
def mnR (F : Nat → Int32) (g : Int32) (D : Nat) (r : Option Int32) : Int32 × (Nat → Int32) := match r with
  | none => (0, F)
  | some v => if g < v then (0, F) else if F 310 < 3 then (nI D, upd (upd F (300 + nt (F 310)) v) 310 (F 310 + 1)) else (0, F)
set_option maxHeartbeats 2000000 in
theorem tl_mn51 {G : GG} {P : Nat} {F : Nat → Int32} {E0 : Nat → va_E} {L : List Nat} {sz d : Nat} {tx : Nat → Int32} {Ln p D : Nat} {g v : Int32} (hG : GOK G) (hM : rIn (pR G P) L) (ht : POK F tx Ln) (ha : OKa F) (hdp : 0 ≤ d) : WP G iX5_matchNumber d 0 0 (some (.int (mnR F g D (some v)).1)) (Rm (pR G P) ((mnR F g D (some v)).2) E0 L sz) 51 [some (.ref P), some (.int (nI p)), some (.int (nI D)), some (.int g), some (.int v), none] [] (Rm (pR G P) (F) E0 L sz) 0 0 := by
  obtain ⟨han, ha3⟩ := ha.nat
  refine wp_ild4 dX5_matchNumber_51 ?_
  refine wp_ild3 dX5_matchNumber_53 ?_
  refine wp_icmp_gt (tgt := 65) dX5_matchNumber_54 (by decide) (fun c_54 => ?_) (fun c_54 => ?_)
  · refine wp_iconst (v := 0) dX5_matchNumber_65 (by decide) ?_
    exact wp_iret dX5_matchNumber_66 rfl (Nat.le_refl _) (Nat.le_refl _) (by first | with_reducible rfl | (simp only [mnR, if_pos c_54]; done) | (simp only [mnR, if_pos c_54]; rfl) | rfl) (by first | with_reducible rfl | (simp only [mnR, if_pos c_54]; done) | (simp only [mnR, if_pos c_54]; rfl) | rfl)
  · refine wp_ald0 dX5_matchNumber_57 ?_
    refine gp_argumentCount dX5_matchNumber_58 fX5_45 hM ?_
    refine wp_iconst (v := 3) dX5_matchNumber_61 (by decide) ?_
    refine wp_icmp_lt (tgt := 67) dX5_matchNumber_62 (by decide) (fun c_62 => ?_) (fun c_62 => ?_)
    · have hlt : nt (F 310) < 3 := by
        rcases Nat.lt_or_ge (nt (F 310)) 3 with q | q
        · exact q
        · exact absurd c_62 (by rw [han]; exact nI_nlt (a := nt (F 310)) (b := 3) q (by omega))
      refine wp_ald0 dX5_matchNumber_67 ?_
      refine gp_arguments dX5_matchNumber_68 fX5_15 hM ?_
      refine wp_ald0 dX5_matchNumber_71 ?_
      refine gp_argumentCount dX5_matchNumber_72 fX5_45 hM ?_
      refine wp_ild4 dX5_matchNumber_75 ?_
      refine sp_arguments (i' := nt (F 310)) dX5_matchNumber_77 hG hM han (by first | assumption | omega) ?_
      refine wp_ald0 dX5_matchNumber_78 ?_
      refine wp_dup dX5_matchNumber_79 rfl ?_
      refine gp_argumentCount dX5_matchNumber_80 fX5_45 hM ?_
      rw [upd_ne (by omega)]
      refine wp_iconst (v := 1) dX5_matchNumber_83 (by decide) ?_
      refine wp_iadd dX5_matchNumber_84 ?_
      refine pp_argumentCount dX5_matchNumber_85 pX5_45 hM ?_
      refine wp_ild2 dX5_matchNumber_88 ?_
      exact wp_iret dX5_matchNumber_89 rfl (Nat.le_refl _) (Nat.le_refl _) (by first | with_reducible rfl | (simp only [mnR, if_neg c_54, if_pos c_62]; done) | (simp only [mnR, if_neg c_54, if_pos c_62]; rfl) | rfl) (by first | with_reducible rfl | (simp only [mnR, if_neg c_54, if_pos c_62]; done) | (simp only [mnR, if_neg c_54, if_pos c_62]; rfl) | rfl)
    · refine wp_iconst (v := 0) dX5_matchNumber_65 (by decide) ?_
      exact wp_iret dX5_matchNumber_66 rfl (Nat.le_refl _) (Nat.le_refl _) (by first | with_reducible rfl | (simp only [mnR, if_neg c_54, if_neg c_62]; done) | (simp only [mnR, if_neg c_54, if_neg c_62]; rfl) | rfl) (by first | with_reducible rfl | (simp only [mnR, if_neg c_54, if_neg c_62]; done) | (simp only [mnR, if_neg c_54, if_neg c_62]; rfl) | rfl)
set_option maxHeartbeats 2000000 in
theorem lp_mn {G : GG} {P : Nat} {F : Nat → Int32} {E0 : Nat → va_E} {L : List Nat} {sz d : Nat} {tx : Nat → Int32} {Ln p D : Nat} {g : Int32} (hG : GOK G) (hM : rIn (pR G P) L) (ht : POK F tx Ln) (ha : OKa F) (hp : p < 1000) (hD : D ≤ 2) (hdp : 1 ≤ d) (n : Nat) : ∀ (i : Nat) (v : Int32), i + n = D → WP G iX5_matchNumber d 0 0 (some (.int (mnR F g D (mnL tx Ln p n i v)).1)) (Rm (pR G P) (mnR F g D (mnL tx Ln p n i v)).2 E0 L sz) 6 [some (.ref P), some (.int (nI p)), some (.int (nI D)), some (.int g), some (.int v), some (.int (nI i))] [] (Rm (pR G P) F E0 L sz) 0 0 := by
  have hL := ht.2.1
  induction n with
  | zero =>
    intro i v hi
    refine wp_ild5 dX5_matchNumber_6 ?_
    refine wp_ild2 dX5_matchNumber_8 ?_
    refine wp_icmp_ge (tgt := 51) dX5_matchNumber_9 (by decide) (fun c_9 => ?_) (fun c_9 => absurd (nI_le (a := D) (b := i) (by omega) (by omega)) c_9)
    exact WP.fg (by simp [lcle]) (tl_mn51 (p := p) hG hM ht ha (Nat.zero_le _))
  | succ n ih =>
    intro i v hi
    refine wp_ild5 dX5_matchNumber_6 ?_
    refine wp_ild2 dX5_matchNumber_8 ?_
    refine wp_icmp_ge (tgt := 51) dX5_matchNumber_9 (by decide) (fun c_9 => absurd c_9 (nI_ge (a := i) (b := D) (by omega) (by omega))) (fun c_9 => ?_)
    have hiD : i < D := by omega
    refine wp_ald0 dX5_matchNumber_12 ?_
    refine wp_ild1 dX5_matchNumber_13 ?_
    refine wp_ild5 dX5_matchNumber_14 ?_
    refine wp_iaddN (a := p) (b := i) rfl rfl dX5_matchNumber_16 ?_
    refine pi_1 dX5_matchNumber_17 kX5_65 (cp_isDigit (d := d - 1) hG hM ht (by omega)) hM rfl (by omega) (Nat.le_of_ble_eq_true rfl) (Nat.le_refl _) (Nat.le_refl _) ?_
    refine wp_ifB_ne (tgt := 25) dX5_matchNumber_20 (by decide) (fun c_20 => ?_) (fun c_20 => ?_)
    · have hlt := c_20.1
      refine wp_bipush (v := 10) dX5_matchNumber_25 (by decide) ?_
      refine wp_ild4 dX5_matchNumber_27 ?_
      refine wp_imul dX5_matchNumber_29 ?_
      refine wp_ald0 dX5_matchNumber_30 ?_
      refine gp_codes dX5_matchNumber_31 fX5_11 hM ?_
      refine wp_ild1 dX5_matchNumber_34 ?_
      refine wp_ild5 dX5_matchNumber_35 ?_
      refine wp_iaddN (a := p) (b := i) rfl rfl dX5_matchNumber_37 ?_
      refine rp_codes (i' := (p + i)) dX5_matchNumber_38 hG hM rfl (by first | assumption | omega) ?_
      rw [ht.2.2 _ (by omega)]
      refine wp_iadd dX5_matchNumber_39 ?_
      refine wp_bipush (v := 48) dX5_matchNumber_40 (by decide) ?_
      refine wp_isub dX5_matchNumber_42 ?_
      refine wp_ist4 dX5_matchNumber_43 (by decide) rfl ?_
      refine wp_inc5 dX5_matchNumber_45 (by decide) rfl ?_
      refine wp_goto (tgt := 6) dX5_matchNumber_48 (by decide) ?_
      simp only [mnL, if_pos c_20]
      exact ih (i + 1) _ (by omega)
    · refine wp_iconst (v := 0) dX5_matchNumber_23 (by decide) ?_
      exact wp_iret dX5_matchNumber_24 rfl (Nat.le_refl _) (Nat.le_refl _) (by first | with_reducible rfl | (simp only [mnL, mnR, if_neg c_20]; done) | (simp only [mnL, mnR, if_neg c_20]; rfl) | rfl) (by first | with_reducible rfl | (simp only [mnL, mnR, if_neg c_20]; done) | (simp only [mnL, mnR, if_neg c_20]; rfl) | rfl)
set_option maxHeartbeats 2000000 in
theorem cp_matchNumber {G : GG} {P : Nat} {F : Nat → Int32} {E0 : Nat → va_E} {L : List Nat} {sz d : Nat} {tx : Nat → Int32} {Ln p D : Nat} {g : Int32} (hG : GOK G) (hM : rIn (pR G P) L) (ht : POK F tx Ln) (ha : OKa F) (hp : p < 1000) (hD : D ≤ 2) (hdp : 1 ≤ d) : Ct G d yX5_matchNumber iX5_matchNumber [.ref P, .int (nI p), .int (nI D), .int g] (Rm (pR G P) (F) E0 L sz) 0 0 (some (.int (mnR F g D (mnL tx Ln p D 0 0)).1)) (Rm (pR G P) ((mnR F g D (mnL tx Ln p D 0 0)).2) E0 L sz) := by
  refine Ct.of 2 (by decide) rfl (by decide) (Nat.le_of_ble_eq_true rfl) ?_
  show WP _ _ _ _ _ _ _ 0 [some (.ref P), some (.int (nI p)), some (.int (nI D)), some (.int g), none, none] [] _ 0 0
  refine wp_iconst (v := 0) dX5_matchNumber_0 (by decide) ?_
  refine wp_ist4 dX5_matchNumber_1 (by decide) rfl ?_
  refine wp_iconst (v := 0) dX5_matchNumber_3 (by decide) ?_
  refine wp_ist5 dX5_matchNumber_4 (by decide) rfl ?_
  exact WP.fg (by simp [lcle, nI_0]) (lp_mn hG hM ht ha hp hD hdp D 0 0 (by omega))

theorem lk_ms {x : Int32} (h1 : ¬ x = 78) (h2 : ¬ x = 79) (h3 : ¬ x = 84) : Op.lookupswitch.offset [(78, 53), (79, 44), (84, 36)] 87 x.toInt = 87 := by
  have key : ∀ k : Nat, k < 2 ^ 31 → ¬ x = nI k → ¬ ((k : Nat) : Int) = x.toInt := fun k hk h e => h (Int32.toInt_inj.mp (by rw [nI_toInt hk]; exact e.symm))
  rw [Op.lookupswitch.offset_cons, if_neg (show ¬ (78 : Int) = x.toInt from key 78 (by decide) h1), Op.lookupswitch.offset_cons, if_neg (show ¬ (79 : Int) = x.toInt from key 79 (by decide) h2), Op.lookupswitch.offset_cons, if_neg (show ¬ (84 : Int) = x.toInt from key 84 (by decide) h3)]
  rfl
def mnW (tx : Nat → Int32) (Ln p : Nat) (F : Nat → Int32) (g : Int32) (D : Nat) : Int32 × (Nat → Int32) := mnR F g D (mnL tx Ln p D 0 0)
def msF (tx : Nat → Int32) (Ln e : Nat) (c : Int32) (p : Nat) (F : Nat → Int32) : Int32 × (Nat → Int32) := if p < e then (if p < Ln then (if c = 78 then (if tx p = 48 then mnW tx Ln p F 99 1 else if dgT tx Ln (p + 1) then mnW tx Ln p F 99 2 else mnW tx Ln p F 99 1) else if c = 79 then mnW tx Ln p F 7 1 else if c = 84 then mnW tx Ln p F 5 1 else (if tx p = c then (1, F) else (0, F))) else (0, F)) else (0, F)
set_option maxHeartbeats 2000000 in
theorem cp_matchSign {G : GG} {P : Nat} {F : Nat → Int32} {E0 : Nat → va_E} {L : List Nat} {sz d : Nat} {tx : Nat → Int32} {Ln p e : Nat} {c : Int32} (hG : GOK G) (hM : rIn (pR G P) L) (ht : POK F tx Ln) (ha : OKa F) (hp : p < 900) (he : e < 1000) (hdp : 2 ≤ d) : Ct G d yX5_matchSign iX5_matchSign [.ref P, .int c, .int (nI p), .int (nI e)] (Rm (pR G P) (F) E0 L sz) 0 0 (some (.int (msF tx Ln e c p F).1)) (Rm (pR G P) ((msF tx Ln e c p F).2) E0 L sz) := by
  have hL := ht.2.1
  refine Ct.of 0 (by decide) rfl (by decide) (Nat.le_of_ble_eq_true rfl) ?_
  show WP _ _ _ _ _ _ _ 0 [some (.ref P), some (.int c), some (.int (nI p)), some (.int (nI e))] [] _ 0 0
  refine wp_ild2 dX5_matchSign_0 ?_
  refine wp_if_lt (tgt := 17) dX5_matchSign_1 (by decide) (fun h => absurd h (nI_pos (by omega))) (fun _ => ?_)
  refine wp_ild2 dX5_matchSign_4 ?_
  refine wp_ild3 dX5_matchSign_5 ?_
  refine wp_icmp_ge (tgt := 17) dX5_matchSign_6 (by decide) (fun c_6 => ?_) (fun c_6 => ?_)
  · have c_6 : ¬ p < e := Nat.not_lt.mpr ((nI_leI (by omega) (by omega)).mp c_6)
    refine wp_iconst (v := 0) dX5_matchSign_17 (by decide) ?_
    exact wp_iret dX5_matchSign_18 rfl (Nat.le_refl _) (Nat.le_refl _) (by first | with_reducible rfl | (simp only [msF, mnW, if_neg c_6]; done) | (simp only [msF, mnW, if_neg c_6]; rfl) | rfl) (by first | with_reducible rfl | (simp only [msF, mnW, if_neg c_6]; done) | (simp only [msF, mnW, if_neg c_6]; rfl) | rfl)
  · have c_6 : p < e := Nat.lt_of_not_le (fun q => c_6 ((nI_leI (by omega) (by omega)).mpr q))
    refine wp_ild2 dX5_matchSign_9 ?_
    refine wp_ald0 dX5_matchSign_10 ?_
    refine gp_length dX5_matchSign_11 fX5_18 hM ?_
    refine wp_icmp_lt (tgt := 19) dX5_matchSign_14 (by decide) (fun c_14 => ?_) (fun c_14 => ?_)
    · have c_14 : p < Ln := Nat.lt_of_not_le (fun q => absurd c_14 (by rw [ht.1]; exact nI_nlt q (by omega)))
      refine wp_ild1 dX5_matchSign_19 ?_
      by_cases s_78 : c = 78
      · refine wp_lookup (off := 53) (tgt := 73) dX5_matchSign_20 (by decide) (by rw [s_78]; rfl) (by decide) ?_
        refine wp_ald0 dX5_matchSign_73 ?_
        refine wp_ild2 dX5_matchSign_74 ?_
        refine wp_ald0 dX5_matchSign_75 ?_
        refine gp_codes dX5_matchSign_76 fX5_11 hM ?_
        refine wp_ild2 dX5_matchSign_79 ?_
        refine rp_codes (i' := p) dX5_matchSign_80 hG hM rfl (by first | assumption | omega) ?_
        rw [ht.2.2 _ (by omega)]
        refine wp_bipush (v := 48) dX5_matchSign_81 (by decide) ?_
        refine wp_icmp_eq (tgt := 100) dX5_matchSign_83 (by decide) (fun c_83 => ?_) (fun c_83 => ?_)
        · refine wp_iconst (v := nI 1) dX5_matchSign_100 (by decide) ?_
          refine wp_bipush (v := 99) dX5_matchSign_101 (by decide) ?_
          refine pi_3 dX5_matchSign_103 kX5_61 (cp_matchNumber (d := d - 1) hG hM ht ha (by omega) (by omega) (by omega)) hM rfl (by omega) (Nat.le_of_ble_eq_true rfl) (Nat.le_refl _) (Nat.le_refl _) ?_
          exact wp_iret dX5_matchSign_106 rfl (Nat.le_refl _) (Nat.le_refl _) (by first | with_reducible rfl | (simp only [msF, mnW, if_pos c_6, if_pos c_14, if_pos s_78, if_pos c_83]; done) | (simp only [msF, mnW, if_pos c_6, if_pos c_14, if_pos s_78, if_pos c_83]; rfl) | rfl) (by first | with_reducible rfl | (simp only [msF, mnW, if_pos c_6, if_pos c_14, if_pos s_78, if_pos c_83]; done) | (simp only [msF, mnW, if_pos c_6, if_pos c_14, if_pos s_78, if_pos c_83]; rfl) | rfl)
        · refine wp_ald0 dX5_matchSign_86 ?_
          refine wp_ild2 dX5_matchSign_87 ?_
          refine wp_iconst (v := 1) dX5_matchSign_88 (by decide) ?_
          refine wp_iaddN (a := p) (b := 1) rfl (by decide) dX5_matchSign_89 ?_
          refine pi_1 dX5_matchSign_90 kX5_65 (cp_isDigit (d := d - 1) hG hM ht (by omega)) hM rfl (by omega) (Nat.le_of_ble_eq_true rfl) (Nat.le_refl _) (Nat.le_refl _) ?_
          refine wp_ifB_eq (tgt := 100) dX5_matchSign_93 (by decide) (fun c_93 => ?_) (fun c_93 => ?_)
          · refine wp_iconst (v := nI 1) dX5_matchSign_100 (by decide) ?_
            refine wp_bipush (v := 99) dX5_matchSign_101 (by decide) ?_
            refine pi_3 dX5_matchSign_103 kX5_61 (cp_matchNumber (d := d - 1) hG hM ht ha (by omega) (by omega) (by omega)) hM rfl (by omega) (Nat.le_of_ble_eq_true rfl) (Nat.le_refl _) (Nat.le_refl _) ?_
            exact wp_iret dX5_matchSign_106 rfl (Nat.le_refl _) (Nat.le_refl _) (by first | with_reducible rfl | (simp only [msF, mnW, if_pos c_6, if_pos c_14, if_pos s_78, if_neg c_83, if_neg c_93]; done) | (simp only [msF, mnW, if_pos c_6, if_pos c_14, if_pos s_78, if_neg c_83, if_neg c_93]; rfl) | rfl) (by first | with_reducible rfl | (simp only [msF, mnW, if_pos c_6, if_pos c_14, if_pos s_78, if_neg c_83, if_neg c_93]; done) | (simp only [msF, mnW, if_pos c_6, if_pos c_14, if_pos s_78, if_neg c_83, if_neg c_93]; rfl) | rfl)
          · refine wp_iconst (v := nI 2) dX5_matchSign_96 (by decide) ?_
            refine wp_goto (tgt := 101) dX5_matchSign_97 (by decide) ?_
            refine wp_bipush (v := 99) dX5_matchSign_101 (by decide) ?_
            refine pi_3 dX5_matchSign_103 kX5_61 (cp_matchNumber (d := d - 1) hG hM ht ha (by omega) (by omega) (by omega)) hM rfl (by omega) (Nat.le_of_ble_eq_true rfl) (Nat.le_refl _) (Nat.le_refl _) ?_
            exact wp_iret dX5_matchSign_106 rfl (Nat.le_refl _) (Nat.le_refl _) (by first | with_reducible rfl | (simp only [msF, mnW, if_pos c_6, if_pos c_14, if_pos s_78, if_neg c_83, if_pos c_93]; done) | (simp only [msF, mnW, if_pos c_6, if_pos c_14, if_pos s_78, if_neg c_83, if_pos c_93]; rfl) | rfl) (by first | with_reducible rfl | (simp only [msF, mnW, if_pos c_6, if_pos c_14, if_pos s_78, if_neg c_83, if_pos c_93]; done) | (simp only [msF, mnW, if_pos c_6, if_pos c_14, if_pos s_78, if_neg c_83, if_pos c_93]; rfl) | rfl)
      · by_cases s_79 : c = 79
        · refine wp_lookup (off := 44) (tgt := 64) dX5_matchSign_20 (by decide) (by rw [s_79]; rfl) (by decide) ?_
          refine wp_ald0 dX5_matchSign_64 ?_
          refine wp_ild2 dX5_matchSign_65 ?_
          refine wp_iconst (v := nI 1) dX5_matchSign_66 (by decide) ?_
          refine wp_bipush (v := 7) dX5_matchSign_67 (by decide) ?_
          refine pi_3 dX5_matchSign_69 kX5_61 (cp_matchNumber (d := d - 1) hG hM ht ha (by omega) (by omega) (by omega)) hM rfl (by omega) (Nat.le_of_ble_eq_true rfl) (Nat.le_refl _) (Nat.le_refl _) ?_
          exact wp_iret dX5_matchSign_72 rfl (Nat.le_refl _) (Nat.le_refl _) (by first | with_reducible rfl | (simp only [msF, mnW, if_pos c_6, if_pos c_14, if_neg s_78, if_pos s_79]; done) | (simp only [msF, mnW, if_pos c_6, if_pos c_14, if_neg s_78, if_pos s_79]; rfl) | rfl) (by first | with_reducible rfl | (simp only [msF, mnW, if_pos c_6, if_pos c_14, if_neg s_78, if_pos s_79]; done) | (simp only [msF, mnW, if_pos c_6, if_pos c_14, if_neg s_78, if_pos s_79]; rfl) | rfl)
        · by_cases s_84 : c = 84
          · refine wp_lookup (off := 36) (tgt := 56) dX5_matchSign_20 (by decide) (by rw [s_84]; rfl) (by decide) ?_
            refine wp_ald0 dX5_matchSign_56 ?_
            refine wp_ild2 dX5_matchSign_57 ?_
            refine wp_iconst (v := nI 1) dX5_matchSign_58 (by decide) ?_
            refine wp_iconst (v := 5) dX5_matchSign_59 (by decide) ?_
            refine pi_3 dX5_matchSign_60 kX5_61 (cp_matchNumber (d := d - 1) hG hM ht ha (by omega) (by omega) (by omega)) hM rfl (by omega) (Nat.le_of_ble_eq_true rfl) (Nat.le_refl _) (Nat.le_refl _) ?_
            exact wp_iret dX5_matchSign_63 rfl (Nat.le_refl _) (Nat.le_refl _) (by first | with_reducible rfl | (simp only [msF, mnW, if_pos c_6, if_pos c_14, if_neg s_78, if_neg s_79, if_pos s_84]; done) | (simp only [msF, mnW, if_pos c_6, if_pos c_14, if_neg s_78, if_neg s_79, if_pos s_84]; rfl) | rfl) (by first | with_reducible rfl | (simp only [msF, mnW, if_pos c_6, if_pos c_14, if_neg s_78, if_neg s_79, if_pos s_84]; done) | (simp only [msF, mnW, if_pos c_6, if_pos c_14, if_neg s_78, if_neg s_79, if_pos s_84]; rfl) | rfl)
          · refine wp_lookup (tgt := 107) dX5_matchSign_20 (by decide) (lk_ms s_78 s_79 s_84) (by decide) ?_
            refine wp_ald0 dX5_matchSign_107 ?_
            refine gp_codes dX5_matchSign_108 fX5_11 hM ?_
            refine wp_ild2 dX5_matchSign_111 ?_
            refine rp_codes (i' := p) dX5_matchSign_112 hG hM rfl (by first | assumption | omega) ?_
            rw [ht.2.2 _ (by omega)]
            refine wp_ild1 dX5_matchSign_113 ?_
            refine wp_icmp_ne (tgt := 121) dX5_matchSign_114 (by decide) (fun c_114 => ?_) (fun c_114 => ?_)
            · refine wp_iconst (v := 0) dX5_matchSign_121 (by decide) ?_
              exact wp_iret dX5_matchSign_122 rfl (Nat.le_refl _) (Nat.le_refl _) (by first | with_reducible rfl | (simp only [msF, mnW, if_pos c_6, if_pos c_14, if_neg s_78, if_neg s_79, if_neg s_84, if_neg c_114]; done) | (simp only [msF, mnW, if_pos c_6, if_pos c_14, if_neg s_78, if_neg s_79, if_neg s_84, if_neg c_114]; rfl) | rfl) (by first | with_reducible rfl | (simp only [msF, mnW, if_pos c_6, if_pos c_14, if_neg s_78, if_neg s_79, if_neg s_84, if_neg c_114]; done) | (simp only [msF, mnW, if_pos c_6, if_pos c_14, if_neg s_78, if_neg s_79, if_neg s_84, if_neg c_114]; rfl) | rfl)
            · refine wp_iconst (v := 1) dX5_matchSign_117 (by decide) ?_
              refine wp_goto (tgt := 122) dX5_matchSign_118 (by decide) ?_
              exact wp_iret dX5_matchSign_122 rfl (Nat.le_refl _) (Nat.le_refl _) (by first | with_reducible rfl | (simp only [msF, mnW, if_pos c_6, if_pos c_14, if_neg s_78, if_neg s_79, if_neg s_84, if_pos c_114]; done) | (simp only [msF, mnW, if_pos c_6, if_pos c_14, if_neg s_78, if_neg s_79, if_neg s_84, if_pos c_114]; rfl) | rfl) (by first | with_reducible rfl | (simp only [msF, mnW, if_pos c_6, if_pos c_14, if_neg s_78, if_neg s_79, if_neg s_84, if_pos c_114]; done) | (simp only [msF, mnW, if_pos c_6, if_pos c_14, if_neg s_78, if_neg s_79, if_neg s_84, if_pos c_114]; rfl) | rfl)
    · have c_14 : ¬ p < Ln := fun q => c_14 (by rw [ht.1]; exact nI_lt q (by omega))
      refine wp_iconst (v := 0) dX5_matchSign_17 (by decide) ?_
      exact wp_iret dX5_matchSign_18 rfl (Nat.le_refl _) (Nat.le_refl _) (by first | with_reducible rfl | (simp only [msF, mnW, if_pos c_6, if_neg c_14]; done) | (simp only [msF, mnW, if_pos c_6, if_neg c_14]; rfl) | rfl) (by first | with_reducible rfl | (simp only [msF, mnW, if_pos c_6, if_neg c_14]; done) | (simp only [msF, mnW, if_pos c_6, if_neg c_14]; rfl) | rfl)

