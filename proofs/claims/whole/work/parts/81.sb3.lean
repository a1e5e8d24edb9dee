/-! numbers into a text -/
theorem ten_neg {a : Nat} : (10 : Int32) * -nI a = -nI (10 * a) := by
  rw [show (10 : Int32) = nI 10 from rfl, Int32.mul_neg, nJ_mul]
theorem lp_ss {G : GG} {M : Mem} {d : Nat} {V : Nat} (hV : V < 1000000000) (n : Nat) : ∀ (j : Nat), j + n = 8 → (j = 0 ∨ 10 ^ j ≤ V) → WP G iJ6_stringSize_0f7a4 d 0 0 (some (.int (nI (sb_dg V)))) M 16 [some (.int (-nI V)), some (.int 0), some (.int (-nI (10 ^ (j + 1)))), some (.int (nI (j + 1)))] [] M 0 0 := by
  induction n with
  | zero =>
    intro j hj h
    have hj : j = 8 := by omega
    subst hj
    refine wp_ild3 dJ6_stringSize_0f7a4_16 ?_
    refine wp_bipush (v := 10) dJ6_stringSize_0f7a4_17 (by decide) ?_
    refine wp_icmp_ge (tgt := 42) dJ6_stringSize_0f7a4_19 (by decide) (fun h => absurd h (by decide)) (fun _ => ?_)
    refine wp_ild0 dJ6_stringSize_0f7a4_22 ?_
    refine wp_ild2 dJ6_stringSize_0f7a4_23 ?_
    refine wp_icmp_le (tgt := 31) dJ6_stringSize_0f7a4_24 (by decide) (fun h => absurd ((sb_nle (by omega) (by decide)).mp h) (by omega)) (fun _ => ?_)
    refine wp_ild3 dJ6_stringSize_0f7a4_27 ?_
    refine wp_ild1 dJ6_stringSize_0f7a4_28 ?_
    refine wp_iadd dJ6_stringSize_0f7a4_29 ?_
    exact wp_iret dJ6_stringSize_0f7a4_30 rfl (Nat.le_refl _) (Nat.le_refl _) (by rw [Int32.add_zero, dg_of (V := V) (j := 8) (by omega) h (by omega) (by omega)]) rfl
  | succ n ih =>
    intro j hj h
    have p9 := pow9 (j := j + 1) (by omega)
    refine wp_ild3 dJ6_stringSize_0f7a4_16 ?_
    refine wp_bipush (v := 10) dJ6_stringSize_0f7a4_17 (by decide) ?_
    refine wp_icmp_ge (tgt := 42) dJ6_stringSize_0f7a4_19 (by decide) (fun h => absurd h (show ¬ nI 10 ≤ nI (j + 1) from nI_ge (by omega) (by decide))) (fun _ => ?_)
    refine wp_ild0 dJ6_stringSize_0f7a4_22 ?_
    refine wp_ild2 dJ6_stringSize_0f7a4_23 ?_
    refine wp_icmp_le (tgt := 31) dJ6_stringSize_0f7a4_24 (by decide) (fun h => ?_) (fun hn => ?_)
    · have h := (sb_nle (by omega) (by omega)).mp h
      refine wp_bipush (v := 10) dJ6_stringSize_0f7a4_31 (by decide) ?_
      refine wp_ild2 dJ6_stringSize_0f7a4_33 ?_
      refine wp_imul dJ6_stringSize_0f7a4_34 ?_
      rw [ten_neg, show 10 * 10 ^ (j + 1) = 10 ^ (j + 1 + 1) by rw [Nat.pow_succ 10 (j + 1)]; omega]
      refine wp_ist2 dJ6_stringSize_0f7a4_35 (by decide) rfl ?_
      refine wp_inc3 dJ6_stringSize_0f7a4_36 (by decide) rfl ?_
      refine wp_goto (tgt := 16) dJ6_stringSize_0f7a4_39 (by decide) ?_
      exact ih (j + 1) (by omega) (Or.inr h)
    · have hn := Nat.lt_of_not_le (fun q => hn ((sb_nle (by omega) (by omega)).mpr q))
      refine wp_ild3 dJ6_stringSize_0f7a4_27 ?_
      refine wp_ild1 dJ6_stringSize_0f7a4_28 ?_
      refine wp_iadd dJ6_stringSize_0f7a4_29 ?_
      exact wp_iret dJ6_stringSize_0f7a4_30 rfl (Nat.le_refl _) (Nat.le_refl _) (by rw [Int32.add_zero, dg_of (V := V) (j := j) (by omega) h (by rw [Nat.pow_succ] at hn; omega) (by omega)]) rfl
theorem sx_size {G : GG} {M : Mem} {d : Nat} {V : Nat} (hV : V < 1000000000) : Ct G d yJ6_stringSize_0f7a4 iJ6_stringSize_0f7a4 [.int (nI V)] M 0 0 (some (.int (nI (sb_dg V)))) M := by
  refine Ct.of 3 (by decide) rfl (by decide) (Nat.le_of_ble_eq_true rfl) ?_
  show WP _ _ _ _ _ _ _ 0 [some (.int (nI V)), none, none, none] [] _ 0 0
  refine wp_iconst (v := 1) dJ6_stringSize_0f7a4_0 (by decide) ?_
  refine wp_ist1 dJ6_stringSize_0f7a4_1 (by decide) rfl ?_
  refine wp_ild0 dJ6_stringSize_0f7a4_2 ?_
  refine wp_if_lt (tgt := 11) dJ6_stringSize_0f7a4_3 (by decide) (fun h => absurd h (nI_pos (by omega))) (fun _ => ?_)
  refine wp_iconst (v := 0) dJ6_stringSize_0f7a4_6 (by decide) ?_
  refine wp_ist1 dJ6_stringSize_0f7a4_7 (by decide) rfl ?_
  refine wp_ild0 dJ6_stringSize_0f7a4_8 ?_
  refine wp_ineg dJ6_stringSize_0f7a4_9 ?_
  refine wp_ist0 dJ6_stringSize_0f7a4_10 (by decide) rfl ?_
  refine wp_bipush (v := -nI (10 ^ (0 + 1))) dJ6_stringSize_0f7a4_11 (by decide) ?_
  refine wp_ist2 dJ6_stringSize_0f7a4_13 (by decide) rfl ?_
  refine wp_iconst (v := nI (0 + 1)) dJ6_stringSize_0f7a4_14 (by decide) ?_
  refine wp_ist3 dJ6_stringSize_0f7a4_15 (by decide) rfl ?_
  exact lp_ss hV 8 0 rfl (Or.inl rfl)
theorem m1_lc {p : Nat} (h : 0 < p) : nI p + Int32.ofInt (-1) = nI (p - 1) := sb_m1 h
theorem lp_gc {G : GG} {M : Mem} {d : Nat} {b m n ao at_ : Nat} (hG : GOK G) (hb : b ∈ M.1) (hm : m ≤ 700) (o1 : ("java/lang/Integer", "DigitOnes", "[B", Value.ref ao) ∈ gZ G) (o2 : (FieldType.byte, ao, 100, fun j => Value.int (nI (48 + j % 10))) ∈ gS G) (t1 : ("java/lang/Integer", "DigitTens", "[B", Value.ref at_) ∈ gZ G) (t2 : (FieldType.byte, at_, 100, fun j => Value.int (nI (48 + j / 10))) ∈ gS G) : ∀ (fuel v p : Nat) (f : Nat → Int32), v < fuel → v < 2 ^ 31 → p = n + sb_dg v → p ≤ m → ∃ f', WP G iJ6_getChars_ba4f3 d 0 0 (some (.int (nI n))) (ups M b (.inl (cyB G, m, .inl f'))) 22 [some (.int (-nI v)), none, some (.ref b), none, none, some (.int (nI p)), some (.int 0)] [] (ups M b (.inl (cyB G, m, .inl f))) 0 0 ∧ (∀ j, j < n ∨ p ≤ j → f' j = f j) ∧ (∀ i, i < sb_dg v → f' (p - 1 - i) = nI (48 + v / 10 ^ i % 10)) ∧ (sb_Fit f → sb_Fit f') := by
  intro fuel
  induction fuel with
  | zero => intro v p f h; omega
  | succ fuel ih =>
    intro v p f hvf hv hp hpm
    have hd1 := (sb_dg_in v).1
    have e1 : -(-nI v) = nI v := Int32.neg_neg
    have ev : (nI v).toNatClampNeg = v := nI_clamp hv
    by_cases h100 : v < 100
    · by_cases h9 : v < 10
      · have hd : sb_dg v = 1 := if_pos h9
        refine ⟨upd f (p - 1) (nI (48 + v % 10)), ?_, fun j hj => upd_ne (by omega), fun i hi => ?_, fun hf => sb_fitU hf (byte_fit _ (by omega))⟩
        · refine wp_ild0 dJ6_getChars_ba4f3_22 ?_
          refine wp_bipush (v := -100) dJ6_getChars_ba4f3_23 (by decide) ?_
          refine wp_icmp_gt (tgt := 72) dJ6_getChars_ba4f3_25 (by decide) (fun _ => ?_) (fun h => absurd (show -nI 100 < -nI v from (sb_nlt (by decide) hv).mpr h100) h)
          refine wp_ald2 dJ6_getChars_ba4f3_72 ?_
          refine wp_iinc5 dJ6_getChars_ba4f3_73 (by decide) rfl ?_
          rw [m1_lc (show 0 < p by omega)]
          refine wp_ild5 dJ6_getChars_ba4f3_76 ?_
          refine wp_gets dJ6_getChars_ba4f3_78 o1 sJ6_83 ?_
          refine wp_ild0 dJ6_getChars_ba4f3_81 ?_
          refine wp_ineg dJ6_getChars_ba4f3_82 ?_
          rw [e1]
          refine wp_tbld (v := .int (nI (48 + v % 10))) dJ6_getChars_ba4f3_83 o2 (nI_in h100 (by decide)) (by rw [ev]) ?_
          refine wp_bast dJ6_getChars_ba4f3_84 hG.2.1 hb vu_eq (nI_in (show p - 1 < m by omega) (by omega)) ?_
          rw [byte_nar _ (by omega), nI_clamp (show p - 1 < 2 ^ 31 by omega), ups_twice]
          refine wp_ild0 dJ6_getChars_ba4f3_85 ?_
          refine wp_bipush (v := -9) dJ6_getChars_ba4f3_86 (by decide) ?_
          refine wp_icmp_ge (tgt := 104) dJ6_getChars_ba4f3_88 (by decide) (fun _ => ?_) (fun h => absurd (show -nI 9 ≤ -nI v from (sb_nle (by decide) hv).mpr (by omega)) h)
          refine wp_ild6 dJ6_getChars_ba4f3_104 ?_
          refine wp_if_eq (tgt := 118) dJ6_getChars_ba4f3_106 (by decide) (fun _ => ?_) (fun h => absurd rfl h)
          refine wp_ild5 dJ6_getChars_ba4f3_118 ?_
          exact wp_iret dJ6_getChars_ba4f3_120 rfl (Nat.le_refl _) (Nat.le_refl _) (by rw [show p - 1 = n by omega]) rfl
        · obtain rfl : i = 0 := by omega
          rw [Nat.sub_zero, upd_eq, Nat.pow_zero, Nat.div_one]
      · have hd : sb_dg v = 2 := by rw [sb_dg, if_neg h9, if_pos h100]
        refine ⟨upd (upd f (p - 1) (nI (48 + v % 10))) (p - 1 - 1) (nI (48 + v / 10)), ?_, fun j hj => by rw [upd_ne (by omega), upd_ne (by omega)], fun i hi => ?_, fun hf => sb_fitU (sb_fitU hf (byte_fit _ (by omega))) (byte_fit _ (by omega))⟩
        · refine wp_ild0 dJ6_getChars_ba4f3_22 ?_
          refine wp_bipush (v := -100) dJ6_getChars_ba4f3_23 (by decide) ?_
          refine wp_icmp_gt (tgt := 72) dJ6_getChars_ba4f3_25 (by decide) (fun _ => ?_) (fun h => absurd (show -nI 100 < -nI v from (sb_nlt (by decide) hv).mpr h100) h)
          refine wp_ald2 dJ6_getChars_ba4f3_72 ?_
          refine wp_iinc5 dJ6_getChars_ba4f3_73 (by decide) rfl ?_
          rw [m1_lc (show 0 < p by omega)]
          refine wp_ild5 dJ6_getChars_ba4f3_76 ?_
          refine wp_gets dJ6_getChars_ba4f3_78 o1 sJ6_83 ?_
          refine wp_ild0 dJ6_getChars_ba4f3_81 ?_
          refine wp_ineg dJ6_getChars_ba4f3_82 ?_
          rw [e1]
          refine wp_tbld (v := .int (nI (48 + v % 10))) dJ6_getChars_ba4f3_83 o2 (nI_in h100 (by decide)) (by rw [ev]) ?_
          refine wp_bast dJ6_getChars_ba4f3_84 hG.2.1 hb vu_eq (nI_in (show p - 1 < m by omega) (by omega)) ?_
          rw [byte_nar _ (by omega), nI_clamp (show p - 1 < 2 ^ 31 by omega), ups_twice]
          refine wp_ild0 dJ6_getChars_ba4f3_85 ?_
          refine wp_bipush (v := -9) dJ6_getChars_ba4f3_86 (by decide) ?_
          refine wp_icmp_ge (tgt := 104) dJ6_getChars_ba4f3_88 (by decide) (fun h => absurd ((sb_nle (by decide) hv).mp (show -nI 9 ≤ -nI v from h)) (by omega)) (fun _ => ?_)
          refine wp_ald2 dJ6_getChars_ba4f3_91 ?_
          refine wp_iinc5 dJ6_getChars_ba4f3_92 (by decide) rfl ?_
          rw [m1_lc (show 0 < p - 1 by omega)]
          refine wp_ild5 dJ6_getChars_ba4f3_95 ?_
          refine wp_gets dJ6_getChars_ba4f3_97 t1 sJ6_87 ?_
          refine wp_ild0 dJ6_getChars_ba4f3_100 ?_
          refine wp_ineg dJ6_getChars_ba4f3_101 ?_
          rw [e1]
          refine wp_tbld (v := .int (nI (48 + v / 10))) dJ6_getChars_ba4f3_102 t2 (nI_in h100 (by decide)) (by rw [ev]) ?_
          refine wp_bast dJ6_getChars_ba4f3_103 hG.2.1 hb vu_eq (nI_in (show p - 1 - 1 < m by omega) (by omega)) ?_
          rw [byte_nar _ (by omega), nI_clamp (show p - 1 - 1 < 2 ^ 31 by omega), ups_twice]
          refine wp_ild6 dJ6_getChars_ba4f3_104 ?_
          refine wp_if_eq (tgt := 118) dJ6_getChars_ba4f3_106 (by decide) (fun _ => ?_) (fun h => absurd rfl h)
          refine wp_ild5 dJ6_getChars_ba4f3_118 ?_
          exact wp_iret dJ6_getChars_ba4f3_120 rfl (Nat.le_refl _) (Nat.le_refl _) (by rw [show p - 1 - 1 = n by omega]) rfl
        · obtain rfl | rfl : i = 0 ∨ i = 1 := by omega
          · rw [Nat.sub_zero, upd_ne (by omega), upd_eq, Nat.pow_zero, Nat.div_one]
          · rw [upd_eq, Nat.pow_one, show v / 10 % 10 = v / 10 by omega]
    · have hd := sb_dg100 (w := v) (by omega) hv
      have hd2 := (sb_dg_in (v / 100)).1
      obtain ⟨f', hw, g1, g2, g3⟩ := ih (v / 100) (p - 1 - 1) (upd (upd f (p - 1) (nI (48 + v % 10))) (p - 1 - 1) (nI (48 + v / 10 % 10))) (by omega) (by omega) (by omega) (by omega)
      refine ⟨f', ?_, fun j hj => by rw [g1 j (by omega), upd_ne (by omega), upd_ne (by omega)], fun i hi => ?_, fun hf => g3 (sb_fitU (sb_fitU hf (byte_fit _ (by omega))) (byte_fit _ (by omega)))⟩
      · refine wp_ild0 dJ6_getChars_ba4f3_22 ?_
        refine wp_bipush (v := -100) dJ6_getChars_ba4f3_23 (by decide) ?_
        refine wp_icmp_gt (tgt := 72) dJ6_getChars_ba4f3_25 (by decide) (fun h => absurd ((sb_nlt (by decide) hv).mp (show -nI 100 < -nI v from h)) h100) (fun _ => ?_)
        refine wp_ild0 dJ6_getChars_ba4f3_28 ?_
        refine wp_bipush (v := 100) dJ6_getChars_ba4f3_29 (by decide) ?_
        refine wp_idiv dJ6_getChars_ba4f3_31 (by decide) ?_
        rw [sb_ndiv hv]
        refine wp_ist3 dJ6_getChars_ba4f3_32 (by decide) rfl ?_
        refine wp_ild3 dJ6_getChars_ba4f3_33 ?_
        refine wp_bipush (v := 100) dJ6_getChars_ba4f3_34 (by decide) ?_
        refine wp_imul dJ6_getChars_ba4f3_36 ?_
        refine wp_ild0 dJ6_getChars_ba4f3_37 ?_
        refine wp_isub dJ6_getChars_ba4f3_38 ?_
        rw [sb_nrem hv]
        refine wp_ist4 dJ6_getChars_ba4f3_39 (by decide) rfl ?_
        refine wp_ild3 dJ6_getChars_ba4f3_41 ?_
        refine wp_ist0 dJ6_getChars_ba4f3_42 (by decide) rfl ?_
        refine wp_ald2 dJ6_getChars_ba4f3_43 ?_
        refine wp_iinc5 dJ6_getChars_ba4f3_44 (by decide) rfl ?_
        rw [m1_lc (show 0 < p by omega)]
        refine wp_ild5 dJ6_getChars_ba4f3_47 ?_
        refine wp_gets dJ6_getChars_ba4f3_49 o1 sJ6_83 ?_
        refine wp_ild4 dJ6_getChars_ba4f3_52 ?_
        refine wp_tbld (v := .int (nI (48 + v % 10))) dJ6_getChars_ba4f3_54 o2 (nI_in (show v % 100 < 100 by omega) (by decide)) (by rw [nI_clamp (by omega), show v % 100 % 10 = v % 10 by omega]) ?_
        refine wp_bast dJ6_getChars_ba4f3_55 hG.2.1 hb vu_eq (nI_in (show p - 1 < m by omega) (by omega)) ?_
        rw [byte_nar _ (by omega), nI_clamp (show p - 1 < 2 ^ 31 by omega), ups_twice]
        refine wp_ald2 dJ6_getChars_ba4f3_56 ?_
        refine wp_iinc5 dJ6_getChars_ba4f3_57 (by decide) rfl ?_
        rw [m1_lc (show 0 < p - 1 by omega)]
        refine wp_ild5 dJ6_getChars_ba4f3_60 ?_
        refine wp_gets dJ6_getChars_ba4f3_62 t1 sJ6_87 ?_
        refine wp_ild4 dJ6_getChars_ba4f3_65 ?_
        refine wp_tbld (v := .int (nI (48 + v / 10 % 10))) dJ6_getChars_ba4f3_67 t2 (nI_in (show v % 100 < 100 by omega) (by decide)) (by rw [nI_clamp (by omega), show v % 100 / 10 = v / 10 % 10 by omega]) ?_
        refine wp_bast dJ6_getChars_ba4f3_68 hG.2.1 hb vu_eq (nI_in (show p - 1 - 1 < m by omega) (by omega)) ?_
        rw [byte_nar _ (by omega), nI_clamp (show p - 1 - 1 < 2 ^ 31 by omega), ups_twice]
        refine wp_goto (tgt := 22) dJ6_getChars_ba4f3_69 (by decide) ?_
        exact WP.fg (by simp [lcle]) hw
      · match i, hi with
        | 0, _ => rw [Nat.sub_zero, g1 _ (by omega), upd_ne (by omega), upd_eq, Nat.pow_zero, Nat.div_one]
        | 1, _ => rw [g1 _ (by omega), upd_eq, Nat.pow_one]
        | k + 2, hi =>
          rw [show p - 1 - (k + 2) = p - 1 - 1 - 1 - k by omega, g2 k (by omega), Nat.div_div_eq_div_mul, show 100 * 10 ^ k = 10 ^ (k + 2) by rw [show k + 2 = k + 1 + 1 from rfl, Nat.pow_succ, Nat.pow_succ]; omega]
theorem sx_getChars {G : GG} {M : Mem} {d : Nat} {b m n V : Nat} {f : Nat → Int32} (hG : GOK G) (hg : GDg G) (hb : b ∈ M.1) (hEb : M.2.1 b = .inl (cyB G, m, .inl f)) (hm : m ≤ 700) (hV : V < 1000000000) (hnm : n + sb_dg V ≤ m) : ∃ f', Ct G d yJ6_getChars_ba4f3 iJ6_getChars_ba4f3 [.int (nI V), .int (nI (n + sb_dg V)), .ref b] M 0 0 (some (.int (nI n))) (ups M b (.inl (cyB G, m, .inl f'))) ∧ (∀ j, j < n → f' j = f j) ∧ (∀ i, i < sb_dg V → f' (n + sb_dg V - 1 - i) = nI (48 + V / 10 ^ i % 10)) ∧ (sb_Fit f → sb_Fit f') := by
  obtain ⟨ao, at_, ⟨o1, o2⟩, t1, t2⟩ := hg
  obtain ⟨f', hw, g1, g2, g3⟩ := lp_gc (d := d) (n := n) hG hb hm o1 o2 t1 t2 (V + 1) V (n + sb_dg V) f (by omega) (by omega) rfl hnm
  refine ⟨f', ?_, fun j hj => g1 j (Or.inl hj), g2, g3⟩
  have hM0 : ups M b (.inl (cyB G, m, .inl f)) = M := by
    show (M.1, va_up M.2.1 b _, M.2.2) = M
    have : va_up M.2.1 b (.inl (cyB G, m, .inl f)) = M.2.1 := by
      funext k
      by_cases h : k = b
      · subst h; rw [vu_eq, hEb]
      · rw [vu_ne h]
    rw [this]
  rw [hM0] at hw
  refine Ct.of 4 (by decide) rfl (by decide) (Nat.le_of_ble_eq_true rfl) ?_
  show WP _ _ _ _ _ _ _ 0 [some (.int (nI V)), some (.int (nI (n + sb_dg V))), some (.ref b), none, none, none, none] [] _ 0 0
  refine wp_ild1 dJ6_getChars_ba4f3_0 ?_
  refine wp_ist5 dJ6_getChars_ba4f3_1 (by decide) rfl ?_
  refine wp_ild0 dJ6_getChars_ba4f3_3 ?_
  refine wp_if_ge (tgt := 11) dJ6_getChars_ba4f3_4 (by decide) (fun _ => ?_) (fun h => absurd (nI_pos' (by omega)) h)
  refine wp_iconst (v := 0) dJ6_getChars_ba4f3_11 (by decide) ?_
  refine wp_ist6 dJ6_getChars_ba4f3_12 (by decide) rfl ?_
  refine wp_ild6 dJ6_getChars_ba4f3_14 ?_
  refine wp_if_ne (tgt := 22) dJ6_getChars_ba4f3_16 (by decide) (fun h => absurd rfl h) (fun _ => ?_)
  refine wp_ild0 dJ6_getChars_ba4f3_19 ?_
  refine wp_ineg dJ6_getChars_ba4f3_20 ?_
  refine wp_ist0 dJ6_getChars_ba4f3_21 (by decide) rfl ?_
  exact WP.fg (by simp [lcle]) hw
/-- a number's letters -/
def ndg (V : Nat) : Nat → List Nat
  | 0 => []
  | j + 1 => (48 + V / 10 ^ j % 10) :: ndg V j
abbrev numN (V : Nat) : List Nat := ndg V (sb_dg V)
theorem ndg_len (V : Nat) : ∀ j, (ndg V j).length = j
  | 0 => rfl
  | j + 1 => by simp [ndg, ndg_len V j]
theorem ndg_lt (V : Nat) : ∀ j c, c ∈ ndg V j → c < 128
  | 0, c, h => by simp [ndg] at h
  | j + 1, c, h => by
    rcases List.mem_cons.mp h with rfl | h
    · omega
    · exact ndg_lt V j c h
theorem ndg_at (V : Nat) : ∀ j i, i < j → (ndg V j).getD i 0 = 48 + V / 10 ^ (j - 1 - i) % 10
  | 0, _, h => by omega
  | j + 1, 0, _ => by simp [ndg]
  | j + 1, i + 1, h => by
    have := ndg_at V j i (by omega)
    simp only [ndg, List.getD_cons_succ]
    rw [this, show j + 1 - 1 - (i + 1) = j - 1 - i by omega]
