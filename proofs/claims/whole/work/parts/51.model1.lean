abbrev inP (x a b : Int32) : Prop := ¬ x < a ∧ ¬ b < x
set_option maxHeartbeats 2000000 in
theorem cm_isIn {G : GG} {M : Mem} {d : Nat} {x a b : Int32}   : Ct G d yX12_isIn iX12_isIn [.int x, .int a, .int b] M 0 0 (some (.int (bI (inP x a b)))) M := by
  refine Ct.of 0 (by decide) rfl (by decide) (Nat.le_of_ble_eq_true rfl) ?_
  show WP _ _ _ _ _ _ _ 0 [some (.int x), some (.int a), some (.int b)] [] _ 0 0
  refine wp_ild0 dX12_isIn_0 ?_
  refine wp_ild1 dX12_isIn_1 ?_
  refine wp_icmp_lt (tgt := 14) dX12_isIn_2 (by decide) (fun c_2 => ?_) (fun c_2 => ?_)
  · refine wp_iconst (v := 0) dX12_isIn_14 (by decide) ?_
    exact wp_zret dX12_isIn_15 rfl rfl (Nat.le_refl _) (Nat.le_refl _) (by first | with_reducible rfl | (simp [bI, inP, c_2]; done) | (simp_all [bI, inP]; done)) (by first | with_reducible rfl | (simp [bI, inP, c_2]; done) | (simp_all [bI, inP]; done))
  · refine wp_ild0 dX12_isIn_5 ?_
    refine wp_ild2 dX12_isIn_6 ?_
    refine wp_icmp_gt (tgt := 14) dX12_isIn_7 (by decide) (fun c_7 => ?_) (fun c_7 => ?_)
    · refine wp_iconst (v := 0) dX12_isIn_14 (by decide) ?_
      exact wp_zret dX12_isIn_15 rfl rfl (Nat.le_refl _) (Nat.le_refl _) (by first | with_reducible rfl | (simp [bI, inP, c_2, c_7]; done) | (simp_all [bI, inP]; done)) (by first | with_reducible rfl | (simp [bI, inP, c_2, c_7]; done) | (simp_all [bI, inP]; done))
    · refine wp_iconst (v := 1) dX12_isIn_10 (by decide) ?_
      refine wp_goto (tgt := 15) dX12_isIn_11 (by decide) ?_
      exact wp_zret dX12_isIn_15 rfl rfl (Nat.le_refl _) (Nat.le_refl _) (by first | with_reducible rfl | (simp [bI, inP, c_2, c_7]; done) | (simp_all [bI, inP]; done)) (by first | with_reducible rfl | (simp [bI, inP, c_2, c_7]; done) | (simp_all [bI, inP]; done))

abbrev isT (F : Nat → Int32) (x : Int32) : Prop := inP x 0 (F 0 - 1)
abbrev isOb (x : Int32) : Prop := inP x 0 7
set_option maxHeartbeats 2000000 in
theorem cm_isThread {G : GG} {Y : Nat} {F : Nat → Int32} {E0 : Nat → va_E} {L : List Nat} {sz d : Nat} {x : Int32} (hG : GOK G) (hM : rIn (mR G Y) L)  (hdp : 1 ≤ d) : Ct G d yX12_isThread iX12_isThread [.ref Y, .int x] (Mm G Y F E0 L sz) 0 0 (some (.int (bI (isT F x)))) (Mm G Y (F) E0 L sz) := by
  refine Ct.of 0 (by decide) rfl (by decide) (Nat.le_of_ble_eq_true rfl) ?_
  show WP _ _ _ _ _ _ _ 0 [some (.ref Y), some (.int x)] [] _ 0 0
  refine wp_ild1 dX12_isThread_0 ?_
  refine wp_iconst (v := 0) dX12_isThread_1 (by decide) ?_
  refine wp_ald0 dX12_isThread_2 ?_
  refine gm_w dX12_isThread_3 fX12_7 hM ?_
  refine wp_iconst (v := 0) dX12_isThread_6 (by decide) ?_
  refine rm_w (i' := 0) dX12_isThread_7 hG hM (by decide) (by decide) ?_
  refine wp_iconst (v := 1) dX12_isThread_8 (by decide) ?_
  refine wp_isub dX12_isThread_9 ?_
  refine ci_3 dX12_isThread_10 kX12_35 (cm_isIn (d := d - 1)) (by omega) (Nat.le_of_ble_eq_true rfl) (Nat.le_refl _) (Nat.le_refl _) ?_
  exact wp_zret dX12_isThread_13 rfl (bI_nar _) (Nat.le_refl _) (Nat.le_refl _) (by first | with_reducible rfl | (simp [bI, ]; done) | (simp_all [bI]; done)) (by first | with_reducible rfl | (simp [bI, ]; done) | (simp_all [bI]; done))

set_option maxHeartbeats 2000000 in
theorem cm_isObject {G : GG} {M : Mem} {d : Nat} {x : Int32}   (hdp : 1 ≤ d) : Ct G d yX12_isObject iX12_isObject [.int x] M 0 0 (some (.int (bI (isOb x)))) M := by
  refine Ct.of 0 (by decide) rfl (by decide) (Nat.le_of_ble_eq_true rfl) ?_
  show WP _ _ _ _ _ _ _ 0 [some (.int x)] [] _ 0 0
  refine wp_ild0 dX12_isObject_0 ?_
  refine wp_iconst (v := 0) dX12_isObject_1 (by decide) ?_
  refine wp_bipush (v := 7) dX12_isObject_2 (by decide) ?_
  refine ci_3 dX12_isObject_4 kX12_35 (cm_isIn (d := d - 1)) (by omega) (Nat.le_of_ble_eq_true rfl) (Nat.le_refl _) (Nat.le_refl _) ?_
  exact wp_zret dX12_isObject_7 rfl (bI_nar _) (Nat.le_refl _) (Nat.le_refl _) (by first | with_reducible rfl | (simp [bI, ]; done) | (simp_all [bI]; done)) (by first | with_reducible rfl | (simp [bI, ]; done) | (simp_all [bI]; done))

def leaM (x : Int32) : Int32 := if x = 0 then 0 else if x = 1 then 0 else if x = 7 then 0 else 1
set_option maxHeartbeats 2000000 in
theorem cm_least {G : GG} {M : Mem} {d : Nat} {x : Int32}   : Ct G d yX12_least iX12_least [.int x] M 0 0 (some (.int (leaM x))) M := by
  refine Ct.of 0 (by decide) rfl (by decide) (Nat.le_of_ble_eq_true rfl) ?_
  show WP _ _ _ _ _ _ _ 0 [some (.int x)] [] _ 0 0
  refine wp_ild0 dX12_least_0 ?_
  refine wp_if_eq (tgt := 15) dX12_least_1 (by decide) (fun c_1 => ?_) (fun c_1 => ?_)
  · refine wp_iconst (v := 0) dX12_least_15 (by decide) ?_
    refine wp_goto (tgt := 20) dX12_least_16 (by decide) ?_
    exact wp_iret dX12_least_20 rfl (Nat.le_refl _) (Nat.le_refl _) (by first | with_reducible rfl | (simp only [leaM, if_pos c_1]; done) | (simp only [leaM, if_pos c_1]; rfl) | rfl) (by first | with_reducible rfl | (simp only [leaM, if_pos c_1]; done) | (simp only [leaM, if_pos c_1]; rfl) | rfl)
  · refine wp_ild0 dX12_least_4 ?_
    refine wp_iconst (v := 1) dX12_least_5 (by decide) ?_
    refine wp_icmp_eq (tgt := 15) dX12_least_6 (by decide) (fun c_6 => ?_) (fun c_6 => ?_)
    · refine wp_iconst (v := 0) dX12_least_15 (by decide) ?_
      refine wp_goto (tgt := 20) dX12_least_16 (by decide) ?_
      exact wp_iret dX12_least_20 rfl (Nat.le_refl _) (Nat.le_refl _) (by first | with_reducible rfl | (simp only [leaM, if_neg c_1, if_pos c_6]; done) | (simp only [leaM, if_neg c_1, if_pos c_6]; rfl) | rfl) (by first | with_reducible rfl | (simp only [leaM, if_neg c_1, if_pos c_6]; done) | (simp only [leaM, if_neg c_1, if_pos c_6]; rfl) | rfl)
    · refine wp_ild0 dX12_least_9 ?_
      refine wp_bipush (v := 7) dX12_least_10 (by decide) ?_
      refine wp_icmp_ne (tgt := 19) dX12_least_12 (by decide) (fun c_12 => ?_) (fun c_12 => ?_)
      · refine wp_iconst (v := 1) dX12_least_19 (by decide) ?_
        exact wp_iret dX12_least_20 rfl (Nat.le_refl _) (Nat.le_refl _) (by first | with_reducible rfl | (simp only [leaM, if_neg c_1, if_neg c_6, if_neg c_12]; done) | (simp only [leaM, if_neg c_1, if_neg c_6, if_neg c_12]; rfl) | rfl) (by first | with_reducible rfl | (simp only [leaM, if_neg c_1, if_neg c_6, if_neg c_12]; done) | (simp only [leaM, if_neg c_1, if_neg c_6, if_neg c_12]; rfl) | rfl)
      · refine wp_iconst (v := 0) dX12_least_15 (by decide) ?_
        refine wp_goto (tgt := 20) dX12_least_16 (by decide) ?_
        exact wp_iret dX12_least_20 rfl (Nat.le_refl _) (Nat.le_refl _) (by first | with_reducible rfl | (simp only [leaM, if_neg c_1, if_neg c_6, if_pos c_12]; done) | (simp only [leaM, if_neg c_1, if_neg c_6, if_pos c_12]; rfl) | rfl) (by first | with_reducible rfl | (simp only [leaM, if_neg c_1, if_neg c_6, if_pos c_12]; done) | (simp only [leaM, if_neg c_1, if_neg c_6, if_pos c_12]; rfl) | rfl)

def mosM (x : Int32) : Int32 := if x = 2 then 20 else if x = 3 then 20 else if x = 4 then 15 else if x = 5 then 20 else if x = 6 then 8 else 1
theorem sw26 {x : Int32} (h2 : ¬ x = 2) (h3 : ¬ x = 3) (h4 : ¬ x = 4) (h5 : ¬ x = 5) (h6 : ¬ x = 6) : x.toInt < 2 ∨ (6 : Int) < x.toInt := by
  by_cases h0 : x.toInt < 2
  · exact Or.inl h0
  · by_cases h1 : (6 : Int) < x.toInt
    · exact Or.inr h1
    · exfalso
      have key : ∀ k : Nat, k < 2 ^ 31 → x.toInt = (k : Int) → x = nI k := fun k hk e => Int32.toInt_inj.mp (by rw [nI_toInt hk]; exact e)
      have : x.toInt = 2 ∨ x.toInt = 3 ∨ x.toInt = 4 ∨ x.toInt = 5 ∨ x.toInt = 6 := by omega
      rcases this with h | h | h | h | h
      · exact h2 (key 2 (by decide) h)
      · exact h3 (key 3 (by decide) h)
      · exact h4 (key 4 (by decide) h)
      · exact h5 (key 5 (by decide) h)
      · exact h6 (key 6 (by decide) h)
set_option maxHeartbeats 2000000 in
theorem cm_most {G : GG} {M : Mem} {d : Nat} {x : Int32}   : Ct G d yX12_most iX12_most [.int x] M 0 0 (some (.int (mosM x))) M := by
  refine Ct.of 0 (by decide) rfl (by decide) (Nat.le_of_ble_eq_true rfl) ?_
  show WP _ _ _ _ _ _ _ 0 [some (.int x)] [] _ 0 0
  refine wp_ild0 dX12_most_0 ?_
  by_cases s1_2 : x = 2
  · refine wp_tableIn (off := 41) (tgt := 42) dX12_most_1 (by rw [s1_2]; decide) (by rw [s1_2]; decide) (by rw [s1_2]; rfl) (by decide) ?_
    refine wp_bipush (v := 20) dX12_most_42 (by decide) ?_
    exact wp_iret dX12_most_44 rfl (Nat.le_refl _) (Nat.le_refl _) (by first | with_reducible rfl | (simp only [mosM, if_pos s1_2]; done) | (simp only [mosM, if_pos s1_2]; rfl) | rfl) (by first | with_reducible rfl | (simp only [mosM, if_pos s1_2]; done) | (simp only [mosM, if_pos s1_2]; rfl) | rfl)
  · by_cases s1_3 : x = 3
    · refine wp_tableIn (off := 41) (tgt := 42) dX12_most_1 (by rw [s1_3]; decide) (by rw [s1_3]; decide) (by rw [s1_3]; rfl) (by decide) ?_
      refine wp_bipush (v := 20) dX12_most_42 (by decide) ?_
      exact wp_iret dX12_most_44 rfl (Nat.le_refl _) (Nat.le_refl _) (by first | with_reducible rfl | (simp only [mosM, if_neg s1_2, if_pos s1_3]; done) | (simp only [mosM, if_neg s1_2, if_pos s1_3]; rfl) | rfl) (by first | with_reducible rfl | (simp only [mosM, if_neg s1_2, if_pos s1_3]; done) | (simp only [mosM, if_neg s1_2, if_pos s1_3]; rfl) | rfl)
    · by_cases s1_4 : x = 4
      · refine wp_tableIn (off := 35) (tgt := 36) dX12_most_1 (by rw [s1_4]; decide) (by rw [s1_4]; decide) (by rw [s1_4]; rfl) (by decide) ?_
        refine wp_bipush (v := 15) dX12_most_36 (by decide) ?_
        exact wp_iret dX12_most_38 rfl (Nat.le_refl _) (Nat.le_refl _) (by first | with_reducible rfl | (simp only [mosM, if_neg s1_2, if_neg s1_3, if_pos s1_4]; done) | (simp only [mosM, if_neg s1_2, if_neg s1_3, if_pos s1_4]; rfl) | rfl) (by first | with_reducible rfl | (simp only [mosM, if_neg s1_2, if_neg s1_3, if_pos s1_4]; done) | (simp only [mosM, if_neg s1_2, if_neg s1_3, if_pos s1_4]; rfl) | rfl)
      · by_cases s1_5 : x = 5
        · refine wp_tableIn (off := 41) (tgt := 42) dX12_most_1 (by rw [s1_5]; decide) (by rw [s1_5]; decide) (by rw [s1_5]; rfl) (by decide) ?_
          refine wp_bipush (v := 20) dX12_most_42 (by decide) ?_
          exact wp_iret dX12_most_44 rfl (Nat.le_refl _) (Nat.le_refl _) (by first | with_reducible rfl | (simp only [mosM, if_neg s1_2, if_neg s1_3, if_neg s1_4, if_pos s1_5]; done) | (simp only [mosM, if_neg s1_2, if_neg s1_3, if_neg s1_4, if_pos s1_5]; rfl) | rfl) (by first | with_reducible rfl | (simp only [mosM, if_neg s1_2, if_neg s1_3, if_neg s1_4, if_pos s1_5]; done) | (simp only [mosM, if_neg s1_2, if_neg s1_3, if_neg s1_4, if_pos s1_5]; rfl) | rfl)
        · by_cases s1_6 : x = 6
          · refine wp_tableIn (off := 38) (tgt := 39) dX12_most_1 (by rw [s1_6]; decide) (by rw [s1_6]; decide) (by rw [s1_6]; rfl) (by decide) ?_
            refine wp_bipush (v := 8) dX12_most_39 (by decide) ?_
            exact wp_iret dX12_most_41 rfl (Nat.le_refl _) (Nat.le_refl _) (by first | with_reducible rfl | (simp only [mosM, if_neg s1_2, if_neg s1_3, if_neg s1_4, if_neg s1_5, if_pos s1_6]; done) | (simp only [mosM, if_neg s1_2, if_neg s1_3, if_neg s1_4, if_neg s1_5, if_pos s1_6]; rfl) | rfl) (by first | with_reducible rfl | (simp only [mosM, if_neg s1_2, if_neg s1_3, if_neg s1_4, if_neg s1_5, if_pos s1_6]; done) | (simp only [mosM, if_neg s1_2, if_neg s1_3, if_neg s1_4, if_neg s1_5, if_pos s1_6]; rfl) | rfl)
          · refine wp_tableOut (tgt := 45) dX12_most_1 (sw26 s1_2 s1_3 s1_4 s1_5 s1_6) (by decide) ?_
            refine wp_iconst (v := 1) dX12_most_45 (by decide) ?_
            exact wp_iret dX12_most_46 rfl (Nat.le_refl _) (Nat.le_refl _) (by first | with_reducible rfl | (simp only [mosM, if_neg s1_2, if_neg s1_3, if_neg s1_4, if_neg s1_5, if_neg s1_6]; done) | (simp only [mosM, if_neg s1_2, if_neg s1_3, if_neg s1_4, if_neg s1_5, if_neg s1_6]; rfl) | rfl) (by first | with_reducible rfl | (simp only [mosM, if_neg s1_2, if_neg s1_3, if_neg s1_4, if_neg s1_5, if_neg s1_6]; done) | (simp only [mosM, if_neg s1_2, if_neg s1_3, if_neg s1_4, if_neg s1_5, if_neg s1_6]; rfl) | rfl)

abbrev valP (x v : Int32) : Prop := inP x 0 7 ∧ inP v (leaM x) (mosM x)
set_option maxHeartbeats 2000000 in
theorem cm_isValue {G : GG} {M : Mem} {d : Nat} {x v : Int32}   (hdp : 1 ≤ d) : Ct G d yX12_isValue iX12_isValue [.int x, .int v] M 0 0 (some (.int (bI (valP x v)))) M := by
  refine Ct.of 0 (by decide) rfl (by decide) (Nat.le_of_ble_eq_true rfl) ?_
  show WP _ _ _ _ _ _ _ 0 [some (.int x), some (.int v)] [] _ 0 0
  refine wp_ild0 dX12_isValue_0 ?_
  refine wp_iconst (v := 0) dX12_isValue_1 (by decide) ?_
  refine wp_bipush (v := 7) dX12_isValue_2 (by decide) ?_
  refine ci_3 dX12_isValue_4 kX12_35 (cm_isIn (d := d - 1)) (by omega) (Nat.le_of_ble_eq_true rfl) (Nat.le_refl _) (Nat.le_refl _) ?_
  refine wp_ifB_eq (tgt := 29) dX12_isValue_7 (by decide) (fun c_7 => ?_) (fun c_7 => ?_)
  · refine wp_iconst (v := 0) dX12_isValue_29 (by decide) ?_
    exact wp_zret dX12_isValue_30 rfl rfl (Nat.le_refl _) (Nat.le_refl _) (by first | with_reducible rfl | (simp [bI, valP, c_7]; done) | (simp_all [bI, valP]; done)) (by first | with_reducible rfl | (simp [bI, valP, c_7]; done) | (simp_all [bI, valP]; done))
  · refine wp_ild1 dX12_isValue_10 ?_
    refine wp_ild0 dX12_isValue_11 ?_
    refine ci_1 dX12_isValue_12 kX12_39 (cm_least (d := d - 1)) (by omega) (Nat.le_of_ble_eq_true rfl) (Nat.le_refl _) (Nat.le_refl _) ?_
    refine wp_ild0 dX12_isValue_15 ?_
    refine ci_1 dX12_isValue_16 kX12_43 (cm_most (d := d - 1)) (by omega) (Nat.le_of_ble_eq_true rfl) (Nat.le_refl _) (Nat.le_refl _) ?_
    refine ci_3 dX12_isValue_19 kX12_35 (cm_isIn (d := d - 1)) (by omega) (Nat.le_of_ble_eq_true rfl) (Nat.le_refl _) (Nat.le_refl _) ?_
    refine wp_ifB_eq (tgt := 29) dX12_isValue_22 (by decide) (fun c_22 => ?_) (fun c_22 => ?_)
    · refine wp_iconst (v := 0) dX12_isValue_29 (by decide) ?_
      exact wp_zret dX12_isValue_30 rfl rfl (Nat.le_refl _) (Nat.le_refl _) (by first | with_reducible rfl | (simp [bI, valP, c_7, c_22]; done) | (simp_all [bI, valP]; done)) (by first | with_reducible rfl | (simp [bI, valP, c_7, c_22]; done) | (simp_all [bI, valP]; done))
    · refine wp_iconst (v := 1) dX12_isValue_25 (by decide) ?_
      refine wp_goto (tgt := 30) dX12_isValue_26 (by decide) ?_
      exact wp_zret dX12_isValue_30 rfl rfl (Nat.le_refl _) (Nat.le_refl _) (by first | with_reducible rfl | (simp [bI, valP, c_7, c_22]; done) | (simp_all [bI, valP]; done)) (by first | with_reducible rfl | (simp [bI, valP, c_7, c_22]; done) | (simp_all [bI, valP]; done))

set_option maxHeartbeats 2000000 in
theorem lm_mon {G : GG} {Y : Nat} {F : Nat → Int32} {E0 : Nat → va_E} {L : List Nat} {sz d : Nat} (hG : GOK G) (hM : rIn (mR G Y) L) (n : Nat) : ∀ (i : Nat) (a : Int32), i + n = 8 → WP G iX12_monitors d 0 0 (some (.int (monL F n i a))) (Mm G Y F E0 L sz) 4 [some (.ref Y), some (.int a), some (.int (nI i))] [] (Mm G Y F E0 L sz) 0 0 := by
  induction n with
  | zero =>
    intro i a hi
    refine wp_ild2 dX12_monitors_4 ?_
    refine wp_bipush (v := 8) dX12_monitors_5 (by decide) ?_
    refine wp_icmp_ge (tgt := 37) dX12_monitors_7 (by decide) (fun c_7 => ?_) (fun c_7 => absurd (nI_le (a := 8) (b := i) (by omega) (by omega)) c_7)
    refine wp_ild1 dX12_monitors_37 ?_
    exact wp_iret dX12_monitors_38 rfl (Nat.le_refl _) (Nat.le_refl _) (by first | with_reducible rfl | (simp only [monL]; done) | (simp only [monL]; rfl) | rfl) (by first | with_reducible rfl | (simp only [monL]; done) | (simp only [monL]; rfl) | rfl)
  | succ n ih =>
    intro i a hi
    refine wp_ild2 dX12_monitors_4 ?_
    refine wp_bipush (v := 8) dX12_monitors_5 (by decide) ?_
    refine wp_icmp_ge (tgt := 37) dX12_monitors_7 (by decide) (fun c_7 => absurd c_7 (nI_ge (a := i) (b := 8) (by omega) (by omega))) (fun c_7 => ?_)
    have hi8 : i < 8 := by omega
    refine wp_ild1 dX12_monitors_10 ?_
    refine wp_ald0 dX12_monitors_11 ?_
    refine gm_w dX12_monitors_12 fX12_7 hM ?_
    refine wp_bipush (v := 46) dX12_monitors_15 (by decide) ?_
    refine wp_ild2 dX12_monitors_17 ?_
    refine wp_iaddN (a := 46) (b := i) (by decide) rfl dX12_monitors_18 ?_
    refine rm_w (i' := (46 + i)) dX12_monitors_19 hG hM rfl (by first | assumption | omega) ?_
    refine wp_iconst (v := 4) dX12_monitors_20 (by decide) ?_
    refine wp_icmp_ne (tgt := 28) dX12_monitors_21 (by decide) (fun c_21 => ?_) (fun c_21 => ?_)
    · refine wp_iconst (v := 0) dX12_monitors_28 (by decide) ?_
      refine wp_iadd dX12_monitors_29 ?_
      refine wp_ist1 dX12_monitors_30 (by decide) rfl ?_
      refine wp_inc2 dX12_monitors_31 (by decide) rfl ?_
      refine wp_goto (tgt := 4) dX12_monitors_34 (by decide) ?_
      simp only [monL, if_neg c_21]
      rw [Int32.add_zero]
      exact ih (i + 1) _ (by omega)
    · refine wp_iconst (v := 1) dX12_monitors_24 (by decide) ?_
      refine wp_goto (tgt := 29) dX12_monitors_25 (by decide) ?_
      refine wp_iadd dX12_monitors_29 ?_
      refine wp_ist1 dX12_monitors_30 (by decide) rfl ?_
      refine wp_inc2 dX12_monitors_31 (by decide) rfl ?_
      refine wp_goto (tgt := 4) dX12_monitors_34 (by decide) ?_
      simp only [monL, if_pos c_21]
      exact ih (i + 1) _ (by omega)
set_option maxHeartbeats 2000000 in
theorem cm_monitors {G : GG} {Y : Nat} {F : Nat → Int32} {E0 : Nat → va_E} {L : List Nat} {sz d : Nat}  (hG : GOK G) (hM : rIn (mR G Y) L)  : Ct G d yX12_monitors iX12_monitors [.ref Y] (Mm G Y F E0 L sz) 0 0 (some (.int (monF F))) (Mm G Y (F) E0 L sz) := by
  refine Ct.of 2 (by decide) rfl (by decide) (Nat.le_of_ble_eq_true rfl) ?_
  show WP _ _ _ _ _ _ _ 0 [some (.ref Y), none, none] [] _ 0 0
  refine wp_iconst (v := 0) dX12_monitors_0 (by decide) ?_
  refine wp_ist1 dX12_monitors_1 (by decide) rfl ?_
  refine wp_iconst (v := 0) dX12_monitors_2 (by decide) ?_
  refine wp_ist2 dX12_monitors_3 (by decide) rfl ?_
  simp only [monF]
  exact WP.fg (by simp [lcle, nI_0]) (lm_mon hG hM 8 0 0 rfl)

set_option maxHeartbeats 2000000 in
theorem cm_isHeld {G : GG} {Y : Nat} {F : Nat → Int32} {E0 : Nat → va_E} {L : List Nat} {sz d : Nat} {o : Nat} (hG : GOK G) (hM : rIn (mR G Y) L) (ho : o < 8) : Ct G d yX12_isHeld iX12_isHeld [.ref Y, .int (nI o)] (Mm G Y F E0 L sz) 0 0 (some (.int (bI (¬ F (62 + o) ≤ 0)))) (Mm G Y (F) E0 L sz) := by
  refine Ct.of 0 (by decide) rfl (by decide) (Nat.le_of_ble_eq_true rfl) ?_
  show WP _ _ _ _ _ _ _ 0 [some (.ref Y), some (.int (nI o))] [] _ 0 0
  refine wp_ald0 dX12_isHeld_0 ?_
  refine gm_w dX12_isHeld_1 fX12_7 hM ?_
  refine wp_bipush (v := 62) dX12_isHeld_4 (by decide) ?_
  refine wp_ild1 dX12_isHeld_6 ?_
  refine wp_iaddN (a := 62) (b := o) (by decide) rfl dX12_isHeld_7 ?_
  refine rm_w (i' := (62 + o)) dX12_isHeld_8 hG hM rfl (by first | assumption | omega) ?_
  refine wp_if_le (tgt := 16) dX12_isHeld_9 (by decide) (fun c_9 => ?_) (fun c_9 => ?_)
  · refine wp_iconst (v := 0) dX12_isHeld_16 (by decide) ?_
    exact wp_zret dX12_isHeld_17 rfl rfl (Nat.le_refl _) (Nat.le_refl _) (by first | with_reducible rfl | (simp [bI, c_9]; done) | (simp_all [bI]; done)) (by first | with_reducible rfl | (simp [bI, c_9]; done) | (simp_all [bI]; done))
  · refine wp_iconst (v := 1) dX12_isHeld_12 (by decide) ?_
    refine wp_goto (tgt := 17) dX12_isHeld_13 (by decide) ?_
    exact wp_zret dX12_isHeld_17 rfl rfl (Nat.le_refl _) (Nat.le_refl _) (by first | with_reducible rfl | (simp [bI, c_9]; done) | (simp_all [bI]; done)) (by first | with_reducible rfl | (simp [bI, c_9]; done) | (simp_all [bI]; done))

abbrev idlM (F : Nat → Int32) (o : Nat) : Prop := F (46 + o) = 4 ∧ F (62 + o) ≤ 0 ∧ F (110 + o) = 0 ∧ F (118 + o) = 0
set_option maxHeartbeats 2000000 in
theorem cm_isIdle {G : GG} {Y : Nat} {F : Nat → Int32} {E0 : Nat → va_E} {L : List Nat} {sz d : Nat} {o : Nat} (hG : GOK G) (hM : rIn (mR G Y) L) (ho : o < 8) (hdp : 1 ≤ d) : Ct G d yX12_isIdle iX12_isIdle [.ref Y, .int (nI o)] (Mm G Y F E0 L sz) 0 0 (some (.int (bI (idlM F o)))) (Mm G Y (F) E0 L sz) := by
  refine Ct.of 0 (by decide) rfl (by decide) (Nat.le_of_ble_eq_true rfl) ?_
  show WP _ _ _ _ _ _ _ 0 [some (.ref Y), some (.int (nI o))] [] _ 0 0
  refine wp_ald0 dX12_isIdle_0 ?_
  refine gm_w dX12_isIdle_1 fX12_7 hM ?_
  refine wp_bipush (v := 46) dX12_isIdle_4 (by decide) ?_
  refine wp_ild1 dX12_isIdle_6 ?_
  refine wp_iaddN (a := 46) (b := o) (by decide) rfl dX12_isIdle_7 ?_
  refine rm_w (i' := (46 + o)) dX12_isIdle_8 hG hM rfl (by first | assumption | omega) ?_
  refine wp_iconst (v := 4) dX12_isIdle_9 (by decide) ?_
  refine wp_icmp_ne (tgt := 49) dX12_isIdle_10 (by decide) (fun c_10 => ?_) (fun c_10 => ?_)
  · refine wp_iconst (v := 0) dX12_isIdle_49 (by decide) ?_
    exact wp_zret dX12_isIdle_50 rfl rfl (Nat.le_refl _) (Nat.le_refl _) (by first | with_reducible rfl | (simp [bI, idlM, c_10]; done) | (simp_all [bI, idlM]; done)) (by first | with_reducible rfl | (simp [bI, idlM, c_10]; done) | (simp_all [bI, idlM]; done))
  · refine wp_ald0 dX12_isIdle_13 ?_
    refine wp_ild1 dX12_isIdle_14 ?_
    refine mi_1 dX12_isIdle_15 kX12_54 (cm_isHeld (d := d - 1) hG hM (by first | assumption | omega)) hM rfl (by omega) (Nat.le_of_ble_eq_true rfl) (Nat.le_refl _) (Nat.le_refl _) ?_
    refine wp_ifB_ne (tgt := 49) dX12_isIdle_18 (by decide) (fun c_18 => ?_) (fun c_18 => ?_)
    · refine wp_iconst (v := 0) dX12_isIdle_49 (by decide) ?_
      exact wp_zret dX12_isIdle_50 rfl rfl (Nat.le_refl _) (Nat.le_refl _) (by first | with_reducible rfl | (simp [bI, idlM, c_10, c_18]; done) | (simp_all [bI, idlM]; done)) (by first | with_reducible rfl | (simp [bI, idlM, c_10, c_18]; done) | (simp_all [bI, idlM]; done))
    · refine wp_ald0 dX12_isIdle_21 ?_
      refine gm_w dX12_isIdle_22 fX12_7 hM ?_
      refine wp_bipush (v := 110) dX12_isIdle_25 (by decide) ?_
      refine wp_ild1 dX12_isIdle_27 ?_
      refine wp_iaddN (a := 110) (b := o) (by decide) rfl dX12_isIdle_28 ?_
      refine rm_w (i' := (110 + o)) dX12_isIdle_29 hG hM rfl (by first | assumption | omega) ?_
      refine wp_if_ne (tgt := 49) dX12_isIdle_30 (by decide) (fun c_30 => ?_) (fun c_30 => ?_)
      · refine wp_iconst (v := 0) dX12_isIdle_49 (by decide) ?_
        exact wp_zret dX12_isIdle_50 rfl rfl (Nat.le_refl _) (Nat.le_refl _) (by first | with_reducible rfl | (simp [bI, idlM, c_10, c_18, c_30]; done) | (simp_all [bI, idlM]; done)) (by first | with_reducible rfl | (simp [bI, idlM, c_10, c_18, c_30]; done) | (simp_all [bI, idlM]; done))
      · refine wp_ald0 dX12_isIdle_33 ?_
        refine gm_w dX12_isIdle_34 fX12_7 hM ?_
        refine wp_bipush (v := 118) dX12_isIdle_37 (by decide) ?_
        refine wp_ild1 dX12_isIdle_39 ?_
        refine wp_iaddN (a := 118) (b := o) (by decide) rfl dX12_isIdle_40 ?_
        refine rm_w (i' := (118 + o)) dX12_isIdle_41 hG hM rfl (by first | assumption | omega) ?_
        refine wp_if_ne (tgt := 49) dX12_isIdle_42 (by decide) (fun c_42 => ?_) (fun c_42 => ?_)
        · refine wp_iconst (v := 0) dX12_isIdle_49 (by decide) ?_
          exact wp_zret dX12_isIdle_50 rfl rfl (Nat.le_refl _) (Nat.le_refl _) (by first | with_reducible rfl | (simp [bI, idlM, c_10, c_18, c_30, c_42]; done) | (simp_all [bI, idlM]; done)) (by first | with_reducible rfl | (simp [bI, idlM, c_10, c_18, c_30, c_42]; done) | (simp_all [bI, idlM]; done))
        · refine wp_iconst (v := 1) dX12_isIdle_45 (by decide) ?_
          refine wp_goto (tgt := 50) dX12_isIdle_46 (by decide) ?_
          exact wp_zret dX12_isIdle_50 rfl rfl (Nat.le_refl _) (Nat.le_refl _) (by first | with_reducible rfl | (simp [bI, idlM, c_10, c_18, c_30, c_42]; done) | (simp_all [bI, idlM]; done)) (by first | with_reducible rfl | (simp [bI, idlM, c_10, c_18, c_30, c_42]; done) | (simp_all [bI, idlM]; done))

set_option maxHeartbeats 2000000 in
theorem cm_deflate {G : GG} {Y : Nat} {F : Nat → Int32} {E0 : Nat → va_E} {L : List Nat} {sz d : Nat} {o : Nat} (hG : GOK G) (hM : rIn (mR G Y) L) (ho : o < 8) : Ct G d yX12_deflate iX12_deflate [.ref Y, .int (nI o)] (Mm G Y F E0 L sz) 0 0 none (Mm G Y (deflF F o) E0 L sz) := by
  refine Ct.of 0 (by decide) rfl (by decide) (Nat.le_of_ble_eq_true rfl) ?_
  show WP _ _ _ _ _ _ _ 0 [some (.ref Y), some (.int (nI o))] [] _ 0 0
  refine wp_ald0 dX12_deflate_0 ?_
  refine gm_w dX12_deflate_1 fX12_7 hM ?_
  refine wp_bipush (v := 46) dX12_deflate_4 (by decide) ?_
  refine wp_ild1 dX12_deflate_6 ?_
  refine wp_iaddN (a := 46) (b := o) (by decide) rfl dX12_deflate_7 ?_
  refine wp_iconst (v := 0) dX12_deflate_8 (by decide) ?_
  refine sm_w (i' := (46 + o)) dX12_deflate_9 hG hM rfl (by first | assumption | omega) ?_
  refine wp_ald0 dX12_deflate_10 ?_
  refine gm_w dX12_deflate_11 fX12_7 hM ?_
  refine wp_sipush (v := 234) dX12_deflate_14 (by decide) ?_
  refine wp_dup2 dX12_deflate_17 rfl rfl ?_
  refine rm_w (i' := 234) dX12_deflate_18 hG hM (by decide) (by decide) ?_
  refine wp_iconst (v := 1) dX12_deflate_19 (by decide) ?_
  refine wp_iadd dX12_deflate_20 ?_
  refine sm_w (i' := 234) dX12_deflate_21 hG hM (by decide) (by decide) ?_
  exact wp_vret dX12_deflate_22 rfl (Nat.le_refl _) (Nat.le_refl _) (by first | with_reducible rfl | (simp only [deflF]; done) | (simp only [deflF]; rfl) | rfl) (by first | with_reducible rfl | (simp only [deflF]; done) | (simp only [deflF]; rfl) | rfl)

def lidMS (C : Nat → Int32) (i : Nat) (f : Option Nat) : Option Nat := if idlM C i then (match f with
  | none => some i
  | some j => if C (102 + j) ≤ C (102 + i) then some j else some i) else f
def lidML (C : Nat → Int32) : Nat → Nat → Option Nat → Option Nat
  | 0, _, f => f
  | n + 1, i, f => lidML C n (i + 1) (lidMS C i f)
def lidM (C : Nat → Int32) : Option Nat := lidML C 8 0 none
theorem lidMS_lt {C : Nat → Int32} {i : Nat} {f : Option Nat} (hi : i < 8) (hf : ∀ j, f = some j → j < 8) : ∀ j, lidMS C i f = some j → j < 8 := by
  intro j h
  unfold lidMS at h
  split at h
  · cases f with
    | none => simp at h; omega
    | some g =>
      simp only at h
      split at h
      · simp at h; exact hf j (by rw [h])
      · simp at h; omega
  · exact hf j h
theorem lidML_lt {C : Nat → Int32} : ∀ (n i : Nat) (f : Option Nat), i + n = 8 → (∀ j, f = some j → j < 8) → ∀ j, lidML C n i f = some j → j < 8
  | 0, _, f, _, hf => hf
  | n + 1, i, f, hn, hf => lidML_lt n (i + 1) _ (by omega) (lidMS_lt (by omega) hf)
theorem lidM_lt {C : Nat → Int32} {j : Nat} (h : lidM C = some j) : j < 8 := lidML_lt 8 0 none rfl (fun _ h => by cases h) j h
def oI (f : Option Nat) : Int32 := match f with
  | none => -1
  | some j => nI j
def inf2 (F : Nat → Int32) (o : Nat) : Nat → Int32 := upd (upd (upd (upd F (46 + o) 4) (70 + o) (-8)) (102 + o) (upd (upd F (46 + o) 4) (70 + o) (-8) 9)) 233 (upd (upd (upd F (46 + o) 4) (70 + o) (-8)) (102 + o) (upd (upd F (46 + o) 4) (70 + o) (-8) 9) 233 + 1)
/-- inflates: whether, and the state behind -/
abbrev cifM (F : Nat → Int32) : Prop := monF F < F 7 ∨ ¬ lidM F = none
def sI (f : Option Nat) : Int32 := match f with
  | none => 0
  | some _ => 1
def infK (F : Nat → Int32) (o : Nat) (f : Option Nat) : Nat → Int32 := match f with
  | none => F
  | some j => inf2 (deflF F j) o
def infM (F : Nat → Int32) (o : Nat) : Nat → Int32 := if monF F < F 7 then inf2 F o else infK F o (lidM F)
theorem cif_sI {F : Nat → Int32} (h : ¬ monF F < F 7) : bI (cifM F) = sI (lidM F) := by
  obtain hl | ⟨j, hl⟩ : lidM F = none ∨ ∃ j, lidM F = some j := by cases lidM F <;> simp
  · rw [bI_f (fun q => q.elim h (fun q => q hl)), hl]; rfl
  · rw [bI_t (Or.inr (by rw [hl]; simp)), hl]; rfl
set_option maxHeartbeats 2000000 in
theorem tm_inf2 {G : GG} {Y : Nat} {F : Nat → Int32} {E0 : Nat → va_E} {L : List Nat} {sz d : Nat} {o : Nat} (hG : GOK G) (hM : rIn (mR G Y) L) (ho : o < 8) (hdp : 0 ≤ d) : WP G iX12_inflates d 0 0 (some (.int 1)) (Mm G Y (inf2 F o) E0 L sz) 76 [some (.ref Y), some (.int (nI o)), none, none] [] (Mm G Y F E0 L sz) 0 0 := by
  refine wp_ald0 dX12_inflates_76 ?_
  refine gm_w dX12_inflates_77 fX12_7 hM ?_
  refine wp_bipush (v := 46) dX12_inflates_80 (by decide) ?_
  refine wp_ild1 dX12_inflates_82 ?_
  refine wp_iaddN (a := 46) (b := o) (by decide) rfl dX12_inflates_83 ?_
  refine wp_iconst (v := 4) dX12_inflates_84 (by decide) ?_
  refine sm_w (i' := (46 + o)) dX12_inflates_85 hG hM rfl (by first | assumption | omega) ?_
  refine wp_ald0 dX12_inflates_86 ?_
  refine gm_w dX12_inflates_87 fX12_7 hM ?_
  refine wp_bipush (v := 70) dX12_inflates_90 (by decide) ?_
  refine wp_ild1 dX12_inflates_92 ?_
  refine wp_iaddN (a := 70) (b := o) (by decide) rfl dX12_inflates_93 ?_
  refine wp_bipush (v := (-8)) dX12_inflates_94 (by decide) ?_
  refine sm_w (i' := (70 + o)) dX12_inflates_96 hG hM rfl (by first | assumption | omega) ?_
  refine wp_ald0 dX12_inflates_97 ?_
  refine gm_w dX12_inflates_98 fX12_7 hM ?_
  refine wp_bipush (v := 102) dX12_inflates_101 (by decide) ?_
  refine wp_ild1 dX12_inflates_103 ?_
  refine wp_iaddN (a := 102) (b := o) (by decide) rfl dX12_inflates_104 ?_
  refine wp_ald0 dX12_inflates_105 ?_
  refine gm_w dX12_inflates_106 fX12_7 hM ?_
  refine wp_bipush (v := 9) dX12_inflates_109 (by decide) ?_
  refine rm_w (i' := 9) dX12_inflates_111 hG hM (by decide) (by decide) ?_
  refine sm_w (i' := (102 + o)) dX12_inflates_112 hG hM rfl (by first | assumption | omega) ?_
  refine wp_ald0 dX12_inflates_113 ?_
  refine gm_w dX12_inflates_114 fX12_7 hM ?_
  refine wp_sipush (v := 233) dX12_inflates_117 (by decide) ?_
  refine wp_dup2 dX12_inflates_120 rfl rfl ?_
  refine rm_w (i' := 233) dX12_inflates_121 hG hM (by decide) (by decide) ?_
  refine wp_iconst (v := 1) dX12_inflates_122 (by decide) ?_
  refine wp_iadd dX12_inflates_123 ?_
  refine sm_w (i' := 233) dX12_inflates_124 hG hM (by decide) (by decide) ?_
  refine wp_iconst (v := 1) dX12_inflates_125 (by decide) ?_
  exact wp_zret dX12_inflates_126 rfl rfl (Nat.le_refl _) (Nat.le_refl _) (by first | with_reducible rfl | (simp only [inf2]; done) | (simp only [inf2]; rfl) | rfl) (by first | with_reducible rfl | (simp only [inf2]; done) | (simp only [inf2]; rfl) | rfl)
set_option maxHeartbeats 2000000 in
theorem tm_inf65 {G : GG} {Y : Nat} {F : Nat → Int32} {E0 : Nat → va_E} {L : List Nat} {sz d : Nat} {o : Nat} (hG : GOK G) (hM : rIn (mR G Y) L) (ho : o < 8) (f : Option Nat) (hf : ∀ j, f = some j → j < 8) (hdp : 2 ≤ d) : WP G iX12_inflates d 0 0 (some (.int (sI f))) (Mm G Y (infK F o f) E0 L sz) 65 [some (.ref Y), some (.int (nI o)), some (.int (oI f)), none] [] (Mm G Y F E0 L sz) 0 0 := by
  cases f with
  | none =>
    show WP _ _ _ _ _ _ _ 65 [some (.ref Y), some (.int (nI o)), some (.int (-1)), none] [] _ 0 0
    refine wp_ild2 dX12_inflates_65 ?_
    refine wp_if_ge (tgt := 71) dX12_inflates_66 (by decide) (fun h => absurd h (by decide)) (fun _ => ?_)
    refine wp_iconst (v := 0) dX12_inflates_69 (by decide) ?_
    exact wp_zret dX12_inflates_70 rfl rfl (Nat.le_refl _) (Nat.le_refl _) (by rfl) (by rfl)
  | some j =>
    have hj8 : j < 8 := hf j rfl
    show WP _ _ _ _ _ _ _ 65 [some (.ref Y), some (.int (nI o)), some (.int (nI j)), none] [] _ 0 0
    refine wp_ild2 dX12_inflates_65 ?_
    refine wp_if_ge (tgt := 71) dX12_inflates_66 (by decide) (fun c_66 => ?_) (fun c_66 => absurd (nI_pos' (by omega)) c_66)
    refine wp_ald0 dX12_inflates_71 ?_
    refine wp_ild2 dX12_inflates_72 ?_
    refine mv_1 dX12_inflates_73 kX12_61 (cm_deflate (d := d - 1) hG hM hj8) hM rfl (by omega) (Nat.le_of_ble_eq_true rfl) (Nat.le_refl _) (Nat.le_refl _) ?_
    exact WP.fg (by simp [lcle]) (tm_inf2 hG hM ho (by omega))
set_option maxHeartbeats 2000000 in
theorem lm_inf {G : GG} {Y : Nat} {F : Nat → Int32} {E0 : Nat → va_E} {L : List Nat} {sz d : Nat} {o : Nat} (hG : GOK G) (hM : rIn (mR G Y) L) (ho : o < 8) (hdp : 2 ≤ d) (n : Nat) : ∀ (i : Nat) (f : Option Nat), i + n = 8 → (∀ j, f = some j → j < 8) → WP G iX12_inflates d 0 0 (some (.int (sI (lidML F n i f)))) (Mm G Y (infK F o (lidML F n i f)) E0 L sz) 18 [some (.ref Y), some (.int (nI o)), some (.int (oI f)), some (.int (nI i))] [] (Mm G Y F E0 L sz) 0 0 := by
  induction n with
  | zero =>
    intro i f hi hf
    simp only [lidML]
    refine wp_ild3 dX12_inflates_18 ?_
    refine wp_bipush (v := 8) dX12_inflates_19 (by decide) ?_
    refine wp_icmp_ge (tgt := 65) dX12_inflates_21 (by decide) (fun c_21 => ?_) (fun c_21 => absurd (nI_le (a := 8) (b := i) (by omega) (by omega)) c_21)
    exact WP.fg (by exact ⟨rfl, rfl, rfl, trivial⟩) (tm_inf65 hG hM ho f hf hdp)
  | succ n ih =>
    intro i f hi hf
    cases f with
    | none =>
      show WP _ _ _ _ _ _ _ 18 [some (.ref Y), some (.int (nI o)), some (.int (-1)), some (.int (nI i))] [] _ 0 0
      refine wp_ild3 dX12_inflates_18 ?_
      refine wp_bipush (v := 8) dX12_inflates_19 (by decide) ?_
      refine wp_icmp_ge (tgt := 65) dX12_inflates_21 (by decide) (fun c_21 => absurd c_21 (nI_ge (a := i) (b := 8) (by omega) (by omega))) (fun c_21 => ?_)
      have hi8 : i < 8 := by omega
      refine wp_ald0 dX12_inflates_24 ?_
      refine wp_ild3 dX12_inflates_25 ?_
      refine mi_1 dX12_inflates_26 kX12_58 (cm_isIdle (d := d - 1) hG hM (by assumption) (by omega)) hM rfl (by omega) (Nat.le_of_ble_eq_true rfl) (Nat.le_refl _) (Nat.le_refl _) ?_
      refine wp_ifB_eq (tgt := 59) dX12_inflates_29 (by decide) (fun c_29 => ?_) (fun c_29 => ?_)
      · refine wp_inc3 dX12_inflates_59 (by decide) rfl ?_
        refine wp_goto (tgt := 18) dX12_inflates_62 (by decide) ?_
        have e : lidMS F i none = none := by simp only [lidMS, if_neg c_29]
        simp only [lidML]
        rw [e]
        exact WP.fg (by simp [lcle, oI]) (ih (i + 1) none (by omega) (by intro j hj; cases hj <;> first | assumption | omega))
      · refine wp_ild2 dX12_inflates_32 ?_
        refine wp_if_lt (tgt := 57) dX12_inflates_33 (by decide) (fun _ => ?_) (fun h => absurd h (by decide))
        refine wp_ild3 dX12_inflates_57 ?_
        refine wp_ist2 dX12_inflates_58 (by decide) rfl ?_
        refine wp_inc3 dX12_inflates_59 (by decide) rfl ?_
        refine wp_goto (tgt := 18) dX12_inflates_62 (by decide) ?_
        have e : lidMS F i none = (some i) := by simp only [lidMS, if_pos c_29]
        simp only [lidML]
        rw [e]
        exact WP.fg (by simp [lcle, oI]) (ih (i + 1) (some i) (by omega) (by intro j hj; cases hj <;> first | assumption | omega))
    | some j =>
      have hj8 : j < 8 := hf j rfl
      show WP _ _ _ _ _ _ _ 18 [some (.ref Y), some (.int (nI o)), some (.int (nI j)), some (.int (nI i))] [] _ 0 0
      refine wp_ild3 dX12_inflates_18 ?_
      refine wp_bipush (v := 8) dX12_inflates_19 (by decide) ?_
      refine wp_icmp_ge (tgt := 65) dX12_inflates_21 (by decide) (fun c_21 => absurd c_21 (nI_ge (a := i) (b := 8) (by omega) (by omega))) (fun c_21 => ?_)
      have hi8 : i < 8 := by omega
      refine wp_ald0 dX12_inflates_24 ?_
      refine wp_ild3 dX12_inflates_25 ?_
      refine mi_1 dX12_inflates_26 kX12_58 (cm_isIdle (d := d - 1) hG hM (by assumption) (by omega)) hM rfl (by omega) (Nat.le_of_ble_eq_true rfl) (Nat.le_refl _) (Nat.le_refl _) ?_
      refine wp_ifB_eq (tgt := 59) dX12_inflates_29 (by decide) (fun c_29 => ?_) (fun c_29 => ?_)
      · refine wp_inc3 dX12_inflates_59 (by decide) rfl ?_
        refine wp_goto (tgt := 18) dX12_inflates_62 (by decide) ?_
        have e : lidMS F i (some j) = (some j) := by simp only [lidMS, if_neg c_29]
        simp only [lidML]
        rw [e]
        exact WP.fg (by simp [lcle, oI]) (ih (i + 1) (some j) (by omega) (by intro j hj; cases hj <;> first | assumption | omega))
      · refine wp_ild2 dX12_inflates_32 ?_
        refine wp_if_lt (tgt := 57) dX12_inflates_33 (by decide) (fun c_33 => absurd c_33 (nI_pos (by omega))) (fun c_33 => ?_)
        refine wp_ald0 dX12_inflates_36 ?_
        refine gm_w dX12_inflates_37 fX12_7 hM ?_
        refine wp_bipush (v := 102) dX12_inflates_40 (by decide) ?_
        refine wp_ild3 dX12_inflates_42 ?_
        refine wp_iaddN (a := 102) (b := i) (by decide) rfl dX12_inflates_43 ?_
        refine rm_w (i' := (102 + i)) dX12_inflates_44 hG hM rfl (by first | assumption | omega) ?_
        refine wp_ald0 dX12_inflates_45 ?_
        refine gm_w dX12_inflates_46 fX12_7 hM ?_
        refine wp_bipush (v := 102) dX12_inflates_49 (by decide) ?_
        refine wp_ild2 dX12_inflates_51 ?_
        refine wp_iaddN (a := 102) (b := j) (by decide) rfl dX12_inflates_52 ?_
        refine rm_w (i' := (102 + j)) dX12_inflates_53 hG hM rfl (by first | assumption | omega) ?_
        refine wp_icmp_ge (tgt := 59) dX12_inflates_54 (by decide) (fun c_54 => ?_) (fun c_54 => ?_)
        · refine wp_inc3 dX12_inflates_59 (by decide) rfl ?_
          refine wp_goto (tgt := 18) dX12_inflates_62 (by decide) ?_
          have e : lidMS F i (some j) = (some j) := by simp only [lidMS, if_pos c_29, if_pos c_54]
          simp only [lidML]
          rw [e]
          exact WP.fg (by simp [lcle, oI]) (ih (i + 1) (some j) (by omega) (by intro j hj; cases hj <;> first | assumption | omega))
        · refine wp_ild3 dX12_inflates_57 ?_
          refine wp_ist2 dX12_inflates_58 (by decide) rfl ?_
          refine wp_inc3 dX12_inflates_59 (by decide) rfl ?_
          refine wp_goto (tgt := 18) dX12_inflates_62 (by decide) ?_
          have e : lidMS F i (some j) = (some i) := by simp only [lidMS, if_pos c_29, if_neg c_54]
          simp only [lidML]
          rw [e]
          exact WP.fg (by simp [lcle, oI]) (ih (i + 1) (some i) (by omega) (by intro j hj; cases hj <;> first | assumption | omega))
set_option maxHeartbeats 2000000 in
theorem cm_inflates {G : GG} {Y : Nat} {F : Nat → Int32} {E0 : Nat → va_E} {L : List Nat} {sz d : Nat} {o : Nat} (hG : GOK G) (hM : rIn (mR G Y) L) (ho : o < 8) (hdp : 2 ≤ d) : Ct G d yX12_inflates iX12_inflates [.ref Y, .int (nI o)] (Mm G Y F E0 L sz) 0 0 (some (.int (bI (cifM F)))) (Mm G Y (infM F o) E0 L sz) := by
  refine Ct.of 2 (by decide) rfl (by decide) (Nat.le_of_ble_eq_true rfl) ?_
  show WP _ _ _ _ _ _ _ 0 [some (.ref Y), some (.int (nI o)), none, none] [] _ 0 0
  refine wp_ald0 dX12_inflates_0 ?_
  refine mi_0 dX12_inflates_1 kX12_50 (cm_monitors (d := d - 1) hG hM) hM rfl (by omega) (Nat.le_of_ble_eq_true rfl) (Nat.le_refl _) (Nat.le_refl _) ?_
  refine wp_ald0 dX12_inflates_4 ?_
  refine gm_w dX12_inflates_5 fX12_7 hM ?_
  refine wp_bipush (v := 7) dX12_inflates_8 (by decide) ?_
  refine rm_w (i' := 7) dX12_inflates_10 hG hM (by decide) (by decide) ?_
  refine wp_icmp_lt (tgt := 76) dX12_inflates_11 (by decide) (fun c_11 => ?_) (fun c_11 => ?_)
  · simp only [infM, if_pos c_11]
    rw [show bI (cifM F) = 1 by simp [bI, cifM, c_11]]
    exact WP.fg (by simp [lcle]) (tm_inf2 hG hM ho (by omega))
  · refine wp_iconst (v := (-1)) dX12_inflates_14 (by decide) ?_
    refine wp_ist2 dX12_inflates_15 (by decide) rfl ?_
    refine wp_iconst (v := 0) dX12_inflates_16 (by decide) ?_
    refine wp_ist3 dX12_inflates_17 (by decide) rfl ?_
    simp only [infM, if_neg c_11]
    rw [cif_sI c_11]
    exact WP.fg (by simp [lcle, nI_0, oI]) (lm_inf hG hM ho hdp 8 0 none rfl (fun _ h => by cases h))

