abbrev nt (x : Int32) : Nat := x.toNatClampNeg
theorem nat_of6 {x : Int32} (h0 : ¬ x < 0) (h1 : ¬ (6 : Int32) ≤ x) : x = nI (nt x) ∧ nt x < 6 := nat_of h0 h1 (by decide)
theorem nat_of8 {x : Int32} (h0 : ¬ x < 0) (h1 : ¬ (8 : Int32) ≤ x) : x = nI (nt x) ∧ nt x < 8 := nat_of h0 h1 (by decide)
theorem in_of {x : Int32} {n : Nat} (h : x = nI (nt x)) (hb : nt x < n) (hn : n < 2 ^ 31) : vp_in x n := by
  rw [h]; exact nI_in hb hn
def sLeast (j : Nat) : Int32 := ([0, 0, 1, 1, 1, 1, 1, 0] : List Int32).getD j 0
def sGreat (j : Nat) : Int32 := ([1, 1, 20, 20, 15, 20, 8, 1] : List Int32).getD j 0
def sFirst (j : Nat) : Int32 := ([1, 0, 4, 8, 3, 5, 4, 0] : List Int32).getD j 0
def sPrice (j : Nat) : Int32 := ([2, 20, 10, 5, 30, 5, 3, 0, 0] : List Int32).getD j 0
/-- the class's own static rows -/
def GSt (G : GG) (aL aG aF aP : Nat) : Prop := (("LockSimulator$Settings", "LEAST", "[I", Value.ref aL) ∈ gZ G ∧ (FieldType.int, aL, 8, fun j => Value.int (sLeast j)) ∈ gS G) ∧ (("LockSimulator$Settings", "GREATEST", "[I", Value.ref aG) ∈ gZ G ∧ (FieldType.int, aG, 8, fun j => Value.int (sGreat j)) ∈ gS G) ∧ (("LockSimulator$Settings", "FIRST", "[I", Value.ref aF) ∈ gZ G ∧ (FieldType.int, aF, 8, fun j => Value.int (sFirst j)) ∈ gS G) ∧ ("LockSimulator$Tally", "PRICES", "[I", Value.ref aP) ∈ gZ G ∧ (FieldType.int, aP, 9, fun j => Value.int (sPrice j)) ∈ gS G
abbrev isO (x : Int32) : Prop := ¬ x < 0 ∧ ¬ (8 : Int32) ≤ x
abbrev hasT (C : Nat → Int32) (x : Int32) : Prop := ¬ x < 0 ∧ ¬ C 0 ≤ x ∧ ¬ (6 : Int32) ≤ x
section ISO
variable {G : GG} {mi : MI} {d mc ms : Nat} {res : Option Value} {M' : Mem} {pc : Nat} {lc : List (Option Value)} {k n : Nat} {d' : Nat} {rest : List Value} {M1 M : Mem} {a1 v : Value}
theorem ci_isObj (hown : mi.1 = "LockSimulator$World") (hd : decode mi.2.1 pc = .ok (.invokestatic 132, 3)) (hct : Ct G d' yX11_isObject iX11_isObject [a1] M 0 0 (some v) M1) (hdd : d' + 1 ≤ d) (hsum : (rest.map fun v => v.category).sum ≤ 8) (hmc : k ≤ mc) (hms : n ≤ ms) (kk : WP G mi d mc ms res M' (pc + 3) lc (v :: rest) M1 k n) : WP G mi d mc ms res M' pc lc (a1 :: rest) M k n := wp_callSN hown hd kX11_134.2.1 kX11_134.2.2.1 kX11_134.2.2.2.1 (by decide) hct rfl rfl hdd hmc hms rfl hsum kk
end ISO
set_option maxHeartbeats 1000000 in
theorem ct_isObject {G : GG} {M : Mem} {d : Nat} {x : Int32}   : Ct G d yX11_isObject iX11_isObject [.int x] M 0 0 (some (.int (bI (isO x)))) M := by
  refine Ct.of 0 (by decide) rfl (by decide) (Nat.le_of_ble_eq_true rfl) ?_
  show WP _ _ _ _ _ _ _ 0 [some (.int x)] [] _ 0 0
  refine wp_ild0 dX11_isObject_0 ?_
  refine wp_if_lt (tgt := 14) dX11_isObject_1 (by decide) (fun c_1 => ?_) (fun c_1 => ?_)
  · refine wp_iconst (v := 0) dX11_isObject_14 (by decide) ?_
    exact wp_zret dX11_isObject_15 rfl rfl (Nat.le_refl _) (Nat.le_refl _) (by first | rfl | (simp [bI, c_1]; done) | (simp [bI, isO, hasT, c_1]; done) | (simp_all [bI, isO, hasT]; done)) (by first | rfl | (simp [bI, c_1]; done) | (simp [bI, isO, hasT, c_1]; done) | (simp_all [bI, isO, hasT]; done))
  · refine wp_ild0 dX11_isObject_4 ?_
    refine wp_bipush (v := 8) dX11_isObject_5 (by decide) ?_
    refine wp_icmp_ge (tgt := 14) dX11_isObject_7 (by decide) (fun c_7 => ?_) (fun c_7 => ?_)
    · refine wp_iconst (v := 0) dX11_isObject_14 (by decide) ?_
      exact wp_zret dX11_isObject_15 rfl rfl (Nat.le_refl _) (Nat.le_refl _) (by first | rfl | (simp [bI, c_1, c_7]; done) | (simp [bI, isO, hasT, c_1, c_7]; done) | (simp_all [bI, isO, hasT]; done)) (by first | rfl | (simp [bI, c_1, c_7]; done) | (simp [bI, isO, hasT, c_1, c_7]; done) | (simp_all [bI, isO, hasT]; done))
    · refine wp_iconst (v := 1) dX11_isObject_10 (by decide) ?_
      refine wp_goto (tgt := 15) dX11_isObject_11 (by decide) ?_
      exact wp_zret dX11_isObject_15 rfl rfl (Nat.le_refl _) (Nat.le_refl _) (by first | rfl | (simp [bI, c_1, c_7]; done) | (simp [bI, isO, hasT, c_1, c_7]; done) | (simp_all [bI, isO, hasT]; done)) (by first | rfl | (simp [bI, c_1, c_7]; done) | (simp [bI, isO, hasT, c_1, c_7]; done) | (simp_all [bI, isO, hasT]; done))

set_option maxHeartbeats 1000000 in
theorem ct_exists {G : GG} {M : Mem} {d : Nat} {x : Int32}   : Ct G d yX6_exists iX6_exists [.int x] M 0 0 (some (.int (bI (isO x)))) M := by
  refine Ct.of 0 (by decide) rfl (by decide) (Nat.le_of_ble_eq_true rfl) ?_
  show WP _ _ _ _ _ _ _ 0 [some (.int x)] [] _ 0 0
  refine wp_ild0 dX6_exists_0 ?_
  refine wp_if_lt (tgt := 14) dX6_exists_1 (by decide) (fun c_1 => ?_) (fun c_1 => ?_)
  · refine wp_iconst (v := 0) dX6_exists_14 (by decide) ?_
    exact wp_zret dX6_exists_15 rfl rfl (Nat.le_refl _) (Nat.le_refl _) (by first | rfl | (simp [bI, c_1]; done) | (simp [bI, isO, hasT, c_1]; done) | (simp_all [bI, isO, hasT]; done)) (by first | rfl | (simp [bI, c_1]; done) | (simp [bI, isO, hasT, c_1]; done) | (simp_all [bI, isO, hasT]; done))
  · refine wp_ild0 dX6_exists_4 ?_
    refine wp_bipush (v := 8) dX6_exists_5 (by decide) ?_
    refine wp_icmp_ge (tgt := 14) dX6_exists_7 (by decide) (fun c_7 => ?_) (fun c_7 => ?_)
    · refine wp_iconst (v := 0) dX6_exists_14 (by decide) ?_
      exact wp_zret dX6_exists_15 rfl rfl (Nat.le_refl _) (Nat.le_refl _) (by first | rfl | (simp [bI, c_1, c_7]; done) | (simp [bI, isO, hasT, c_1, c_7]; done) | (simp_all [bI, isO, hasT]; done)) (by first | rfl | (simp [bI, c_1, c_7]; done) | (simp [bI, isO, hasT, c_1, c_7]; done) | (simp_all [bI, isO, hasT]; done))
    · refine wp_iconst (v := 1) dX6_exists_10 (by decide) ?_
      refine wp_goto (tgt := 15) dX6_exists_11 (by decide) ?_
      exact wp_zret dX6_exists_15 rfl rfl (Nat.le_refl _) (Nat.le_refl _) (by first | rfl | (simp [bI, c_1, c_7]; done) | (simp [bI, isO, hasT, c_1, c_7]; done) | (simp_all [bI, isO, hasT]; done)) (by first | rfl | (simp [bI, c_1, c_7]; done) | (simp [bI, isO, hasT, c_1, c_7]; done) | (simp_all [bI, isO, hasT]; done))

abbrev allP (x v : Int32) : Prop := isO x ∧ ¬ v < sLeast (nt x) ∧ ¬ sGreat (nt x) < v
set_option maxHeartbeats 1000000 in
theorem ct_allows {G : GG} {M : Mem} {d : Nat} {x v : Int32}  {aL aG aF aP : Nat} (hZ : GSt G aL aG aF aP) (hdp : 1 ≤ d) : Ct G d yX6_allows iX6_allows [.int x, .int v] M 0 0 (some (.int (bI (allP x v)))) M := by
  refine Ct.of 0 (by decide) rfl (by decide) (Nat.le_of_ble_eq_true rfl) ?_
  show WP _ _ _ _ _ _ _ 0 [some (.int x), some (.int v)] [] _ 0 0
  refine wp_ild0 dX6_allows_0 ?_
  refine ci_1 dX6_allows_1 kX6_22 (ct_exists (d := d - 1)) (by omega) (Nat.le_of_ble_eq_true rfl) (Nat.le_refl _) (Nat.le_refl _) ?_
  refine wp_ifB_eq (tgt := 29) dX6_allows_4 (by decide) (fun c_4 => ?_) (fun c_4 => ?_)
  · refine wp_iconst (v := 0) dX6_allows_29 (by decide) ?_
    exact wp_zret dX6_allows_30 rfl rfl (Nat.le_refl _) (Nat.le_refl _) (by first | rfl | (simp [bI, c_4]; done) | (simp [bI, isO, hasT, c_4]; done) | (simp_all [bI, isO, hasT]; done)) (by first | rfl | (simp [bI, c_4]; done) | (simp [bI, isO, hasT, c_4]; done) | (simp_all [bI, isO, hasT]; done))
  · obtain ⟨hx, hxb⟩ := nat_of8 c_4.1 c_4.2
    refine wp_ild1 dX6_allows_7 ?_
    refine wp_gets dX6_allows_8 hZ.1.1 sX6_26 ?_
    refine wp_ild0 dX6_allows_11 ?_
    refine wp_tald dX6_allows_12 hZ.1.2 (in_of hx (by assumption) (by decide)) rfl ?_
    refine wp_icmp_lt (tgt := 29) dX6_allows_13 (by decide) (fun c_13 => ?_) (fun c_13 => ?_)
    · refine wp_iconst (v := 0) dX6_allows_29 (by decide) ?_
      exact wp_zret dX6_allows_30 rfl rfl (Nat.le_refl _) (Nat.le_refl _) (by first | rfl | (simp [bI, c_4, c_13]; done) | (simp [bI, isO, hasT, c_4, c_13]; done) | (simp_all [bI, isO, hasT]; done)) (by first | rfl | (simp [bI, c_4, c_13]; done) | (simp [bI, isO, hasT, c_4, c_13]; done) | (simp_all [bI, isO, hasT]; done))
    · refine wp_ild1 dX6_allows_16 ?_
      refine wp_gets dX6_allows_17 hZ.2.1.1 sX6_29 ?_
      refine wp_ild0 dX6_allows_20 ?_
      refine wp_tald dX6_allows_21 hZ.2.1.2 (in_of hx (by assumption) (by decide)) rfl ?_
      refine wp_icmp_gt (tgt := 29) dX6_allows_22 (by decide) (fun c_22 => ?_) (fun c_22 => ?_)
      · refine wp_iconst (v := 0) dX6_allows_29 (by decide) ?_
        exact wp_zret dX6_allows_30 rfl rfl (Nat.le_refl _) (Nat.le_refl _) (by first | rfl | (simp [bI, c_4, c_13, c_22]; done) | (simp [bI, isO, hasT, c_4, c_13, c_22]; done) | (simp_all [bI, isO, hasT]; done)) (by first | rfl | (simp [bI, c_4, c_13, c_22]; done) | (simp [bI, isO, hasT, c_4, c_13, c_22]; done) | (simp_all [bI, isO, hasT]; done))
      · refine wp_iconst (v := 1) dX6_allows_25 (by decide) ?_
        refine wp_goto (tgt := 30) dX6_allows_26 (by decide) ?_
        exact wp_zret dX6_allows_30 rfl rfl (Nat.le_refl _) (Nat.le_refl _) (by first | rfl | (simp [bI, c_4, c_13, c_22]; done) | (simp [bI, isO, hasT, c_4, c_13, c_22]; done) | (simp_all [bI, isO, hasT]; done)) (by first | rfl | (simp [bI, c_4, c_13, c_22]; done) | (simp [bI, isO, hasT, c_4, c_13, c_22]; done) | (simp_all [bI, isO, hasT]; done))

set_option maxHeartbeats 1000000 in
theorem ct_least {G : GG} {M : Mem} {d : Nat} {x : Int32}  {aL aG aF aP : Nat} (hZ : GSt G aL aG aF aP) (hdp : 1 ≤ d) : Ct G d yX6_least iX6_least [.int x] M 0 0 (some (.int (if isO x then sLeast (nt x) else 0))) M := by
  refine Ct.of 0 (by decide) rfl (by decide) (Nat.le_of_ble_eq_true rfl) ?_
  show WP _ _ _ _ _ _ _ 0 [some (.int x)] [] _ 0 0
  refine wp_ild0 dX6_least_0 ?_
  refine ci_1 dX6_least_1 kX6_22 (ct_exists (d := d - 1)) (by omega) (Nat.le_of_ble_eq_true rfl) (Nat.le_refl _) (Nat.le_refl _) ?_
  refine wp_ifB_eq (tgt := 15) dX6_least_4 (by decide) (fun c_4 => ?_) (fun c_4 => ?_)
  · refine wp_iconst (v := 0) dX6_least_15 (by decide) ?_
    exact wp_iret dX6_least_16 rfl (Nat.le_refl _) (Nat.le_refl _) (by first | with_reducible rfl | (simp only [if_neg c_4]; done) | (simp only [if_neg c_4]; rfl) | rfl) (by first | with_reducible rfl | (simp only [if_neg c_4]; done) | (simp only [if_neg c_4]; rfl) | rfl)
  · obtain ⟨hx, hxb⟩ := nat_of8 c_4.1 c_4.2
    refine wp_gets dX6_least_7 hZ.1.1 sX6_26 ?_
    refine wp_ild0 dX6_least_10 ?_
    refine wp_tald dX6_least_11 hZ.1.2 (in_of hx (by assumption) (by decide)) rfl ?_
    refine wp_goto (tgt := 16) dX6_least_12 (by decide) ?_
    exact wp_iret dX6_least_16 rfl (Nat.le_refl _) (Nat.le_refl _) (by first | with_reducible rfl | (simp only [if_pos c_4]; done) | (simp only [if_pos c_4]; rfl) | rfl) (by first | with_reducible rfl | (simp only [if_pos c_4]; done) | (simp only [if_pos c_4]; rfl) | rfl)

set_option maxHeartbeats 1000000 in
theorem ct_greatest {G : GG} {M : Mem} {d : Nat} {x : Int32}  {aL aG aF aP : Nat} (hZ : GSt G aL aG aF aP) (hdp : 1 ≤ d) : Ct G d yX6_greatest iX6_greatest [.int x] M 0 0 (some (.int (if isO x then sGreat (nt x) else 0))) M := by
  refine Ct.of 0 (by decide) rfl (by decide) (Nat.le_of_ble_eq_true rfl) ?_
  show WP _ _ _ _ _ _ _ 0 [some (.int x)] [] _ 0 0
  refine wp_ild0 dX6_greatest_0 ?_
  refine ci_1 dX6_greatest_1 kX6_22 (ct_exists (d := d - 1)) (by omega) (Nat.le_of_ble_eq_true rfl) (Nat.le_refl _) (Nat.le_refl _) ?_
  refine wp_ifB_eq (tgt := 15) dX6_greatest_4 (by decide) (fun c_4 => ?_) (fun c_4 => ?_)
  · refine wp_iconst (v := 0) dX6_greatest_15 (by decide) ?_
    exact wp_iret dX6_greatest_16 rfl (Nat.le_refl _) (Nat.le_refl _) (by first | with_reducible rfl | (simp only [if_neg c_4]; done) | (simp only [if_neg c_4]; rfl) | rfl) (by first | with_reducible rfl | (simp only [if_neg c_4]; done) | (simp only [if_neg c_4]; rfl) | rfl)
  · obtain ⟨hx, hxb⟩ := nat_of8 c_4.1 c_4.2
    refine wp_gets dX6_greatest_7 hZ.2.1.1 sX6_29 ?_
    refine wp_ild0 dX6_greatest_10 ?_
    refine wp_tald dX6_greatest_11 hZ.2.1.2 (in_of hx (by assumption) (by decide)) rfl ?_
    refine wp_goto (tgt := 16) dX6_greatest_12 (by decide) ?_
    exact wp_iret dX6_greatest_16 rfl (Nat.le_refl _) (Nat.le_refl _) (by first | with_reducible rfl | (simp only [if_pos c_4]; done) | (simp only [if_pos c_4]; rfl) | rfl) (by first | with_reducible rfl | (simp only [if_pos c_4]; done) | (simp only [if_pos c_4]; rfl) | rfl)

def valF (C : Nat → Int32) (x : Int32) : Int32 := if x < 0 then 0 else if (8 : Int32) ≤ x then 0 else C (1 + nt x)
set_option maxHeartbeats 1000000 in
theorem ct_valueOf {G : GG} {B : Nat} {C : Nat → Int32} {E0 : Nat → va_E} {L : List Nat} {sz d : Nat} {x : Int32} (hG : GOK G) (hL : rIn (wR G B) L)  : Ct G d yX6_valueOf iX6_valueOf [.ref (B + 1), .int x] (Wm G B C E0 L sz) 0 0 (some (.int (valF C x))) (Wm G B (C) E0 L sz) := by
  refine Ct.of 0 (by decide) rfl (by decide) (Nat.le_of_ble_eq_true rfl) ?_
  show WP _ _ _ _ _ _ _ 0 [some (.ref (B + 1)), some (.int x)] [] _ 0 0
  refine wp_ild1 dX6_valueOf_0 ?_
  refine wp_if_lt (tgt := 19) dX6_valueOf_1 (by decide) (fun c_1 => ?_) (fun c_1 => ?_)
  · refine wp_iconst (v := 0) dX6_valueOf_19 (by decide) ?_
    exact wp_iret dX6_valueOf_20 rfl (Nat.le_refl _) (Nat.le_refl _) (by first | with_reducible rfl | (simp only [valF, if_pos c_1]; done) | (simp only [valF, if_pos c_1]; rfl) | rfl) (by first | with_reducible rfl | (simp only [valF, if_pos c_1]; done) | (simp only [valF, if_pos c_1]; rfl) | rfl)
  · refine wp_ild1 dX6_valueOf_4 ?_
    refine wp_bipush (v := 8) dX6_valueOf_5 (by decide) ?_
    refine wp_icmp_ge (tgt := 19) dX6_valueOf_7 (by decide) (fun c_7 => ?_) (fun c_7 => ?_)
    · refine wp_iconst (v := 0) dX6_valueOf_19 (by decide) ?_
      exact wp_iret dX6_valueOf_20 rfl (Nat.le_refl _) (Nat.le_refl _) (by first | with_reducible rfl | (simp only [valF, if_neg c_1, if_pos c_7]; done) | (simp only [valF, if_neg c_1, if_pos c_7]; rfl) | rfl) (by first | with_reducible rfl | (simp only [valF, if_neg c_1, if_pos c_7]; done) | (simp only [valF, if_neg c_1, if_pos c_7]; rfl) | rfl)
    · obtain ⟨hx, hxb⟩ := nat_of8 c_1 c_7
      refine wp_ald0 dX6_valueOf_10 ?_
      refine g_Settings_values dX6_valueOf_11 fX6_9 hL ?_
      refine wp_ild1 dX6_valueOf_14 ?_
      refine r_values (i' := nt x) dX6_valueOf_15 hG hL hx (by first | assumption | omega) ?_
      refine wp_goto (tgt := 20) dX6_valueOf_16 (by decide) ?_
      exact wp_iret dX6_valueOf_20 rfl (Nat.le_refl _) (Nat.le_refl _) (by first | with_reducible rfl | (simp only [valF, if_neg c_1, if_neg c_7]; done) | (simp only [valF, if_neg c_1, if_neg c_7]; rfl) | rfl) (by first | with_reducible rfl | (simp only [valF, if_neg c_1, if_neg c_7]; done) | (simp only [valF, if_neg c_1, if_neg c_7]; rfl) | rfl)

def chgF (C : Nat → Int32) (x v : Int32) : Nat → Int32 := if allP x v then upd C (1 + nt x) v else C
set_option maxHeartbeats 1000000 in
theorem ct_change {G : GG} {B : Nat} {C : Nat → Int32} {E0 : Nat → va_E} {L : List Nat} {sz d : Nat} {x v : Int32} (hG : GOK G) (hL : rIn (wR G B) L) {aL aG aF aP : Nat} (hZ : GSt G aL aG aF aP) (hdp : 2 ≤ d) : Ct G d yX6_change iX6_change [.ref (B + 1), .int x, .int v] (Wm G B C E0 L sz) 0 0 none (Wm G B (chgF C x v) E0 L sz) := by
  refine Ct.of 0 (by decide) rfl (by decide) (Nat.le_of_ble_eq_true rfl) ?_
  show WP _ _ _ _ _ _ _ 0 [some (.ref (B + 1)), some (.int x), some (.int v)] [] _ 0 0
  refine wp_ild1 dX6_change_0 ?_
  refine wp_ild2 dX6_change_1 ?_
  refine ci_2 dX6_change_2 kX6_32 (ct_allows (d := d - 1) hZ (by omega)) (by omega) (Nat.le_of_ble_eq_true rfl) (Nat.le_refl _) (Nat.le_refl _) ?_
  refine wp_ifB_eq (tgt := 15) dX6_change_5 (by decide) (fun c_5 => ?_) (fun c_5 => ?_)
  · exact wp_vret dX6_change_15 rfl (Nat.le_refl _) (Nat.le_refl _) (by first | with_reducible rfl | (simp only [chgF, if_neg c_5]; done) | (simp only [chgF, if_neg c_5]; rfl) | rfl) (by first | with_reducible rfl | (simp only [chgF, if_neg c_5]; done) | (simp only [chgF, if_neg c_5]; rfl) | rfl)
  · obtain ⟨hx, hxb⟩ := nat_of8 c_5.1.1 c_5.1.2
    refine wp_ald0 dX6_change_8 ?_
    refine g_Settings_values dX6_change_9 fX6_9 hL ?_
    refine wp_ild1 dX6_change_12 ?_
    refine wp_ild2 dX6_change_13 ?_
    refine s_values (i' := nt x) dX6_change_14 hG hL hx (by first | assumption | omega) ?_
    exact wp_vret dX6_change_15 rfl (Nat.le_refl _) (Nat.le_refl _) (by first | with_reducible rfl | (simp only [chgF, if_pos c_5]; done) | (simp only [chgF, if_pos c_5]; rfl) | rfl) (by first | with_reducible rfl | (simp only [chgF, if_pos c_5]; done) | (simp only [chgF, if_pos c_5]; rfl) | rfl)

def lclrF (C : Nat → Int32) (o : Nat) (b : Prop) [Decidable b] : Nat → Int32 := upd (upd (upd (upd (upd (upd (upd (letGoF (upd C (46 + o) (if b then 1 else 0)) o) (70 + o) (-8)) (78 + o) 0) (86 + o) 0) (94 + o) (-1)) (102 + o) 0) (110 + o) 0) (118 + o) 0
set_option maxHeartbeats 1000000 in
theorem ct_lkclear {G : GG} {B : Nat} {C : Nat → Int32} {E0 : Nat → va_E} {L : List Nat} {sz d : Nat} {o : Nat} {b : Prop} [Decidable b] (hG : GOK G) (hL : rIn (wR G B) L) (ho : o < 8) (hdp : 1 ≤ d) : Ct G d yX3_clear iX3_clear [.ref (aLk B o), .int (bI b)] (Wm G B C E0 L sz) 0 0 none (Wm G B (lclrF C o b) E0 L sz) := by
  refine Ct.of 0 (by decide) rfl (by decide) (Nat.le_of_ble_eq_true rfl) ?_
  show WP _ _ _ _ _ _ _ 0 [some (.ref (aLk B o)), some (.int (bI b))] [] _ 0 0
  refine wp_ald0 dX3_clear_0 ?_
  refine wp_ild1 dX3_clear_1 ?_
  refine wp_ifB_eq (tgt := 9) dX3_clear_2 (by decide) (fun c_2 => ?_) (fun c_2 => ?_)
  · refine wp_iconst (v := 0) dX3_clear_9 (by decide) ?_
    refine p_Lock_state dX3_clear_10 pX3_28 hL (by assumption) ?_
    refine wp_ald0 dX3_clear_13 ?_
    refine vv_Lock0 dX3_clear_14 kX3_31 (ct_letGo (d := d - 1) hG hL ho) hL (by assumption) rfl (by omega) (Nat.le_of_ble_eq_true rfl) (Nat.le_refl _) (Nat.le_refl _) ?_
    refine wp_ald0 dX3_clear_17 ?_
    refine wp_bipush (v := (-8)) dX3_clear_18 (by decide) ?_
    refine p_Lock_biasThread dX3_clear_20 pX3_34 hL (by assumption) ?_
    refine wp_ald0 dX3_clear_23 ?_
    refine wp_iconst (v := 0) dX3_clear_24 (by decide) ?_
    refine p_Lock_epoch dX3_clear_25 pX3_37 hL (by assumption) ?_
    refine wp_ald0 dX3_clear_28 ?_
    refine wp_iconst (v := 0) dX3_clear_29 (by decide) ?_
    refine p_Lock_abandoned dX3_clear_30 pX3_40 hL (by assumption) rfl rfl ?_
    refine wp_ald0 dX3_clear_33 ?_
    refine wp_iconst (v := (-1)) dX3_clear_34 (by decide) ?_
    refine p_Lock_hashValue dX3_clear_35 pX3_44 hL (by assumption) ?_
    refine wp_ald0 dX3_clear_38 ?_
    refine wp_iconst (v := 0) dX3_clear_39 (by decide) ?_
    refine p_Lock_idleSince dX3_clear_40 pX3_47 hL (by assumption) ?_
    refine wp_ald0 dX3_clear_43 ?_
    refine g_Lock_queue dX3_clear_44 fX3_12 hL (by assumption) ?_
    refine vv_Line0 (j := 14 + 5 * o) dX3_clear_47 kX3_50 (ct_lclear (d := d - 1) hG hL (LNq ho)) hL (LNq (by assumption)) rfl (by omega) (Nat.le_of_ble_eq_true rfl) (Nat.le_refl _) (Nat.le_refl _) ?_
    refine wp_ald0 dX3_clear_50 ?_
    refine g_Lock_waitSet dX3_clear_51 fX3_18 hL (by assumption) ?_
    refine vv_Line0 (j := 16 + 5 * o) dX3_clear_54 kX3_50 (ct_lclear (d := d - 1) hG hL (LNw ho)) hL (LNw (by assumption)) rfl (by omega) (Nat.le_of_ble_eq_true rfl) (Nat.le_refl _) (Nat.le_refl _) ?_
    exact wp_vret dX3_clear_57 rfl (Nat.le_refl _) (Nat.le_refl _) (by first | with_reducible rfl | (simp only [lclrF, if_neg c_2]; done) | (simp only [lclrF, if_neg c_2]; rfl) | rfl) (by first | with_reducible rfl | (simp only [lclrF, if_neg c_2]; done) | (simp only [lclrF, if_neg c_2]; rfl) | rfl)
  · refine wp_iconst (v := 1) dX3_clear_5 (by decide) ?_
    refine wp_goto (tgt := 10) dX3_clear_6 (by decide) ?_
    refine p_Lock_state dX3_clear_10 pX3_28 hL (by assumption) ?_
    refine wp_ald0 dX3_clear_13 ?_
    refine vv_Lock0 dX3_clear_14 kX3_31 (ct_letGo (d := d - 1) hG hL ho) hL (by assumption) rfl (by omega) (Nat.le_of_ble_eq_true rfl) (Nat.le_refl _) (Nat.le_refl _) ?_
    refine wp_ald0 dX3_clear_17 ?_
    refine wp_bipush (v := (-8)) dX3_clear_18 (by decide) ?_
    refine p_Lock_biasThread dX3_clear_20 pX3_34 hL (by assumption) ?_
    refine wp_ald0 dX3_clear_23 ?_
    refine wp_iconst (v := 0) dX3_clear_24 (by decide) ?_
    refine p_Lock_epoch dX3_clear_25 pX3_37 hL (by assumption) ?_
    refine wp_ald0 dX3_clear_28 ?_
    refine wp_iconst (v := 0) dX3_clear_29 (by decide) ?_
    refine p_Lock_abandoned dX3_clear_30 pX3_40 hL (by assumption) rfl rfl ?_
    refine wp_ald0 dX3_clear_33 ?_
    refine wp_iconst (v := (-1)) dX3_clear_34 (by decide) ?_
    refine p_Lock_hashValue dX3_clear_35 pX3_44 hL (by assumption) ?_
    refine wp_ald0 dX3_clear_38 ?_
    refine wp_iconst (v := 0) dX3_clear_39 (by decide) ?_
    refine p_Lock_idleSince dX3_clear_40 pX3_47 hL (by assumption) ?_
    refine wp_ald0 dX3_clear_43 ?_
    refine g_Lock_queue dX3_clear_44 fX3_12 hL (by assumption) ?_
    refine vv_Line0 (j := 14 + 5 * o) dX3_clear_47 kX3_50 (ct_lclear (d := d - 1) hG hL (LNq ho)) hL (LNq (by assumption)) rfl (by omega) (Nat.le_of_ble_eq_true rfl) (Nat.le_refl _) (Nat.le_refl _) ?_
    refine wp_ald0 dX3_clear_50 ?_
    refine g_Lock_waitSet dX3_clear_51 fX3_18 hL (by assumption) ?_
    refine vv_Line0 (j := 16 + 5 * o) dX3_clear_54 kX3_50 (ct_lclear (d := d - 1) hG hL (LNw ho)) hL (LNw (by assumption)) rfl (by omega) (Nat.le_of_ble_eq_true rfl) (Nat.le_refl _) (Nat.le_refl _) ?_
    exact wp_vret dX3_clear_57 rfl (Nat.le_refl _) (Nat.le_refl _) (by first | with_reducible rfl | (simp only [lclrF, if_pos c_2]; done) | (simp only [lclrF, if_pos c_2]; rfl) | rfl) (by first | with_reducible rfl | (simp only [lclrF, if_pos c_2]; done) | (simp only [lclrF, if_pos c_2]; rfl) | rfl)

set_option maxHeartbeats 1000000 in
theorem ct_hasThread {G : GG} {B : Nat} {C : Nat → Int32} {E0 : Nat → va_E} {L : List Nat} {sz d : Nat} {x : Int32} (hG : GOK G) (hL : rIn (wR G B) L)  : Ct G d yX10_hasThread iX10_hasThread [.ref B, .int x] (Wm G B C E0 L sz) 0 0 (some (.int (bI (hasT C x)))) (Wm G B (C) E0 L sz) := by
  refine Ct.of 0 (by decide) rfl (by decide) (Nat.le_of_ble_eq_true rfl) ?_
  show WP _ _ _ _ _ _ _ 0 [some (.ref B), some (.int x)] [] _ 0 0
  refine wp_ild1 dX10_hasThread_0 ?_
  refine wp_if_lt (tgt := 22) dX10_hasThread_1 (by decide) (fun c_1 => ?_) (fun c_1 => ?_)
  · refine wp_iconst (v := 0) dX10_hasThread_22 (by decide) ?_
    exact wp_zret dX10_hasThread_23 rfl rfl (Nat.le_refl _) (Nat.le_refl _) (by first | rfl | (simp [bI, c_1]; done) | (simp [bI, isO, hasT, c_1]; done) | (simp_all [bI, isO, hasT]; done)) (by first | rfl | (simp [bI, c_1]; done) | (simp [bI, isO, hasT, c_1]; done) | (simp_all [bI, isO, hasT]; done))
  · refine wp_ild1 dX10_hasThread_4 ?_
    refine wp_ald0 dX10_hasThread_5 ?_
    refine g_World_threadCount dX10_hasThread_6 fX10_50 hL ?_
    refine wp_icmp_ge (tgt := 22) dX10_hasThread_9 (by decide) (fun c_9 => ?_) (fun c_9 => ?_)
    · refine wp_iconst (v := 0) dX10_hasThread_22 (by decide) ?_
      exact wp_zret dX10_hasThread_23 rfl rfl (Nat.le_refl _) (Nat.le_refl _) (by first | rfl | (simp [bI, c_1, c_9]; done) | (simp [bI, isO, hasT, c_1, c_9]; done) | (simp_all [bI, isO, hasT]; done)) (by first | rfl | (simp [bI, c_1, c_9]; done) | (simp [bI, isO, hasT, c_1, c_9]; done) | (simp_all [bI, isO, hasT]; done))
    · refine wp_ild1 dX10_hasThread_12 ?_
      refine wp_bipush (v := 6) dX10_hasThread_13 (by decide) ?_
      refine wp_icmp_ge (tgt := 22) dX10_hasThread_15 (by decide) (fun c_15 => ?_) (fun c_15 => ?_)
      · refine wp_iconst (v := 0) dX10_hasThread_22 (by decide) ?_
        exact wp_zret dX10_hasThread_23 rfl rfl (Nat.le_refl _) (Nat.le_refl _) (by first | rfl | (simp [bI, c_1, c_9, c_15]; done) | (simp [bI, isO, hasT, c_1, c_9, c_15]; done) | (simp_all [bI, isO, hasT]; done)) (by first | rfl | (simp [bI, c_1, c_9, c_15]; done) | (simp [bI, isO, hasT, c_1, c_9, c_15]; done) | (simp_all [bI, isO, hasT]; done))
      · refine wp_iconst (v := 1) dX10_hasThread_18 (by decide) ?_
        refine wp_goto (tgt := 23) dX10_hasThread_19 (by decide) ?_
        exact wp_zret dX10_hasThread_23 rfl rfl (Nat.le_refl _) (Nat.le_refl _) (by first | rfl | (simp [bI, c_1, c_9, c_15]; done) | (simp [bI, isO, hasT, c_1, c_9, c_15]; done) | (simp_all [bI, isO, hasT]; done)) (by first | rfl | (simp [bI, c_1, c_9, c_15]; done) | (simp [bI, isO, hasT, c_1, c_9, c_15]; done) | (simp_all [bI, isO, hasT]; done))

def rErrF (C : Nat → Int32) (x y : Int32) : Int32 := if hasT C x then (if isO y then (if C (10 + nt x) = 0 then 0 else -4) else -2) else -1
theorem rErr0 {C : Nat → Int32} {x y : Int32} (h : rErrF C x y = 0) : hasT C x ∧ isO y ∧ C (10 + nt x) = 0 := by
  unfold rErrF at h
  split at h
  · split at h
    · split at h
      · exact ⟨by assumption, by assumption, by assumption⟩
      · exact absurd h (by decide)
    · exact absurd h (by decide)
  · exact absurd h (by decide)
set_option maxHeartbeats 1000000 in
theorem ct_runnerError {G : GG} {B : Nat} {C : Nat → Int32} {E0 : Nat → va_E} {L : List Nat} {sz d : Nat} {x y : Int32} (hG : GOK G) (hL : rIn (wR G B) L)  (hdp : 1 ≤ d) : Ct G d yX10_runnerError iX10_runnerError [.ref B, .int x, .int y] (Wm G B C E0 L sz) 0 0 (some (.int (rErrF C x y))) (Wm G B (C) E0 L sz) := by
  refine Ct.of 0 (by decide) rfl (by decide) (Nat.le_of_ble_eq_true rfl) ?_
  show WP _ _ _ _ _ _ _ 0 [some (.ref B), some (.int x), some (.int y)] [] _ 0 0
  refine wp_ald0 dX10_runnerError_0 ?_
  refine wp_ild1 dX10_runnerError_1 ?_
  refine vi_World1 dX10_runnerError_2 kX10_128 (ct_hasThread (d := d - 1) hG hL) hL rfl (by omega) (Nat.le_of_ble_eq_true rfl) (Nat.le_refl _) (Nat.le_refl _) ?_
  refine wp_ifB_ne (tgt := 10) dX10_runnerError_5 (by decide) (fun c_5 => ?_) (fun c_5 => ?_)
  · refine wp_ild2 dX10_runnerError_10 ?_
    refine ci_isObj rfl dX10_runnerError_11 (ct_isObject (d := d - 1)) (by omega) (Nat.le_of_ble_eq_true rfl) (Nat.le_refl _) (Nat.le_refl _) ?_
    refine wp_ifB_ne (tgt := 20) dX10_runnerError_14 (by decide) (fun c_14 => ?_) (fun c_14 => ?_)
    · obtain ⟨hx, hxb⟩ := nat_of6 c_5.1 c_5.2.2
      refine wp_ald0 dX10_runnerError_20 ?_
      refine g_World_strands dX10_runnerError_21 fX10_26 hL ?_
      refine wp_ild1 dX10_runnerError_24 ?_
      refine r_strands (i' := nt x) dX10_runnerError_25 hG hL hx (by first | assumption | omega) ?_
      refine g_Strand_state dX10_runnerError_26 fX10_135 hL (by assumption) ?_
      refine wp_if_ne (tgt := 36) dX10_runnerError_29 (by decide) (fun c_29 => ?_) (fun c_29 => ?_)
      · refine wp_bipush (v := (-4)) dX10_runnerError_36 (by decide) ?_
        exact wp_iret dX10_runnerError_38 rfl (Nat.le_refl _) (Nat.le_refl _) (by first | with_reducible rfl | (simp only [rErrF, if_pos c_5, if_pos c_14, if_neg c_29]; done) | (simp only [rErrF, if_pos c_5, if_pos c_14, if_neg c_29]; rfl) | rfl) (by first | with_reducible rfl | (simp only [rErrF, if_pos c_5, if_pos c_14, if_neg c_29]; done) | (simp only [rErrF, if_pos c_5, if_pos c_14, if_neg c_29]; rfl) | rfl)
      · refine wp_iconst (v := 0) dX10_runnerError_32 (by decide) ?_
        refine wp_goto (tgt := 38) dX10_runnerError_33 (by decide) ?_
        exact wp_iret dX10_runnerError_38 rfl (Nat.le_refl _) (Nat.le_refl _) (by first | with_reducible rfl | (simp only [rErrF, if_pos c_5, if_pos c_14, if_pos c_29]; done) | (simp only [rErrF, if_pos c_5, if_pos c_14, if_pos c_29]; rfl) | rfl) (by first | with_reducible rfl | (simp only [rErrF, if_pos c_5, if_pos c_14, if_pos c_29]; done) | (simp only [rErrF, if_pos c_5, if_pos c_14, if_pos c_29]; rfl) | rfl)
    · refine wp_bipush (v := (-2)) dX10_runnerError_17 (by decide) ?_
      exact wp_iret dX10_runnerError_19 rfl (Nat.le_refl _) (Nat.le_refl _) (by first | with_reducible rfl | (simp only [rErrF, if_pos c_5, if_neg c_14]; done) | (simp only [rErrF, if_pos c_5, if_neg c_14]; rfl) | rfl) (by first | with_reducible rfl | (simp only [rErrF, if_pos c_5, if_neg c_14]; done) | (simp only [rErrF, if_pos c_5, if_neg c_14]; rfl) | rfl)
  · refine wp_iconst (v := (-1)) dX10_runnerError_8 (by decide) ?_
    exact wp_iret dX10_runnerError_9 rfl (Nat.le_refl _) (Nat.le_refl _) (by first | with_reducible rfl | (simp only [rErrF, if_neg c_5]; done) | (simp only [rErrF, if_neg c_5]; rfl) | rfl) (by first | with_reducible rfl | (simp only [rErrF, if_neg c_5]; done) | (simp only [rErrF, if_neg c_5]; rfl) | rfl)

def oErrF (C : Nat → Int32) (x y : Int32) : Int32 := if rErrF C x y = 0 then (if ¬ C (62 + nt y) ≤ 0 ∧ C (54 + nt y) = x then 0 else -5) else rErrF C x y
theorem oErr0 {C : Nat → Int32} {x y : Int32} (h : oErrF C x y = 0) : rErrF C x y = 0 ∧ ¬ C (62 + nt y) ≤ 0 ∧ C (54 + nt y) = x := by
  unfold oErrF at h
  split at h
  · split at h
    · exact ⟨by assumption, by assumption⟩
    · exact absurd h (by decide)
  · exact absurd h (by assumption)
theorem rErrN {C : Nat → Int32} {x y : Int32} (h : rErrF C x y = 0) : (x = nI (nt x) ∧ nt x < 6) ∧ y = nI (nt y) ∧ nt y < 8 := ⟨nat_of6 (rErr0 h).1.1 (rErr0 h).1.2.2, nat_of8 (rErr0 h).2.1.1 (rErr0 h).2.1.2⟩
theorem oErrN {C : Nat → Int32} {x y : Int32} (h : oErrF C x y = 0) : (x = nI (nt x) ∧ nt x < 6) ∧ y = nI (nt y) ∧ nt y < 8 := rErrN (oErr0 h).1
set_option maxHeartbeats 1000000 in
theorem ct_ownerError {G : GG} {B : Nat} {C : Nat → Int32} {E0 : Nat → va_E} {L : List Nat} {sz d : Nat} {x y : Int32} (hG : GOK G) (hL : rIn (wR G B) L)  (hdp : 2 ≤ d) : Ct G d yX10_ownerError iX10_ownerError [.ref B, .int x, .int y] (Wm G B C E0 L sz) 0 0 (some (.int (oErrF C x y))) (Wm G B (C) E0 L sz) := by
  refine Ct.of 1 (by decide) rfl (by decide) (Nat.le_of_ble_eq_true rfl) ?_
  show WP _ _ _ _ _ _ _ 0 [some (.ref B), some (.int x), some (.int y), none] [] _ 0 0
  refine wp_ald0 dX10_ownerError_0 ?_
  refine wp_ild1 dX10_ownerError_1 ?_
  refine wp_ild2 dX10_ownerError_2 ?_
  refine vi_World2 dX10_ownerError_3 kX10_138 (ct_runnerError (d := d - 1) hG hL (by omega)) hL rfl (by omega) (Nat.le_of_ble_eq_true rfl) (Nat.le_refl _) (Nat.le_refl _) ?_
  refine wp_ist3 dX10_ownerError_6 (by decide) rfl ?_
  refine wp_ild3 dX10_ownerError_7 ?_
  refine wp_if_eq (tgt := 13) dX10_ownerError_8 (by decide) (fun c_8 => ?_) (fun c_8 => ?_)
  · obtain ⟨⟨hx, hxb⟩, hy, hyb⟩ := rErrN c_8
    refine wp_ald0 dX10_ownerError_13 ?_
    refine g_World_locks dX10_ownerError_14 fX10_32 hL ?_
    refine wp_ild2 dX10_ownerError_17 ?_
    refine r_locks (i' := nt y) dX10_ownerError_18 hG hL hy (by first | assumption | omega) ?_
    refine wp_ild1 dX10_ownerError_19 ?_
    refine vi_Lock1 dX10_ownerError_20 kX10_141 (ct_isHeldBy (d := d - 1) hG hL hyb (by omega)) hL (by assumption) rfl (by omega) (Nat.le_of_ble_eq_true rfl) (Nat.le_refl _) (Nat.le_refl _) ?_
    refine wp_ifB_eq (tgt := 30) dX10_ownerError_23 (by decide) (fun c_23 => ?_) (fun c_23 => ?_)
    · refine wp_bipush (v := (-5)) dX10_ownerError_30 (by decide) ?_
      exact wp_iret dX10_ownerError_32 rfl (Nat.le_refl _) (Nat.le_refl _) (by first | with_reducible rfl | (simp only [oErrF, if_pos c_8, if_neg c_23]; done) | (simp only [oErrF, if_pos c_8, if_neg c_23]; rfl) | rfl) (by first | with_reducible rfl | (simp only [oErrF, if_pos c_8, if_neg c_23]; done) | (simp only [oErrF, if_pos c_8, if_neg c_23]; rfl) | rfl)
    · refine wp_iconst (v := 0) dX10_ownerError_26 (by decide) ?_
      refine wp_goto (tgt := 32) dX10_ownerError_27 (by decide) ?_
      exact wp_iret dX10_ownerError_32 rfl (Nat.le_refl _) (Nat.le_refl _) (by first | with_reducible rfl | (simp only [oErrF, if_pos c_8, if_pos c_23]; done) | (simp only [oErrF, if_pos c_8, if_pos c_23]; rfl) | rfl) (by first | with_reducible rfl | (simp only [oErrF, if_pos c_8, if_pos c_23]; done) | (simp only [oErrF, if_pos c_8, if_pos c_23]; rfl) | rfl)
  · refine wp_ild3 dX10_ownerError_11 ?_
    exact wp_iret dX10_ownerError_12 rfl (Nat.le_refl _) (Nat.le_refl _) (by first | with_reducible rfl | (simp only [oErrF, if_neg c_8]; done) | (simp only [oErrF, if_neg c_8]; rfl) | rfl) (by first | with_reducible rfl | (simp only [oErrF, if_neg c_8]; done) | (simp only [oErrF, if_neg c_8]; rfl) | rfl)

abbrev bOK (C : Nat → Int32) (o : Nat) : Prop := C (78 + o) = C (222 + o % 3)
set_option maxHeartbeats 1000000 in
theorem ct_biasIsValid {G : GG} {B : Nat} {C : Nat → Int32} {E0 : Nat → va_E} {L : List Nat} {sz d : Nat} {o : Nat} (hG : GOK G) (hL : rIn (wR G B) L) (ho : o < 8) : Ct G d yX10_biasIsValid iX10_biasIsValid [.ref B, .ref (aLk B o)] (Wm G B C E0 L sz) 0 0 (some (.int (bI (bOK C o)))) (Wm G B (C) E0 L sz) := by
  have ho3 : o % 3 < 3 := Nat.mod_lt _ (by decide)
  refine Ct.of 0 (by decide) rfl (by decide) (Nat.le_of_ble_eq_true rfl) ?_
  show WP _ _ _ _ _ _ _ 0 [some (.ref B), some (.ref (aLk B o))] [] _ 0 0
  refine wp_ald1 dX10_biasIsValid_0 ?_
  refine g_Lock_epoch dX10_biasIsValid_1 fX10_209 hL (by assumption) ?_
  refine wp_ald0 dX10_biasIsValid_4 ?_
  refine g_World_kinds dX10_biasIsValid_5 fX10_38 hL ?_
  refine wp_ald1 dX10_biasIsValid_8 ?_
  refine g_Lock_kind dX10_biasIsValid_9 fX10_203 hL (by assumption) ?_
  refine r_kinds (i' := (o % 3)) dX10_biasIsValid_12 hG hL rfl (by first | assumption | omega) ?_
  refine g_Kind_epoch dX10_biasIsValid_13 fX10_206 hL (by assumption) ?_
  refine wp_icmp_ne (tgt := 23) dX10_biasIsValid_16 (by decide) (fun c_16 => ?_) (fun c_16 => ?_)
  · refine wp_iconst (v := 0) dX10_biasIsValid_23 (by decide) ?_
    exact wp_zret dX10_biasIsValid_24 rfl rfl (Nat.le_refl _) (Nat.le_refl _) (by first | rfl | (simp [bI, c_16]; done) | (simp [bI, isO, hasT, c_16]; done) | (simp_all [bI, isO, hasT]; done)) (by first | rfl | (simp [bI, c_16]; done) | (simp [bI, isO, hasT, c_16]; done) | (simp_all [bI, isO, hasT]; done))
  · refine wp_iconst (v := 1) dX10_biasIsValid_19 (by decide) ?_
    refine wp_goto (tgt := 24) dX10_biasIsValid_20 (by decide) ?_
    exact wp_zret dX10_biasIsValid_24 rfl rfl (Nat.le_refl _) (Nat.le_refl _) (by first | rfl | (simp [bI, c_16]; done) | (simp [bI, isO, hasT, c_16]; done) | (simp_all [bI, isO, hasT]; done)) (by first | rfl | (simp [bI, c_16]; done) | (simp [bI, isO, hasT, c_16]; done) | (simp_all [bI, isO, hasT]; done))

def recF (C : Nat → Int32) (o : Nat) : Int32 × (Nat → Int32) := if C (86 + o) = 0 then (0, C) else (10, upd (upd C (86 + o) 0) (231 + 8) (upd C (86 + o) 0 (231 + 8) + 1))
set_option maxHeartbeats 1000000 in
theorem ct_recover {G : GG} {B : Nat} {C : Nat → Int32} {E0 : Nat → va_E} {L : List Nat} {sz d : Nat} {o : Nat} (hG : GOK G) (hL : rIn (wR G B) L) (ho : o < 8) : Ct G d yX10_recover iX10_recover [.ref B, .ref (aLk B o)] (Wm G B C E0 L sz) 0 0 (some (.int (recF C o).1)) (Wm G B ((recF C o).2) E0 L sz) := by
  refine Ct.of 0 (by decide) rfl (by decide) (Nat.le_of_ble_eq_true rfl) ?_
  show WP _ _ _ _ _ _ _ 0 [some (.ref B), some (.ref (aLk B o))] [] _ 0 0
  refine wp_ald1 dX10_recover_0 ?_
  refine g_Lock_abandoned dX10_recover_1 fX10_222 hL (by assumption) ?_
  refine wp_if_ne (tgt := 9) dX10_recover_4 (by decide) (fun c_4 => ?_) (fun c_4 => ?_)
  · refine wp_ald1 dX10_recover_9 ?_
    refine wp_iconst (v := 0) dX10_recover_10 (by decide) ?_
    refine p_Lock_abandoned dX10_recover_11 pX10_222 hL (by assumption) rfl rfl ?_
    refine wp_ald0 dX10_recover_14 ?_
    refine g_World_counts dX10_recover_15 fX10_20 hL ?_
    refine wp_bipush (v := 8) dX10_recover_18 (by decide) ?_
    refine wp_dup2 dX10_recover_20 rfl rfl ?_
    refine r_counts (i' := 8) dX10_recover_21 hG hL (by decide) (by decide) ?_
    refine wp_iconst (v := 1) dX10_recover_22 (by decide) ?_
    refine wp_iadd dX10_recover_23 ?_
    refine s_counts (i' := 8) dX10_recover_24 hG hL (by decide) (by decide) ?_
    refine wp_bipush (v := 10) dX10_recover_25 (by decide) ?_
    exact wp_iret dX10_recover_27 rfl (Nat.le_refl _) (Nat.le_refl _) (by first | with_reducible rfl | (simp only [recF, if_neg c_4]; done) | (simp only [recF, if_neg c_4]; rfl) | rfl) (by first | with_reducible rfl | (simp only [recF, if_neg c_4]; done) | (simp only [recF, if_neg c_4]; rfl) | rfl)
  · refine wp_iconst (v := 0) dX10_recover_7 (by decide) ?_
    exact wp_iret dX10_recover_8 rfl (Nat.le_refl _) (Nat.le_refl _) (by first | with_reducible rfl | (simp only [recF, if_pos c_4]; done) | (simp only [recF, if_pos c_4]; rfl) | rfl) (by first | with_reducible rfl | (simp only [recF, if_pos c_4]; done) | (simp only [recF, if_pos c_4]; rfl) | rfl)

def deflF (C : Nat → Int32) (o : Nat) : Nat → Int32 := upd (upd C (46 + o) 0) (231 + 3) (upd C (46 + o) 0 (231 + 3) + 1)
set_option maxHeartbeats 1000000 in
theorem ct_deflate {G : GG} {B : Nat} {C : Nat → Int32} {E0 : Nat → va_E} {L : List Nat} {sz d : Nat} {o : Nat} (hG : GOK G) (hL : rIn (wR G B) L) (ho : o < 8) : Ct G d yX10_deflate iX10_deflate [.ref B, .ref (aLk B o)] (Wm G B C E0 L sz) 0 0 none (Wm G B (deflF C o) E0 L sz) := by
  refine Ct.of 0 (by decide) rfl (by decide) (Nat.le_of_ble_eq_true rfl) ?_
  show WP _ _ _ _ _ _ _ 0 [some (.ref B), some (.ref (aLk B o))] [] _ 0 0
  refine wp_ald1 dX10_deflate_0 ?_
  refine wp_iconst (v := 0) dX10_deflate_1 (by decide) ?_
  refine p_Lock_state dX10_deflate_2 pX10_152 hL (by assumption) ?_
  refine wp_ald0 dX10_deflate_5 ?_
  refine g_World_counts dX10_deflate_6 fX10_20 hL ?_
  refine wp_iconst (v := 3) dX10_deflate_9 (by decide) ?_
  refine wp_dup2 dX10_deflate_10 rfl rfl ?_
  refine r_counts (i' := 3) dX10_deflate_11 hG hL (by decide) (by decide) ?_
  refine wp_iconst (v := 1) dX10_deflate_12 (by decide) ?_
  refine wp_iadd dX10_deflate_13 ?_
  refine s_counts (i' := 3) dX10_deflate_14 hG hL (by decide) (by decide) ?_
  exact wp_vret dX10_deflate_15 rfl (Nat.le_refl _) (Nat.le_refl _) (by first | with_reducible rfl | (simp only [deflF]; done) | (simp only [deflF]; rfl) | rfl) (by first | with_reducible rfl | (simp only [deflF]; done) | (simp only [deflF]; rfl) | rfl)

def monL (C : Nat → Int32) : Nat → Nat → Int32 → Int32
  | 0, _, a => a
  | n + 1, o, a => monL C n (o + 1) (if C (46 + o) = 4 then a + 1 else a)
def monF (C : Nat → Int32) : Int32 := monL C 8 0 0
set_option maxHeartbeats 1000000 in
theorem lp_mon {G : GG} {B : Nat} {C : Nat → Int32} {E0 : Nat → va_E} {L : List Nat} {sz d : Nat} (hG : GOK G) (hL : rIn (wR G B) L) (n : Nat) : ∀ (i : Nat) (a : Int32), i + n = 8 → WP G iX10_monitorsInUse d 0 0 (some (.int (monL C n i a))) (Wm G B C E0 L sz) 13 [some (.ref B), some (.int a), some (.ref (B + 5)), some (.int (nI 8)), some (.int (nI i)), none] [] (Wm G B C E0 L sz) 0 0 := by
  induction n with
  | zero =>
    intro i a hi
    refine wp_ild4 dX10_monitorsInUse_13 ?_
    refine wp_ild3 dX10_monitorsInUse_15 ?_
    refine wp_icmp_ge (tgt := 43) dX10_monitorsInUse_16 (by decide) (fun c_16 => ?_) (fun c_16 => absurd (by rw [show i = 8 by omega]; exact Int32.le_refl _) c_16)
    refine wp_ild1 dX10_monitorsInUse_43 ?_
    exact wp_iret dX10_monitorsInUse_44 rfl (Nat.le_refl _) (Nat.le_refl _) (by first | with_reducible rfl | (simp only [monL]; done) | (simp only [monL]; rfl) | rfl) (by first | with_reducible rfl | (simp only [monL]; done) | (simp only [monL]; rfl) | rfl)
  | succ n ih =>
    intro i a hi
    refine wp_ild4 dX10_monitorsInUse_13 ?_
    refine wp_ild3 dX10_monitorsInUse_15 ?_
    refine wp_icmp_ge (tgt := 43) dX10_monitorsInUse_16 (by decide) (fun c_16 => absurd c_16 (nI_ge (by omega) (by decide))) (fun c_16 => ?_)
    have hi8 : i < 8 := by omega
    refine wp_ald2 dX10_monitorsInUse_19 ?_
    refine wp_ild4 dX10_monitorsInUse_20 ?_
    refine r_locks (i' := i) dX10_monitorsInUse_22 hG hL rfl (by first | assumption | omega) ?_
    refine wp_ast5 dX10_monitorsInUse_23 (by decide) rfl ?_
    refine wp_ald5 dX10_monitorsInUse_25 ?_
    refine g_Lock_state dX10_monitorsInUse_27 fX10_152 hL (by assumption) ?_
    refine wp_iconst (v := 4) dX10_monitorsInUse_30 (by decide) ?_
    refine wp_icmp_ne (tgt := 37) dX10_monitorsInUse_31 (by decide) (fun c_31 => ?_) (fun c_31 => ?_)
    · refine wp_inc4 dX10_monitorsInUse_37 (by decide) rfl ?_
      refine wp_goto (tgt := 13) dX10_monitorsInUse_40 (by decide) ?_
      simp only [monL, if_neg c_31]
      exact WP.fg (by simp [lcle]) (ih (i + 1) a (by omega))
    · refine wp_iinc1 dX10_monitorsInUse_34 (by decide) rfl ?_
      refine wp_inc4 dX10_monitorsInUse_37 (by decide) rfl ?_
      refine wp_goto (tgt := 13) dX10_monitorsInUse_40 (by decide) ?_
      simp only [monL, if_pos c_31]
      exact WP.fg (by simp [lcle]) (ih (i + 1) (a + 1) (by omega))
set_option maxHeartbeats 1000000 in
theorem ct_monitorsInUse {G : GG} {B : Nat} {C : Nat → Int32} {E0 : Nat → va_E} {L : List Nat} {sz d : Nat}  (hG : GOK G) (hL : rIn (wR G B) L)  : Ct G d yX10_monitorsInUse iX10_monitorsInUse [.ref B] (Wm G B C E0 L sz) 0 0 (some (.int (monF C))) (Wm G B (C) E0 L sz) := by
  refine Ct.of 5 (by decide) rfl (by decide) (Nat.le_of_ble_eq_true rfl) ?_
  show WP _ _ _ _ _ _ _ 0 [some (.ref B), none, none, none, none, none] [] _ 0 0
  refine wp_iconst (v := 0) dX10_monitorsInUse_0 (by decide) ?_
  refine wp_ist1 dX10_monitorsInUse_1 (by decide) rfl ?_
  refine wp_ald0 dX10_monitorsInUse_2 ?_
  refine g_World_locks dX10_monitorsInUse_3 fX10_32 hL ?_
  refine wp_ast2 dX10_monitorsInUse_6 (by decide) rfl ?_
  refine wp_ald2 dX10_monitorsInUse_7 ?_
  refine l_locks dX10_monitorsInUse_8 hG hL ?_
  refine wp_ist3 dX10_monitorsInUse_9 (by decide) rfl ?_
  refine wp_iconst (v := 0) dX10_monitorsInUse_10 (by decide) ?_
  refine wp_ist4 dX10_monitorsInUse_11 (by decide) rfl ?_
  exact lp_mon hG hL 8 0 0 rfl

abbrev freP (C : Nat → Int32) : Prop := ¬ valF C 6 ≤ monF C
set_option maxHeartbeats 1000000 in
theorem ct_monitorIsFree {G : GG} {B : Nat} {C : Nat → Int32} {E0 : Nat → va_E} {L : List Nat} {sz d : Nat}  (hG : GOK G) (hL : rIn (wR G B) L)  (hdp : 1 ≤ d) : Ct G d yX10_monitorIsFree iX10_monitorIsFree [.ref B] (Wm G B C E0 L sz) 0 0 (some (.int (bI (freP C)))) (Wm G B (C) E0 L sz) := by
  refine Ct.of 0 (by decide) rfl (by decide) (Nat.le_of_ble_eq_true rfl) ?_
  show WP _ _ _ _ _ _ _ 0 [some (.ref B)] [] _ 0 0
  refine wp_ald0 dX10_monitorIsFree_0 ?_
  refine vi_World0 dX10_monitorIsFree_1 kX10_241 (ct_monitorsInUse (d := d - 1) hG hL) hL rfl (by omega) (Nat.le_of_ble_eq_true rfl) (Nat.le_refl _) (Nat.le_refl _) ?_
  refine wp_ald0 dX10_monitorIsFree_4 ?_
  refine g_World_settings dX10_monitorIsFree_5 fX10_12 hL ?_
  refine wp_bipush (v := 6) dX10_monitorIsFree_8 (by decide) ?_
  refine vi_Settings1 dX10_monitorIsFree_10 kX10_69 (ct_valueOf (d := d - 1) hG hL) hL rfl (by omega) (Nat.le_of_ble_eq_true rfl) (Nat.le_refl _) (Nat.le_refl _) ?_
  refine wp_icmp_ge (tgt := 20) dX10_monitorIsFree_13 (by decide) (fun c_13 => ?_) (fun c_13 => ?_)
  · refine wp_iconst (v := 0) dX10_monitorIsFree_20 (by decide) ?_
    exact wp_zret dX10_monitorIsFree_21 rfl rfl (Nat.le_refl _) (Nat.le_refl _) (by first | rfl | (simp [bI, c_13]; done) | (simp [bI, isO, hasT, c_13]; done) | (simp_all [bI, isO, hasT]; done)) (by first | rfl | (simp [bI, c_13]; done) | (simp [bI, isO, hasT, c_13]; done) | (simp_all [bI, isO, hasT]; done))
  · refine wp_iconst (v := 1) dX10_monitorIsFree_16 (by decide) ?_
    refine wp_goto (tgt := 21) dX10_monitorIsFree_17 (by decide) ?_
    exact wp_zret dX10_monitorIsFree_21 rfl rfl (Nat.le_refl _) (Nat.le_refl _) (by first | rfl | (simp [bI, c_13]; done) | (simp [bI, isO, hasT, c_13]; done) | (simp_all [bI, isO, hasT]; done)) (by first | rfl | (simp [bI, c_13]; done) | (simp [bI, isO, hasT, c_13]; done) | (simp_all [bI, isO, hasT]; done))

