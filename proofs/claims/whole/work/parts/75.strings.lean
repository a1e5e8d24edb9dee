/-! strings that nobody writes -/
def GNS (G : GG) (fm : Value) : Prop := ("java/lang/String", "COMPACT_STRINGS", "Z", Value.int 1) ∈ gZ G ∧ ("jdk/internal/util/Preconditions", "SIOOBE_FORMATTER", "Ljava/util/function/BiFunction;", fm) ∈ gZ G ∧ (fm = .null ∨ ∃ a, fm = .ref a)
def StrOK (G : GG) (a : Nat) (l : List Nat) : Prop := ("java/lang/String", a) ∈ gO G ∧ (l.length ≤ 50 ∧ ∀ c, c ∈ l → c < 128) ∧ ∃ b, ("java/lang/String", "value", "[B", Value.ref b, a) ∈ gF G ∧ ("java/lang/String", "coder", "B", Value.int 0, a) ∈ gF G ∧ (FieldType.byte, b, l.length, fun j => Value.int (nI (l.getD j 0))) ∈ gS G
theorem chr_ok : ∀ c, c < 128 → ((nI c &&& 255).toUInt32 % 65536).toInt32 = nI c := by decide +kernel
theorem getD_lt {l : List Nat} (h : ∀ c, c ∈ l → c < 128) (i : Nat) : l.getD i 0 < 128 := by
  rw [List.getD_eq_getElem?_getD]
  cases hx : l[i]? with
  | none => decide
  | some x => exact h x (List.mem_of_getElem? hx)
section OC
variable {G : GG} {mi : MI} {d mc ms : Nat} {res : Option Value} {M' : Mem} {pc : Nat} {lc : List (Option Value)} {k n : Nat} {idx d' b : Nat} {y : MethodName} {mj : MI} {rest : List Value} {M1 M : Mem} {a1 a2 a3 v : Value}
theorem oi_0 (hd : decode mi.2.1 pc = .ok (.invokevirtual idx, 3)) (hk : CallV mi.1 idx y mj 0) (hct : Ct G d' y mj [.ref b] M 0 0 (some v) M1) (hO : (y.cls, b) ∈ gO G) (hdd : d' + 1 ≤ d) (hsum : (rest.map fun v => v.category).sum ≤ 8) (hmc : k ≤ mc) (hms : n ≤ ms) (kk : WP G mi d mc ms res M' (pc + 3) lc (v :: rest) M1 k n) : WP G mi d mc ms res M' pc lc (.ref b :: rest) M k n := wp_callO hd hk hct hO rfl hdd hmc hms rfl hsum kk
theorem ov_0 (hd : decode mi.2.1 pc = .ok (.invokevirtual idx, 3)) (hk : CallV mi.1 idx y mj 0) (hct : Ct G d' y mj [.ref b] M 0 0 none M1) (hO : (y.cls, b) ∈ gO G) (hdd : d' + 1 ≤ d) (hsum : (rest.map fun v => v.category).sum ≤ 8) (hmc : k ≤ mc) (hms : n ≤ ms) (kk : WP G mi d mc ms res M' (pc + 3) lc rest M1 k n) : WP G mi d mc ms res M' pc lc (.ref b :: rest) M k n := wp_callO hd hk hct hO rfl hdd hmc hms rfl hsum kk
theorem oi_1 (hd : decode mi.2.1 pc = .ok (.invokevirtual idx, 3)) (hk : CallV mi.1 idx y mj 1) (hct : Ct G d' y mj [.ref b, a1] M 0 0 (some v) M1) (hO : (y.cls, b) ∈ gO G) (hdd : d' + 1 ≤ d) (hsum : (rest.map fun v => v.category).sum ≤ 8) (hmc : k ≤ mc) (hms : n ≤ ms) (kk : WP G mi d mc ms res M' (pc + 3) lc (v :: rest) M1 k n) : WP G mi d mc ms res M' pc lc (a1 :: .ref b :: rest) M k n := wp_callO hd hk hct hO rfl hdd hmc hms rfl hsum kk
theorem chr_nar : ∀ {c : Nat}, c < 128 → narrow .char (.int (nI c)) = .int (nI c) := fun {c} h => by
  revert h; revert c; decide +kernel
theorem ov_1 (hd : decode mi.2.1 pc = .ok (.invokevirtual idx, 3)) (hk : CallV mi.1 idx y mj 1) (hct : Ct G d' y mj [.ref b, a1] M 0 0 none M1) (hO : (y.cls, b) ∈ gO G) (hdd : d' + 1 ≤ d) (hsum : (rest.map fun v => v.category).sum ≤ 8) (hmc : k ≤ mc) (hms : n ≤ ms) (kk : WP G mi d mc ms res M' (pc + 3) lc rest M1 k n) : WP G mi d mc ms res M' pc lc (a1 :: .ref b :: rest) M k n := wp_callO hd hk hct hO rfl hdd hmc hms rfl hsum kk
theorem oi_2 (hd : decode mi.2.1 pc = .ok (.invokevirtual idx, 3)) (hk : CallV mi.1 idx y mj 2) (hct : Ct G d' y mj [.ref b, a1, a2] M 0 0 (some v) M1) (hO : (y.cls, b) ∈ gO G) (hdd : d' + 1 ≤ d) (hsum : (rest.map fun v => v.category).sum ≤ 8) (hmc : k ≤ mc) (hms : n ≤ ms) (kk : WP G mi d mc ms res M' (pc + 3) lc (v :: rest) M1 k n) : WP G mi d mc ms res M' pc lc (a2 :: a1 :: .ref b :: rest) M k n := wp_callO hd hk hct hO rfl hdd hmc hms rfl hsum kk
theorem ov_2 (hd : decode mi.2.1 pc = .ok (.invokevirtual idx, 3)) (hk : CallV mi.1 idx y mj 2) (hct : Ct G d' y mj [.ref b, a1, a2] M 0 0 none M1) (hO : (y.cls, b) ∈ gO G) (hdd : d' + 1 ≤ d) (hsum : (rest.map fun v => v.category).sum ≤ 8) (hmc : k ≤ mc) (hms : n ≤ ms) (kk : WP G mi d mc ms res M' (pc + 3) lc rest M1 k n) : WP G mi d mc ms res M' pc lc (a2 :: a1 :: .ref b :: rest) M k n := wp_callO hd hk hct hO rfl hdd hmc hms rfl hsum kk
theorem oi_3 (hd : decode mi.2.1 pc = .ok (.invokevirtual idx, 3)) (hk : CallV mi.1 idx y mj 3) (hct : Ct G d' y mj [.ref b, a1, a2, a3] M 0 0 (some v) M1) (hO : (y.cls, b) ∈ gO G) (hdd : d' + 1 ≤ d) (hsum : (rest.map fun v => v.category).sum ≤ 8) (hmc : k ≤ mc) (hms : n ≤ ms) (kk : WP G mi d mc ms res M' (pc + 3) lc (v :: rest) M1 k n) : WP G mi d mc ms res M' pc lc (a3 :: a2 :: a1 :: .ref b :: rest) M k n := wp_callO hd hk hct hO rfl hdd hmc hms rfl hsum kk
theorem ov_3 (hd : decode mi.2.1 pc = .ok (.invokevirtual idx, 3)) (hk : CallV mi.1 idx y mj 3) (hct : Ct G d' y mj [.ref b, a1, a2, a3] M 0 0 none M1) (hO : (y.cls, b) ∈ gO G) (hdd : d' + 1 ≤ d) (hsum : (rest.map fun v => v.category).sum ≤ 8) (hmc : k ≤ mc) (hms : n ≤ ms) (kk : WP G mi d mc ms res M' (pc + 3) lc rest M1 k n) : WP G mi d mc ms res M' pc lc (a3 :: a2 :: a1 :: .ref b :: rest) M k n := wp_callO hd hk hct hO rfl hdd hmc hms rfl hsum kk
end OC
theorem js_coder {G : GG} {M : Mem} {d a : Nat} {l : List Nat} {fm : Value} (hN : GNS G fm) (hs : StrOK G a l) : Ct G d yJ0_coder_7d493 iJ0_coder_7d493 [.ref a] M 0 0 (some (.int 0)) M := by
  obtain ⟨-, -, b, -, h4, -⟩ := hs
  refine Ct.of 0 (by decide) rfl (by decide) (Nat.le_of_ble_eq_true rfl) ?_
  show WP _ _ _ _ _ _ _ 0 [some (.ref a)] [] _ 0 0
  refine wp_gets dJ0_coder_7d493_0 hN.1 sJ0_38 ?_
  refine wp_if_eq (tgt := 13) dJ0_coder_7d493_3 (by decide) (fun h => absurd h (by decide)) (fun _ => ?_)
  refine wp_ald0 dJ0_coder_7d493_6 ?_
  refine wp_getO dJ0_coder_7d493_7 h4 gJ0_15 ?_
  refine wp_goto (tgt := 14) dJ0_coder_7d493_10 (by decide) ?_
  exact wp_zret dJ0_coder_7d493_14 rfl rfl (Nat.le_refl _) (Nat.le_refl _) rfl rfl
theorem js_isLatin1 {G : GG} {M : Mem} {d a : Nat} {l : List Nat} {fm : Value} (hN : GNS G fm) (hs : StrOK G a l) : Ct G d yJ0_isLatin1_aae02 iJ0_isLatin1_aae02 [.ref a] M 0 0 (some (.int 1)) M := by
  obtain ⟨-, -, b, -, h4, -⟩ := hs
  refine Ct.of 0 (by decide) rfl (by decide) (Nat.le_of_ble_eq_true rfl) ?_
  show WP _ _ _ _ _ _ _ 0 [some (.ref a)] [] _ 0 0
  refine wp_gets dJ0_isLatin1_aae02_0 hN.1 sJ0_38 ?_
  refine wp_if_eq (tgt := 17) dJ0_isLatin1_aae02_3 (by decide) (fun h => absurd h (by decide)) (fun _ => ?_)
  refine wp_ald0 dJ0_isLatin1_aae02_6 ?_
  refine wp_getO dJ0_isLatin1_aae02_7 h4 gJ0_15 ?_
  refine wp_if_ne (tgt := 17) dJ0_isLatin1_aae02_10 (by decide) (fun h => absurd rfl h) (fun _ => ?_)
  refine wp_iconst (v := 1) dJ0_isLatin1_aae02_13 (by decide) ?_
  refine wp_goto (tgt := 18) dJ0_isLatin1_aae02_14 (by decide) ?_
  exact wp_zret dJ0_isLatin1_aae02_18 rfl rfl (Nat.le_refl _) (Nat.le_refl _) rfl rfl
theorem js_length {G : GG} {M : Mem} {d a : Nat} {l : List Nat} {fm : Value} (hN : GNS G fm) (hs : StrOK G a l) (hdp : 1 ≤ d) : Ct G d yJ0_length_8abf5 iJ0_length_8abf5 [.ref a] M 0 0 (some (.int (nI l.length))) M := by
  have hs' := hs
  obtain ⟨hO, -, b, h3, -, h5⟩ := hs
  refine Ct.of 0 (by decide) rfl (by decide) (Nat.le_of_ble_eq_true rfl) ?_
  show WP _ _ _ _ _ _ _ 0 [some (.ref a)] [] _ 0 0
  refine wp_ald0 dJ0_length_8abf5_0 ?_
  refine wp_getO dJ0_length_8abf5_1 h3 gJ0_9 ?_
  refine wp_tlen dJ0_length_8abf5_4 h5 rfl ?_
  refine wp_ald0 dJ0_length_8abf5_5 ?_
  refine oi_0 dJ0_length_8abf5_6 kJ0_335 (js_coder (d := d - 1) hN hs') hO (by omega) (Nat.le_of_ble_eq_true rfl) (Nat.le_refl _) (Nat.le_refl _) ?_
  refine wp_ishr dJ0_length_8abf5_9 ?_
  exact wp_iret dJ0_length_8abf5_10 rfl (Nat.le_refl _) (Nat.le_refl _) (by rw [sb_shr0]; rfl) rfl
theorem js_check3 {G : GG} {M : Mem} {d i n : Nat} {fm : Value} (hN : GNS G fm) (hi : i < n) (hn : n < 2 ^ 31) : Ct G d yJ3_checkIndex_8e157 iJ3_checkIndex_8e157 [.int (nI i), .int (nI n), fm] M 0 0 (some (.int (nI i))) M := by
  obtain ⟨-, -, rfl | ⟨z, rfl⟩⟩ := hN
  · refine Ct.of 0 (by decide) rfl (by decide) (Nat.le_of_ble_eq_true rfl) ?_
    show WP _ _ _ _ _ _ _ 0 [some (.int (nI i)), some (.int (nI n)), some (.null)] [] _ 0 0
    refine wp_ild0 dJ3_checkIndex_8e157_0 ?_
    refine wp_if_lt (tgt := 9) dJ3_checkIndex_8e157_1 (by decide) (fun h => absurd h (nI_pos (by omega))) (fun _ => ?_)
    refine wp_ild0 dJ3_checkIndex_8e157_4 ?_
    refine wp_ild1 dJ3_checkIndex_8e157_5 ?_
    refine wp_icmp_lt (tgt := 16) dJ3_checkIndex_8e157_6 (by decide) (fun _ => ?_) (fun h => absurd (nI_lt hi hn) h)
    refine wp_ild0 dJ3_checkIndex_8e157_16 ?_
    exact wp_iret dJ3_checkIndex_8e157_17 rfl (Nat.le_refl _) (Nat.le_refl _) rfl rfl
  · refine Ct.of 0 (by decide) rfl (by decide) (Nat.le_of_ble_eq_true rfl) ?_
    show WP _ _ _ _ _ _ _ 0 [some (.int (nI i)), some (.int (nI n)), some (.ref z)] [] _ 0 0
    refine wp_ild0 dJ3_checkIndex_8e157_0 ?_
    refine wp_if_lt (tgt := 9) dJ3_checkIndex_8e157_1 (by decide) (fun h => absurd h (nI_pos (by omega))) (fun _ => ?_)
    refine wp_ild0 dJ3_checkIndex_8e157_4 ?_
    refine wp_ild1 dJ3_checkIndex_8e157_5 ?_
    refine wp_icmp_lt (tgt := 16) dJ3_checkIndex_8e157_6 (by decide) (fun _ => ?_) (fun h => absurd (nI_lt hi hn) h)
    refine wp_ild0 dJ3_checkIndex_8e157_16 ?_
    exact wp_iret dJ3_checkIndex_8e157_17 rfl (Nat.le_refl _) (Nat.le_refl _) rfl rfl
theorem js_check {G : GG} {M : Mem} {d i n : Nat} {fm : Value} (hN : GNS G fm) (hi : i < n) (hn : n < 2 ^ 31) (hdp : 1 ≤ d) : Ct G d yJ0_checkIndex_df160 iJ0_checkIndex_df160 [.int (nI i), .int (nI n)] M 0 0 none M := by
  refine Ct.of 0 (by decide) rfl (by decide) (Nat.le_of_ble_eq_true rfl) ?_
  show WP _ _ _ _ _ _ _ 0 [some (.int (nI i)), some (.int (nI n))] [] _ 0 0
  refine wp_ild0 dJ0_checkIndex_df160_0 ?_
  refine wp_ild1 dJ0_checkIndex_df160_1 ?_
  refine wp_gets dJ0_checkIndex_df160_2 hN.2.1 sJ0_1053 ?_
  refine ci_3 dJ0_checkIndex_df160_5 kJ0_1059 (js_check3 (d := d - 1) hN hi hn) (by omega) (Nat.le_of_ble_eq_true rfl) (Nat.le_refl _) (Nat.le_refl _) ?_
  refine wp_pop dJ0_checkIndex_df160_8 rfl ?_
  exact wp_vret dJ0_checkIndex_df160_9 rfl (Nat.le_refl _) (Nat.le_refl _) rfl rfl
theorem js_latChar {G : GG} {M : Mem} {d b i : Nat} {l : List Nat} {fm : Value} (hN : GNS G fm) (hl : l.length ≤ 50) (hc : ∀ c, c ∈ l → c < 128) (h5 : (FieldType.byte, b, l.length, fun j => Value.int (nI (l.getD j 0))) ∈ gS G) (hi : i < l.length) (hdp : 2 ≤ d) : Ct G d yJ1_charAt_3b067 iJ1_charAt_3b067 [.ref b, .int (nI i)] M 0 0 (some (.int (nI (l.getD i 0)))) M := by
  refine Ct.of 0 (by decide) rfl (by decide) (Nat.le_of_ble_eq_true rfl) ?_
  show WP _ _ _ _ _ _ _ 0 [some (.ref b), some (.int (nI i))] [] _ 0 0
  refine wp_ild1 dJ1_charAt_3b067_0 ?_
  refine wp_ald0 dJ1_charAt_3b067_1 ?_
  refine wp_tlen dJ1_charAt_3b067_2 h5 rfl ?_
  refine cv_2 dJ1_charAt_3b067_3 kJ1_9 (js_check (d := d - 1) hN hi (by omega) (by omega)) (by omega) (Nat.le_of_ble_eq_true rfl) (Nat.le_refl _) (Nat.le_refl _) ?_
  refine wp_ald0 dJ1_charAt_3b067_6 ?_
  refine wp_ild1 dJ1_charAt_3b067_7 ?_
  refine wp_tbld (v := .int (nI (l.getD i 0))) dJ1_charAt_3b067_8 h5 (nI_in hi (by omega)) (by rw [nI_clamp (by omega)]) ?_
  refine wp_sipush (v := 255) dJ1_charAt_3b067_9 (by decide) ?_
  refine wp_iand dJ1_charAt_3b067_12 ?_
  refine wp_i2c dJ1_charAt_3b067_13 ?_
  rw [chr_ok _ (getD_lt hc i)]
  exact wp_zret dJ1_charAt_3b067_14 rfl (chr_nar (getD_lt hc i)) (Nat.le_refl _) (Nat.le_refl _) rfl rfl
theorem js_charAt {G : GG} {M : Mem} {d a : Nat} {l : List Nat} {fm : Value} (hN : GNS G fm) (hs : StrOK G a l) {i : Nat} (hi : i < l.length) (hdp : 3 ≤ d) : Ct G d yJ0_charAt_5068e iJ0_charAt_5068e [.ref a, .int (nI i)] M 0 0 (some (.int (nI (l.getD i 0)))) M := by
  have hs' := hs
  obtain ⟨hO, ⟨h1, h2⟩, b, h3, -, h5⟩ := hs
  refine Ct.of 0 (by decide) rfl (by decide) (Nat.le_of_ble_eq_true rfl) ?_
  show WP _ _ _ _ _ _ _ 0 [some (.ref a), some (.int (nI i))] [] _ 0 0
  refine wp_ald0 dJ0_charAt_5068e_0 ?_
  refine oi_0 dJ0_charAt_5068e_1 kJ0_492 (js_isLatin1 (d := d - 1) hN hs') hO (by omega) (Nat.le_of_ble_eq_true rfl) (Nat.le_refl _) (Nat.le_refl _) ?_
  refine wp_if_eq (tgt := 16) dJ0_charAt_5068e_4 (by decide) (fun h => absurd h (by decide)) (fun _ => ?_)
  refine wp_ald0 dJ0_charAt_5068e_7 ?_
  refine wp_getO dJ0_charAt_5068e_8 h3 gJ0_9 ?_
  refine wp_ild1 dJ0_charAt_5068e_11 ?_
  refine ci_2 dJ0_charAt_5068e_12 kJ0_495 (js_latChar (d := d - 1) hN h1 h2 h5 hi (by omega)) (by omega) (Nat.le_of_ble_eq_true rfl) (Nat.le_refl _) (Nat.le_refl _) ?_
  exact wp_zret dJ0_charAt_5068e_15 rfl (chr_nar (getD_lt h2 i)) (Nat.le_refl _) (Nat.le_refl _) rfl rfl
def fmS (j : Nat) : List Nat := match j with
  | 0 => [101, 110, 116, 101, 114, 32, 84, 32, 79]
  | 1 => [101, 120, 105, 116, 32, 84, 32, 79]
  | 2 => [97, 119, 97, 105, 116, 32, 84, 32, 79, 32, 78]
  | 3 => [115, 105, 103, 110, 97, 108, 32, 84, 32, 79]
  | 4 => [115, 105, 103, 110, 97, 108, 65, 108, 108, 32, 84, 32, 79]
  | 5 => [105, 110, 116, 101, 114, 114, 117, 112, 116, 32, 84]
  | 6 => [100, 105, 101, 32, 84]
  | 7 => [115, 116, 97, 114, 116, 32, 84]
  | 8 => [104, 97, 115, 104, 32, 79]
  | _ => [116, 105, 99, 107, 32, 78]
def fmT (j : Nat) : String := match j with
  | 0 => "enter T O"
  | 1 => "exit T O"
  | 2 => "await T O N"
  | 3 => "signal T O"
  | 4 => "signalAll T O"
  | 5 => "interrupt T"
  | 6 => "die T"
  | 7 => "start T"
  | 8 => "hash O"
  | _ => "tick N"
def GFm (G : GG) (fa : Nat → Nat) : Prop := ∀ j, j < 10 → ("LockSimulator$Operation", 7 + 2 * j, fmT j, fa j) ∈ gR G ∧ StrOK G (fa j) (fmS j)
theorem js_form {G : GG} {M : Mem} {d j : Nat} {fa : Nat → Nat} (hf : GFm G fa) (hj : j < 10) : Ct G d yX4_form iX4_form [.int (nI j)] M 0 0 (some (.ref (fa j))) M := by
  refine Ct.of 0 (by decide) rfl (by decide) (Nat.le_of_ble_eq_true rfl) ?_
  show WP _ _ _ _ _ _ _ 0 [some (.int (nI j))] [] _ 0 0
  refine wp_ild0 dX4_form_0 ?_
  match j, hj with
  | 0, h =>
    refine wp_tableIn (off := 51) (tgt := 52) dX4_form_1 (by decide) (by decide) rfl (by decide) ?_
    refine wp_ldcS dX4_form_52 (hf 0 h).1 ?_
    exact wp_aret dX4_form_54 rfl (Or.inl ⟨_, rfl⟩) (Or.inr ⟨_, rfl⟩) (Nat.le_refl _) (Nat.le_refl _) rfl rfl
  | 1, h =>
    refine wp_tableIn (off := 54) (tgt := 55) dX4_form_1 (by decide) (by decide) rfl (by decide) ?_
    refine wp_ldcS dX4_form_55 (hf 1 h).1 ?_
    exact wp_aret dX4_form_57 rfl (Or.inl ⟨_, rfl⟩) (Or.inr ⟨_, rfl⟩) (Nat.le_refl _) (Nat.le_refl _) rfl rfl
  | 2, h =>
    refine wp_tableIn (off := 57) (tgt := 58) dX4_form_1 (by decide) (by decide) rfl (by decide) ?_
    refine wp_ldcS dX4_form_58 (hf 2 h).1 ?_
    exact wp_aret dX4_form_60 rfl (Or.inl ⟨_, rfl⟩) (Or.inr ⟨_, rfl⟩) (Nat.le_refl _) (Nat.le_refl _) rfl rfl
  | 3, h =>
    refine wp_tableIn (off := 60) (tgt := 61) dX4_form_1 (by decide) (by decide) rfl (by decide) ?_
    refine wp_ldcS dX4_form_61 (hf 3 h).1 ?_
    exact wp_aret dX4_form_63 rfl (Or.inl ⟨_, rfl⟩) (Or.inr ⟨_, rfl⟩) (Nat.le_refl _) (Nat.le_refl _) rfl rfl
  | 4, h =>
    refine wp_tableIn (off := 63) (tgt := 64) dX4_form_1 (by decide) (by decide) rfl (by decide) ?_
    refine wp_ldcS dX4_form_64 (hf 4 h).1 ?_
    exact wp_aret dX4_form_66 rfl (Or.inl ⟨_, rfl⟩) (Or.inr ⟨_, rfl⟩) (Nat.le_refl _) (Nat.le_refl _) rfl rfl
  | 5, h =>
    refine wp_tableIn (off := 66) (tgt := 67) dX4_form_1 (by decide) (by decide) rfl (by decide) ?_
    refine wp_ldcS dX4_form_67 (hf 5 h).1 ?_
    exact wp_aret dX4_form_69 rfl (Or.inl ⟨_, rfl⟩) (Or.inr ⟨_, rfl⟩) (Nat.le_refl _) (Nat.le_refl _) rfl rfl
  | 6, h =>
    refine wp_tableIn (off := 69) (tgt := 70) dX4_form_1 (by decide) (by decide) rfl (by decide) ?_
    refine wp_ldcS dX4_form_70 (hf 6 h).1 ?_
    exact wp_aret dX4_form_72 rfl (Or.inl ⟨_, rfl⟩) (Or.inr ⟨_, rfl⟩) (Nat.le_refl _) (Nat.le_refl _) rfl rfl
  | 7, h =>
    refine wp_tableIn (off := 72) (tgt := 73) dX4_form_1 (by decide) (by decide) rfl (by decide) ?_
    refine wp_ldcS dX4_form_73 (hf 7 h).1 ?_
    exact wp_aret dX4_form_75 rfl (Or.inl ⟨_, rfl⟩) (Or.inr ⟨_, rfl⟩) (Nat.le_refl _) (Nat.le_refl _) rfl rfl
  | 8, h =>
    refine wp_tableIn (off := 75) (tgt := 76) dX4_form_1 (by decide) (by decide) rfl (by decide) ?_
    refine wp_ldcS dX4_form_76 (hf 8 h).1 ?_
    exact wp_aret dX4_form_78 rfl (Or.inl ⟨_, rfl⟩) (Or.inr ⟨_, rfl⟩) (Nat.le_refl _) (Nat.le_refl _) rfl rfl
  | 9, h =>
    refine wp_tableOut (tgt := 79) dX4_form_1 (Or.inr (by decide)) (by decide) ?_
    refine wp_ldcS dX4_form_79 (hf 9 h).1 ?_
    exact wp_aret dX4_form_81 rfl (Or.inl ⟨_, rfl⟩) (Or.inr ⟨_, rfl⟩) (Nat.le_refl _) (Nat.le_refl _) rfl rfl
section MMX
variable {G : GG} {mi : MI} {d mc ms : Nat} {res : Option Value} {M' : Mem} {pc : Nat} {lc : List (Option Value)} {rest : List Value} {M : Mem} {k n idx : Nat} {x y : Int32}
theorem wp_max (hd : decode mi.2.1 pc = .ok (.invokestatic idx, 3)) (hk : CallS mi.1 idx yJ9_max_7cf53 iJ9_max_7cf53 2) (hdd : 1 ≤ d) (hsum : (rest.map fun v => v.category).sum ≤ 8) (hmc : k ≤ mc) (hms : n ≤ ms) (kk : WP G mi d mc ms res M' (pc + 3) lc (.int (if x < y then y else x) :: rest) M k n) : WP G mi d mc ms res M' pc lc (.int y :: .int x :: rest) M k n := fun p e s m args below meth c H locs ls hc hM hS hl =>
  va_mmax hc.1 hc.2.1 (hc.2.2.1.trans hl.1.symm) hc.2.2.2.2.2.2.1 (hc.2.2.2.2.2.2.2.1 _ hk.1) (hc.2.2.2.2.2.2.2.1 _ hk.2.1) (hc.2.2.2.2.2.2.2.1 _ hk.2.2.1) (hc.2.2.2.2.2.2.2.1 _ hk.2.2.2.1) hdd (by show _ + 13 ≤ 40 * d; omega) hmc hms hd (kk p e s m args below meth c H locs ls hc hM hS hl)
theorem wp_min (hd : decode mi.2.1 pc = .ok (.invokestatic idx, 3)) (hk : CallS mi.1 idx yJ9_min_7cf53 iJ9_min_7cf53 2) (hdd : 1 ≤ d) (hsum : (rest.map fun v => v.category).sum ≤ 8) (hmc : k ≤ mc) (hms : n ≤ ms) (kk : WP G mi d mc ms res M' (pc + 3) lc (.int (if y < x then y else x) :: rest) M k n) : WP G mi d mc ms res M' pc lc (.int y :: .int x :: rest) M k n := fun p e s m args below meth c H locs ls hc hM hS hl =>
  va_mmin hc.1 hc.2.1 (hc.2.2.1.trans hl.1.symm) hc.2.2.2.2.2.2.1 (hc.2.2.2.2.2.2.2.1 _ hk.1) (hc.2.2.2.2.2.2.2.1 _ hk.2.1) (hc.2.2.2.2.2.2.2.1 _ hk.2.2.1) (hc.2.2.2.2.2.2.2.1 _ hk.2.2.2.1) hdd (by show _ + 13 ≤ 40 * d; omega) hmc hms hd (kk p e s m args below meth c H locs ls hc hM hS hl)
end MMX
