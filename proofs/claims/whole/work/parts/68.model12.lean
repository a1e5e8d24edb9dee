theorem wdL_len (x : Int64) : ∀ n, (wdL x n).length ≤ n
  | 0 => Nat.le_refl _
  | n + 1 => by
    unfold wdL
    have := wdL_len x n
    split
    · omega
    · simp only [List.length_cons]; omega
theorem wrd_len (x : Int64) : (wrd x).length ≤ 8 := wdL_len x 8
theorem numL_len (V : Nat) : (numL V).length ≤ 10 := by rw [dgs_len]; exact (sb_dg_in V).2
theorem num1 {V : Nat} (h : V < 10) : numL V = [nI (48 + V)] := by
  have e : sb_dg V = 1 := if_pos h
  unfold numL
  rw [e]
  show [nI (48 + V / 10 ^ 0 % 10)] = _
  rw [Nat.pow_zero, Nat.div_one, Nat.mod_eq_of_lt h]
/-- the members of a line as letters -/
def memL (W : Nat → Int32) (p : Nat) : Nat → Nat → List Int32
  | 0, _ => []
  | n + 1, i => numL (nt (W (p + i))) ++ memL W p n (i + 1)
abbrev MOK (W : Nat → Int32) (p N : Nat) : Prop := ∀ i, i < N → W (p + i) = nI (nt (W (p + i))) ∧ nt (W (p + i)) < 6
theorem memL_len {W : Nat → Int32} {p N : Nat} (h : MOK W p N) : ∀ (n i : Nat), i + n = N → (memL W p n i).length = n
  | 0, _, _ => rfl
  | n + 1, i, hi => by
    have := (h i (by omega)).2
    simp only [memL, List.length_append, memL_len h n (i + 1) (by omega), num1 (show nt (W (p + i)) < 10 by omega), List.length_cons, List.length_nil]
    omega
def lsT (W : Nat → Int32) (x : Int64) (p q : Nat) : List Int32 := if W q ≤ 0 then [] else (([32] ++ wrd x) ++ [32]) ++ memL W p (nt (W q)) 0
theorem lsT_len {W : Nat → Int32} {x : Int64} {p q : Nat} (hs : OKs W q) (h : MOK W p (nt (W q))) : (lsT W x p q).length ≤ 16 := by
  unfold lsT
  split
  · simp
  · have h1 := wrd_len x
    have h2 := memL_len h (nt (W q)) 0 (by omega)
    have h3 : nt (W q) ≤ 6 := hs.nat.2
    simp only [List.length_append, List.length_cons, List.length_nil]
    omega
set_option maxHeartbeats 2000000 in
theorem lm_ls {G : GG} {Y : Nat} {E0 : Nat → va_E} {L : List Nat} {sz d : Nat} {W : Nat → Int32} {p q : Nat} (hG : GOK G) (hM : rIn (mR G Y) L) (hp : p + 6 ≤ 482) (hq : q < 482) (hs : OKs W q) (hmem : MOK W p (nt (W q))) (hdp : 2 ≤ d) (n : Nat) : ∀ (i : Nat) (F : Nat → Int32) (m : Nat), i + n = nt (W q) → (∀ k, k < 482 → F k = W k) → pOK F m → m + n ≤ 200 → WP G iX12_list d 0 0 none (Mm G Y (putL F (memL W p n i)) E0 L sz) 26 [some (.ref Y), none, none, some (.int (nI p)), some (.int (nI q)), some (.int (nI i))] [] (Mm G Y F E0 L sz) 0 0 := by
  have hs6 : nt (W q) ≤ 6 := hs.nat.2
  have hsn : W q = nI (nt (W q)) := hs.nat.1
  induction n with
  | zero =>
    intro i F m hi hF hm hm2
    refine wp_ild5 dX12_list_26 ?_
    refine wp_ald0 dX12_list_28 ?_
    refine gm_w dX12_list_29 fX12_7 hM ?_
    refine wp_ild4 dX12_list_32 ?_
    refine rm_w (i' := q) dX12_list_34 hG hM rfl (by first | assumption | omega) ?_
    rw [hF _ (by omega), hsn]
    refine wp_icmp_ge (tgt := 57) dX12_list_35 (by decide) (fun c_35 => ?_) (fun c_35 => absurd (nI_le (a := nt (W q)) (b := i) (by omega) (by omega)) c_35)
    exact wp_vret dX12_list_57 rfl (Nat.le_refl _) (Nat.le_refl _) (by first | with_reducible rfl | (simp only [memL, putL]; done) | (simp only [memL, putL]; rfl) | rfl) (by first | with_reducible rfl | (simp only [memL, putL]; done) | (simp only [memL, putL]; rfl) | rfl)
  | succ n ih =>
    intro i F m hi hF hm hm2
    obtain ⟨v1, v2⟩ := hmem i (by omega)
    have v3 := num1 (show nt (W (p + i)) < 10 by omega)
    have v4 : (numL (nt (W (p + i)))).length = 1 := by rw [v3]; rfl
    refine wp_ild5 dX12_list_26 ?_
    refine wp_ald0 dX12_list_28 ?_
    refine gm_w dX12_list_29 fX12_7 hM ?_
    refine wp_ild4 dX12_list_32 ?_
    refine rm_w (i' := q) dX12_list_34 hG hM rfl (by first | assumption | omega) ?_
    rw [hF _ (by omega), hsn]
    refine wp_icmp_ge (tgt := 57) dX12_list_35 (by decide) (fun c_35 => absurd c_35 (nI_ge (a := i) (b := nt (W q)) (by omega) (by omega))) (fun c_35 => ?_)
    have hiq : i < nt (W q) := by omega
    refine wp_ald0 dX12_list_38 ?_
    refine wp_ald0 dX12_list_39 ?_
    refine gm_w dX12_list_40 fX12_7 hM ?_
    refine wp_ild3 dX12_list_43 ?_
    refine wp_ild5 dX12_list_44 ?_
    refine wp_iaddN (a := p) (b := i) rfl rfl dX12_list_46 ?_
    refine rm_w (i' := (p + i)) dX12_list_47 hG hM rfl (by first | assumption | omega) ?_
    rw [hF _ (by omega), v1]
    refine mv_1 dX12_list_48 kX12_162 (cm_number (d := d - 1) hG hM (by omega) hm (by omega) (by omega)) hM rfl (by omega) (Nat.le_of_ble_eq_true rfl) (Nat.le_refl _) (Nat.le_refl _) ?_
    refine wp_inc5 dX12_list_51 (by decide) rfl ?_
    refine wp_goto (tgt := 26) dX12_list_54 (by decide) ?_
    simp only [memL]
    rw [putL_app]
    exact ih (i + 1) _ (m + 1) (by omega) (fun k hk => (putL_lo (by omega) _ F m hm (by omega)).trans (hF k hk)) (by have := putL_many (numL (nt (W (p + i)))) F m hm (by omega); rwa [v4] at this) (by omega)
theorem rdW (F W : Nat → Int32) (h : ∀ k, k < 482 → F k = W k) (k : Nat) (hk : k < 482) : F k = W k := h k hk
set_option maxHeartbeats 2000000 in
theorem cm_list {G : GG} {Y : Nat} {F : Nat → Int32} {E0 : Nat → va_E} {L : List Nat} {sz d : Nat} {W : Nat → Int32} {x : Int64} {p q m : Nat} (hG : GOK G) (hM : rIn (mR G Y) L) (hp : p + 6 ≤ 482) (hq : q < 482) (hs : OKs W q) (hmem : MOK W p (nt (W q))) (hF : ∀ k, k < 482 → F k = W k) (hm : pOK F m) (hm2 : m + 16 ≤ 200) (hdp : 2 ≤ d) : Ct G d yX12_list iX12_list [.ref Y, .long x, .int (nI p), .int (nI q)] (Mm G Y F E0 L sz) 0 0 none (Mm G Y (putL F (lsT W x p q)) E0 L sz) := by
  have hw8 := wrd_len x
  have hs6 : nt (W q) ≤ 6 := hs.nat.2
  refine Ct.of 1 (by decide) rfl (by decide) (Nat.le_of_ble_eq_true rfl) ?_
  show WP _ _ _ _ _ _ _ 0 [some (.ref Y), some (.long x), none, some (.int (nI p)), some (.int (nI q)), none] [] _ 0 0
  refine wp_ald0 dX12_list_0 ?_
  refine gm_w dX12_list_1 fX12_7 hM ?_
  refine wp_ild4 dX12_list_4 ?_
  refine rm_w (i' := q) dX12_list_6 hG hM rfl (by first | assumption | omega) ?_
  rw [hF _ (by omega)]
  refine wp_if_le (tgt := 57) dX12_list_7 (by decide) (fun c_7 => ?_) (fun c_7 => ?_)
  · exact wp_vret dX12_list_57 rfl (Nat.le_refl _) (Nat.le_refl _) (by first | with_reducible rfl | (simp only [lsT, putL, if_pos c_7]; done) | (simp only [lsT, putL, if_pos c_7]; rfl) | rfl) (by first | with_reducible rfl | (simp only [lsT, putL, if_pos c_7]; done) | (simp only [lsT, putL, if_pos c_7]; rfl) | rfl)
  · refine wp_ald0 dX12_list_10 ?_
    refine mv_0 dX12_list_11 kX12_155 (cm_blank (d := d - 1) hG hM hm (by first | omega | (simp only [List.length_append, List.length_cons, List.length_nil]; omega)) (by omega)) hM rfl (by omega) (Nat.le_of_ble_eq_true rfl) (Nat.le_refl _) (Nat.le_refl _) ?_
    refine wp_ald0 dX12_list_14 ?_
    refine wp_lld1 dX12_list_15 ?_
    refine mv_1 dX12_list_16 kX12_158 (cm_word (d := d - 1) hG hM (putL_many ([32]) F m hm (by first | omega | (simp only [List.length_append, List.length_cons, List.length_nil]; omega))) (by first | omega | (simp only [List.length_append, List.length_cons, List.length_nil]; omega)) (by omega)) hM rfl (by omega) (Nat.le_of_ble_eq_true rfl) (Nat.le_refl _) (Nat.le_refl _) ?_
    rw [← putL_app]
    refine wp_ald0 dX12_list_19 ?_
    refine mv_0 dX12_list_20 kX12_155 (cm_blank (d := d - 1) hG hM (putL_many (([32]) ++ wrd x) F m hm (by first | omega | (simp only [List.length_append, List.length_cons, List.length_nil]; omega))) (by first | omega | (simp only [List.length_append, List.length_cons, List.length_nil]; omega)) (by omega)) hM rfl (by omega) (Nat.le_of_ble_eq_true rfl) (Nat.le_refl _) (Nat.le_refl _) ?_
    rw [← putL_app]
    refine wp_iconst (v := 0) dX12_list_23 (by decide) ?_
    refine wp_ist5 dX12_list_24 (by decide) rfl ?_
    simp only [lsT, if_neg c_7]
    rw [putL_app]
    exact WP.fg (by simp [lcle, nI_0]) (lm_ls hG hM hp hq hs hmem hdp (nt (W q)) 0 _ _ (by omega) (fun k hk => (putL_lo (by omega) (([32] ++ wrd x) ++ [32]) F m hm (by first | omega | (simp only [List.length_append, List.length_cons, List.length_nil]; omega))).trans (hF k hk)) (putL_many (([32] ++ wrd x) ++ [32]) F m hm (by first | omega | (simp only [List.length_append, List.length_cons, List.length_nil]; omega))) (by first | omega | (simp only [List.length_append, List.length_cons, List.length_nil]; omega)))

def lwd (x : Int32) : Int64 := if x = 0 then 487131252096 else if x = 1 then 78436665733 else if x = 2 then 78436798464 else if x = 3 then 696101371904 else 324483993764
theorem sw03 {x : Int32} (h0 : ¬ x = 0) (h1 : ¬ x = 1) (h2 : ¬ x = 2) (h3 : ¬ x = 3) : x.toInt < 0 ∨ (3 : Int) < x.toInt := sw_out 3 (by decide) (fun i hi => by
  match i, hi with
  | 0, _ => exact h0
  | 1, _ => exact h1
  | 2, _ => exact h2
  | 3, _ => exact h3
  | i + 4, hi => omega)
set_option maxHeartbeats 2000000 in
theorem cm_lockWord {G : GG} {M : Mem} {d : Nat} {x : Int32}  (hZ : GSJ G) : Ct G d yX12_lockWord iX12_lockWord [.int x] M 0 0 (some (.long (lwd x))) M := by
  refine Ct.of 0 (by decide) rfl (by decide) (Nat.le_of_ble_eq_true rfl) ?_
  show WP _ _ _ _ _ _ _ 0 [some (.int x)] [] _ 0 0
  refine wp_ild0 dX12_lockWord_0 ?_
  by_cases s1_0 : x = 0
  · refine wp_tableIn (off := 31) (tgt := 32) dX12_lockWord_1 (by rw [s1_0]; decide) (by rw [s1_0]; decide) (by rw [s1_0]; rfl) (by decide) ?_
    refine wp_gets dX12_lockWord_32 hZ.NEUTRAL_WORD sX12_139 ?_
    exact wp_lret dX12_lockWord_35 rfl (Nat.le_refl _) (Nat.le_refl _) (by first | with_reducible rfl | (simp only [lwd, if_pos s1_0]; done) | (simp only [lwd, if_pos s1_0]; rfl) | rfl) (by first | with_reducible rfl | (simp only [lwd, if_pos s1_0]; done) | (simp only [lwd, if_pos s1_0]; rfl) | rfl)
  · by_cases s1_1 : x = 1
    · refine wp_tableIn (off := 35) (tgt := 36) dX12_lockWord_1 (by rw [s1_1]; decide) (by rw [s1_1]; decide) (by rw [s1_1]; rfl) (by decide) ?_
      refine wp_gets dX12_lockWord_36 hZ.BIASABLE_WORD sX12_143 ?_
      exact wp_lret dX12_lockWord_39 rfl (Nat.le_refl _) (Nat.le_refl _) (by first | with_reducible rfl | (simp only [lwd, if_neg s1_0, if_pos s1_1]; done) | (simp only [lwd, if_neg s1_0, if_pos s1_1]; rfl) | rfl) (by first | with_reducible rfl | (simp only [lwd, if_neg s1_0, if_pos s1_1]; done) | (simp only [lwd, if_neg s1_0, if_pos s1_1]; rfl) | rfl)
    · by_cases s1_2 : x = 2
      · refine wp_tableIn (off := 39) (tgt := 40) dX12_lockWord_1 (by rw [s1_2]; decide) (by rw [s1_2]; decide) (by rw [s1_2]; rfl) (by decide) ?_
        refine wp_gets dX12_lockWord_40 hZ.BIASED_WORD sX12_146 ?_
        exact wp_lret dX12_lockWord_43 rfl (Nat.le_refl _) (Nat.le_refl _) (by first | with_reducible rfl | (simp only [lwd, if_neg s1_0, if_neg s1_1, if_pos s1_2]; done) | (simp only [lwd, if_neg s1_0, if_neg s1_1, if_pos s1_2]; rfl) | rfl) (by first | with_reducible rfl | (simp only [lwd, if_neg s1_0, if_neg s1_1, if_pos s1_2]; done) | (simp only [lwd, if_neg s1_0, if_neg s1_1, if_pos s1_2]; rfl) | rfl)
      · by_cases s1_3 : x = 3
        · refine wp_tableIn (off := 43) (tgt := 44) dX12_lockWord_1 (by rw [s1_3]; decide) (by rw [s1_3]; decide) (by rw [s1_3]; rfl) (by decide) ?_
          refine wp_gets dX12_lockWord_44 hZ.THIN_WORD sX12_149 ?_
          exact wp_lret dX12_lockWord_47 rfl (Nat.le_refl _) (Nat.le_refl _) (by first | with_reducible rfl | (simp only [lwd, if_neg s1_0, if_neg s1_1, if_neg s1_2, if_pos s1_3]; done) | (simp only [lwd, if_neg s1_0, if_neg s1_1, if_neg s1_2, if_pos s1_3]; rfl) | rfl) (by first | with_reducible rfl | (simp only [lwd, if_neg s1_0, if_neg s1_1, if_neg s1_2, if_pos s1_3]; done) | (simp only [lwd, if_neg s1_0, if_neg s1_1, if_neg s1_2, if_pos s1_3]; rfl) | rfl)
        · refine wp_tableOut (tgt := 48) dX12_lockWord_1 (sw03 s1_0 s1_1 s1_2 s1_3) (by decide) ?_
          refine wp_gets dX12_lockWord_48 hZ.INFLATED_WORD sX12_152 ?_
          exact wp_lret dX12_lockWord_51 rfl (Nat.le_refl _) (Nat.le_refl _) (by first | with_reducible rfl | (simp only [lwd, if_neg s1_0, if_neg s1_1, if_neg s1_2, if_neg s1_3]; done) | (simp only [lwd, if_neg s1_0, if_neg s1_1, if_neg s1_2, if_neg s1_3]; rfl) | rfl) (by first | with_reducible rfl | (simp only [lwd, if_neg s1_0, if_neg s1_1, if_neg s1_2, if_neg s1_3]; done) | (simp only [lwd, if_neg s1_0, if_neg s1_1, if_neg s1_2, if_neg s1_3]; rfl) | rfl)

/-- what a description rests on -/
def DOK (W : Nat → Int32) (o : Nat) : Prop := (W (46 + o) = 2 → W (70 + o) = nI (nt (W (70 + o))) ∧ nt (W (70 + o)) < 6) ∧ (¬ W (62 + o) ≤ 0 → W (54 + o) = nI (nt (W (54 + o))) ∧ nt (W (54 + o)) < 6) ∧ (¬ W (94 + o) = -8 → 0 ≤ W (94 + o)) ∧ OKs W (110 + o) ∧ OKs W (118 + o) ∧ MOK W (126 + 6 * o) (nt (W (110 + o))) ∧ MOK W (174 + 6 * o) (nt (W (118 + o)))
theorem pos_nat {x : Int32} (h : 0 ≤ x) : x = nI (nt x) ∧ nt x < 2 ^ 31 := by
  have h1 := Int32.le_iff_toInt_le.mp h
  have h2 := Int32.toInt_lt x
  have e : (x.toNatClampNeg : Int) = x.toInt := by
    unfold Int32.toNatClampNeg
    rw [Int.toNat_of_nonneg h1]
  have h3 : x.toNatClampNeg < 2 ^ 31 := by
    have := h2
    omega
  exact ⟨Int32.toInt_inj.mp (by rw [nI_toInt h3, e]), h3⟩
def mk5 (W : Nat → Int32) (o : Nat) : List Int32 := if W (86 + o) = 1 then ([32] ++ wrd 36555603397) ++ [100] else []
def mk4 (W : Nat → Int32) (o : Nat) : List Int32 := if W (94 + o) = -8 then [] else ([32] ++ [35]) ++ numL (nt (W (94 + o)))
def mk3 (W : Nat → Int32) (o : Nat) : List Int32 := if W (46 + o) = 4 then lsT W 606854086656 (126 + 6 * o) (110 + o) ++ lsT W 791670685696 (174 + 6 * o) (118 + o) else []
def mk2 (W : Nat → Int32) (o : Nat) : List Int32 := if ¬ W (62 + o) ≤ 0 then ((((([32] ++ wrd 95563022336) ++ [32]) ++ numL (nt (W (54 + o)))) ++ [32]) ++ [120]) ++ numL (nt (W (62 + o))) else []
def mk1 (W : Nat → Int32) (o : Nat) : List Int32 := if W (46 + o) = 2 then (if bOK W o then (([32] ++ wrd 703300894720) ++ [32]) ++ numL (nt (W (70 + o))) else (((([32] ++ wrd 703300894720) ++ [32]) ++ numL (nt (W (70 + o)))) ++ [32]) ++ wrd 528415195136) else []
def mkT (W : Nat → Int32) (o : Nat) : List Int32 := wrd (lwd (W (46 + o))) ++ (mk1 W o ++ (mk2 W o ++ (mk3 W o ++ (mk4 W o ++ mk5 W o))))
set_option maxHeartbeats 2000000 in
theorem tm_mk227 {G : GG} {Y : Nat} {F : Nat → Int32} {E0 : Nat → va_E} {L : List Nat} {sz d : Nat} {W : Nat → Int32} {o m : Nat} (hG : GOK G) (hM : rIn (mR G Y) L) (hZ : GSJ G) (ho : o < 8) (hD : DOK W o) (hF : ∀ k, k < 482 → F k = W k) (hm : pOK F m) (hm2 : m ≤ 185) (hdp : 2 ≤ d) : WP G iX12_makeText d 0 0 none (Mm G Y (putL F (mk5 W o)) E0 L sz) 227 [some (.ref Y), some (.int (nI o))] [] (Mm G Y F E0 L sz) 0 0 := by
  have hD0 := hD
  have w1 := wrd_len 703300894720
  have w2 := wrd_len 528415195136
  have w3 := wrd_len 95563022336
  have w6 := wrd_len 36555603397
  have n1 := numL_len (nt (W (94 + o)))
  have n2 := numL_len (nt (W (54 + o)))
  have n3 := numL_len (nt (W (62 + o)))
  have n4 := numL_len (nt (W (70 + o)))
  obtain ⟨d1, d2, d3, d4, d5, d6, d7⟩ := hD
  refine wp_ald0 dX12_makeText_227 ?_
  refine gm_w dX12_makeText_228 fX12_7 hM ?_
  refine wp_bipush (v := 86) dX12_makeText_231 (by decide) ?_
  refine wp_ild1 dX12_makeText_233 ?_
  refine wp_iaddN (a := 86) (b := o) (by decide) rfl dX12_makeText_234 ?_
  refine rm_w (i' := (86 + o)) dX12_makeText_235 hG hM rfl (by first | assumption | omega) ?_
  rw [hF _ (by omega)]
  refine wp_iconst (v := 1) dX12_makeText_236 (by decide) ?_
  refine wp_icmp_ne (tgt := 257) dX12_makeText_237 (by decide) (fun c_237 => ?_) (fun c_237 => ?_)
  · exact wp_vret dX12_makeText_257 rfl (Nat.le_refl _) (Nat.le_refl _) (by first | with_reducible rfl | (simp only [mk5, if_neg c_237]; done) | (simp only [mk5, if_neg c_237]; rfl)) (by first | with_reducible rfl | (simp only [mk5, if_neg c_237]; done) | (simp only [mk5, if_neg c_237]; rfl))
  · refine wp_ald0 dX12_makeText_240 ?_
    refine mv_0 dX12_makeText_241 kX12_155 (cm_blank (d := d - 1) hG hM hm (by first | omega | (simp only [List.length_append, List.length_cons, List.length_nil]; omega)) (by omega)) hM rfl (by omega) (Nat.le_of_ble_eq_true rfl) (Nat.le_refl _) (Nat.le_refl _) ?_
    refine wp_ald0 dX12_makeText_244 ?_
    refine wp_gets dX12_makeText_245 hZ.ABAND sX12_188 ?_
    refine mv_1 dX12_makeText_248 kX12_158 (cm_word (d := d - 1) hG hM (putL_many ([32]) F m hm (by first | omega | (simp only [List.length_append, List.length_cons, List.length_nil]; omega))) (by first | omega | (simp only [List.length_append, List.length_cons, List.length_nil]; omega)) (by omega)) hM rfl (by omega) (Nat.le_of_ble_eq_true rfl) (Nat.le_refl _) (Nat.le_refl _) ?_
    rw [← putL_app]
    refine wp_ald0 dX12_makeText_251 ?_
    refine wp_bipush (v := 100) dX12_makeText_252 (by decide) ?_
    refine mv_1 dX12_makeText_254 kX12_136 (cm_sign (d := d - 1) hG hM (putL_many (([32]) ++ wrd 36555603397) F m hm (by first | omega | (simp only [List.length_append, List.length_cons, List.length_nil]; omega))) (by first | omega | (simp only [List.length_append, List.length_cons, List.length_nil]; omega))) hM rfl (by omega) (Nat.le_of_ble_eq_true rfl) (Nat.le_refl _) (Nat.le_refl _) ?_
    rw [show sgM (putL F (([32]) ++ wrd 36555603397)) 100 = putL (putL F (([32]) ++ wrd 36555603397)) [100] from rfl]
    rw [← putL_app]
    exact wp_vret dX12_makeText_257 rfl (Nat.le_refl _) (Nat.le_refl _) (by first | with_reducible rfl | (simp only [mk5, if_pos c_237]; done) | (simp only [mk5, if_pos c_237]; rfl)) (by first | with_reducible rfl | (simp only [mk5, if_pos c_237]; done) | (simp only [mk5, if_pos c_237]; rfl))
set_option maxHeartbeats 2000000 in
theorem tm_mk190 {G : GG} {Y : Nat} {F : Nat → Int32} {E0 : Nat → va_E} {L : List Nat} {sz d : Nat} {W : Nat → Int32} {o m : Nat} (hG : GOK G) (hM : rIn (mR G Y) L) (hZ : GSJ G) (ho : o < 8) (hD : DOK W o) (hF : ∀ k, k < 482 → F k = W k) (hm : pOK F m) (hm2 : m ≤ 170) (hdp : 2 ≤ d) : WP G iX12_makeText d 0 0 none (Mm G Y (putL F (mk4 W o ++ mk5 W o)) E0 L sz) 190 [some (.ref Y), some (.int (nI o))] [] (Mm G Y F E0 L sz) 0 0 := by
  have hD0 := hD
  have w1 := wrd_len 703300894720
  have w2 := wrd_len 528415195136
  have w3 := wrd_len 95563022336
  have w6 := wrd_len 36555603397
  have n1 := numL_len (nt (W (94 + o)))
  have n2 := numL_len (nt (W (54 + o)))
  have n3 := numL_len (nt (W (62 + o)))
  have n4 := numL_len (nt (W (70 + o)))
  obtain ⟨d1, d2, d3, d4, d5, d6, d7⟩ := hD
  refine wp_ald0 dX12_makeText_190 ?_
  refine gm_w dX12_makeText_191 fX12_7 hM ?_
  refine wp_bipush (v := 94) dX12_makeText_194 (by decide) ?_
  refine wp_ild1 dX12_makeText_196 ?_
  refine wp_iaddN (a := 94) (b := o) (by decide) rfl dX12_makeText_197 ?_
  refine rm_w (i' := (94 + o)) dX12_makeText_198 hG hM rfl (by first | assumption | omega) ?_
  rw [hF _ (by omega)]
  refine wp_bipush (v := (-8)) dX12_makeText_199 (by decide) ?_
  refine wp_icmp_eq (tgt := 227) dX12_makeText_201 (by decide) (fun c_201 => ?_) (fun c_201 => ?_)
  · rw [show mk4 W o = [] by simp only [mk4, if_pos c_201], List.nil_append]
    exact tm_mk227 hG hM hZ ho hD0 hF hm (by omega) (by omega)
  · refine wp_ald0 dX12_makeText_204 ?_
    refine mv_0 dX12_makeText_205 kX12_155 (cm_blank (d := d - 1) hG hM hm (by first | omega | (simp only [List.length_append, List.length_cons, List.length_nil]; omega)) (by omega)) hM rfl (by omega) (Nat.le_of_ble_eq_true rfl) (Nat.le_refl _) (Nat.le_refl _) ?_
    refine wp_ald0 dX12_makeText_208 ?_
    refine wp_bipush (v := 35) dX12_makeText_209 (by decide) ?_
    refine mv_1 dX12_makeText_211 kX12_136 (cm_sign (d := d - 1) hG hM (putL_many ([32]) F m hm (by first | omega | (simp only [List.length_append, List.length_cons, List.length_nil]; omega))) (by first | omega | (simp only [List.length_append, List.length_cons, List.length_nil]; omega))) hM rfl (by omega) (Nat.le_of_ble_eq_true rfl) (Nat.le_refl _) (Nat.le_refl _) ?_
    rw [show sgM (putL F ([32])) 35 = putL (putL F ([32])) [35] from rfl]
    rw [← putL_app]
    refine wp_ald0 dX12_makeText_214 ?_
    refine wp_ald0 dX12_makeText_215 ?_
    refine gm_w dX12_makeText_216 fX12_7 hM ?_
    refine wp_bipush (v := 94) dX12_makeText_219 (by decide) ?_
    refine wp_ild1 dX12_makeText_221 ?_
    refine wp_iaddN (a := 94) (b := o) (by decide) rfl dX12_makeText_222 ?_
    refine rm_w (i' := (94 + o)) dX12_makeText_223 hG hM rfl (by first | assumption | omega) ?_
    obtain ⟨h1, h2⟩ := pos_nat (d3 c_201)
    rw [rdW (putL F (([32]) ++ [35])) W (fun k hk => (putL_lo (by omega) (([32]) ++ [35]) F m hm (by first | omega | (simp only [List.length_append, List.length_cons, List.length_nil]; omega))).trans (hF k hk)) _ (by omega)]
    rw [h1]
    refine mv_1 dX12_makeText_224 kX12_162 (cm_number (d := d - 1) hG hM (by omega) (putL_many (([32]) ++ [35]) F m hm (by first | omega | (simp only [List.length_append, List.length_cons, List.length_nil]; omega))) (by first | omega | (simp only [List.length_append, List.length_cons, List.length_nil]; omega)) (by omega)) hM rfl (by omega) (Nat.le_of_ble_eq_true rfl) (Nat.le_refl _) (Nat.le_refl _) ?_
    rw [← putL_app]
    rw [show mk4 W o = (([32]) ++ [35]) ++ numL (nt (W (94 + o))) by simp only [mk4, if_neg c_201], putL_app]
    exact tm_mk227 hG hM hZ ho hD0 (fun k hk => (putL_lo (by omega) ((([32]) ++ [35]) ++ numL (nt (W (94 + o)))) F m hm (by first | omega | (simp only [List.length_append, List.length_cons, List.length_nil]; omega))).trans (hF k hk)) (putL_many ((([32]) ++ [35]) ++ numL (nt (W (94 + o)))) F m hm (by first | omega | (simp only [List.length_append, List.length_cons, List.length_nil]; omega))) (by first | omega | (simp only [List.length_append, List.length_cons, List.length_nil]; omega)) (by omega)
set_option maxHeartbeats 2000000 in
theorem tm_mk140 {G : GG} {Y : Nat} {F : Nat → Int32} {E0 : Nat → va_E} {L : List Nat} {sz d : Nat} {W : Nat → Int32} {o m : Nat} (hG : GOK G) (hM : rIn (mR G Y) L) (hZ : GSJ G) (ho : o < 8) (hD : DOK W o) (hF : ∀ k, k < 482 → F k = W k) (hm : pOK F m) (hm2 : m ≤ 136) (hdp : 3 ≤ d) : WP G iX12_makeText d 0 0 none (Mm G Y (putL F (mk3 W o ++ (mk4 W o ++ mk5 W o))) E0 L sz) 140 [some (.ref Y), some (.int (nI o))] [] (Mm G Y F E0 L sz) 0 0 := by
  have hD0 := hD
  have w1 := wrd_len 703300894720
  have w2 := wrd_len 528415195136
  have w3 := wrd_len 95563022336
  have w6 := wrd_len 36555603397
  have n1 := numL_len (nt (W (94 + o)))
  have n2 := numL_len (nt (W (54 + o)))
  have n3 := numL_len (nt (W (62 + o)))
  have n4 := numL_len (nt (W (70 + o)))
  obtain ⟨d1, d2, d3, d4, d5, d6, d7⟩ := hD
  have l1 := lsT_len (x := 606854086656) d4 d6
  have l2 := lsT_len (x := 791670685696) d5 d7
  refine wp_ald0 dX12_makeText_140 ?_
  refine gm_w dX12_makeText_141 fX12_7 hM ?_
  refine wp_bipush (v := 46) dX12_makeText_144 (by decide) ?_
  refine wp_ild1 dX12_makeText_146 ?_
  refine wp_iaddN (a := 46) (b := o) (by decide) rfl dX12_makeText_147 ?_
  refine rm_w (i' := (46 + o)) dX12_makeText_148 hG hM rfl (by first | assumption | omega) ?_
  rw [hF _ (by omega)]
  refine wp_iconst (v := 4) dX12_makeText_149 (by decide) ?_
  refine wp_icmp_ne (tgt := 190) dX12_makeText_150 (by decide) (fun c_150 => ?_) (fun c_150 => ?_)
  · rw [show mk3 W o = [] by simp only [mk3, if_neg c_150], List.nil_append]
    exact tm_mk190 hG hM hZ ho hD0 hF hm (by omega) (by omega)
  · refine wp_ald0 dX12_makeText_153 ?_
    refine wp_gets dX12_makeText_154 hZ.QUEUE_WORD sX12_178 ?_
    refine wp_bipush (v := 126) dX12_makeText_157 (by decide) ?_
    refine wp_bipush (v := 6) dX12_makeText_159 (by decide) ?_
    refine wp_ild1 dX12_makeText_161 ?_
    refine wp_imulN (a := 6) (b := o) (by decide) rfl dX12_makeText_162 ?_
    refine wp_iaddN (a := 126) (b := (6 * o)) (by decide) rfl dX12_makeText_163 ?_
    refine wp_bipush (v := 110) dX12_makeText_164 (by decide) ?_
    refine wp_ild1 dX12_makeText_166 ?_
    refine wp_iaddN (a := 110) (b := o) (by decide) rfl dX12_makeText_167 ?_
    refine mv_3 dX12_makeText_168 kX12_181 (cm_list (d := d - 1) hG hM (by omega) (by omega) d4 d6 hF hm (by first | omega | (simp only [List.length_append, List.length_cons, List.length_nil]; omega)) (by omega)) hM rfl (by omega) (Nat.le_of_ble_eq_true rfl) (Nat.le_refl _) (Nat.le_refl _) ?_
    refine wp_ald0 dX12_makeText_171 ?_
    refine wp_gets dX12_makeText_172 hZ.WAIT_WORD sX12_185 ?_
    refine wp_sipush (v := 174) dX12_makeText_175 (by decide) ?_
    refine wp_bipush (v := 6) dX12_makeText_178 (by decide) ?_
    refine wp_ild1 dX12_makeText_180 ?_
    refine wp_imulN (a := 6) (b := o) (by decide) rfl dX12_makeText_181 ?_
    refine wp_iaddN (a := 174) (b := (6 * o)) (by decide) rfl dX12_makeText_182 ?_
    refine wp_bipush (v := 118) dX12_makeText_183 (by decide) ?_
    refine wp_ild1 dX12_makeText_185 ?_
    refine wp_iaddN (a := 118) (b := o) (by decide) rfl dX12_makeText_186 ?_
    refine mv_3 dX12_makeText_187 kX12_181 (cm_list (d := d - 1) hG hM (by omega) (by omega) d5 d7 (fun k hk => (putL_lo (by omega) (lsT W 606854086656 (126 + 6 * o) (110 + o)) F m hm (by first | omega | (simp only [List.length_append, List.length_cons, List.length_nil]; omega))).trans (hF k hk)) (putL_many (lsT W 606854086656 (126 + 6 * o) (110 + o)) F m hm (by first | omega | (simp only [List.length_append, List.length_cons, List.length_nil]; omega))) (by first | omega | (simp only [List.length_append, List.length_cons, List.length_nil]; omega)) (by omega)) hM rfl (by omega) (Nat.le_of_ble_eq_true rfl) (Nat.le_refl _) (Nat.le_refl _) ?_
    rw [← putL_app]
    rw [show mk3 W o = (lsT W 606854086656 (126 + 6 * o) (110 + o)) ++ lsT W 791670685696 (174 + 6 * o) (118 + o) by simp only [mk3, if_pos c_150], putL_app]
    exact tm_mk190 hG hM hZ ho hD0 (fun k hk => (putL_lo (by omega) ((lsT W 606854086656 (126 + 6 * o) (110 + o)) ++ lsT W 791670685696 (174 + 6 * o) (118 + o)) F m hm (by first | omega | (simp only [List.length_append, List.length_cons, List.length_nil]; omega))).trans (hF k hk)) (putL_many ((lsT W 606854086656 (126 + 6 * o) (110 + o)) ++ lsT W 791670685696 (174 + 6 * o) (118 + o)) F m hm (by first | omega | (simp only [List.length_append, List.length_cons, List.length_nil]; omega))) (by first | omega | (simp only [List.length_append, List.length_cons, List.length_nil]; omega)) (by omega)
set_option maxHeartbeats 2000000 in
theorem tm_mk81 {G : GG} {Y : Nat} {F : Nat → Int32} {E0 : Nat → va_E} {L : List Nat} {sz d : Nat} {W : Nat → Int32} {o m : Nat} (hG : GOK G) (hM : rIn (mR G Y) L) (hZ : GSJ G) (ho : o < 8) (hD : DOK W o) (hF : ∀ k, k < 482 → F k = W k) (hm : pOK F m) (hm2 : m ≤ 100) (hdp : 3 ≤ d) : WP G iX12_makeText d 0 0 none (Mm G Y (putL F (mk2 W o ++ (mk3 W o ++ (mk4 W o ++ mk5 W o)))) E0 L sz) 81 [some (.ref Y), some (.int (nI o))] [] (Mm G Y F E0 L sz) 0 0 := by
  have hD0 := hD
  have w1 := wrd_len 703300894720
  have w2 := wrd_len 528415195136
  have w3 := wrd_len 95563022336
  have w6 := wrd_len 36555603397
  have n1 := numL_len (nt (W (94 + o)))
  have n2 := numL_len (nt (W (54 + o)))
  have n3 := numL_len (nt (W (62 + o)))
  have n4 := numL_len (nt (W (70 + o)))
  obtain ⟨d1, d2, d3, d4, d5, d6, d7⟩ := hD
  refine wp_ald0 dX12_makeText_81 ?_
  refine wp_ild1 dX12_makeText_82 ?_
  refine mi_1 dX12_makeText_83 kX12_54 (cm_isHeld (d := d - 1) hG hM ho) hM rfl (by omega) (Nat.le_of_ble_eq_true rfl) (Nat.le_refl _) (Nat.le_refl _) ?_
  rw [hF _ (by omega)]
  refine wp_ifB_eq (tgt := 140) dX12_makeText_86 (by decide) (fun c_86 => ?_) (fun c_86 => ?_)
  · rw [show mk2 W o = [] by simp only [mk2, if_neg c_86], List.nil_append]
    exact tm_mk140 hG hM hZ ho hD0 hF hm (by omega) (by omega)
  · refine wp_ald0 dX12_makeText_89 ?_
    refine mv_0 dX12_makeText_90 kX12_155 (cm_blank (d := d - 1) hG hM hm (by first | omega | (simp only [List.length_append, List.length_cons, List.length_nil]; omega)) (by omega)) hM rfl (by omega) (Nat.le_of_ble_eq_true rfl) (Nat.le_refl _) (Nat.le_refl _) ?_
    refine wp_ald0 dX12_makeText_93 ?_
    refine wp_gets dX12_makeText_94 hZ.BY_WORD sX12_175 ?_
    refine mv_1 dX12_makeText_97 kX12_158 (cm_word (d := d - 1) hG hM (putL_many ([32]) F m hm (by first | omega | (simp only [List.length_append, List.length_cons, List.length_nil]; omega))) (by first | omega | (simp only [List.length_append, List.length_cons, List.length_nil]; omega)) (by omega)) hM rfl (by omega) (Nat.le_of_ble_eq_true rfl) (Nat.le_refl _) (Nat.le_refl _) ?_
    rw [← putL_app]
    refine wp_ald0 dX12_makeText_100 ?_
    refine mv_0 dX12_makeText_101 kX12_155 (cm_blank (d := d - 1) hG hM (putL_many (([32]) ++ wrd 95563022336) F m hm (by first | omega | (simp only [List.length_append, List.length_cons, List.length_nil]; omega))) (by first | omega | (simp only [List.length_append, List.length_cons, List.length_nil]; omega)) (by omega)) hM rfl (by omega) (Nat.le_of_ble_eq_true rfl) (Nat.le_refl _) (Nat.le_refl _) ?_
    rw [← putL_app]
    refine wp_ald0 dX12_makeText_104 ?_
    refine wp_ald0 dX12_makeText_105 ?_
    refine gm_w dX12_makeText_106 fX12_7 hM ?_
    refine wp_bipush (v := 54) dX12_makeText_109 (by decide) ?_
    refine wp_ild1 dX12_makeText_111 ?_
    refine wp_iaddN (a := 54) (b := o) (by decide) rfl dX12_makeText_112 ?_
    refine rm_w (i' := (54 + o)) dX12_makeText_113 hG hM rfl (by first | assumption | omega) ?_
    obtain ⟨h1, h2⟩ := d2 c_86
    rw [rdW (putL F ((([32]) ++ wrd 95563022336) ++ [32])) W (fun k hk => (putL_lo (by omega) ((([32]) ++ wrd 95563022336) ++ [32]) F m hm (by first | omega | (simp only [List.length_append, List.length_cons, List.length_nil]; omega))).trans (hF k hk)) _ (by omega)]
    rw [h1]
    refine mv_1 dX12_makeText_114 kX12_162 (cm_number (d := d - 1) hG hM (by omega) (putL_many ((([32]) ++ wrd 95563022336) ++ [32]) F m hm (by first | omega | (simp only [List.length_append, List.length_cons, List.length_nil]; omega))) (by first | omega | (simp only [List.length_append, List.length_cons, List.length_nil]; omega)) (by omega)) hM rfl (by omega) (Nat.le_of_ble_eq_true rfl) (Nat.le_refl _) (Nat.le_refl _) ?_
    rw [← putL_app]
    refine wp_ald0 dX12_makeText_117 ?_
    refine mv_0 dX12_makeText_118 kX12_155 (cm_blank (d := d - 1) hG hM (putL_many (((([32]) ++ wrd 95563022336) ++ [32]) ++ numL (nt (W (54 + o)))) F m hm (by first | omega | (simp only [List.length_append, List.length_cons, List.length_nil]; omega))) (by first | omega | (simp only [List.length_append, List.length_cons, List.length_nil]; omega)) (by omega)) hM rfl (by omega) (Nat.le_of_ble_eq_true rfl) (Nat.le_refl _) (Nat.le_refl _) ?_
    rw [← putL_app]
    refine wp_ald0 dX12_makeText_121 ?_
    refine wp_bipush (v := 120) dX12_makeText_122 (by decide) ?_
    refine mv_1 dX12_makeText_124 kX12_136 (cm_sign (d := d - 1) hG hM (putL_many ((((([32]) ++ wrd 95563022336) ++ [32]) ++ numL (nt (W (54 + o)))) ++ [32]) F m hm (by first | omega | (simp only [List.length_append, List.length_cons, List.length_nil]; omega))) (by first | omega | (simp only [List.length_append, List.length_cons, List.length_nil]; omega))) hM rfl (by omega) (Nat.le_of_ble_eq_true rfl) (Nat.le_refl _) (Nat.le_refl _) ?_
    rw [show sgM (putL F ((((([32]) ++ wrd 95563022336) ++ [32]) ++ numL (nt (W (54 + o)))) ++ [32])) 120 = putL (putL F ((((([32]) ++ wrd 95563022336) ++ [32]) ++ numL (nt (W (54 + o)))) ++ [32])) [120] from rfl]
    rw [← putL_app]
    refine wp_ald0 dX12_makeText_127 ?_
    refine wp_ald0 dX12_makeText_128 ?_
    refine gm_w dX12_makeText_129 fX12_7 hM ?_
    refine wp_bipush (v := 62) dX12_makeText_132 (by decide) ?_
    refine wp_ild1 dX12_makeText_134 ?_
    refine wp_iaddN (a := 62) (b := o) (by decide) rfl dX12_makeText_135 ?_
    refine rm_w (i' := (62 + o)) dX12_makeText_136 hG hM rfl (by first | assumption | omega) ?_
    obtain ⟨h3, h4⟩ := pos_nat (x := W (62 + o)) (Int32.le_of_lt (Int32.not_le.mp c_86))
    rw [rdW (putL F (((((([32]) ++ wrd 95563022336) ++ [32]) ++ numL (nt (W (54 + o)))) ++ [32]) ++ [120])) W (fun k hk => (putL_lo (by omega) (((((([32]) ++ wrd 95563022336) ++ [32]) ++ numL (nt (W (54 + o)))) ++ [32]) ++ [120]) F m hm (by first | omega | (simp only [List.length_append, List.length_cons, List.length_nil]; omega))).trans (hF k hk)) _ (by omega)]
    rw [h3]
    refine mv_1 dX12_makeText_137 kX12_162 (cm_number (d := d - 1) hG hM (by omega) (putL_many (((((([32]) ++ wrd 95563022336) ++ [32]) ++ numL (nt (W (54 + o)))) ++ [32]) ++ [120]) F m hm (by first | omega | (simp only [List.length_append, List.length_cons, List.length_nil]; omega))) (by first | omega | (simp only [List.length_append, List.length_cons, List.length_nil]; omega)) (by omega)) hM rfl (by omega) (Nat.le_of_ble_eq_true rfl) (Nat.le_refl _) (Nat.le_refl _) ?_
    rw [← putL_app]
    rw [show mk2 W o = (((((([32]) ++ wrd 95563022336) ++ [32]) ++ numL (nt (W (54 + o)))) ++ [32]) ++ [120]) ++ numL (nt (W (62 + o))) by simp only [mk2, if_pos c_86], putL_app]
    exact tm_mk140 hG hM hZ ho hD0 (fun k hk => (putL_lo (by omega) ((((((([32]) ++ wrd 95563022336) ++ [32]) ++ numL (nt (W (54 + o)))) ++ [32]) ++ [120]) ++ numL (nt (W (62 + o)))) F m hm (by first | omega | (simp only [List.length_append, List.length_cons, List.length_nil]; omega))).trans (hF k hk)) (putL_many ((((((([32]) ++ wrd 95563022336) ++ [32]) ++ numL (nt (W (54 + o)))) ++ [32]) ++ [120]) ++ numL (nt (W (62 + o)))) F m hm (by first | omega | (simp only [List.length_append, List.length_cons, List.length_nil]; omega))) (by first | omega | (simp only [List.length_append, List.length_cons, List.length_nil]; omega)) (by omega)
theorem bI_congr {p q : Prop} [Decidable p] [Decidable q] (h : p ↔ q) : bI p = bI q := by
  unfold bI
  by_cases hp : p
  · rw [if_pos hp, if_pos (h.mp hp)]
  · rw [if_neg hp, if_neg (fun x => hp (h.mpr x))]
set_option maxHeartbeats 2000000 in
theorem tm_mk21 {G : GG} {Y : Nat} {F : Nat → Int32} {E0 : Nat → va_E} {L : List Nat} {sz d : Nat} {W : Nat → Int32} {o m : Nat} (hG : GOK G) (hM : rIn (mR G Y) L) (hZ : GSJ G) (ho : o < 8) (hD : DOK W o) (hF : ∀ k, k < 482 → F k = W k) (hm : pOK F m) (hm2 : m ≤ 60) (hdp : 3 ≤ d) : WP G iX12_makeText d 0 0 none (Mm G Y (putL F (mk1 W o ++ (mk2 W o ++ (mk3 W o ++ (mk4 W o ++ mk5 W o))))) E0 L sz) 21 [some (.ref Y), some (.int (nI o))] [] (Mm G Y F E0 L sz) 0 0 := by
  have hD0 := hD
  have w1 := wrd_len 703300894720
  have w2 := wrd_len 528415195136
  have w3 := wrd_len 95563022336
  have w6 := wrd_len 36555603397
  have n1 := numL_len (nt (W (94 + o)))
  have n2 := numL_len (nt (W (54 + o)))
  have n3 := numL_len (nt (W (62 + o)))
  have n4 := numL_len (nt (W (70 + o)))
  obtain ⟨d1, d2, d3, d4, d5, d6, d7⟩ := hD
  have ho3 : o % 3 < 3 := Nat.mod_lt _ (by decide)
  refine wp_ald0 dX12_makeText_21 ?_
  refine gm_w dX12_makeText_22 fX12_7 hM ?_
  refine wp_bipush (v := 46) dX12_makeText_25 (by decide) ?_
  refine wp_ild1 dX12_makeText_27 ?_
  refine wp_iaddN (a := 46) (b := o) (by decide) rfl dX12_makeText_28 ?_
  refine rm_w (i' := (46 + o)) dX12_makeText_29 hG hM rfl (by first | assumption | omega) ?_
  rw [hF _ (by omega)]
  refine wp_iconst (v := 2) dX12_makeText_30 (by decide) ?_
  refine wp_icmp_ne (tgt := 81) dX12_makeText_31 (by decide) (fun c_31 => ?_) (fun c_31 => ?_)
  · rw [show mk1 W o = [] by simp only [mk1, if_neg c_31], List.nil_append]
    exact tm_mk81 hG hM hZ ho hD0 hF hm (by omega) (by omega)
  · refine wp_ald0 dX12_makeText_34 ?_
    refine mv_0 dX12_makeText_35 kX12_155 (cm_blank (d := d - 1) hG hM hm (by first | omega | (simp only [List.length_append, List.length_cons, List.length_nil]; omega)) (by omega)) hM rfl (by omega) (Nat.le_of_ble_eq_true rfl) (Nat.le_refl _) (Nat.le_refl _) ?_
    refine wp_ald0 dX12_makeText_38 ?_
    refine wp_gets dX12_makeText_39 hZ.TO_WORD sX12_169 ?_
    refine mv_1 dX12_makeText_42 kX12_158 (cm_word (d := d - 1) hG hM (putL_many ([32]) F m hm (by first | omega | (simp only [List.length_append, List.length_cons, List.length_nil]; omega))) (by first | omega | (simp only [List.length_append, List.length_cons, List.length_nil]; omega)) (by omega)) hM rfl (by omega) (Nat.le_of_ble_eq_true rfl) (Nat.le_refl _) (Nat.le_refl _) ?_
    rw [← putL_app]
    refine wp_ald0 dX12_makeText_45 ?_
    refine mv_0 dX12_makeText_46 kX12_155 (cm_blank (d := d - 1) hG hM (putL_many (([32]) ++ wrd 703300894720) F m hm (by first | omega | (simp only [List.length_append, List.length_cons, List.length_nil]; omega))) (by first | omega | (simp only [List.length_append, List.length_cons, List.length_nil]; omega)) (by omega)) hM rfl (by omega) (Nat.le_of_ble_eq_true rfl) (Nat.le_refl _) (Nat.le_refl _) ?_
    rw [← putL_app]
    refine wp_ald0 dX12_makeText_49 ?_
    refine wp_ald0 dX12_makeText_50 ?_
    refine gm_w dX12_makeText_51 fX12_7 hM ?_
    refine wp_bipush (v := 70) dX12_makeText_54 (by decide) ?_
    refine wp_ild1 dX12_makeText_56 ?_
    refine wp_iaddN (a := 70) (b := o) (by decide) rfl dX12_makeText_57 ?_
    refine rm_w (i' := (70 + o)) dX12_makeText_58 hG hM rfl (by first | assumption | omega) ?_
    obtain ⟨h1, h2⟩ := d1 c_31
    rw [rdW (putL F ((([32]) ++ wrd 703300894720) ++ [32])) W (fun k hk => (putL_lo (by omega) ((([32]) ++ wrd 703300894720) ++ [32]) F m hm (by first | omega | (simp only [List.length_append, List.length_cons, List.length_nil]; omega))).trans (hF k hk)) _ (by omega)]
    rw [h1]
    refine mv_1 dX12_makeText_59 kX12_162 (cm_number (d := d - 1) hG hM (by omega) (putL_many ((([32]) ++ wrd 703300894720) ++ [32]) F m hm (by first | omega | (simp only [List.length_append, List.length_cons, List.length_nil]; omega))) (by first | omega | (simp only [List.length_append, List.length_cons, List.length_nil]; omega)) (by omega)) hM rfl (by omega) (Nat.le_of_ble_eq_true rfl) (Nat.le_refl _) (Nat.le_refl _) ?_
    rw [← putL_app]
    refine wp_ald0 dX12_makeText_62 ?_
    refine wp_ild1 dX12_makeText_63 ?_
    have hrd : ∀ k, k < 482 → putL F (((([32]) ++ wrd 703300894720) ++ [32]) ++ numL (nt (W (70 + o)))) k = W k := (fun k hk => (putL_lo (by omega) (((([32]) ++ wrd 703300894720) ++ [32]) ++ numL (nt (W (70 + o)))) F m hm (by first | omega | (simp only [List.length_append, List.length_cons, List.length_nil]; omega))).trans (hF k hk))
    refine mi_1 dX12_makeText_64 kX12_84 (cm_isValid (d := d - 1) hG hM ho) hM rfl (by omega) (Nat.le_of_ble_eq_true rfl) (Nat.le_refl _) (Nat.le_refl _) ?_
    have hv : bOK (putL F (((([32]) ++ wrd 703300894720) ++ [32]) ++ numL (nt (W (70 + o))))) o ↔ bOK W o := by show putL F (((([32]) ++ wrd 703300894720) ++ [32]) ++ numL (nt (W (70 + o)))) (78 + o) = putL F (((([32]) ++ wrd 703300894720) ++ [32]) ++ numL (nt (W (70 + o)))) (222 + o % 3) ↔ _; rw [hrd _ (by omega), hrd _ (by omega)]
    rw [bI_congr hv]
    refine wp_ifB_ne (tgt := 81) dX12_makeText_67 (by decide) (fun c_67 => ?_) (fun c_67 => ?_)
    · rw [show mk1 W o = ((([32]) ++ wrd 703300894720) ++ [32]) ++ numL (nt (W (70 + o))) by simp only [mk1, if_pos c_31, if_pos c_67], putL_app]
      exact tm_mk81 hG hM hZ ho hD0 (fun k hk => (putL_lo (by omega) (((([32]) ++ wrd 703300894720) ++ [32]) ++ numL (nt (W (70 + o)))) F m hm (by first | omega | (simp only [List.length_append, List.length_cons, List.length_nil]; omega))).trans (hF k hk)) (putL_many (((([32]) ++ wrd 703300894720) ++ [32]) ++ numL (nt (W (70 + o)))) F m hm (by first | omega | (simp only [List.length_append, List.length_cons, List.length_nil]; omega))) (by first | omega | (simp only [List.length_append, List.length_cons, List.length_nil]; omega)) (by omega)
    · refine wp_ald0 dX12_makeText_70 ?_
      refine mv_0 dX12_makeText_71 kX12_155 (cm_blank (d := d - 1) hG hM (putL_many (((([32]) ++ wrd 703300894720) ++ [32]) ++ numL (nt (W (70 + o)))) F m hm (by first | omega | (simp only [List.length_append, List.length_cons, List.length_nil]; omega))) (by first | omega | (simp only [List.length_append, List.length_cons, List.length_nil]; omega)) (by omega)) hM rfl (by omega) (Nat.le_of_ble_eq_true rfl) (Nat.le_refl _) (Nat.le_refl _) ?_
      rw [← putL_app]
      refine wp_ald0 dX12_makeText_74 ?_
      refine wp_gets dX12_makeText_75 hZ.OLD_WORD sX12_172 ?_
      refine mv_1 dX12_makeText_78 kX12_158 (cm_word (d := d - 1) hG hM (putL_many ((((([32]) ++ wrd 703300894720) ++ [32]) ++ numL (nt (W (70 + o)))) ++ [32]) F m hm (by first | omega | (simp only [List.length_append, List.length_cons, List.length_nil]; omega))) (by first | omega | (simp only [List.length_append, List.length_cons, List.length_nil]; omega)) (by omega)) hM rfl (by omega) (Nat.le_of_ble_eq_true rfl) (Nat.le_refl _) (Nat.le_refl _) ?_
      rw [← putL_app]
      rw [show mk1 W o = ((((([32]) ++ wrd 703300894720) ++ [32]) ++ numL (nt (W (70 + o)))) ++ [32]) ++ wrd 528415195136 by simp only [mk1, if_pos c_31, if_neg c_67], putL_app]
      exact tm_mk81 hG hM hZ ho hD0 (fun k hk => (putL_lo (by omega) (((((([32]) ++ wrd 703300894720) ++ [32]) ++ numL (nt (W (70 + o)))) ++ [32]) ++ wrd 528415195136) F m hm (by first | omega | (simp only [List.length_append, List.length_cons, List.length_nil]; omega))).trans (hF k hk)) (putL_many (((((([32]) ++ wrd 703300894720) ++ [32]) ++ numL (nt (W (70 + o)))) ++ [32]) ++ wrd 528415195136) F m hm (by first | omega | (simp only [List.length_append, List.length_cons, List.length_nil]; omega))) (by first | omega | (simp only [List.length_append, List.length_cons, List.length_nil]; omega)) (by omega)
set_option maxHeartbeats 2000000 in
theorem cm_makeText {G : GG} {Y : Nat} {F : Nat → Int32} {E0 : Nat → va_E} {L : List Nat} {sz d : Nat} {o : Nat} (hG : GOK G) (hM : rIn (mR G Y) L) (hZ : GSJ G) (ho : o < 8) (hD : DOK F o) (hdp : 4 ≤ d) : Ct G d yX12_makeText iX12_makeText [.ref Y, .int (nI o)] (Mm G Y F E0 L sz) 0 0 none (Mm G Y (putL (upd F 9002 0) (mkT F o)) E0 L sz) := by
  have w8 := wrd_len (lwd (F (46 + o)))
  refine Ct.of 0 (by decide) rfl (by decide) (Nat.le_of_ble_eq_true rfl) ?_
  show WP _ _ _ _ _ _ _ 0 [some (.ref Y), some (.int (nI o))] [] _ 0 0
  refine wp_ald0 dX12_makeText_0 ?_
  refine wp_iconst (v := 0) dX12_makeText_1 (by decide) ?_
  refine pm_many dX12_makeText_2 pX12_130 hM ?_
  refine wp_ald0 dX12_makeText_5 ?_
  refine wp_ald0 dX12_makeText_6 ?_
  refine gm_w dX12_makeText_7 fX12_7 hM ?_
  refine wp_bipush (v := 46) dX12_makeText_10 (by decide) ?_
  refine wp_ild1 dX12_makeText_12 ?_
  refine wp_iaddN (a := 46) (b := o) (by decide) rfl dX12_makeText_13 ?_
  refine rm_w (i' := (46 + o)) dX12_makeText_14 hG hM rfl (by first | assumption | omega) ?_
  rw [upd_ne (by omega)]
  refine ci_1 dX12_makeText_15 kX12_165 (cm_lockWord (d := d - 1) hZ) (by omega) (Nat.le_of_ble_eq_true rfl) (Nat.le_refl _) (Nat.le_refl _) ?_
  refine mv_1 dX12_makeText_18 kX12_158 (cm_word (d := d - 1) hG hM (m := 0) upd_eq (by omega) (by omega)) hM rfl (by omega) (Nat.le_of_ble_eq_true rfl) (Nat.le_refl _) (Nat.le_refl _) ?_
  simp only [mkT]
  rw [putL_app]
  exact tm_mk21 (W := F) (m := 0 + (wrd (lwd (F (46 + o)))).length) hG hM hZ ho hD (fun k hk => (putL_lo (by omega) _ _ 0 upd_eq (by omega)).trans (upd_ne (by omega))) (putL_many _ _ 0 upd_eq (by omega)) (by omega) (by omega)

theorem mkT_len {W : Nat → Int32} {o : Nat} (hD : DOK W o) : (mkT W o).length ≤ 150 := by
  have w1 := wrd_len 703300894720
  have w2 := wrd_len 528415195136
  have w3 := wrd_len 95563022336
  have w6 := wrd_len 36555603397
  have n1 := numL_len (nt (W (94 + o)))
  have n2 := numL_len (nt (W (54 + o)))
  have n3 := numL_len (nt (W (62 + o)))
  have n4 := numL_len (nt (W (70 + o)))
  obtain ⟨d1, d2, d3, d4, d5, d6, d7⟩ := hD
  have l1 := lsT_len (x := 606854086656) d4 d6
  have l2 := lsT_len (x := 791670685696) d5 d7
  have w8 := wrd_len (lwd (W (46 + o)))
  have a1 : (mk1 W o).length ≤ 30 := by
    unfold mk1
    split
    · split <;> (simp only [List.length_append, List.length_cons, List.length_nil]; omega)
    · simp
  have a2 : (mk2 W o).length ≤ 33 := by
    unfold mk2
    split
    · simp only [List.length_append, List.length_cons, List.length_nil]; omega
    · simp
  have a3 : (mk3 W o).length ≤ 32 := by
    unfold mk3
    split
    · simp only [List.length_append, List.length_cons, List.length_nil]; omega
    · simp
  have a4 : (mk4 W o).length ≤ 12 := by
    unfold mk4
    split
    · simp
    · simp only [List.length_append, List.length_cons, List.length_nil]; omega
  have a5 : (mk5 W o).length ≤ 10 := by
    unfold mk5
    split
    · simp only [List.length_append, List.length_cons, List.length_nil]; omega
    · simp
  unfold mkT
  simp only [List.length_append]
  omega
def desM (F : Nat → Int32) (y k : Int32) : Int32 × (Nat → Int32) := if isOb y then (if 0 ≤ k then (if nI (mkT F (nt y)).length ≤ k then (-8, putL (upd F 9002 0) (mkT F (nt y))) else ((mkT F (nt y)).getD (nt k) 0, putL (upd F 9002 0) (mkT F (nt y)))) else (-3, F)) else (-2, F)
theorem mkT_read {F : Nat → Int32} {o i : Nat} (hD : DOK F o) (hi : i < (mkT F o).length) : putL (upd F 9002 0) (mkT F o) (6000 + i) = (mkT F o).getD i 0 := by
  have hl := mkT_len hD
  rw [putL_at (mkT F o) (upd F 9002 0) 0 i upd_eq (by omega) (by omega), if_neg (by omega), Nat.sub_zero, List.getD_eq_getElem?_getD, List.getElem?_eq_getElem hi]; rfl
set_option maxHeartbeats 2000000 in
theorem cm_describe {G : GG} {Y : Nat} {F : Nat → Int32} {E0 : Nat → va_E} {L : List Nat} {sz d : Nat} {y k : Int32} (hG : GOK G) (hM : rIn (mR G Y) L) (hZ : GSJ G) (hD : ∀ o, o < 8 → DOK F o) (hdp : 5 ≤ d) : Ct G d yX12_describe iX12_describe [.ref Y, .int y, .int k] (Mm G Y F E0 L sz) 0 0 (some (.int (desM F y k).1)) (Mm G Y ((desM F y k).2) E0 L sz) := by
  refine Ct.of 0 (by decide) rfl (by decide) (Nat.le_of_ble_eq_true rfl) ?_
  show WP _ _ _ _ _ _ _ 0 [some (.ref Y), some (.int y), some (.int k)] [] _ 0 0
  refine wp_ild1 dX12_describe_0 ?_
  refine ci_1 dX12_describe_1 kX12_104 (cm_isObject (d := d - 1) (by omega)) (by omega) (Nat.le_of_ble_eq_true rfl) (Nat.le_refl _) (Nat.le_refl _) ?_
  refine wp_ifB_ne (tgt := 10) dX12_describe_4 (by decide) (fun c_4 => ?_) (fun c_4 => ?_)
  · obtain ⟨o, ho, rfl⟩ := isOb_nat c_4
    have e2 : nt (nI o) = o := ntn (by omega)
    have hml := mkT_len (hD o ho)
    have hmm : putL (upd F 9002 0) (mkT F o) 9002 = nI (mkT F o).length := by have := putL_many (mkT F o) (upd F 9002 0) 0 upd_eq (by omega); rwa [Nat.zero_add] at this
    refine wp_ild2 dX12_describe_10 ?_
    refine wp_if_ge (tgt := 17) dX12_describe_11 (by decide) (fun c_11 => ?_) (fun c_11 => ?_)
    · refine wp_ald0 dX12_describe_17 ?_
      refine wp_ild1 dX12_describe_18 ?_
      refine mv_1 dX12_describe_19 kX12_191 (cm_makeText (d := d - 1) hG hM hZ ho (hD o ho) (by omega)) hM rfl (by omega) (Nat.le_of_ble_eq_true rfl) (Nat.le_refl _) (Nat.le_refl _) ?_
      refine wp_ild2 dX12_describe_22 ?_
      refine wp_ald0 dX12_describe_23 ?_
      refine gm_many dX12_describe_24 fX12_130 hM ?_
      rw [show putL (upd F 9002 0) (mkT F o) 9002 = nI (mkT F o).length from hmm]
      refine wp_icmp_ge (tgt := 39) dX12_describe_27 (by decide) (fun c_27 => ?_) (fun c_27 => ?_)
      · refine wp_bipush (v := (-8)) dX12_describe_39 (by decide) ?_
        exact wp_iret dX12_describe_41 rfl (Nat.le_refl _) (Nat.le_refl _) (by first | with_reducible rfl | (simp only [desM, if_pos c_4, e2, if_pos c_11, if_pos c_27]; done) | (simp only [desM, if_pos c_4, e2, if_pos c_11, if_pos c_27]; rfl) | rfl) (by first | with_reducible rfl | (simp only [desM, if_pos c_4, e2, if_pos c_11, if_pos c_27]; done) | (simp only [desM, if_pos c_4, e2, if_pos c_11, if_pos c_27]; rfl) | rfl)
      · refine wp_ald0 dX12_describe_30 ?_
        refine gm_made dX12_describe_31 fX12_25 hM ?_
        refine wp_ild2 dX12_describe_34 ?_
        obtain ⟨hk, hkb⟩ := nat_of (Int32.not_lt.mpr c_11) c_27 (by omega)
        have hkb : nt k < (mkT F o).length := hkb
        refine rm_made (i' := nt k) dX12_describe_35 hG hM hk (by first | assumption | omega) ?_
        rw [mkT_read (hD o ho) hkb]
        refine wp_goto (tgt := 41) dX12_describe_36 (by decide) ?_
        exact wp_iret dX12_describe_41 rfl (Nat.le_refl _) (Nat.le_refl _) (by first | with_reducible rfl | (simp only [desM, if_pos c_4, e2, if_pos c_11, if_neg c_27]; done) | (simp only [desM, if_pos c_4, e2, if_pos c_11, if_neg c_27]; rfl) | rfl) (by first | with_reducible rfl | (simp only [desM, if_pos c_4, e2, if_pos c_11, if_neg c_27]; done) | (simp only [desM, if_pos c_4, e2, if_pos c_11, if_neg c_27]; rfl) | rfl)
    · refine wp_bipush (v := (-3)) dX12_describe_14 (by decide) ?_
      exact wp_iret dX12_describe_16 rfl (Nat.le_refl _) (Nat.le_refl _) (by first | with_reducible rfl | (simp only [desM, if_pos c_4, e2, if_neg c_11]; done) | (simp only [desM, if_pos c_4, e2, if_neg c_11]; rfl) | rfl) (by first | with_reducible rfl | (simp only [desM, if_pos c_4, e2, if_neg c_11]; done) | (simp only [desM, if_pos c_4, e2, if_neg c_11]; rfl) | rfl)
  · refine wp_bipush (v := (-2)) dX12_describe_7 (by decide) ?_
    exact wp_iret dX12_describe_9 rfl (Nat.le_refl _) (Nat.le_refl _) (by first | with_reducible rfl | (simp only [desM, if_neg c_4]; done) | (simp only [desM, if_neg c_4]; rfl) | rfl) (by first | with_reducible rfl | (simp only [desM, if_neg c_4]; done) | (simp only [desM, if_neg c_4]; rfl) | rfl)

