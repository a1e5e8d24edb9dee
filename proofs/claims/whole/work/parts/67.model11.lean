/-- the words of the reference -/
def lwTab : List (String × Int64) := [("NEUTRAL_WORD", 487131252096), ("BIASABLE_WORD", 78436665733), ("BIASED_WORD", 78436798464), ("THIN_WORD", 696101371904), ("INFLATED_WORD", 324483993764), ("TO_WORD", 703300894720), ("OLD_WORD", 528415195136), ("BY_WORD", 95563022336), ("QUEUE_WORD", 606854086656), ("WAIT_WORD", 791670685696), ("ABAND", 36555603397), ("ENTER_WORD", 187507998720), ("EXIT_WORD", 197891457024), ("AWAIT_WORD", 59099447296), ("SIGNAL_WORD", 662748311552), ("INTER_WORD", 324946971312), ("DIE_WORD", 147270402048), ("START_WORD", 674362949632), ("HASH_WORD", 276597571584), ("TICK_WORD", 696970641408)]
def GSJ (G : GG) : Prop := ∀ p, p ∈ lwTab → ("LockSimulatorModel", p.1, "J", Value.long p.2) ∈ gZ G
theorem GSJ.NEUTRAL_WORD {G : GG} (h : GSJ G) : ("LockSimulatorModel", "NEUTRAL_WORD", "J", Value.long 487131252096) ∈ gZ G := h ("NEUTRAL_WORD", 487131252096) (List.mem_of_getElem? (i := 0) rfl)
theorem GSJ.BIASABLE_WORD {G : GG} (h : GSJ G) : ("LockSimulatorModel", "BIASABLE_WORD", "J", Value.long 78436665733) ∈ gZ G := h ("BIASABLE_WORD", 78436665733) (List.mem_of_getElem? (i := 1) rfl)
theorem GSJ.BIASED_WORD {G : GG} (h : GSJ G) : ("LockSimulatorModel", "BIASED_WORD", "J", Value.long 78436798464) ∈ gZ G := h ("BIASED_WORD", 78436798464) (List.mem_of_getElem? (i := 2) rfl)
theorem GSJ.THIN_WORD {G : GG} (h : GSJ G) : ("LockSimulatorModel", "THIN_WORD", "J", Value.long 696101371904) ∈ gZ G := h ("THIN_WORD", 696101371904) (List.mem_of_getElem? (i := 3) rfl)
theorem GSJ.INFLATED_WORD {G : GG} (h : GSJ G) : ("LockSimulatorModel", "INFLATED_WORD", "J", Value.long 324483993764) ∈ gZ G := h ("INFLATED_WORD", 324483993764) (List.mem_of_getElem? (i := 4) rfl)
theorem GSJ.TO_WORD {G : GG} (h : GSJ G) : ("LockSimulatorModel", "TO_WORD", "J", Value.long 703300894720) ∈ gZ G := h ("TO_WORD", 703300894720) (List.mem_of_getElem? (i := 5) rfl)
theorem GSJ.OLD_WORD {G : GG} (h : GSJ G) : ("LockSimulatorModel", "OLD_WORD", "J", Value.long 528415195136) ∈ gZ G := h ("OLD_WORD", 528415195136) (List.mem_of_getElem? (i := 6) rfl)
theorem GSJ.BY_WORD {G : GG} (h : GSJ G) : ("LockSimulatorModel", "BY_WORD", "J", Value.long 95563022336) ∈ gZ G := h ("BY_WORD", 95563022336) (List.mem_of_getElem? (i := 7) rfl)
theorem GSJ.QUEUE_WORD {G : GG} (h : GSJ G) : ("LockSimulatorModel", "QUEUE_WORD", "J", Value.long 606854086656) ∈ gZ G := h ("QUEUE_WORD", 606854086656) (List.mem_of_getElem? (i := 8) rfl)
theorem GSJ.WAIT_WORD {G : GG} (h : GSJ G) : ("LockSimulatorModel", "WAIT_WORD", "J", Value.long 791670685696) ∈ gZ G := h ("WAIT_WORD", 791670685696) (List.mem_of_getElem? (i := 9) rfl)
theorem GSJ.ABAND {G : GG} (h : GSJ G) : ("LockSimulatorModel", "ABAND", "J", Value.long 36555603397) ∈ gZ G := h ("ABAND", 36555603397) (List.mem_of_getElem? (i := 10) rfl)
theorem GSJ.ENTER_WORD {G : GG} (h : GSJ G) : ("LockSimulatorModel", "ENTER_WORD", "J", Value.long 187507998720) ∈ gZ G := h ("ENTER_WORD", 187507998720) (List.mem_of_getElem? (i := 11) rfl)
theorem GSJ.EXIT_WORD {G : GG} (h : GSJ G) : ("LockSimulatorModel", "EXIT_WORD", "J", Value.long 197891457024) ∈ gZ G := h ("EXIT_WORD", 197891457024) (List.mem_of_getElem? (i := 12) rfl)
theorem GSJ.AWAIT_WORD {G : GG} (h : GSJ G) : ("LockSimulatorModel", "AWAIT_WORD", "J", Value.long 59099447296) ∈ gZ G := h ("AWAIT_WORD", 59099447296) (List.mem_of_getElem? (i := 13) rfl)
theorem GSJ.SIGNAL_WORD {G : GG} (h : GSJ G) : ("LockSimulatorModel", "SIGNAL_WORD", "J", Value.long 662748311552) ∈ gZ G := h ("SIGNAL_WORD", 662748311552) (List.mem_of_getElem? (i := 14) rfl)
theorem GSJ.INTER_WORD {G : GG} (h : GSJ G) : ("LockSimulatorModel", "INTER_WORD", "J", Value.long 324946971312) ∈ gZ G := h ("INTER_WORD", 324946971312) (List.mem_of_getElem? (i := 15) rfl)
theorem GSJ.DIE_WORD {G : GG} (h : GSJ G) : ("LockSimulatorModel", "DIE_WORD", "J", Value.long 147270402048) ∈ gZ G := h ("DIE_WORD", 147270402048) (List.mem_of_getElem? (i := 16) rfl)
theorem GSJ.START_WORD {G : GG} (h : GSJ G) : ("LockSimulatorModel", "START_WORD", "J", Value.long 674362949632) ∈ gZ G := h ("START_WORD", 674362949632) (List.mem_of_getElem? (i := 17) rfl)
theorem GSJ.HASH_WORD {G : GG} (h : GSJ G) : ("LockSimulatorModel", "HASH_WORD", "J", Value.long 276597571584) ∈ gZ G := h ("HASH_WORD", 276597571584) (List.mem_of_getElem? (i := 18) rfl)
theorem GSJ.TICK_WORD {G : GG} (h : GSJ G) : ("LockSimulatorModel", "TICK_WORD", "J", Value.long 696970641408) ∈ gZ G := h ("TICK_WORD", 696970641408) (List.mem_of_getElem? (i := 19) rfl)
def sgM (F : Nat → Int32) (c : Int32) : Nat → Int32 := upd (upd F (6000 + nt (F 9002)) c) 9002 (upd F (6000 + nt (F 9002)) c 9002 + 1)
def putL : (Nat → Int32) → List Int32 → (Nat → Int32)
  | F, [] => F
  | F, c :: l => putL (sgM F c) l
theorem putL_app : ∀ (l r : List Int32) (F : Nat → Int32), putL F (l ++ r) = putL (putL F l) r
  | [], _, _ => rfl
  | _ :: l, r, _ => putL_app l r _
/-- m letters are made -/
abbrev pOK (F : Nat → Int32) (m : Nat) : Prop := F 9002 = nI m
theorem sg_many {F : Nat → Int32} {m : Nat} {c : Int32} (h : pOK F m) (hm : m < 200) : pOK (sgM F c) (m + 1) := by
  show upd _ _ _ 9002 = _
  rw [upd_eq, h, ntn (by omega), upd_ne (by omega), h]
  exact nI_add m 1
theorem sg_lo {F : Nat → Int32} {m : Nat} {c : Int32} {k : Nat} (h : pOK F m) (hm : m < 200) (hk : k < 6000 ∨ (6200 ≤ k ∧ k ≠ 9002)) : sgM F c k = F k := by
  show upd _ _ _ k = _
  rw [h, ntn (by omega), upd_ne (by omega), upd_ne (by omega)]
theorem sg_at {F : Nat → Int32} {m : Nat} {c : Int32} {k : Nat} (h : pOK F m) (hm : m < 200) (hk : k < 200) : sgM F c (6000 + k) = if k = m then c else F (6000 + k) := by
  show upd _ _ _ (6000 + k) = _
  rw [h, ntn (by omega), upd_ne (by omega)]
  by_cases e : k = m
  · subst e; rw [upd_eq, if_pos rfl]
  · rw [upd_ne (by omega), if_neg e]
theorem putL_many : ∀ (l : List Int32) (F : Nat → Int32) (m : Nat), pOK F m → m + l.length ≤ 200 → pOK (putL F l) (m + l.length)
  | [], _, _, h, _ => h
  | c :: l, F, m, h, hm => by
    simp only [List.length_cons] at hm ⊢
    have := putL_many l (sgM F c) (m + 1) (sg_many h (by omega)) (by omega)
    rw [show m + 1 + l.length = m + (l.length + 1) by omega] at this
    exact this
theorem putL_lo {k : Nat} (hk : k < 6000 ∨ (6200 ≤ k ∧ k ≠ 9002)) : ∀ (l : List Int32) (F : Nat → Int32) (m : Nat), pOK F m → m + l.length ≤ 200 → putL F l k = F k
  | [], _, _, _, _ => rfl
  | c :: l, F, m, h, hm => by
    simp only [List.length_cons] at hm
    exact (putL_lo hk l (sgM F c) (m + 1) (sg_many h (by omega)) (by omega)).trans (sg_lo h (by omega) hk)
theorem putL_at : ∀ (l : List Int32) (F : Nat → Int32) (m k : Nat), pOK F m → m + l.length ≤ 200 → k < 200 → putL F l (6000 + k) = if k < m then F (6000 + k) else (l[k - m]?).getD (F (6000 + k))
  | [], F, m, k, _, _, _ => by simp [putL]
  | c :: l, F, m, k, h, hm, hk => by
    simp only [List.length_cons] at hm
    show putL (sgM F c) l (6000 + k) = _
    rw [putL_at l (sgM F c) (m + 1) k (sg_many h (by omega)) (by omega) hk, sg_at h (by omega) hk]
    by_cases h1 : k < m
    · rw [if_pos (by omega), if_neg (by omega), if_pos h1]
    · by_cases e : k = m
      · subst e
        rw [if_pos (by omega), if_pos rfl, if_neg h1, Nat.sub_self]; rfl
      · rw [if_neg (by omega), if_neg e, if_neg h1, show k - m = (k - (m + 1)) + 1 by omega, List.getElem?_cons_succ]
set_option maxHeartbeats 2000000 in
theorem cm_sign {G : GG} {Y : Nat} {F : Nat → Int32} {E0 : Nat → va_E} {L : List Nat} {sz d : Nat} {m : Nat} {c : Int32} (hG : GOK G) (hM : rIn (mR G Y) L) (hm : pOK F m) (hm2 : m < 200) : Ct G d yX12_sign iX12_sign [.ref Y, .int c] (Mm G Y F E0 L sz) 0 0 none (Mm G Y (sgM F c) E0 L sz) := by
  have hmn : F 9002 = nI (nt (F 9002)) := by rw [hm, ntn (by omega)]
  have hm3 : nt (F 9002) < 200 := by rw [hm, ntn (by omega)]; exact hm2
  refine Ct.of 0 (by decide) rfl (by decide) (Nat.le_of_ble_eq_true rfl) ?_
  show WP _ _ _ _ _ _ _ 0 [some (.ref Y), some (.int c)] [] _ 0 0
  refine wp_ald0 dX12_sign_0 ?_
  refine gm_made dX12_sign_1 fX12_25 hM ?_
  refine wp_ald0 dX12_sign_4 ?_
  refine gm_many dX12_sign_5 fX12_130 hM ?_
  refine wp_ild1 dX12_sign_8 ?_
  refine sm_made (i' := nt (F 9002)) dX12_sign_9 hG hM hmn (by first | assumption | omega) ?_
  refine wp_ald0 dX12_sign_10 ?_
  refine wp_dup dX12_sign_11 rfl ?_
  refine gm_many dX12_sign_12 fX12_130 hM ?_
  refine wp_iconst (v := 1) dX12_sign_15 (by decide) ?_
  refine wp_iadd dX12_sign_16 ?_
  refine pm_many dX12_sign_17 pX12_130 hM ?_
  exact wp_vret dX12_sign_20 rfl (Nat.le_refl _) (Nat.le_refl _) (by first | with_reducible rfl | (simp only [sgM]; done) | (simp only [sgM]; rfl) | rfl) (by first | with_reducible rfl | (simp only [sgM]; done) | (simp only [sgM]; rfl) | rfl)

set_option maxHeartbeats 2000000 in
theorem cm_blank {G : GG} {Y : Nat} {F : Nat → Int32} {E0 : Nat → va_E} {L : List Nat} {sz d : Nat} {m : Nat} (hG : GOK G) (hM : rIn (mR G Y) L) (hm : pOK F m) (hm2 : m < 200) (hdp : 1 ≤ d) : Ct G d yX12_blank iX12_blank [.ref Y] (Mm G Y F E0 L sz) 0 0 none (Mm G Y (putL F [32]) E0 L sz) := by
  refine Ct.of 0 (by decide) rfl (by decide) (Nat.le_of_ble_eq_true rfl) ?_
  show WP _ _ _ _ _ _ _ 0 [some (.ref Y)] [] _ 0 0
  refine wp_ald0 dX12_blank_0 ?_
  refine wp_bipush (v := 32) dX12_blank_1 (by decide) ?_
  refine mv_1 dX12_blank_3 kX12_136 (cm_sign (d := d - 1) hG hM hm hm2) hM rfl (by omega) (Nat.le_of_ble_eq_true rfl) (Nat.le_refl _) (Nat.le_refl _) ?_
  exact wp_vret dX12_blank_6 rfl (Nat.le_refl _) (Nat.le_refl _) (by rfl) (by rfl)

def wdc (x : Int64) (n : Nat) : Int32 := (x >>> ((nI (5 * n)).toInt64 &&& 63) &&& 31).toInt32
def wdL (x : Int64) : Nat → List Int32
  | 0 => []
  | n + 1 => if wdc x n ≤ 0 then wdL x n else (96 + wdc x n) :: wdL x n
abbrev wrd (x : Int64) : List Int32 := wdL x 8
set_option maxHeartbeats 2000000 in
theorem lm_wd {G : GG} {Y : Nat} {E0 : Nat → va_E} {L : List Nat} {sz d : Nat} {x : Int64} (hG : GOK G) (hM : rIn (mR G Y) L) (hdp : 1 ≤ d) (n : Nat) : ∀ (k : Int32) (F : Nat → Int32) (m : Nat), n ≤ 8 → k = nI n - 1 → pOK F m → m + (wdL x n).length ≤ 200 → WP G iX12_word d 0 0 none (Mm G Y (putL F (wdL x n)) E0 L sz) 3 [some (.ref Y), some (.long x), none, some (.int k), none] [] (Mm G Y F E0 L sz) 0 0 := by
  induction n with
  | zero =>
    intro k F m hn hk hm hm2
    refine wp_ild3 dX12_word_3 ?_
    refine wp_if_lt (tgt := 39) dX12_word_4 (by decide) (fun c_4 => ?_) (fun c_4 => absurd (by rw [hk]; decide) c_4)
    exact wp_vret dX12_word_39 rfl (Nat.le_refl _) (Nat.le_refl _) (by first | with_reducible rfl | (simp only [wdL, putL]; done) | (simp only [wdL, putL]; rfl) | rfl) (by first | with_reducible rfl | (simp only [wdL, putL]; done) | (simp only [wdL, putL]; rfl) | rfl)
  | succ n ih =>
    intro k F m hn hk hm hm2
    obtain rfl : k = nI n := by rw [hk]; exact nJ_sub (a := n + 1) (b := 1) (by omega)
    have hlen : wdc x n ≤ 0 ∨ m < 200 := by
      by_cases hc : wdc x n ≤ 0
      · exact Or.inl hc
      · right
        simp only [wdL, if_neg hc, List.length_cons] at hm2
        omega
    refine wp_ild3 dX12_word_3 ?_
    refine wp_if_lt (tgt := 39) dX12_word_4 (by decide) (fun c_4 => absurd c_4 (nI_pos (by omega))) (fun c_4 => ?_)
    refine wp_lld1 dX12_word_7 ?_
    refine wp_iconst (v := 5) dX12_word_8 (by decide) ?_
    refine wp_ild3 dX12_word_9 ?_
    refine wp_imulN (a := 5) (b := n) (by decide) rfl dX12_word_10 ?_
    refine wp_lshr dX12_word_11 ?_
    refine wp_ldc2 dX12_word_12 qX12_134 ?_
    refine wp_land dX12_word_15 ?_
    refine wp_l2i dX12_word_16 ?_
    refine wp_ist4 dX12_word_17 (by decide) rfl ?_
    refine wp_ild4 dX12_word_19 ?_
    refine wp_if_le (tgt := 33) dX12_word_21 (by decide) (fun c_21 => ?_) (fun c_21 => ?_)
    · refine wp_iinc3 dX12_word_33 (by decide) rfl ?_
      refine wp_goto (tgt := 3) dX12_word_36 (by decide) ?_
      have c_21 : wdc x n ≤ 0 := c_21
      simp only [wdL, if_pos c_21] at hm2 ⊢
      exact WP.fg (by simp [lcle, Int32.sub_eq_add_neg]) (ih (nI n - 1) F m (by omega) rfl hm hm2)
    · refine wp_ald0 dX12_word_24 ?_
      refine wp_bipush (v := 96) dX12_word_25 (by decide) ?_
      refine wp_ild4 dX12_word_27 ?_
      refine wp_iadd dX12_word_29 ?_
      refine mv_1 dX12_word_30 kX12_136 (cm_sign (d := d - 1) hG hM hm (hlen.resolve_left c_21)) hM rfl (by omega) (Nat.le_of_ble_eq_true rfl) (Nat.le_refl _) (Nat.le_refl _) ?_
      refine wp_iinc3 dX12_word_33 (by decide) rfl ?_
      refine wp_goto (tgt := 3) dX12_word_36 (by decide) ?_
      have c_21 : ¬ wdc x n ≤ 0 := c_21
      simp only [wdL, if_neg c_21, List.length_cons] at hm2 ⊢
      exact WP.fg (by simp [lcle, Int32.sub_eq_add_neg]) (ih (nI n - 1) (sgM F (96 + wdc x n)) (m + 1) (by omega) rfl (sg_many hm (by omega)) (by omega))
set_option maxHeartbeats 2000000 in
theorem cm_word {G : GG} {Y : Nat} {F : Nat → Int32} {E0 : Nat → va_E} {L : List Nat} {sz d : Nat} {m : Nat} {x : Int64} (hG : GOK G) (hM : rIn (mR G Y) L) (hm : pOK F m) (hm2 : m + (wrd x).length ≤ 200) (hdp : 1 ≤ d) : Ct G d yX12_word iX12_word [.ref Y, .long x] (Mm G Y F E0 L sz) 0 0 none (Mm G Y (putL F (wrd x)) E0 L sz) := by
  refine Ct.of 2 (by decide) rfl (by decide) (Nat.le_of_ble_eq_true rfl) ?_
  show WP _ _ _ _ _ _ _ 0 [some (.ref Y), some (.long x), none, none, none] [] _ 0 0
  refine wp_bipush (v := 7) dX12_word_0 (by decide) ?_
  refine wp_ist3 dX12_word_2 (by decide) rfl ?_
  exact WP.fg (by simp [lcle]) (lm_wd hG hM hdp 8 7 F m (by omega) (by decide) hm hm2)

def dgs (V : Nat) : Nat → List Int32
  | 0 => []
  | j + 1 => nI (48 + V / 10 ^ j % 10) :: dgs V j
abbrev numL (V : Nat) : List Int32 := dgs V (sb_dg V)
theorem dgs_len (V : Nat) : ∀ j, (dgs V j).length = j
  | 0 => rfl
  | j + 1 => by simp [dgs, dgs_len V j]
theorem dg_of {V j : Nat} (hV : V < 2 ^ 31) (h1 : j = 0 ∨ 10 ^ j ≤ V) (h2 : V / 10 < 10 ^ j) (hj : j ≤ 9) : sb_dg V = j + 1 := by
  unfold sb_dg
  match j, hj with
  | 0, _ => have : V < 10 := by omega
            rw [if_pos this]
  | 1, _ => rw [if_neg (by omega), if_pos (by omega)]
  | 2, _ => rw [if_neg (by omega), if_neg (by omega), if_pos (by omega)]
  | 3, _ => rw [if_neg (by omega), if_neg (by omega), if_neg (by omega), if_pos (by omega)]
  | 4, _ => rw [if_neg (by omega), if_neg (by omega), if_neg (by omega), if_neg (by omega), if_pos (by omega)]
  | 5, _ => rw [if_neg (by omega), if_neg (by omega), if_neg (by omega), if_neg (by omega), if_neg (by omega), if_pos (by omega)]
  | 6, _ => rw [if_neg (by omega), if_neg (by omega), if_neg (by omega), if_neg (by omega), if_neg (by omega), if_neg (by omega), if_pos (by omega)]
  | 7, _ => rw [if_neg (by omega), if_neg (by omega), if_neg (by omega), if_neg (by omega), if_neg (by omega), if_neg (by omega), if_neg (by omega), if_pos (by omega)]
  | 8, _ => rw [if_neg (by omega), if_neg (by omega), if_neg (by omega), if_neg (by omega), if_neg (by omega), if_neg (by omega), if_neg (by omega), if_neg (by omega), if_pos (by omega)]
  | 9, _ => rw [if_neg (by omega), if_neg (by omega), if_neg (by omega), if_neg (by omega), if_neg (by omega), if_neg (by omega), if_neg (by omega), if_neg (by omega), if_neg (by omega)]
/-- the step's width: 0 behind the last digit -/
def wid : Nat → Nat
  | 0 => 0
  | j + 1 => 10 ^ j
theorem wid_div : ∀ j, wid (j + 1) / 10 = wid j
  | 0 => rfl
  | j + 1 => by show 10 ^ (j + 1) / 10 = 10 ^ j; rw [Nat.pow_succ]; omega
theorem pow9 {j : Nat} (h : j ≤ 9) : 10 ^ j ≤ 1000000000 := Nat.pow_le_pow_right (by decide) h
set_option maxHeartbeats 2000000 in
theorem lm_nu2 {G : GG} {Y : Nat} {E0 : Nat → va_E} {L : List Nat} {sz d : Nat} {V : Nat} (hG : GOK G) (hM : rIn (mR G Y) L) (hV : V < 2 ^ 31) (hdp : 1 ≤ d) (n : Nat) : ∀ (F : Nat → Int32) (m : Nat), n ≤ 10 → pOK F m → m + n ≤ 200 → WP G iX12_number d 0 0 none (Mm G Y (putL F (dgs V n)) E0 L sz) 20 [some (.ref Y), some (.int (nI V)), none, some (.int (nI (wid n)))] [] (Mm G Y F E0 L sz) 0 0 := by
  induction n with
  | zero =>
    intro F m hn hm hm2
    refine wp_ild3 dX12_number_20 ?_
    refine wp_if_le (tgt := 45) dX12_number_21 (by decide) (fun c_21 => ?_) (fun c_21 => absurd (by decide) c_21)
    exact wp_vret dX12_number_45 rfl (Nat.le_refl _) (Nat.le_refl _) (by first | with_reducible rfl | (simp only [dgs, putL]; done) | (simp only [dgs, putL]; rfl) | rfl) (by first | with_reducible rfl | (simp only [dgs, putL]; done) | (simp only [dgs, putL]; rfl) | rfl)
  | succ n ih =>
    intro F m hn hm hm2
    have hp9 := pow9 (j := n) (by omega)
    have hpp : 0 < 10 ^ n := Nat.pow_pos (by decide)
    show WP _ _ _ _ _ _ _ 20 [some (.ref Y), some (.int (nI V)), none, some (.int (nI (10 ^ n)))] _ _ _ _
    refine wp_ild3 dX12_number_20 ?_
    refine wp_if_le (tgt := 45) dX12_number_21 (by decide) (fun c_21 => absurd c_21 (nI_nle hpp (by omega))) (fun c_21 => ?_)
    refine wp_ald0 dX12_number_24 ?_
    refine wp_bipush (v := 48) dX12_number_25 (by decide) ?_
    refine wp_ild1 dX12_number_27 ?_
    refine wp_ild3 dX12_number_28 ?_
    refine wp_idiv dX12_number_29 (nI_ne0 (Nat.pow_pos (by decide)) (by omega)) ?_
    rw [pk_div hV (Nat.pow_pos (by decide)) (by omega)]
    refine wp_bipush (v := 10) dX12_number_30 (by decide) ?_
    refine wp_irem dX12_number_32 (by decide) ?_
    rw [show (10 : Int32) = nI 10 from rfl, pk_rem (Nat.lt_of_le_of_lt (Nat.div_le_self _ _) hV) (by decide) (by decide), show (48 : Int32) = nI 48 from rfl]
    refine wp_iaddN (a := 48) (b := V / 10 ^ n % 10) (by decide) rfl dX12_number_33 ?_
    refine mv_1 dX12_number_34 kX12_136 (cm_sign (d := d - 1) hG hM hm (by omega)) hM rfl (by omega) (Nat.le_of_ble_eq_true rfl) (Nat.le_refl _) (Nat.le_refl _) ?_
    refine wp_ild3 dX12_number_37 ?_
    refine wp_bipush (v := 10) dX12_number_38 (by decide) ?_
    refine wp_idiv dX12_number_40 (by decide) ?_
    rw [show (10 : Int32) = nI 10 from rfl, pk_div (by omega) (by decide) (by decide)]
    refine wp_ist3 dX12_number_41 (by decide) rfl ?_
    refine wp_goto (tgt := 20) dX12_number_42 (by decide) ?_
    rw [show 10 ^ n / 10 = wid n from wid_div n]
    exact ih _ (m + 1) (by omega) (sg_many hm (by omega)) (by omega)
set_option maxHeartbeats 2000000 in
theorem lm_nu1 {G : GG} {Y : Nat} {F : Nat → Int32} {E0 : Nat → va_E} {L : List Nat} {sz d : Nat} {V m : Nat} (hG : GOK G) (hM : rIn (mR G Y) L) (hV : V < 2 ^ 31) (hdp : 1 ≤ d) (hm : pOK F m) (hm2 : m + (numL V).length ≤ 200) (n : Nat) : ∀ (j : Nat), j + n = 9 → (j = 0 ∨ 10 ^ j ≤ V) → WP G iX12_number d 0 0 none (Mm G Y (putL F (numL V)) E0 L sz) 2 [some (.ref Y), some (.int (nI V)), some (.int (nI (10 ^ j))), none] [] (Mm G Y F E0 L sz) 0 0 := by
  induction n with
  | zero =>
    intro j hj hj2
    have hp9 := pow9 (j := j) (by omega)
    refine wp_ild2 dX12_number_2 ?_
    refine wp_ild1 dX12_number_3 ?_
    refine wp_bipush (v := 10) dX12_number_4 (by decide) ?_
    refine wp_idiv dX12_number_6 (by decide) ?_
    rw [show (10 : Int32) = nI 10 from rfl, pk_div hV (by decide) (by decide)]
    refine wp_icmp_gt (tgt := 18) dX12_number_7 (by decide) (fun c_7 => ?_) (fun c_7 => ?_)
    · refine wp_ild2 dX12_number_18 ?_
      refine wp_ist3 dX12_number_19 (by decide) rfl ?_
      have c_7 : V / 10 < 10 ^ j := (nI_ltI (by omega) (by omega)).mp c_7
      have hdg : sb_dg V = j + 1 := dg_of hV hj2 c_7 (by omega)
      rw [show numL V = dgs V (j + 1) by unfold numL; rw [hdg]] at hm2 ⊢
      rw [dgs_len] at hm2
      exact WP.fg (by simp [lcle, wid]) (lm_nu2 hG hM hV hdp (j + 1) F m (by omega) hm (by omega))
    · have c_7 : ¬ V / 10 < 10 ^ j := fun q => c_7 ((nI_ltI (by omega) (by omega)).mpr q)
      exfalso
      obtain rfl : j = 9 := by omega
      omega
  | succ n ih =>
    intro j hj hj2
    have hp9 := pow9 (j := j) (by omega)
    refine wp_ild2 dX12_number_2 ?_
    refine wp_ild1 dX12_number_3 ?_
    refine wp_bipush (v := 10) dX12_number_4 (by decide) ?_
    refine wp_idiv dX12_number_6 (by decide) ?_
    rw [show (10 : Int32) = nI 10 from rfl, pk_div hV (by decide) (by decide)]
    refine wp_icmp_gt (tgt := 18) dX12_number_7 (by decide) (fun c_7 => ?_) (fun c_7 => ?_)
    · refine wp_ild2 dX12_number_18 ?_
      refine wp_ist3 dX12_number_19 (by decide) rfl ?_
      have c_7 : V / 10 < 10 ^ j := (nI_ltI (by omega) (by omega)).mp c_7
      have hdg : sb_dg V = j + 1 := dg_of hV hj2 c_7 (by omega)
      rw [show numL V = dgs V (j + 1) by unfold numL; rw [hdg]] at hm2 ⊢
      rw [dgs_len] at hm2
      exact WP.fg (by simp [lcle, wid]) (lm_nu2 hG hM hV hdp (j + 1) F m (by omega) hm (by omega))
    · have c_7 : ¬ V / 10 < 10 ^ j := fun q => c_7 ((nI_ltI (by omega) (by omega)).mpr q)
      refine wp_bipush (v := 10) dX12_number_10 (by decide) ?_
      refine wp_ild2 dX12_number_12 ?_
      refine wp_imulN (a := 10) (b := 10 ^ j) (by decide) rfl dX12_number_13 ?_
      refine wp_ist2 dX12_number_14 (by decide) rfl ?_
      refine wp_goto (tgt := 2) dX12_number_15 (by decide) ?_
      have e : 10 * 10 ^ j = 10 ^ (j + 1) := by rw [Nat.pow_succ]; omega
      rw [e]
      exact ih (j + 1) (by omega) (Or.inr (by omega))
set_option maxHeartbeats 2000000 in
theorem cm_number {G : GG} {Y : Nat} {F : Nat → Int32} {E0 : Nat → va_E} {L : List Nat} {sz d : Nat} {V m : Nat} (hG : GOK G) (hM : rIn (mR G Y) L) (hV : V < 2 ^ 31) (hm : pOK F m) (hm2 : m + (numL V).length ≤ 200) (hdp : 1 ≤ d) : Ct G d yX12_number iX12_number [.ref Y, .int (nI V)] (Mm G Y F E0 L sz) 0 0 none (Mm G Y (putL F (numL V)) E0 L sz) := by
  refine Ct.of 2 (by decide) rfl (by decide) (Nat.le_of_ble_eq_true rfl) ?_
  show WP _ _ _ _ _ _ _ 0 [some (.ref Y), some (.int (nI V)), none, none] [] _ 0 0
  refine wp_iconst (v := 1) dX12_number_0 (by decide) ?_
  refine wp_ist2 dX12_number_1 (by decide) rfl ?_
  exact WP.fg (by simp [lcle]; rfl) (lm_nu1 hG hM hV hdp hm hm2 9 0 rfl (Or.inl rfl))

