def flL (v : Int32) : Nat → Nat → (Nat → Int32) → (Nat → Int32)
  | 0, _, C => C
  | n + 1, i, C => flL v n (i + 1) (upd C (231 + i) v)
def scL : Nat → Nat → (Nat → Int32) → (Nat → Int32)
  | 0, _, C => C
  | n + 1, i, C => scL n (i + 1) (sclrF C i)
def lcL (b : Prop) [Decidable b] : Nat → Nat → (Nat → Int32) → (Nat → Int32)
  | 0, _, C => C
  | n + 1, i, C => lcL b n (i + 1) (lclrF C i b)
def kcL : Nat → Nat → (Nat → Int32) → (Nat → Int32)
  | 0, _, C => C
  | n + 1, i, C => kcL n (i + 1) (kclrF C i)
set_option maxHeartbeats 1000000 in
theorem lp_fill {G : GG} {B : Nat} {E0 : Nat → va_E} {L : List Nat} {sz d : Nat} {v : Int32} (hG : GOK G) (hL : rIn (wR G B) L) (n : Nat) : ∀ (i : Nat) (C : Nat → Int32), i + n = 9 → WP G iJ7_fill_53178 d 0 0 none (Wm G B (flL v n i C) E0 L sz) 5 [some (.ref (B + 3)), some (.int v), some (.int (nI i)), some (.int (nI 9))] [] (Wm G B C E0 L sz) 0 0 := by
  induction n with
  | zero =>
    intro i C hi
    refine wp_ild2 dJ7_fill_53178_5 ?_
    refine wp_ild3 dJ7_fill_53178_6 ?_
    refine wp_icmp_ge (tgt := 20) dJ7_fill_53178_7 (by decide) (fun c_7 => ?_) (fun c_7 => absurd (nI_le (a := 9) (b := i) (by omega) (by omega)) c_7)
    exact wp_vret dJ7_fill_53178_20 rfl (Nat.le_refl _) (Nat.le_refl _) (by first | with_reducible rfl | (simp only [flL]; done) | (simp only [flL]; rfl) | rfl) (by first | with_reducible rfl | (simp only [flL]; done) | (simp only [flL]; rfl) | rfl)
  | succ n ih =>
    intro i C hi
    refine wp_ild2 dJ7_fill_53178_5 ?_
    refine wp_ild3 dJ7_fill_53178_6 ?_
    refine wp_icmp_ge (tgt := 20) dJ7_fill_53178_7 (by decide) (fun c_7 => absurd c_7 (nI_ge (a := i) (b := 9) (by omega) (by omega))) (fun c_7 => ?_)
    refine wp_ald0 dJ7_fill_53178_10 ?_
    refine wp_ild2 dJ7_fill_53178_11 ?_
    refine wp_ild1 dJ7_fill_53178_12 ?_
    refine s_counts (i' := i) dJ7_fill_53178_13 hG hL rfl (by first | assumption | omega) ?_
    refine wp_inc2 dJ7_fill_53178_14 (by decide) rfl ?_
    refine wp_goto (tgt := 5) dJ7_fill_53178_17 (by decide) ?_
    exact ih (i + 1) _ (by omega)
set_option maxHeartbeats 1000000 in
theorem ct_fill {G : GG} {B : Nat} {C : Nat → Int32} {E0 : Nat → va_E} {L : List Nat} {sz d : Nat} {v : Int32} (hG : GOK G) (hL : rIn (wR G B) L)  : Ct G d yJ7_fill_53178 iJ7_fill_53178 [.ref (B + 3), .int v] (Wm G B C E0 L sz) 0 0 none (Wm G B (flL v 9 0 C) E0 L sz) := by
  refine Ct.of 2 (by decide) rfl (by decide) (Nat.le_of_ble_eq_true rfl) ?_
  show WP _ _ _ _ _ _ _ 0 [some (.ref (B + 3)), some (.int v), none, none] [] _ 0 0
  refine wp_iconst (v := 0) dJ7_fill_53178_0 (by decide) ?_
  refine wp_ist2 dJ7_fill_53178_1 (by decide) rfl ?_
  refine wp_ald0 dJ7_fill_53178_2 ?_
  refine l_counts dJ7_fill_53178_3 hG hL ?_
  refine wp_ist3 dJ7_fill_53178_4 (by decide) rfl ?_
  exact WP.fg (by simp [lcle, nI_0]) (lp_fill hG hL 9 0 C rfl)

set_option maxHeartbeats 1000000 in
theorem lp_bg3 {G : GG} {B : Nat} {E0 : Nat → va_E} {L : List Nat} {sz d : Nat}  (hG : GOK G) (hL : rIn (wR G B) L)  (hdp : 1 ≤ d) (n : Nat) : ∀ (i : Nat) (C : Nat → Int32), i + n = 3 → WP G iX10_begin d 0 0 none (Wm G B (kcL n i C) E0 L sz) 124 [some (.ref B), none, none, some (.ref (B + 6)), some (.int (nI 3)), some (.int (nI i)), none] [] (Wm G B C E0 L sz) 0 0 := by
  induction n with
  | zero =>
    intro i C hi
    refine wp_ild5 dX10_begin_124 ?_
    refine wp_ild4 dX10_begin_126 ?_
    refine wp_icmp_ge (tgt := 148) dX10_begin_128 (by decide) (fun c_128 => ?_) (fun c_128 => absurd (nI_le (a := 3) (b := i) (by omega) (by omega)) c_128)
    exact wp_vret dX10_begin_148 rfl (Nat.le_refl _) (Nat.le_refl _) (by first | with_reducible rfl | (simp only [kcL]; done) | (simp only [kcL]; rfl) | rfl) (by first | with_reducible rfl | (simp only [kcL]; done) | (simp only [kcL]; rfl) | rfl)
  | succ n ih =>
    intro i C hi
    refine wp_ild5 dX10_begin_124 ?_
    refine wp_ild4 dX10_begin_126 ?_
    refine wp_icmp_ge (tgt := 148) dX10_begin_128 (by decide) (fun c_128 => absurd c_128 (nI_ge (a := i) (b := 3) (by omega) (by omega))) (fun c_128 => ?_)
    have hi3 : i < 3 := by omega
    refine wp_ald3 dX10_begin_131 ?_
    refine wp_ild5 dX10_begin_132 ?_
    refine r_kinds (i' := i) dX10_begin_134 hG hL rfl (by first | assumption | omega) ?_
    refine wp_ast6 dX10_begin_135 (by decide) rfl ?_
    refine wp_ald6 dX10_begin_137 ?_
    refine vv_Kind0 dX10_begin_139 kX10_76 (ct_kclear (d := d - 1) hG hL hi3) hL (by assumption) rfl (by omega) (Nat.le_of_ble_eq_true rfl) (Nat.le_refl _) (Nat.le_refl _) ?_
    refine wp_inc5 dX10_begin_142 (by decide) rfl ?_
    refine wp_goto (tgt := 124) dX10_begin_145 (by decide) ?_
    exact WP.fg (by simp [lcle]) (ih (i + 1) _ (by omega))
set_option maxHeartbeats 2000000 in
theorem tl_bg112 {G : GG} {B : Nat} {C : Nat → Int32} {E0 : Nat → va_E} {L : List Nat} {sz d : Nat}  (hG : GOK G) (hL : rIn (wR G B) L)  (hdp : 1 ≤ d) : WP G iX10_begin d 0 0 none (Wm G B (kcL 3 0 C) E0 L sz) 112 [some (.ref B), none, none, none, none, none, none] [] (Wm G B C E0 L sz) 0 0 := by
  refine wp_ald0 dX10_begin_112 ?_
  refine g_World_kinds dX10_begin_113 fX10_38 hL ?_
  refine wp_ast3 dX10_begin_116 (by decide) rfl ?_
  refine wp_ald3 dX10_begin_117 ?_
  refine l_kinds dX10_begin_118 hG hL ?_
  refine wp_ist4 dX10_begin_119 (by decide) rfl ?_
  refine wp_iconst (v := 0) dX10_begin_121 (by decide) ?_
  refine wp_ist5 dX10_begin_122 (by decide) rfl ?_
  exact WP.fg (by simp [lcle, nI_0]) (lp_bg3 hG hL hdp 3 0 C rfl)
set_option maxHeartbeats 1000000 in
theorem lp_bg2 {G : GG} {B : Nat} {E0 : Nat → va_E} {L : List Nat} {sz d : Nat} {b : Prop} [Decidable b] (hG : GOK G) (hL : rIn (wR G B) L)  (hdp : 2 ≤ d) (n : Nat) : ∀ (i : Nat) (C : Nat → Int32), i + n = 8 → WP G iX10_begin d 0 0 none (Wm G B (kcL 3 0 (lcL b n i C)) E0 L sz) 87 [some (.ref B), none, some (.int (bI b)), some (.ref (B + 5)), some (.int (nI 8)), some (.int (nI i)), none] [] (Wm G B C E0 L sz) 0 0 := by
  induction n with
  | zero =>
    intro i C hi
    refine wp_ild5 dX10_begin_87 ?_
    refine wp_ild4 dX10_begin_89 ?_
    refine wp_icmp_ge (tgt := 112) dX10_begin_91 (by decide) (fun c_91 => ?_) (fun c_91 => absurd (nI_le (a := 8) (b := i) (by omega) (by omega)) c_91)
    exact WP.fg (by simp [lcle]) (tl_bg112 hG hL (by omega))
  | succ n ih =>
    intro i C hi
    refine wp_ild5 dX10_begin_87 ?_
    refine wp_ild4 dX10_begin_89 ?_
    refine wp_icmp_ge (tgt := 112) dX10_begin_91 (by decide) (fun c_91 => absurd c_91 (nI_ge (a := i) (b := 8) (by omega) (by omega))) (fun c_91 => ?_)
    have hi8 : i < 8 := by omega
    refine wp_ald3 dX10_begin_94 ?_
    refine wp_ild5 dX10_begin_95 ?_
    refine r_locks (i' := i) dX10_begin_97 hG hL rfl (by first | assumption | omega) ?_
    refine wp_ast6 dX10_begin_98 (by decide) rfl ?_
    refine wp_ald6 dX10_begin_100 ?_
    refine wp_ild2 dX10_begin_102 ?_
    refine vv_Lock1 dX10_begin_103 kX10_73 (ct_lkclear (d := d - 1) hG hL hi8 (by omega)) hL (by assumption) rfl (by omega) (Nat.le_of_ble_eq_true rfl) (Nat.le_refl _) (Nat.le_refl _) ?_
    refine wp_inc5 dX10_begin_106 (by decide) rfl ?_
    refine wp_goto (tgt := 87) dX10_begin_109 (by decide) ?_
    exact WP.fg (by simp [lcle]) (ih (i + 1) _ (by omega))
def begT (C : Nat → Int32) : Nat → Int32 := kcL 3 0 (lcL (valF C 0 = 1) 8 0 C)
set_option maxHeartbeats 2000000 in
theorem tl_bg75 {G : GG} {B : Nat} {C : Nat → Int32} {E0 : Nat → va_E} {L : List Nat} {sz d : Nat} {b : Prop} [Decidable b] (hG : GOK G) (hL : rIn (wR G B) L)  (hdp : 2 ≤ d) : WP G iX10_begin d 0 0 none (Wm G B (kcL 3 0 (lcL b 8 0 C)) E0 L sz) 75 [some (.ref B), none, some (.int (bI b)), none, none, none, none] [] (Wm G B C E0 L sz) 0 0 := by
  refine wp_ald0 dX10_begin_75 ?_
  refine g_World_locks dX10_begin_76 fX10_32 hL ?_
  refine wp_ast3 dX10_begin_79 (by decide) rfl ?_
  refine wp_ald3 dX10_begin_80 ?_
  refine l_locks dX10_begin_81 hG hL ?_
  refine wp_ist4 dX10_begin_82 (by decide) rfl ?_
  refine wp_iconst (v := 0) dX10_begin_84 (by decide) ?_
  refine wp_ist5 dX10_begin_85 (by decide) rfl ?_
  exact WP.fg (by simp [lcle, nI_0]) (lp_bg2 hG hL hdp 8 0 C rfl)
set_option maxHeartbeats 2000000 in
theorem tl_bg57 {G : GG} {B : Nat} {C : Nat → Int32} {E0 : Nat → va_E} {L : List Nat} {sz d : Nat}  (hG : GOK G) (hL : rIn (wR G B) L)  (hdp : 2 ≤ d) : WP G iX10_begin d 0 0 none (Wm G B (begT C) E0 L sz) 57 [some (.ref B), none, none, none, none, none, none] [] (Wm G B C E0 L sz) 0 0 := by
  refine wp_ald0 dX10_begin_57 ?_
  refine g_World_settings dX10_begin_58 fX10_12 hL ?_
  refine wp_iconst (v := 0) dX10_begin_61 (by decide) ?_
  refine vi_Settings1 dX10_begin_62 kX10_69 (ct_valueOf (d := d - 1) hG hL) hL rfl (by omega) (Nat.le_of_ble_eq_true rfl) (Nat.le_refl _) (Nat.le_refl _) ?_
  refine wp_iconst (v := 1) dX10_begin_65 (by decide) ?_
  refine wp_icmp_ne (tgt := 73) dX10_begin_66 (by decide) (fun c_66 => ?_) (fun c_66 => ?_)
  · refine wp_iconst (v := 0) dX10_begin_73 (by decide) ?_
    refine wp_ist2 dX10_begin_74 (by decide) rfl ?_
    simp only [begT]
    exact WP.fg (by simp [lcle, bI, c_66]) (tl_bg75 hG hL hdp)
  · refine wp_iconst (v := 1) dX10_begin_69 (by decide) ?_
    refine wp_goto (tgt := 74) dX10_begin_70 (by decide) ?_
    refine wp_ist2 dX10_begin_74 (by decide) rfl ?_
    simp only [begT]
    exact WP.fg (by simp [lcle, bI, c_66]) (tl_bg75 hG hL hdp)
set_option maxHeartbeats 1000000 in
theorem lp_bg1 {G : GG} {B : Nat} {E0 : Nat → va_E} {L : List Nat} {sz d : Nat}  (hG : GOK G) (hL : rIn (wR G B) L)  (hdp : 2 ≤ d) (n : Nat) : ∀ (i : Nat) (C : Nat → Int32), i + n = 6 → WP G iX10_begin d 0 0 none (Wm G B (begT (scL n i C)) E0 L sz) 34 [some (.ref B), none, some (.ref (B + 4)), some (.int (nI 6)), some (.int (nI i)), none, none] [] (Wm G B C E0 L sz) 0 0 := by
  induction n with
  | zero =>
    intro i C hi
    refine wp_ild4 dX10_begin_34 ?_
    refine wp_ild3 dX10_begin_36 ?_
    refine wp_icmp_ge (tgt := 57) dX10_begin_37 (by decide) (fun c_37 => ?_) (fun c_37 => absurd (nI_le (a := 6) (b := i) (by omega) (by omega)) c_37)
    exact WP.fg (by simp [lcle]) (tl_bg57 hG hL hdp)
  | succ n ih =>
    intro i C hi
    refine wp_ild4 dX10_begin_34 ?_
    refine wp_ild3 dX10_begin_36 ?_
    refine wp_icmp_ge (tgt := 57) dX10_begin_37 (by decide) (fun c_37 => absurd c_37 (nI_ge (a := i) (b := 6) (by omega) (by omega))) (fun c_37 => ?_)
    have hi6 : i < 6 := by omega
    refine wp_ald2 dX10_begin_40 ?_
    refine wp_ild4 dX10_begin_41 ?_
    refine r_strands (i' := i) dX10_begin_43 hG hL rfl (by first | assumption | omega) ?_
    refine wp_ast5 dX10_begin_44 (by decide) rfl ?_
    refine wp_ald5 dX10_begin_46 ?_
    refine vv_Strand0 dX10_begin_48 kX10_66 (ct_sclear (d := d - 1) hG hL hi6) hL (by assumption) rfl (by omega) (Nat.le_of_ble_eq_true rfl) (Nat.le_refl _) (Nat.le_refl _) ?_
    refine wp_inc4 dX10_begin_51 (by decide) rfl ?_
    refine wp_goto (tgt := 34) dX10_begin_54 (by decide) ?_
    exact WP.fg (by simp [lcle]) (ih (i + 1) _ (by omega))
def begF (C : Nat → Int32) (T : Int32) : Nat → Int32 := begT (scL 6 0 (flL 0 9 0 (upd (upd (upd C 0 T) 9 0) 240 0)))
set_option maxHeartbeats 1000000 in
theorem ct_begin {G : GG} {B : Nat} {C : Nat → Int32} {E0 : Nat → va_E} {L : List Nat} {sz d : Nat} {T : Int32} (hG : GOK G) (hL : rIn (wR G B) L)  (hdp : 2 ≤ d) : Ct G d yX10_begin iX10_begin [.ref B, .int T] (Wm G B C E0 L sz) 0 0 none (Wm G B (begF C T) E0 L sz) := by
  refine Ct.of 5 (by decide) rfl (by decide) (Nat.le_of_ble_eq_true rfl) ?_
  show WP _ _ _ _ _ _ _ 0 [some (.ref B), some (.int T), none, none, none, none, none] [] _ 0 0
  refine wp_ald0 dX10_begin_0 ?_
  refine wp_ild1 dX10_begin_1 ?_
  refine p_World_threadCount dX10_begin_2 pX10_50 hL ?_
  refine wp_ald0 dX10_begin_5 ?_
  refine wp_iconst (v := 0) dX10_begin_6 (by decide) ?_
  refine p_World_now dX10_begin_7 pX10_54 hL ?_
  refine wp_ald0 dX10_begin_10 ?_
  refine wp_iconst (v := 0) dX10_begin_11 (by decide) ?_
  refine p_World_hashesMade dX10_begin_12 pX10_57 hL ?_
  refine wp_ald0 dX10_begin_15 ?_
  refine g_World_counts dX10_begin_16 fX10_20 hL ?_
  refine wp_iconst (v := 0) dX10_begin_19 (by decide) ?_
  refine cv_2 dX10_begin_20 kX10_60 (ct_fill (d := d - 1) hG hL) (by omega) (Nat.le_of_ble_eq_true rfl) (Nat.le_refl _) (Nat.le_refl _) ?_
  refine wp_ald0 dX10_begin_23 ?_
  refine g_World_strands dX10_begin_24 fX10_26 hL ?_
  refine wp_ast2 dX10_begin_27 (by decide) rfl ?_
  refine wp_ald2 dX10_begin_28 ?_
  refine l_strands dX10_begin_29 hG hL ?_
  refine wp_ist3 dX10_begin_30 (by decide) rfl ?_
  refine wp_iconst (v := 0) dX10_begin_31 (by decide) ?_
  refine wp_ist4 dX10_begin_32 (by decide) rfl ?_
  simp only [begF]
  exact WP.fg (by simp [lcle, nI_0]) (lp_bg1 hG hL hdp 6 0 _ rfl)

