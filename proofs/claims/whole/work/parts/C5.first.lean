/-! the reference's constructor; the first memory -/
def mC0 : Nat → Int32 := upd (upd (upd (upd (upd (upd (upd (fun _ => 0) 0 3) 1 1) 3 4) 4 8) 5 3) 6 5) 7 4
abbrev M1c : Nat → Int32 := begM mC0 3
section MC
variable {G : GG} {d : Nat} {M : Mem}
theorem Fm_M {C : Nat → Int32} : Fm M 8 (rc (mR G M.2.2) C) = Mm G M.2.2 C M.2.1 (M.1 ++ List.range' M.2.2 8) (M.2.2 + 8) := rfl
set_option maxHeartbeats 1000000 in
theorem ci_Model (hG : GOK G) (hdp : 1 ≤ d) : Ct G d yX12_init iX12_init [.ref M.2.2] (pushM M (.inr (11, [.null, .null, .null, .null, .int 0, .null, .int 0, .null, .int 0, .null, .int 0, .int 0]))) 7 3210 none (Fm M 8 (rc (mR G M.2.2) M1c)) := by
  refine Ct.of 0 (by decide) rfl (by decide) (Nat.le_of_ble_eq_true rfl) ?_
  show WP _ _ _ _ _ _ _ 0 [some (.ref M.2.2)] [] _ 0 0
  rw [Fm.one]
  refine wp_ald0 dX12_init_0 ?_
  refine wp_objInit dX12_init_1 kX12_1 mw_oi1 mw_oi2 hdp (Nat.le_of_ble_eq_true rfl) ?_
  refine wp_ald0 dX12_init_4 ?_
  refine wp_sipush (v := 482) dX12_init_5 (by decide) ?_
  refine fm_newI (N := 482) hG dX12_init_8 rfl (by decide) (by decide) (by decide) ?_
  refine fm_putF (j := 0) rfl dX12_init_10 pX12_7 rfl (by decide) rfl (Nat.le_of_ble_eq_true rfl) rfl rfl ?_
  refine wp_ald0 dX12_init_13 ?_
  refine wp_sipush (v := 482) dX12_init_14 (by decide) ?_
  refine fm_newI (N := 482) hG dX12_init_17 rfl (by decide) (by decide) (by decide) ?_
  refine fm_putF (j := 0) rfl dX12_init_19 pX12_13 rfl (by decide) rfl (Nat.le_of_ble_eq_true rfl) rfl rfl ?_
  refine wp_ald0 dX12_init_22 ?_
  refine wp_sipush (v := 482) dX12_init_23 (by decide) ?_
  refine fm_newI (N := 482) hG dX12_init_26 rfl (by decide) (by decide) (by decide) ?_
  refine fm_putF (j := 0) rfl dX12_init_28 pX12_16 rfl (by decide) rfl (Nat.le_of_ble_eq_true rfl) rfl rfl ?_
  refine wp_ald0 dX12_init_31 ?_
  refine wp_sipush (v := 964) dX12_init_32 (by decide) ?_
  refine fm_newI (N := 964) hG dX12_init_35 rfl (by decide) (by decide) (by decide) ?_
  refine fm_putF (j := 0) rfl dX12_init_37 pX12_19 rfl (by decide) rfl (Nat.le_of_ble_eq_true rfl) rfl rfl ?_
  refine wp_ald0 dX12_init_40 ?_
  refine wp_sipush (v := 200) dX12_init_41 (by decide) ?_
  refine fm_newI (N := 200) hG dX12_init_44 rfl (by decide) (by decide) (by decide) ?_
  refine fm_putF (j := 0) rfl dX12_init_46 pX12_22 rfl (by decide) rfl (Nat.le_of_ble_eq_true rfl) rfl rfl ?_
  refine wp_ald0 dX12_init_49 ?_
  refine wp_sipush (v := 200) dX12_init_50 (by decide) ?_
  refine fm_newI (N := 200) hG dX12_init_53 rfl (by decide) (by decide) (by decide) ?_
  refine fm_putF (j := 0) rfl dX12_init_55 pX12_25 rfl (by decide) rfl (Nat.le_of_ble_eq_true rfl) rfl rfl ?_
  refine wp_ald0 dX12_init_58 ?_
  refine wp_sipush (v := 400) dX12_init_59 (by decide) ?_
  refine fm_newI (N := 400) hG dX12_init_62 rfl (by decide) (by decide) (by decide) ?_
  refine fm_putF (j := 0) rfl dX12_init_64 pX12_28 rfl (by decide) rfl (Nat.le_of_ble_eq_true rfl) rfl rfl ?_
  refine WP.to (M2 := Fm M 8 (rc (mR G M.2.2) Z0)) (Fm.cg (k := 8) fun j hj => ?_) ?_
  · match j, hj with
    | 0, _ => rfl
    | 1, _ => exact inst_z.symm
    | 2, _ => exact inst_z.symm
    | 3, _ => exact inst_z.symm
    | 4, _ => exact inst_z.symm
    | 5, _ => exact inst_z.symm
    | 6, _ => exact inst_z.symm
    | 7, _ => exact inst_z.symm
  rw [Fm_M]
  have hL : rIn (mR G M.2.2) (M.1 ++ List.range' M.2.2 8) := fun j hj => List.mem_append_right _ (List.mem_range'_1.mpr ⟨Nat.le_add_right _ _, Nat.add_lt_add_left hj _⟩)
  refine wp_ald0 dX12_init_67 ?_
  refine rg_getS (r := mR G M.2.2) (j := 0) dX12_init_68 fX12_7 rfl hL (show 0 < 8 by decide) rfl rfl ?_
  refine wp_iconst (v := 0) dX12_init_71 (by decide) ?_
  refine wp_iconst (v := 3) dX12_init_72 (by decide) ?_
  refine rg_iast (r := mR G M.2.2) (j := 1) (i' := 0) (q := 0) dX12_init_73 hG.1 rfl (mR_ok G _) hL (show 1 < 8 by decide) rfl rfl (by decide) (by decide) rfl ?_
  refine wp_ald0 dX12_init_74 ?_
  refine rg_getS (r := mR G M.2.2) (j := 0) dX12_init_75 fX12_7 rfl hL (show 0 < 8 by decide) rfl rfl ?_
  refine wp_iconst (v := 1) dX12_init_78 (by decide) ?_
  refine wp_iconst (v := 1) dX12_init_79 (by decide) ?_
  refine rg_iast (r := mR G M.2.2) (j := 1) (i' := 1) (q := 1) dX12_init_80 hG.1 rfl (mR_ok G _) hL (show 1 < 8 by decide) rfl rfl (by decide) (by decide) rfl ?_
  refine wp_ald0 dX12_init_81 ?_
  refine rg_getS (r := mR G M.2.2) (j := 0) dX12_init_82 fX12_7 rfl hL (show 0 < 8 by decide) rfl rfl ?_
  refine wp_iconst (v := 3) dX12_init_85 (by decide) ?_
  refine wp_iconst (v := 4) dX12_init_86 (by decide) ?_
  refine rg_iast (r := mR G M.2.2) (j := 1) (i' := 3) (q := 3) dX12_init_87 hG.1 rfl (mR_ok G _) hL (show 1 < 8 by decide) rfl rfl (by decide) (by decide) rfl ?_
  refine wp_ald0 dX12_init_88 ?_
  refine rg_getS (r := mR G M.2.2) (j := 0) dX12_init_89 fX12_7 rfl hL (show 0 < 8 by decide) rfl rfl ?_
  refine wp_iconst (v := 4) dX12_init_92 (by decide) ?_
  refine wp_bipush (v := 8) dX12_init_93 (by decide) ?_
  refine rg_iast (r := mR G M.2.2) (j := 1) (i' := 4) (q := 4) dX12_init_95 hG.1 rfl (mR_ok G _) hL (show 1 < 8 by decide) rfl rfl (by decide) (by decide) rfl ?_
  refine wp_ald0 dX12_init_96 ?_
  refine rg_getS (r := mR G M.2.2) (j := 0) dX12_init_97 fX12_7 rfl hL (show 0 < 8 by decide) rfl rfl ?_
  refine wp_iconst (v := 5) dX12_init_100 (by decide) ?_
  refine wp_iconst (v := 3) dX12_init_101 (by decide) ?_
  refine rg_iast (r := mR G M.2.2) (j := 1) (i' := 5) (q := 5) dX12_init_102 hG.1 rfl (mR_ok G _) hL (show 1 < 8 by decide) rfl rfl (by decide) (by decide) rfl ?_
  refine wp_ald0 dX12_init_103 ?_
  refine rg_getS (r := mR G M.2.2) (j := 0) dX12_init_104 fX12_7 rfl hL (show 0 < 8 by decide) rfl rfl ?_
  refine wp_bipush (v := 6) dX12_init_107 (by decide) ?_
  refine wp_iconst (v := 5) dX12_init_109 (by decide) ?_
  refine rg_iast (r := mR G M.2.2) (j := 1) (i' := 6) (q := 6) dX12_init_110 hG.1 rfl (mR_ok G _) hL (show 1 < 8 by decide) rfl rfl (by decide) (by decide) rfl ?_
  refine wp_ald0 dX12_init_111 ?_
  refine rg_getS (r := mR G M.2.2) (j := 0) dX12_init_112 fX12_7 rfl hL (show 0 < 8 by decide) rfl rfl ?_
  refine wp_bipush (v := 7) dX12_init_115 (by decide) ?_
  refine wp_iconst (v := 4) dX12_init_117 (by decide) ?_
  refine rg_iast (r := mR G M.2.2) (j := 1) (i' := 7) (q := 7) dX12_init_118 hG.1 rfl (mR_ok G _) hL (show 1 < 8 by decide) rfl rfl (by decide) (by decide) rfl ?_
  refine wp_ald0 dX12_init_119 ?_
  refine wp_iconst (v := 3) dX12_init_120 (by decide) ?_
  refine mv_1 dX12_init_121 kX12_31 (cm_begin (d := d - 1) hG hL) hL rfl (by omega) (Nat.le_of_ble_eq_true rfl) (by decide) (by decide) ?_
  exact wp_vret dX12_init_124 rfl (by decide) (by decide) rfl Fm_M.symm
end MC
/-! the first memory keeps the relation -/
def S0 (i : Nat) : Nat → Int32 := if i = 12 then M1c else if i = 1 ∨ i = 2 ∨ i = 7 ∨ i = 10 then W1 else Z0
theorem At.of {r : Rg} {F : Nat → Int32} {E : Nat → va_E} (h : ∀ j, j < r.2.2.2 → E (r.2.2.1 + j) = rc r F j) : At r F E := by
  unfold At
  funext a
  by_cases c : r.2.2.1 ≤ a ∧ a < r.2.2.1 + r.2.2.2
  · obtain ⟨j, rfl⟩ := Nat.exists_eq_add_of_le c.1
    rw [rE_at (by omega), h j (by omega)]
    rfl
  · rw [rE_out c]
theorem wm_eq : ∀ q, 1 ≤ q → q < 9 → wC0 q = mC0 q := fun q h1 h2 => (show ∀ q, q < 9 → 1 ≤ q → wC0 q = mC0 q by decide +kernel) q h2 h1
theorem SR0 : SR S0 1 0 := by
  have h12 : S0 12 = M1c := if_pos rfl
  unfold SR CR
  rw [h12]
  have h9 : M1c 9000 = 0 := (beg_hi (by omega)).trans (by decide +kernel)
  have h91 : M1c 9001 = 0 := (beg_hi (by omega)).trans (by decide +kernel)
  refine ⟨⟨Rel.beg (T := 3) wm_eq (by decide), INV.beg (T := 3) (by omega) (by omega) (by omega) (by omega) (Nat.zero_le _), OKr.beg, JR.beg rfl, fun i hi => ?_⟩, ⟨fun _ => 0, 0, ⟨rfl, by decide, fun _ _ => rfl⟩, ?_⟩, ⟨0, by decide, rfl⟩, ⟨0, by decide, ?_⟩, Or.inl ⟨rfl, ?_⟩, Or.inl ⟨rfl, ?_⟩⟩
  · have e : M1c 241 = 0 := beg0 (by omega)
    rw [e] at hi
    exact absurd hi (Nat.not_lt_zero _)
  · refine ⟨h91, Nat.zero_le _, fun k hk => ?_⟩
    rw [show M1c (5000 + k) = mC0 (5000 + k) from beg_hi (by omega)]
    unfold mC0
    rw [upd_ne (by omega), upd_ne (by omega), upd_ne (by omega), upd_ne (by omega), upd_ne (by omega), upd_ne (by omega), upd_ne (by omega)]
  · exact h9
  · rw [h9]; decide
  · rw [h9]; decide
section XF
variable {G : GG} {X j : Nat}
theorem xs_w1 (h : j < 56) : xsC G X (1 + j) = rc (wR G (X + 1)) W1 j := by
  unfold xsC
  rw [vu_ne (by omega), vu_ne (by omega), jn_l (by omega), jn_l (by omega), vu_ne (by omega), vu_ne (by omega), jn_l (by omega), jn_l (by omega), jn_l (by omega), jn_r]
theorem xs_w2 (h : j < 56) : xsC G X (57 + j) = rc (wR G (X + 57)) W1 j := by
  unfold xsC
  rw [vu_ne (by omega), vu_ne (by omega), jn_l (by omega), jn_l (by omega), vu_ne (by omega), vu_ne (by omega), jn_l (by omega), jn_l (by omega), jn_r]
theorem xs_j (h : j < 5) : xsC G X (113 + j) = rc (jR G (X + 113)) Z0 j := by
  unfold xsC
  rw [vu_ne (by omega), vu_ne (by omega), jn_l (by omega), jn_l (by omega), vu_ne (by omega), vu_ne (by omega), jn_l (by omega), jn_r]
theorem xs_p (h : j < 3) : xsC G X (118 + j) = rc (pR G (X + 118)) Z0 j := by
  unfold xsC
  rw [vu_ne (by omega), vu_ne (by omega), jn_l (by omega), jn_l (by omega), vu_ne (by omega), vu_ne (by omega), jn_r]
theorem xs_s1 (h : j < 62) : xsC G X (124 + j) = slC G (X + 124) j := by
  unfold xsC
  rw [vu_ne (by omega), vu_ne (by omega), jn_l (by omega), jn_r]
theorem xs_s2 : xsC G X (186 + j) = slC G (X + 186) j := by
  unfold xsC
  rw [vu_ne (by omega), vu_ne (by omega), jn_r]
theorem sl_w {b : Nat} (h : j < 56) : slC G b (1 + j) = rc (wR G (b + 1)) W1 j := by
  unfold slC
  rw [vu_ne (by omega), jn_l (by omega), jn_r]
theorem sl_j {b : Nat} : slC G b (57 + j) = rc (jR G (b + 57)) Z0 j := by
  unfold slC
  rw [vu_ne (by omega), jn_r]
abbrev fxC (G : GG) (X : Nat) : Nat → va_E := jn 248 (xsC G X) (rc (mR G (X + 248)) M1c)
theorem XS0 {M : Mem} : XS G M.2.2 S0 (M.2.2 + 123) 16 [] (Fm M 256 (fxC G M.2.2)) := by
  have key : ∀ i, i < 13 → ∀ j, j < xsz i → fxC G M.2.2 (xlo i + j) = rc (xr G M.2.2 i) (S0 i) j := by
    intro i hi j hj
    match i, hi with
    | 0, _ =>
      have hj : j < 1 := hj
      have e : j = 0 := by omega
      subst e
      rfl
    | 1, _ => exact (jn_l (show 1 + j < 248 by have hj : j < 56 := hj; omega)).trans (xs_w1 hj)
    | 2, _ => exact (jn_l (show 57 + j < 248 by have hj : j < 56 := hj; omega)).trans (xs_w2 hj)
    | 3, _ => exact (jn_l (show 113 + j < 248 by have hj : j < 5 := hj; omega)).trans (xs_j hj)
    | 4, _ => exact (jn_l (show 118 + j < 248 by have hj : j < 3 := hj; omega)).trans (xs_p hj)
    | 5, _ =>
      have hj : j < 1 := hj
      have e : j = 0 := by omega
      subst e
      rfl
    | 6, _ =>
      have hj : j < 1 := hj
      have e : j = 0 := by omega
      subst e
      rfl
    | 7, _ =>
      have hj : j < 56 := hj
      show fxC G M.2.2 (125 + j) = _
      rw [show 125 + j = 124 + (1 + j) by omega]
      exact (jn_l (by omega)).trans ((xs_s1 (by omega)).trans (sl_w hj))
    | 8, _ =>
      have hj : j < 5 := hj
      show fxC G M.2.2 (181 + j) = _
      rw [show 181 + j = 124 + (57 + j) by omega]
      exact (jn_l (by omega)).trans ((xs_s1 (by omega)).trans sl_j)
    | 9, _ =>
      have hj : j < 1 := hj
      have e : j = 0 := by omega
      subst e
      rfl
    | 10, _ =>
      have hj : j < 56 := hj
      show fxC G M.2.2 (187 + j) = _
      rw [show 187 + j = 186 + (1 + j) by omega]
      exact (jn_l (by omega)).trans (xs_s2.trans (sl_w hj))
    | 11, _ =>
      have hj : j < 5 := hj
      show fxC G M.2.2 (243 + j) = _
      rw [show 243 + j = 186 + (57 + j) by omega]
      exact (jn_l (by omega)).trans (xs_s2.trans sl_j)
    | 12, _ => exact jn_r
  refine ⟨fun i hi => At.of fun j hj => ?_, fun j hj => Fm.mem rfl hj, Nat.le_refl _, Or.inl rfl, fun _ => 0, 0, ⟨⟨Fm.mem (j := 122) rfl (by decide), Fm.mem (j := 123) rfl (by decide)⟩, by omega, ?_, ?_⟩, Fm.get (j := 122) rfl (by decide), Fm.get (j := 123) rfl (by decide), ⟨by decide, by decide⟩, ?_, fun i hi => absurd hi (Nat.not_lt_zero _), fun c hc => absurd hc List.not_mem_nil⟩
  · rw [(xr_lo hi).2] at hj
    rw [(xr_lo hi).1, Nat.add_assoc]
    have hlt : xlo i + xsz i ≤ 256 := (show ∀ i, i < 13 → xlo i + xsz i ≤ 256 by decide) i hi
    exact (Fm.get (j := xlo i + j) rfl (by omega)).trans (key i hi j hj)
  · show M.2.2 + 122 < M.2.2 + 256; omega
  · show M.2.2 + 123 < M.2.2 + 256; omega
  · exact fun _ => rfl
end XF
section LS
variable {G : GG} {aL aG aF aP : Nat} {fm : Value} {fa la : Nat → Nat} {a N d mc ms : Nat} {xs : Nat → Int32}
/-- the law, from its first instruction -/
theorem lw_all (hG : GOK G) (hZ : GSt G aL aG aF aP) (hNS : GNS G fm) (hf : GFm G fa) (hJ : GSJ G) (hg : GDg G) (hK : GLk G la) (hsc : (FieldType.int, a, N, fun j => Value.int (xs j)) ∈ gS G) (hN : N ≤ 2048) (hd : 11 ≤ d) (hmc : 1000 ≤ mc) (hms : 10000 ≤ ms) (M : Mem) : ∃ M', WP G iL_law d mc ms (some (.int 1)) M' 0 [some (.ref a), none, none, none] [] M 0 0 := by
  obtain ⟨M', kw⟩ := lw_loop (X := M.2.2) (d := d) (mc := mc) (ms := ms) hG hZ hNS hf hJ hg hK hsc hN (by omega) 512 0 (Fm M 256 (fxC G M.2.2)) S0 (M.2.2 + 123) 16 [] 1 0 256 5446 (by omega) (by omega) XS0 SR0 (by omega) (by omega) (by omega) (by omega)
  refine ⟨M', ?_⟩
  refine wp_new dL_law_0 nL_7 (by omega) (by omega) ?_
  refine wp_dup dL_law_3 rfl ?_
  refine wp_callI (As := []) (d' := d - 1) dL_law_4 kL_9 (ci_Sim hG hZ hNS (by omega)) rfl (by omega) (by omega) (by omega) rfl (Nat.le_of_ble_eq_true rfl) ?_
  refine wp_ast1 dL_law_7 (by decide) rfl ?_
  refine wp_new dL_law_8 nL_10 (by omega) (by omega) ?_
  refine wp_dup dL_law_11 rfl ?_
  refine fm_callN (k2 := 256) (As := []) rfl dL_law_12 kL_12 (ci_Model (d := d - 1) hG (by omega)) rfl (by omega) (by omega) (by omega) rfl (Nat.le_of_ble_eq_true rfl) ?_
  refine wp_ast2 dL_law_15 (by decide) rfl ?_
  refine wp_iconst (v := 0) dL_law_16 (by decide) ?_
  refine wp_ist3 dL_law_17 (by decide) rfl ?_
  exact kw
end LS
