/-! the constructors of a slot, of the class and of the reference -/
abbrev W1 : Nat → Int32 := begF wC0 3
abbrev Z0 : Nat → Int32 := fun _ => 0
theorem vu_comm {α : Type} {f : Nat → α} {a b : Nat} {e e' : α} (h : a ≠ b) : va_up (va_up f a e) b e' = va_up (va_up f b e') a e := by
  funext j
  by_cases c : j = b
  · subst c; rw [vu_eq, vu_ne (fun q => h q.symm), vu_eq]
  · rw [vu_ne c]
    by_cases q : j = a
    · subst q; rw [vu_eq, vu_eq]
    · rw [vu_ne q, vu_ne q, vu_ne c]
theorem ly {k : Nat} {o : va_E} {g h : Nat → va_E} (hk : 0 < k) : jn k (va_up g 0 o) h = va_up (jn k g h) 0 o := by
  funext j
  by_cases c : j = 0
  · subst c; rw [jn_l hk, vu_eq, vu_eq]
  · rw [vu_ne c]
    by_cases q : j < k
    · rw [jn_l q, jn_l q, vu_ne c]
    · unfold jn
      rw [if_neg q, if_neg q]
theorem fm_callN {G : GG} {mi : MI} {d mc ms : Nat} {res : Option Value} {M' : Mem} {pc : Nat} {lc : List (Option Value)} {st : List Value} {M : Mem} {k n k0 k2 : Nat} {f : Nat → va_E} {idx np d' mc' ms' k1 : Nat} {y : MethodName} {mj : MI} {As rest : List Value} {b : va_E} {g : Nat → va_E} (hk2 : k0 + k1 = k2) (hd : decode mi.2.1 pc = .ok (.invokespecial idx, 3)) (hk : CallI mi.1 idx y mj np) (hct : Ct G d' y mj (.ref (Fm M k0 f).2.2 :: As) (pushM (Fm M k0 f) b) mc' ms' none (Fm (Fm M k0 f) k1 g)) (hn : As.length = np) (hdd : d' + 1 ≤ d) (hmc : k + mc' ≤ mc) (hms : n + ms' ≤ ms) (hst : st = As.reverse ++ .ref (M.2.2 + k0) :: rest) (hsum : (rest.map fun v => v.category).sum ≤ 8) (kk : WP G mi d mc ms res M' (pc + 3) lc rest (Fm M k2 (jn k0 f g)) (k + mc') (n + ms')) : WP G mi d mc ms res M' pc lc st (pushM (Fm M k0 f) b) k n := by
  subst hk2
  exact fm_callI hd hk hct hn hdd hmc hms hst hsum kk
def slC (G : GG) (b : Nat) : Nat → va_E := va_up (jn 57 (jn 1 (fun _ => .inr (7, [.null, .null, .int 0])) (rc (wR G (b + 1)) W1)) (rc (jR G (b + 57)) Z0)) 0 (.inr (7, [.ref (b + 1), .ref (b + 57), .int 0]))
section OB
variable {G : GG} {d mc ms : Nat} {res : Option Value} {M' M : Mem} {k n i : Nat} {aL aG aF aP : Nat} {fm : Value}
theorem Fm.st {e : va_E} : Fm M 1 (fun _ => e) = Fm M 1 (va_up (fun _ => e) 0 e) := Fm.cg fun j hj => by
  have : j = 0 := by omega
  subst this
  rw [vu_eq]
set_option maxHeartbeats 1000000 in
theorem ci_Slot (hG : GOK G) (hZ : GSt G aL aG aF aP) (hdp : 4 ≤ d) : Ct G d yX7_init iX7_init [.ref M.2.2] (pushM M (.inr (7, [.null, .null, .int 0]))) 61 557 none (Fm M 62 (slC G M.2.2)) := by
  refine Ct.of 0 (by decide) rfl (by decide) (Nat.le_of_ble_eq_true rfl) ?_
  show WP _ _ _ _ _ _ _ 0 [some (.ref M.2.2)] [] _ 0 0
  rw [Fm.one, Fm.st]
  refine wp_ald0 dX7_init_0 ?_
  refine wp_objInit dX7_init_1 kX7_1 mw_oi1 mw_oi2 (by omega) (Nat.le_of_ble_eq_true rfl) ?_
  refine wp_ald0 dX7_init_4 ?_
  refine wp_new dX7_init_5 nX7_7 (by decide) (by decide) ?_
  refine wp_dup dX7_init_8 rfl ?_
  refine fm_callN (k2 := 57) (As := []) rfl dX7_init_9 kX7_9 (ci_World (d := d - 1) hG hZ (by omega)) rfl (by omega) (by decide) (by decide) rfl (Nat.le_of_ble_eq_true rfl) ?_
  rw [ly (by decide)]
  refine fm_putF (j := 0) rfl dX7_init_12 pX7_10 rfl (by decide) vu_eq (Nat.le_of_ble_eq_true rfl) rfl rfl ?_
  rw [vu_twice]
  refine wp_ald0 dX7_init_15 ?_
  refine wp_new dX7_init_16 nX7_16 (by decide) (by decide) ?_
  refine wp_dup dX7_init_19 rfl ?_
  refine fm_callN (k2 := 62) (As := []) rfl dX7_init_20 kX7_18 (ci_Journal (d := d - 1) hG (by omega)) rfl (by omega) (by decide) (by decide) rfl (Nat.le_of_ble_eq_true rfl) ?_
  rw [ly (by decide)]
  refine fm_putF (j := 0) rfl dX7_init_23 pX7_19 rfl (by decide) vu_eq (Nat.le_of_ble_eq_true rfl) rfl rfl ?_
  rw [vu_twice]
  exact wp_vret dX7_init_26 rfl (by decide) (by decide) rfl rfl
def xsC (G : GG) (X : Nat) : Nat → va_E := va_up (va_up (jn 186 (jn 124 (va_up (va_up (jn 118 (jn 113 (jn 57 (jn 1 (fun _ => .inr (10, [.null, .null, .null, .null, .null, .null])) (rc (wR G (X + 1)) W1)) (rc (wR G (X + 57)) W1)) (rc (jR G (X + 113)) Z0)) (rc (pR G (X + 118)) Z0)) 122 (.inr (0, [.ref (X + 123), .int 0, .int 0, .int 0]))) 123 (.inl (cyB G, 16, .inl (fun _ => 0)))) (slC G (X + 124))) (slC G (X + 186))) 121 (rc (yR G X) Z0 0)) 0 (.inr (10, [.ref (X + 1), .ref (X + 57), .ref (X + 113), .ref (X + 118), .ref (X + 121), .ref (X + 122)]))
set_option maxHeartbeats 4000000 in
theorem ci_Sim (hG : GOK G) (hZ : GSt G aL aG aF aP) (hNS : GNS G fm) (hdp : 5 ≤ d) : Ct G d yX11_init iX11_init [.ref M.2.2] (pushM M (.inr (10, [.null, .null, .null, .null, .null, .null]))) 247 2218 none (Fm M 248 (xsC G M.2.2)) := by
  refine Ct.of 1 (by decide) rfl (by decide) (Nat.le_of_ble_eq_true rfl) ?_
  show WP _ _ _ _ _ _ _ 0 [some (.ref M.2.2), none] [] _ 0 0
  rw [Fm.one, Fm.st]
  refine wp_ald0 dX11_init_0 ?_
  refine wp_objInit dX11_init_1 kX11_1 mw_oi1 mw_oi2 (by omega) (Nat.le_of_ble_eq_true rfl) ?_
  refine wp_ald0 dX11_init_4 ?_
  refine wp_new dX11_init_5 nX11_7 (by decide) (by decide) ?_
  refine wp_dup dX11_init_8 rfl ?_
  refine fm_callN (k2 := 57) (As := []) rfl dX11_init_9 kX11_9 (ci_World (d := d - 1) hG hZ (by omega)) rfl (by omega) (by decide) (by decide) rfl (Nat.le_of_ble_eq_true rfl) ?_
  rw [ly (by decide)]
  refine fm_putF (j := 0) rfl dX11_init_12 pX11_10 rfl (by decide) vu_eq (Nat.le_of_ble_eq_true rfl) rfl rfl ?_
  rw [vu_twice]
  refine wp_ald0 dX11_init_15 ?_
  refine wp_new dX11_init_16 nX11_7 (by decide) (by decide) ?_
  refine wp_dup dX11_init_19 rfl ?_
  refine fm_callN (k2 := 113) (As := []) rfl dX11_init_20 kX11_9 (ci_World (d := d - 1) hG hZ (by omega)) rfl (by omega) (by decide) (by decide) rfl (Nat.le_of_ble_eq_true rfl) ?_
  rw [ly (by decide)]
  refine fm_putF (j := 0) rfl dX11_init_23 pX11_16 rfl (by decide) vu_eq (Nat.le_of_ble_eq_true rfl) rfl rfl ?_
  rw [vu_twice]
  refine wp_ald0 dX11_init_26 ?_
  refine wp_new dX11_init_27 nX11_19 (by decide) (by decide) ?_
  refine wp_dup dX11_init_30 rfl ?_
  refine fm_callN (k2 := 118) (As := []) rfl dX11_init_31 kX11_21 (ci_Journal (d := d - 1) hG (by omega)) rfl (by omega) (by decide) (by decide) rfl (Nat.le_of_ble_eq_true rfl) ?_
  rw [ly (by decide)]
  refine fm_putF (j := 0) rfl dX11_init_34 pX11_22 rfl (by decide) vu_eq (Nat.le_of_ble_eq_true rfl) rfl rfl ?_
  rw [vu_twice]
  refine wp_ald0 dX11_init_37 ?_
  refine wp_new dX11_init_38 nX11_26 (by decide) (by decide) ?_
  refine wp_dup dX11_init_41 rfl ?_
  refine fm_callN (k2 := 121) (As := []) rfl dX11_init_42 kX11_28 (ci_Script (d := d - 1) hG (by omega)) rfl (by omega) (by decide) (by decide) rfl (Nat.le_of_ble_eq_true rfl) ?_
  rw [ly (by decide)]
  refine fm_putF (j := 0) rfl dX11_init_45 pX11_29 rfl (by decide) vu_eq (Nat.le_of_ble_eq_true rfl) rfl rfl ?_
  rw [vu_twice]
  refine wp_ald0 dX11_init_48 ?_
  refine wp_iconst (v := 2) dX11_init_49 (by decide) ?_
  refine fm_anew (N := 2) hG.2.2.2.2.2 dX11_init_50 aX11_33 (by decide) rfl (by decide) (by decide) (by decide) ?_
  rw [show 121 + 1 = 122 from rfl, vu_comm (by decide)]
  refine fm_putF (j := 0) rfl dX11_init_53 pX11_35 rfl (by decide) vu_eq (Nat.le_of_ble_eq_true rfl) rfl rfl ?_
  rw [vu_twice]
  refine wp_ald0 dX11_init_56 ?_
  refine wp_new dX11_init_57 nX11_39 (by decide) (by decide) ?_
  refine wp_dup dX11_init_60 rfl ?_
  rw [Fm.push, show 122 + 1 = 123 from rfl]
  refine wp_callI (As := []) (d' := d - 1) dX11_init_61 kX11_41 (sx_init (A := M.2.2 + 122) hG hNS (Fm.mem (j := 122) rfl (by decide)) (by show M.2.2 + 122 < M.2.2 + _; omega) (Fm.get (j := 122) rfl (by decide)) (by omega)) rfl (by omega) (by decide) (by decide) rfl (Nat.le_of_ble_eq_true rfl) ?_
  rw [Fm.push, show 123 + 1 = 124 from rfl, Fm.up (j := 122) rfl (by decide)]
  refine fm_putF (j := 0) rfl dX11_init_64 pX11_42 rfl (by decide) rfl (Nat.le_of_ble_eq_true rfl) rfl rfl ?_
  refine wp_iconst (v := 0) dX11_init_67 (by decide) ?_
  refine wp_ist1 dX11_init_68 (by decide) rfl ?_
  refine wp_ild1 dX11_init_69 ?_
  refine wp_iconst (v := 2) dX11_init_70 (by decide) ?_
  refine wp_icmp_ge (tgt := 93) dX11_init_71 (by decide) (fun c => absurd c (by decide)) (fun _ => ?_)
  refine wp_ald0 dX11_init_74 ?_
  refine fm_get (j := 0) dX11_init_75 fX11_35 rfl (by decide) rfl rfl ?_
  refine wp_ild1 dX11_init_78 ?_
  refine wp_new dX11_init_79 nX11_33 (by decide) (by decide) ?_
  refine wp_dup dX11_init_82 rfl ?_
  refine fm_callN (k2 := 186) (As := []) rfl dX11_init_83 kX11_46 (ci_Slot (d := d - 1) hG hZ (by omega)) rfl (by omega) (by decide) (by decide) rfl (Nat.le_of_ble_eq_true rfl) ?_
  refine fm_aast (j := 121) (jb := 124) (ci := 7) (i' := 0) (z := 2) (r := (RX7, TX7, 3)) dX11_init_86 hG.2.2.2.2.2 rfl (by decide) rfl rfl (by decide) rfl rfl rfl (by decide) (by decide) ?_
  refine wp_inc1 (x := 0) dX11_init_87 (by decide) rfl ?_
  refine wp_goto (tgt := 69) dX11_init_90 (by decide) ?_
  refine wp_ild1 dX11_init_69 ?_
  refine wp_iconst (v := 2) dX11_init_70 (by decide) ?_
  refine wp_icmp_ge (tgt := 93) dX11_init_71 (by decide) (fun c => absurd c (by decide)) (fun _ => ?_)
  refine wp_ald0 dX11_init_74 ?_
  refine fm_get (j := 0) dX11_init_75 fX11_35 rfl (by decide) rfl rfl ?_
  refine wp_ild1 dX11_init_78 ?_
  refine wp_new dX11_init_79 nX11_33 (by decide) (by decide) ?_
  refine wp_dup dX11_init_82 rfl ?_
  refine fm_callN (k2 := 248) (As := []) rfl dX11_init_83 kX11_46 (ci_Slot (d := d - 1) hG hZ (by omega)) rfl (by omega) (by decide) (by decide) rfl (Nat.le_of_ble_eq_true rfl) ?_
  refine fm_aast (j := 121) (jb := 186) (ci := 7) (i' := 1) (z := 2) (r := (RX7, TX7, 3)) dX11_init_86 hG.2.2.2.2.2 rfl (by decide) rfl rfl (by decide) rfl rfl rfl (by decide) (by decide) ?_
  refine wp_inc1 (x := 1) dX11_init_87 (by decide) rfl ?_
  refine wp_goto (tgt := 69) dX11_init_90 (by decide) ?_
  refine wp_ild1 dX11_init_69 ?_
  refine wp_iconst (v := 2) dX11_init_70 (by decide) ?_
  refine wp_icmp_ge (tgt := 93) dX11_init_71 (by decide) (fun _ => ?_) (fun c => absurd (by decide) c)
  refine WP.fwk (g := xsC G M.2.2) (fun j hj => ?_) ?_
  · by_cases h121 : j = 121
    · subst h121
      exact Or.inr ⟨cyT G, 2, _, _, rfl, rfl, fun t ht => match t, ht with
        | 0, _ => rfl
        | 1, _ => rfl⟩
    · by_cases h0 : j = 0
      · subst h0; exact Or.inl rfl
      · left
        unfold xsC
        rw [vu_ne h121, vu_ne h0, vu_ne h121]
        by_cases c1 : j < 186
        · rw [jn_l c1, jn_l c1, vu_ne h121]
          by_cases c2 : j < 124
          · rw [jn_l c2, jn_l c2, vu_ne h0]
            by_cases c3 : j = 123
            · subst c3; rfl
            · by_cases c4 : j = 122
              · subst c4; rfl
              · rw [vu_ne c4, vu_ne c3, vu_ne c4, vu_ne h0, vu_ne h121, vu_ne c3, vu_ne c4]
                rfl
          · obtain ⟨q, rfl⟩ := Nat.exists_eq_add_of_le (Nat.not_lt.mp c2)
            rw [jn_r, jn_r]
            rfl
        · obtain ⟨q, rfl⟩ := Nat.exists_eq_add_of_le (Nat.not_lt.mp c1)
          rw [jn_r, jn_r]
          rfl
  exact wp_vret dX11_init_93 rfl (by decide) (by decide) rfl rfl
end OB
