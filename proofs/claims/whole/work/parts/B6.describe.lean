/-! describe: the object's own -/
/-- the whole memory with its builder -/
def XS (G : GG) (X : Nat) (S : Nat → Nat → Int32) (b m : Nat) (t : List Nat) (M : Mem) : Prop := (∀ i, i < 13 → At (xr G X i) (S i) M.2.1) ∧ XIn X M.1 ∧ X + 256 ≤ M.2.2 ∧ (b = X + 123 ∨ X + 256 ≤ b) ∧ SB G (X + 122) b m t M
section XD
variable {G : GG} {X b m b1 m1 : Nat} {S : Nat → Nat → Int32} {t t1 : List Nat} {M M1 : Mem}
theorem XS.x (h : XS G X S b m t M) : M.2.1 X = xCell X := by
  have := h.1 0 (by decide)
  unfold At at this
  rw [← this]
  exact rE_at (r := xR X) (j := 0) (by show 0 < 1; omega)
theorem XS.nx (h : XS G X S b m t M) (x : Sx (X + 122) M b m M1 b1 m1) (hs : SB G (X + 122) b1 m1 t1 M1) : XS G X S b1 m1 t1 M1 := by
  obtain ⟨h1, h2, h3, h4, h5⟩ := h
  refine ⟨x.1.xm h4 h3 h1, fun j hj => x.1.1 _ (h2 j hj), Nat.le_trans h3 x.1.2.1, ?_, hs⟩
  rcases x.2.1 with e | e
  · rw [e]; exact h4
  · right; omega
theorem XS.w (h : XS G X S b m t M) : WSB G (X + 1) (S 1) (X + 122) b M := by
  obtain ⟨h1, h2, h3, h4, h5⟩ := h
  exact ⟨h2.r (G := G) (i := 1) (by decide), h1 1 (by decide), by omega, by omega, by omega⟩
end XD
set_option maxHeartbeats 2000000 in
theorem cX_describe {G : GG} {X b m d o : Nat} {S : Nat → Nat → Int32} {t : List Nat} {M : Mem} {k : Int32} {fm : Value} {la : Nat → Nat} (hG : GOK G) (hN : GNS G fm) (hg : GDg G) (hK : GLk G la) (ho : o < 8) (hk : 0 ≤ k) (hD : DCK (S 1) o) (h : XS G X S b m t M) (hdp : 9 ≤ d) : ∃ M1 b1 m1, Ct G d yX11_describe iX11_describe [.ref X, .int (nI o), .int k] M (m1 - m) (2 * (m1 - m)) (some (.int (if nI (pdT (S 1) o (bOK (S 1) o)).length ≤ k then -8 else nI ((pdT (S 1) o (bOK (S 1) o)).getD (nt k) 0)))) M1 ∧ XS G X S b1 m1 (pdT (S 1) o (bOK (S 1) o)) M1 ∧ m ≤ m1 := by
  obtain ⟨M1, b1, m1, ct1, s1, x1⟩ := sx_setLen (d := d - 1) (fm := fm) hG h.2.2.2.2 (by omega)
  have h1 := h.nx x1 s1
  have le1 := x1.2.2
  obtain ⟨M2, b2, m2, ct2, s2, x2⟩ := sx_putDesc (d := d - 1) (q := bOK (S 1) o) hG hN hg hK ho hD s1 h1.w (by omega)
  have h2 := h1.nx x2 s2
  have le2 := x2.2.2
  refine ⟨M2, b2, m2, ?_, h2, by omega⟩
  have w0 := h.w
  have w1 := h1.w
  obtain ⟨fs0, hA0, hE0⟩ := h.2.2.2.2.obj
  obtain ⟨fs2, hA2, hE2⟩ := s2.obj
  have hv : isO (nI o) := ⟨nI_pos (by omega), nI_ge (a := o) (b := 8) ho (by decide)⟩
  have x0 := h.2.1 0 (by omega)
  have x01 := h1.2.1 0 (by omega)
  have x02 := h2.2.1 0 (by omega)
  refine Ct.of 1 (by decide) rfl (by decide) (Nat.le_of_ble_eq_true rfl) ?_
  show WP _ _ _ _ _ _ _ 0 [some (.ref X), some (.int (nI o)), some (.int k), none] [] _ 0 0
  refine wp_ild1 dX11_describe_0 ?_
  refine ci_1 dX11_describe_1 kX11_134 (ct_isObject (d := d - 1)) (by omega) (Nat.le_of_ble_eq_true rfl) (by omega) (by omega) ?_
  refine wp_ifB_ne (tgt := 10) dX11_describe_4 (by decide) (fun c_4 => ?_) (fun c_4 => absurd hv c_4)
  refine wp_ild2 dX11_describe_10 ?_
  refine wp_if_ge (tgt := 17) dX11_describe_11 (by decide) (fun c_11 => ?_) (fun c_11 => absurd hk c_11)
  refine wp_ald0 dX11_describe_17 ?_
  refine wp_get dX11_describe_18 fX11_10 x0 h.x rfl ?_
  refine WP.to (At.rm w0.2.1).symm ?_
  refine g_World_locks dX11_describe_21 fX11_119 w0.1 ?_
  refine wp_ild1 dX11_describe_24 ?_
  refine r_locks (i' := o) dX11_describe_25 hG w0.1 rfl ho ?_
  refine WP.to (At.rm w0.2.1) ?_
  refine wp_ast3 dX11_describe_26 (by decide) rfl ?_
  refine wp_ald0 dX11_describe_27 ?_
  refine wp_get dX11_describe_28 fX11_42 x0 h.x rfl ?_
  refine wp_iconst (v := 0) dX11_describe_31 (by decide) ?_
  refine wp_callV (As := [.int 0]) dX11_describe_32 kX11_166 ct1 hA0 hE0 rfl rfl (by omega) (by omega) (by omega) rfl (Nat.le_of_ble_eq_true rfl) ?_
  refine wp_ald3 dX11_describe_35 ?_
  refine wp_ald0 dX11_describe_36 ?_
  refine wp_get dX11_describe_37 fX11_42 x01 h1.x rfl ?_
  refine wp_ald0 dX11_describe_40 ?_
  refine wp_get dX11_describe_41 fX11_10 x01 h1.x rfl ?_
  refine wp_ald3 dX11_describe_44 ?_
  refine WP.to (At.rm w1.2.1).symm ?_
  refine vi_World1 dX11_describe_45 kX11_147 (ct_biasIsValid (d := d - 1) hG w1.1 ho) w1.1 rfl (by omega) (Nat.le_of_ble_eq_true rfl) (by omega) (by omega) ?_
  refine v_Lock (As := [.ref (X + 122), .int (bI (bOK (S 1) o))]) dX11_describe_48 kX11_169 (Ct.to (At.rm w1.2.1).symm ct2) w1.1 ho rfl rfl (by omega) (by omega) (by omega) rfl (Nat.le_of_ble_eq_true rfl) ?_
  refine wp_ild2 dX11_describe_51 ?_
  refine wp_ald0 dX11_describe_52 ?_
  refine wp_get dX11_describe_53 fX11_42 x02 h2.x rfl ?_
  refine wp_callV (As := []) dX11_describe_56 kX11_173 (sx_length (d := d - 1) s2 (by omega)) hA2 hE2 rfl rfl (by omega) (by omega) (by omega) rfl (Nat.le_of_ble_eq_true rfl) ?_
  refine wp_icmp_lt (tgt := 65) dX11_describe_59 (by decide) (fun c_59 => ?_) (fun c_59 => ?_)
  · have hlen : (pdT (S 1) o (bOK (S 1) o)).length < 2 ^ 31 := by
      obtain ⟨f, ml, -, -, -, ⟨l1, l2⟩, -⟩ := s2
      omega
    obtain ⟨e1, e2⟩ := nat_of (Int32.not_lt.mpr hk) (Int32.not_le.mpr c_59) hlen
    have e1 : k = nI (nt k) := e1
    have e2 : nt k < (pdT (S 1) o (bOK (S 1) o)).length := e2
    rw [if_neg (Int32.not_le.mpr c_59)]
    obtain ⟨i, i1, i2, i3⟩ : ∃ i, k = nI i ∧ i < (pdT (S 1) o (bOK (S 1) o)).length ∧ nt k = i := ⟨nt k, e1, e2, rfl⟩
    rw [i3]
    clear e1 e2 i3
    subst i1
    refine wp_ald0 dX11_describe_65 ?_
    refine wp_get dX11_describe_66 fX11_42 x02 h2.x rfl ?_
    refine wp_ild2 dX11_describe_69 ?_
    refine wp_callV (As := [.int (nI i)]) dX11_describe_70 kX11_176 (sx_charAt (d := d - 1) hG hN s2 i2 (by omega)) hA2 hE2 rfl rfl (by omega) (by omega) (by omega) rfl (Nat.le_of_ble_eq_true rfl) ?_
    exact wp_iret dX11_describe_73 rfl (by omega) (by omega) rfl rfl
  · rw [if_pos (Int32.not_lt.mp c_59)]
    refine wp_bipush (v := (-8)) dX11_describe_62 (by decide) ?_
    exact wp_iret dX11_describe_64 rfl (by omega) (by omega) rfl rfl
