/-! a call of both, with the builder -/
theorem sE_out {R : Nat → Rg} {S : Nat → Nat → Int32} {E : Nat → va_E} {a : Nat} : ∀ n, (∀ i, i < n → ¬ ((R i).2.2.1 ≤ a ∧ a < (R i).2.2.1 + (R i).2.2.2)) → sE R S E n a = E a
  | 0, _ => rfl
  | n + 1, h => by
    show rE (R n) (S n) (sE R S E n) a = E a
    rw [rE_out (h n (by omega)), sE_out n (fun i hi => h i (by omega))]
theorem xr_out {G : GG} {X a : Nat} (h : a = X + 122 ∨ a = X + 123 ∨ X + 256 ≤ a) : ∀ i, i < 13 → ¬ ((xr G X i).2.2.1 ≤ a ∧ a < (xr G X i).2.2.1 + (xr G X i).2.2.2) := by
  intro i hi
  have key : ∀ i, i < 13 → xlo i + xsz i ≤ 256 ∧ (xlo i + xsz i ≤ 122 ∨ 124 ≤ xlo i) := by decide
  obtain ⟨k1, k2⟩ := key i hi
  rw [(xr_lo hi).1, (xr_lo hi).2]
  omega
theorem XS.st {G : GG} {X b m : Nat} {S S' : Nat → Nat → Int32} {t : List Nat} {M : Mem} (h : XS G X S b m t M) : XS G X S' b m t (Xm G X S' M.2.1 M.1 M.2.2) := by
  obtain ⟨h1, h2, h3, h4, f, ml, g1, g2, g3, g4⟩ := h
  refine ⟨fun i hi => Xm_at hi, h2, h3, h4, f, ml, g1, ?_, ?_, g4⟩
  · exact (sE_out 13 (xr_out (Or.inl rfl))).trans g2
  · exact (sE_out 13 (xr_out (by omega))).trans g3
/-- both answer the same, and stay the same: over a memory -/
def Sty (G : GG) (X d : Nat) (S : Nat → Nat → Int32) (b m : Nat) (M : Mem) (n r : Nat) (yc : MethodName) (ic : MI) (ym : MethodName) (im : MI) (as : List Value) : Prop := ∃ (M1 M' : Mem) (S' : Nat → Nat → Int32) (b' m' : Nat) (t' : List Nat) (v : Int32), Ct G d yc ic (.ref X :: as) M (m' - m) (2 * (m' - m)) (some (.int v)) M1 ∧ Ct G d ym im (.ref (X + 248) :: as) M1 0 0 (some (.int v)) M' ∧ XS G X S' b' m' t' M' ∧ SR S' (n + 100) (r + 20000) ∧ m ≤ m' ∧ ∃ S1 b1 t1, XS G X S1 b1 m' t1 M1
theorem Sty.of {G : GG} {X d b m n r : Nat} {S : Nat → Nat → Int32} {t : List Nat} {M : Mem} {yc ym : MethodName} {ic im : MI} {as : List Value} (h : XS G X S b m t M) (hs : Stq G X M.2.1 M.1 M.2.2 d S n r yc ic ym im as) : Sty G X d S b m M n r yc ic ym im as := by
  obtain ⟨S1, S', v, c1, c2, c3⟩ := hs
  have e := Xm_self (S := S) h.1
  refine ⟨Xm G X S1 M.2.1 M.1 M.2.2, Xm G X S' M.2.1 M.1 M.2.2, S', b, m, t, v, ?_, c2, h.st, c3, Nat.le_refl _, S1, b, t, h.st⟩
  rw [Nat.sub_self]
  exact Ct.to e.symm c1
