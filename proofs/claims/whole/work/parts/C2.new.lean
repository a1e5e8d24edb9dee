/-! new cells behind a memory -/
theorem arrV_cg {cA : ClassId} {n : Nat} {f g : Nat → Value} (h : ∀ j, j < n → f j = g j) : arrV cA n f = arrV cA n g := by
  have e : (fun j : Fin n => f j.val) = (fun j : Fin n => g j.val) := funext fun j => h j.1 j.2
  unfold arrV
  rw [e]
/-- rows of references that agree as far as they go -/
def eqE (e e' : va_E) : Prop := e = e' ∨ ∃ (cA : ClassId) (z : Nat) (f g : Nat → Option Nat), e = .inl (cA, z, .inr (.inr (.inr (.inr f)))) ∧ e' = .inl (cA, z, .inr (.inr (.inr (.inr g)))) ∧ ∀ j, j < z → f j = g j
theorem eqE_at {D : va_G} {cl : List vw_C} {a : Nat} {e e' : va_E} {H : Heap} (h : eqE e e') (ha : va_at D cl (a, e) H) : va_at D cl (a, e') H := by
  rcases h with rfl | ⟨cA, z, f, g, rfl, rfl, hj⟩
  · exact ha
  · have h1 : H[a]? = some (vp_cell cA (z, .inr (.inr (.inr (.inr f))))) := ha
    show H[a]? = some (vp_cell cA (z, .inr (.inr (.inr (.inr g)))))
    rw [h1, vp_cell_q, vp_cell_q, arrV_cg (fun j h => by rw [hj j h])]
theorem HM_eqE {G : GG} {M : Mem} {H : Heap} {E' : Nat → va_E} (h : ∀ a, eqE (M.2.1 a) (E' a)) (hM : HM G M H) : HM G (M.1, E', M.2.2) H := by
  obtain ⟨h0, h1, h2⟩ := hM
  have key : ∀ (k : Nat) (q : Nat × va_E), (mpl (M.1, E', M.2.2))[k]? = some q → q = (q.1, E' q.1) ∧ (mpl M)[k]? = some (q.1, M.2.1 q.1) := by
    intro k q hq
    have hq : (M.1.map (fun a => (a, E' a)))[k]? = some q := hq
    rw [List.getElem?_map] at hq
    cases hx : M.1[k]? with
    | none => rw [hx] at hq; simp at hq
    | some a =>
      rw [hx] at hq
      have hq : (a, E' a) = q := Option.some.inj hq
      subst hq
      refine ⟨rfl, ?_⟩
      show (M.1.map (fun a => (a, M.2.1 a)))[k]? = _
      rw [List.getElem?_map, hx]; rfl
  refine ⟨h0, fun k q hq => ?_, fun i j p q hp hq e => ?_, fun k q hq => ?_⟩
  · obtain ⟨e1, e2⟩ := key k q hq
    rw [e1]
    exact eqE_at (h q.1) (h1 k _ e2)
  · exact h2.1 i j _ _ (key i p hp).2 (key j q hq).2 e
  · exact h2.2 k (q.1, M.2.1 q.1) (key k q hq).2
def FE (B k : Nat) (f E : Nat → va_E) : Nat → va_E := fun a => if B ≤ a ∧ a < B + k then f (a - B) else E a
def Fm (M : Mem) (k : Nat) (f : Nat → va_E) : Mem := (M.1 ++ List.range' M.2.2 k, FE M.2.2 k f M.2.1, M.2.2 + k)
theorem FE_in {B k j : Nat} {f E : Nat → va_E} (hj : j < k) : FE B k f E (B + j) = f j := by
  unfold FE
  rw [if_pos ⟨Nat.le_add_right _ _, by omega⟩, Nat.add_sub_cancel_left]
theorem FE_out {B k a : Nat} {f E : Nat → va_E} (h : ¬ (B ≤ a ∧ a < B + k)) : FE B k f E a = E a := if_neg h
theorem mem3 {L L' : List Nat} {E E' : Nat → va_E} {z z' : Nat} (h1 : L = L') (h2 : ∀ a, E a = E' a) (h3 : z = z') : ((L, E, z) : Mem) = (L', E', z') := by
  rw [h1, h3, show E = E' from funext h2]
theorem Fm.cg {M : Mem} {k : Nat} {f g : Nat → va_E} (h : ∀ j, j < k → f j = g j) : Fm M k f = Fm M k g := by
  refine mem3 rfl (fun a => ?_) rfl
  by_cases c : M.2.2 ≤ a ∧ a < M.2.2 + k
  · obtain ⟨j, rfl⟩ := Nat.exists_eq_add_of_le c.1
    rw [FE_in (by omega), FE_in (by omega)]
    exact h j (by omega)
  · rw [FE_out c, FE_out c]
theorem Fm.one {M : Mem} {e : va_E} : pushM M e = Fm M 1 (fun _ => e) := by
  refine mem3 rfl (fun a => ?_) rfl
  by_cases c : a = M.2.2
  · subst c; rw [vu_eq]; exact (FE_in (B := M.2.2) (j := 0) (k := 1) (f := fun _ => e) (E := M.2.1) (by omega)).symm
  · rw [vu_ne c, FE_out (by omega)]
theorem Fm.push {M : Mem} {k : Nat} {f : Nat → va_E} {e : va_E} : pushM (Fm M k f) e = Fm M (k + 1) (va_up f k e) := by
  refine mem3 ?_ (fun a => ?_) rfl
  · show (M.1 ++ List.range' M.2.2 k) ++ [M.2.2 + k] = M.1 ++ List.range' M.2.2 (k + 1)
    rw [List.append_assoc, List.range'_1_concat]
  · show va_up (FE M.2.2 k f M.2.1) (M.2.2 + k) e a = FE M.2.2 (k + 1) (va_up f k e) M.2.1 a
    by_cases c : M.2.2 ≤ a ∧ a < M.2.2 + (k + 1)
    · obtain ⟨j, rfl⟩ := Nat.exists_eq_add_of_le c.1
      rw [FE_in (by omega)]
      by_cases q : j = k
      · subst q; rw [vu_eq, vu_eq]
      · rw [vu_ne q, vu_ne (by omega), FE_in (by omega)]
    · rw [FE_out c, vu_ne (by omega), FE_out (by omega)]
theorem Fm.up {M : Mem} {k j a : Nat} {f : Nat → va_E} {e : va_E} (ha : a = M.2.2 + j) (hj : j < k) : ups (Fm M k f) a e = Fm M k (va_up f j e) := by
  subst ha
  refine mem3 rfl (fun a => ?_) rfl
  show va_up (FE M.2.2 k f M.2.1) (M.2.2 + j) e a = FE M.2.2 k (va_up f j e) M.2.1 a
  by_cases c : M.2.2 ≤ a ∧ a < M.2.2 + k
  · obtain ⟨i, rfl⟩ := Nat.exists_eq_add_of_le c.1
    rw [FE_in (by omega)]
    by_cases q : i = j
    · subst q; rw [vu_eq, vu_eq]
    · rw [vu_ne q, vu_ne (by omega), FE_in (by omega)]
  · rw [FE_out c, vu_ne (by omega), FE_out c]
theorem Fm.mem {M : Mem} {k j a : Nat} {f : Nat → va_E} (ha : a = M.2.2 + j) (hj : j < k) : a ∈ (Fm M k f).1 := by
  subst ha
  refine List.mem_append_right _ ?_
  rw [List.mem_range'_1]
  omega
theorem Fm.get {M : Mem} {k j a : Nat} {f : Nat → va_E} (ha : a = M.2.2 + j) (hj : j < k) : (Fm M k f).2.1 a = f j := by
  subst ha
  exact FE_in hj
def jn (k : Nat) (f g : Nat → va_E) : Nat → va_E := fun j => if j < k then f j else g (j - k)
theorem jn_l {k j : Nat} {f g : Nat → va_E} (h : j < k) : jn k f g j = f j := if_pos h
theorem jn_r {k j : Nat} {f g : Nat → va_E} : jn k f g (k + j) = g j := by
  unfold jn
  rw [if_neg (by omega), Nat.add_sub_cancel_left]
theorem Fm.fm {M : Mem} {k k' : Nat} {f g : Nat → va_E} : Fm (Fm M k f) k' g = Fm M (k + k') (jn k f g) := by
  refine mem3 ?_ (fun a => ?_) (Nat.add_assoc _ _ _)
  · show (M.1 ++ List.range' M.2.2 k) ++ List.range' (M.2.2 + k) k' = M.1 ++ List.range' M.2.2 (k + k')
    rw [List.append_assoc, List.range'_append_1]
  · show FE (M.2.2 + k) k' g (FE M.2.2 k f M.2.1) a = FE M.2.2 (k + k') (jn k f g) M.2.1 a
    by_cases c : M.2.2 ≤ a ∧ a < M.2.2 + (k + k')
    · obtain ⟨i, rfl⟩ := Nat.exists_eq_add_of_le c.1
      rw [FE_in (by omega)]
      by_cases q : i < k
      · rw [FE_out (by omega), FE_in q, jn_l q]
      · obtain ⟨j, rfl⟩ := Nat.exists_eq_add_of_le (Nat.not_lt.mp q)
        rw [← Nat.add_assoc, FE_in (by omega), jn_r]
    · rw [FE_out c, FE_out (by omega), FE_out (by omega)]
section FM
variable {G : GG} {mi : MI} {d mc ms : Nat} {res : Option Value} {M' : Mem} {pc : Nat} {lc : List (Option Value)} {st : List Value} {M : Mem} {k n k0 : Nat} {f : Nat → va_E}
theorem WP.wk {E' : Nat → va_E} (h : ∀ a, eqE (M.2.1 a) (E' a)) (kk : WP G mi d mc ms res M' pc lc st (M.1, E', M.2.2) k n) : WP G mi d mc ms res M' pc lc st M k n := fun p e s m args below meth c H locs ls hc hM hS hl => kk p e s m args below meth c H locs ls hc (HM_eqE h hM) hS hl
theorem WP.fwk {g : Nat → va_E} (h : ∀ j, j < k0 → eqE (f j) (g j)) (kk : WP G mi d mc ms res M' pc lc st (Fm M k0 g) k n) : WP G mi d mc ms res M' pc lc st (Fm M k0 f) k n := by
  refine WP.wk (E' := FE M.2.2 k0 g M.2.1) (fun a => ?_) kk
  show eqE (FE M.2.2 k0 f M.2.1 a) (FE M.2.2 k0 g M.2.1 a)
  by_cases c : M.2.2 ≤ a ∧ a < M.2.2 + k0
  · obtain ⟨i, rfl⟩ := Nat.exists_eq_add_of_le c.1
    rw [FE_in (by omega), FE_in (by omega)]
    exact h i (by omega)
  · rw [FE_out c, FE_out c]
    exact Or.inl rfl
theorem fm_newI {z : Int32} {N : Nat} (hG : GOK G) (hd : decode mi.2.1 pc = .ok (.newarray .int, 2)) (hz : z = nI N) (hN : N ≤ 100000) (hmc : k + 1 ≤ mc) (hms : n + N ≤ ms) (kk : WP G mi d mc ms res M' (pc + 2) lc (.ref (M.2.2 + k0) :: st) (Fm M (k0 + 1) (va_up f k0 (.inl (cyI G, N, .inl (fun _ => 0))))) (k + 1) (n + N)) : WP G mi d mc ms res M' pc lc (.int z :: st) (Fm M k0 f) k n := by
  subst hz
  refine wp_newa (atype := .int) (N := N) hd (Or.inl rfl) mw_aI hG.1 (nI_pos (by omega)) (nI_clamp (by omega)) (by show N * 4 ≤ _; omega) hmc hms ?_
  rw [Fm.push]
  exact kk
theorem fm_anew {t idx : Nat} {C : String} {cA : ClassId} {z : Int32} {N : Nat} (ht' : (gT G)[t]? = some (cA, .object C)) (hd : decode mi.2.1 pc = .ok (.anewarray idx, 3)) (hw : Cond.classLink mi.1 idx C ∈ lw_g) (hC : C ∈ aoC) (hz : z = nI N) (hN : N ≤ 100000) (hmc : k + 1 ≤ mc) (hms : n + N ≤ ms) (kk : WP G mi d mc ms res M' (pc + 3) lc (.ref (M.2.2 + k0) :: st) (Fm M (k0 + 1) (va_up f k0 (.inl (cA, N, .inr (.inr (.inr (.inr (fun _ => none)))))))) (k + 1) (n + N)) : WP G mi d mc ms res M' pc lc (.int z :: st) (Fm M k0 f) k n := by
  subst hz
  refine wp_anew (N := N) hd hw hC ht' (nI_pos (by omega)) (nI_clamp (by omega)) (by omega) hmc hms ?_
  rw [Fm.push]
  exact kk
theorem fm_putF {idx ci q a j : Nat} {ty : FieldType} {fs : List Value} {v : Value} (hini : mi.2.2.2.2 = true) (hd : decode mi.2.1 pc = .ok (.putfield idx, 3)) (hk : PutOK mi.1 idx ci q ty true) (ha : a = M.2.2 + j) (hj : j < k0) (hE : f j = .inr (ci, fs)) (hl' : q < fs.length) (hn : narrow ty v = v) (hfit : fits ty v = true) (kk : WP G mi d mc ms res M' (pc + 3) lc st (Fm M k0 (va_up f j (.inr (ci, fs.set q v)))) k n) : WP G mi d mc ms res M' pc lc (v :: .ref a :: st) (Fm M k0 f) k n := by
  refine wp_putF hini hd hk (Fm.mem ha hj) ((Fm.get ha hj).trans hE) hl' hn hfit ?_
  rw [Fm.up ha hj]
  exact kk
theorem fm_get {idx ci q a j : Nat} {fs : List Value} {v : Value} (hd : decode mi.2.1 pc = .ok (.getfield idx, 3)) (hk : FldOK mi.1 idx ci q) (ha : a = M.2.2 + j) (hj : j < k0) (hE : f j = .inr (ci, fs)) (hv : fs[q]? = some v) (kk : WP G mi d mc ms res M' (pc + 3) lc (v :: st) (Fm M k0 f) k n) : WP G mi d mc ms res M' pc lc (.ref a :: st) (Fm M k0 f) k n := wp_get hd hk (Fm.mem ha hj) ((Fm.get ha hj).trans hE) hv kk
theorem fm_iast {a j z : Nat} {g : Nat → Int32} {i x : Int32} {i' : Nat} (hG : GOK G) (hd : decode mi.2.1 pc = .ok (.iastore, 1)) (ha : a = M.2.2 + j) (hj : j < k0) (hE : f j = .inl (cyI G, z, .inl g)) (hi : i = nI i') (hi' : i' < z) (hz : z < 2 ^ 31) (kk : WP G mi d mc ms res M' (pc + 1) lc st (Fm M k0 (va_up f j (.inl (cyI G, z, .inl (upd g i' x))))) k n) : WP G mi d mc ms res M' pc lc (.int x :: .int i :: .ref a :: st) (Fm M k0 f) k n := by
  subst hi
  refine wp_iast hd hG.1 (Fm.mem ha hj) ((Fm.get ha hj).trans hE) (nI_in hi' hz) ?_
  rw [Fm.up ha hj, nI_clamp (Nat.lt_trans hi' hz)]
  exact kk
theorem fm_aast {a b j jb z t ci : Nat} {cA : ClassId} {r : vw_C} {vs : List Value} {g : Nat → Option Nat} {i : Int32} {i' : Nat} (hd : decode mi.2.1 pc = .ok (.aastore, 1)) (ht : (gT G)[t]? = some (cA, .object r.1)) (ha : a = M.2.2 + j) (hj : j < k0) (hE : f j = .inl (cA, z, .inr (.inr (.inr (.inr g))))) (hb : b = M.2.2 + jb) (hjb : jb < k0) (hEb : f jb = .inr (ci, vs)) (hr : vwCl[ci]? = some r) (hi : i = nI i') (hi' : i' < z) (hz : z < 2 ^ 31) (kk : WP G mi d mc ms res M' (pc + 1) lc st (Fm M k0 (va_up f j (.inl (cA, z, .inr (.inr (.inr (.inr (va_up g i' (some b)))))))) ) k n) : WP G mi d mc ms res M' pc lc (.ref b :: .int i :: .ref a :: st) (Fm M k0 f) k n := by
  subst hi
  refine wp_aast hd ht (Fm.mem ha hj) ((Fm.get ha hj).trans hE) (Fm.mem hb hjb) ((Fm.get hb hjb).trans hEb) hr (nI_in hi' hz) ?_
  rw [Fm.up ha hj, nI_clamp (Nat.lt_trans hi' hz)]
  exact kk
/-- a constructor's call on the newest cell -/
theorem fm_callI {idx np d' mc' ms' k1 : Nat} {y : MethodName} {mj : MI} {As rest : List Value} {b : va_E} {g : Nat → va_E} (hd : decode mi.2.1 pc = .ok (.invokespecial idx, 3)) (hk : CallI mi.1 idx y mj np) (hct : Ct G d' y mj (.ref (Fm M k0 f).2.2 :: As) (pushM (Fm M k0 f) b) mc' ms' none (Fm (Fm M k0 f) k1 g)) (hn : As.length = np) (hdd : d' + 1 ≤ d) (hmc : k + mc' ≤ mc) (hms : n + ms' ≤ ms) (hst : st = As.reverse ++ .ref (M.2.2 + k0) :: rest) (hsum : (rest.map fun v => v.category).sum ≤ 8) (kk : WP G mi d mc ms res M' (pc + 3) lc rest (Fm M (k0 + k1) (jn k0 f g)) (k + mc') (n + ms')) : WP G mi d mc ms res M' pc lc st (pushM (Fm M k0 f) b) k n := by
  refine wp_callI hd hk hct hn hdd hmc hms hst hsum ?_
  rw [Fm.fm]
  exact kk
end FM
/-! the small constructors -/
abbrev zI (G : GG) (z : Nat) : va_E := .inl (cyI G, z, .inl (fun _ => 0))
def lnC (G : GG) (b : Nat) (j : Nat) : va_E := match j with
  | 0 => .inr (3, [.ref (b + 1), .int 0])
  | _ => zI G 6
theorem ci_Line {G : GG} {M : Mem} {d : Nat} (hG : GOK G) (hdp : 1 ≤ d) : Ct G d yX2_init iX2_init [.ref M.2.2] (pushM M (.inr (3, [.null, .int 0]))) 1 6 none (Fm M 2 (lnC G M.2.2)) := by
  refine Ct.of 0 (by decide) rfl (by decide) (Nat.le_of_ble_eq_true rfl) ?_
  show WP _ _ _ _ _ _ _ 0 [some (.ref M.2.2)] [] _ 0 0
  rw [Fm.one]
  refine wp_ald0 dX2_init_0 ?_
  refine wp_objInit dX2_init_1 kX2_3 mw_oi1 mw_oi2 hdp (Nat.le_of_ble_eq_true rfl) ?_
  refine wp_ald0 dX2_init_4 ?_
  refine wp_bipush (v := 6) dX2_init_5 (by decide) ?_
  refine fm_newI (N := 6) hG dX2_init_7 rfl (by decide) (by decide) (by decide) ?_
  refine fm_putF (j := 0) rfl dX2_init_9 pX2_9 rfl (by decide) rfl (Nat.le_of_ble_eq_true rfl) rfl rfl ?_
  refine wp_vret dX2_init_12 rfl (by decide) (by decide) rfl (Fm.cg fun j hj => ?_)
  match j, hj with
  | 0, _ => rfl
  | 1, _ => rfl
def seC (G : GG) (b : Nat) (j : Nat) : va_E := match j with
  | 0 => .inr (6, [.ref (b + 1)])
  | _ => .inl (cyI G, 8, .inl (va_cpy sFirst (fun _ => 0) 0 0 8))
theorem ci_Settings {G : GG} {M : Mem} {d aL aG aF aP : Nat} (hG : GOK G) (hZ : GSt G aL aG aF aP) (hdp : 1 ≤ d) : Ct G d yX6_init iX6_init [.ref M.2.2] (pushM M (.inr (6, [.null]))) 1 8 none (Fm M 2 (seC G M.2.2)) := by
  refine Ct.of 0 (by decide) rfl (by decide) (Nat.le_of_ble_eq_true rfl) ?_
  show WP _ _ _ _ _ _ _ 0 [some (.ref M.2.2)] [] _ 0 0
  rw [Fm.one]
  refine wp_ald0 dX6_init_0 ?_
  refine wp_objInit dX6_init_1 kX6_1 mw_oi1 mw_oi2 hdp (Nat.le_of_ble_eq_true rfl) ?_
  refine wp_ald0 dX6_init_4 ?_
  refine wp_bipush (v := 8) dX6_init_5 (by decide) ?_
  refine fm_newI (N := 8) hG dX6_init_7 rfl (by decide) (by decide) (by decide) ?_
  refine fm_putF (j := 0) rfl dX6_init_9 pX6_9 rfl (by decide) rfl (Nat.le_of_ble_eq_true rfl) rfl rfl ?_
  refine wp_gets dX6_init_12 hZ.2.2.1.1 sX6_13 ?_
  refine wp_iconst (v := 0) dX6_init_15 (by decide) ?_
  refine wp_ald0 dX6_init_16 ?_
  refine fm_get (j := 0) dX6_init_17 fX6_9 rfl (by decide) rfl rfl ?_
  refine wp_iconst (v := 0) dX6_init_20 (by decide) ?_
  refine wp_bipush (v := 8) dX6_init_21 (by decide) ?_
  refine wp_copy (t := 0) (c1 := cyI G) (n0 := 8) (n1 := 8) (f := sFirst) (g := fun _ => 0) dX6_init_23 kX6_16 mw_ac1 mw_ac2 mw_ac3 hG.1 rfl (Or.inr hZ.2.2.1.2) (Fm.mem (j := 1) rfl (by decide)) (Fm.get (j := 1) rfl (by decide)) (by decide) (by decide) (by decide) (by decide) (by decide) (fun _ _ => rfl) hdp (Nat.le_of_ble_eq_true rfl) ?_
  refine wp_vret dX6_init_26 rfl (by decide) (by decide) rfl ((Fm.up (j := 1) rfl (by decide)).trans (Fm.cg fun j hj => ?_))
  match j, hj with
  | 0, _ => rfl
  | 1, _ => rfl
def lkC (G : GG) (b : Nat) (x : Int32) (j : Nat) : va_E := match j with
  | 0 => .inr (4, [.int x, .int (x - x / 3 * 3), .int 0, .int 0, .int 0, .int 0, .int 0, .int 0, .int 0, .int 0, .ref (b + 1), .ref (b + 3)])
  | 1 => .inr (3, [.ref (b + 2), .int 0])
  | 2 => zI G 6
  | 3 => .inr (3, [.ref (b + 4), .int 0])
  | _ => zI G 6
theorem ci_Lock {G : GG} {M : Mem} {d : Nat} {x : Int32} (hG : GOK G) (hdp : 2 ≤ d) : Ct G d yX3_init iX3_init [.ref M.2.2, .int x] (pushM M (.inr (4, [.int 0, .int 0, .int 0, .int 0, .int 0, .int 0, .int 0, .int 0, .int 0, .int 0, .null, .null]))) 4 16 none (Fm M 5 (lkC G M.2.2 x)) := by
  refine Ct.of 0 (by decide) rfl (by decide) (Nat.le_of_ble_eq_true rfl) ?_
  show WP _ _ _ _ _ _ _ 0 [some (.ref M.2.2), some (.int x)] [] _ 0 0
  rw [Fm.one]
  refine wp_ald0 dX3_init_0 ?_
  refine wp_objInit dX3_init_1 kX3_3 mw_oi1 mw_oi2 (by omega) (Nat.le_of_ble_eq_true rfl) ?_
  refine wp_ald0 dX3_init_4 ?_
  refine wp_new dX3_init_5 nX3_9 (by decide) (by decide) ?_
  refine wp_dup dX3_init_8 rfl ?_
  refine fm_callI (As := []) dX3_init_9 kX3_11 (ci_Line (d := d - 1) hG (by omega)) rfl (by omega) (by decide) (by decide) rfl (Nat.le_of_ble_eq_true rfl) ?_
  refine fm_putF (j := 0) rfl dX3_init_12 pX3_12 rfl (by decide) rfl (Nat.le_of_ble_eq_true rfl) rfl rfl ?_
  refine wp_ald0 dX3_init_15 ?_
  refine wp_new dX3_init_16 nX3_9 (by decide) (by decide) ?_
  refine wp_dup dX3_init_19 rfl ?_
  refine fm_callI (As := []) dX3_init_20 kX3_11 (ci_Line (d := d - 1) hG (by omega)) rfl (by omega) (by decide) (by decide) rfl (Nat.le_of_ble_eq_true rfl) ?_
  refine fm_putF (j := 0) rfl dX3_init_23 pX3_18 rfl (by decide) rfl (Nat.le_of_ble_eq_true rfl) rfl rfl ?_
  refine wp_ald0 dX3_init_26 ?_
  refine wp_ild1 dX3_init_27 ?_
  refine fm_putF (j := 0) rfl dX3_init_28 pX3_21 rfl (by decide) rfl (Nat.le_of_ble_eq_true rfl) rfl rfl ?_
  refine wp_ald0 dX3_init_31 ?_
  refine wp_ild1 dX3_init_32 ?_
  refine wp_iconst (v := 3) dX3_init_33 (by decide) ?_
  refine wp_irem dX3_init_34 (by decide) ?_
  refine fm_putF (j := 0) rfl dX3_init_35 pX3_25 rfl (by decide) rfl (Nat.le_of_ble_eq_true rfl) rfl rfl ?_
  refine wp_vret dX3_init_38 rfl (by decide) (by decide) rfl (Fm.cg fun j hj => ?_)
  match j, hj with
  | 0, _ => rfl
  | 1, _ => rfl
  | 2, _ => rfl
  | 3, _ => rfl
  | 4, _ => rfl
theorem ci_Strand {G : GG} {M : Mem} {a d : Nat} (hdp : 1 ≤ d) : Ct G d yX8_init iX8_init [.ref a] M 0 0 none M := by
  refine Ct.of 0 (by decide) rfl (by decide) (Nat.le_of_ble_eq_true rfl) ?_
  show WP _ _ _ _ _ _ _ 0 [some (.ref a)] [] _ 0 0
  refine wp_ald0 dX8_init_0 ?_
  refine wp_objInit dX8_init_1 kX8_3 mw_oi1 mw_oi2 hdp (Nat.le_of_ble_eq_true rfl) ?_
  exact wp_vret dX8_init_4 rfl (Nat.le_refl _) (Nat.le_refl _) rfl rfl
theorem ci_Kind {G : GG} {M : Mem} {a d : Nat} (hdp : 1 ≤ d) : Ct G d yX1_init iX1_init [.ref a] M 0 0 none M := by
  refine Ct.of 0 (by decide) rfl (by decide) (Nat.le_of_ble_eq_true rfl) ?_
  show WP _ _ _ _ _ _ _ 0 [some (.ref a)] [] _ 0 0
  refine wp_ald0 dX1_init_0 ?_
  refine wp_objInit dX1_init_1 kX1_1 mw_oi1 mw_oi2 hdp (Nat.le_of_ble_eq_true rfl) ?_
  exact wp_vret dX1_init_4 rfl (Nat.le_refl _) (Nat.le_refl _) rfl rfl
/-- a region's cells -/
def rc (r : Rg) (C : Nat → Int32) (j : Nat) : va_E := inst (r.1 j) (fun f => C (r.2.1 j f))
theorem inst_z {cA : ClassId} {z : Nat} : inst (.inr (cA, z, none)) (fun _ => 0) = .inl (cA, z, .inl (fun _ => 0)) := by
  show Sum.inl (cA, z, Sum.inl _) = Sum.inl (cA, z, Sum.inl _)
  congr 4
  funext i
  by_cases h : i < z
  · rw [if_pos h]
  · rw [if_neg h]
theorem ci_Journal {G : GG} {M : Mem} {d : Nat} (hG : GOK G) (hdp : 1 ≤ d) : Ct G d yX0_init iX0_init [.ref M.2.2] (pushM M (.inr (1, [.null, .null, .null, .null, .int 0]))) 4 240 none (Fm M 5 (rc (jR G M.2.2) (fun _ => 0))) := by
  refine Ct.of 0 (by decide) rfl (by decide) (Nat.le_of_ble_eq_true rfl) ?_
  show WP _ _ _ _ _ _ _ 0 [some (.ref M.2.2)] [] _ 0 0
  rw [Fm.one]
  refine wp_ald0 dX0_init_0 ?_
  refine wp_objInit dX0_init_1 kX0_1 mw_oi1 mw_oi2 hdp (Nat.le_of_ble_eq_true rfl) ?_
  refine wp_ald0 dX0_init_4 ?_
  refine wp_bipush (v := 60) dX0_init_5 (by decide) ?_
  refine fm_newI (N := 60) hG dX0_init_7 rfl (by decide) (by decide) (by decide) ?_
  refine fm_putF (j := 0) rfl dX0_init_9 pX0_9 rfl (by decide) rfl (Nat.le_of_ble_eq_true rfl) rfl rfl ?_
  refine wp_ald0 dX0_init_12 ?_
  refine wp_bipush (v := 60) dX0_init_13 (by decide) ?_
  refine fm_newI (N := 60) hG dX0_init_15 rfl (by decide) (by decide) (by decide) ?_
  refine fm_putF (j := 0) rfl dX0_init_17 pX0_13 rfl (by decide) rfl (Nat.le_of_ble_eq_true rfl) rfl rfl ?_
  refine wp_ald0 dX0_init_20 ?_
  refine wp_bipush (v := 60) dX0_init_21 (by decide) ?_
  refine fm_newI (N := 60) hG dX0_init_23 rfl (by decide) (by decide) (by decide) ?_
  refine fm_putF (j := 0) rfl dX0_init_25 pX0_16 rfl (by decide) rfl (Nat.le_of_ble_eq_true rfl) rfl rfl ?_
  refine wp_ald0 dX0_init_28 ?_
  refine wp_bipush (v := 60) dX0_init_29 (by decide) ?_
  refine fm_newI (N := 60) hG dX0_init_31 rfl (by decide) (by decide) (by decide) ?_
  refine fm_putF (j := 0) rfl dX0_init_33 pX0_19 rfl (by decide) rfl (Nat.le_of_ble_eq_true rfl) rfl rfl ?_
  refine wp_vret dX0_init_36 rfl (by decide) (by decide) rfl (Fm.cg fun j hj => ?_)
  match j, hj with
  | 0, _ => rfl
  | 1, _ => exact inst_z.symm
  | 2, _ => exact inst_z.symm
  | 3, _ => exact inst_z.symm
  | 4, _ => exact inst_z.symm
theorem ci_Script {G : GG} {M : Mem} {d : Nat} (hG : GOK G) (hdp : 1 ≤ d) : Ct G d yX5_init iX5_init [.ref M.2.2] (pushM M (.inr (5, [.null, .null, .int 0, .int 0]))) 2 203 none (Fm M 3 (rc (pR G M.2.2) (fun _ => 0))) := by
  refine Ct.of 0 (by decide) rfl (by decide) (Nat.le_of_ble_eq_true rfl) ?_
  show WP _ _ _ _ _ _ _ 0 [some (.ref M.2.2)] [] _ 0 0
  rw [Fm.one]
  refine wp_ald0 dX5_init_0 ?_
  refine wp_objInit dX5_init_1 kX5_3 mw_oi1 mw_oi2 hdp (Nat.le_of_ble_eq_true rfl) ?_
  refine wp_ald0 dX5_init_4 ?_
  refine wp_sipush (v := 200) dX5_init_5 (by decide) ?_
  refine fm_newI (N := 200) hG dX5_init_8 rfl (by decide) (by decide) (by decide) ?_
  refine fm_putF (j := 0) rfl dX5_init_10 pX5_11 rfl (by decide) rfl (Nat.le_of_ble_eq_true rfl) rfl rfl ?_
  refine wp_ald0 dX5_init_13 ?_
  refine wp_iconst (v := 3) dX5_init_14 (by decide) ?_
  refine fm_newI (N := 3) hG dX5_init_15 rfl (by decide) (by decide) (by decide) ?_
  refine fm_putF (j := 0) rfl dX5_init_17 pX5_15 rfl (by decide) rfl (Nat.le_of_ble_eq_true rfl) rfl rfl ?_
  refine wp_vret dX5_init_20 rfl (by decide) (by decide) rfl (Fm.cg fun j hj => ?_)
  match j, hj with
  | 0, _ => rfl
  | 1, _ => exact inst_z.symm
  | 2, _ => exact inst_z.symm
