/-! regions: cells at base + offset, whose numbers stand in one function -/
abbrev Shp : Type := (Nat × List (Option Value)) ⊕ (ClassId × Nat × Option (Nat → Option Nat))
def vals (sl : List (Option Value)) (I : Nat → Int32) : List Value := sl.mapIdx (fun f x => x.getD (.int (I f)))
def inst (e : Shp) (I : Nat → Int32) : va_E := match e with
  | .inl (ci, sl) => .inr (ci, vals sl I)
  | .inr (cA, z, none) => .inl (cA, z, .inl (fun i => if i < z then I i else 0))
  | .inr (cA, z, some f) => .inl (cA, z, .inr (.inr (.inr (.inr f))))
/-- the slot f of a cell of that shape is a number of the state -/
def isI (e : Shp) (f : Nat) : Prop := match e with
  | .inl (_, sl) => sl[f]? = some none
  | .inr (_, z, none) => f < z
  | .inr (_, _, some _) => False
abbrev Rg : Type := (Nat → Shp) × (Nat → Nat → Nat) × Nat × Nat
def rE (r : Rg) (F : Nat → Int32) (E0 : Nat → va_E) : Nat → va_E := fun a => if r.2.2.1 ≤ a ∧ a < r.2.2.1 + r.2.2.2 then inst (r.1 (a - r.2.2.1)) (fun f => F (r.2.1 (a - r.2.2.1) f)) else E0 a
def rOK (r : Rg) : Prop := ∀ j f j' f', j < r.2.2.2 → j' < r.2.2.2 → isI (r.1 j) f → isI (r.1 j') f' → r.2.1 j f = r.2.1 j' f' → j = j' ∧ f = f'
theorem vals_get {sl : List (Option Value)} {I : Nat → Int32} {f : Nat} {x : Option Value} (h : sl[f]? = some x) : (vals sl I)[f]? = some (x.getD (.int (I f))) := by
  simp [vals, List.getElem?_mapIdx, h]
theorem vals_len (sl : List (Option Value)) (I : Nat → Int32) : (vals sl I).length = sl.length := by simp [vals]
theorem vals_set {sl : List (Option Value)} {I : Nat → Int32} {f : Nat} {v : Int32} (h : sl[f]? = some none) : (vals sl I).set f (.int v) = vals sl (upd I f v) := by
  apply List.ext_getElem?
  intro i
  by_cases hi : i = f
  · subst hi
    have hl : i < (vals sl I).length := by rw [vals_len]; exact (List.getElem?_eq_some_iff.mp h).1
    rw [List.getElem?_set_self hl, vals_get h]
    simp [upd]
  · rw [List.getElem?_set_ne (fun e => hi e.symm)]
    simp only [vals, List.getElem?_mapIdx]
    cases hx : sl[i]? with
    | none => rfl
    | some x => simp [upd, hi]
theorem inst_congr {e : Shp} {I J : Nat → Int32} (h : ∀ f, isI e f → I f = J f) : inst e I = inst e J := by
  match e, h with
  | .inl (ci, sl), h =>
    show Sum.inr (ci, vals sl I) = Sum.inr (ci, vals sl J)
    congr 2
    apply List.ext_getElem?
    intro i
    simp only [vals, List.getElem?_mapIdx]
    cases hx : sl[i]? with
    | none => rfl
    | some x =>
      cases x with
      | some v => rfl
      | none => simp only [Option.map_some, Option.getD_none]; rw [h i hx]
  | .inr (cA, z, none), h =>
    show Sum.inl (cA, z, Sum.inl _) = Sum.inl (cA, z, Sum.inl _)
    congr 4
    funext i
    by_cases hi : i < z
    · simp only [hi, if_true]; exact h i hi
    · simp only [hi, if_false]
  | .inr (cA, z, some f), h => rfl
theorem rE_at {r : Rg} {F : Nat → Int32} {E0 : Nat → va_E} {j : Nat} (hj : j < r.2.2.2) : rE r F E0 (r.2.2.1 + j) = inst (r.1 j) (fun f => F (r.2.1 j f)) := by
  unfold rE
  rw [if_pos ⟨Nat.le_add_right _ _, by omega⟩, Nat.add_sub_cancel_left]
theorem rE_out {r : Rg} {F : Nat → Int32} {E0 : Nat → va_E} {a : Nat} (h : ¬ (r.2.2.1 ≤ a ∧ a < r.2.2.1 + r.2.2.2)) : rE r F E0 a = E0 a := if_neg h
/-- one number of the region is another -/
theorem rE_up {r : Rg} {F : Nat → Int32} {E0 : Nat → va_E} {j f : Nat} {v : Int32} {e : va_E} (hr : rOK r) (hj : j < r.2.2.2) (hf : isI (r.1 j) f) (he : e = inst (r.1 j) (upd (fun f => F (r.2.1 j f)) f v)) : va_up (rE r F E0) (r.2.2.1 + j) e = rE r (upd F (r.2.1 j f) v) E0 := by
  subst he
  funext a
  by_cases ha : a = r.2.2.1 + j
  · subst ha
    rw [rE_at hj]
    simp only [va_up, if_true]
    apply inst_congr
    intro g hg
    by_cases h : g = f
    · subst h; simp [upd]
    · have : r.2.1 j g ≠ r.2.1 j f := fun q => h (hr j g j f hj hj hg hf q).2
      simp [upd, h, this]
  · simp only [va_up, if_neg ha]
    by_cases hin : r.2.2.1 ≤ a ∧ a < r.2.2.1 + r.2.2.2
    · unfold rE
      rw [if_pos hin, if_pos hin]
      apply inst_congr
      intro g hg
      have : r.2.1 (a - r.2.2.1) g ≠ r.2.1 j f := fun q => ha (by have := (hr (a - r.2.2.1) g j f (by omega) hj hg hf q).1; omega)
      simp [upd, this]
    · rw [rE_out hin, rE_out hin]
def Rm (r : Rg) (F : Nat → Int32) (E0 : Nat → va_E) (L : List Nat) (sz : Nat) : Mem := (L, rE r F E0, sz)
def rIn (r : Rg) (L : List Nat) : Prop := ∀ j, j < r.2.2.2 → r.2.2.1 + j ∈ L
section RGW
variable {G : GG} {mi : MI} {d mc ms : Nat} {res : Option Value} {M' : Mem} {pc : Nat} {lc : List (Option Value)} {st : List Value} {k n : Nat} {r : Rg} {F : Nat → Int32} {E0 : Nat → va_E} {L : List Nat} {sz : Nat}
/-- a number out of an object -/
theorem rg_get {idx ci f j a q : Nat} {sl : List (Option Value)} (hd : decode mi.2.1 pc = .ok (.getfield idx, 3)) (hk : FldOK mi.1 idx ci f) (ha : a = r.2.2.1 + j) (hL : rIn r L) (hj : j < r.2.2.2) (hs : r.1 j = .inl (ci, sl)) (hf : sl[f]? = some none) (hq : r.2.1 j f = q) (kk : WP G mi d mc ms res M' (pc + 3) lc (.int (F q) :: st) (Rm r F E0 L sz) k n) : WP G mi d mc ms res M' pc lc (.ref a :: st) (Rm r F E0 L sz) k n := by
  subst ha; subst hq
  refine wp_get hd hk (hL j hj) (fs := vals sl (fun f => F (r.2.1 j f))) ?_ (vals_get hf) kk
  show rE r F E0 _ = _
  rw [rE_at hj, hs]; rfl
/-- a fixed value out of an object -/
theorem rg_getS {idx ci f j a : Nat} {v : Value} {sl : List (Option Value)} (hd : decode mi.2.1 pc = .ok (.getfield idx, 3)) (hk : FldOK mi.1 idx ci f) (ha : a = r.2.2.1 + j) (hL : rIn r L) (hj : j < r.2.2.2) (hs : r.1 j = .inl (ci, sl)) (hf : sl[f]? = some (some v)) (kk : WP G mi d mc ms res M' (pc + 3) lc (v :: st) (Rm r F E0 L sz) k n) : WP G mi d mc ms res M' pc lc (.ref a :: st) (Rm r F E0 L sz) k n := by
  subst ha
  refine wp_get hd hk (hL j hj) (fs := vals sl (fun f => F (r.2.1 j f))) ?_ (vals_get hf) kk
  show rE r F E0 _ = _
  rw [rE_at hj, hs]; rfl
theorem rg_put {idx ci f j a q : Nat} {ty : FieldType} {v : Int32} {sl : List (Option Value)} (hd : decode mi.2.1 pc = .ok (.putfield idx, 3)) (hk : PutOK mi.1 idx ci f ty false) (ha : a = r.2.2.1 + j) (hr : rOK r) (hL : rIn r L) (hj : j < r.2.2.2) (hs : r.1 j = .inl (ci, sl)) (hf : sl[f]? = some none) (hq : r.2.1 j f = q) (hn : narrow ty (.int v) = .int v) (hfit : fits ty (.int v) = true) (kk : WP G mi d mc ms res M' (pc + 3) lc st (Rm r (upd F q v) E0 L sz) k n) : WP G mi d mc ms res M' pc lc (.int v :: .ref a :: st) (Rm r F E0 L sz) k n := by
  subst ha; subst hq
  refine wp_put hd hk (hL j hj) (fs := vals sl (fun f => F (r.2.1 j f))) ?_ (by rw [vals_len]; exact (List.getElem?_eq_some_iff.mp hf).1) hn hfit ?_
  · show rE r F E0 _ = _
    rw [rE_at hj, hs]; rfl
  · refine WP.to ?_ kk
    show (L, va_up (rE r F E0) _ _, sz) = (L, rE r _ E0, sz)
    rw [rE_up (v := v) hr hj (by rw [hs]; exact hf)]
    rw [hs, vals_set hf]; rfl
theorem rg_iald {t j a q : Nat} {cA : ClassId} {z : Nat} {i : Int32} {i' : Nat} (hd : decode mi.2.1 pc = .ok (.iaload, 1)) (ht : (gT G)[t]? = some (cA, .int)) (ha : a = r.2.2.1 + j) (hL : rIn r L) (hj : j < r.2.2.2) (hs : r.1 j = .inr (cA, z, none)) (hi : i = nI i') (hi' : i' < z) (hz : z < 2 ^ 31) (hq : r.2.1 j i' = q) (kk : WP G mi d mc ms res M' (pc + 1) lc (.int (F q) :: st) (Rm r F E0 L sz) k n) : WP G mi d mc ms res M' pc lc (.int i :: .ref a :: st) (Rm r F E0 L sz) k n := by
  subst ha; subst hq; subst hi
  refine wp_iald hd ht (hL j hj) (z := z) (f := fun i => if i < z then F (r.2.1 j i) else 0) ?_ (nI_in hi' hz) (by rw [nI_clamp (Nat.lt_trans hi' hz), if_pos hi']) kk
  show rE r F E0 _ = _
  rw [rE_at hj, hs]; rfl
theorem rg_iast {t j a q : Nat} {cA : ClassId} {z : Nat} {i v : Int32} {i' : Nat} (hd : decode mi.2.1 pc = .ok (.iastore, 1)) (ht : (gT G)[t]? = some (cA, .int)) (ha : a = r.2.2.1 + j) (hr : rOK r) (hL : rIn r L) (hj : j < r.2.2.2) (hs : r.1 j = .inr (cA, z, none)) (hi : i = nI i') (hi' : i' < z) (hz : z < 2 ^ 31) (hq : r.2.1 j i' = q) (kk : WP G mi d mc ms res M' (pc + 1) lc st (Rm r (upd F q v) E0 L sz) k n) : WP G mi d mc ms res M' pc lc (.int v :: .int i :: .ref a :: st) (Rm r F E0 L sz) k n := by
  subst ha; subst hq; subst hi
  refine wp_iast hd ht (hL j hj) (z := z) (f := fun i => if i < z then F (r.2.1 j i) else 0) ?_ (nI_in hi' hz) ?_
  · show rE r F E0 _ = _
    rw [rE_at hj, hs]; rfl
  · refine WP.to ?_ kk
    rw [nI_clamp (Nat.lt_trans hi' hz)]
    show (L, va_up (rE r F E0) _ _, sz) = (L, rE r _ E0, sz)
    rw [rE_up (f := i') (v := v) hr hj (by rw [hs]; exact hi')]
    rw [hs]
    show Sum.inl (cA, z, Sum.inl _) = Sum.inl (cA, z, Sum.inl _)
    congr 4
    funext y
    by_cases hy : y = i'
    · subst hy; simp [upd, hi']
    · simp [upd, hy]
theorem rg_aald {t j a : Nat} {cA : ClassId} {C : String} {z : Nat} {f : Nat → Option Nat} {i : Int32} {i' b : Nat} (hd : decode mi.2.1 pc = .ok (.aaload, 1)) (ht : (gT G)[t]? = some (cA, .object C)) (ha : a = r.2.2.1 + j) (hL : rIn r L) (hj : j < r.2.2.2) (hs : r.1 j = .inr (cA, z, some f)) (hi : i = nI i') (hi' : i' < z) (hz : z < 2 ^ 31) (hb : f i' = some b) (kk : WP G mi d mc ms res M' (pc + 1) lc (.ref b :: st) (Rm r F E0 L sz) k n) : WP G mi d mc ms res M' pc lc (.int i :: .ref a :: st) (Rm r F E0 L sz) k n := by
  subst ha; subst hi
  refine wp_aald hd ht (hL j hj) (z := z) (f := f) (v := some b) ?_ (nI_in hi' hz) (by rw [nI_clamp (Nat.lt_trans hi' hz), hb]) kk
  show rE r F E0 _ = _
  rw [rE_at hj, hs]; rfl
theorem rg_alen {t j a : Nat} {cA : ClassId} {ty : FieldType} {z : Nat} {x : Option (Nat → Option Nat)} (hd : decode mi.2.1 pc = .ok (.arraylength, 1)) (ht : (gT G)[t]? = some (cA, ty)) (ha : a = r.2.2.1 + j) (hL : rIn r L) (hj : j < r.2.2.2) (hs : r.1 j = .inr (cA, z, x)) (kk : WP G mi d mc ms res M' (pc + 1) lc (.int (nI z) :: st) (Rm r F E0 L sz) k n) : WP G mi d mc ms res M' pc lc (.ref a :: st) (Rm r F E0 L sz) k n := by
  subst ha
  cases x with
  | none =>
    refine wp_alen hd ht (hL j hj) (x := (z, .inl (fun i => if i < z then F (r.2.1 j i) else 0))) ?_ rfl kk
    show rE r F E0 _ = _
    rw [rE_at hj, hs]; rfl
  | some f =>
    refine wp_alen hd ht (hL j hj) (x := (z, .inr (.inr (.inr (.inr f))))) ?_ rfl kk
    show rE r F E0 _ = _
    rw [rE_at hj, hs]; rfl
theorem rg_callV {idx np ci d' mc' ms' j a : Nat} {y : MethodName} {mj : MI} {As st rest : List Value} {sl : List (Option Value)} {T : u_T} {N : Nat} {res1 : Option Value} {M1 : Mem} (hd : decode mi.2.1 pc = .ok (.invokevirtual idx, 3)) (hk : CallV mi.1 idx y mj np) (hct : Ct G d' y mj (.ref a :: As) (Rm r F E0 L sz) mc' ms' res1 M1) (ha : a = r.2.2.1 + j) (hL : rIn r L) (hj : j < r.2.2.2) (hs : r.1 j = .inl (ci, sl)) (hcl : vwCl[ci]? = some (y.cls, T, N)) (hn : As.length = np) (hdd : d' + 1 ≤ d) (hmc : k + mc' ≤ mc) (hms : n + ms' ≤ ms) (hst : st = As.reverse ++ .ref a :: rest) (hsum : (rest.map fun v => v.category).sum ≤ 8)
    (kk : WP G mi d mc ms res M' (pc + 3) lc (res1.toList ++ rest) M1 (k + mc') (n + ms')) : WP G mi d mc ms res M' pc lc st (Rm r F E0 L sz) k n := by
  subst ha
  refine wp_callV hd hk hct (hL j hj) (ci := ci) (fs := vals sl (fun f => F (r.2.1 j f))) ?_ hcl hn hdd hmc hms hst hsum kk
  show rE r F E0 _ = _
  rw [rE_at hj, hs]; rfl
end RGW
