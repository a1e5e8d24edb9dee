/-- a field of a class of the world, by its place in the pool of 'own' -/
def FldOK (own : String) (idx ci f : Nat) : Prop := ∃ (C : String) (T : u_T) (N : Nat), vwCl[ci]? = some (C, T, N) ∧ f < N ∧ (∀ w ∈ u_ws C T N, w ∈ lw_g) ∧ Cond.fieldLink own idx (T f).1 (T f).2.1 (T f).2.2.1 ∈ lw_g
/-- .. that may be stored in: ty its type, fin whether it is final -/
def PutOK (own : String) (idx ci f : Nat) (ty : FieldType) (fin : Bool) : Prop := ∃ (C : String) (T : u_T) (N : Nat) (ty0 : Nat → FieldType), vwCl[ci]? = some (C, T, N) ∧ f < N ∧ (∀ w ∈ u_ws C T N, w ∈ lw_g) ∧ Cond.fieldLink own idx (T f).1 (T f).2.1 (T f).2.2.1 ∈ lw_g ∧ (∀ k, k < N → parseFieldDescriptor (T k).2.2.1 = some (ty0 k)) ∧ (∀ a, a < N → ∀ b, b < N → a ≠ b → (T a).2.1 ≠ (T b).2.1) ∧ (T f).2.2.2 = fin ∧ parseFieldDescriptor (T f).2.2.1 = some ty ∧ (fin = true → (T f).1 = own)
def ups (M : Mem) (a : Nat) (e : va_E) : Mem := (M.1, va_up M.2.1 a e, M.2.2)
section WPM
variable {G : GG} {mi : MI} {d mc ms : Nat} {res : Option Value} {M' : Mem} {pc : Nat} {lc : List (Option Value)} {st : List Value} {M : Mem} {k n : Nat}
theorem wp_get {idx ci f a : Nat} {fs : List Value} {v : Value} (hd : decode mi.2.1 pc = .ok (.getfield idx, 3)) (hk : FldOK mi.1 idx ci f) (hL : a ∈ M.1) (hE : M.2.1 a = .inr (ci, fs)) (hv : fs[f]? = some v) (kk : WP G mi d mc ms res M' (pc + 3) lc (v :: st) M k n) : WP G mi d mc ms res M' pc lc (.ref a :: st) M k n := by
  intro p e s m args below meth c H locs ls hc hM hS hl
  obtain ⟨C, T, N, h1, h2, h3, h4⟩ := hk
  obtain ⟨q, hq⟩ := mpl_get hL
  rw [hE] at hq
  exact va_get (C := C) (T := T) (N := N) (ci := ci) (index := idx) (ref := (T f).1) hc.1 hc.2.1 hc.2.2.2.2.2.2.2.1 h3 hc.2.2.2.2.2.2.1 hc.2.2.2.2.2.2.2.2.1 hM.2.1 q hq h1 f h2 (hc.2.2.2.2.2.2.2.1 _ h4) (fun x h => h) hv hd (kk p e s m args below meth c H locs ls hc hM hS hl)
theorem wp_getN {a : Nat} {fs : List Value} {v : Value} (hown : mi.1 = "LockSimulator$Lock") (hd : decode mi.2.1 pc = .ok (.getfield 63, 3)) (hw : ∀ w ∈ u_ws RX2 TX2 2, w ∈ lw_g) (hL : a ∈ M.1) (hE : M.2.1 a = .inr (3, fs)) (hv : fs[1]? = some v) (kk : WP G mi d mc ms res M' (pc + 3) lc (v :: st) M k n) : WP G mi d mc ms res M' pc lc (.ref a :: st) M k n := by
  intro p e s m args below meth c H locs ls hc hM hS hl
  obtain ⟨q, hq⟩ := mpl_get hL
  rw [hE] at hq
  exact va_getN (C := RX2) (T := TX2) (N := 2) (ci := 3) (index := 63) (ref := "LockSimulator$Line") (host := "LockSimulator") hc.1 hc.2.1 hc.2.2.2.2.2.2.2.1 hw (own := "LockSimulator$Lock") (by rw [← hown]; exact hc.2.2.2.2.2.2.1) hc.2.2.2.2.2.2.2.2.1 hM.2.1 q hq rfl 1 (by decide) (va_Nw.use rfl hc.2.2.2.2.2.2.2.2.2.2.2.2.2.2.2.1) (fun x h => h) hv hd (kk p e s m args below meth c H locs ls hc hM hS hl)
theorem HM.setz {a q : Nat} {e : va_E} {H H1 : Heap} (hM : HM G M H) (hL : a ∈ M.1) (hq : (mpl M)[q]? = some (a, M.2.1 a)) (hz : H1.size = H.size) (hP : va_P (gD G) vwCl ((mpl M).set q (a, e)) H1) (hD : va_D (gA G) ((mpl M).set q (a, e))) : HM G (ups M a e) H1 := by
  rw [mpl_set hM.2.2 hL hq] at hP hD
  exact ⟨hz.trans hM.1, hP, hD⟩
theorem wp_put {idx ci f a : Nat} {ty : FieldType} {fs : List Value} {v : Value} (hd : decode mi.2.1 pc = .ok (.putfield idx, 3)) (hk : PutOK mi.1 idx ci f ty false) (hL : a ∈ M.1) (hE : M.2.1 a = .inr (ci, fs)) (hl' : f < fs.length) (hn : narrow ty v = v) (hfit : fits ty v = true) (kk : WP G mi d mc ms res M' (pc + 3) lc st (ups M a (.inr (ci, fs.set f v))) k n) : WP G mi d mc ms res M' pc lc (v :: .ref a :: st) M k n := by
  intro p e s m args below meth c H locs ls hc hM hS hl
  obtain ⟨C, T, N, ty0, h1, h2, h3, h4, h5, h6, h7, h8, -⟩ := hk
  obtain ⟨q, hq⟩ := mpl_get hL
  have hq' := hq
  rw [hE] at hq'
  exact z_put (C := C) (T := T) (N := N) (ci := ci) (index := idx) (ref := (T f).1) hc.1 hc.2.1 hc.2.2.2.2.2.2.2.1 h3 ty0 h5 h6 hc.2.2.2.2.2.2.1 hc.2.2.2.2.2.2.2.2.1 hM.2.1 hM.2.2 hS q hq' h1 f h2 (hc.2.2.2.2.2.2.2.1 _ h4) (fun x h => h) h7 h8 hn hfit hl' hd (fun H1 locs1 hz hP hD hS1 => kk p e s m args below meth c H1 locs1 ls hc (hM.setz hL hq hz hP hD) hS1 hl)
theorem wp_putF {idx ci f a : Nat} {ty : FieldType} {fs : List Value} {v : Value} (hini : mi.2.2.2.2 = true) (hd : decode mi.2.1 pc = .ok (.putfield idx, 3)) (hk : PutOK mi.1 idx ci f ty true) (hL : a ∈ M.1) (hE : M.2.1 a = .inr (ci, fs)) (hl' : f < fs.length) (hn : narrow ty v = v) (hfit : fits ty v = true) (kk : WP G mi d mc ms res M' (pc + 3) lc st (ups M a (.inr (ci, fs.set f v))) k n) : WP G mi d mc ms res M' pc lc (v :: .ref a :: st) M k n := by
  intro p e s m args below meth c H locs ls hc hM hS hl
  obtain ⟨C, T, N, ty0, h1, h2, h3, h4, h5, h6, h7, h8, h9⟩ := hk
  obtain ⟨q, hq⟩ := mpl_get hL
  have hq' := hq
  rw [hE] at hq'
  exact z_putF (C := C) (T := T) (N := N) (ci := ci) (index := idx) (ref := (T f).1) hc.1 hc.2.1 hc.2.2.2.2.2.2.2.1 h3 ty0 h5 h6 hc.2.2.2.2.2.2.1 hc.2.2.2.2.2.2.2.2.1 hM.2.1 hM.2.2 hS q hq' h1 f h2 (hc.2.2.2.2.2.2.2.1 _ h4) (fun x h => h) h7 (hc.2.2.2.2.2.1 hini) (h9 rfl) h8 hn hfit hl' hd (fun H1 locs1 hz hP hD hS1 => kk p e s m args below meth c H1 locs1 ls hc (hM.setz hL hq hz hP hD) hS1 hl)
theorem wp_gets {idx : Nat} {C nm ds : String} {v : Value} (hd : decode mi.2.1 pc = .ok (.getstatic idx, 3)) (hz : (C, nm, ds, v) ∈ gZ G) (hw : Cond.fieldLink mi.1 idx C nm ds ∈ lw_g) (kk : WP G mi d mc ms res M' (pc + 3) lc (v :: st) M k n) : WP G mi d mc ms res M' pc lc st M k n := by
  intro p e s m args below meth c H locs ls hc hM hS hl
  exact va_gets (C := C) (n := nm) (d := ds) (ref := C) (index := idx) hc.1 hc.2.1 (hc.2.2.2.2.2.2.2.2.2.2.1 _ hz) hS hc.2.2.2.2.2.2.1 (hc.2.2.2.2.2.2.2.1 _ hw) (fun x h => h) hd (kk p e s m args below meth c H locs ls hc hM hS hl)
theorem wp_iald {a t : Nat} {cA : ClassId} {z : Nat} {f : Nat → Int32} {i : Int32} {v : Int32} (hd : decode mi.2.1 pc = .ok (.iaload, 1)) (ht : (gT G)[t]? = some (cA, .int)) (hL : a ∈ M.1) (hE : M.2.1 a = .inl (cA, z, .inl f)) (hin : vp_in i z) (hv : f i.toNatClampNeg = v) (kk : WP G mi d mc ms res M' (pc + 1) lc (.int v :: st) M k n) : WP G mi d mc ms res M' pc lc (.int i :: .ref a :: st) M k n := by
  intro p e s m args below meth c H locs ls hc hM hS hl
  obtain ⟨q, hq⟩ := mpl_get hL
  rw [hE] at hq
  subst hv
  exact va_iald hc.1 hc.2.1 hc.2.2.2.2.2.2.2.2.1 hM.2.1 q t hq ht hin hd (kk p e s m args below meth c H locs ls hc hM hS hl)
theorem wp_bald {a t : Nat} {cA : ClassId} {z : Nat} {f : Nat → Int32} {i : Int32} {v : Int32} (hd : decode mi.2.1 pc = .ok (.baload, 1)) (ht : (gT G)[t]? = some (cA, .byte)) (hL : a ∈ M.1) (hE : M.2.1 a = .inl (cA, z, .inl f)) (hin : vp_in i z) (hv : f i.toNatClampNeg = v) (kk : WP G mi d mc ms res M' (pc + 1) lc (.int v :: st) M k n) : WP G mi d mc ms res M' pc lc (.int i :: .ref a :: st) M k n := by
  intro p e s m args below meth c H locs ls hc hM hS hl
  obtain ⟨q, hq⟩ := mpl_get hL
  rw [hE] at hq
  subst hv
  exact va_bald hc.1 hc.2.1 hc.2.2.2.2.2.2.2.2.1 hM.2.1 q t hq ht hin hd (kk p e s m args below meth c H locs ls hc hM hS hl)
theorem wp_iast {a t : Nat} {cA : ClassId} {z : Nat} {f : Nat → Int32} {i x : Int32} (hd : decode mi.2.1 pc = .ok (.iastore, 1)) (ht : (gT G)[t]? = some (cA, .int)) (hL : a ∈ M.1) (hE : M.2.1 a = .inl (cA, z, .inl f)) (hin : vp_in i z) (kk : WP G mi d mc ms res M' (pc + 1) lc st (ups M a (.inl (cA, z, .inl (upd f i.toNatClampNeg x)))) k n) : WP G mi d mc ms res M' pc lc (.int x :: .int i :: .ref a :: st) M k n := by
  intro p e s m args below meth c H locs ls hc hM hS hl
  obtain ⟨q, hq⟩ := mpl_get hL
  have hq' := hq
  rw [hE] at hq'
  exact z_iast hc.1 hc.2.1 hc.2.2.2.2.2.2.2.2.1 hM.2.1 hM.2.2 hS q t hq' ht hin hd (fun H1 locs1 hz hP hD hS1 => kk p e s m args below meth c H1 locs1 ls hc (hM.setz hL hq hz hP hD) hS1 hl)
theorem wp_bast {a t : Nat} {cA : ClassId} {z : Nat} {f : Nat → Int32} {i x : Int32} (hd : decode mi.2.1 pc = .ok (.bastore, 1)) (ht : (gT G)[t]? = some (cA, .byte)) (hL : a ∈ M.1) (hE : M.2.1 a = .inl (cA, z, .inl f)) (hin : vp_in i z) (kk : WP G mi d mc ms res M' (pc + 1) lc st (ups M a (.inl (cA, z, .inl (upd f i.toNatClampNeg (vp_nar .byte x))))) k n) : WP G mi d mc ms res M' pc lc (.int x :: .int i :: .ref a :: st) M k n := by
  intro p e s m args below meth c H locs ls hc hM hS hl
  obtain ⟨q, hq⟩ := mpl_get hL
  have hq' := hq
  rw [hE] at hq'
  exact z_bast hc.1 hc.2.1 hc.2.2.2.2.2.2.2.2.1 hM.2.1 hM.2.2 hS q t hq' ht hin hd (fun H1 locs1 hz hP hD hS1 => kk p e s m args below meth c H1 locs1 ls hc (hM.setz hL hq hz hP hD) hS1 hl)
theorem wp_aald {a t : Nat} {cA : ClassId} {C : String} {z : Nat} {f : Nat → Option Nat} {i : Int32} {v : Option Nat} (hd : decode mi.2.1 pc = .ok (.aaload, 1)) (ht : (gT G)[t]? = some (cA, .object C)) (hL : a ∈ M.1) (hE : M.2.1 a = .inl (cA, z, .inr (.inr (.inr (.inr f))))) (hin : vp_in i z) (hv : f i.toNatClampNeg = v) (kk : WP G mi d mc ms res M' (pc + 1) lc (va_rf v :: st) M k n) : WP G mi d mc ms res M' pc lc (.int i :: .ref a :: st) M k n := by
  intro p e s m args below meth c H locs ls hc hM hS hl
  obtain ⟨q, hq⟩ := mpl_get hL
  rw [hE] at hq
  subst hv
  exact va_aldq hc.1 hc.2.1 hc.2.2.2.2.2.2.2.2.1 hM.2.1 q t hq ht hin hd (kk p e s m args below meth c H locs ls hc hM hS hl)
theorem wp_aast {a b t ci : Nat} {cA : ClassId} {r : vw_C} {z : Nat} {vs : List Value} {f : Nat → Option Nat} {i : Int32} (hd : decode mi.2.1 pc = .ok (.aastore, 1)) (ht : (gT G)[t]? = some (cA, .object r.1)) (hL : a ∈ M.1) (hE : M.2.1 a = .inl (cA, z, .inr (.inr (.inr (.inr f))))) (hLb : b ∈ M.1) (hEb : M.2.1 b = .inr (ci, vs)) (hr : vwCl[ci]? = some r) (hin : vp_in i z) (kk : WP G mi d mc ms res M' (pc + 1) lc st (ups M a (.inl (cA, z, .inr (.inr (.inr (.inr (va_up f i.toNatClampNeg (some b)))))))) k n) : WP G mi d mc ms res M' pc lc (.ref b :: .int i :: .ref a :: st) M k n := by
  intro p e s m args below meth c H locs ls hc hM hS hl
  obtain ⟨q, hq⟩ := mpl_get hL
  obtain ⟨qb, hqb⟩ := mpl_get hLb
  have hq' := hq
  rw [hE] at hq'
  rw [hEb] at hqb
  exact z_astq hc.1 hc.2.1 hc.2.2.2.2.2.2.2.2.1 hM.2.1 hM.2.2 hS q t qb ci hq' ht hqb hr hin hd (fun H1 locs1 hz hP hD hS1 => kk p e s m args below meth c H1 locs1 ls hc (hM.setz hL hq hz hP hD) hS1 hl)
theorem wp_alen {a t : Nat} {cA : ClassId} {ty : FieldType} {x : vp_A} {v : Int32} (hd : decode mi.2.1 pc = .ok (.arraylength, 1)) (ht : (gT G)[t]? = some (cA, ty)) (hL : a ∈ M.1) (hE : M.2.1 a = .inl (cA, x)) (hv : Int32.ofNat x.1 = v) (kk : WP G mi d mc ms res M' (pc + 1) lc (.int v :: st) M k n) : WP G mi d mc ms res M' pc lc (.ref a :: st) M k n := by
  intro p e s m args below meth c H locs ls hc hM hS hl
  obtain ⟨q, hq⟩ := mpl_get hL
  rw [hE] at hq
  exact va_alen hc.1 hc.2.1 hc.2.2.2.2.2.2.2.2.1 hM.2.1 q t hq ht hv hd (kk p e s m args below meth c H locs ls hc hM hS hl)
/-- a row of ints that nobody writes -/
theorem wp_tald {a N : Nat} {f : Nat → Value} {i : Int32} {v : Value} (hd : decode mi.2.1 pc = .ok (.iaload, 1)) (hz : (FieldType.int, a, N, f) ∈ gS G) (hin : vp_in i N) (hv : f i.toNatClampNeg = v) (kk : WP G mi d mc ms res M' (pc + 1) lc (v :: st) M k n) : WP G mi d mc ms res M' pc lc (.int i :: .ref a :: st) M k n := by
  intro p e s m args below meth c H locs ls hc hM hS hl
  exact va_ti hc.1 hc.2.1 (hc.2.2.2.2.2.2.2.2.2.2.2.1 _ hz) hS hin hv hd (kk p e s m args below meth c H locs ls hc hM hS hl)
theorem wp_tbld {a N : Nat} {f : Nat → Value} {i : Int32} {v : Value} (hd : decode mi.2.1 pc = .ok (.baload, 1)) (hz : (FieldType.byte, a, N, f) ∈ gS G) (hin : vp_in i N) (hv : f i.toNatClampNeg = v) (kk : WP G mi d mc ms res M' (pc + 1) lc (v :: st) M k n) : WP G mi d mc ms res M' pc lc (.int i :: .ref a :: st) M k n := by
  intro p e s m args below meth c H locs ls hc hM hS hl
  exact va_tb hc.1 hc.2.1 (hc.2.2.2.2.2.2.2.2.2.2.2.1 _ hz) hS hin hv hd (kk p e s m args below meth c H locs ls hc hM hS hl)
theorem wp_tlen {a N : Nat} {ty : FieldType} {f : Nat → Value} {v : Int32} (hd : decode mi.2.1 pc = .ok (.arraylength, 1)) (hz : (ty, a, N, f) ∈ gS G) (hv : Int32.ofNat N = v) (kk : WP G mi d mc ms res M' (pc + 1) lc (.int v :: st) M k n) : WP G mi d mc ms res M' pc lc (.ref a :: st) M k n := by
  intro p e s m args below meth c H locs ls hc hM hS hl
  exact va_tlen hc.1 hc.2.1 (hc.2.2.2.2.2.2.2.2.2.2.2.1 _ hz) hS hv hd (kk p e s m args below meth c H locs ls hc hM hS hl)
/-- a field of an object that nobody writes -/
theorem wp_getO {idx a : Nat} {o nm ds : String} {v : Value} (hd : decode mi.2.1 pc = .ok (.getfield idx, 3)) (hz : (o, nm, ds, v, a) ∈ gF G) (hw : Cond.fieldLink mi.1 idx o nm ds ∈ lw_g) (kk : WP G mi d mc ms res M' (pc + 3) lc (v :: st) M k n) : WP G mi d mc ms res M' pc lc (.ref a :: st) M k n := by
  intro p e s m args below meth c H locs ls hc hM hS hl
  exact vk_getf (o := o) (n := nm) (d := ds) (ref := o) (index := idx) hc.1 hc.2.1 (hc.2.2.2.2.2.2.2.2.2.2.2.2.1 _ hz) hS hc.2.2.2.2.2.2.1 (hc.2.2.2.2.2.2.2.1 _ hw) (fun x h => h) hd (kk p e s m args below meth c H locs ls hc hM hS hl)
/-- ends -/
theorem wp_iret {v : Int32} (hd : decode mi.2.1 pc = .ok (.ireturn, 1)) (hr : mi.2.2.2.1 = some .int) (h1 : k ≤ mc) (h2 : n ≤ ms) (hres : some (.int v) = res) (hm : M = M') : WP G mi d mc ms res M' pc lc [.int v] M k n := by
  intro p e s m args below meth c H locs ls hc hM hS hl
  subst hres; subst hm
  refine W.widen h1 h2 ?_
  exact W.iret hc.1 hc.2.1 (hc.2.2.2.1.trans hr) (fun t ht _ => ⟨rfl, by rw [ht]; exact hM, hS.F ht⟩) hS.2.2 hd hc.2.2.2.2.1
theorem wp_zret {v : Int32} {ty : FieldType} (hd : decode mi.2.1 pc = .ok (.ireturn, 1)) (hr : mi.2.2.2.1 = some ty) (hn : narrow ty (.int v) = .int v) (h1 : k ≤ mc) (h2 : n ≤ ms) (hres : some (.int v) = res) (hm : M = M') : WP G mi d mc ms res M' pc lc [.int v] M k n := by
  intro p e s m args below meth c H locs ls hc hM hS hl
  subst hres; subst hm
  refine W.widen h1 h2 ?_
  exact W.zret hc.1 hc.2.1 (hc.2.2.2.1.trans hr) hn (fun t ht _ => ⟨rfl, by rw [ht]; exact hM, hS.F ht⟩) hS.2.2 hd hc.2.2.2.2.1
theorem wp_vret (hd : decode mi.2.1 pc = .ok (.return_, 1)) (hr : mi.2.2.2.1 = none) (h1 : k ≤ mc) (h2 : n ≤ ms) (hres : none = res) (hm : M = M') : WP G mi d mc ms res M' pc lc [] M k n := by
  intro p e s m args below meth c H locs ls hc hM hS hl
  subst hres; subst hm
  refine W.widen h1 h2 ?_
  exact W.vret hc.1 hc.2.1 (hc.2.2.2.1.trans hr) (fun t ht _ => ⟨rfl, by rw [ht]; exact hM, hS.F ht⟩) hS.2.2 hd hc.2.2.2.2.1
theorem wp_aret {v : Value} {rt : FieldType} (hd : decode mi.2.1 pc = .ok (.areturn, 1)) (hr : mi.2.2.2.1 = some rt) (hrt : (∃ z, rt = .object z) ∨ ∃ t, rt = .array t) (hv : v = .null ∨ ∃ a, v = .ref a) (h1 : k ≤ mc) (h2 : n ≤ ms) (hres : some v = res) (hm : M = M') : WP G mi d mc ms res M' pc lc [v] M k n := by
  intro p e s m args below meth c H locs ls hc hM hS hl
  subst hres; subst hm
  refine W.widen h1 h2 ?_
  exact W.aret hc.1 hc.2.1 (hc.2.2.2.1.trans hr) hrt hv (fun t ht _ => ⟨rfl, by rw [ht]; exact hM, hS.F ht⟩) hS.2.2 hd hc.2.2.2.2.1
theorem wp_lret {v : Int64} (hd : decode mi.2.1 pc = .ok (.lreturn, 1)) (hr : mi.2.2.2.1 = some .long) (h1 : k ≤ mc) (h2 : n ≤ ms) (hres : some (.long v) = res) (hm : M = M') : WP G mi d mc ms res M' pc lc [.long v] M k n := by
  intro p e s m args below meth c H locs ls hc hM hS hl
  subst hres; subst hm
  refine W.widen h1 h2 ?_
  exact W.lret hc.1 hc.2.1 (hc.2.2.2.1.trans hr) (fun t ht _ => ⟨rfl, by rw [ht]; exact hM, hS.F ht⟩) hS.2.2 hd hc.2.2.2.2.1
end WPM
/-! calls -/
def CallV (own : String) (idx : Nat) (y : MethodName) (mj : MI) (np : Nat) : Prop := Cond.methodLink own idx y ∈ lw_g ∧ Cond.instanceMethod y ∈ lw_g ∧ Cond.selects y.cls y y ∈ lw_g ∧ Cond.initialized y.cls ∈ lw_g ∧ Cond.code y mj.2.1 mj.2.2.1 mj.2.2.2.1 ∈ lw_g ∧ (y.cls ≠ "java/lang/invoke/MethodHandle" ∧ y.cls ≠ "java/lang/invoke/VarHandle" ∧ (parseMethodDescriptor y.desc).map (fun d => d.parameters.length) = some np) ∧ mj.2.2.1 ≤ 21
def CallS (own : String) (idx : Nat) (y : MethodName) (mj : MI) (np : Nat) : Prop := Cond.methodLink own idx y ∈ lw_g ∧ Cond.static y ∈ lw_g ∧ Cond.initialized y.cls ∈ lw_g ∧ Cond.code y mj.2.1 mj.2.2.1 mj.2.2.2.1 ∈ lw_g ∧ (y.cls ≠ "java/lang/invoke/MethodHandle" ∧ y.cls ≠ "java/lang/invoke/VarHandle" ∧ (parseMethodDescriptor y.desc).map (fun d => d.parameters.length) = some np) ∧ mj.2.2.1 ≤ 21
def CallI (own : String) (idx : Nat) (y : MethodName) (mj : MI) (np : Nat) : Prop := Cond.methodLink own idx y ∈ lw_g ∧ Cond.instanceMethod y ∈ lw_g ∧ y.name = "<init>" ∧ Cond.initialized y.cls ∈ lw_g ∧ Cond.code y mj.2.1 mj.2.2.1 none ∈ lw_g ∧ (y.cls ≠ "java/lang/invoke/MethodHandle" ∧ y.cls ≠ "java/lang/invoke/VarHandle" ∧ (parseMethodDescriptor y.desc).map (fun d => d.parameters.length) = some np) ∧ mj.2.2.1 ≤ 21 ∧ mj.2.2.2.1 = none
theorem wsO_good {y : MethodName} {mj : MI} (h : Cond.code y mj.2.1 mj.2.2.1 mj.2.2.2.1 ∈ lw_g) : GoodIn lw_g (wsO y mj) := fun w hw => by
  rcases List.mem_cons.mp hw with rfl | hw
  · exact lw_ggood _ h
  · exact lw_ggood _ hw
theorem Ct.blind {G : GG} {as : List Value} {M : Mem} : FrameBlind (va_Pc as (fun U => KX G U ∧ HM G M U.heap)) := fun a U g mk h => ⟨h.1, h.2.1.blind g mk a, h.2.2⟩
section WPC
variable {G : GG} {mi : MI} {d mc ms : Nat} {res : Option Value} {M' : Mem} {pc : Nat} {lc : List (Option Value)} {M : Mem} {k n : Nat}
theorem va_Run.go {p : Program} {e : Env} {s : State} {m : MethodId} {args : Array Value} {below : List Frame} {meth : Method} {c : Code} {H : Heap} {locs : List Loc} {mc' ms' : Nat} {ls : Array Slot} {st rest : List Value} {res1 : Option Value} {M1 : Mem} {Q : State → Prop} {R : Room} {a : Array Value} (hr : va_Run p (gL G) e R s m args below meth c H locs k n mc' ms' (F0 m pc ls st) rest (QQ G res1 M1 a) (gA G)) (hS : va_S (gA G) s.heap H locs)
    (kk : ∀ (H1 : Heap) (locs1 : List Loc), HM G M1 H1 → va_S (gA G) s.heap H1 locs1 → W p (gL G) e R s m args below meth c H1 locs1 (k + mc') (n + ms') Q (F0 m (pc + 3) ls (res1.toList ++ rest))) : W p (gL G) e R s m args below meth c H locs k n Q (F0 m pc ls st) := by
  intro T hT X
  obtain ⟨v, st₀, t, T', L, h0, X', hL, e1, e2, ⟨hv, hM1, hz, hk⟩, stp⟩ := hr T hT X
  cases hv
  rw [h0] at hz hk
  obtain ⟨t2, a1, b1⟩ := kk T'.heap (locs ++ L) (by rw [e1]; exact hM1)
    ⟨Nat.le_trans hS.1 (by rw [e1]; exact hz), fun q h1 h2 => by rw [e1, hk q (Nat.lt_of_lt_of_le h1 hS.1) h2]; exact hS.2.1 q h1 h2, fun q hq => by
      rcases List.mem_append.mp hq with h | h
      · exact hS.2.2 q h
      · exact hL q h⟩ T' rfl X'
  exact ⟨t2, stp t2 a1, b1⟩
theorem Ct.pre {s : State} {H : Heap} {locs : List Loc} {as : List Value} (hkx : KX G s) (hM : HM G M H) (hS : va_S (gA G) s.heap H locs) : ∀ U : State, U.heap = H → s.WarmedH U.vm → va_Pc as (fun U => KX G U ∧ HM G M U.heap) as.toArray U := fun U hU hW => ⟨rfl, hkx.go hW (by rw [hU]; exact hS.1) (fun a h1 h2 => by rw [hU]; exact hS.2.1 a h1 h2), by rw [hU]; exact hM⟩
theorem wp_callV {idx np b ci d' mc' ms' : Nat} {y : MethodName} {mj : MI} {As st rest : List Value} {fs : List Value} {T : u_T} {N : Nat} {res1 : Option Value} {M1 : Mem} (hd : decode mi.2.1 pc = .ok (.invokevirtual idx, 3)) (hk : CallV mi.1 idx y mj np) (hct : Ct G d' y mj (.ref b :: As) M mc' ms' res1 M1) (hL : b ∈ M.1) (hE : M.2.1 b = .inr (ci, fs)) (hcl : vwCl[ci]? = some (y.cls, T, N)) (hn : As.length = np) (hdd : d' + 1 ≤ d) (hmc : k + mc' ≤ mc) (hms : n + ms' ≤ ms) (hst : st = As.reverse ++ .ref b :: rest) (hsum : (rest.map fun v => v.category).sum ≤ 8)
    (kk : WP G mi d mc ms res M' (pc + 3) lc (res1.toList ++ rest) M1 (k + mc') (n + ms')) : WP G mi d mc ms res M' pc lc st M k n := by
  intro p e s m args below meth c H locs ls hc hM hS hl
  obtain ⟨k1, k2, k3, k4, k5, k6, k7⟩ := hk
  obtain ⟨q, hq⟩ := mpl_get hL
  rw [hE] at hq
  have ht := hc.2.2.2.2.2.2.2.1
  refine va_Run.go (va_runV (C := y.cls) (As := As) (rest := rest) (n := np) (bytes := mj.2.1) (maxL := mj.2.2.1) (ret := mj.2.2.2.1) ⟨hc.1, hc.2.1, hc.2.2.1, hc.2.2.2.2.2.2.1, ht⟩ hct ⟨callB_of np ht (wsO_good k5) rfl rfl rfl (ht _ k4) (ht _ k1) k6 ⟨hdd, by show 8 + (mj.2.2.1 + 11) + 40 * d' ≤ 40 * d; omega⟩, ht _ k2, ht _ k3⟩ ⟨Ct.blind, va_recv hc.2.2.2.2.2.2.2.2.1 hM.2.1 hcl hq, Ct.pre hc.2.2.2.2.2.2.2.2 hM hS⟩ rfl hn hl.1 hst (lv_room hsum) hd ⟨hmc, hms⟩) hS (fun H1 locs1 hM1 hS1 => kk p e s m args below meth c H1 locs1 ls hc hM1 hS1 hl)
theorem wp_callS {idx np d' mc' ms' : Nat} {y : MethodName} {mj : MI} {As st rest : List Value} {res1 : Option Value} {M1 : Mem} (hd : decode mi.2.1 pc = .ok (.invokestatic idx, 3)) (hk : CallS mi.1 idx y mj np) (hct : Ct G d' y mj As M mc' ms' res1 M1) (hn : As.length = np) (hdd : d' + 1 ≤ d) (hmc : k + mc' ≤ mc) (hms : n + ms' ≤ ms) (hst : st = As.reverse ++ rest) (hsum : (rest.map fun v => v.category).sum ≤ 8)
    (kk : WP G mi d mc ms res M' (pc + 3) lc (res1.toList ++ rest) M1 (k + mc') (n + ms')) : WP G mi d mc ms res M' pc lc st M k n := by
  intro p e s m args below meth c H locs ls hc hM hS hl
  obtain ⟨k1, k2, k4, k5, k6, k7⟩ := hk
  have ht := hc.2.2.2.2.2.2.2.1
  refine va_Run.go (va_runS (As := As) (rest := rest) (n := np) (bytes := mj.2.1) (maxL := mj.2.2.1) (ret := mj.2.2.2.1) ⟨hc.1, hc.2.1, hc.2.2.1, hc.2.2.2.2.2.2.1, ht⟩ hct ⟨callB_of np ht (wsO_good k5) rfl rfl rfl (ht _ k4) (ht _ k1) k6 ⟨hdd, by show 8 + (mj.2.2.1 + 11) + 40 * d' ≤ 40 * d; omega⟩, ht _ k2⟩ ⟨Ct.blind, Ct.pre hc.2.2.2.2.2.2.2.2 hM hS⟩ rfl hn hl.1 hst (lv_room hsum) hd ⟨hmc, hms⟩) hS (fun H1 locs1 hM1 hS1 => kk p e s m args below meth c H1 locs1 ls hc hM1 hS1 hl)
theorem wp_callI {idx np b d' mc' ms' : Nat} {y : MethodName} {mj : MI} {As st rest : List Value} {res1 : Option Value} {M1 : Mem} (hd : decode mi.2.1 pc = .ok (.invokespecial idx, 3)) (hk : CallI mi.1 idx y mj np) (hct : Ct G d' y mj (.ref b :: As) M mc' ms' res1 M1) (hn : As.length = np) (hdd : d' + 1 ≤ d) (hmc : k + mc' ≤ mc) (hms : n + ms' ≤ ms) (hst : st = As.reverse ++ .ref b :: rest) (hsum : (rest.map fun v => v.category).sum ≤ 8)
    (kk : WP G mi d mc ms res M' (pc + 3) lc (res1.toList ++ rest) M1 (k + mc') (n + ms')) : WP G mi d mc ms res M' pc lc st M k n := by
  intro p e s m args below meth c H locs ls hc hM hS hl
  obtain ⟨k1, k2, k3, k4, k5, k6, k7, k8⟩ := hk
  have ht := hc.2.2.2.2.2.2.2.1
  have k5' : Cond.code y mj.2.1 mj.2.2.1 mj.2.2.2.1 ∈ lw_g := by rw [k8]; exact k5
  refine va_Run.go (va_runI (ws := wsO y mj) (As := As) (rest := rest) (n := np) (bytes := mj.2.1) (maxL := mj.2.2.1) ⟨hc.1, hc.2.1, hc.2.2.1, hc.2.2.2.2.2.2.1, ht⟩ hct ⟨callB_of np ht (wsO_good k5') (ret := none) (ws' := lw_g) (by show _ :: _ = _; rw [k8]) rfl rfl (ht _ k4) (ht _ k1) k6 ⟨hdd, by show 8 + (mj.2.2.1 + 11) + 40 * d' ≤ 40 * d; omega⟩, k3, ht _ k2⟩ ⟨Ct.blind, Ct.pre hc.2.2.2.2.2.2.2.2 hM hS⟩ rfl hn hl.1 hst (lv_room hsum) hd ⟨hmc, hms⟩) hS (fun H1 locs1 hM1 hS1 => kk p e s m args below meth c H1 locs1 ls hc hM1 hS1 hl)
end WPC
