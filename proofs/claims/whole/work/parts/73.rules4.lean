/-! calls of inherited methods, of a superclass's own, and on old objects -/
theorem sel_priv {y : MethodName} {C : String} {s : State} {args : Array Value} {n : Nat} (hy : y.cls ≠ "java/lang/invoke/MethodHandle" ∧ y.cls ≠ "java/lang/invoke/VarHandle") (hins : (Cond.instantiable C n).before args s = true) (hpriv : (Cond.privateMethod y).before args s = true) (hinst : (Cond.instanceMethod y).before args s = true) (hsame : (Cond.sameMethod y.cls y.cls y.name y.desc).before args s = true) : (Cond.selects C y y).before args s = true := by
  obtain ⟨c, k, hc, hk, -, -, -, -⟩ := Cond.instantiable_spec hins
  obtain ⟨mk, methM, hnamed, hmethM, -, -⟩ := Cond.instanceMethod_spec hinst
  obtain ⟨c2, ck, r, g1, g2, g3, g4, g5⟩ := Cond.sameMethod_found hsame
  have hfound : s.methodFound? y.cls y.name y.desc = some mk := State.methodFound?_of_named hnamed hy
  have hcls : mk.cls = c2 := Option.some.inj ((findClass_of_methodNamed hnamed).symm.trans g1)
  have hsel : selectMethod {} s.vm c mk = .method mk := selectMethod_private hmethM (Cond.privateMethod_at hpriv mk methM hnamed hmethM)
  simp only [Cond.before, Cond.holds, Cond.value, hc, hfound, hnamed, hsel, hcls, g2]
  simp; exact g3
def CallU (own : String) (idx : Nat) (C : String) (y : MethodName) (mj : MI) (np : Nat) : Prop := Cond.methodLink own idx y ∈ lw_g ∧ Cond.sameMethod y.cls y.cls y.name y.desc ∈ lw_g ∧ (Cond.selects C y y ∈ lw_g ∨ (y ∈ prC ∧ ∃ n, Cond.instantiable C n ∈ lw_g)) ∧ Cond.instanceMethod y ∈ lw_g ∧ Cond.initialized y.cls ∈ lw_g ∧ Cond.code y mj.2.1 mj.2.2.1 mj.2.2.2.1 ∈ lw_g ∧ (y.cls ≠ "java/lang/invoke/MethodHandle" ∧ y.cls ≠ "java/lang/invoke/VarHandle" ∧ (parseMethodDescriptor y.desc).map (fun d => d.parameters.length) = some np) ∧ mj.2.2.1 ≤ 21
def CallP (own : String) (idx : Nat) (y : MethodName) (mj : MI) (np : Nat) : Prop := Cond.methodLink own idx y ∈ lw_g ∧ Cond.sameMethod y.cls y.cls y.name y.desc ∈ lw_g ∧ Cond.superclass own y.cls ∈ lw_g ∧ Cond.instanceMethod y ∈ lw_g ∧ Cond.initialized y.cls ∈ lw_g ∧ Cond.code y mj.2.1 mj.2.2.1 mj.2.2.2.1 ∈ lw_g ∧ (y.name ≠ "<init>" ∧ (parseMethodDescriptor y.desc).map (fun d => d.parameters.length) = some np) ∧ mj.2.2.1 ≤ 21
section WPU
variable {G : GG} {mi : MI} {d mc ms : Nat} {res : Option Value} {M' : Mem} {pc : Nat} {lc : List (Option Value)} {M : Mem} {k n : Nat}
theorem wp_callU {idx np b ci d' mc' ms' : Nat} {C : String} {y : MethodName} {mj : MI} {As st rest : List Value} {fs : List Value} {T : u_T} {N : Nat} {res1 : Option Value} {M1 : Mem} (hd : decode mi.2.1 pc = .ok (.invokevirtual idx, 3)) (hk : CallU mi.1 idx C y mj np) (hct : Ct G d' y mj (.ref b :: As) M mc' ms' res1 M1) (hL : b ∈ M.1) (hE : M.2.1 b = .inr (ci, fs)) (hcl : vwCl[ci]? = some (C, T, N)) (hn : As.length = np) (hdd : d' + 1 ≤ d) (hmc : k + mc' ≤ mc) (hms : n + ms' ≤ ms) (hst : st = As.reverse ++ .ref b :: rest) (hsum : (rest.map fun v => v.category).sum ≤ 8)
    (kk : WP G mi d mc ms res M' (pc + 3) lc (res1.toList ++ rest) M1 (k + mc') (n + ms')) : WP G mi d mc ms res M' pc lc st M k n := by
  intro p e s m args below meth c H locs ls hc hM hS hl
  obtain ⟨k1, k2, k3, k4, k5, k6, k7, k8⟩ := hk
  obtain ⟨q, hq⟩ := mpl_get hL
  rw [hE] at hq
  have ht := hc.2.2.2.2.2.2.2.1
  have hsel : (Cond.selects C y y).before args s = true := by
    rcases k3 with k3 | ⟨g1, n', g2⟩
    · exact ht _ k3
    · exact sel_priv ⟨k7.1, k7.2.1⟩ (ht _ g2) (Cond.privateMethod_warm (State.WarmedH.refl s) (hc.2.2.2.2.2.2.2.2.2.2.2.2.2.2.2.2.2.2.2 y g1)) (ht _ k4) (ht _ k2)
  have hlen : ∀ sig, parseMethodDescriptor y.desc = some sig → np = sig.parameters.length := fun sig h => by
    have h2 := k7.2.2
    rw [h] at h2
    exact (Option.some.inj h2).symm
  refine va_Run.go (va_runU (C := C) (owner := y.cls) (x := y) (As := As) (rest := rest) (n := np) (bytes := mj.2.1) (maxL := mj.2.2.1) (ret := mj.2.2.2.1) ⟨hc.1, hc.2.1, hc.2.2.1, hc.2.2.2.2.2.2.1, ht⟩ hct ⟨⟨rfl, rfl, hdd, by show 8 + (mj.2.2.1 + 11) + 40 * d' ≤ 40 * d; omega, pay_in ht (wsO_good k6), List.mem_cons_self⟩, ht _ k6, ht _ k5, ⟨k7.1, k7.2.1⟩, hlen, ht _ k1, ht _ k2, va_Decl.of (ht _ k4) (ht _ k6), hsel, ht _ k4⟩ ⟨Ct.blind, va_recv hc.2.2.2.2.2.2.2.2.1 hM.2.1 hcl hq, Ct.pre hc.2.2.2.2.2.2.2.2 hM hS⟩ rfl hn hl.1 hst (lv_room hsum) hd ⟨hmc, hms⟩) hS (fun H1 locs1 hM1 hS1 => kk p e s m args below meth c H1 locs1 ls hc hM1 hS1 hl)
theorem wp_callP {idx np b ci d' mc' ms' : Nat} {C : String} {y : MethodName} {mj : MI} {As st rest : List Value} {fs : List Value} {T : u_T} {N : Nat} {res1 : Option Value} {M1 : Mem} (hd : decode mi.2.1 pc = .ok (.invokespecial idx, 3)) (hk : CallP mi.1 idx y mj np) (hct : Ct G d' y mj (.ref b :: As) M mc' ms' res1 M1) (hL : b ∈ M.1) (hE : M.2.1 b = .inr (ci, fs)) (hcl : vwCl[ci]? = some (C, T, N)) (hn : As.length = np) (hdd : d' + 1 ≤ d) (hmc : k + mc' ≤ mc) (hms : n + ms' ≤ ms) (hst : st = As.reverse ++ .ref b :: rest) (hsum : (rest.map fun v => v.category).sum ≤ 8)
    (kk : WP G mi d mc ms res M' (pc + 3) lc (res1.toList ++ rest) M1 (k + mc') (n + ms')) : WP G mi d mc ms res M' pc lc st M k n := by
  intro p e s m args below meth c H locs ls hc hM hS hl
  obtain ⟨k1, k2, k3, k4, k5, k6, k7, k8⟩ := hk
  obtain ⟨q, hq⟩ := mpl_get hL
  rw [hE] at hq
  have ht := hc.2.2.2.2.2.2.2.1
  have hlen : ∀ sig, parseMethodDescriptor y.desc = some sig → np = sig.parameters.length := fun sig h => by
    have h2 := k7.2
    rw [h] at h2
    exact (Option.some.inj h2).symm
  have hKn := hc.2.2.2.2.2.2.2.2.1.1 ci _ hcl
  refine va_Run.go (va_runSU (C := C) (As := As) (rest := rest) (n := np) (bytes := mj.2.1) (maxL := mj.2.2.1) (ret := mj.2.2.2.1) hKn.2 ⟨hc.1, hc.2.1, hc.2.2.1, hc.2.2.2.2.2.2.1, ht⟩ hct ⟨⟨rfl, rfl, hdd, by show 8 + (mj.2.2.1 + 11) + 40 * d' ≤ 40 * d; omega, pay_in ht (wsO_good k6), List.mem_cons_self⟩, ht _ k1, ht _ k2, ht _ k3, ht _ k4, ht _ k5, ht _ k6, k7.1, hlen⟩ ⟨Ct.blind, va_recv hc.2.2.2.2.2.2.2.2.1 hM.2.1 hcl hq, Ct.pre hc.2.2.2.2.2.2.2.2 hM hS⟩ rfl hn hl.1 hst (lv_room hsum) hd ⟨hmc, hms⟩) hS (fun H1 locs1 hM1 hS1 => kk p e s m args below meth c H1 locs1 ls hc hM1 hS1 hl)
/-- a call on an old object of the method's own class -/
theorem wp_callO {idx np b d' mc' ms' : Nat} {y : MethodName} {mj : MI} {As st rest : List Value} {res1 : Option Value} {M1 : Mem} (hd : decode mi.2.1 pc = .ok (.invokevirtual idx, 3)) (hk : CallV mi.1 idx y mj np) (hct : Ct G d' y mj (.ref b :: As) M mc' ms' res1 M1) (hO : (y.cls, b) ∈ gO G) (hn : As.length = np) (hdd : d' + 1 ≤ d) (hmc : k + mc' ≤ mc) (hms : n + ms' ≤ ms) (hst : st = As.reverse ++ .ref b :: rest) (hsum : (rest.map fun v => v.category).sum ≤ 8)
    (kk : WP G mi d mc ms res M' (pc + 3) lc (res1.toList ++ rest) M1 (k + mc') (n + ms')) : WP G mi d mc ms res M' pc lc st M k n := by
  intro p e s m args below meth c H locs ls hc hM hS hl
  obtain ⟨k1, k2, k3, k4, k5, k6, k7⟩ := hk
  have ht := hc.2.2.2.2.2.2.2.1
  have hKX := hc.2.2.2.2.2.2.2.2
  obtain ⟨cell, r1, r2, r3, -⟩ := (hKX.2.2.2.2.2.1 _ hO).kept hS.2.1
  refine va_Run.go (va_runV (C := y.cls) (As := As) (rest := rest) (n := np) (bytes := mj.2.1) (maxL := mj.2.2.1) (ret := mj.2.2.2.1) ⟨hc.1, hc.2.1, hc.2.2.1, hc.2.2.2.2.2.2.1, ht⟩ hct ⟨callB_of np ht (wsO_good k5) rfl rfl rfl (ht _ k4) (ht _ k1) k6 ⟨hdd, by show 8 + (mj.2.2.1 + 11) + 40 * d' ≤ 40 * d; omega⟩, ht _ k2, ht _ k3⟩ ⟨Ct.blind, ⟨cell, r1, r2, r3⟩, Ct.pre hc.2.2.2.2.2.2.2.2 hM hS⟩ rfl hn hl.1 hst (lv_room hsum) hd ⟨hmc, hms⟩) hS (fun H1 locs1 hM1 hS1 => kk p e s m args below meth c H1 locs1 ls hc hM1 hS1 hl)
end WPU
