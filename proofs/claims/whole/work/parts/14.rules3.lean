/-! making cells -/
def NewOK (own : String) (idx ci N : Nat) (fs : List Value) : Prop := ∃ (C : String) (T : u_T) (ty0 : Nat → FieldType), vwCl[ci]? = some (C, T, N) ∧ (∀ w ∈ u_ws C T N, w ∈ lw_g) ∧ (∀ k, k < N → parseFieldDescriptor (T k).2.2.1 = some (ty0 k)) ∧ (∀ j, j < N → defaultValue (ty0 j) = vp_V fs j) ∧ Cond.classLink own idx C ∈ lw_g ∧ Cond.instantiable C N ∈ lw_g ∧ Cond.initialized C ∈ lw_g
def pushM (M : Mem) (e : va_E) : Mem := (M.1 ++ [M.2.2], va_up M.2.1 M.2.2 e, M.2.2 + 1)
theorem mpl_push {G : GG} {M : Mem} {H : Heap} (hM : HM G M H) (e : va_E) : mpl (pushM M e) = mpl M ++ [(M.2.2, e)] := by
  have h : M.2.2 ∉ M.1 := va_pl_fresh (X := []) hM.2.1 (Nat.le_of_eq hM.1)
  exact (va_pl_push h).symm
theorem HM.push {G : GG} {M : Mem} {H H1 : Heap} {e : va_E} (hM : HM G M H) (hB : gB G ≤ H.size) (z1 : H1.size = H.size + 1) (o1 : ∀ q, q < H.size → H1[q]? = H[q]?) (he : va_at (gD G) vwCl (H.size, e) H1) : HM G (pushM M e) H1 := by
  refine ⟨by rw [z1, hM.1]; rfl, ?_, ?_⟩
  · rw [mpl_push hM]
    refine va_P.app (hM.2.1.kept fun k x hx => o1 x.1 ((hM.2.1 k x hx).lt)) (fun k x hx => ?_)
    have hz : k < 1 := (List.getElem?_eq_some_iff.mp hx).1
    rw [show k = 0 by omega] at hx
    cases hx
    rw [← hM.1]
    exact he
  · rw [mpl_push hM]
    exact hM.2.2.push hM.2.1 hM.1.symm (by show gB G ≤ M.2.2; rw [← hM.1]; exact hB)
theorem va_S.push {A : Nat → Prop} {H0 H H1 : Heap} {locs : List Loc} (hS : va_S A H0 H locs) (z1 : H1.size = H.size + 1) (o1 : ∀ q, q < H.size → H1[q]? = H[q]?) : va_S A H0 H1 locs := ⟨Nat.le_trans hS.1 (by omega), fun x h1 h2 => (o1 x (Nat.lt_of_lt_of_le h1 hS.1)).trans (hS.2.1 x h1 h2), hS.2.2⟩
section WPN
variable {G : GG} {mi : MI} {d mc ms : Nat} {res : Option Value} {M' : Mem} {pc : Nat} {lc : List (Option Value)} {st : List Value} {M : Mem} {k n : Nat}
theorem wp_new {idx ci N : Nat} {fs : List Value} (hd : decode mi.2.1 pc = .ok (.new idx, 3)) (hk : NewOK mi.1 idx ci N fs) (hmc : k + 1 ≤ mc) (hms : n + N ≤ ms) (kk : WP G mi d mc ms res M' (pc + 3) lc (.ref M.2.2 :: st) (pushM M (.inr (ci, fs))) (k + 1) (n + N)) : WP G mi d mc ms res M' pc lc st M k n := by
  intro p e s m args below meth c H locs ls hc hM hS hl
  obtain ⟨C, T, ty0, h1, h2, h3, h4, h5, h6, h7⟩ := hk
  have ht := hc.2.2.2.2.2.2.2.1
  have hK := hc.2.2.2.2.2.2.2.2.1
  have hB : gB G ≤ H.size := Nat.le_trans hc.2.2.2.2.2.2.2.2.2.1 hS.1
  have hKn := hK.1 ci _ h1
  refine W.newcK hc.1 hc.2.1 hc.2.2.2.2.2.2.1 (ht _ h5) (ht _ h6) (ht _ h7) rfl hd hmc hms hKn.2.1 hM.1 fun H1 kC hkC e1 z1 o1 => ?_
  rw [← hM.1] at e1 z1 o1
  have e2 : va_at (gD G) vwCl (H.size, .inr (ci, fs)) H1 := ⟨_, h1, (u_born ty0 ht h2 hKn hkC e1 h3).to h4⟩
  exact kk p e s m args below meth c H1 locs ls hc (hM.push hB z1 o1 e2) (hS.push z1 o1) hl
theorem wp_newa {t : Nat} {atype : ArrayType} {cA : ClassId} {z : Int32} {N : Nat} (hd : decode mi.2.1 pc = .ok (.newarray atype, 2)) (hty : atype = .int ∨ atype = .byte) (hw : Cond.arrayClass (newarray.typeOf atype) ∈ lw_g) (ht' : (gT G)[t]? = some (cA, newarray.typeOf atype)) (hn : ¬ z < 0) (hN : z.toNatClampNeg = N) (hb : N * componentBytes (newarray.typeOf atype) ≤ 536870912) (hmc : k + 1 ≤ mc) (hms : n + N ≤ ms) (kk : WP G mi d mc ms res M' (pc + 2) lc (.ref M.2.2 :: st) (pushM M (.inl (cA, N, .inl (fun _ => 0)))) (k + 1) (n + N)) : WP G mi d mc ms res M' pc lc (.int z :: st) M k n := by
  intro p e s m args below meth c H locs ls hc hM hS hl
  have ht := hc.2.2.2.2.2.2.2.1
  have hK := hc.2.2.2.2.2.2.2.2.1
  have hB : gB G ≤ H.size := Nat.le_trans hc.2.2.2.2.2.2.2.2.2.1 hS.1
  refine va_newaK hc.1 hc.2.1 (ht _ hw) rfl hd rfl hn hN hb hmc hms hM.1 fun H1 cA' e1 z1 o1 hAr hNm => ?_
  rw [← hM.1] at e1 z1 o1
  have hcA : cA' = cA := by
    have h := (hK.2 t _ ht').2
    rcases hty with rfl | rfl
    · exact Option.some.inj (hNm.symm.trans h)
    · exact Option.some.inj (hNm.symm.trans h)
  subst hcA
  have e2 : va_at (gD G) vwCl (H.size, .inl (cA', N, .inl (fun _ => 0))) H1 := by
    show H1[H.size]? = some (vp_cell _ _)
    rw [vp_cell_i, e1]
    rcases hty with rfl | rfl <;> rfl
  exact kk p e s m args below meth c H1 locs ls hc (hM.push hB z1 o1 e2) (hS.push z1 o1) hl
theorem wp_anew {t idx : Nat} {C : String} {cA : ClassId} {z : Int32} {N : Nat} (hd : decode mi.2.1 pc = .ok (.anewarray idx, 3)) (hw : Cond.classLink mi.1 idx C ∈ lw_g) (hC : C ∈ aoC) (ht' : (gT G)[t]? = some (cA, .object C)) (hn : ¬ z < 0) (hN : z.toNatClampNeg = N) (hb : N * 4 ≤ 536870912) (hmc : k + 1 ≤ mc) (hms : n + N ≤ ms) (kk : WP G mi d mc ms res M' (pc + 3) lc (.ref M.2.2 :: st) (pushM M (.inl (cA, N, .inr (.inr (.inr (.inr (fun _ => none))))))) (k + 1) (n + N)) : WP G mi d mc ms res M' pc lc (.int z :: st) M k n := by
  intro p e s m args below meth c H locs ls hc hM hS hl
  have ht := hc.2.2.2.2.2.2.2.1
  have hK := hc.2.2.2.2.2.2.2.2.1
  have hB : gB G ≤ H.size := Nat.le_trans hc.2.2.2.2.2.2.2.2.2.1 hS.1
  have hover : va_AO C s := hc.2.2.2.2.2.2.2.2.2.2.2.2.2.2.2.2.2.1 C hC
  subst hN
  refine W.anew hc.1 hc.2.1 hc.2.2.2.2.2.2.1 (ht _ hw) (va_AO.use hover) rfl hd rfl hn hb hmc hms fun cA' kA comp f1 f2 f3 f4 => ?_
  generalize hH1 : H.push ({ cls := cA', slots := Array.replicate z.toNatClampNeg .null, vm := .none } : Cell) = H1
  have z1 : H1.size = H.size + 1 := by rw [← hH1, Array.size_push]
  have e1 : H1[H.size]? = some (arrV cA' z.toNatClampNeg (fun _ => .null)) := by rw [← hH1, Array.getElem?_push_size, ← arrV_new]
  have o1 : ∀ q : Nat, q < H.size → H1[q]? = H[q]? := fun q hq => by rw [← hH1, Array.getElem?_push, if_neg (Nat.ne_of_lt hq)]
  have hcA : cA' = cA := by
    obtain ⟨kA', comp', g1, g2, g3, g4⟩ := (hK.2 t _ ht').2
    exact Option.some.inj (f1.symm.trans g4)
  subst hcA
  have e2 : va_at (gD G) vwCl (H.size, .inl (cA', z.toNatClampNeg, .inr (.inr (.inr (.inr (fun _ => none)))))) H1 := by
    show H1[H.size]? = some (vp_cell _ _)
    rw [vp_cell_q]
    exact e1
  have := kk p e s m args below meth c H1 locs ls hc (hM.push hB z1 o1 e2) (hS.push z1 o1) hl
  rw [← hM.1] at this
  exact this
theorem wp_objInit {idx a : Nat} (hd : decode mi.2.1 pc = .ok (.invokespecial idx, 3)) (h1 : Cond.methodLink mi.1 idx objectInit ∈ lw_g) (h2 : Cond.instanceMethod objectInit ∈ lw_g) (h3 : Cond.code objectInit ⟨#[0xb1]⟩ 1 none ∈ lw_g) (hd1 : 1 ≤ d) (hsum : (st.map fun v => v.category).sum ≤ 8) (kk : WP G mi d mc ms res M' (pc + 3) lc st M k n) : WP G mi d mc ms res M' pc lc (.ref a :: st) M k n := by
  intro p e s m args below meth c H locs ls hc hM hS hl
  have ht := hc.2.2.2.2.2.2.2.1
  exact W.objInit hc.1 hc.2.1 hc.2.2.2.2.2.2.1 (ht _ h1) (ht _ h2) (ht _ h3) rfl (hl.1.trans hc.2.2.1.symm) rfl hd hd1 (by show 2 * 0 + _ + 12 ≤ 40 * d; omega) (kk p e s m args below meth c H locs ls hc hM hS hl)
theorem wp_copy {idx t a0 a1 : Nat} {c1 : ClassId} {n0 n1 : Nat} {f g : Nat → Int32} {ty : FieldType} {sp dp z : Int32} (hd : decode mi.2.1 pc = .ok (.invokestatic idx, 3)) (w1 : Cond.methodLink mi.1 idx arraycopyName ∈ lw_g) (w2 : Cond.native arraycopyName ∈ lw_g) (w3 : Cond.static arraycopyName ∈ lw_g) (w4 : Cond.initialized "java/lang/System" ∈ lw_g)
    (ht' : (gT G)[t]? = some (c1, ty)) (hprim : refKind ty = false) (hs : (a0 ∈ M.1 ∧ M.2.1 a0 = .inl (c1, n0, .inl f)) ∨ (ty, a0, n0, fun j => Value.int (f j)) ∈ gS G) (hL : a1 ∈ M.1) (hE : M.2.1 a1 = .inl (c1, n1, .inl g)) (h1 : ¬ sp < 0) (h2 : ¬ dp < 0) (h3 : ¬ z < 0) (h4 : sp.toNatClampNeg + z.toNatClampNeg ≤ n0) (h5 : dp.toNatClampNeg + z.toNatClampNeg ≤ n1) (hfit : ∀ i, i < z.toNatClampNeg → fits ty (.int (f (sp.toNatClampNeg + i))) = true) (hd1 : 1 ≤ d) (hsum : (st.map fun v => v.category).sum ≤ 8)
    (kk : WP G mi d mc ms res M' (pc + 3) lc st (ups M a1 (.inl (c1, n1, .inl (va_cpy f g sp.toNatClampNeg dp.toNatClampNeg z.toNatClampNeg)))) k n) : WP G mi d mc ms res M' pc lc (.int z :: .int dp :: .ref a1 :: .int sp :: .ref a0 :: st) M k n := by
  intro p e s m args below meth c H locs ls hc hM hS hl
  have ht := hc.2.2.2.2.2.2.2.1
  have hK := hc.2.2.2.2.2.2.2.2.1
  obtain ⟨q, hq⟩ := mpl_get hL
  have hq' := hq
  rw [hE] at hq'
  have hloc : (st.map fun v => v.category).sum + (nativeFrameWords "java/lang/System" "arraycopy" 5 + 11) ≤ (rmO d mc ms).locals := by
    have h0 : nativeFrameWords "java/lang/System" "arraycopy" 5 ≤ 20 := by decide +kernel
    show _ ≤ 40 * d
    omega
  have hsrc : ∃ scr : Cell, H[a0]? = some scr ∧ s.isArrayOf scr ty ∧ scr.vm ≠ .unknown ∧ n0 ≤ scr.slots.size ∧ ∀ j : Nat, j < n0 → scr.slots[j]? = some (.int (f j)) := by
    rcases hs with ⟨g1, g2⟩ | g1
    · obtain ⟨q0, hq0⟩ := mpl_get g1
      rw [g2] at hq0
      have h := hM.2.1 q0 _ hq0
      refine ⟨_, h, (hK.2 t _ ht').1 n0 (fun j => .int (f j)), (fun h => by cases h), ?_, fun j hj => ?_⟩
      · show n0 ≤ (arrV c1 n0 (fun j => .int (f j))).slots.size
        rw [arrV_size]; exact Nat.le_refl _
      · show (arrV c1 n0 (fun j => .int (f j))).slots[j]? = _
        rw [arrV_read _ _ hj]
    · obtain ⟨cell, r1, r2, r3, r4, -, r6, r7⟩ := (hc.2.2.2.2.2.2.2.2.2.2.2.1 _ g1).kept hS.2.1
      exact ⟨cell, r1, r2, r3, r4, r6⟩
  obtain ⟨scr, s1, s2, s3, s4, s5⟩ := hsrc
  exact z_copyi hc.1 hc.2.1 (hc.2.2.1.trans hl.1.symm) hc.2.2.2.2.2.2.1 (ht _ w1) (ht _ w2) (ht _ w3) (ht _ w4) hK hM.2.1 hM.2.2 hS q t s1 s2 s3 s4 s5 hq' ht' hprim h1 h2 h3 h4 h5 hfit hd1 hloc hd (fun H1 locs1 hz hP hD hS1 => kk p e s m args below meth c H1 locs1 ls hc (hM.setz hL hq hz hP hD) hS1 hl)
/-- isObject, called from World as a nest mate -/
theorem wp_callSN {np d' mc' ms' : Nat} {mj : MI} {As rest : List Value} {res1 : Option Value} {M1 : Mem} (hown : mi.1 = "LockSimulator$World") (hd : decode mi.2.1 pc = .ok (.invokestatic 132, 3)) (k2 : Cond.static yX11_isObject ∈ lw_g) (k4 : Cond.initialized RX11 ∈ lw_g) (k5 : Cond.code yX11_isObject mj.2.1 mj.2.2.1 mj.2.2.2.1 ∈ lw_g) (k7 : mj.2.2.1 ≤ 21) (hct : Ct G d' yX11_isObject mj As M mc' ms' res1 M1) (hn : As.length = np) (hnp : np = 1) (hdd : d' + 1 ≤ d) (hmc : k + mc' ≤ mc) (hms : n + ms' ≤ ms) (hst : st = As.reverse ++ rest) (hsum : (rest.map fun v => v.category).sum ≤ 8)
    (kk : WP G mi d mc ms res M' (pc + 3) lc (res1.toList ++ rest) M1 (k + mc') (n + ms')) : WP G mi d mc ms res M' pc lc st M k n := by
  intro p e s m args below meth c H locs ls hc hM hS hl
  have ht := hc.2.2.2.2.2.2.2.1
  subst hnp
  have hM' : va_Nw (.methodLinkNest "LockSimulator$World" 132 yX11_isObject "LockSimulator") s := hc.2.2.2.2.2.2.2.2.2.2.2.2.2.2.2.2.1
  refine va_Run.go (va_runSN (own := "LockSimulator$World") (As := As) (rest := rest) (n := 1) (bytes := mj.2.1) (maxL := mj.2.2.1) (ret := mj.2.2.2.1) ⟨hc.1, hc.2.1, hc.2.2.1, by rw [← hown]; exact hc.2.2.2.2.2.2.1, ht⟩ hct ⟨va_cnB 1 ht (wsO_good k5) rfl rfl rfl hM' (ht _ k4) (by decide +kernel) ⟨hdd, by show 8 + (mj.2.2.1 + 11) + 40 * d' ≤ 40 * d; omega⟩, ht _ k2, trivial⟩ ⟨Ct.blind, Ct.pre hc.2.2.2.2.2.2.2.2 hM hS⟩ rfl hn hl.1 hst (lv_room hsum) hd ⟨hmc, hms⟩) hS (fun H1 locs1 hM1 hS1 => kk p e s m args below meth c H1 locs1 ls hc hM1 hS1 hl)
/-- the same with another memory -/
theorem WP.to {M2 : Mem} (h : M = M2) (kk : WP G mi d mc ms res M' pc lc st M2 k n) : WP G mi d mc ms res M' pc lc st M k n := h ▸ kk
theorem WP.sto {st2 : List Value} (h : st = st2) (kk : WP G mi d mc ms res M' pc lc st2 M k n) : WP G mi d mc ms res M' pc lc st M k n := h ▸ kk
/-- fewer locals are known -/
theorem WP.loc {lc2 : List (Option Value)} (h : ∀ (i : Nat) (v : Value), lc2[i]? = some (some v) → lc[i]? = some (some v)) (kk : WP G mi d mc ms res M' pc lc2 st M k n) : WP G mi d mc ms res M' pc lc st M k n := fun p e s m args below meth c H locs ls hc hM hS hl => kk p e s m args below meth c H locs ls hc hM hS ⟨hl.1, hl.2.1, fun i v hi => hl.2.2 i v (h i v hi)⟩
end WPN
