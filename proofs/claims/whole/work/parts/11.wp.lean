/-! the judgement: memory as a function of addresses -/
/-- the words that stay true as the tables warm -/
def lw_g : List Cond := lw_tbl.filter goodWord
theorem lw_in {w : Cond} (h : w ∈ lw_tbl) (g : goodWord w = true) : w ∈ lw_g := List.mem_filter.mpr ⟨h, g⟩
theorem lw_gin {w : Cond} (h : w ∈ lw_g) : w ∈ lw_tbl := (List.mem_filter.mp h).1
theorem lw_ggood : GoodIn lw_g lw_g := fun w h => ⟨h, good_of_word (List.mem_filter.mp h).2⟩
def nwF : Cond := .fieldLinkNest "LockSimulator$Lock" 63 "LockSimulator$Line" "size" "I" "LockSimulator"
def nwM : Cond := .methodLinkNest "LockSimulator$World" 132 ⟨"LockSimulator", "isObject", "(I)Z"⟩ "LockSimulator"
abbrev GG : Type := Launch × va_G × List (ClassId × FieldType) × Nat × List (String × String × String × Value) × List (FieldType × Nat × Nat × (Nat → Value)) × List (String × String × String × Value × Nat) × List (String × Nat) × List (String × Nat × String × Nat)
def gL (G : GG) : Launch := G.1
def gD (G : GG) : va_G := G.2.1
def gT (G : GG) : List (ClassId × FieldType) := G.2.2.1
def gB (G : GG) : Nat := G.2.2.2.1
def gA (G : GG) : Nat → Prop := fun q => gB G ≤ q
def gZ (G : GG) : List (String × String × String × Value) := G.2.2.2.2.1
def gS (G : GG) : List (FieldType × Nat × Nat × (Nat → Value)) := G.2.2.2.2.2.1
def gF (G : GG) : List (String × String × String × Value × Nat) := G.2.2.2.2.2.2.1
def gO (G : GG) : List (String × Nat) := G.2.2.2.2.2.2.2.1
def gR (G : GG) : List (String × Nat × String × Nat) := G.2.2.2.2.2.2.2.2
abbrev Mem : Type := List Nat × (Nat → va_E) × Nat
abbrev mpl (M : Mem) : va_W := va_pl M.1 M.2.1
def HM (G : GG) (M : Mem) (H : Heap) : Prop := H.size = M.2.2 ∧ va_P (gD G) vwCl (mpl M) H ∧ va_D (gA G) (mpl M)
def aoC : List String := ["LockSimulator$Strand", "LockSimulator$Lock", "LockSimulator$Kind", "LockSimulator$Slot"]
/-- private methods of a superclass, called on an object of a class under it -/
def prC : List MethodName := [yJ5_ensureCapacityInternal_d00df, yJ5_newCapacity_0f7a4, yJ5_putStringAt_47b60, yJ5_inflateIfNeededFor_a7421]
def KX (G : GG) (U : State) : Prop := va_K (gD G) vwCl (gT G) U ∧ (gB G ≤ U.heap.size) ∧ (∀ q ∈ gZ G, va_Z q.1 q.2.1 q.2.2.1 q.2.2.2 (gA G) U U.heap) ∧ (∀ q ∈ gS G, va_T q.1 q.2.1 q.2.2.1 q.2.2.2 (gA G) U U.heap) ∧ (∀ q ∈ gF G, va_OF q.1 q.2.1 q.2.2.1 q.2.2.2.1 q.2.2.2.2 (gA G) U U.heap) ∧ (∀ q ∈ gO G, va_O q.1 q.2 (gA G) U U.heap) ∧ (∀ q ∈ gR G, vk_R q.1 q.2.1 q.2.2.1 q.2.2.2 U) ∧ va_Nw nwF U ∧ va_Nw nwM U ∧ (∀ C ∈ aoC, va_AO C U) ∧ va_Nw (.castable "[B" "java/lang/Cloneable") U ∧ (∀ y ∈ prC, (Cond.privateMethod y).before #[] U = true)
theorem KX.go {G : GG} {s U : State} (h : KX G s) (hW : s.WarmedH U.vm) (hz : s.heap.size ≤ U.heap.size) (hq : ∀ a : Nat, a < s.heap.size → ¬ gA G a → U.heap[a]? = s.heap[a]?) : KX G U := by
  obtain ⟨h1, h0, h2, h3, h4, h5, h6, h7, h8, h9, h10, h11⟩ := h
  have hv := hW.alike
  exact ⟨va_K.moved hv h1, Nat.le_trans h0 hz, fun q g => ((h2 q g).kept hq).moved hv, fun q g => ((h3 q g).kept hq).moved hv, fun q g => ((h4 q g).kept hq).moved hv, fun q g => ((h5 q g).kept hq).moved hv, fun q g => (h6 q g).warm hW, h7.warmF hW, h8.warmM hW, fun C g => (h9 C g).moved hv, h10.warmC hW, fun y g => Cond.privateMethod_warm hW (h11 y g)⟩
theorem KX.blind {G : GG} {U : State} (g : JFrame) (mk : MethodId) (a : Array Value) (h : KX G U) : KX G (U.calling g mk a) :=
  KX.go (U := U.calling g mk a) h (State.WarmedH.refl U) (Nat.le_refl _) (fun _ _ _ => rfl)
def lc_ok (ls : Array Slot) (nL : Nat) (lc : List (Option Value)) : Prop := ls.size = nL ∧ lv_wf ls ∧ ∀ (i : Nat) (v : Value), lc[i]? = some (some v) → ls[i]? = some (.val v)
def rmO (d mc ms : Nat) : Room := { frames := d, cells := mc, slots := ms, locals := 40 * d }
def QQ (G : GG) (res : Option Value) (M' : Mem) : Array Value → State → Outcome → State → Prop := fun _ st oc t => oc = .returned res ∧ HM G M' t.heap ∧ va_F (gA G) st t
abbrev CX (G : GG) (own : String) (cc : ByteArray) (nL : Nat) (rt : Option FieldType) (ini : Bool) (p : Program) (s : State) (m : MethodId) (args : Array Value) (meth : Method) (c : Code) : Prop :=
  p.tables.exec = Jvm.exec ∧ c.code = cc ∧ c.maxLocals = nL ∧ meth.sig.returnType = rt ∧ meth.locks = false ∧ (ini = true → meth.name = "<init>") ∧ s.vm.findClass own = some m.cls ∧ (∀ w ∈ lw_g, w.before args s = true) ∧ KX G s
abbrev MI : Type := String × ByteArray × Nat × Option FieldType × Bool
/-- from pc, locals lc, stack st, memory M, with k cells and n slots made: the method ends with res and the memory M' -/
def WP (G : GG) (mi : MI) (d mc ms : Nat) (res : Option Value) (M' : Mem) (pc : Nat) (lc : List (Option Value)) (st : List Value) (M : Mem) (k n : Nat) : Prop :=
  ∀ (p : Program) (e : Env) (s : State) (m : MethodId) (args : Array Value) (below : List Frame) (meth : Method) (c : Code) (H : Heap) (locs : List Loc) (ls : Array Slot), CX G mi.1 mi.2.1 mi.2.2.1 mi.2.2.2.1 mi.2.2.2.2 p s m args meth c → HM G M H → va_S (gA G) s.heap H locs → lc_ok ls mi.2.2.1 lc →
    W p (gL G) e (rmO d mc ms) s m args below meth c H locs k n (MQ below (QQ G res M') args s mc ms (gA G)) (F0 m pc ls st)
def wsO (y : MethodName) (mi : MI) : List Cond := .code y mi.2.1 mi.2.2.1 mi.2.2.2.1 :: lw_g
/-- a method's contract -/
def Ct (G : GG) (d : Nat) (y : MethodName) (mi : MI) (as : List Value) (M : Mem) (mc ms : Nat) (res : Option Value) (M' : Mem) : Prop :=
  Met (gL G) y (wsO y mi) (rmO d mc ms) (va_Pc as (fun U => KX G U ∧ HM G M U.heap)) (QQ G res M') mc ms (gA G)
/-- the locals at a method's entry -/
def lc_ent : List Value → List (Option Value)
  | [] => []
  | v :: vs => if v.category = 2 then some v :: none :: lc_ent vs else some v :: lc_ent vs
theorem lc_ent_at (vs : List Value) : ∀ (i j : Nat) (v : Value), (lc_ent vs)[i]? = some (some v) → (j + i, v) ∈ lv_args j vs := by
  induction vs with
  | nil => intro i j v h; simp [lc_ent] at h
  | cons u us ih =>
    intro i j v h
    unfold lv_args
    by_cases hc : u.category = 2
    · simp only [lc_ent, hc, if_true] at h ⊢
      match i, h with
      | 0, h => simp at h; subst h; exact List.mem_cons_self
      | 1, h => simp at h
      | i + 2, h =>
        have := ih i (j + 2) v (by simpa using h)
        rw [show j + (i + 2) = j + 2 + i by omega]
        exact List.mem_cons_of_mem _ this
    · simp only [lc_ent, hc, if_false] at h ⊢
      match i, h with
      | 0, h => simp at h; subst h; exact List.mem_cons_self
      | i + 1, h =>
        have := ih i (j + 1) v (by simpa using h)
        rw [show j + (i + 1) = j + 1 + i by omega]
        exact List.mem_cons_of_mem _ this
theorem Ct.of {G : GG} {d : Nat} {y : MethodName} {mi : MI} {as : List Value} {M : Mem} {mc ms : Nat} {res : Option Value} {M' : Mem} (ex : Nat) (hy : plainName y.cls = true) (ho : mi.1 = y.cls) (hini : mi.2.2.2.2 = true → y.name = "<init>") (hlen : (lg_sl as).length ≤ mi.2.2.1)
    (h : WP G mi d mc ms res M' 0 (lc_ent as ++ List.replicate ex none) [] M 0 0) : Ct G d y mi as M mc ms res M' := by
  refine Met.ofW (cc := mi.2.1) (maxL := mi.2.2.1) (ret := mi.2.2.2.1) hy rfl ?_
  intro p e s m args below meth c s₁ B hml hv
  obtain ⟨rfl, hkx, hM⟩ := hv
  have hts : ∀ w ∈ lw_g, w.before as.toArray s = true := fun w hw => atoms_spec (ws := wsO y mi) B.pre w (List.mem_cons_of_mem _ hw)
  have hown : s.vm.findClass y.cls = some m.cls := findClass_of_methodNamed B.named
  have hin := (name_of_methodNamed B.named B.method).1
  have hl := lv_entry as (n := mi.2.2.1) hlen
  rw [lg_entry_eq]
  refine h p e s m as.toArray below meth c s.heap [] _ ⟨B.exec, B.bytes, hml, B.returns, B.notSynchronized, fun q => hin.trans (hini q), by rw [ho]; exact hown, hts, hkx⟩ hM va_S.rf ⟨hl.1, hl.2.1, fun i v hi => ?_⟩
  by_cases hlt : i < (lc_ent as).length
  · rw [List.getElem?_append_left hlt] at hi
    have := lc_ent_at as i 0 v hi
    rw [Nat.zero_add] at this
    exact hl.2.2 _ this
  · rw [List.getElem?_append_right (by omega)] at hi
    rw [List.getElem?_replicate] at hi
    split at hi <;> simp at hi
theorem mpl_get {M : Mem} {a : Nat} (h : a ∈ M.1) : ∃ k : Nat, (mpl M)[k]? = some (a, M.2.1 a) := va_pl_get (X := []) h
theorem mpl_set {A : Nat → Prop} {M : Mem} {a k : Nat} {e : va_E} (hD : va_D A (mpl M)) (h : a ∈ M.1) (hk : (mpl M)[k]? = some (a, M.2.1 a)) : (mpl M).set k (a, e) = mpl (M.1, va_up M.2.1 a e, M.2.2) := va_pl_set (X := []) hD h hk
section LC
variable {ls : Array Slot} {nL : Nat} {lc : List (Option Value)}
theorem lc_asc (h : lc_ok ls nL lc) : lv_has ls nL ((List.range lc.length).filterMap (fun i => (lc[i]?.getD none).map (fun v => (i, v)))) := by
  refine ⟨h.1, h.2.1, fun q hq => ?_⟩
  obtain ⟨i, -, hi⟩ := List.mem_filterMap.mp hq
  cases hx : lc[i]?.getD none with
  | none => rw [hx] at hi; simp at hi
  | some v =>
    rw [hx] at hi
    simp at hi
    subst hi
    refine h.2.2 i v ?_
    cases hy : lc[i]? with
    | none => rw [hy] at hx; simp at hx
    | some z => rw [hy] at hx; simp at hx; rw [hx]
/-- no long begins just ahead of place i -/
def lc_fr (lc : List (Option Value)) (i : Nat) : Bool := match i with
  | 0 => true
  | j + 1 => match lc[j]? with
    | some (some v) => v.category == 1
    | _ => true
theorem lc_put {ls' : Array Slot} {i : Nat} {v : Value} (hf : lc_fr lc i = true) (h' : lv_has ls' nL ((i, v) :: ((List.range lc.length).filterMap (fun i => (lc[i]?.getD none).map (fun v => (i, v)))).filter (fun q => !(q.1 == i) && !(q.1 + 1 == i && q.2.category == 2)))) : lc_ok ls' nL (lc.set i (some v)) := by
  refine ⟨h'.1, h'.2.1, fun j u hj => ?_⟩
  by_cases hij : j = i
  · subst hij
    have hlt : j < lc.length := by
      have := (List.getElem?_eq_some_iff.mp hj).1
      simpa using this
    rw [List.getElem?_set_self hlt] at hj
    cases hj
    exact h'.2.2 (j, v) List.mem_cons_self
  · rw [List.getElem?_set_ne (fun e => hij e.symm)] at hj
    refine h'.2.2 (j, u) (List.mem_cons_of_mem _ (List.mem_filter.mpr ⟨List.mem_filterMap.mpr ⟨j, List.mem_range.mpr (List.getElem?_eq_some_iff.mp hj).1, by rw [hj]; rfl⟩, ?_⟩))
    have h1 : (j == i) = false := by simp [hij]
    simp only [h1, Bool.not_false, Bool.true_and, Bool.not_eq_true', Bool.and_eq_false_iff]
    by_cases h2 : j + 1 = i
    · right
      subst h2
      simp only [lc_fr, hj] at hf
      have : u.category = 1 := by simpa using hf
      simp [this]
    · left
      simp [h2]
theorem lc_get (h : lc_ok ls nL lc) {i : Nat} {v : Value} (hi : lc[i]? = some (some v)) : ls[i]? = some (.val v) := h.2.2 i v hi
end LC
