/-! the reference's region: the object and its seven rows; w lies at 0.. of the state -/
def mSh (G : GG) (Y : Nat) (j : Nat) : Shp := match j with
  | 0 => .inl (11, [some (.ref (Y + 1)), some (.ref (Y + 2)), some (.ref (Y + 3)), some (.ref (Y + 4)), none, some (.ref (Y + 5)), none, some (.ref (Y + 6)), none, some (.ref (Y + 7)), none, none])
  | 1 => .inr (cyI G, 482, none)
  | 2 => .inr (cyI G, 482, none)
  | 3 => .inr (cyI G, 482, none)
  | 4 => .inr (cyI G, 964, none)
  | 5 => .inr (cyI G, 200, none)
  | 6 => .inr (cyI G, 200, none)
  | _ => .inr (cyI G, 400, none)
def mix (j f : Nat) : Nat := match j with
  | 0 => if f = 4 then 9000 else if f = 6 then 9001 else if f = 8 then 9002 else if f = 10 then 9003 else if f = 11 then 9004 else 9999
  | 1 => f
  | 2 => 1000 + f
  | 3 => 2000 + f
  | 4 => 3000 + f
  | 5 => 5000 + f
  | 6 => 6000 + f
  | _ => 7000 + f
abbrev mR (G : GG) (Y : Nat) : Rg := (mSh G Y, mix, Y, 8)
theorem isI_mSh {G : GG} {Y j f : Nat} (hj : j < 8) (h : isI (mSh G Y j) f) : (j = 0 ∧ (f = 4 ∨ f = 6 ∨ f = 8 ∨ f = 10 ∨ f = 11)) ∨ (j = 1 ∧ f < 482) ∨ (j = 2 ∧ f < 482) ∨ (j = 3 ∧ f < 482) ∨ (j = 4 ∧ f < 964) ∨ (j = 5 ∧ f < 200) ∨ (j = 6 ∧ f < 200) ∨ (j = 7 ∧ f < 400) := by
  match j, hj with
  | 0, _ =>
    simp only [mSh, isI] at h
    match f, h with
    | 0, h => simp at h
    | 1, h => simp at h
    | 2, h => simp at h
    | 3, h => simp at h
    | 4, _ => simp
    | 5, h => simp at h
    | 6, _ => simp
    | 7, h => simp at h
    | 8, _ => simp
    | 9, h => simp at h
    | 10, _ => simp
    | 11, _ => simp
    | f + 12, h => simp at h
  | 1, _ => have h : f < 482 := h; omega
  | 2, _ => have h : f < 482 := h; omega
  | 3, _ => have h : f < 482 := h; omega
  | 4, _ => have h : f < 964 := h; omega
  | 5, _ => have h : f < 200 := h; omega
  | 6, _ => have h : f < 200 := h; omega
  | 7, _ => have h : f < 400 := h; omega
def mbk (q : Nat) : Nat × Nat := if q < 1000 then (1, q) else if q < 2000 then (2, q - 1000) else if q < 3000 then (3, q - 2000) else if q < 5000 then (4, q - 3000) else if q < 6000 then (5, q - 5000) else if q < 7000 then (6, q - 6000) else if q < 9000 then (7, q - 7000) else if q = 9000 then (0, 4) else if q = 9001 then (0, 6) else if q = 9002 then (0, 8) else if q = 9003 then (0, 10) else (0, 11)
theorem mbk_ok {G : GG} {Y j f : Nat} (hj : j < 8) (h : isI (mSh G Y j) f) : mbk (mix j f) = (j, f) := by
  rcases isI_mSh hj h with ⟨rfl, rfl | rfl | rfl | rfl | rfl⟩ | ⟨rfl, h⟩ | ⟨rfl, h⟩ | ⟨rfl, h⟩ | ⟨rfl, h⟩ | ⟨rfl, h⟩ | ⟨rfl, h⟩ | ⟨rfl, h⟩
  · rfl
  · rfl
  · rfl
  · rfl
  · rfl
  all_goals
    simp only [mix, mbk]
    repeat (first | rw [if_pos (by omega)] | rw [if_neg (by omega)])
    try simp
theorem mR_ok (G : GG) (Y : Nat) : rOK (mR G Y) := by
  intro j f j' f' hj hj' h h' he
  have e1 := mbk_ok hj h
  have e2 := mbk_ok hj' h'
  have : mix j f = mix j' f' := he
  rw [this] at e1
  have := e1.symm.trans e2
  exact ⟨(Prod.mk.inj this).1, (Prod.mk.inj this).2⟩
abbrev Mm (G : GG) (Y : Nat) (F : Nat → Int32) (E0 : Nat → va_E) (L : List Nat) (sz : Nat) : Mem := Rm (mR G Y) F E0 L sz
theorem nJ_add (a b : Nat) : nI a + nI b = nI (a + b) := by simp [nI, Int32.ofNat_add]
theorem nJ_mul (a b : Nat) : nI a * nI b = nI (a * b) := by simp [nI, Int32.ofNat_mul]
theorem nJ_sub {a b : Nat} (h : b ≤ a) : nI a - nI b = nI (a - b) := by
  obtain ⟨c, rfl⟩ := Nat.exists_eq_add_of_le h
  rw [show b + c - b = c by omega, ← nJ_add, Int32.add_comm, Int32.add_sub_cancel]
section MFL
variable {G : GG} {mi : MI} {d mc ms : Nat} {res : Option Value} {M' : Mem} {pc : Nat} {lc : List (Option Value)} {st : List Value} {k n : Nat} {Y : Nat} {F : Nat → Int32} {E0 : Nat → va_E} {L : List Nat} {sz : Nat} {idx : Nat} {M : Mem}
theorem wp_iaddN {x y : Int32} {a b : Nat} (hx : x = nI a) (hy : y = nI b) (hd : decode mi.2.1 pc = .ok (.iadd, 1)) (kk : WP G mi d mc ms res M' (pc + 1) lc (.int (nI (a + b)) :: st) M k n) : WP G mi d mc ms res M' pc lc (.int y :: .int x :: st) M k n := wp_iadd hd (by rw [hx, hy, nJ_add]; exact kk)
theorem wp_imulN {x y : Int32} {a b : Nat} (hx : x = nI a) (hy : y = nI b) (hd : decode mi.2.1 pc = .ok (.imul, 1)) (kk : WP G mi d mc ms res M' (pc + 1) lc (.int (nI (a * b)) :: st) M k n) : WP G mi d mc ms res M' pc lc (.int y :: .int x :: st) M k n := wp_imul hd (by rw [hx, hy, nJ_mul]; exact kk)
theorem wp_isubN {x y : Int32} {a b : Nat} (hx : x = nI a) (hy : y = nI b) (hab : b ≤ a) (hd : decode mi.2.1 pc = .ok (.isub, 1)) (kk : WP G mi d mc ms res M' (pc + 1) lc (.int (nI (a - b)) :: st) M k n) : WP G mi d mc ms res M' pc lc (.int y :: .int x :: st) M k n := wp_isub hd (by rw [hx, hy, nJ_sub hab]; exact kk)
theorem gm_w (hd : decode mi.2.1 pc = .ok (.getfield idx, 3)) (hk : FldOK mi.1 idx 11 0) (hM : rIn (mR G Y) L) (kk : WP G mi d mc ms res M' (pc + 3) lc (.ref (Y + 1) :: st) (Mm G Y F E0 L sz) k n) : WP G mi d mc ms res M' pc lc (.ref Y :: st) (Mm G Y F E0 L sz) k n := rg_getS (r := mR G Y) (j := 0) hd hk rfl hM (by show _ < 8; omega) rfl rfl kk
theorem gm_aside (hd : decode mi.2.1 pc = .ok (.getfield idx, 3)) (hk : FldOK mi.1 idx 11 1) (hM : rIn (mR G Y) L) (kk : WP G mi d mc ms res M' (pc + 3) lc (.ref (Y + 2) :: st) (Mm G Y F E0 L sz) k n) : WP G mi d mc ms res M' pc lc (.ref Y :: st) (Mm G Y F E0 L sz) k n := rg_getS (r := mR G Y) (j := 0) hd hk rfl hM (by show _ < 8; omega) rfl rfl kk
theorem gm_kept (hd : decode mi.2.1 pc = .ok (.getfield idx, 3)) (hk : FldOK mi.1 idx 11 2) (hM : rIn (mR G Y) L) (kk : WP G mi d mc ms res M' (pc + 3) lc (.ref (Y + 3) :: st) (Mm G Y F E0 L sz) k n) : WP G mi d mc ms res M' pc lc (.ref Y :: st) (Mm G Y F E0 L sz) k n := rg_getS (r := mR G Y) (j := 0) hd hk rfl hM (by show _ < 8; omega) rfl rfl kk
theorem gm_slots (hd : decode mi.2.1 pc = .ok (.getfield idx, 3)) (hk : FldOK mi.1 idx 11 3) (hM : rIn (mR G Y) L) (kk : WP G mi d mc ms res M' (pc + 3) lc (.ref (Y + 4) :: st) (Mm G Y F E0 L sz) k n) : WP G mi d mc ms res M' pc lc (.ref Y :: st) (Mm G Y F E0 L sz) k n := rg_getS (r := mR G Y) (j := 0) hd hk rfl hM (by show _ < 8; omega) rfl rfl kk
theorem gm_text (hd : decode mi.2.1 pc = .ok (.getfield idx, 3)) (hk : FldOK mi.1 idx 11 5) (hM : rIn (mR G Y) L) (kk : WP G mi d mc ms res M' (pc + 3) lc (.ref (Y + 5) :: st) (Mm G Y F E0 L sz) k n) : WP G mi d mc ms res M' pc lc (.ref Y :: st) (Mm G Y F E0 L sz) k n := rg_getS (r := mR G Y) (j := 0) hd hk rfl hM (by show _ < 8; omega) rfl rfl kk
theorem gm_made (hd : decode mi.2.1 pc = .ok (.getfield idx, 3)) (hk : FldOK mi.1 idx 11 7) (hM : rIn (mR G Y) L) (kk : WP G mi d mc ms res M' (pc + 3) lc (.ref (Y + 6) :: st) (Mm G Y F E0 L sz) k n) : WP G mi d mc ms res M' pc lc (.ref Y :: st) (Mm G Y F E0 L sz) k n := rg_getS (r := mR G Y) (j := 0) hd hk rfl hM (by show _ < 8; omega) rfl rfl kk
theorem gm_items (hd : decode mi.2.1 pc = .ok (.getfield idx, 3)) (hk : FldOK mi.1 idx 11 9) (hM : rIn (mR G Y) L) (kk : WP G mi d mc ms res M' (pc + 3) lc (.ref (Y + 7) :: st) (Mm G Y F E0 L sz) k n) : WP G mi d mc ms res M' pc lc (.ref Y :: st) (Mm G Y F E0 L sz) k n := rg_getS (r := mR G Y) (j := 0) hd hk rfl hM (by show _ < 8; omega) rfl rfl kk
theorem gm_filled (hd : decode mi.2.1 pc = .ok (.getfield idx, 3)) (hk : FldOK mi.1 idx 11 4) (hM : rIn (mR G Y) L) (kk : WP G mi d mc ms res M' (pc + 3) lc (.int (F 9000) :: st) (Mm G Y F E0 L sz) k n) : WP G mi d mc ms res M' pc lc (.ref Y :: st) (Mm G Y F E0 L sz) k n := rg_get (r := mR G Y) (j := 0) hd hk rfl hM (by show _ < 8; omega) rfl rfl rfl kk
theorem pm_filled {x : Int32} (hd : decode mi.2.1 pc = .ok (.putfield idx, 3)) (hk : PutOK mi.1 idx 11 4 .int false) (hM : rIn (mR G Y) L) (kk : WP G mi d mc ms res M' (pc + 3) lc st (Mm G Y (upd F 9000 x) E0 L sz) k n) : WP G mi d mc ms res M' pc lc (.int x :: .ref Y :: st) (Mm G Y F E0 L sz) k n := rg_put (r := mR G Y) (j := 0) hd hk rfl (mR_ok G Y) hM (by show _ < 8; omega) rfl rfl rfl rfl rfl kk
theorem gm_length (hd : decode mi.2.1 pc = .ok (.getfield idx, 3)) (hk : FldOK mi.1 idx 11 6) (hM : rIn (mR G Y) L) (kk : WP G mi d mc ms res M' (pc + 3) lc (.int (F 9001) :: st) (Mm G Y F E0 L sz) k n) : WP G mi d mc ms res M' pc lc (.ref Y :: st) (Mm G Y F E0 L sz) k n := rg_get (r := mR G Y) (j := 0) hd hk rfl hM (by show _ < 8; omega) rfl rfl rfl kk
theorem pm_length {x : Int32} (hd : decode mi.2.1 pc = .ok (.putfield idx, 3)) (hk : PutOK mi.1 idx 11 6 .int false) (hM : rIn (mR G Y) L) (kk : WP G mi d mc ms res M' (pc + 3) lc st (Mm G Y (upd F 9001 x) E0 L sz) k n) : WP G mi d mc ms res M' pc lc (.int x :: .ref Y :: st) (Mm G Y F E0 L sz) k n := rg_put (r := mR G Y) (j := 0) hd hk rfl (mR_ok G Y) hM (by show _ < 8; omega) rfl rfl rfl rfl rfl kk
theorem gm_many (hd : decode mi.2.1 pc = .ok (.getfield idx, 3)) (hk : FldOK mi.1 idx 11 8) (hM : rIn (mR G Y) L) (kk : WP G mi d mc ms res M' (pc + 3) lc (.int (F 9002) :: st) (Mm G Y F E0 L sz) k n) : WP G mi d mc ms res M' pc lc (.ref Y :: st) (Mm G Y F E0 L sz) k n := rg_get (r := mR G Y) (j := 0) hd hk rfl hM (by show _ < 8; omega) rfl rfl rfl kk
theorem pm_many {x : Int32} (hd : decode mi.2.1 pc = .ok (.putfield idx, 3)) (hk : PutOK mi.1 idx 11 8 .int false) (hM : rIn (mR G Y) L) (kk : WP G mi d mc ms res M' (pc + 3) lc st (Mm G Y (upd F 9002 x) E0 L sz) k n) : WP G mi d mc ms res M' pc lc (.int x :: .ref Y :: st) (Mm G Y F E0 L sz) k n := rg_put (r := mR G Y) (j := 0) hd hk rfl (mR_ok G Y) hM (by show _ < 8; omega) rfl rfl rfl rfl rfl kk
theorem gm_itemCount (hd : decode mi.2.1 pc = .ok (.getfield idx, 3)) (hk : FldOK mi.1 idx 11 10) (hM : rIn (mR G Y) L) (kk : WP G mi d mc ms res M' (pc + 3) lc (.int (F 9003) :: st) (Mm G Y F E0 L sz) k n) : WP G mi d mc ms res M' pc lc (.ref Y :: st) (Mm G Y F E0 L sz) k n := rg_get (r := mR G Y) (j := 0) hd hk rfl hM (by show _ < 8; omega) rfl rfl rfl kk
theorem pm_itemCount {x : Int32} (hd : decode mi.2.1 pc = .ok (.putfield idx, 3)) (hk : PutOK mi.1 idx 11 10 .int false) (hM : rIn (mR G Y) L) (kk : WP G mi d mc ms res M' (pc + 3) lc st (Mm G Y (upd F 9003 x) E0 L sz) k n) : WP G mi d mc ms res M' pc lc (.int x :: .ref Y :: st) (Mm G Y F E0 L sz) k n := rg_put (r := mR G Y) (j := 0) hd hk rfl (mR_ok G Y) hM (by show _ < 8; omega) rfl rfl rfl rfl rfl kk
theorem gm_at (hd : decode mi.2.1 pc = .ok (.getfield idx, 3)) (hk : FldOK mi.1 idx 11 11) (hM : rIn (mR G Y) L) (kk : WP G mi d mc ms res M' (pc + 3) lc (.int (F 9004) :: st) (Mm G Y F E0 L sz) k n) : WP G mi d mc ms res M' pc lc (.ref Y :: st) (Mm G Y F E0 L sz) k n := rg_get (r := mR G Y) (j := 0) hd hk rfl hM (by show _ < 8; omega) rfl rfl rfl kk
theorem pm_at {x : Int32} (hd : decode mi.2.1 pc = .ok (.putfield idx, 3)) (hk : PutOK mi.1 idx 11 11 .int false) (hM : rIn (mR G Y) L) (kk : WP G mi d mc ms res M' (pc + 3) lc st (Mm G Y (upd F 9004 x) E0 L sz) k n) : WP G mi d mc ms res M' pc lc (.int x :: .ref Y :: st) (Mm G Y F E0 L sz) k n := rg_put (r := mR G Y) (j := 0) hd hk rfl (mR_ok G Y) hM (by show _ < 8; omega) rfl rfl rfl rfl rfl kk
theorem rm_w {i : Int32} {i' : Nat} (hd : decode mi.2.1 pc = .ok (.iaload, 1)) (hG : GOK G) (hM : rIn (mR G Y) L) (hi : i = nI i') (hi' : i' < 482) (kk : WP G mi d mc ms res M' (pc + 1) lc (.int (F (i')) :: st) (Mm G Y F E0 L sz) k n) : WP G mi d mc ms res M' pc lc (.int i :: .ref (Y + 1) :: st) (Mm G Y F E0 L sz) k n := rg_iald (r := mR G Y) (j := 1) hd hG.1 rfl hM (by show _ < 8; omega) rfl hi hi' (by decide) rfl kk
theorem sm_w {i x : Int32} {i' : Nat} (hd : decode mi.2.1 pc = .ok (.iastore, 1)) (hG : GOK G) (hM : rIn (mR G Y) L) (hi : i = nI i') (hi' : i' < 482) (kk : WP G mi d mc ms res M' (pc + 1) lc st (Mm G Y (upd F (i') x) E0 L sz) k n) : WP G mi d mc ms res M' pc lc (.int x :: .int i :: .ref (Y + 1) :: st) (Mm G Y F E0 L sz) k n := rg_iast (r := mR G Y) (j := 1) hd hG.1 rfl (mR_ok G Y) hM (by show _ < 8; omega) rfl hi hi' (by decide) rfl kk
theorem rm_aside {i : Int32} {i' : Nat} (hd : decode mi.2.1 pc = .ok (.iaload, 1)) (hG : GOK G) (hM : rIn (mR G Y) L) (hi : i = nI i') (hi' : i' < 482) (kk : WP G mi d mc ms res M' (pc + 1) lc (.int (F (1000 + i')) :: st) (Mm G Y F E0 L sz) k n) : WP G mi d mc ms res M' pc lc (.int i :: .ref (Y + 2) :: st) (Mm G Y F E0 L sz) k n := rg_iald (r := mR G Y) (j := 2) hd hG.1 rfl hM (by show _ < 8; omega) rfl hi hi' (by decide) rfl kk
theorem sm_aside {i x : Int32} {i' : Nat} (hd : decode mi.2.1 pc = .ok (.iastore, 1)) (hG : GOK G) (hM : rIn (mR G Y) L) (hi : i = nI i') (hi' : i' < 482) (kk : WP G mi d mc ms res M' (pc + 1) lc st (Mm G Y (upd F (1000 + i') x) E0 L sz) k n) : WP G mi d mc ms res M' pc lc (.int x :: .int i :: .ref (Y + 2) :: st) (Mm G Y F E0 L sz) k n := rg_iast (r := mR G Y) (j := 2) hd hG.1 rfl (mR_ok G Y) hM (by show _ < 8; omega) rfl hi hi' (by decide) rfl kk
theorem rm_kept {i : Int32} {i' : Nat} (hd : decode mi.2.1 pc = .ok (.iaload, 1)) (hG : GOK G) (hM : rIn (mR G Y) L) (hi : i = nI i') (hi' : i' < 482) (kk : WP G mi d mc ms res M' (pc + 1) lc (.int (F (2000 + i')) :: st) (Mm G Y F E0 L sz) k n) : WP G mi d mc ms res M' pc lc (.int i :: .ref (Y + 3) :: st) (Mm G Y F E0 L sz) k n := rg_iald (r := mR G Y) (j := 3) hd hG.1 rfl hM (by show _ < 8; omega) rfl hi hi' (by decide) rfl kk
theorem sm_kept {i x : Int32} {i' : Nat} (hd : decode mi.2.1 pc = .ok (.iastore, 1)) (hG : GOK G) (hM : rIn (mR G Y) L) (hi : i = nI i') (hi' : i' < 482) (kk : WP G mi d mc ms res M' (pc + 1) lc st (Mm G Y (upd F (2000 + i') x) E0 L sz) k n) : WP G mi d mc ms res M' pc lc (.int x :: .int i :: .ref (Y + 3) :: st) (Mm G Y F E0 L sz) k n := rg_iast (r := mR G Y) (j := 3) hd hG.1 rfl (mR_ok G Y) hM (by show _ < 8; omega) rfl hi hi' (by decide) rfl kk
theorem rm_slots {i : Int32} {i' : Nat} (hd : decode mi.2.1 pc = .ok (.iaload, 1)) (hG : GOK G) (hM : rIn (mR G Y) L) (hi : i = nI i') (hi' : i' < 964) (kk : WP G mi d mc ms res M' (pc + 1) lc (.int (F (3000 + i')) :: st) (Mm G Y F E0 L sz) k n) : WP G mi d mc ms res M' pc lc (.int i :: .ref (Y + 4) :: st) (Mm G Y F E0 L sz) k n := rg_iald (r := mR G Y) (j := 4) hd hG.1 rfl hM (by show _ < 8; omega) rfl hi hi' (by decide) rfl kk
theorem sm_slots {i x : Int32} {i' : Nat} (hd : decode mi.2.1 pc = .ok (.iastore, 1)) (hG : GOK G) (hM : rIn (mR G Y) L) (hi : i = nI i') (hi' : i' < 964) (kk : WP G mi d mc ms res M' (pc + 1) lc st (Mm G Y (upd F (3000 + i') x) E0 L sz) k n) : WP G mi d mc ms res M' pc lc (.int x :: .int i :: .ref (Y + 4) :: st) (Mm G Y F E0 L sz) k n := rg_iast (r := mR G Y) (j := 4) hd hG.1 rfl (mR_ok G Y) hM (by show _ < 8; omega) rfl hi hi' (by decide) rfl kk
theorem rm_text {i : Int32} {i' : Nat} (hd : decode mi.2.1 pc = .ok (.iaload, 1)) (hG : GOK G) (hM : rIn (mR G Y) L) (hi : i = nI i') (hi' : i' < 200) (kk : WP G mi d mc ms res M' (pc + 1) lc (.int (F (5000 + i')) :: st) (Mm G Y F E0 L sz) k n) : WP G mi d mc ms res M' pc lc (.int i :: .ref (Y + 5) :: st) (Mm G Y F E0 L sz) k n := rg_iald (r := mR G Y) (j := 5) hd hG.1 rfl hM (by show _ < 8; omega) rfl hi hi' (by decide) rfl kk
theorem sm_text {i x : Int32} {i' : Nat} (hd : decode mi.2.1 pc = .ok (.iastore, 1)) (hG : GOK G) (hM : rIn (mR G Y) L) (hi : i = nI i') (hi' : i' < 200) (kk : WP G mi d mc ms res M' (pc + 1) lc st (Mm G Y (upd F (5000 + i') x) E0 L sz) k n) : WP G mi d mc ms res M' pc lc (.int x :: .int i :: .ref (Y + 5) :: st) (Mm G Y F E0 L sz) k n := rg_iast (r := mR G Y) (j := 5) hd hG.1 rfl (mR_ok G Y) hM (by show _ < 8; omega) rfl hi hi' (by decide) rfl kk
theorem rm_made {i : Int32} {i' : Nat} (hd : decode mi.2.1 pc = .ok (.iaload, 1)) (hG : GOK G) (hM : rIn (mR G Y) L) (hi : i = nI i') (hi' : i' < 200) (kk : WP G mi d mc ms res M' (pc + 1) lc (.int (F (6000 + i')) :: st) (Mm G Y F E0 L sz) k n) : WP G mi d mc ms res M' pc lc (.int i :: .ref (Y + 6) :: st) (Mm G Y F E0 L sz) k n := rg_iald (r := mR G Y) (j := 6) hd hG.1 rfl hM (by show _ < 8; omega) rfl hi hi' (by decide) rfl kk
theorem sm_made {i x : Int32} {i' : Nat} (hd : decode mi.2.1 pc = .ok (.iastore, 1)) (hG : GOK G) (hM : rIn (mR G Y) L) (hi : i = nI i') (hi' : i' < 200) (kk : WP G mi d mc ms res M' (pc + 1) lc st (Mm G Y (upd F (6000 + i') x) E0 L sz) k n) : WP G mi d mc ms res M' pc lc (.int x :: .int i :: .ref (Y + 6) :: st) (Mm G Y F E0 L sz) k n := rg_iast (r := mR G Y) (j := 6) hd hG.1 rfl (mR_ok G Y) hM (by show _ < 8; omega) rfl hi hi' (by decide) rfl kk
theorem rm_items {i : Int32} {i' : Nat} (hd : decode mi.2.1 pc = .ok (.iaload, 1)) (hG : GOK G) (hM : rIn (mR G Y) L) (hi : i = nI i') (hi' : i' < 400) (kk : WP G mi d mc ms res M' (pc + 1) lc (.int (F (7000 + i')) :: st) (Mm G Y F E0 L sz) k n) : WP G mi d mc ms res M' pc lc (.int i :: .ref (Y + 7) :: st) (Mm G Y F E0 L sz) k n := rg_iald (r := mR G Y) (j := 7) hd hG.1 rfl hM (by show _ < 8; omega) rfl hi hi' (by decide) rfl kk
theorem sm_items {i x : Int32} {i' : Nat} (hd : decode mi.2.1 pc = .ok (.iastore, 1)) (hG : GOK G) (hM : rIn (mR G Y) L) (hi : i = nI i') (hi' : i' < 400) (kk : WP G mi d mc ms res M' (pc + 1) lc st (Mm G Y (upd F (7000 + i') x) E0 L sz) k n) : WP G mi d mc ms res M' pc lc (.int x :: .int i :: .ref (Y + 7) :: st) (Mm G Y F E0 L sz) k n := rg_iast (r := mR G Y) (j := 7) hd hG.1 rfl (mR_ok G Y) hM (by show _ < 8; omega) rfl hi hi' (by decide) rfl kk
end MFL
section MPA
variable {G : GG} {mi : MI} {d mc ms : Nat} {res : Option Value} {M' : Mem} {pc : Nat} {lc : List (Option Value)} {k n : Nat} {Y : Nat} {F : Nat → Int32} {E0 : Nat → va_E} {L : List Nat} {sz : Nat} {idx d' : Nat} {y : MethodName} {mj : MI} {rest : List Value} {T : u_T} {N : Nat} {M1 M : Mem} {a1 a2 a3 a4 a5 v : Value}
theorem mi_0 (hd : decode mi.2.1 pc = .ok (.invokevirtual idx, 3)) (hk : CallV mi.1 idx y mj 0) (hct : Ct G d' y mj [.ref Y] (Mm G Y F E0 L sz) 0 0 (some v) M1) (hM : rIn (mR G Y) L) (hcl : vwCl[11]? = some (y.cls, T, N)) (hdd : d' + 1 ≤ d) (hsum : (rest.map fun v => v.category).sum ≤ 8) (hmc : k ≤ mc) (hms : n ≤ ms) (kk : WP G mi d mc ms res M' (pc + 3) lc (v :: rest) M1 k n) : WP G mi d mc ms res M' pc lc (.ref Y :: rest) (Mm G Y F E0 L sz) k n := rg_callV (r := mR G Y) (j := 0) hd hk hct rfl hM (by show _ < 8; omega) rfl hcl rfl hdd hmc hms rfl hsum kk
theorem mv_0 (hd : decode mi.2.1 pc = .ok (.invokevirtual idx, 3)) (hk : CallV mi.1 idx y mj 0) (hct : Ct G d' y mj [.ref Y] (Mm G Y F E0 L sz) 0 0 none M1) (hM : rIn (mR G Y) L) (hcl : vwCl[11]? = some (y.cls, T, N)) (hdd : d' + 1 ≤ d) (hsum : (rest.map fun v => v.category).sum ≤ 8) (hmc : k ≤ mc) (hms : n ≤ ms) (kk : WP G mi d mc ms res M' (pc + 3) lc rest M1 k n) : WP G mi d mc ms res M' pc lc (.ref Y :: rest) (Mm G Y F E0 L sz) k n := rg_callV (r := mR G Y) (j := 0) hd hk hct rfl hM (by show _ < 8; omega) rfl hcl rfl hdd hmc hms rfl hsum kk
theorem mi_1 (hd : decode mi.2.1 pc = .ok (.invokevirtual idx, 3)) (hk : CallV mi.1 idx y mj 1) (hct : Ct G d' y mj [.ref Y, a1] (Mm G Y F E0 L sz) 0 0 (some v) M1) (hM : rIn (mR G Y) L) (hcl : vwCl[11]? = some (y.cls, T, N)) (hdd : d' + 1 ≤ d) (hsum : (rest.map fun v => v.category).sum ≤ 8) (hmc : k ≤ mc) (hms : n ≤ ms) (kk : WP G mi d mc ms res M' (pc + 3) lc (v :: rest) M1 k n) : WP G mi d mc ms res M' pc lc (a1 :: .ref Y :: rest) (Mm G Y F E0 L sz) k n := rg_callV (r := mR G Y) (j := 0) hd hk hct rfl hM (by show _ < 8; omega) rfl hcl rfl hdd hmc hms rfl hsum kk
theorem mv_1 (hd : decode mi.2.1 pc = .ok (.invokevirtual idx, 3)) (hk : CallV mi.1 idx y mj 1) (hct : Ct G d' y mj [.ref Y, a1] (Mm G Y F E0 L sz) 0 0 none M1) (hM : rIn (mR G Y) L) (hcl : vwCl[11]? = some (y.cls, T, N)) (hdd : d' + 1 ≤ d) (hsum : (rest.map fun v => v.category).sum ≤ 8) (hmc : k ≤ mc) (hms : n ≤ ms) (kk : WP G mi d mc ms res M' (pc + 3) lc rest M1 k n) : WP G mi d mc ms res M' pc lc (a1 :: .ref Y :: rest) (Mm G Y F E0 L sz) k n := rg_callV (r := mR G Y) (j := 0) hd hk hct rfl hM (by show _ < 8; omega) rfl hcl rfl hdd hmc hms rfl hsum kk
theorem mi_2 (hd : decode mi.2.1 pc = .ok (.invokevirtual idx, 3)) (hk : CallV mi.1 idx y mj 2) (hct : Ct G d' y mj [.ref Y, a1, a2] (Mm G Y F E0 L sz) 0 0 (some v) M1) (hM : rIn (mR G Y) L) (hcl : vwCl[11]? = some (y.cls, T, N)) (hdd : d' + 1 ≤ d) (hsum : (rest.map fun v => v.category).sum ≤ 8) (hmc : k ≤ mc) (hms : n ≤ ms) (kk : WP G mi d mc ms res M' (pc + 3) lc (v :: rest) M1 k n) : WP G mi d mc ms res M' pc lc (a2 :: a1 :: .ref Y :: rest) (Mm G Y F E0 L sz) k n := rg_callV (r := mR G Y) (j := 0) hd hk hct rfl hM (by show _ < 8; omega) rfl hcl rfl hdd hmc hms rfl hsum kk
theorem mv_2 (hd : decode mi.2.1 pc = .ok (.invokevirtual idx, 3)) (hk : CallV mi.1 idx y mj 2) (hct : Ct G d' y mj [.ref Y, a1, a2] (Mm G Y F E0 L sz) 0 0 none M1) (hM : rIn (mR G Y) L) (hcl : vwCl[11]? = some (y.cls, T, N)) (hdd : d' + 1 ≤ d) (hsum : (rest.map fun v => v.category).sum ≤ 8) (hmc : k ≤ mc) (hms : n ≤ ms) (kk : WP G mi d mc ms res M' (pc + 3) lc rest M1 k n) : WP G mi d mc ms res M' pc lc (a2 :: a1 :: .ref Y :: rest) (Mm G Y F E0 L sz) k n := rg_callV (r := mR G Y) (j := 0) hd hk hct rfl hM (by show _ < 8; omega) rfl hcl rfl hdd hmc hms rfl hsum kk
theorem mi_3 (hd : decode mi.2.1 pc = .ok (.invokevirtual idx, 3)) (hk : CallV mi.1 idx y mj 3) (hct : Ct G d' y mj [.ref Y, a1, a2, a3] (Mm G Y F E0 L sz) 0 0 (some v) M1) (hM : rIn (mR G Y) L) (hcl : vwCl[11]? = some (y.cls, T, N)) (hdd : d' + 1 ≤ d) (hsum : (rest.map fun v => v.category).sum ≤ 8) (hmc : k ≤ mc) (hms : n ≤ ms) (kk : WP G mi d mc ms res M' (pc + 3) lc (v :: rest) M1 k n) : WP G mi d mc ms res M' pc lc (a3 :: a2 :: a1 :: .ref Y :: rest) (Mm G Y F E0 L sz) k n := rg_callV (r := mR G Y) (j := 0) hd hk hct rfl hM (by show _ < 8; omega) rfl hcl rfl hdd hmc hms rfl hsum kk
theorem mv_3 (hd : decode mi.2.1 pc = .ok (.invokevirtual idx, 3)) (hk : CallV mi.1 idx y mj 3) (hct : Ct G d' y mj [.ref Y, a1, a2, a3] (Mm G Y F E0 L sz) 0 0 none M1) (hM : rIn (mR G Y) L) (hcl : vwCl[11]? = some (y.cls, T, N)) (hdd : d' + 1 ≤ d) (hsum : (rest.map fun v => v.category).sum ≤ 8) (hmc : k ≤ mc) (hms : n ≤ ms) (kk : WP G mi d mc ms res M' (pc + 3) lc rest M1 k n) : WP G mi d mc ms res M' pc lc (a3 :: a2 :: a1 :: .ref Y :: rest) (Mm G Y F E0 L sz) k n := rg_callV (r := mR G Y) (j := 0) hd hk hct rfl hM (by show _ < 8; omega) rfl hcl rfl hdd hmc hms rfl hsum kk
theorem mi_4 (hd : decode mi.2.1 pc = .ok (.invokevirtual idx, 3)) (hk : CallV mi.1 idx y mj 4) (hct : Ct G d' y mj [.ref Y, a1, a2, a3, a4] (Mm G Y F E0 L sz) 0 0 (some v) M1) (hM : rIn (mR G Y) L) (hcl : vwCl[11]? = some (y.cls, T, N)) (hdd : d' + 1 ≤ d) (hsum : (rest.map fun v => v.category).sum ≤ 8) (hmc : k ≤ mc) (hms : n ≤ ms) (kk : WP G mi d mc ms res M' (pc + 3) lc (v :: rest) M1 k n) : WP G mi d mc ms res M' pc lc (a4 :: a3 :: a2 :: a1 :: .ref Y :: rest) (Mm G Y F E0 L sz) k n := rg_callV (r := mR G Y) (j := 0) hd hk hct rfl hM (by show _ < 8; omega) rfl hcl rfl hdd hmc hms rfl hsum kk
theorem mv_4 (hd : decode mi.2.1 pc = .ok (.invokevirtual idx, 3)) (hk : CallV mi.1 idx y mj 4) (hct : Ct G d' y mj [.ref Y, a1, a2, a3, a4] (Mm G Y F E0 L sz) 0 0 none M1) (hM : rIn (mR G Y) L) (hcl : vwCl[11]? = some (y.cls, T, N)) (hdd : d' + 1 ≤ d) (hsum : (rest.map fun v => v.category).sum ≤ 8) (hmc : k ≤ mc) (hms : n ≤ ms) (kk : WP G mi d mc ms res M' (pc + 3) lc rest M1 k n) : WP G mi d mc ms res M' pc lc (a4 :: a3 :: a2 :: a1 :: .ref Y :: rest) (Mm G Y F E0 L sz) k n := rg_callV (r := mR G Y) (j := 0) hd hk hct rfl hM (by show _ < 8; omega) rfl hcl rfl hdd hmc hms rfl hsum kk
end MPA
