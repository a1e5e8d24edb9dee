/-! the world's region: 56 cells; its numbers lie as the reference lays them -/
def cyI (G : GG) : ClassId := ((gT G).getD 0 (0, .int)).1
def cyB (G : GG) : ClassId := ((gT G).getD 1 (0, .int)).1
def cyS (G : GG) : ClassId := ((gT G).getD 2 (0, .int)).1
def cyL (G : GG) : ClassId := ((gT G).getD 3 (0, .int)).1
def cyK (G : GG) : ClassId := ((gT G).getD 4 (0, .int)).1
def cyT (G : GG) : ClassId := ((gT G).getD 5 (0, .int)).1
def GOK (G : GG) : Prop := (gT G)[0]? = some (cyI G, .int) ∧ (gT G)[1]? = some (cyB G, .byte) ∧ (gT G)[2]? = some (cyS G, .object "LockSimulator$Strand") ∧ (gT G)[3]? = some (cyL G, .object "LockSimulator$Lock") ∧ (gT G)[4]? = some (cyK G, .object "LockSimulator$Kind") ∧ (gT G)[5]? = some (cyT G, .object "LockSimulator$Slot")
def wkd (j : Nat) : Nat := if j < 7 then j else if j < 13 then 7 else if j < 53 then 8 + (j - 13) % 5 else 13
def wnu (j : Nat) : Nat := if j < 13 then j - 7 else if j < 53 then (j - 13) / 5 else j - 53
def aSt (B t : Nat) : Nat := B + (7 + t)
def aLk (B o : Nat) : Nat := B + (13 + 5 * o)
def aQ (B o : Nat) : Nat := B + (14 + 5 * o)
def aQm (B o : Nat) : Nat := B + (15 + 5 * o)
def aW (B o : Nat) : Nat := B + (16 + 5 * o)
def aWm (B o : Nat) : Nat := B + (17 + 5 * o)
def aKd (B c : Nat) : Nat := B + (53 + c)
def wShK (G : GG) (B : Nat) (x y : Nat) : Shp := match x with
  | 0 => .inl (9, [some (.ref (B + 1)), some (.ref (B + 3)), some (.ref (B + 4)), some (.ref (B + 5)), some (.ref (B + 6)), none, none, none])
  | 1 => .inl (6, [some (.ref (B + 2))])
  | 2 => .inr (cyI G, 8, none)
  | 3 => .inr (cyI G, 9, none)
  | 4 => .inr (cyS G, 6, some (fun t => some (aSt B t)))
  | 5 => .inr (cyL G, 8, some (fun o => some (aLk B o)))
  | 6 => .inr (cyK G, 3, some (fun c => some (aKd B c)))
  | 7 => .inl (8, [none, none, none, none, none, none])
  | 8 => .inl (4, [some (.int (nI (y))), some (.int (nI (y % 3))), none, none, none, none, none, none, none, none, some (.ref (aQ B (y))), some (.ref (aW B (y)))])
  | 9 => .inl (3, [some (.ref (aQm B (y))), none])
  | 10 => .inr (cyI G, 6, none)
  | 11 => .inl (3, [some (.ref (aWm B (y))), none])
  | 12 => .inr (cyI G, 6, none)
  | _ => .inl (2, [none, none, none])
def wSh (G : GG) (B : Nat) (j : Nat) : Shp := wShK G B (wkd j) (wnu j)
def wixK (x y f : Nat) : Nat := match x with
  | 0 => if f = 5 then 0 else if f = 6 then 9 else 240
  | 2 => 1 + f
  | 3 => 231 + f
  | 7 => if f = 0 then 10 + y else if f = 1 then 16 + y else if f = 2 then 28 + y else if f = 3 then 34 + y else if f = 4 then 40 + y else 22 + y
  | 8 => if f = 2 then 46 + y else if f = 3 then 54 + y else if f = 4 then 62 + y else if f = 5 then 70 + y else if f = 6 then 78 + y else if f = 7 then 86 + y else if f = 8 then 94 + y else 102 + y
  | 9 => 110 + y
  | 10 => 126 + 6 * y + f
  | 11 => 118 + y
  | 12 => 174 + 6 * y + f
  | _ => if f = 0 then 222 + y else if f = 1 then 225 + y else 228 + y
def wix (j f : Nat) : Nat := wixK (wkd j) (wnu j) f
/-- which slots of a cell are numbers of the state, whatever the base -/
def wnI (j f : Nat) : Bool := match wkd j with
  | 0 => decide (5 ≤ f ∧ f < 8)
  | 2 => decide (f < 8)
  | 3 => decide (f < 9)
  | 7 => decide (f < 6)
  | 8 => decide (2 ≤ f ∧ f < 10)
  | 9 => decide (f = 1)
  | 10 => decide (f < 6)
  | 11 => decide (f = 1)
  | 12 => decide (f < 6)
  | 13 => decide (f < 3)
  | _ => false
/-- the way back -/
def wbk (q : Nat) : Nat × Nat :=
  if q = 0 then (0, 5) else if q < 9 then (2, q - 1) else if q = 9 then (0, 6) else if q < 16 then (7 + (q - 10), 0) else if q < 22 then (7 + (q - 16), 1) else if q < 28 then (7 + (q - 22), 5) else if q < 34 then (7 + (q - 28), 2) else if q < 40 then (7 + (q - 34), 3) else if q < 46 then (7 + (q - 40), 4)
  else if q < 54 then (13 + 5 * (q - 46), 2) else if q < 62 then (13 + 5 * (q - 54), 3) else if q < 70 then (13 + 5 * (q - 62), 4) else if q < 78 then (13 + 5 * (q - 70), 5) else if q < 86 then (13 + 5 * (q - 78), 6) else if q < 94 then (13 + 5 * (q - 86), 7) else if q < 102 then (13 + 5 * (q - 94), 8) else if q < 110 then (13 + 5 * (q - 102), 9)
  else if q < 118 then (14 + 5 * (q - 110), 1) else if q < 126 then (16 + 5 * (q - 118), 1) else if q < 174 then (15 + 5 * ((q - 126) / 6), (q - 126) % 6) else if q < 222 then (17 + 5 * ((q - 174) / 6), (q - 174) % 6)
  else if q < 225 then (53 + (q - 222), 0) else if q < 228 then (53 + (q - 225), 1) else if q < 231 then (53 + (q - 228), 2) else if q < 240 then (3, q - 231) else (0, 7)
theorem wbk_ok : ∀ j, j < 56 → ∀ f, f < 12 → wnI j f = true → wbk (wix j f) = (j, f) := by decide +kernel
theorem wnI_lt : ∀ j, j < 56 → ∀ f, wnI j f = true → f < 12 := by
  intro j hj f h
  unfold wnI at h
  split at h <;> first | (simp at h; omega) | simp at h
theorem wkd_le : ∀ j, j < 56 → wkd j ≤ 13 := by decide +kernel
theorem isI_wSh {G : GG} {B j f : Nat} (hj : j < 56) (h : isI (wSh G B j) f) : wnI j f = true := by
  have hk := wkd_le j hj
  generalize hw : wkd j = x at hk
  have key : ∀ x, x ≤ 13 → wkd j = x → wnI j f = true := by
    intro x hx hw
    unfold wSh wShK at h
    unfold wnI
    match x, hx, hw with
    | 0, _, hw => rw [hw] at h ⊢; simp only [isI] at h; match f, h with
      | 5, _ => rfl
      | 6, _ => rfl
      | 7, _ => rfl
      | f + 8, h => simp at h
    | 1, _, hw => rw [hw] at h; simp only [isI] at h; match f, h with
      | 0, h => simp at h
      | f + 1, h => simp at h
    | 2, _, hw => rw [hw] at h ⊢; simp only [isI] at h; simp [h]
    | 3, _, hw => rw [hw] at h ⊢; simp only [isI] at h; simp [h]
    | 4, _, hw => rw [hw] at h; simp only [isI] at h
    | 5, _, hw => rw [hw] at h; simp only [isI] at h
    | 6, _, hw => rw [hw] at h; simp only [isI] at h
    | 7, _, hw => rw [hw] at h ⊢; simp only [isI] at h; match f, h with
      | 0, _ => rfl
      | 1, _ => rfl
      | 2, _ => rfl
      | 3, _ => rfl
      | 4, _ => rfl
      | 5, _ => rfl
      | f + 6, h => simp at h
    | 8, _, hw => rw [hw] at h ⊢; simp only [isI] at h; match f, h with
      | 0, h => simp at h
      | 1, h => simp at h
      | 2, _ => rfl
      | 3, _ => rfl
      | 4, _ => rfl
      | 5, _ => rfl
      | 6, _ => rfl
      | 7, _ => rfl
      | 8, _ => rfl
      | 9, _ => rfl
      | 10, h => simp at h
      | 11, h => simp at h
      | f + 12, h => simp at h
    | 9, _, hw => rw [hw] at h ⊢; simp only [isI] at h; match f, h with
      | 0, h => simp at h
      | 1, _ => rfl
      | f + 2, h => simp at h
    | 10, _, hw => rw [hw] at h ⊢; simp only [isI] at h; simp [h]
    | 11, _, hw => rw [hw] at h ⊢; simp only [isI] at h; match f, h with
      | 0, h => simp at h
      | 1, _ => rfl
      | f + 2, h => simp at h
    | 12, _, hw => rw [hw] at h ⊢; simp only [isI] at h; simp [h]
    | 13, _, hw => rw [hw] at h ⊢; simp only [isI] at h; match f, h with
      | 0, _ => rfl
      | 1, _ => rfl
      | 2, _ => rfl
      | f + 3, h => simp at h
    | x + 14, hx, _ => omega
  exact key x hk hw
abbrev wR (G : GG) (B : Nat) : Rg := (wSh G B, wix, B, 56)
theorem wR_ok (G : GG) (B : Nat) : rOK (wR G B) := by
  intro j f j' f' hj hj' h h' he
  have h1 := isI_wSh hj h
  have h2 := isI_wSh hj' h'
  have e1 := wbk_ok j hj f (wnI_lt j hj f h1) h1
  have e2 := wbk_ok j' hj' f' (wnI_lt j' hj' f' h2) h2
  have : wix j f = wix j' f' := he
  rw [this] at e1
  have := e1.symm.trans e2
  exact ⟨(Prod.mk.inj this).1, (Prod.mk.inj this).2⟩
/-- the memory with a world at B whose numbers are C -/
abbrev Wm (G : GG) (B : Nat) (C : Nat → Int32) (E0 : Nat → va_E) (L : List Nat) (sz : Nat) : Mem := Rm (wR G B) C E0 L sz
theorem wk_lk {o : Nat} (h : o < 8) : wkd (13 + 5 * o) = 8 ∧ wnu (13 + 5 * o) = o := by unfold wkd wnu; constructor <;> (repeat rw [if_neg (by omega)]) <;> rw [if_pos (by omega)] <;> omega
theorem wk_q {o : Nat} (h : o < 8) : wkd (14 + 5 * o) = 9 ∧ wnu (14 + 5 * o) = o := by unfold wkd wnu; constructor <;> (repeat rw [if_neg (by omega)]) <;> rw [if_pos (by omega)] <;> omega
theorem wk_qm {o : Nat} (h : o < 8) : wkd (15 + 5 * o) = 10 ∧ wnu (15 + 5 * o) = o := by unfold wkd wnu; constructor <;> (repeat rw [if_neg (by omega)]) <;> rw [if_pos (by omega)] <;> omega
theorem wk_w {o : Nat} (h : o < 8) : wkd (16 + 5 * o) = 11 ∧ wnu (16 + 5 * o) = o := by unfold wkd wnu; constructor <;> (repeat rw [if_neg (by omega)]) <;> rw [if_pos (by omega)] <;> omega
theorem wk_wm {o : Nat} (h : o < 8) : wkd (17 + 5 * o) = 12 ∧ wnu (17 + 5 * o) = o := by unfold wkd wnu; constructor <;> (repeat rw [if_neg (by omega)]) <;> rw [if_pos (by omega)] <;> omega
theorem wk_st {t : Nat} (h : t < 6) : wkd (7 + t) = 7 ∧ wnu (7 + t) = t := by unfold wkd wnu; constructor <;> (repeat rw [if_neg (by omega)]) <;> rw [if_pos (by omega)] <;> omega
theorem wk_kd {c : Nat} (h : c < 3) : wkd (53 + c) = 13 ∧ wnu (53 + c) = c := by unfold wkd wnu; constructor <;> (repeat rw [if_neg (by omega)]) <;> omega

theorem wSh_lk {G : GG} {B o : Nat} (h : o < 8) : wSh G B (13 + 5 * o) = .inl (4, [some (.int (nI o)), some (.int (nI (o % 3))), none, none, none, none, none, none, none, none, some (.ref (aQ B o)), some (.ref (aW B o))]) := by unfold wSh; rw [(wk_lk h).1, (wk_lk h).2]; rfl
theorem wSh_q {G : GG} {B o : Nat} (h : o < 8) : wSh G B (14 + 5 * o) = .inl (3, [some (.ref (aQm B o)), none]) := by unfold wSh; rw [(wk_q h).1, (wk_q h).2]; rfl
theorem wSh_qm {G : GG} {B o : Nat} (h : o < 8) : wSh G B (15 + 5 * o) = .inr (cyI G, 6, none) := by unfold wSh; rw [(wk_qm h).1, (wk_qm h).2]; rfl
theorem wSh_w {G : GG} {B o : Nat} (h : o < 8) : wSh G B (16 + 5 * o) = .inl (3, [some (.ref (aWm B o)), none]) := by unfold wSh; rw [(wk_w h).1, (wk_w h).2]; rfl
theorem wSh_wm {G : GG} {B o : Nat} (h : o < 8) : wSh G B (17 + 5 * o) = .inr (cyI G, 6, none) := by unfold wSh; rw [(wk_wm h).1, (wk_wm h).2]; rfl
theorem wSh_st {G : GG} {B t : Nat} (h : t < 6) : wSh G B (7 + t) = .inl (8, [none, none, none, none, none, none]) := by unfold wSh; rw [(wk_st h).1, (wk_st h).2]; rfl
theorem wSh_kd {G : GG} {B c : Nat} (h : c < 3) : wSh G B (53 + c) = .inl (2, [none, none, none]) := by unfold wSh; rw [(wk_kd h).1, (wk_kd h).2]; rfl
section WFL
variable {G : GG} {mi : MI} {d mc ms : Nat} {res : Option Value} {M' : Mem} {pc : Nat} {lc : List (Option Value)} {st : List Value} {k n : Nat} {B : Nat} {C : Nat → Int32} {E0 : Nat → va_E} {L : List Nat} {sz : Nat} {idx : Nat}
theorem g_World_settings (hd : decode mi.2.1 pc = .ok (.getfield idx, 3)) (hk : FldOK mi.1 idx 9 0) (hL : rIn (wR G B) L) (kk : WP G mi d mc ms res M' (pc + 3) lc (.ref (B + 1) :: st) (Wm G B C E0 L sz) k n) : WP G mi d mc ms res M' pc lc (.ref (B) :: st) (Wm G B C E0 L sz) k n := rg_getS (r := wR G B) (j := 0) hd hk rfl hL (by show _ < 56; omega) rfl rfl kk
theorem g_World_counts (hd : decode mi.2.1 pc = .ok (.getfield idx, 3)) (hk : FldOK mi.1 idx 9 1) (hL : rIn (wR G B) L) (kk : WP G mi d mc ms res M' (pc + 3) lc (.ref (B + 3) :: st) (Wm G B C E0 L sz) k n) : WP G mi d mc ms res M' pc lc (.ref (B) :: st) (Wm G B C E0 L sz) k n := rg_getS (r := wR G B) (j := 0) hd hk rfl hL (by show _ < 56; omega) rfl rfl kk
theorem g_World_strands (hd : decode mi.2.1 pc = .ok (.getfield idx, 3)) (hk : FldOK mi.1 idx 9 2) (hL : rIn (wR G B) L) (kk : WP G mi d mc ms res M' (pc + 3) lc (.ref (B + 4) :: st) (Wm G B C E0 L sz) k n) : WP G mi d mc ms res M' pc lc (.ref (B) :: st) (Wm G B C E0 L sz) k n := rg_getS (r := wR G B) (j := 0) hd hk rfl hL (by show _ < 56; omega) rfl rfl kk
theorem g_World_locks (hd : decode mi.2.1 pc = .ok (.getfield idx, 3)) (hk : FldOK mi.1 idx 9 3) (hL : rIn (wR G B) L) (kk : WP G mi d mc ms res M' (pc + 3) lc (.ref (B + 5) :: st) (Wm G B C E0 L sz) k n) : WP G mi d mc ms res M' pc lc (.ref (B) :: st) (Wm G B C E0 L sz) k n := rg_getS (r := wR G B) (j := 0) hd hk rfl hL (by show _ < 56; omega) rfl rfl kk
theorem g_World_kinds (hd : decode mi.2.1 pc = .ok (.getfield idx, 3)) (hk : FldOK mi.1 idx 9 4) (hL : rIn (wR G B) L) (kk : WP G mi d mc ms res M' (pc + 3) lc (.ref (B + 6) :: st) (Wm G B C E0 L sz) k n) : WP G mi d mc ms res M' pc lc (.ref (B) :: st) (Wm G B C E0 L sz) k n := rg_getS (r := wR G B) (j := 0) hd hk rfl hL (by show _ < 56; omega) rfl rfl kk
theorem g_World_threadCount (hd : decode mi.2.1 pc = .ok (.getfield idx, 3)) (hk : FldOK mi.1 idx 9 5) (hL : rIn (wR G B) L) (kk : WP G mi d mc ms res M' (pc + 3) lc (.int (C (0)) :: st) (Wm G B C E0 L sz) k n) : WP G mi d mc ms res M' pc lc (.ref (B) :: st) (Wm G B C E0 L sz) k n := rg_get (r := wR G B) (j := 0) hd hk rfl hL (by show _ < 56; omega) rfl rfl rfl kk
theorem p_World_threadCount {x : Int32} (hd : decode mi.2.1 pc = .ok (.putfield idx, 3)) (hk : PutOK mi.1 idx 9 5 .int false) (hL : rIn (wR G B) L) (kk : WP G mi d mc ms res M' (pc + 3) lc st (Wm G B (upd C (0) x) E0 L sz) k n) : WP G mi d mc ms res M' pc lc (.int x :: .ref (B) :: st) (Wm G B C E0 L sz) k n := rg_put (r := wR G B) (j := 0) hd hk rfl (wR_ok G B) hL (by show _ < 56; omega) rfl rfl rfl rfl rfl kk
theorem g_World_now (hd : decode mi.2.1 pc = .ok (.getfield idx, 3)) (hk : FldOK mi.1 idx 9 6) (hL : rIn (wR G B) L) (kk : WP G mi d mc ms res M' (pc + 3) lc (.int (C (9)) :: st) (Wm G B C E0 L sz) k n) : WP G mi d mc ms res M' pc lc (.ref (B) :: st) (Wm G B C E0 L sz) k n := rg_get (r := wR G B) (j := 0) hd hk rfl hL (by show _ < 56; omega) rfl rfl rfl kk
theorem p_World_now {x : Int32} (hd : decode mi.2.1 pc = .ok (.putfield idx, 3)) (hk : PutOK mi.1 idx 9 6 .int false) (hL : rIn (wR G B) L) (kk : WP G mi d mc ms res M' (pc + 3) lc st (Wm G B (upd C (9) x) E0 L sz) k n) : WP G mi d mc ms res M' pc lc (.int x :: .ref (B) :: st) (Wm G B C E0 L sz) k n := rg_put (r := wR G B) (j := 0) hd hk rfl (wR_ok G B) hL (by show _ < 56; omega) rfl rfl rfl rfl rfl kk
theorem g_World_hashesMade (hd : decode mi.2.1 pc = .ok (.getfield idx, 3)) (hk : FldOK mi.1 idx 9 7) (hL : rIn (wR G B) L) (kk : WP G mi d mc ms res M' (pc + 3) lc (.int (C (240)) :: st) (Wm G B C E0 L sz) k n) : WP G mi d mc ms res M' pc lc (.ref (B) :: st) (Wm G B C E0 L sz) k n := rg_get (r := wR G B) (j := 0) hd hk rfl hL (by show _ < 56; omega) rfl rfl rfl kk
theorem p_World_hashesMade {x : Int32} (hd : decode mi.2.1 pc = .ok (.putfield idx, 3)) (hk : PutOK mi.1 idx 9 7 .int false) (hL : rIn (wR G B) L) (kk : WP G mi d mc ms res M' (pc + 3) lc st (Wm G B (upd C (240) x) E0 L sz) k n) : WP G mi d mc ms res M' pc lc (.int x :: .ref (B) :: st) (Wm G B C E0 L sz) k n := rg_put (r := wR G B) (j := 0) hd hk rfl (wR_ok G B) hL (by show _ < 56; omega) rfl rfl rfl rfl rfl kk
theorem g_Settings_values (hd : decode mi.2.1 pc = .ok (.getfield idx, 3)) (hk : FldOK mi.1 idx 6 0) (hL : rIn (wR G B) L) (kk : WP G mi d mc ms res M' (pc + 3) lc (.ref (B + 2) :: st) (Wm G B C E0 L sz) k n) : WP G mi d mc ms res M' pc lc (.ref (B + 1) :: st) (Wm G B C E0 L sz) k n := rg_getS (r := wR G B) (j := 1) hd hk rfl hL (by show _ < 56; omega) rfl rfl kk
theorem g_Strand_state {t : Nat} (hd : decode mi.2.1 pc = .ok (.getfield idx, 3)) (hk : FldOK mi.1 idx 8 0) (hL : rIn (wR G B) L) (h : t < 6) (kk : WP G mi d mc ms res M' (pc + 3) lc (.int (C (10 + t)) :: st) (Wm G B C E0 L sz) k n) : WP G mi d mc ms res M' pc lc (.ref (aSt B t) :: st) (Wm G B C E0 L sz) k n := rg_get (r := wR G B) (j := 7 + t) hd hk rfl hL (by show _ < 56; omega) (wSh_st h) rfl (by show wix (7 + t) 0 = _; unfold wix; rw [(wk_st h).1, (wk_st h).2]; rfl) kk
theorem p_Strand_state {t : Nat} {x : Int32} (hd : decode mi.2.1 pc = .ok (.putfield idx, 3)) (hk : PutOK mi.1 idx 8 0 .int false) (hL : rIn (wR G B) L) (h : t < 6) (kk : WP G mi d mc ms res M' (pc + 3) lc st (Wm G B (upd C (10 + t) x) E0 L sz) k n) : WP G mi d mc ms res M' pc lc (.int x :: .ref (aSt B t) :: st) (Wm G B C E0 L sz) k n := rg_put (r := wR G B) (j := 7 + t) hd hk rfl (wR_ok G B) hL (by show _ < 56; omega) (wSh_st h) rfl (by show wix (7 + t) 0 = _; unfold wix; rw [(wk_st h).1, (wk_st h).2]; rfl) rfl rfl kk
theorem g_Strand_interrupted {t : Nat} (hd : decode mi.2.1 pc = .ok (.getfield idx, 3)) (hk : FldOK mi.1 idx 8 1) (hL : rIn (wR G B) L) (h : t < 6) (kk : WP G mi d mc ms res M' (pc + 3) lc (.int (C (16 + t)) :: st) (Wm G B C E0 L sz) k n) : WP G mi d mc ms res M' pc lc (.ref (aSt B t) :: st) (Wm G B C E0 L sz) k n := rg_get (r := wR G B) (j := 7 + t) hd hk rfl hL (by show _ < 56; omega) (wSh_st h) rfl (by show wix (7 + t) 1 = _; unfold wix; rw [(wk_st h).1, (wk_st h).2]; rfl) kk
theorem p_Strand_interrupted {t : Nat} {x : Int32} (hd : decode mi.2.1 pc = .ok (.putfield idx, 3)) (hk : PutOK mi.1 idx 8 1 .boolean false) (hL : rIn (wR G B) L) (h : t < 6) (hn : narrow .boolean (.int x) = .int x) (hf : fits .boolean (.int x) = true) (kk : WP G mi d mc ms res M' (pc + 3) lc st (Wm G B (upd C (16 + t) x) E0 L sz) k n) : WP G mi d mc ms res M' pc lc (.int x :: .ref (aSt B t) :: st) (Wm G B C E0 L sz) k n := rg_put (r := wR G B) (j := 7 + t) hd hk rfl (wR_ok G B) hL (by show _ < 56; omega) (wSh_st h) rfl (by show wix (7 + t) 1 = _; unfold wix; rw [(wk_st h).1, (wk_st h).2]; rfl) hn hf kk
theorem g_Strand_place {t : Nat} (hd : decode mi.2.1 pc = .ok (.getfield idx, 3)) (hk : FldOK mi.1 idx 8 2) (hL : rIn (wR G B) L) (h : t < 6) (kk : WP G mi d mc ms res M' (pc + 3) lc (.int (C (28 + t)) :: st) (Wm G B C E0 L sz) k n) : WP G mi d mc ms res M' pc lc (.ref (aSt B t) :: st) (Wm G B C E0 L sz) k n := rg_get (r := wR G B) (j := 7 + t) hd hk rfl hL (by show _ < 56; omega) (wSh_st h) rfl (by show wix (7 + t) 2 = _; unfold wix; rw [(wk_st h).1, (wk_st h).2]; rfl) kk
theorem p_Strand_place {t : Nat} {x : Int32} (hd : decode mi.2.1 pc = .ok (.putfield idx, 3)) (hk : PutOK mi.1 idx 8 2 .int false) (hL : rIn (wR G B) L) (h : t < 6) (kk : WP G mi d mc ms res M' (pc + 3) lc st (Wm G B (upd C (28 + t) x) E0 L sz) k n) : WP G mi d mc ms res M' pc lc (.int x :: .ref (aSt B t) :: st) (Wm G B C E0 L sz) k n := rg_put (r := wR G B) (j := 7 + t) hd hk rfl (wR_ok G B) hL (by show _ < 56; omega) (wSh_st h) rfl (by show wix (7 + t) 2 = _; unfold wix; rw [(wk_st h).1, (wk_st h).2]; rfl) rfl rfl kk
theorem g_Strand_limit {t : Nat} (hd : decode mi.2.1 pc = .ok (.getfield idx, 3)) (hk : FldOK mi.1 idx 8 3) (hL : rIn (wR G B) L) (h : t < 6) (kk : WP G mi d mc ms res M' (pc + 3) lc (.int (C (34 + t)) :: st) (Wm G B C E0 L sz) k n) : WP G mi d mc ms res M' pc lc (.ref (aSt B t) :: st) (Wm G B C E0 L sz) k n := rg_get (r := wR G B) (j := 7 + t) hd hk rfl hL (by show _ < 56; omega) (wSh_st h) rfl (by show wix (7 + t) 3 = _; unfold wix; rw [(wk_st h).1, (wk_st h).2]; rfl) kk
theorem p_Strand_limit {t : Nat} {x : Int32} (hd : decode mi.2.1 pc = .ok (.putfield idx, 3)) (hk : PutOK mi.1 idx 8 3 .int false) (hL : rIn (wR G B) L) (h : t < 6) (kk : WP G mi d mc ms res M' (pc + 3) lc st (Wm G B (upd C (34 + t) x) E0 L sz) k n) : WP G mi d mc ms res M' pc lc (.int x :: .ref (aSt B t) :: st) (Wm G B C E0 L sz) k n := rg_put (r := wR G B) (j := 7 + t) hd hk rfl (wR_ok G B) hL (by show _ < 56; omega) (wSh_st h) rfl (by show wix (7 + t) 3 = _; unfold wix; rw [(wk_st h).1, (wk_st h).2]; rfl) rfl rfl kk
theorem g_Strand_dueEntries {t : Nat} (hd : decode mi.2.1 pc = .ok (.getfield idx, 3)) (hk : FldOK mi.1 idx 8 4) (hL : rIn (wR G B) L) (h : t < 6) (kk : WP G mi d mc ms res M' (pc + 3) lc (.int (C (40 + t)) :: st) (Wm G B C E0 L sz) k n) : WP G mi d mc ms res M' pc lc (.ref (aSt B t) :: st) (Wm G B C E0 L sz) k n := rg_get (r := wR G B) (j := 7 + t) hd hk rfl hL (by show _ < 56; omega) (wSh_st h) rfl (by show wix (7 + t) 4 = _; unfold wix; rw [(wk_st h).1, (wk_st h).2]; rfl) kk
theorem p_Strand_dueEntries {t : Nat} {x : Int32} (hd : decode mi.2.1 pc = .ok (.putfield idx, 3)) (hk : PutOK mi.1 idx 8 4 .int false) (hL : rIn (wR G B) L) (h : t < 6) (kk : WP G mi d mc ms res M' (pc + 3) lc st (Wm G B (upd C (40 + t) x) E0 L sz) k n) : WP G mi d mc ms res M' pc lc (.int x :: .ref (aSt B t) :: st) (Wm G B C E0 L sz) k n := rg_put (r := wR G B) (j := 7 + t) hd hk rfl (wR_ok G B) hL (by show _ < 56; omega) (wSh_st h) rfl (by show wix (7 + t) 4 = _; unfold wix; rw [(wk_st h).1, (wk_st h).2]; rfl) rfl rfl kk
theorem g_Strand_waitEnding {t : Nat} (hd : decode mi.2.1 pc = .ok (.getfield idx, 3)) (hk : FldOK mi.1 idx 8 5) (hL : rIn (wR G B) L) (h : t < 6) (kk : WP G mi d mc ms res M' (pc + 3) lc (.int (C (22 + t)) :: st) (Wm G B C E0 L sz) k n) : WP G mi d mc ms res M' pc lc (.ref (aSt B t) :: st) (Wm G B C E0 L sz) k n := rg_get (r := wR G B) (j := 7 + t) hd hk rfl hL (by show _ < 56; omega) (wSh_st h) rfl (by show wix (7 + t) 5 = _; unfold wix; rw [(wk_st h).1, (wk_st h).2]; rfl) kk
theorem p_Strand_waitEnding {t : Nat} {x : Int32} (hd : decode mi.2.1 pc = .ok (.putfield idx, 3)) (hk : PutOK mi.1 idx 8 5 .int false) (hL : rIn (wR G B) L) (h : t < 6) (kk : WP G mi d mc ms res M' (pc + 3) lc st (Wm G B (upd C (22 + t) x) E0 L sz) k n) : WP G mi d mc ms res M' pc lc (.int x :: .ref (aSt B t) :: st) (Wm G B C E0 L sz) k n := rg_put (r := wR G B) (j := 7 + t) hd hk rfl (wR_ok G B) hL (by show _ < 56; omega) (wSh_st h) rfl (by show wix (7 + t) 5 = _; unfold wix; rw [(wk_st h).1, (wk_st h).2]; rfl) rfl rfl kk
theorem g_Lock_number {o : Nat} (hd : decode mi.2.1 pc = .ok (.getfield idx, 3)) (hk : FldOK mi.1 idx 4 0) (hL : rIn (wR G B) L) (h : o < 8) (kk : WP G mi d mc ms res M' (pc + 3) lc (.int (nI o) :: st) (Wm G B C E0 L sz) k n) : WP G mi d mc ms res M' pc lc (.ref (aLk B o) :: st) (Wm G B C E0 L sz) k n := rg_getS (r := wR G B) (j := 13 + 5 * o) hd hk rfl hL (by show _ < 56; omega) (wSh_lk h) rfl kk
theorem g_Lock_kind {o : Nat} (hd : decode mi.2.1 pc = .ok (.getfield idx, 3)) (hk : FldOK mi.1 idx 4 1) (hL : rIn (wR G B) L) (h : o < 8) (kk : WP G mi d mc ms res M' (pc + 3) lc (.int (nI (o % 3)) :: st) (Wm G B C E0 L sz) k n) : WP G mi d mc ms res M' pc lc (.ref (aLk B o) :: st) (Wm G B C E0 L sz) k n := rg_getS (r := wR G B) (j := 13 + 5 * o) hd hk rfl hL (by show _ < 56; omega) (wSh_lk h) rfl kk
theorem g_Lock_state {o : Nat} (hd : decode mi.2.1 pc = .ok (.getfield idx, 3)) (hk : FldOK mi.1 idx 4 2) (hL : rIn (wR G B) L) (h : o < 8) (kk : WP G mi d mc ms res M' (pc + 3) lc (.int (C (46 + o)) :: st) (Wm G B C E0 L sz) k n) : WP G mi d mc ms res M' pc lc (.ref (aLk B o) :: st) (Wm G B C E0 L sz) k n := rg_get (r := wR G B) (j := 13 + 5 * o) hd hk rfl hL (by show _ < 56; omega) (wSh_lk h) rfl (by show wix (13 + 5 * o) 2 = _; unfold wix; rw [(wk_lk h).1, (wk_lk h).2]; rfl) kk
theorem p_Lock_state {o : Nat} {x : Int32} (hd : decode mi.2.1 pc = .ok (.putfield idx, 3)) (hk : PutOK mi.1 idx 4 2 .int false) (hL : rIn (wR G B) L) (h : o < 8) (kk : WP G mi d mc ms res M' (pc + 3) lc st (Wm G B (upd C (46 + o) x) E0 L sz) k n) : WP G mi d mc ms res M' pc lc (.int x :: .ref (aLk B o) :: st) (Wm G B C E0 L sz) k n := rg_put (r := wR G B) (j := 13 + 5 * o) hd hk rfl (wR_ok G B) hL (by show _ < 56; omega) (wSh_lk h) rfl (by show wix (13 + 5 * o) 2 = _; unfold wix; rw [(wk_lk h).1, (wk_lk h).2]; rfl) rfl rfl kk
theorem g_Lock_holder {o : Nat} (hd : decode mi.2.1 pc = .ok (.getfield idx, 3)) (hk : FldOK mi.1 idx 4 3) (hL : rIn (wR G B) L) (h : o < 8) (kk : WP G mi d mc ms res M' (pc + 3) lc (.int (C (54 + o)) :: st) (Wm G B C E0 L sz) k n) : WP G mi d mc ms res M' pc lc (.ref (aLk B o) :: st) (Wm G B C E0 L sz) k n := rg_get (r := wR G B) (j := 13 + 5 * o) hd hk rfl hL (by show _ < 56; omega) (wSh_lk h) rfl (by show wix (13 + 5 * o) 3 = _; unfold wix; rw [(wk_lk h).1, (wk_lk h).2]; rfl) kk
theorem p_Lock_holder {o : Nat} {x : Int32} (hd : decode mi.2.1 pc = .ok (.putfield idx, 3)) (hk : PutOK mi.1 idx 4 3 .int false) (hL : rIn (wR G B) L) (h : o < 8) (kk : WP G mi d mc ms res M' (pc + 3) lc st (Wm G B (upd C (54 + o) x) E0 L sz) k n) : WP G mi d mc ms res M' pc lc (.int x :: .ref (aLk B o) :: st) (Wm G B C E0 L sz) k n := rg_put (r := wR G B) (j := 13 + 5 * o) hd hk rfl (wR_ok G B) hL (by show _ < 56; omega) (wSh_lk h) rfl (by show wix (13 + 5 * o) 3 = _; unfold wix; rw [(wk_lk h).1, (wk_lk h).2]; rfl) rfl rfl kk
theorem g_Lock_entries {o : Nat} (hd : decode mi.2.1 pc = .ok (.getfield idx, 3)) (hk : FldOK mi.1 idx 4 4) (hL : rIn (wR G B) L) (h : o < 8) (kk : WP G mi d mc ms res M' (pc + 3) lc (.int (C (62 + o)) :: st) (Wm G B C E0 L sz) k n) : WP G mi d mc ms res M' pc lc (.ref (aLk B o) :: st) (Wm G B C E0 L sz) k n := rg_get (r := wR G B) (j := 13 + 5 * o) hd hk rfl hL (by show _ < 56; omega) (wSh_lk h) rfl (by show wix (13 + 5 * o) 4 = _; unfold wix; rw [(wk_lk h).1, (wk_lk h).2]; rfl) kk
theorem p_Lock_entries {o : Nat} {x : Int32} (hd : decode mi.2.1 pc = .ok (.putfield idx, 3)) (hk : PutOK mi.1 idx 4 4 .int false) (hL : rIn (wR G B) L) (h : o < 8) (kk : WP G mi d mc ms res M' (pc + 3) lc st (Wm G B (upd C (62 + o) x) E0 L sz) k n) : WP G mi d mc ms res M' pc lc (.int x :: .ref (aLk B o) :: st) (Wm G B C E0 L sz) k n := rg_put (r := wR G B) (j := 13 + 5 * o) hd hk rfl (wR_ok G B) hL (by show _ < 56; omega) (wSh_lk h) rfl (by show wix (13 + 5 * o) 4 = _; unfold wix; rw [(wk_lk h).1, (wk_lk h).2]; rfl) rfl rfl kk
theorem g_Lock_biasThread {o : Nat} (hd : decode mi.2.1 pc = .ok (.getfield idx, 3)) (hk : FldOK mi.1 idx 4 5) (hL : rIn (wR G B) L) (h : o < 8) (kk : WP G mi d mc ms res M' (pc + 3) lc (.int (C (70 + o)) :: st) (Wm G B C E0 L sz) k n) : WP G mi d mc ms res M' pc lc (.ref (aLk B o) :: st) (Wm G B C E0 L sz) k n := rg_get (r := wR G B) (j := 13 + 5 * o) hd hk rfl hL (by show _ < 56; omega) (wSh_lk h) rfl (by show wix (13 + 5 * o) 5 = _; unfold wix; rw [(wk_lk h).1, (wk_lk h).2]; rfl) kk
theorem p_Lock_biasThread {o : Nat} {x : Int32} (hd : decode mi.2.1 pc = .ok (.putfield idx, 3)) (hk : PutOK mi.1 idx 4 5 .int false) (hL : rIn (wR G B) L) (h : o < 8) (kk : WP G mi d mc ms res M' (pc + 3) lc st (Wm G B (upd C (70 + o) x) E0 L sz) k n) : WP G mi d mc ms res M' pc lc (.int x :: .ref (aLk B o) :: st) (Wm G B C E0 L sz) k n := rg_put (r := wR G B) (j := 13 + 5 * o) hd hk rfl (wR_ok G B) hL (by show _ < 56; omega) (wSh_lk h) rfl (by show wix (13 + 5 * o) 5 = _; unfold wix; rw [(wk_lk h).1, (wk_lk h).2]; rfl) rfl rfl kk
theorem g_Lock_epoch {o : Nat} (hd : decode mi.2.1 pc = .ok (.getfield idx, 3)) (hk : FldOK mi.1 idx 4 6) (hL : rIn (wR G B) L) (h : o < 8) (kk : WP G mi d mc ms res M' (pc + 3) lc (.int (C (78 + o)) :: st) (Wm G B C E0 L sz) k n) : WP G mi d mc ms res M' pc lc (.ref (aLk B o) :: st) (Wm G B C E0 L sz) k n := rg_get (r := wR G B) (j := 13 + 5 * o) hd hk rfl hL (by show _ < 56; omega) (wSh_lk h) rfl (by show wix (13 + 5 * o) 6 = _; unfold wix; rw [(wk_lk h).1, (wk_lk h).2]; rfl) kk
theorem p_Lock_epoch {o : Nat} {x : Int32} (hd : decode mi.2.1 pc = .ok (.putfield idx, 3)) (hk : PutOK mi.1 idx 4 6 .int false) (hL : rIn (wR G B) L) (h : o < 8) (kk : WP G mi d mc ms res M' (pc + 3) lc st (Wm G B (upd C (78 + o) x) E0 L sz) k n) : WP G mi d mc ms res M' pc lc (.int x :: .ref (aLk B o) :: st) (Wm G B C E0 L sz) k n := rg_put (r := wR G B) (j := 13 + 5 * o) hd hk rfl (wR_ok G B) hL (by show _ < 56; omega) (wSh_lk h) rfl (by show wix (13 + 5 * o) 6 = _; unfold wix; rw [(wk_lk h).1, (wk_lk h).2]; rfl) rfl rfl kk
theorem g_Lock_abandoned {o : Nat} (hd : decode mi.2.1 pc = .ok (.getfield idx, 3)) (hk : FldOK mi.1 idx 4 7) (hL : rIn (wR G B) L) (h : o < 8) (kk : WP G mi d mc ms res M' (pc + 3) lc (.int (C (86 + o)) :: st) (Wm G B C E0 L sz) k n) : WP G mi d mc ms res M' pc lc (.ref (aLk B o) :: st) (Wm G B C E0 L sz) k n := rg_get (r := wR G B) (j := 13 + 5 * o) hd hk rfl hL (by show _ < 56; omega) (wSh_lk h) rfl (by show wix (13 + 5 * o) 7 = _; unfold wix; rw [(wk_lk h).1, (wk_lk h).2]; rfl) kk
theorem p_Lock_abandoned {o : Nat} {x : Int32} (hd : decode mi.2.1 pc = .ok (.putfield idx, 3)) (hk : PutOK mi.1 idx 4 7 .boolean false) (hL : rIn (wR G B) L) (h : o < 8) (hn : narrow .boolean (.int x) = .int x) (hf : fits .boolean (.int x) = true) (kk : WP G mi d mc ms res M' (pc + 3) lc st (Wm G B (upd C (86 + o) x) E0 L sz) k n) : WP G mi d mc ms res M' pc lc (.int x :: .ref (aLk B o) :: st) (Wm G B C E0 L sz) k n := rg_put (r := wR G B) (j := 13 + 5 * o) hd hk rfl (wR_ok G B) hL (by show _ < 56; omega) (wSh_lk h) rfl (by show wix (13 + 5 * o) 7 = _; unfold wix; rw [(wk_lk h).1, (wk_lk h).2]; rfl) hn hf kk
theorem g_Lock_hashValue {o : Nat} (hd : decode mi.2.1 pc = .ok (.getfield idx, 3)) (hk : FldOK mi.1 idx 4 8) (hL : rIn (wR G B) L) (h : o < 8) (kk : WP G mi d mc ms res M' (pc + 3) lc (.int (C (94 + o)) :: st) (Wm G B C E0 L sz) k n) : WP G mi d mc ms res M' pc lc (.ref (aLk B o) :: st) (Wm G B C E0 L sz) k n := rg_get (r := wR G B) (j := 13 + 5 * o) hd hk rfl hL (by show _ < 56; omega) (wSh_lk h) rfl (by show wix (13 + 5 * o) 8 = _; unfold wix; rw [(wk_lk h).1, (wk_lk h).2]; rfl) kk
theorem p_Lock_hashValue {o : Nat} {x : Int32} (hd : decode mi.2.1 pc = .ok (.putfield idx, 3)) (hk : PutOK mi.1 idx 4 8 .int false) (hL : rIn (wR G B) L) (h : o < 8) (kk : WP G mi d mc ms res M' (pc + 3) lc st (Wm G B (upd C (94 + o) x) E0 L sz) k n) : WP G mi d mc ms res M' pc lc (.int x :: .ref (aLk B o) :: st) (Wm G B C E0 L sz) k n := rg_put (r := wR G B) (j := 13 + 5 * o) hd hk rfl (wR_ok G B) hL (by show _ < 56; omega) (wSh_lk h) rfl (by show wix (13 + 5 * o) 8 = _; unfold wix; rw [(wk_lk h).1, (wk_lk h).2]; rfl) rfl rfl kk
theorem g_Lock_idleSince {o : Nat} (hd : decode mi.2.1 pc = .ok (.getfield idx, 3)) (hk : FldOK mi.1 idx 4 9) (hL : rIn (wR G B) L) (h : o < 8) (kk : WP G mi d mc ms res M' (pc + 3) lc (.int (C (102 + o)) :: st) (Wm G B C E0 L sz) k n) : WP G mi d mc ms res M' pc lc (.ref (aLk B o) :: st) (Wm G B C E0 L sz) k n := rg_get (r := wR G B) (j := 13 + 5 * o) hd hk rfl hL (by show _ < 56; omega) (wSh_lk h) rfl (by show wix (13 + 5 * o) 9 = _; unfold wix; rw [(wk_lk h).1, (wk_lk h).2]; rfl) kk
theorem p_Lock_idleSince {o : Nat} {x : Int32} (hd : decode mi.2.1 pc = .ok (.putfield idx, 3)) (hk : PutOK mi.1 idx 4 9 .int false) (hL : rIn (wR G B) L) (h : o < 8) (kk : WP G mi d mc ms res M' (pc + 3) lc st (Wm G B (upd C (102 + o) x) E0 L sz) k n) : WP G mi d mc ms res M' pc lc (.int x :: .ref (aLk B o) :: st) (Wm G B C E0 L sz) k n := rg_put (r := wR G B) (j := 13 + 5 * o) hd hk rfl (wR_ok G B) hL (by show _ < 56; omega) (wSh_lk h) rfl (by show wix (13 + 5 * o) 9 = _; unfold wix; rw [(wk_lk h).1, (wk_lk h).2]; rfl) rfl rfl kk
theorem g_Lock_queue {o : Nat} (hd : decode mi.2.1 pc = .ok (.getfield idx, 3)) (hk : FldOK mi.1 idx 4 10) (hL : rIn (wR G B) L) (h : o < 8) (kk : WP G mi d mc ms res M' (pc + 3) lc (.ref (aQ B o) :: st) (Wm G B C E0 L sz) k n) : WP G mi d mc ms res M' pc lc (.ref (aLk B o) :: st) (Wm G B C E0 L sz) k n := rg_getS (r := wR G B) (j := 13 + 5 * o) hd hk rfl hL (by show _ < 56; omega) (wSh_lk h) rfl kk
theorem g_Lock_waitSet {o : Nat} (hd : decode mi.2.1 pc = .ok (.getfield idx, 3)) (hk : FldOK mi.1 idx 4 11) (hL : rIn (wR G B) L) (h : o < 8) (kk : WP G mi d mc ms res M' (pc + 3) lc (.ref (aW B o) :: st) (Wm G B C E0 L sz) k n) : WP G mi d mc ms res M' pc lc (.ref (aLk B o) :: st) (Wm G B C E0 L sz) k n := rg_getS (r := wR G B) (j := 13 + 5 * o) hd hk rfl hL (by show _ < 56; omega) (wSh_lk h) rfl kk
theorem g_Kind_epoch {c : Nat} (hd : decode mi.2.1 pc = .ok (.getfield idx, 3)) (hk : FldOK mi.1 idx 2 0) (hL : rIn (wR G B) L) (h : c < 3) (kk : WP G mi d mc ms res M' (pc + 3) lc (.int (C (222 + c)) :: st) (Wm G B C E0 L sz) k n) : WP G mi d mc ms res M' pc lc (.ref (aKd B c) :: st) (Wm G B C E0 L sz) k n := rg_get (r := wR G B) (j := 53 + c) hd hk rfl hL (by show _ < 56; omega) (wSh_kd h) rfl (by show wix (53 + c) 0 = _; unfold wix; rw [(wk_kd h).1, (wk_kd h).2]; rfl) kk
theorem p_Kind_epoch {c : Nat} {x : Int32} (hd : decode mi.2.1 pc = .ok (.putfield idx, 3)) (hk : PutOK mi.1 idx 2 0 .int false) (hL : rIn (wR G B) L) (h : c < 3) (kk : WP G mi d mc ms res M' (pc + 3) lc st (Wm G B (upd C (222 + c) x) E0 L sz) k n) : WP G mi d mc ms res M' pc lc (.int x :: .ref (aKd B c) :: st) (Wm G B C E0 L sz) k n := rg_put (r := wR G B) (j := 53 + c) hd hk rfl (wR_ok G B) hL (by show _ < 56; omega) (wSh_kd h) rfl (by show wix (53 + c) 0 = _; unfold wix; rw [(wk_kd h).1, (wk_kd h).2]; rfl) rfl rfl kk
theorem g_Kind_revocations {c : Nat} (hd : decode mi.2.1 pc = .ok (.getfield idx, 3)) (hk : FldOK mi.1 idx 2 1) (hL : rIn (wR G B) L) (h : c < 3) (kk : WP G mi d mc ms res M' (pc + 3) lc (.int (C (225 + c)) :: st) (Wm G B C E0 L sz) k n) : WP G mi d mc ms res M' pc lc (.ref (aKd B c) :: st) (Wm G B C E0 L sz) k n := rg_get (r := wR G B) (j := 53 + c) hd hk rfl hL (by show _ < 56; omega) (wSh_kd h) rfl (by show wix (53 + c) 1 = _; unfold wix; rw [(wk_kd h).1, (wk_kd h).2]; rfl) kk
theorem p_Kind_revocations {c : Nat} {x : Int32} (hd : decode mi.2.1 pc = .ok (.putfield idx, 3)) (hk : PutOK mi.1 idx 2 1 .int false) (hL : rIn (wR G B) L) (h : c < 3) (kk : WP G mi d mc ms res M' (pc + 3) lc st (Wm G B (upd C (225 + c) x) E0 L sz) k n) : WP G mi d mc ms res M' pc lc (.int x :: .ref (aKd B c) :: st) (Wm G B C E0 L sz) k n := rg_put (r := wR G B) (j := 53 + c) hd hk rfl (wR_ok G B) hL (by show _ < 56; omega) (wSh_kd h) rfl (by show wix (53 + c) 1 = _; unfold wix; rw [(wk_kd h).1, (wk_kd h).2]; rfl) rfl rfl kk
theorem g_Kind_biasable {c : Nat} (hd : decode mi.2.1 pc = .ok (.getfield idx, 3)) (hk : FldOK mi.1 idx 2 2) (hL : rIn (wR G B) L) (h : c < 3) (kk : WP G mi d mc ms res M' (pc + 3) lc (.int (C (228 + c)) :: st) (Wm G B C E0 L sz) k n) : WP G mi d mc ms res M' pc lc (.ref (aKd B c) :: st) (Wm G B C E0 L sz) k n := rg_get (r := wR G B) (j := 53 + c) hd hk rfl hL (by show _ < 56; omega) (wSh_kd h) rfl (by show wix (53 + c) 2 = _; unfold wix; rw [(wk_kd h).1, (wk_kd h).2]; rfl) kk
theorem p_Kind_biasable {c : Nat} {x : Int32} (hd : decode mi.2.1 pc = .ok (.putfield idx, 3)) (hk : PutOK mi.1 idx 2 2 .boolean false) (hL : rIn (wR G B) L) (h : c < 3) (hn : narrow .boolean (.int x) = .int x) (hf : fits .boolean (.int x) = true) (kk : WP G mi d mc ms res M' (pc + 3) lc st (Wm G B (upd C (228 + c) x) E0 L sz) k n) : WP G mi d mc ms res M' pc lc (.int x :: .ref (aKd B c) :: st) (Wm G B C E0 L sz) k n := rg_put (r := wR G B) (j := 53 + c) hd hk rfl (wR_ok G B) hL (by show _ < 56; omega) (wSh_kd h) rfl (by show wix (53 + c) 2 = _; unfold wix; rw [(wk_kd h).1, (wk_kd h).2]; rfl) hn hf kk
end WFL
/-- a line: its cell j, the place q of its size, the place p of its first member -/
def LN (G : GG) (B j q p : Nat) : Prop := j + 1 < 56 ∧ wSh G B j = .inl (3, [some (.ref (B + (j + 1))), none]) ∧ wSh G B (j + 1) = .inr (cyI G, 6, none) ∧ wix j 1 = q ∧ ∀ i, i < 6 → wix (j + 1) i = p + i
theorem LNq {G : GG} {B o : Nat} (h : o < 8) : LN G B (14 + 5 * o) (110 + o) (126 + 6 * o) := by
  refine ⟨by omega, ?_, ?_, ?_, fun i hi => ?_⟩
  · rw [wSh_q h]; show _ = Sum.inl (3, [some (Value.ref (B + (14 + 5 * o + 1))), none]); rw [show 14 + 5 * o + 1 = 15 + 5 * o by omega]; rfl
  · rw [show 14 + 5 * o + 1 = 15 + 5 * o by omega]; exact wSh_qm h
  · unfold wix; rw [(wk_q h).1, (wk_q h).2]; rfl
  · rw [show 14 + 5 * o + 1 = 15 + 5 * o by omega]; unfold wix; rw [(wk_qm h).1, (wk_qm h).2]; rfl
theorem LNw {G : GG} {B o : Nat} (h : o < 8) : LN G B (16 + 5 * o) (118 + o) (174 + 6 * o) := by
  refine ⟨by omega, ?_, ?_, ?_, fun i hi => ?_⟩
  · rw [wSh_w h]; show _ = Sum.inl (3, [some (Value.ref (B + (16 + 5 * o + 1))), none]); rw [show 16 + 5 * o + 1 = 17 + 5 * o by omega]; rfl
  · rw [show 16 + 5 * o + 1 = 17 + 5 * o by omega]; exact wSh_wm h
  · unfold wix; rw [(wk_w h).1, (wk_w h).2]; rfl
  · rw [show 16 + 5 * o + 1 = 17 + 5 * o by omega]; unfold wix; rw [(wk_wm h).1, (wk_wm h).2]; rfl

section WLN
variable {G : GG} {mi : MI} {d mc ms : Nat} {res : Option Value} {M' : Mem} {pc : Nat} {lc : List (Option Value)} {st : List Value} {k n : Nat} {B : Nat} {C : Nat → Int32} {E0 : Nat → va_E} {L : List Nat} {sz : Nat} {idx j q p : Nat}
theorem g_Line_size (hd : decode mi.2.1 pc = .ok (.getfield idx, 3)) (hk : FldOK mi.1 idx 3 1) (hL : rIn (wR G B) L) (h : LN G B j q p) (kk : WP G mi d mc ms res M' (pc + 3) lc (.int (C q) :: st) (Wm G B C E0 L sz) k n) : WP G mi d mc ms res M' pc lc (.ref (B + j) :: st) (Wm G B C E0 L sz) k n := rg_get (r := wR G B) (j := j) hd hk rfl hL (by show _ < 56; have := h.1; omega) h.2.1 rfl h.2.2.2.1 kk
theorem p_Line_size {x : Int32} (hd : decode mi.2.1 pc = .ok (.putfield idx, 3)) (hk : PutOK mi.1 idx 3 1 .int false) (hL : rIn (wR G B) L) (h : LN G B j q p) (kk : WP G mi d mc ms res M' (pc + 3) lc st (Wm G B (upd C q x) E0 L sz) k n) : WP G mi d mc ms res M' pc lc (.int x :: .ref (B + j) :: st) (Wm G B C E0 L sz) k n := rg_put (r := wR G B) (j := j) hd hk rfl (wR_ok G B) hL (by show _ < 56; have := h.1; omega) h.2.1 rfl h.2.2.2.1 rfl rfl kk
theorem g_Line_members (hd : decode mi.2.1 pc = .ok (.getfield idx, 3)) (hk : FldOK mi.1 idx 3 0) (hL : rIn (wR G B) L) (h : LN G B j q p) (kk : WP G mi d mc ms res M' (pc + 3) lc (.ref (B + (j + 1)) :: st) (Wm G B C E0 L sz) k n) : WP G mi d mc ms res M' pc lc (.ref (B + j) :: st) (Wm G B C E0 L sz) k n := rg_getS (r := wR G B) (j := j) hd hk rfl hL (by show _ < 56; have := h.1; omega) h.2.1 rfl kk
theorem r_Line_members {i : Int32} {i' : Nat} (hd : decode mi.2.1 pc = .ok (.iaload, 1)) (hG : GOK G) (hL : rIn (wR G B) L) (h : LN G B j q p) (hi : i = nI i') (hi' : i' < 6) (kk : WP G mi d mc ms res M' (pc + 1) lc (.int (C (p + i')) :: st) (Wm G B C E0 L sz) k n) : WP G mi d mc ms res M' pc lc (.int i :: .ref (B + (j + 1)) :: st) (Wm G B C E0 L sz) k n := rg_iald (r := wR G B) (j := j + 1) hd hG.1 rfl hL h.1 h.2.2.1 hi hi' (by decide) (h.2.2.2.2 i' hi') kk
theorem s_Line_members {i x : Int32} {i' : Nat} (hd : decode mi.2.1 pc = .ok (.iastore, 1)) (hG : GOK G) (hL : rIn (wR G B) L) (h : LN G B j q p) (hi : i = nI i') (hi' : i' < 6) (kk : WP G mi d mc ms res M' (pc + 1) lc st (Wm G B (upd C (p + i') x) E0 L sz) k n) : WP G mi d mc ms res M' pc lc (.int x :: .int i :: .ref (B + (j + 1)) :: st) (Wm G B C E0 L sz) k n := rg_iast (r := wR G B) (j := j + 1) hd hG.1 rfl (wR_ok G B) hL h.1 h.2.2.1 hi hi' (by decide) (h.2.2.2.2 i' hi') kk
theorem g_Line_sizeN (hown : mi.1 = "LockSimulator$Lock") (hd : decode mi.2.1 pc = .ok (.getfield 63, 3)) (hL : rIn (wR G B) L) (h : LN G B j q p) (kk : WP G mi d mc ms res M' (pc + 3) lc (.int (C q) :: st) (Wm G B C E0 L sz) k n) : WP G mi d mc ms res M' pc lc (.ref (B + j) :: st) (Wm G B C E0 L sz) k n := by
  have hj : j < (wR G B).2.2.2 := by show _ < 56; have := h.1; omega
  refine wp_getN hown hd inG3 (hL j hj) (fs := vals [some (.ref (B + (j + 1))), none] (fun f => C (wix j f))) ?_ ?_ kk
  · show rE (wR G B) C E0 _ = _
    rw [show B + j = (wR G B).2.2.1 + j from rfl, rE_at hj]
    show inst (wSh G B j) _ = _
    rw [h.2.1]; rfl
  · rw [← h.2.2.2.1]; rfl
end WLN
section WAR
variable {G : GG} {mi : MI} {d mc ms : Nat} {res : Option Value} {M' : Mem} {pc : Nat} {lc : List (Option Value)} {st : List Value} {k n : Nat} {B : Nat} {C : Nat → Int32} {E0 : Nat → va_E} {L : List Nat} {sz : Nat} {idx : Nat}
theorem r_values {i : Int32} {i' : Nat} (hd : decode mi.2.1 pc = .ok (.iaload, 1)) (hG : GOK G) (hL : rIn (wR G B) L) (hi : i = nI i') (hi' : i' < 8) (kk : WP G mi d mc ms res M' (pc + 1) lc (.int (C (1 + i')) :: st) (Wm G B C E0 L sz) k n) : WP G mi d mc ms res M' pc lc (.int i :: .ref (B + 2) :: st) (Wm G B C E0 L sz) k n := rg_iald (r := wR G B) (j := 2) hd hG.1 rfl hL (by show _ < 56; omega) rfl hi hi' (by decide) rfl kk
theorem s_values {i x : Int32} {i' : Nat} (hd : decode mi.2.1 pc = .ok (.iastore, 1)) (hG : GOK G) (hL : rIn (wR G B) L) (hi : i = nI i') (hi' : i' < 8) (kk : WP G mi d mc ms res M' (pc + 1) lc st (Wm G B (upd C (1 + i') x) E0 L sz) k n) : WP G mi d mc ms res M' pc lc (.int x :: .int i :: .ref (B + 2) :: st) (Wm G B C E0 L sz) k n := rg_iast (r := wR G B) (j := 2) hd hG.1 rfl (wR_ok G B) hL (by show _ < 56; omega) rfl hi hi' (by decide) rfl kk
theorem r_counts {i : Int32} {i' : Nat} (hd : decode mi.2.1 pc = .ok (.iaload, 1)) (hG : GOK G) (hL : rIn (wR G B) L) (hi : i = nI i') (hi' : i' < 9) (kk : WP G mi d mc ms res M' (pc + 1) lc (.int (C (231 + i')) :: st) (Wm G B C E0 L sz) k n) : WP G mi d mc ms res M' pc lc (.int i :: .ref (B + 3) :: st) (Wm G B C E0 L sz) k n := rg_iald (r := wR G B) (j := 3) hd hG.1 rfl hL (by show _ < 56; omega) rfl hi hi' (by decide) rfl kk
theorem s_counts {i x : Int32} {i' : Nat} (hd : decode mi.2.1 pc = .ok (.iastore, 1)) (hG : GOK G) (hL : rIn (wR G B) L) (hi : i = nI i') (hi' : i' < 9) (kk : WP G mi d mc ms res M' (pc + 1) lc st (Wm G B (upd C (231 + i') x) E0 L sz) k n) : WP G mi d mc ms res M' pc lc (.int x :: .int i :: .ref (B + 3) :: st) (Wm G B C E0 L sz) k n := rg_iast (r := wR G B) (j := 3) hd hG.1 rfl (wR_ok G B) hL (by show _ < 56; omega) rfl hi hi' (by decide) rfl kk
theorem r_strands {i : Int32} {i' : Nat} (hd : decode mi.2.1 pc = .ok (.aaload, 1)) (hG : GOK G) (hL : rIn (wR G B) L) (hi : i = nI i') (hi' : i' < 6) (kk : WP G mi d mc ms res M' (pc + 1) lc (.ref (aSt B i') :: st) (Wm G B C E0 L sz) k n) : WP G mi d mc ms res M' pc lc (.int i :: .ref (B + 4) :: st) (Wm G B C E0 L sz) k n := rg_aald (r := wR G B) (j := 4) hd hG.2.2.1 rfl hL (by show _ < 56; omega) rfl hi hi' (by decide) rfl kk
theorem l_strands (hd : decode mi.2.1 pc = .ok (.arraylength, 1)) (hG : GOK G) (hL : rIn (wR G B) L) (kk : WP G mi d mc ms res M' (pc + 1) lc (.int (nI 6) :: st) (Wm G B C E0 L sz) k n) : WP G mi d mc ms res M' pc lc (.ref (B + 4) :: st) (Wm G B C E0 L sz) k n := rg_alen (r := wR G B) (j := 4) hd hG.2.2.1 rfl hL (by show _ < 56; omega) rfl kk
theorem r_locks {i : Int32} {i' : Nat} (hd : decode mi.2.1 pc = .ok (.aaload, 1)) (hG : GOK G) (hL : rIn (wR G B) L) (hi : i = nI i') (hi' : i' < 8) (kk : WP G mi d mc ms res M' (pc + 1) lc (.ref (aLk B i') :: st) (Wm G B C E0 L sz) k n) : WP G mi d mc ms res M' pc lc (.int i :: .ref (B + 5) :: st) (Wm G B C E0 L sz) k n := rg_aald (r := wR G B) (j := 5) hd hG.2.2.2.1 rfl hL (by show _ < 56; omega) rfl hi hi' (by decide) rfl kk
theorem l_locks (hd : decode mi.2.1 pc = .ok (.arraylength, 1)) (hG : GOK G) (hL : rIn (wR G B) L) (kk : WP G mi d mc ms res M' (pc + 1) lc (.int (nI 8) :: st) (Wm G B C E0 L sz) k n) : WP G mi d mc ms res M' pc lc (.ref (B + 5) :: st) (Wm G B C E0 L sz) k n := rg_alen (r := wR G B) (j := 5) hd hG.2.2.2.1 rfl hL (by show _ < 56; omega) rfl kk
theorem r_kinds {i : Int32} {i' : Nat} (hd : decode mi.2.1 pc = .ok (.aaload, 1)) (hG : GOK G) (hL : rIn (wR G B) L) (hi : i = nI i') (hi' : i' < 3) (kk : WP G mi d mc ms res M' (pc + 1) lc (.ref (aKd B i') :: st) (Wm G B C E0 L sz) k n) : WP G mi d mc ms res M' pc lc (.int i :: .ref (B + 6) :: st) (Wm G B C E0 L sz) k n := rg_aald (r := wR G B) (j := 6) hd hG.2.2.2.2.1 rfl hL (by show _ < 56; omega) rfl hi hi' (by decide) rfl kk
theorem l_kinds (hd : decode mi.2.1 pc = .ok (.arraylength, 1)) (hG : GOK G) (hL : rIn (wR G B) L) (kk : WP G mi d mc ms res M' (pc + 1) lc (.int (nI 3) :: st) (Wm G B C E0 L sz) k n) : WP G mi d mc ms res M' pc lc (.ref (B + 6) :: st) (Wm G B C E0 L sz) k n := rg_alen (r := wR G B) (j := 6) hd hG.2.2.2.2.1 rfl hL (by show _ < 56; omega) rfl kk
theorem l_counts (hd : decode mi.2.1 pc = .ok (.arraylength, 1)) (hG : GOK G) (hL : rIn (wR G B) L) (kk : WP G mi d mc ms res M' (pc + 1) lc (.int (nI 9) :: st) (Wm G B C E0 L sz) k n) : WP G mi d mc ms res M' pc lc (.ref (B + 3) :: st) (Wm G B C E0 L sz) k n := rg_alen (r := wR G B) (j := 3) hd hG.1 rfl hL (by show _ < 56; omega) rfl kk
theorem v_World {np d' mc' ms' : Nat} {y : MethodName} {mj : MI} {As st rest : List Value} {T : u_T} {N : Nat} {res1 : Option Value} {M1 : Mem} (hd : decode mi.2.1 pc = .ok (.invokevirtual idx, 3)) (hk : CallV mi.1 idx y mj np) (hct : Ct G d' y mj (.ref (B) :: As) (Wm G B C E0 L sz) mc' ms' res1 M1) (hL : rIn (wR G B) L) (hcl : vwCl[9]? = some (y.cls, T, N)) (hn : As.length = np) (hdd : d' + 1 ≤ d) (hmc : k + mc' ≤ mc) (hms : n + ms' ≤ ms) (hst : st = As.reverse ++ .ref (B) :: rest) (hsum : (rest.map fun v => v.category).sum ≤ 8) (kk : WP G mi d mc ms res M' (pc + 3) lc (res1.toList ++ rest) M1 (k + mc') (n + ms')) : WP G mi d mc ms res M' pc lc st (Wm G B C E0 L sz) k n := rg_callV (r := wR G B) (j := 0) hd hk hct rfl hL (by show _ < 56; omega) rfl hcl hn hdd hmc hms hst hsum kk
theorem v_Settings {np d' mc' ms' : Nat} {y : MethodName} {mj : MI} {As st rest : List Value} {T : u_T} {N : Nat} {res1 : Option Value} {M1 : Mem} (hd : decode mi.2.1 pc = .ok (.invokevirtual idx, 3)) (hk : CallV mi.1 idx y mj np) (hct : Ct G d' y mj (.ref (B + 1) :: As) (Wm G B C E0 L sz) mc' ms' res1 M1) (hL : rIn (wR G B) L) (hcl : vwCl[6]? = some (y.cls, T, N)) (hn : As.length = np) (hdd : d' + 1 ≤ d) (hmc : k + mc' ≤ mc) (hms : n + ms' ≤ ms) (hst : st = As.reverse ++ .ref (B + 1) :: rest) (hsum : (rest.map fun v => v.category).sum ≤ 8) (kk : WP G mi d mc ms res M' (pc + 3) lc (res1.toList ++ rest) M1 (k + mc') (n + ms')) : WP G mi d mc ms res M' pc lc st (Wm G B C E0 L sz) k n := rg_callV (r := wR G B) (j := 1) hd hk hct rfl hL (by show _ < 56; omega) rfl hcl hn hdd hmc hms hst hsum kk
theorem v_Strand {t : Nat} {np d' mc' ms' : Nat} {y : MethodName} {mj : MI} {As st rest : List Value} {T : u_T} {N : Nat} {res1 : Option Value} {M1 : Mem} (hd : decode mi.2.1 pc = .ok (.invokevirtual idx, 3)) (hk : CallV mi.1 idx y mj np) (hct : Ct G d' y mj (.ref (aSt B t) :: As) (Wm G B C E0 L sz) mc' ms' res1 M1) (hL : rIn (wR G B) L) (h : t < 6) (hcl : vwCl[8]? = some (y.cls, T, N)) (hn : As.length = np) (hdd : d' + 1 ≤ d) (hmc : k + mc' ≤ mc) (hms : n + ms' ≤ ms) (hst : st = As.reverse ++ .ref (aSt B t) :: rest) (hsum : (rest.map fun v => v.category).sum ≤ 8) (kk : WP G mi d mc ms res M' (pc + 3) lc (res1.toList ++ rest) M1 (k + mc') (n + ms')) : WP G mi d mc ms res M' pc lc st (Wm G B C E0 L sz) k n := rg_callV (r := wR G B) (j := 7 + t) hd hk hct rfl hL (by show _ < 56; omega) (wSh_st h) hcl hn hdd hmc hms hst hsum kk
theorem v_Lock {o : Nat} {np d' mc' ms' : Nat} {y : MethodName} {mj : MI} {As st rest : List Value} {T : u_T} {N : Nat} {res1 : Option Value} {M1 : Mem} (hd : decode mi.2.1 pc = .ok (.invokevirtual idx, 3)) (hk : CallV mi.1 idx y mj np) (hct : Ct G d' y mj (.ref (aLk B o) :: As) (Wm G B C E0 L sz) mc' ms' res1 M1) (hL : rIn (wR G B) L) (h : o < 8) (hcl : vwCl[4]? = some (y.cls, T, N)) (hn : As.length = np) (hdd : d' + 1 ≤ d) (hmc : k + mc' ≤ mc) (hms : n + ms' ≤ ms) (hst : st = As.reverse ++ .ref (aLk B o) :: rest) (hsum : (rest.map fun v => v.category).sum ≤ 8) (kk : WP G mi d mc ms res M' (pc + 3) lc (res1.toList ++ rest) M1 (k + mc') (n + ms')) : WP G mi d mc ms res M' pc lc st (Wm G B C E0 L sz) k n := rg_callV (r := wR G B) (j := 13 + 5 * o) hd hk hct rfl hL (by show _ < 56; omega) (wSh_lk h) hcl hn hdd hmc hms hst hsum kk
theorem v_Kind {c : Nat} {np d' mc' ms' : Nat} {y : MethodName} {mj : MI} {As st rest : List Value} {T : u_T} {N : Nat} {res1 : Option Value} {M1 : Mem} (hd : decode mi.2.1 pc = .ok (.invokevirtual idx, 3)) (hk : CallV mi.1 idx y mj np) (hct : Ct G d' y mj (.ref (aKd B c) :: As) (Wm G B C E0 L sz) mc' ms' res1 M1) (hL : rIn (wR G B) L) (h : c < 3) (hcl : vwCl[2]? = some (y.cls, T, N)) (hn : As.length = np) (hdd : d' + 1 ≤ d) (hmc : k + mc' ≤ mc) (hms : n + ms' ≤ ms) (hst : st = As.reverse ++ .ref (aKd B c) :: rest) (hsum : (rest.map fun v => v.category).sum ≤ 8) (kk : WP G mi d mc ms res M' (pc + 3) lc (res1.toList ++ rest) M1 (k + mc') (n + ms')) : WP G mi d mc ms res M' pc lc st (Wm G B C E0 L sz) k n := rg_callV (r := wR G B) (j := 53 + c) hd hk hct rfl hL (by show _ < 56; omega) (wSh_kd h) hcl hn hdd hmc hms hst hsum kk
theorem v_Line {j q p : Nat} {np d' mc' ms' : Nat} {y : MethodName} {mj : MI} {As st rest : List Value} {T : u_T} {N : Nat} {res1 : Option Value} {M1 : Mem} (hd : decode mi.2.1 pc = .ok (.invokevirtual idx, 3)) (hk : CallV mi.1 idx y mj np) (hct : Ct G d' y mj (.ref (B + j) :: As) (Wm G B C E0 L sz) mc' ms' res1 M1) (hL : rIn (wR G B) L) (h : LN G B j q p) (hcl : vwCl[3]? = some (y.cls, T, N)) (hn : As.length = np) (hdd : d' + 1 ≤ d) (hmc : k + mc' ≤ mc) (hms : n + ms' ≤ ms) (hst : st = As.reverse ++ .ref (B + j) :: rest) (hsum : (rest.map fun v => v.category).sum ≤ 8) (kk : WP G mi d mc ms res M' (pc + 3) lc (res1.toList ++ rest) M1 (k + mc') (n + ms')) : WP G mi d mc ms res M' pc lc st (Wm G B C E0 L sz) k n := rg_callV (r := wR G B) (j := j) hd hk hct rfl hL (by show _ < 56; have := h.1; omega) h.2.1 hcl hn hdd hmc hms hst hsum kk
end WAR
