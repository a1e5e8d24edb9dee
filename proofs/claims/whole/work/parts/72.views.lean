/-! many regions side by side -/
theorem rE_rE {r : Rg} {F F' : Nat → Int32} {E : Nat → va_E} : rE r F (rE r F' E) = rE r F E := by
  funext a
  by_cases h : r.2.2.1 ≤ a ∧ a < r.2.2.1 + r.2.2.2
  · unfold rE; rw [if_pos h, if_pos h]
  · rw [rE_out h, rE_out h, rE_out h]
def Dj (r r' : Rg) : Prop := r.2.2.1 + r.2.2.2 ≤ r'.2.2.1 ∨ r'.2.2.1 + r'.2.2.2 ≤ r.2.2.1
theorem Dj.sy {r r' : Rg} (h : Dj r r') : Dj r' r := h.symm
theorem rE_in {r : Rg} {F : Nat → Int32} {E E' : Nat → va_E} {a : Nat} (h : r.2.2.1 ≤ a ∧ a < r.2.2.1 + r.2.2.2) : rE r F E a = rE r F E' a := by
  unfold rE; rw [if_pos h, if_pos h]
theorem rE_comm {r r' : Rg} {F F' : Nat → Int32} {E : Nat → va_E} (h : Dj r r') : rE r F (rE r' F' E) = rE r' F' (rE r F E) := by
  funext a
  by_cases h1 : r.2.2.1 ≤ a ∧ a < r.2.2.1 + r.2.2.2
  · have h2 : ¬ (r'.2.2.1 ≤ a ∧ a < r'.2.2.1 + r'.2.2.2) := by
      rcases h with h | h
      · omega
      · omega
    rw [rE_out h2]; exact rE_in h1
  · rw [rE_out h1]
    by_cases h2 : r'.2.2.1 ≤ a ∧ a < r'.2.2.1 + r'.2.2.2
    · exact rE_in h2
    · rw [rE_out h2, rE_out h2, rE_out h1]
/-- the region stands in E -/
def At (r : Rg) (F : Nat → Int32) (E : Nat → va_E) : Prop := rE r F E = E
theorem At.self {r : Rg} {F : Nat → Int32} {E : Nat → va_E} : At r F (rE r F E) := rE_rE
theorem At.out {r r' : Rg} {F F' : Nat → Int32} {E : Nat → va_E} (h : Dj r r') (ha : At r' F' E) : At r' F' (rE r F E) := by
  unfold At at ha ⊢
  rw [rE_comm h.sy, ha]
theorem At.rm {r : Rg} {F : Nat → Int32} {E : Nat → va_E} {L : List Nat} {sz : Nat} (h : At r F E) : Rm r F E L sz = (L, E, sz) := by
  show (L, rE r F E, sz) = _
  rw [h]
/-- from one region's words to another's -/
theorem At.vw {r r' : Rg} {F F' : Nat → Int32} {E : Nat → va_E} {L : List Nat} {sz : Nat} (h : Dj r r') (ha : At r' F' E) : Rm r F E L sz = Rm r' F' (rE r F E) L sz := by
  show (L, rE r F E, sz) = (L, rE r' F' (rE r F E), sz)
  rw [rE_comm h.sy, ha]
def updS (S : Nat → Nat → Int32) (i : Nat) (F : Nat → Int32) : Nat → Nat → Int32 := fun k => if k = i then F else S k
theorem updS_eq {S : Nat → Nat → Int32} {i : Nat} {F : Nat → Int32} : updS S i F i = F := if_pos rfl
theorem updS_ne {S : Nat → Nat → Int32} {i k : Nat} {F : Nat → Int32} (h : k ≠ i) : updS S i F k = S k := if_neg h
theorem updS_id {S : Nat → Nat → Int32} {i : Nat} : updS S i (S i) = S := by
  funext k
  by_cases h : k = i
  · subst h; exact updS_eq
  · exact updS_ne h
theorem updS_twice {S : Nat → Nat → Int32} {i : Nat} {F F' : Nat → Int32} : updS (updS S i F) i F' = updS S i F' := by
  funext k
  by_cases h : k = i
  · subst h; rw [updS_eq, updS_eq]
  · rw [updS_ne h, updS_ne h, updS_ne h]
/-- the first n regions of a family over E -/
def sE (R : Nat → Rg) (S : Nat → Nat → Int32) (E : Nat → va_E) : Nat → (Nat → va_E)
  | 0 => E
  | n + 1 => rE (R n) (S n) (sE R S E n)
def DjF (R : Nat → Rg) (N : Nat) : Prop := ∀ i j, i < N → j < N → i ≠ j → Dj (R i) (R j)
theorem sE_congr {R : Nat → Rg} {S S' : Nat → Nat → Int32} {E : Nat → va_E} : ∀ n, (∀ k, k < n → S k = S' k) → sE R S E n = sE R S' E n
  | 0, _ => rfl
  | n + 1, h => by
    show rE (R n) (S n) (sE R S E n) = rE (R n) (S' n) (sE R S' E n)
    rw [h n (by omega), sE_congr n (fun k hk => h k (by omega))]
theorem sE_push {R : Nat → Rg} {S : Nat → Nat → Int32} {E : Nat → va_E} {F : Nat → Int32} {N i : Nat} (hd : DjF R N) (hi : i < N) : ∀ n, n ≤ N → i < n → rE (R i) F (sE R S E n) = sE R (updS S i F) E n
  | 0, _, h => by omega
  | n + 1, hn, h => by
    show rE (R i) F (rE (R n) (S n) (sE R S E n)) = rE (R n) (updS S i F n) (sE R (updS S i F) E n)
    by_cases e : i = n
    · subst e
      rw [rE_rE, updS_eq, sE_congr i (S := updS S i F) (S' := S) (fun k hk => updS_ne (by omega))]
    · rw [rE_comm (hd i n (by omega) (by omega) e), sE_push hd hi n (by omega) (by omega), updS_ne (fun q => e q.symm)]
theorem sE_at {R : Nat → Rg} {S : Nat → Nat → Int32} {E : Nat → va_E} {N i : Nat} (hd : DjF R N) (hi : i < N) : At (R i) (S i) (sE R S E N) := by
  unfold At
  rw [sE_push hd hi N (Nat.le_refl _) hi, updS_id]
/-! the journal's and the text's regions -/
def jSh (G : GG) (J : Nat) (j : Nat) : Shp := match j with
  | 0 => .inl (1, [some (.ref (J + 1)), some (.ref (J + 2)), some (.ref (J + 3)), some (.ref (J + 4)), none])
  | _ => .inr (cyI G, 60, none)
def jix (j f : Nat) : Nat := match j with
  | 0 => 400
  | 1 => f
  | 2 => 100 + f
  | 3 => 200 + f
  | _ => 300 + f
abbrev jR (G : GG) (J : Nat) : Rg := (jSh G J, jix, J, 5)
theorem isI_jSh {G : GG} {J j f : Nat} (hj : j < 5) (h : isI (jSh G J j) f) : (j = 0 ∧ f = 4) ∨ (1 ≤ j ∧ f < 60) := by
  match j, hj with
  | 0, _ =>
    simp only [jSh, isI] at h
    match f, h with
    | 0, h => simp at h
    | 1, h => simp at h
    | 2, h => simp at h
    | 3, h => simp at h
    | 4, _ => simp
    | f + 5, h => simp at h
  | 1, _ => have h : f < 60 := h; omega
  | 2, _ => have h : f < 60 := h; omega
  | 3, _ => have h : f < 60 := h; omega
  | 4, _ => have h : f < 60 := h; omega
theorem jix_at {j f : Nat} (hj : j < 5) (h : (j = 0 ∧ f = 4) ∨ (1 ≤ j ∧ f < 60)) : jix j f = if j = 0 then 400 else 100 * (j - 1) + f := by
  match j, hj with
  | 0, _ => rfl
  | 1, _ => show f = _; rw [if_neg (by omega)]; omega
  | 2, _ => rfl
  | 3, _ => rfl
  | 4, _ => rfl
theorem jR_ok (G : GG) (J : Nat) : rOK (jR G J) := by
  intro j f j' f' hj hj' h h' he
  have hj : j < 5 := hj
  have hj' : j' < 5 := hj'
  have h1 := isI_jSh hj h
  have h2 := isI_jSh hj' h'
  have he : jix j f = jix j' f' := he
  rw [jix_at hj h1, jix_at hj' h2] at he
  split at he <;> split at he <;> omega
def pSh (G : GG) (P : Nat) (j : Nat) : Shp := match j with
  | 0 => .inl (5, [some (.ref (P + 1)), some (.ref (P + 2)), none, none])
  | 1 => .inr (cyI G, 200, none)
  | _ => .inr (cyI G, 3, none)
def pix (j f : Nat) : Nat := match j with
  | 0 => 308 + f
  | 1 => f
  | _ => 300 + f
abbrev pR (G : GG) (P : Nat) : Rg := (pSh G P, pix, P, 3)
theorem isI_pSh {G : GG} {P j f : Nat} (hj : j < 3) (h : isI (pSh G P j) f) : (j = 0 ∧ (f = 2 ∨ f = 3)) ∨ (j = 1 ∧ f < 200) ∨ (j = 2 ∧ f < 3) := by
  match j, hj with
  | 0, _ =>
    simp only [pSh, isI] at h
    match f, h with
    | 0, h => simp at h
    | 1, h => simp at h
    | 2, _ => simp
    | 3, _ => simp
    | f + 4, h => simp at h
  | 1, _ => have h : f < 200 := h; omega
  | 2, _ => have h : f < 3 := h; omega
theorem pR_ok (G : GG) (P : Nat) : rOK (pR G P) := by
  intro j f j' f' hj hj' h h' he
  have hj : j < 3 := hj
  have hj' : j' < 3 := hj'
  have he : pix j f = pix j' f' := he
  rcases isI_pSh hj h with ⟨rfl, g⟩ | ⟨rfl, g⟩ | ⟨rfl, g⟩ <;> rcases isI_pSh hj' h' with ⟨rfl, g'⟩ | ⟨rfl, g'⟩ | ⟨rfl, g'⟩ <;> simp only [pix] at he <;> refine ⟨?_, ?_⟩ <;> omega
/-! the object's own cells: itself, the row of slots, a slot -/
abbrev xR (X : Nat) : Rg := ((fun _ => .inl (10, [some (.ref (X + 1)), some (.ref (X + 57)), some (.ref (X + 113)), some (.ref (X + 118)), some (.ref (X + 121)), some (.ref (X + 122))])), (fun _ f => f), X, 1)
abbrev yR (G : GG) (X : Nat) : Rg := ((fun _ => .inr (cyT G, 2, some (fun i => some (X + 124 + 62 * i)))), (fun _ f => f), X + 121, 1)
abbrev zR (Z : Nat) : Rg := ((fun _ => .inl (7, [some (.ref (Z + 1)), some (.ref (Z + 57)), none])), (fun _ f => f), Z, 1)
theorem zR_ok (Z : Nat) : rOK (zR Z) := by
  intro j f j' f' hj hj' h h' he
  have hj : j < 1 := hj
  have hj' : j' < 1 := hj'
  exact ⟨by omega, he⟩
/-- all regions: 0 the object, 1 its world, 2 the trial, 3 the journal, 4 the text, 5 the row of slots, 6 7 8 and 9 10 11 the slots with world and journal, 12 the reference -/
def xr (G : GG) (X : Nat) (i : Nat) : Rg := match i with
  | 0 => xR X
  | 1 => wR G (X + 1)
  | 2 => wR G (X + 57)
  | 3 => jR G (X + 113)
  | 4 => pR G (X + 118)
  | 5 => yR G X
  | 6 => zR (X + 124)
  | 7 => wR G (X + 125)
  | 8 => jR G (X + 181)
  | 9 => zR (X + 186)
  | 10 => wR G (X + 187)
  | 11 => jR G (X + 243)
  | _ => mR G (X + 248)
def xlo (i : Nat) : Nat := match i with
  | 0 => 0
  | 1 => 1
  | 2 => 57
  | 3 => 113
  | 4 => 118
  | 5 => 121
  | 6 => 124
  | 7 => 125
  | 8 => 181
  | 9 => 186
  | 10 => 187
  | 11 => 243
  | _ => 248
def xsz (i : Nat) : Nat := match i with
  | 0 => 1
  | 1 => 56
  | 2 => 56
  | 3 => 5
  | 4 => 3
  | 5 => 1
  | 6 => 1
  | 7 => 56
  | 8 => 5
  | 9 => 1
  | 10 => 56
  | 11 => 5
  | _ => 8
theorem xr_lo {G : GG} {X i : Nat} (hi : i < 13) : (xr G X i).2.2.1 = X + xlo i ∧ (xr G X i).2.2.2 = xsz i := by
  match i, hi with
  | 0, _ => exact ⟨rfl, rfl⟩
  | 1, _ => exact ⟨rfl, rfl⟩
  | 2, _ => exact ⟨rfl, rfl⟩
  | 3, _ => exact ⟨rfl, rfl⟩
  | 4, _ => exact ⟨rfl, rfl⟩
  | 5, _ => exact ⟨rfl, rfl⟩
  | 6, _ => exact ⟨rfl, rfl⟩
  | 7, _ => exact ⟨rfl, rfl⟩
  | 8, _ => exact ⟨rfl, rfl⟩
  | 9, _ => exact ⟨rfl, rfl⟩
  | 10, _ => exact ⟨rfl, rfl⟩
  | 11, _ => exact ⟨rfl, rfl⟩
  | 12, _ => exact ⟨rfl, rfl⟩
theorem xlo_dj : ∀ i, i < 13 → ∀ j, j < 13 → i ≠ j → xlo i + xsz i ≤ xlo j ∨ xlo j + xsz j ≤ xlo i := by decide
theorem xr_dj (G : GG) (X : Nat) : DjF (xr G X) 13 := by
  intro i j hi hj e
  unfold Dj
  rw [(xr_lo hi).1, (xr_lo hi).2, (xr_lo hj).1, (xr_lo hj).2]
  rcases xlo_dj i hi j hj e with h | h
  · left; omega
  · right; omega
/-- the whole memory: class and reference, over E -/
def Xm (G : GG) (X : Nat) (S : Nat → Nat → Int32) (E : Nat → va_E) (L : List Nat) (sz : Nat) : Mem := (L, sE (xr G X) S E 13, sz)
def XIn (X : Nat) (L : List Nat) : Prop := ∀ j, j < 256 → X + j ∈ L
theorem XIn.r {G : GG} {X i : Nat} {L : List Nat} (h : XIn X L) (hi : i < 13) : rIn (xr G X i) L := by
  intro j hj
  rw [(xr_lo hi).2] at hj
  rw [(xr_lo hi).1]
  have : xlo i + xsz i ≤ 256 := by
    revert hi
    exact fun hi => (show ∀ i, i < 13 → xlo i + xsz i ≤ 256 by decide) i hi
  have := h (xlo i + j) (by omega)
  rwa [show X + (xlo i + j) = X + xlo i + j by omega] at this
/-- a region of the whole, and back -/
theorem Xm_pull {G : GG} {X i : Nat} {S : Nat → Nat → Int32} {E : Nat → va_E} {L : List Nat} {sz : Nat} (hi : i < 13) : Xm G X S E L sz = Rm (xr G X i) (S i) (sE (xr G X) S E 13) L sz := (sE_at (xr_dj G X) hi).rm.symm
theorem Xm_push {G : GG} {X i : Nat} {S : Nat → Nat → Int32} {E : Nat → va_E} {F : Nat → Int32} {L : List Nat} {sz : Nat} (hi : i < 13) : Rm (xr G X i) F (sE (xr G X) S E 13) L sz = Xm G X (updS S i F) E L sz := by
  show (L, rE (xr G X i) F (sE (xr G X) S E 13), sz) = (L, sE (xr G X) (updS S i F) E 13, sz)
  rw [sE_push (xr_dj G X) hi 13 (Nat.le_refl _) hi]
theorem Xm_at {G : GG} {X i : Nat} {S : Nat → Nat → Int32} {E : Nat → va_E} (hi : i < 13) : At (xr G X i) (S i) (sE (xr G X) S E 13) := sE_at (xr_dj G X) hi
