/-! a call of both: write, save, restore -/
section SW
variable {G : GG} {X : Nat} {E : Nat → va_E} {L : List Nat} {sz d : Nat} {S : Nat → Nat → Int32} {n r : Nat}
theorem ap_eq {F : Nat → Int32} {tx : Nat → Int32} {Ln : Nat} {x : Int32} (h : POK F tx Ln) : apdF F x = if Ln < 200 then upd (upd F Ln x) 311 (nI (Ln + 1)) else F := by
  have hL := h.2.1
  unfold apdF
  rw [h.1, ntn (by omega), nI_succ]
  by_cases q : Ln < 200
  · rw [if_pos q, if_pos (show nI Ln < 200 from nI_lt (a := Ln) (b := 200) q (by decide))]
  · rw [if_neg q, if_neg (show ¬ nI Ln < 200 from nI_nlt (a := Ln) (b := 200) (by omega) (by omega))]
theorem st_write {x : Int32} (hG : GOK G) (hX : XIn X L) (h : SR S n r) (hn : n + 100 ≤ 100000) (hr : r + 20000 ≤ 100000000) (hdp : 1 ≤ d) : Stq G X E L sz d S n r yX11_write iX11_write yX12_write iX12_write [.int x] := by
  obtain ⟨tx, Ln, t1, t2⟩ := h.2.1
  have hL := t1.2.1
  have c1 := cX_write (S := S) (E := E) (sz := sz) (x := x) hG hX t1 hdp
  have c2 := fun E0 => cm_write (Y := X + 248) (F := S 12) (E0 := E0) (sz := sz) (x := x) hG (hX.r (G := G) (i := 12) (by decide)) ⟨Ln, hL, t2.1⟩ hdp
  have hmo : CR S (S 12) (n + 100) (r + 20000) := h.1.mo (by omega) (by omega) hn hr
  unfold wrS at c1
  unfold writeM at c2
  by_cases q : inP x 32 126
  · rw [if_neg q.1, if_pos (Int32.not_lt.mp q.2), ap_eq t1, t1.1] at c1
    simp only [if_pos q] at c2
    by_cases f : Ln < 200
    · rw [if_pos (show nI Ln < 200 from nI_lt (a := Ln) (b := 200) f (by decide)), if_pos f] at c1
      dsimp only at c1
      rw [upd_eq] at c1
      have n200 : ¬ S 12 9001 = 200 := fun z => by
        have := nI_inj (a := Ln) (b := 200) (by omega) (by decide) (t2.1.symm.trans z)
        omega
      have ev : upd (upd (S 12) (5000 + nt (S 12 9001)) x) 9001 (upd (S 12) (5000 + nt (S 12 9001)) x 9001 + 1) = upd (upd (S 12) (5000 + Ln) x) 9001 (nI (Ln + 1)) := by
        rw [t2.1, ntn (by omega), upd_ne (by omega), t2.1, nI_succ]
      simp only [if_neg n200, ev] at c2
      simp only [upd_eq] at c2
      refine ⟨_, _, _, c1, cm12 (updS_ne (by decide)) c2, h.nx ?_ ?_ ?_ ?_ ?_⟩
      · exact hmo.sm (updS_ne (by decide)) (updS_ne (by decide)) (fun k hk => by rw [upd_ne (by omega), upd_ne (by omega)])
      · refine ⟨fun k => if k = Ln then x else tx k, Ln + 1, ?_, ?_⟩
        · rw [updS_eq]
          refine ⟨upd_eq, by omega, fun k hk => ?_⟩
          rw [upd_ne (by omega)]
          show _ = if k = Ln then x else tx k
          by_cases e : k = Ln
          · subst e; rw [upd_eq, if_pos rfl]
          · rw [upd_ne e, if_neg e]; exact t1.2.2 k hk
        · refine ⟨upd_eq, by omega, fun k hk => ?_⟩
          rw [upd_ne (by omega)]
          show _ = if k = Ln then x else tx k
          by_cases e : k = Ln
          · subst e; rw [upd_eq, if_pos rfl]
          · rw [upd_ne (by omega), if_neg e]; exact t2.2.2 k hk
      · rw [updS_eq]
        obtain ⟨m, m1, m2⟩ := h.2.2.1
        exact ⟨m, m1, by rw [upd_ne (by omega), upd_ne (by omega)]; exact m2⟩
      · intro k hk; exact updS_ne (by omega)
      · intro k hk; rw [upd_ne (by omega), upd_ne (by omega)]
    · rw [if_neg (show ¬ nI Ln < 200 from nI_nlt (a := Ln) (b := 200) (by omega) (by omega)), if_neg f, updS_id] at c1
      have e200 : S 12 9001 = 200 := by rw [t2.1, show Ln = 200 by omega]; rfl
      simp only [if_pos e200] at c2
      exact ⟨_, _, _, c1, cm12 rfl c2, h.nx hmo h.2.1 h.2.2.1 (fun _ _ => rfl) (fun _ _ => rfl)⟩
  · have e : ∀ A : Int32 × (Nat → Nat → Int32), (if x < 32 then ((-3 : Int32), S) else if x ≤ 126 then A else (-3, S)) = (-3, S) := fun A => by
      by_cases a : x < 32
      · rw [if_pos a]
      · rw [if_neg a, if_neg (fun b => q ⟨a, Int32.not_lt.mpr b⟩)]
    rw [e] at c1
    simp only [if_neg q] at c2
    exact ⟨_, _, _, c1, cm12 rfl c2, h.nx hmo h.2.1 h.2.2.1 (fun _ _ => rfl) (fun _ _ => rfl)⟩
theorem SLk.cg2 {S S' : Nat → Nat → Int32} {F F' : Nat → Int32} {n r n' r' t ri rw_ rj : Nat} (h : SLk S F n r t ri rw_ rj) (h1 : S' ri = S ri) (h2 : S' rw_ = S rw_) (h3 : S' rj = S rj) (hF : ∀ k, k < 482 → F' (3000 + (482 * t + k)) = F (3000 + (482 * t + k))) (h9 : btz (F' 9000) t ↔ btz (F 9000) t) (hn : n ≤ n') (hr : r ≤ r') (hn' : n' ≤ 100000) (hr' : r' ≤ 100000000) : SLk S' F' n' r' t ri rw_ rj := by
  unfold SLk at h ⊢
  rw [h1, h2, h3, h9]
  rcases h with h | ⟨a, b, c⟩
  · exact Or.inl h
  · refine Or.inr ⟨a, b, (c.sm ?_ ?_ (fun k hk => hF k hk)).mo hn hr hn' hr'⟩
    · rw [updS_ne (by decide), updS_eq, updS_ne (by decide), updS_eq]
    · rw [updS_eq, updS_eq]
theorem two {x : Int32} (h : ¬ x < 0 ∧ x < 2) : x = nI 0 ∨ x = nI 1 := by
  obtain ⟨p1, p2⟩ := nat_of (s := 2) h.1 (Int32.not_le.mpr h.2) (by decide)
  have p2 : nt x < 2 := p2
  have p1 : x = nI (nt x) := p1
  generalize nt x = t at p1 p2
  match t, p2 with
  | 0, _ => exact Or.inl p1
  | 1, _ => exact Or.inr p1
theorem two_in {x : Int32} (h : inP x 0 1) : ¬ x < 0 ∧ x < 2 := ⟨h.1, Int32.lt_of_le_of_lt (Int32.not_lt.mp h.2) (by decide)⟩
theorem st_save0 (hG : GOK G) (hX : XIn X L) (h : SR S n r) (hn : n + 100 ≤ 100000) (hr : r + 20000 ≤ 100000000) (hdp : 5 ≤ d) : Stq G X E L sz d S n r yX11_save iX11_save yX12_save iX12_save [.int (nI 0)] := by
  have c1 := cX_save0 (S := S) (E := E) (sz := sz) hG hX (BLs.of h.1.1 h.1.2.1) hdp
  have c2 := fun E0 => cm_save (Y := X + 248) (F := S 12) (E0 := E0) (sz := sz) (x := nI 0) hG (hX.r (G := G) (i := 12) (by decide)) (show 1 ≤ d by omega)
  have hmo : CR S (S 12) (n + 100) (r + 20000) := h.1.mo (by omega) (by omega) hn hr
  obtain ⟨b, b1, b2⟩ := h.2.2.2.1
  obtain ⟨b', d1, d2, d3, d4⟩ := bits b b1 0 (by decide)
  have lo : ∀ k, (k < 3000 ∨ 3964 ≤ k) → cpS 0 482 0 (S 12) k = S 12 k := fun k hk => by rw [cpS_at 482 0 _ k (by omega), if_neg (by omega)]
  have me : ∀ k, k < 482 → cpS 0 482 0 (S 12) (3000 + (482 * 0 + k)) = S 12 k := fun k hk => by rw [cpS_at 482 0 _ _ (by omega), if_pos (by omega), show 3000 + (482 * 0 + k) - (3000 + 482 * 0) = k by omega]
  have ot : ∀ k, k < 482 → cpS 0 482 0 (S 12) (3000 + (482 * 1 + k)) = S 12 (3000 + (482 * 1 + k)) := fun k hk => by rw [cpS_at 482 0 _ _ (by omega), if_neg (by omega)]
  have eM : saveM (S 12) (nI 0) = (S 1 9, upd (cpS 0 482 0 (S 12)) 9000 (nI b')) := by
    unfold saveM svE
    rw [if_pos (show inP (nI 0) 0 1 from ⟨by decide, by decide⟩), show nt (nI 0) = 0 from ntn (by decide), lo 9 (by omega), lo 9000 (by omega), b2, d2, h.1.1.e (q := 9) (by omega)]
  rw [eM] at c2
  generalize hFc : cpS 0 482 0 (S 12) = Fc at *
  have s0 : ∀ k, k ≠ 6 → k ≠ 7 → k ≠ 8 → svS0 S k = S k := fun k k1 k2 k3 => by unfold svS0; rw [updS_ne k1, updS_ne k3, updS_ne k2]
  have z12 : updS (svS0 S) 12 (upd Fc 9000 (nI b')) 12 = upd Fc 9000 (nI b') := updS_eq
  have zz : ∀ k, k ≠ 12 → k ≠ 6 → k ≠ 7 → k ≠ 8 → updS (svS0 S) 12 (upd Fc 9000 (nI b')) k = S k := fun k k0 k1 k2 k3 => by rw [updS_ne k0, s0 k k1 k2 k3]
  refine ⟨_, _, _, c1, cm12 (s0 12 (by decide) (by decide) (by decide)) c2, ?_⟩
  have sl : SLk (updS (svS0 S) 12 (upd Fc 9000 (nI b'))) (upd Fc 9000 (nI b')) (n + 100) (r + 20000) 0 6 7 8 := by
    have a1 : updS (svS0 S) 12 (upd Fc 9000 (nI b')) 6 = upd (S 6) 2 1 := by rw [updS_ne (by decide)]; unfold svS0; rw [updS_eq]
    have a2 : updS (svS0 S) 12 (upd Fc 9000 (nI b')) 7 = S 1 := by rw [updS_ne (by decide)]; unfold svS0; rw [updS_ne (by decide), updS_ne (by decide), updS_eq]
    have a3 : updS (svS0 S) 12 (upd Fc 9000 (nI b')) 8 = S 3 := by rw [updS_ne (by decide)]; unfold svS0; rw [updS_ne (by decide), updS_eq]
    unfold SLk
    rw [a1, a2, a3]
    refine Or.inr ⟨upd_eq, by rw [upd_eq]; exact d3, hmo.sm ?_ ?_ (fun k hk => ?_)⟩
    · rw [updS_ne (by decide), updS_eq]
    · rw [updS_eq]
    · show upd Fc 9000 (nI b') (3000 + (482 * 0 + k)) = S 12 k
      rw [upd_ne (by omega)]; exact me k hk
  have so : SLk (updS (svS0 S) 12 (upd Fc 9000 (nI b'))) (upd Fc 9000 (nI b')) (n + 100) (r + 20000) 1 9 10 11 := by
    refine SLk.cg2 h.2.2.2.2.2 (zz 9 (by decide) (by decide) (by decide) (by decide)) (zz 10 (by decide) (by decide) (by decide) (by decide)) (zz 11 (by decide) (by decide) (by decide) (by decide)) (fun k hk => ?_) ?_ (by omega) (by omega) hn hr
    · rw [upd_ne (by omega)]; exact ot k hk
    · rw [upd_eq, b2]; exact d4 1 (by decide) (by decide)
  unfold SR
  rw [z12]
  refine ⟨hmo.sm (zz 1 (by decide) (by decide) (by decide) (by decide)) (zz 3 (by decide) (by decide) (by decide) (by decide)) (fun k hk => by rw [upd_ne (by omega)]; exact lo k (by omega)), h.2.1.cg (zz 4 (by decide) (by decide) (by decide) (by decide)) (fun k hk => by rw [upd_ne (by omega)]; exact lo k (by omega)), by rw [zz 4 (by decide) (by decide) (by decide) (by decide)]; exact h.2.2.1, ⟨b', d1, upd_eq⟩, sl, so⟩
theorem st_rest0 (hG : GOK G) (hX : XIn X L) (h : SR S n r) (hn : n + 100 ≤ 100000) (hr : r + 20000 ≤ 100000000) (hdp : 5 ≤ d) : Stq G X E L sz d S n r yX11_restore iX11_restore yX12_restore iX12_restore [.int (nI 0)] := by
  have c2 := fun E0 => cm_restore (Y := X + 248) (F := S 12) (E0 := E0) (sz := sz) (x := nI 0) hG (hX.r (G := G) (i := 12) (by decide)) (show 1 ≤ d by omega)
  have hmo : CR S (S 12) (n + 100) (r + 20000) := h.1.mo (by omega) (by omega) hn hr
  have eM : restM (S 12) (nI 0) = if btz (S 12 9000) 0 then (-7, S 12) else (cpL 0 482 0 (S 12) 9, cpL 0 482 0 (S 12)) := by
    unfold restM btz
    rw [if_pos (show inP (nI 0) 0 1 from ⟨by decide, by decide⟩), show nt (nI 0) = 0 from ntn (by decide)]
  rw [eM] at c2
  have sl := h.2.2.2.2.1
  rcases sl with ⟨a, b⟩ | ⟨a, b, c⟩
  · simp only [if_pos b] at c2
    have c1 := cX_restN0 (S := S) (E := E) (sz := sz) (d := d) hG hX a
    exact ⟨_, _, _, c1, cm12 rfl c2, h.nx hmo h.2.1 h.2.2.1 (fun _ _ => rfl) (fun _ _ => rfl)⟩
  · simp only [if_neg b] at c2
    have lo : ∀ k, k < 482 → cpL 0 482 0 (S 12) k = S 12 (3000 + (482 * 0 + k)) := fun k hk => by rw [cpL_at 482 0 _ k (by omega), if_pos (by omega)]
    have hi_ : ∀ k, 482 ≤ k → cpL 0 482 0 (S 12) k = S 12 k := fun k hk => by rw [cpL_at 482 0 _ k (by omega), if_neg (by omega)]
    generalize cpL 0 482 0 (S 12) = Fc at *
    have g1 : updS (updS S 1 (S 7)) 3 (S 8) 1 = S 7 := by rw [updS_ne (by decide), updS_eq]
    have hR : Rel (S 7) (fun k => S 12 (3000 + (482 * 0 + k))) := by have := c.1; rwa [g1] at this
    have c1 := cX_rest0 (S := S) (E := E) (sz := sz) hG hX (by rw [a]; decide) (BLs.of hR c.2.1) hdp
    have e9 : S 7 9 = Fc 9 := by rw [hR.e (q := 9) (by omega), lo 9 (by omega)]
    rw [e9] at c1
    refine ⟨_, _, _, c1, cm12 ?_ c2, h.nx ?_ ?_ ?_ ?_ ?_⟩
    · unfold rtS0; rw [updS_ne (by decide), updS_ne (by decide)]
    · exact (c.sm rfl rfl (fun k hk => lo k hk)).mo (by omega) (by omega) hn hr
    · exact h.2.1.cg (by unfold rtS0; rw [updS_ne (by decide), updS_ne (by decide)]) (fun k hk => hi_ k (by omega))
    · unfold rtS0; rw [updS_ne (by decide), updS_ne (by decide)]; exact h.2.2.1
    · intro k hk; unfold rtS0; rw [updS_ne (by omega), updS_ne (by omega)]
    · intro k hk; exact hi_ k (by omega)
theorem st_save1 (hG : GOK G) (hX : XIn X L) (h : SR S n r) (hn : n + 100 ≤ 100000) (hr : r + 20000 ≤ 100000000) (hdp : 5 ≤ d) : Stq G X E L sz d S n r yX11_save iX11_save yX12_save iX12_save [.int (nI 1)] := by
  have c1 := cX_save1 (S := S) (E := E) (sz := sz) hG hX (BLs.of h.1.1 h.1.2.1) hdp
  have c2 := fun E0 => cm_save (Y := X + 248) (F := S 12) (E0 := E0) (sz := sz) (x := nI 1) hG (hX.r (G := G) (i := 12) (by decide)) (show 1 ≤ d by omega)
  have hmo : CR S (S 12) (n + 100) (r + 20000) := h.1.mo (by omega) (by omega) hn hr
  obtain ⟨b, b1, b2⟩ := h.2.2.2.1
  obtain ⟨b', d1, d2, d3, d4⟩ := bits b b1 1 (by decide)
  have lo : ∀ k, (k < 3000 ∨ 3964 ≤ k) → cpS 1 482 0 (S 12) k = S 12 k := fun k hk => by rw [cpS_at 482 0 _ k (by omega), if_neg (by omega)]
  have me : ∀ k, k < 482 → cpS 1 482 0 (S 12) (3000 + (482 * 1 + k)) = S 12 k := fun k hk => by rw [cpS_at 482 0 _ _ (by omega), if_pos (by omega), show 3000 + (482 * 1 + k) - (3000 + 482 * 1) = k by omega]
  have ot : ∀ k, k < 482 → cpS 1 482 0 (S 12) (3000 + (482 * 0 + k)) = S 12 (3000 + (482 * 0 + k)) := fun k hk => by rw [cpS_at 482 0 _ _ (by omega), if_neg (by omega)]
  have eM : saveM (S 12) (nI 1) = (S 1 9, upd (cpS 1 482 0 (S 12)) 9000 (nI b')) := by
    unfold saveM svE
    rw [if_pos (show inP (nI 1) 0 1 from ⟨by decide, by decide⟩), show nt (nI 1) = 1 from ntn (by decide), lo 9 (by omega), lo 9000 (by omega), b2, d2, h.1.1.e (q := 9) (by omega)]
  rw [eM] at c2
  generalize hFc : cpS 1 482 0 (S 12) = Fc at *
  have s0 : ∀ k, k ≠ 9 → k ≠ 10 → k ≠ 11 → svS1 S k = S k := fun k k1 k2 k3 => by unfold svS1; rw [updS_ne k1, updS_ne k3, updS_ne k2]
  have z12 : updS (svS1 S) 12 (upd Fc 9000 (nI b')) 12 = upd Fc 9000 (nI b') := updS_eq
  have zz : ∀ k, k ≠ 12 → k ≠ 9 → k ≠ 10 → k ≠ 11 → updS (svS1 S) 12 (upd Fc 9000 (nI b')) k = S k := fun k k0 k1 k2 k3 => by rw [updS_ne k0, s0 k k1 k2 k3]
  refine ⟨_, _, _, c1, cm12 (s0 12 (by decide) (by decide) (by decide)) c2, ?_⟩
  have sl : SLk (updS (svS1 S) 12 (upd Fc 9000 (nI b'))) (upd Fc 9000 (nI b')) (n + 100) (r + 20000) 1 9 10 11 := by
    have a1 : updS (svS1 S) 12 (upd Fc 9000 (nI b')) 9 = upd (S 9) 2 1 := by rw [updS_ne (by decide)]; unfold svS1; rw [updS_eq]
    have a2 : updS (svS1 S) 12 (upd Fc 9000 (nI b')) 10 = S 1 := by rw [updS_ne (by decide)]; unfold svS1; rw [updS_ne (by decide), updS_ne (by decide), updS_eq]
    have a3 : updS (svS1 S) 12 (upd Fc 9000 (nI b')) 11 = S 3 := by rw [updS_ne (by decide)]; unfold svS1; rw [updS_ne (by decide), updS_eq]
    unfold SLk
    rw [a1, a2, a3]
    refine Or.inr ⟨upd_eq, by rw [upd_eq]; exact d3, hmo.sm ?_ ?_ (fun k hk => ?_)⟩
    · rw [updS_ne (by decide), updS_eq]
    · rw [updS_eq]
    · show upd Fc 9000 (nI b') (3000 + (482 * 1 + k)) = S 12 k
      rw [upd_ne (by omega)]; exact me k hk
  have so : SLk (updS (svS1 S) 12 (upd Fc 9000 (nI b'))) (upd Fc 9000 (nI b')) (n + 100) (r + 20000) 0 6 7 8 := by
    refine SLk.cg2 h.2.2.2.2.1 (zz 6 (by decide) (by decide) (by decide) (by decide)) (zz 7 (by decide) (by decide) (by decide) (by decide)) (zz 8 (by decide) (by decide) (by decide) (by decide)) (fun k hk => ?_) ?_ (by omega) (by omega) hn hr
    · rw [upd_ne (by omega)]; exact ot k hk
    · rw [upd_eq, b2]; exact d4 0 (by decide) (by decide)
  unfold SR
  rw [z12]
  refine ⟨hmo.sm (zz 1 (by decide) (by decide) (by decide) (by decide)) (zz 3 (by decide) (by decide) (by decide) (by decide)) (fun k hk => by rw [upd_ne (by omega)]; exact lo k (by omega)), h.2.1.cg (zz 4 (by decide) (by decide) (by decide) (by decide)) (fun k hk => by rw [upd_ne (by omega)]; exact lo k (by omega)), by rw [zz 4 (by decide) (by decide) (by decide) (by decide)]; exact h.2.2.1, ⟨b', d1, upd_eq⟩, so, sl⟩
theorem st_rest1 (hG : GOK G) (hX : XIn X L) (h : SR S n r) (hn : n + 100 ≤ 100000) (hr : r + 20000 ≤ 100000000) (hdp : 5 ≤ d) : Stq G X E L sz d S n r yX11_restore iX11_restore yX12_restore iX12_restore [.int (nI 1)] := by
  have c2 := fun E0 => cm_restore (Y := X + 248) (F := S 12) (E0 := E0) (sz := sz) (x := nI 1) hG (hX.r (G := G) (i := 12) (by decide)) (show 1 ≤ d by omega)
  have hmo : CR S (S 12) (n + 100) (r + 20000) := h.1.mo (by omega) (by omega) hn hr
  have eM : restM (S 12) (nI 1) = if btz (S 12 9000) 1 then (-7, S 12) else (cpL 1 482 0 (S 12) 9, cpL 1 482 0 (S 12)) := by
    unfold restM btz
    rw [if_pos (show inP (nI 1) 0 1 from ⟨by decide, by decide⟩), show nt (nI 1) = 1 from ntn (by decide)]
  rw [eM] at c2
  have sl := h.2.2.2.2.2
  rcases sl with ⟨a, b⟩ | ⟨a, b, c⟩
  · simp only [if_pos b] at c2
    have c1 := cX_restN1 (S := S) (E := E) (sz := sz) (d := d) hG hX a
    exact ⟨_, _, _, c1, cm12 rfl c2, h.nx hmo h.2.1 h.2.2.1 (fun _ _ => rfl) (fun _ _ => rfl)⟩
  · simp only [if_neg b] at c2
    have lo : ∀ k, k < 482 → cpL 1 482 0 (S 12) k = S 12 (3000 + (482 * 1 + k)) := fun k hk => by rw [cpL_at 482 0 _ k (by omega), if_pos (by omega)]
    have hi_ : ∀ k, 482 ≤ k → cpL 1 482 0 (S 12) k = S 12 k := fun k hk => by rw [cpL_at 482 0 _ k (by omega), if_neg (by omega)]
    generalize cpL 1 482 0 (S 12) = Fc at *
    have g1 : updS (updS S 1 (S 10)) 3 (S 11) 1 = S 10 := by rw [updS_ne (by decide), updS_eq]
    have hR : Rel (S 10) (fun k => S 12 (3000 + (482 * 1 + k))) := by have := c.1; rwa [g1] at this
    have c1 := cX_rest1 (S := S) (E := E) (sz := sz) hG hX (by rw [a]; decide) (BLs.of hR c.2.1) hdp
    have e9 : S 10 9 = Fc 9 := by rw [hR.e (q := 9) (by omega), lo 9 (by omega)]
    rw [e9] at c1
    refine ⟨_, _, _, c1, cm12 ?_ c2, h.nx ?_ ?_ ?_ ?_ ?_⟩
    · unfold rtS1; rw [updS_ne (by decide), updS_ne (by decide)]
    · exact (c.sm rfl rfl (fun k hk => lo k hk)).mo (by omega) (by omega) hn hr
    · exact h.2.1.cg (by unfold rtS1; rw [updS_ne (by decide), updS_ne (by decide)]) (fun k hk => hi_ k (by omega))
    · unfold rtS1; rw [updS_ne (by decide), updS_ne (by decide)]; exact h.2.2.1
    · intro k hk; unfold rtS1; rw [updS_ne (by omega), updS_ne (by omega)]
    · intro k hk; exact hi_ k (by omega)
theorem st_save {x : Int32} (hG : GOK G) (hX : XIn X L) (h : SR S n r) (hn : n + 100 ≤ 100000) (hr : r + 20000 ≤ 100000000) (hdp : 5 ≤ d) : Stq G X E L sz d S n r yX11_save iX11_save yX12_save iX12_save [.int x] := by
  by_cases q : ¬ x < 0 ∧ x < 2
  · rcases two q with rfl | rfl
    · exact st_save0 hG hX h hn hr hdp
    · exact st_save1 hG hX h hn hr hdp
  · have c1 := cX_saveX (S := S) (E := E) (sz := sz) (d := d) hG hX q
    have c2 := fun E0 => cm_save (Y := X + 248) (F := S 12) (E0 := E0) (sz := sz) (x := x) hG (hX.r (G := G) (i := 12) (by decide)) (show 1 ≤ d by omega)
    have eM : saveM (S 12) x = (-3, S 12) := by unfold saveM; rw [if_neg (fun z => q (two_in z))]
    rw [eM] at c2
    exact ⟨_, _, _, c1, cm12 rfl c2, h.nx (h.1.mo (by omega) (by omega) hn hr) h.2.1 h.2.2.1 (fun _ _ => rfl) (fun _ _ => rfl)⟩
theorem st_restore {x : Int32} (hG : GOK G) (hX : XIn X L) (h : SR S n r) (hn : n + 100 ≤ 100000) (hr : r + 20000 ≤ 100000000) (hdp : 5 ≤ d) : Stq G X E L sz d S n r yX11_restore iX11_restore yX12_restore iX12_restore [.int x] := by
  by_cases q : ¬ x < 0 ∧ x < 2
  · rcases two q with rfl | rfl
    · exact st_rest0 hG hX h hn hr hdp
    · exact st_rest1 hG hX h hn hr hdp
  · have c1 := cX_restoreX (S := S) (E := E) (sz := sz) (d := d) hG hX q
    have c2 := fun E0 => cm_restore (Y := X + 248) (F := S 12) (E0 := E0) (sz := sz) (x := x) hG (hX.r (G := G) (i := 12) (by decide)) (show 1 ≤ d by omega)
    have eM : restM (S 12) x = (-3, S 12) := by unfold restM; rw [if_neg (fun z => q (two_in z))]
    rw [eM] at c2
    exact ⟨_, _, _, c1, cm12 rfl c2, h.nx (h.1.mo (by omega) (by omega) hn hr) h.2.1 h.2.2.1 (fun _ _ => rfl) (fun _ _ => rfl)⟩
end SW
