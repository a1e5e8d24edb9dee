/-! entering -/
theorem upd3 {f : Nat → Int32} {a b c : Nat} {x y z : Int32} (h : a ≠ b ∧ a ≠ c) : upd (upd (upd f a x) b y) c z = upd (upd (upd f b y) c z) a x := by
  rw [upd_comm (f := f) (i := a) (j := b) h.1, upd_comm (f := upd f b y) (i := a) (j := c) h.2]
theorem upd42 {f : Nat → Int32} {k1 k2 k3 k4 a b : Nat} {v1 v2 v3 v4 x y : Int32} (h : (k1 ≠ a ∧ k1 ≠ b ∧ k2 ≠ a ∧ k2 ≠ b) ∧ (k3 ≠ a ∧ k3 ≠ b ∧ k4 ≠ a ∧ k4 ≠ b)) : upd (upd (upd (upd (upd (upd f k1 v1) k2 v2) k3 v3) k4 v4) a x) b y = upd (upd (upd (upd (upd (upd f a x) b y) k1 v1) k2 v2) k3 v3) k4 v4 := by
  rw [upd22 (f := upd (upd f k1 v1) k2 v2) (by omega), upd22 (f := f) (a := k1) (b := k2) (c := a) (d := b) (by omega)]
theorem rcv_upd {F : Nat → Int32} {o k : Nat} {v : Int32} (hk : k ≠ 86 + o ∧ k ≠ 239) : rcv (upd F k v) o = upd (rcv F o) k v := by
  unfold rcv
  rw [upd_ne (show 86 + o ≠ k by omega)]
  split
  · rw [upd_comm (f := F) (i := k) (j := 86 + o) (by omega), upd_ne (show 239 ≠ k by omega), upd_comm (f := upd F (86 + o) 0) (i := k) (j := 239) (by omega)]
  · rfl
theorem hld_in {F : Nat → Int32} {x : Int32} {o : Nat} {c : Int32} (ho : o < 8) : hldM F x o c = upd (upd (rcv F o) (54 + o) x) (62 + o) c := by
  rw [hld_rcv, rcv_upd (by omega), rcv_upd (by omega)]
theorem app_upd {f : Nat → Int32} {q p k : Nat} {x v : Int32} (h : k ≠ q ∧ k ≠ p + nt (f q)) : appF (upd f k v) q p x = upd (appF f q p x) k v := by
  unfold appF
  rw [upd_ne (show q ≠ k by omega)]
  split
  · rfl
  · show upd (upd (upd f k v) (p + nt (f q)) x) q (upd (upd f k v) (p + nt (f q)) x q + 1) = upd (upd (upd f (p + nt (f q)) x) q (upd f (p + nt (f q)) x q + 1)) k v
    rw [upd_comm (f := f) (i := k) (j := p + nt (f q)) (by omega), upd_ne (show q ≠ k by omega), upd_comm (f := upd f (p + nt (f q)) x) (i := k) (j := q) (by omega)]
/-- held, by one who runs -/
theorem INV.hold {F G : Nat → Int32} {n r t o : Nat} (h : INV F n r) (hr : r < 100000000) (ho : o < 8) (ht : t < nt (F 0)) (out : ∀ k, ¬ (k = 46 + o ∨ k = 70 + o ∨ k = 78 + o ∨ k = 102 + o ∨ (231 ≤ k ∧ k < 239)) → G k = F k) (hl : (G (46 + o) = 2 ∧ G (70 + o) = nI t ∧ G (78 + o) = G (222 + o % 3)) ∨ G (46 + o) = 3 ∨ G (46 + o) = 4) (hq : ¬ G (46 + o) = 4 → F (110 + o) = 0 ∧ F (118 + o) = 0) : INV (hldM G (nI t) o 1) n (r + 1) := by
  have hOo := h.2.2.2.2 o ho
  rw [hld_in ho]
  have g86 : G (86 + o) = F (86 + o) := out _ (by omega)
  have g239 : G 239 = F 239 := out _ (by omega)
  have ev : ∀ k, k ≠ 54 + o → k ≠ 62 + o → k ≠ 86 + o → k ≠ 239 → upd (upd (rcv G o) (54 + o) (nI t)) (62 + o) 1 k = G k := fun k a1 a2 a3 a4 => by rw [upd_ne a2, upd_ne a1, rcv_out ⟨a3, a4⟩]
  refine h.ob ho (Nat.le_refl _) (Nat.le_succ _) h.1.2.1 (by omega) (fun k hk => by rw [ev k (by omega) (by omega) (by omega) (by omega)]; exact out k (by omega)) ?_ ?_
  · rw [upd_ne (by omega), upd_ne (by omega)]
    exact rcv_239 ho (by rw [g239]; exact h.z)
  · have v62 : upd (upd (rcv G o) (54 + o) (nI t)) (62 + o) 1 (62 + o) = nI 1 := upd_eq
    have v54 : upd (upd (rcv G o) (54 + o) (nI t)) (62 + o) 1 (54 + o) = nI t := by rw [upd_ne (by omega), upd_eq]
    have v86 : upd (upd (rcv G o) (54 + o) (nI t)) (62 + o) 1 (86 + o) = 0 := by rw [upd_ne (by omega), upd_ne (by omega)]; exact rcv_86 ho (by rw [g86]; exact hOo.2.2.2.2.2.2.1)
    unfold OI
    rw [v62, v54, v86, ev 0 (by omega) (by omega) (by omega) (by omega), ev (46 + o) (by omega) (by omega) (by omega) (by omega), ev (70 + o) (by omega) (by omega) (by omega) (by omega), ev (78 + o) (by omega) (by omega) (by omega) (by omega), ev (222 + o % 3) (by omega) (by omega) (by omega) (by omega), ev (94 + o) (by omega) (by omega) (by omega) (by omega), ev (110 + o) (by omega) (by omega) (by omega) (by omega), ev (118 + o) (by omega) (by omega) (by omega) (by omega), out 0 (by omega), out (94 + o) (by omega), out (110 + o) (by omega), out (118 + o) (by omega)]
    refine ⟨?_, ⟨1, h.1.1, rfl, fun q => absurd q (by decide), fun _ => ⟨t, ht, rfl⟩⟩, fun q => ?_, fun _ => by decide, fun q => ?_, hq, Or.inl rfl, hOo.2.2.2.2.2.2.2⟩
    · rcases hl with ⟨q, -⟩ | q | q
      · exact ⟨2, by omega, q⟩
      · exact ⟨3, by omega, q⟩
      · exact ⟨4, by omega, q⟩
    · rcases hl with ⟨z, -⟩ | z | z <;> rw [z] at q <;> exact absurd q (by decide)
    · rcases hl with ⟨-, z1, z2⟩ | z | z
      · exact ⟨⟨t, ht, z1⟩, fun _ => ⟨z1.symm, z2⟩⟩
      · rw [z] at q; exact absurd q (by decide)
      · rw [z] at q; exact absurd q (by decide)
/-- blocking at an inflated lock -/
theorem enb_eq {F : Nat → Int32} {t o : Nat} (hW : WI F) (ht : t < 6) (ho : o < 8) (hlt : nt (F (110 + o)) < 6) : (enb F t o).2 = upd (upd (appF (upd (upd F 235 (F 235 + 1)) (40 + t) 1) (110 + o) (126 + 6 * o) (nI t)) (10 + t) 1) (28 + t) (nI o) := by
  have e : upd (upd F 235 (F 235 + 1)) (40 + t) 1 (110 + o) = F (110 + o) := by rw [upd_ne (by omega), upd_ne (by omega)]
  exact quM_app (((hW.up (by omega)).up (by omega)).q ho) (by rw [e]; exact hlt)
theorem Rel.bl {C F : Nat → Int32} {n r t o : Nat} (h : Rel C F) (hi : INV F n r) (ho : o < 8) (h4 : F (46 + o) = 4) (ht : t < nt (F 0)) (hrun : F (10 + t) = 0) : Rel (blkF C (nI t) o) (enb F t o).2 ∧ INV (enb F t o).2 n r := by
  obtain ⟨T, t1, t2, t3, t4⟩ := hi.T
  have ht6 : t < 6 := by omega
  have hn : nI t ∉ Qs F o := (hi.2.1.run ht (by rw [hrun]; decide)).2 o ho |>.1
  have hlt := hi.2.1.roomq ht ho hn
  have hlc : nt (C (110 + o)) < 6 := by rw [h.nq (by omega)]; exact hlt
  have eq := enb_eq h.1 ht6 ho hlt
  have e110 : upd (upd F 235 (F 235 + 1)) (40 + t) 1 (110 + o) = F (110 + o) := by rw [upd_ne (by omega), upd_ne (by omega)]
  rw [eq]
  refine ⟨?_, ?_⟩
  · have c4 : upd (upd (upd (appF C (110 + o) (126 + 6 * o) (nI t)) (10 + t) 1) (28 + t) (nI o)) (40 + t) 1 (231 + 4) = F 235 := by
      rw [upd_ne (by omega), upd_ne (by omega), upd_ne (by omega), appF_o hlc (by omega) (by omega)]; exact h.e (by omega)
    have cq : blkF C (nI t) o = upd (upd (appF (upd (upd C 235 (F 235 + 1)) (40 + t) 1) (110 + o) (126 + 6 * o) (nI t)) (10 + t) 1) (28 + t) (nI o) := by
      unfold blkF
      rw [ntn (by omega), c4, app_upd (f := upd C 235 (F 235 + 1)) (k := 40 + t) (by rw [upd_ne (by omega)]; omega), app_upd (f := C) (k := 235) (by omega), upd22 (f := appF C (110 + o) (126 + 6 * o) (nI t)) (by omega)]
      rw [upd_comm (f := appF C (110 + o) (126 + 6 * o) (nI t)) (i := 40 + t) (j := 231 + 4) (by omega)]
    rw [cq]
    refine Rel.up (Rel.st1 (Rel.appq ((h.up (by omega)).gt ht6) ho (by rw [e110]; exact hlt)) ht6 ?_) (by omega)
    rw [appF_o (by rw [upd_ne (by omega), upd_ne (by omega)]; exact hlc) (by omega) (by omega), appF_o (by rw [e110]; exact hlt) (by omega) (by omega), upd_eq, upd_eq]
  · have out : ∀ k, k ≠ 235 → k ≠ 40 + t → k ≠ 10 + t → k ≠ 28 + t → k ≠ 110 + o → (k < 126 ∨ 174 ≤ k) → upd (upd (appF (upd (upd F 235 (F 235 + 1)) (40 + t) 1) (110 + o) (126 + 6 * o) (nI t)) (10 + t) 1) (28 + t) (nI o) k = F k := fun k a1 a2 a3 a4 a5 a6 => by
      rw [upd_ne a4, upd_ne a3, appF_o (by rw [e110]; exact hlt) a5 (by omega), upd_ne a2, upd_ne a1]
    refine ⟨hi.1, ?_, hi.2.2.1.cg (Nat.le_refl _) (Nat.le_refl _) (fun k hk => out k (by omega) (by omega) (by omega) (by omega) (by omega) (by omega)), fun t' ht' => ?_, fun o' ho' => ?_⟩
    · rw [← eq]; exact hi.2.1.enb SamT.rf ht ho hrun
    · by_cases e : t' = t
      · subst e
        refine ⟨by rw [out (16 + t') (by omega) (by omega) (by omega) (by omega) (by omega) (by omega)]; exact (hi.2.2.2.1 t' ht').1, fun _ => ⟨1, Nat.le_refl _, hi.1.1, ?_⟩⟩
        rw [upd_ne (by omega), upd_ne (by omega), appF_o (by rw [e110]; exact hlt) (by omega) (by omega), upd_eq]; rfl
      · exact (hi.2.2.2.1 t' ht').cg (Nat.le_refl _) (fun k hk => out k (by omega) (by omega) (by omega) (by omega) (by omega) (by omega))
    · by_cases e : o' = o
      · subst e
        have hO := hi.2.2.2.2 o' ho'
        unfold OI at hO ⊢
        rw [out 0 (by omega) (by omega) (by omega) (by omega) (by omega) (by omega), out (46 + o') (by omega) (by omega) (by omega) (by omega) (by omega) (by omega), out (54 + o') (by omega) (by omega) (by omega) (by omega) (by omega) (by omega), out (62 + o') (by omega) (by omega) (by omega) (by omega) (by omega) (by omega), out (70 + o') (by omega) (by omega) (by omega) (by omega) (by omega) (by omega), out (78 + o') (by omega) (by omega) (by omega) (by omega) (by omega) (by omega), out (222 + o' % 3) (by omega) (by omega) (by omega) (by omega) (by omega) (by omega), out (86 + o') (by omega) (by omega) (by omega) (by omega) (by omega) (by omega), out (94 + o') (by omega) (by omega) (by omega) (by omega) (by omega) (by omega)]
        obtain ⟨a1, a2, a3, a4, a5, a6, a7⟩ := hO
        exact ⟨a1, a2, a3, a4, a5, fun q => absurd h4 q, a7⟩
      · exact (hi.2.2.2.2 o' ho').cg (Nat.le_refl _) (fun k hk => out k (by omega) (by omega) (by omega) (by omega) (by omega) (by omega))
theorem enb_239 {F : Nat → Int32} {t o : Nat} (hW : WI F) (ht : t < 6) (ho : o < 8) (hlt : nt (F (110 + o)) < 6) : (enb F t o).2 239 = F 239 := by
  have e110 : upd (upd F 235 (F 235 + 1)) (40 + t) 1 (110 + o) = F (110 + o) := by rw [upd_ne (by omega), upd_ne (by omega)]
  rw [enb_eq hW ht ho hlt, upd_ne (by omega), upd_ne (by omega), appF_o (by rw [e110]; exact hlt) (by omega) (by omega), upd_ne (by omega), upd_ne (by omega)]
/-- what one more entry gives -/
theorem INV.ct {F : Nat → Int32} {n r o : Nat} (h : INV F n r) (hn : n < 100000) (ho : o < 8) (hh : ¬ F (62 + o) ≤ 0) : INV (upd F (62 + o) (F (62 + o) + 1)) (n + 1) r := by
  refine h.ob ho (Nat.le_succ _) (Nat.le_refl _) (by omega) h.1.2.2 (fun k hk => upd_ne (by omega)) (by rw [upd_ne (by omega)]; exact h.z) ?_
  have hO := h.2.2.2.2 o ho
  unfold OI at hO ⊢
  rw [upd_eq, upd_ne (show 0 ≠ 62 + o by omega), upd_ne (show 46 + o ≠ 62 + o by omega), upd_ne (show 54 + o ≠ 62 + o by omega), upd_ne (show 70 + o ≠ 62 + o by omega), upd_ne (show 78 + o ≠ 62 + o by omega), upd_ne (show 222 + o % 3 ≠ 62 + o by omega), upd_ne (show 86 + o ≠ 62 + o by omega), upd_ne (show 94 + o ≠ 62 + o by omega), upd_ne (show 110 + o ≠ 62 + o by omega), upd_ne (show 118 + o ≠ 62 + o by omega)]
  obtain ⟨a1, ⟨c, c1, c2, c3, c4⟩, a3, a4, a5, a6⟩ := hO
  have hc0 : 0 < c := by
    rcases Nat.eq_zero_or_pos c with q | q
    · subst q; exact absurd (by rw [c2]; decide) hh
    · exact q
  have e1 : F (62 + o) + 1 = nI (c + 1) := by rw [c2, nI_succ]
  have e2 : ¬ nI (c + 1) ≤ 0 := by rw [← nI_0]; exact nI_ge (by omega) (by omega)
  rw [e1]
  refine ⟨a1, ⟨c + 1, by omega, rfl, fun q => by omega, fun _ => c4 hc0⟩, fun q => ?_, fun _ => e2, fun q => ⟨(a5 q).1, fun _ => (a5 q).2 hh⟩, a6⟩
  exact absurd (by rw [a3 q]; decide) hh
