/-! ticks, and all operations -/
section OPV
variable {n r : Nat}
theorem te_step {C F : Nat → Int32} {i : Nat} (h : Rel C F) (hi : INV F n r) (hit : i < nt (F 0)) : Rel (eowS C i) (teS F i) ∧ INV (teS F i) n r := by
  obtain ⟨T, t1, t2, t3, t4⟩ := hi.T
  unfold eowS teS
  rw [h.e (q := 10 + i) (by omega), h.e (q := 9) (by omega), h.e (q := 28 + i) (by omega)]
  by_cases q2 : F (10 + i) = 2
  · rw [if_pos q2, if_pos q2]
    obtain ⟨o, ho, ha, -⟩ := hi.2.1.wait hit q2
    have hio : isO (F (28 + i)) := by rw [ha]; exact ⟨nI_pos (by omega), nI_ge (a := o) (b := 8) ho (by decide)⟩
    rcases h.2.2.1 i (by omega) q2 with ⟨l1, l2⟩ | ⟨l1, l2⟩
    · rw [if_pos l1, if_pos (show F (34 + i) ≤ 0 by rw [l2]; decide)]
      exact ⟨h, hi⟩
    · have n1 : ¬ C (34 + i) = -1 := fun z => by rw [l1] at z; rw [z] at l2; exact absurd l2 (by decide)
      rw [if_neg n1, if_neg (Int32.not_le.mpr l2), l1]
      by_cases q9 : F 9 < F (34 + i)
      · rw [if_pos q9, if_pos q9]; exact ⟨h, hi⟩
      · rw [if_neg q9, if_neg q9, if_pos hio, ha, ntn (show o < 2 ^ 31 by omega)]
        obtain ⟨⟨g1, -⟩, g3, -⟩ := h.wait (w := 2) hi ho hit q2 ha
        exact ⟨g1, g3 0⟩
  · rw [if_neg q2, if_neg q2]; exact ⟨h, hi⟩
theorem te_236 {F : Nat → Int32} {i : Nat} (h : TS F) (hi : i < nt (F 0)) (hT : nt (F 0) ≤ 6) : teS F i 236 = F 236 := by
  unfold teS
  split
  · rename_i q2
    obtain ⟨o, ho, ha, -⟩ := h.wait hi q2
    split
    · rfl
    · split
      · rfl
      · rw [ha, ntn (show o < 2 ^ 31 by omega)]
        have hW := h.1
        have hnq : nI i ∉ Qs F o := h.notq hi ho (fun z => by rw [q2] at z; exact absurd z.1 (by decide))
        have hlt := h.roomq hi ho hnq
        have lF1 : nt (upd (dropF F (118 + o) (174 + 6 * o) (nI i)) (22 + i) 2 (110 + o)) < 6 := by rw [upd_ne (by omega), dropF_out (hW.w ho) (by omega) (by omega)]; exact hlt
        have e0 : ewM F i o 2 0 = upd (upd (appF (upd (dropF F (118 + o) (174 + 6 * o) (nI i)) (22 + i) 2) (110 + o) (126 + 6 * o) (nI i)) (10 + i) 1) (28 + i) (nI o) := by
          unfold ewM; rw [if_pos rfl]; exact quM_app (((hW.dropw ho).up (by omega)).q ho) lF1
        rw [e0, upd_ne (by omega), upd_ne (by omega), appF_o lF1 (by omega) (by omega), upd_ne (by omega), dropF_out (hW.w ho) (by omega) (by omega)]
  · rfl
theorem te_loop {T : Nat} (hT6 : T ≤ 6) : ∀ (m i : Nat) (C F : Nat → Int32), i + m = T → nt (F 0) = T → Rel C F → INV F n r → Rel (eowL m i C) (teL m i F) ∧ INV (teL m i F) n r ∧ teL m i F 236 = F 236
  | 0, _, _, _, _, _, h, hi => ⟨h, hi, rfl⟩
  | m + 1, i, C, F, hm, hT, h, hi => by
    obtain ⟨g1, g2⟩ := te_step (i := i) h hi (by omega)
    obtain ⟨k1, k2, k3⟩ := te_loop hT6 m (i + 1) _ _ (by omega) (by rw [te_0 hi.2.1 (by omega)]; exact hT) g1 g2
    exact ⟨k1, k2, k3.trans (te_236 hi.2.1 (by omega) (by omega))⟩
theorem tw_step {C F : Nat → Int32} {i : Nat} (h : Rel C F) (hi : INV F n r) (hr : r < 100000000) (hi8 : i < 8) : Rel (wkS C i).2 (twS F i) ∧ INV (twS F i) n (r + 1) ∧ (if (wkS C i).1 = 1 then (1 : Int32) else 0) = twS F i 236 - F 236 := by
  obtain ⟨T, t1, t2, t3, t4⟩ := hi.T
  have hz0 : F (110 + i) ≤ 0 ↔ F (110 + i) = 0 := by
    obtain ⟨s, s1, s2⟩ := hi.2.1.1.q hi8
    rw [s2, ← nI_0, nI_leI (by omega) (by decide), nI_eq (by omega) (by decide)]; omega
  have same : Rel C F ∧ INV F n (r + 1) ∧ (if (0 : Int32) = 1 then (1 : Int32) else 0) = F 236 - F 236 := ⟨h, hi.mono (Nat.le_refl _) (Nat.le_succ _) hi.1.2.1 (by omega), by rw [if_neg (by decide), Int32.sub_self]⟩
  unfold wkS twS
  rw [h.e (q := 46 + i) (by omega), h.e (q := 62 + i) (by omega), h.e (q := 110 + i) (by omega), h.e (q := 231 + 5) (by omega)]
  by_cases q4 : F (46 + i) = 4
  · rw [if_pos q4, if_pos q4]
    by_cases qh : ¬ F (62 + i) ≤ 0
    · rw [if_pos qh, if_pos qh]; exact same
    · rw [if_neg qh, if_neg qh]
      by_cases qz : F (110 + i) = 0
      · rw [if_pos qz, if_pos (hz0.mpr qz)]; exact same
      · rw [if_neg qz, if_neg (fun z => qz (hz0.mp z))]
        have h1 := h.up (k := 236) (x := F 236 + 1) (by omega)
        have i1 := hi.pl (k := 236) (x := F 236 + 1) (by omega)
        obtain ⟨t, u1, u2, u3, u4, -⟩ := hi.2.1.hd hi8 (fun z => qz (hz0.mp z))
        rw [u2, ntn (show t < 2 ^ 31 by omega)]
        have ev : ∀ k, k ≠ 236 → upd F 236 (F 236 + 1) k = F k := fun k a => upd_ne a
        refine ⟨h1.g2f i1 hi8 (by rw [ev _ (by omega)]; exact fun z => qz (hz0.mp z)) (by rw [ev _ (by omega)]; exact u1) (by rw [ev _ (by omega)]; exact u2) (by rw [ev _ (by omega)]; exact u3), i1.acq hr hi8 (by rw [ev _ (by omega)]; exact q4) (by rw [ev _ (by omega)]; exact u1) (by rw [ev _ (by omega)]; exact u3) (by rw [ev _ (by omega)]; exact u4), ?_⟩
        show (if (1 : Int32) = 1 then (1 : Int32) else 0) = _
        rw [if_pos rfl, acq_out (i1.2.1.1) (by omega) hi8 (by omega), upd_eq, Int32.add_comm (F 236) 1, Int32.add_sub_cancel]
  · rw [if_neg q4, if_neg q4]; exact same
theorem sub_tel {a b c : Int32} : a - b + (b - c) = a - c := by
  rw [Int32.sub_eq_add_neg, Int32.sub_eq_add_neg, Int32.sub_eq_add_neg, Int32.add_assoc, ← Int32.add_assoc (-b) b (-c), Int32.add_comm (-b) b, ← Int32.sub_eq_add_neg b b, Int32.sub_self, Int32.zero_add]
theorem tw_loop : ∀ (m i s : Nat) (C F : Nat → Int32) (a : Int32), i + m = 8 → s + m ≤ 100000000 → Rel C F → INV F n s → Rel (wkL m i C a).2 (twL m i F) ∧ INV (twL m i F) n (s + m) ∧ (wkL m i C a).1 = a + (twL m i F 236 - F 236)
  | 0, i, s, C, F, a, _, _, h, hi => ⟨h, hi, by show a = a + (F 236 - F 236); rw [Int32.sub_self, Int32.add_zero]⟩
  | m + 1, i, s, C, F, a, hm, hs, h, hi => by
    obtain ⟨g1, g2, g3⟩ := tw_step (i := i) h hi (by omega) (by omega)
    obtain ⟨k1, k2, k3⟩ := tw_loop m (i + 1) (s + 1) _ _ (if (wkS C i).1 = 1 then a + 1 else a) (by omega) (by omega) g1 g2
    refine ⟨k1, by rw [show s + (m + 1) = s + 1 + m by omega]; exact k2, ?_⟩
    show (wkL m (i + 1) (wkS C i).2 (if (wkS C i).1 = 1 then a + 1 else a)).1 = a + (twL m (i + 1) (twS F i) 236 - F 236)
    rw [k3, ← sub_tel (a := twL m (i + 1) (twS F i) 236) (b := twS F i 236) (c := F 236), ← g3]
    by_cases q : (wkS C i).1 = 1
    · rw [if_pos q, if_pos q, Int32.add_assoc, Int32.add_comm 1]
    · rw [if_neg q, if_neg q, Int32.add_zero]
theorem td_loop {z : Int32} : ∀ (m i : Nat) (C F : Nat → Int32), i + m = 8 → F 6 = z → Rel C F → INV F n r → Rel (dfoL z m i C) (tdL m i F) ∧ INV (tdL m i F) n r ∧ tdL m i F 236 = F 236
  | 0, _, _, _, _, _, h, hi => ⟨h, hi, rfl⟩
  | m + 1, i, C, F, hm, hz, h, hi => by
    have hc := ((hi.2.2.2.2 i (by omega)).cnt hi.1.2.1).1
    have hid : idlP C i ↔ idlM F i := by
      unfold idlP idlM
      rw [h.e (q := 46 + i) (by omega), h.e (q := 62 + i) (by omega), h.e (q := 110 + i) (by omega), h.e (q := 118 + i) (by omega), hc]
    have step : Rel (dfoS C i z) (tdS F i) ∧ INV (tdS F i) n r ∧ tdS F i 236 = F 236 ∧ tdS F i 6 = F 6 := by
      unfold dfoS tdS
      by_cases q : idlM F i
      · rw [if_pos q, if_pos (hid.mpr q), h.e (q := 9) (by omega), h.e (q := 102 + i) (by omega), hz]
        split
        · exact ⟨h, hi, rfl, hz⟩
        · refine ⟨h.defl (by omega), hi.defl (by omega) q, ?_, ?_⟩
          · unfold deflF; rw [upd_ne (by omega), upd_ne (by omega)]
          · unfold deflF; rw [upd_ne (by omega), upd_ne (by omega)]; exact hz
      · rw [if_neg q, if_neg (fun y => q (hid.mp y))]
        exact ⟨h, hi, rfl, rfl⟩
    obtain ⟨g1, g2, g3, g4⟩ := step
    obtain ⟨k1, k2, k3⟩ := td_loop (z := z) m (i + 1) _ _ (by omega) (g4.trans hz) g1 g2
    exact ⟨k1, k2, k3.trans g3⟩
theorem twL_0 : ∀ (m i : Nat) (F : Nat → Int32), i + m = 8 → TS F → twL m i F 6 = F 6
  | 0, _, _, _, _ => rfl
  | m + 1, i, F, hm, h => by
    show twL m (i + 1) (twS F i) 6 = F 6
    rw [twL_0 m (i + 1) _ (by omega) (h.tw (by omega))]
    unfold twS
    split
    · split
      · rfl
      · split
        · rfl
        · rename_i q
          obtain ⟨t, u1, u2, -⟩ := h.hd (o := i) (by omega) q
          have := h.1.thr.2
          rw [u2, ntn (by omega), acq_out (h.1.up (by omega)) (by omega) (by omega) (by omega), upd_ne (by omega)]
    · rfl
theorem td_9 : ∀ (mm i : Nat) (G : Nat → Int32), i + mm = 8 → tdL mm i G 9 = G 9
  | 0, _, _, _ => rfl
  | mm + 1, i, G, hG => by
    show tdL mm (i + 1) (tdS G i) 9 = G 9
    rw [td_9 mm (i + 1) _ (by omega)]
    unfold tdS
    split
    · split
      · rfl
      · unfold deflF; rw [upd_ne (by omega), upd_ne (by omega)]
    · rfl
theorem tw_9 : ∀ (mm i : Nat) (G : Nat → Int32), i + mm = 8 → TS G → twL mm i G 9 = G 9
  | 0, _, _, _, _ => rfl
  | mm + 1, i, G, hG, hT => by
    show twL mm (i + 1) (twS G i) 9 = G 9
    rw [tw_9 mm (i + 1) _ (by omega) (hT.tw (by omega))]
    unfold twS
    split
    · split
      · rfl
      · split
        · rfl
        · rename_i qq
          obtain ⟨t, u1, u2, -⟩ := hT.hd (o := i) (by omega) qq
          have := hT.1.thr.2
          rw [u2, ntn (by omega), acq_out (hT.1.up (by omega)) (by omega) (by omega) (by omega), upd_ne (by omega)]
    · rfl
theorem te_9 {T : Nat} (hT6 : T ≤ 6) : ∀ (mm i : Nat) (G : Nat → Int32), i + mm = T → nt (G 0) = T → TS G → teL mm i G 9 = G 9
  | 0, _, _, _, _, _ => rfl
  | mm + 1, i, G, hG, hG0, hT => by
    show teL mm (i + 1) (teS G i) 9 = G 9
    rw [te_9 hT6 mm (i + 1) _ (by omega) (by rw [te_0 hT (by omega)]; exact hG0) (hT.te (by omega))]
    unfold teS
    split
    · rename_i q2
      obtain ⟨o, ho, ha, -⟩ := hT.wait (t := i) (by omega) q2
      split
      · rfl
      · split
        · rfl
        · rw [ha, ntn (show o < 2 ^ 31 by omega)]
          have hW := hT.1
          have hnq : nI i ∉ Qs G o := hT.notq (by omega) ho (fun z => by rw [q2] at z; exact absurd z.1 (by decide))
          have hlt := hT.roomq (by omega) ho hnq
          have lF1 : nt (upd (dropF G (118 + o) (174 + 6 * o) (nI i)) (22 + i) 2 (110 + o)) < 6 := by rw [upd_ne (by omega), dropF_out (hW.w ho) (by omega) (by omega)]; exact hlt
          have e0 : ewM G i o 2 0 = upd (upd (appF (upd (dropF G (118 + o) (174 + 6 * o) (nI i)) (22 + i) 2) (110 + o) (126 + 6 * o) (nI i)) (10 + i) 1) (28 + i) (nI o) := by
            unfold ewM; rw [if_pos rfl]; exact quM_app (((hW.dropw ho).up (by omega)).q ho) lF1
          rw [e0, upd_ne (by omega), upd_ne (by omega), appF_o lF1 (by omega) (by omega), upd_ne (by omega), dropF_out (hW.w ho) (by omega) (by omega)]
    · rfl
theorem tick_c3 {W : Int32 × (Nat → Int32)} {Fc : Nat → Int32} (b1 : Rel W.2 Fc) (b2 : INV Fc n r) : Rel (dfoF W.2) (tdL 8 0 Fc) ∧ INV (tdL 8 0 Fc) n r ∧ tdL 8 0 Fc 236 = Fc 236 := by
  have s6 : Fc 6 = valF W.2 5 := by
    have := valF_at (C := W.2) (j := 5) (by decide)
    rw [show valF W.2 5 = W.2 (1 + 5) from this]
    exact (b1.e (q := 6) (by omega)).symm
  exact td_loop (z := valF W.2 5) 8 0 W.2 Fc rfl s6 b1 b2
theorem tick_c2 {Cb Fb : Nat → Int32} (a1 : Rel Cb Fb) (a2 : INV Fb n r) (hr : r + 8 ≤ 100000000) : Rel (dfoF (wkF Cb).2) (tdL 8 0 (twL 8 0 Fb)) ∧ INV (tdL 8 0 (twL 8 0 Fb)) n (r + 8) ∧ (wkF Cb).1 = tdL 8 0 (twL 8 0 Fb) 236 - Fb 236 ∧ tdL 8 0 (twL 8 0 Fb) 9 = Fb 9 := by
  obtain ⟨b1, b2, b3⟩ := tw_loop 8 0 r Cb Fb 0 rfl hr a1 a2
  obtain ⟨c1, c2, c3⟩ := tick_c3 (W := wkF Cb) b1 b2
  have e : (wkF Cb).1 = 0 + (twL 8 0 Fb 236 - Fb 236) := b3
  exact ⟨c1, c2, by rw [e, c3, Int32.zero_add], by rw [td_9 8 0 _ rfl, tw_9 8 0 Fb rfl a2.2.1]⟩
theorem tick_c1 {Ca Fa : Nat → Int32} {T : Nat} (t2 : T ≤ 6) (n0 : nt (Fa 0) = T) (h1 : Rel Ca Fa) (i1 : INV Fa n r) (hr : r + 8 ≤ 100000000) : Rel (dfoF (wkF (eowL T 0 Ca)).2) (tdL 8 0 (twL 8 0 (teL T 0 Fa))) ∧ INV (tdL 8 0 (twL 8 0 (teL T 0 Fa))) n (r + 8) ∧ (wkF (eowL T 0 Ca)).1 = tdL 8 0 (twL 8 0 (teL T 0 Fa)) 236 - Fa 236 ∧ tdL 8 0 (twL 8 0 (teL T 0 Fa)) 9 = Fa 9 := by
  obtain ⟨a1, a2, a3⟩ := te_loop t2 T 0 Ca Fa (Nat.zero_add T) n0 h1 i1
  obtain ⟨c1, c2, c3, c4⟩ := tick_c2 a1 a2 hr
  exact ⟨c1, c2, by rw [c3, a3], c4.trans (te_9 t2 T 0 Fa (Nat.zero_add T) n0 i1.2.1)⟩
theorem tick_i {F : Nat → Int32} {m : Nat} (hi : INV F n r) (hm9 : F 9 = nI m) (hm : m + 1 ≤ 20 * n) : INV (upd F 9 (nI (m + 1))) n r := by
  refine ⟨hi.1, hi.2.1.up (by omega), ?_, fun t ht => (hi.2.2.2.1 t ht).cg (Nat.le_refl _) (fun q hq => upd_ne (by omega)), fun o ho => (hi.2.2.2.2 o ho).cg (Nat.le_refl _) (fun q hq => upd_ne (by omega))⟩
  obtain ⟨⟨T, q1⟩, -, ⟨z, q3⟩, ⟨k, q4⟩, q5⟩ := hi.2.2.1
  refine ⟨⟨T, q1.1, q1.2.1, ?_⟩, ⟨m + 1, hm, upd_eq⟩, ⟨z, q3.1, ?_⟩, ⟨k, q4.1, ?_⟩, fun c hc => ?_⟩
  · rw [upd_ne (by decide)]; exact q1.2.2
  · rw [upd_ne (by decide)]; exact q3.2
  · rw [upd_ne (by decide)]; exact q4.2
  · rw [upd_ne (by omega)]; exact q5 c hc
theorem tick_eC {C F : Nat → Int32} {m T : Nat} (ec : C 9 + 1 = nI (m + 1)) (e0 : nt (C 0) = T) : tick1 C = ((wkF (eowL T 0 (upd C 9 (nI (m + 1))))).1, dfoF (wkF (eowL T 0 (upd C 9 (nI (m + 1))))).2) := by
  have e1 : eowF (upd C 9 (nI (m + 1))) = eowL T 0 (upd C 9 (nI (m + 1))) := by
    unfold eowF
    rw [upd_ne (show 0 ≠ 9 by decide), e0]
  rw [← e1, ← ec]
  rfl
theorem tick_eF {F : Nat → Int32} {m T : Nat} (ef : F 9 + 1 = nI (m + 1)) (e0 : nt (F 0) = T) : tck1 F = tdL 8 0 (twL 8 0 (teL T 0 (upd F 9 (nI (m + 1))))) := by
  rw [← ef, ← e0]
  rfl
theorem tick_1 {C F : Nat → Int32} {m : Nat} (h : Rel C F) (hi : INV F n r) (hr : r + 8 ≤ 100000000) (hm9 : F 9 = nI m) (hm : m + 1 ≤ 20 * n) : Rel (tick1 C).2 (tck1 F) ∧ INV (tck1 F) n (r + 8) ∧ (tick1 C).1 = tck1 F 236 - F 236 ∧ tck1 F 9 = nI (m + 1) := by
  obtain ⟨T, t1, t2, t3, t4⟩ := hi.T
  have h0 : C 0 = F 0 := h.e (q := 0) (by omega)
  have ef : F 9 + 1 = nI (m + 1) := by rw [hm9, nI_succ]
  have ec : C 9 + 1 = nI (m + 1) := by rw [h.e (q := 9) (by omega)]; exact ef
  have n0 : nt (upd F 9 (nI (m + 1)) 0) = T := by rw [upd_ne (by decide)]; exact t4
  have q6 : upd F 9 (nI (m + 1)) 236 = F 236 := upd_ne (by decide)
  have q9 : upd F 9 (nI (m + 1)) 9 = nI (m + 1) := upd_eq
  have eC := tick_eC (C := C) (F := F) (T := T) ec (by rw [h0]; exact t4)
  have eF := tick_eF (F := F) (T := T) ef t4
  have c := tick_c1 (Ca := upd C 9 (nI (m + 1))) (Fa := upd F 9 (nI (m + 1))) t2 n0 (h.up (by omega)) (tick_i hi hm9 hm) hr
  rw [← eF, q6, q9] at c
  obtain ⟨c1, c2, c3, c4⟩ := c
  have p1 := congrArg Prod.fst eC
  have p2 := congrArg Prod.snd eC
  dsimp only at p1 p2
  rw [p1, p2]
  exact ⟨c1, c2, c3, c4⟩
theorem tk_loop : ∀ (q m s : Nat) (C F : Nat → Int32) (a : Int32), s + 8 * q ≤ 100000000 → F 9 = nI m → m + q ≤ 20 * n → Rel C F → INV F n s → Rel (tkL q C a).2 (tkML q F) ∧ INV (tkML q F) n (s + 8 * q) ∧ (tkL q C a).1 = a + (tkML q F 236 - F 236)
  | 0, m, s, C, F, a, _, _, _, h, hi => ⟨h, hi, by show a = a + (F 236 - F 236); rw [Int32.sub_self, Int32.add_zero]⟩
  | q + 1, m, s, C, F, a, hs, h9, hm, h, hi => by
    obtain ⟨g1, g2, g3, g4⟩ := tick_1 h hi (by omega) h9 (by omega)
    obtain ⟨k1, k2, k3⟩ := tk_loop q (m + 1) (s + 8) _ _ (a + (tick1 C).1) (by omega) g4 (by omega) g1 g2
    refine ⟨k1, by rw [show s + 8 * (q + 1) = s + 8 + 8 * q by omega]; exact k2, ?_⟩
    show (tkL q (tick1 C).2 (a + (tick1 C).1)).1 = a + (tkML q (tck1 F) 236 - F 236)
    rw [k3, g3, ← sub_tel (a := tkML q (tck1 F) 236) (b := tck1 F 236) (c := F 236), Int32.add_assoc, Int32.add_comm (tck1 F 236 - F 236)]
theorem op_tick {C F : Nat → Int32} {z : Int32} (h : Rel C F) (hi : INV F n r) (hj : OKr F) (hn : n < 100000) (hr : r + 200 ≤ 100000000) : OPok n r (tickF C z) (tickM F z) := by
  unfold tickF tickM inP
  by_cases q1 : z < 1
  · rw [if_pos q1, if_neg (fun w => w.1 q1)]
    exact OPok.mk rfl h hi (by omega) (by omega) hn hr (fun _ _ => rfl)
  · rw [if_neg q1]
    by_cases q2 : z ≤ 20
    · rw [if_pos q2, if_pos ⟨q1, Int32.not_lt.mpr q2⟩]
      have z0 : ¬ z < 0 := fun w => q1 (Int32.lt_of_lt_of_le w (by decide))
      obtain ⟨p1, p2⟩ := in_nat (x := z) (b := 20) ⟨z0, Int32.not_lt.mpr q2⟩ rfl (show (20 : Nat) < 1000 by decide)
      have p2 : nt z ≤ 20 := p2
      obtain ⟨m, m1, m2⟩ := hi.2.2.1.2.1
      have hi' := hi.mono (n' := n + 1) (r' := r) (Nat.le_succ _) (Nat.le_refl _) (by omega) hi.1.2.2
      obtain ⟨g1, g2, g3⟩ := tk_loop (n := n + 1) (nt z) m r C F 0 (by omega) m2 (by omega) h hi'
      have hk : OKr (tkML (nt z) F) := (Hi.tkML (nt z) F hi.2.1 Hi.rf).r hj
      refine OPok.mk ?_ g1 g2 (by omega) (by omega) hn hr (rcd_lo hk)
      rw [g3, Int32.zero_add, rcd_lo hk 236 (by omega)]
    · rw [if_neg q2, if_neg (fun w => q2 (Int32.not_lt.mp w.2))]
      exact OPok.mk rfl h hi (by omega) (by omega) hn hr (fun _ _ => rfl)
end OPV
