theorem su_802 : Cond.methodLink RJ5 100 yJ5_ensureCapacityInternal_d00df ∈ lw_g := lw_in (List.mem_of_getElem? (i := 802) (by decide +kernel)) rfl
theorem su_1608 : Cond.sameMethod yJ5_ensureCapacityInternal_d00df.cls yJ5_ensureCapacityInternal_d00df.cls yJ5_ensureCapacityInternal_d00df.name yJ5_ensureCapacityInternal_d00df.desc ∈ lw_g := lw_in (List.mem_of_getElem? (i := 1608) (by decide +kernel)) rfl
theorem su_380 : Cond.instantiable "java/lang/StringBuilder" 4 ∈ lw_g := lw_in (List.mem_of_getElem? (i := 380) (by decide +kernel)) rfl
theorem su_804 : Cond.instanceMethod yJ5_ensureCapacityInternal_d00df ∈ lw_g := lw_in (List.mem_of_getElem? (i := 804) (by decide +kernel)) rfl
theorem su_87 : Cond.initialized RJ5 ∈ lw_g := lw_in (List.mem_of_getElem? (i := 87) (by decide +kernel)) rfl
theorem su_805 : Cond.code yJ5_ensureCapacityInternal_d00df iJ5_ensureCapacityInternal_d00df.2.1 iJ5_ensureCapacityInternal_d00df.2.2.1 iJ5_ensureCapacityInternal_d00df.2.2.2.1 ∈ lw_g := lw_in (List.mem_of_getElem? (i := 805) (by decide +kernel)) rfl
theorem uJ5_100 : CallU RJ5 100 "java/lang/StringBuilder" yJ5_ensureCapacityInternal_d00df iJ5_ensureCapacityInternal_d00df 1 := ⟨su_802, su_1608, Or.inr ⟨by decide, 4, su_380⟩, su_804, su_87, su_805, by decide +kernel, by decide⟩
theorem su_806 : Cond.methodLink RJ5 104 yJ5_newCapacity_0f7a4 ∈ lw_g := lw_in (List.mem_of_getElem? (i := 806) (by decide +kernel)) rfl
theorem su_1609 : Cond.sameMethod yJ5_newCapacity_0f7a4.cls yJ5_newCapacity_0f7a4.cls yJ5_newCapacity_0f7a4.name yJ5_newCapacity_0f7a4.desc ∈ lw_g := lw_in (List.mem_of_getElem? (i := 1609) (by decide +kernel)) rfl
theorem su_808 : Cond.instanceMethod yJ5_newCapacity_0f7a4 ∈ lw_g := lw_in (List.mem_of_getElem? (i := 808) (by decide +kernel)) rfl
theorem su_809 : Cond.code yJ5_newCapacity_0f7a4 iJ5_newCapacity_0f7a4.2.1 iJ5_newCapacity_0f7a4.2.2.1 iJ5_newCapacity_0f7a4.2.2.2.1 ∈ lw_g := lw_in (List.mem_of_getElem? (i := 809) (by decide +kernel)) rfl
theorem uJ5_104 : CallU RJ5 104 "java/lang/StringBuilder" yJ5_newCapacity_0f7a4 iJ5_newCapacity_0f7a4 1 := ⟨su_806, su_1609, Or.inr ⟨by decide, 4, su_380⟩, su_808, su_87, su_809, by decide +kernel, by decide⟩
theorem su_835 : Cond.methodLink RJ5 83 yJ5_isLatin1_aae02 ∈ lw_g := lw_in (List.mem_of_getElem? (i := 835) (by decide +kernel)) rfl
theorem su_837 : Cond.sameMethod yJ5_isLatin1_aae02.cls yJ5_isLatin1_aae02.cls yJ5_isLatin1_aae02.name yJ5_isLatin1_aae02.desc ∈ lw_g := lw_in (List.mem_of_getElem? (i := 837) (by decide +kernel)) rfl
theorem su_838 : Cond.selects "java/lang/StringBuilder" yJ5_isLatin1_aae02 yJ5_isLatin1_aae02 ∈ lw_g := lw_in (List.mem_of_getElem? (i := 838) (by decide +kernel)) rfl
theorem su_836 : Cond.instanceMethod yJ5_isLatin1_aae02 ∈ lw_g := lw_in (List.mem_of_getElem? (i := 836) (by decide +kernel)) rfl
theorem su_839 : Cond.code yJ5_isLatin1_aae02 iJ5_isLatin1_aae02.2.1 iJ5_isLatin1_aae02.2.2.1 iJ5_isLatin1_aae02.2.2.2.1 ∈ lw_g := lw_in (List.mem_of_getElem? (i := 839) (by decide +kernel)) rfl
theorem uJ5_83 : CallU RJ5 83 "java/lang/StringBuilder" yJ5_isLatin1_aae02 iJ5_isLatin1_aae02 0 := ⟨su_835, su_837, Or.inl su_838, su_836, su_87, su_839, by decide +kernel, by decide⟩
theorem su_912 : Cond.methodLink RJ5 208 yJ5_putStringAt_47b60 ∈ lw_g := lw_in (List.mem_of_getElem? (i := 912) (by decide +kernel)) rfl
theorem su_1612 : Cond.sameMethod yJ5_putStringAt_47b60.cls yJ5_putStringAt_47b60.cls yJ5_putStringAt_47b60.name yJ5_putStringAt_47b60.desc ∈ lw_g := lw_in (List.mem_of_getElem? (i := 1612) (by decide +kernel)) rfl
theorem su_914 : Cond.instanceMethod yJ5_putStringAt_47b60 ∈ lw_g := lw_in (List.mem_of_getElem? (i := 914) (by decide +kernel)) rfl
theorem su_915 : Cond.code yJ5_putStringAt_47b60 iJ5_putStringAt_47b60.2.1 iJ5_putStringAt_47b60.2.2.1 iJ5_putStringAt_47b60.2.2.2.1 ∈ lw_g := lw_in (List.mem_of_getElem? (i := 915) (by decide +kernel)) rfl
theorem uJ5_208 : CallU RJ5 208 "java/lang/StringBuilder" yJ5_putStringAt_47b60 iJ5_putStringAt_47b60 2 := ⟨su_912, su_1612, Or.inr ⟨by decide, 4, su_380⟩, su_914, su_87, su_915, by decide +kernel, by decide⟩
theorem su_916 : Cond.methodLink RJ5 397 yJ5_inflateIfNeededFor_a7421 ∈ lw_g := lw_in (List.mem_of_getElem? (i := 916) (by decide +kernel)) rfl
theorem su_1613 : Cond.sameMethod yJ5_inflateIfNeededFor_a7421.cls yJ5_inflateIfNeededFor_a7421.cls yJ5_inflateIfNeededFor_a7421.name yJ5_inflateIfNeededFor_a7421.desc ∈ lw_g := lw_in (List.mem_of_getElem? (i := 1613) (by decide +kernel)) rfl
theorem su_918 : Cond.instanceMethod yJ5_inflateIfNeededFor_a7421 ∈ lw_g := lw_in (List.mem_of_getElem? (i := 918) (by decide +kernel)) rfl
theorem su_919 : Cond.code yJ5_inflateIfNeededFor_a7421 iJ5_inflateIfNeededFor_a7421.2.1 iJ5_inflateIfNeededFor_a7421.2.2.1 iJ5_inflateIfNeededFor_a7421.2.2.2.1 ∈ lw_g := lw_in (List.mem_of_getElem? (i := 919) (by decide +kernel)) rfl
theorem uJ5_397 : CallU RJ5 397 "java/lang/StringBuilder" yJ5_inflateIfNeededFor_a7421 iJ5_inflateIfNeededFor_a7421 1 := ⟨su_916, su_1613, Or.inr ⟨by decide, 4, su_380⟩, su_918, su_87, su_919, by decide +kernel, by decide⟩
theorem su_870 : Cond.methodLink RJ4 29 yJ5_append_cf1ce ∈ lw_g := lw_in (List.mem_of_getElem? (i := 870) (by decide +kernel)) rfl
theorem su_1610 : Cond.sameMethod yJ5_append_cf1ce.cls yJ5_append_cf1ce.cls yJ5_append_cf1ce.name yJ5_append_cf1ce.desc ∈ lw_g := lw_in (List.mem_of_getElem? (i := 1610) (by decide +kernel)) rfl
theorem su_409 : Cond.superclass RJ4 yJ5_append_cf1ce.cls ∈ lw_g := lw_in (List.mem_of_getElem? (i := 409) (by decide +kernel)) rfl
theorem su_871 : Cond.instanceMethod yJ5_append_cf1ce ∈ lw_g := lw_in (List.mem_of_getElem? (i := 871) (by decide +kernel)) rfl
theorem su_872 : Cond.code yJ5_append_cf1ce iJ5_append_cf1ce.2.1 iJ5_append_cf1ce.2.2.1 iJ5_append_cf1ce.2.2.2.1 ∈ lw_g := lw_in (List.mem_of_getElem? (i := 872) (by decide +kernel)) rfl
theorem uJ4_29 : CallP RJ4 29 yJ5_append_cf1ce iJ5_append_cf1ce 1 := ⟨su_870, su_1610, su_409, su_871, su_87, su_872, by decide +kernel, by decide⟩
theorem su_951 : Cond.methodLink RJ4 53 yJ5_append_c97b9 ∈ lw_g := lw_in (List.mem_of_getElem? (i := 951) (by decide +kernel)) rfl
theorem su_1615 : Cond.sameMethod yJ5_append_c97b9.cls yJ5_append_c97b9.cls yJ5_append_c97b9.name yJ5_append_c97b9.desc ∈ lw_g := lw_in (List.mem_of_getElem? (i := 1615) (by decide +kernel)) rfl
theorem su_952 : Cond.instanceMethod yJ5_append_c97b9 ∈ lw_g := lw_in (List.mem_of_getElem? (i := 952) (by decide +kernel)) rfl
theorem su_953 : Cond.code yJ5_append_c97b9 iJ5_append_c97b9.2.1 iJ5_append_c97b9.2.2.1 iJ5_append_c97b9.2.2.2.1 ∈ lw_g := lw_in (List.mem_of_getElem? (i := 953) (by decide +kernel)) rfl
theorem uJ4_53 : CallP RJ4 53 yJ5_append_c97b9 iJ5_append_c97b9 1 := ⟨su_951, su_1615, su_409, su_952, su_87, su_953, by decide +kernel, by decide⟩
theorem su_997 : Cond.methodLink RJ4 329 yJ5_charAt_5068e ∈ lw_g := lw_in (List.mem_of_getElem? (i := 997) (by decide +kernel)) rfl
theorem su_1617 : Cond.sameMethod yJ5_charAt_5068e.cls yJ5_charAt_5068e.cls yJ5_charAt_5068e.name yJ5_charAt_5068e.desc ∈ lw_g := lw_in (List.mem_of_getElem? (i := 1617) (by decide +kernel)) rfl
theorem su_998 : Cond.instanceMethod yJ5_charAt_5068e ∈ lw_g := lw_in (List.mem_of_getElem? (i := 998) (by decide +kernel)) rfl
theorem su_999 : Cond.code yJ5_charAt_5068e iJ5_charAt_5068e.2.1 iJ5_charAt_5068e.2.2.1 iJ5_charAt_5068e.2.2.2.1 ∈ lw_g := lw_in (List.mem_of_getElem? (i := 999) (by decide +kernel)) rfl
theorem uJ4_329 : CallP RJ4 329 yJ5_charAt_5068e iJ5_charAt_5068e 1 := ⟨su_997, su_1617, su_409, su_998, su_87, su_999, by decide +kernel, by decide⟩
theorem su_799 : Cond.methodLink RJ4 333 yJ5_setLength_d00df ∈ lw_g := lw_in (List.mem_of_getElem? (i := 799) (by decide +kernel)) rfl
theorem su_1607 : Cond.sameMethod yJ5_setLength_d00df.cls yJ5_setLength_d00df.cls yJ5_setLength_d00df.name yJ5_setLength_d00df.desc ∈ lw_g := lw_in (List.mem_of_getElem? (i := 1607) (by decide +kernel)) rfl
theorem su_800 : Cond.instanceMethod yJ5_setLength_d00df ∈ lw_g := lw_in (List.mem_of_getElem? (i := 800) (by decide +kernel)) rfl
theorem su_801 : Cond.code yJ5_setLength_d00df iJ5_setLength_d00df.2.1 iJ5_setLength_d00df.2.2.1 iJ5_setLength_d00df.2.2.2.1 ∈ lw_g := lw_in (List.mem_of_getElem? (i := 801) (by decide +kernel)) rfl
theorem uJ4_333 : CallP RJ4 333 yJ5_setLength_d00df iJ5_setLength_d00df 1 := ⟨su_799, su_1607, su_409, su_800, su_87, su_801, by decide +kernel, by decide⟩
theorem su_990 : Cond.methodLink RJ4 343 yJ5_length_8abf5 ∈ lw_g := lw_in (List.mem_of_getElem? (i := 990) (by decide +kernel)) rfl
theorem su_1616 : Cond.sameMethod yJ5_length_8abf5.cls yJ5_length_8abf5.cls yJ5_length_8abf5.name yJ5_length_8abf5.desc ∈ lw_g := lw_in (List.mem_of_getElem? (i := 1616) (by decide +kernel)) rfl
theorem su_991 : Cond.instanceMethod yJ5_length_8abf5 ∈ lw_g := lw_in (List.mem_of_getElem? (i := 991) (by decide +kernel)) rfl
theorem su_992 : Cond.code yJ5_length_8abf5 iJ5_length_8abf5.2.1 iJ5_length_8abf5.2.2.1 iJ5_length_8abf5.2.2.2.1 ∈ lw_g := lw_in (List.mem_of_getElem? (i := 992) (by decide +kernel)) rfl
theorem uJ4_343 : CallP RJ4 343 yJ5_length_8abf5 iJ5_length_8abf5 0 := ⟨su_990, su_1616, su_409, su_991, su_87, su_992, by decide +kernel, by decide⟩
/-! StringBuilder -/
def SB (G : GG) (A b m : Nat) (t : List Nat) (M : Mem) : Prop := ∃ f ml, ((A ∈ M.1 ∧ b ∈ M.1) ∧ (A ≠ b ∧ A < M.2.2 ∧ b < M.2.2)) ∧ M.2.1 A = .inr (0, [.ref b, .int 0, .int ml, .int (nI t.length)]) ∧ M.2.1 b = .inl (cyB G, m, .inl f) ∧ (t.length ≤ m ∧ m ≤ 700) ∧ sb_Fit f ∧ (∀ i, i < t.length → f i = nI (t.getD i 0)) ∧ (∀ c, c ∈ t → c < 128)
def Mv (A b : Nat) (M M1 : Mem) : Prop := (∀ a, a ∈ M.1 → a ∈ M1.1) ∧ M.2.2 ≤ M1.2.2 ∧ (∀ a, a < M.2.2 → a ≠ A → a ≠ b → M1.2.1 a = M.2.1 a)
def Sx (A : Nat) (M : Mem) (b m : Nat) (M1 : Mem) (b1 m1 : Nat) : Prop := Mv A b M M1 ∧ (b1 = b ∨ M.2.2 ≤ b1) ∧ m ≤ m1
theorem Sx.rf {A b m : Nat} {M : Mem} : Sx A M b m M b m := ⟨⟨fun _ h => h, Nat.le_refl _, fun _ _ _ _ => rfl⟩, Or.inl rfl, Nat.le_refl _⟩
theorem Sx.tr {A b m b1 m1 b2 m2 : Nat} {M M1 M2 : Mem} (h : Sx A M b m M1 b1 m1) (h' : Sx A M1 b1 m1 M2 b2 m2) : Sx A M b m M2 b2 m2 := by
  obtain ⟨⟨g1, g2, g3⟩, g4, g5⟩ := h
  obtain ⟨⟨k1, k2, k3⟩, k4, k5⟩ := h'
  refine ⟨⟨fun a q => k1 a (g1 a q), Nat.le_trans g2 k2, fun a q1 q2 q3 => ?_⟩, ?_, Nat.le_trans g5 k5⟩
  · rw [k3 a (by omega) q2 (by rcases g4 with rfl | g4 <;> omega), g3 a q1 q2 q3]
  · rcases k4 with rfl | k4
    · exact g4
    · right; omega
theorem vu_eq {α : Type} {f : Nat → α} {a : Nat} {e : α} : va_up f a e a = e := if_pos rfl
theorem vu_ne {α : Type} {f : Nat → α} {a k : Nat} {e : α} (h : k ≠ a) : va_up f a e k = f k := if_neg h
theorem vu_twice {α : Type} {f : Nat → α} {a : Nat} {e e' : α} : va_up (va_up f a e) a e' = va_up f a e' := by
  funext k
  by_cases h : k = a
  · subst h; rw [vu_eq, vu_eq]
  · rw [vu_ne h, vu_ne h, vu_ne h]
theorem ups_twice {M : Mem} {a : Nat} {e e' : va_E} : ups (ups M a e) a e' = ups M a e' := by
  show (M.1, va_up (va_up M.2.1 a e) a e', M.2.2) = _
  rw [vu_twice]; rfl
theorem byte_nar : ∀ c, c < 128 → vp_nar .byte (nI c) = nI c := by decide +kernel
theorem byte_fit : ∀ c, c < 128 → fits .byte (.int (nI c)) = true := by decide +kernel
theorem sub_le0 {q m : Nat} (hq : q < 2 ^ 30) (hm : m < 2 ^ 30) : nI q - nI m ≤ 0 ↔ q ≤ m := by
  rw [Int32.le_iff_toInt_le, pk_sub_toInt hq hm, Int32.toInt_zero]; omega
theorem sx_newLength {G : GG} {M : Mem} {d : Nat} {a b c : Nat} (ha : a < 1000) (hb : b < 1000) (hc : c < 1000) (h1 : 0 < a + (if b < c then c else b)) (hdp : 1 ≤ d) : Ct G d yJ8_newLength_cabcc iJ8_newLength_cabcc [.int (nI a), .int (nI b), .int (nI c)] M 0 0 (some (.int (nI (a + (if b < c then c else b))))) M := by
  have hmx : (if nI b < nI c then nI c else nI b) = nI (if b < c then c else b) := by
    by_cases h : b < c
    · rw [if_pos h, if_pos (nI_lt h (by omega))]
    · rw [if_neg h, if_neg (nI_nlt (by omega) (by omega))]
  have h2 : (if b < c then c else b) < 1000 := by split <;> omega
  refine Ct.of 1 (by decide) rfl (by decide) (Nat.le_of_ble_eq_true rfl) ?_
  show WP _ _ _ _ _ _ _ 0 [some (.int (nI a)), some (.int (nI b)), some (.int (nI c)), none] [] _ 0 0
  refine wp_ild0 dJ8_newLength_cabcc_0 ?_
  refine wp_ild1 dJ8_newLength_cabcc_1 ?_
  refine wp_ild2 dJ8_newLength_cabcc_2 ?_
  refine wp_max dJ8_newLength_cabcc_3 kJ8_194 hdp (Nat.le_of_ble_eq_true rfl) (Nat.le_refl _) (Nat.le_refl _) ?_
  rw [hmx]
  generalize (if b < c then c else b) = e at h1 h2
  refine wp_iaddN (a := a) (b := e) rfl rfl dJ8_newLength_cabcc_6 ?_
  refine wp_ist3 dJ8_newLength_cabcc_7 (by decide) rfl ?_
  refine wp_iconst (v := 0) dJ8_newLength_cabcc_8 (by decide) ?_
  refine wp_ild3 dJ8_newLength_cabcc_9 ?_
  refine wp_icmp_ge (tgt := 21) dJ8_newLength_cabcc_10 (by decide) (fun h => absurd h (by rw [← nI_0]; exact nI_ge (by omega) (by omega))) (fun _ => ?_)
  refine wp_ild3 dJ8_newLength_cabcc_13 ?_
  refine wp_ldc dJ8_newLength_cabcc_14 qJ8_200 ?_
  refine wp_icmp_gt (tgt := 21) dJ8_newLength_cabcc_16 (by decide) (fun h => absurd h (show ¬ nI 2147483639 < nI (a + e) from nI_nlt (by omega) (by omega))) (fun _ => ?_)
  refine wp_ild3 dJ8_newLength_cabcc_19 ?_
  exact wp_iret dJ8_newLength_cabcc_20 rfl (Nat.le_refl _) (Nat.le_refl _) rfl rfl
def nwc (q m : Nat) : Nat := m + (if q - m < m + 2 then m + 2 else q - m)
theorem sx_newCap {G : GG} {M : Mem} {d : Nat} {A b m q n : Nat} {ml : Int32} {x : vp_A} (hG : GOK G) (hA : A ∈ M.1) (hb : b ∈ M.1) (hEA : M.2.1 A = .inr (0, [.ref b, .int 0, .int ml, .int (nI n)])) (hEb : M.2.1 b = .inl (cyB G, x)) (hx : x.1 = m) (hm : m ≤ 700) (hq : q ≤ 300) (hmq : m < q) (hdp : 2 ≤ d) : Ct G d yJ5_newCapacity_0f7a4 iJ5_newCapacity_0f7a4 [.ref A, .int (nI q)] M 0 0 (some (.int (nI (nwc q m)))) M := by
  have hnw : nwc q m ≤ 1000 ∧ 0 < nwc q m := by unfold nwc; split <;> omega
  refine Ct.of 4 (by decide) rfl (by decide) (Nat.le_of_ble_eq_true rfl) ?_
  show WP _ _ _ _ _ _ _ 0 [some (.ref A), some (.int (nI q)), none, none, none, none] [] _ 0 0
  refine wp_ald0 dJ5_newCapacity_0f7a4_0 ?_
  refine wp_get dJ5_newCapacity_0f7a4_1 fJ5_15 hA hEA rfl ?_
  refine wp_alen dJ5_newCapacity_0f7a4_4 hG.2.1 hb hEb (v := nI m) (by rw [hx]; rfl) ?_
  refine wp_ist2 dJ5_newCapacity_0f7a4_5 (by decide) rfl ?_
  refine wp_ild1 dJ5_newCapacity_0f7a4_6 ?_
  refine wp_ald0 dJ5_newCapacity_0f7a4_7 ?_
  refine wp_get dJ5_newCapacity_0f7a4_8 fJ5_22 hA hEA rfl ?_
  refine wp_ishl dJ5_newCapacity_0f7a4_11 ?_
  rw [sb_shl0]
  refine wp_ist3 dJ5_newCapacity_0f7a4_12 (by decide) rfl ?_
  refine wp_ild3 dJ5_newCapacity_0f7a4_13 ?_
  refine wp_ild2 dJ5_newCapacity_0f7a4_14 ?_
  refine wp_isubN (a := q) (b := m) rfl rfl (by omega) dJ5_newCapacity_0f7a4_15 ?_
  refine wp_ist4 dJ5_newCapacity_0f7a4_16 (by decide) rfl ?_
  refine wp_ild2 dJ5_newCapacity_0f7a4_18 ?_
  refine wp_ild4 dJ5_newCapacity_0f7a4_19 ?_
  refine wp_ild2 dJ5_newCapacity_0f7a4_21 ?_
  refine wp_iconst (v := 2) dJ5_newCapacity_0f7a4_22 (by decide) ?_
  refine wp_ald0 dJ5_newCapacity_0f7a4_23 ?_
  refine wp_get dJ5_newCapacity_0f7a4_24 fJ5_22 hA hEA rfl ?_
  refine wp_ishl dJ5_newCapacity_0f7a4_27 ?_
  rw [sb_shl0]
  refine wp_iaddN (a := m) (b := 2) rfl (by decide) dJ5_newCapacity_0f7a4_28 ?_
  refine ci_3 dJ5_newCapacity_0f7a4_29 kJ5_114 (sx_newLength (d := d - 1) (by omega) (by omega) (by omega) (show 0 < nwc q m from hnw.2) (by omega)) (by omega) (Nat.le_of_ble_eq_true rfl) (Nat.le_refl _) (Nat.le_refl _) ?_
  rw [show m + (if q - m < m + 2 then m + 2 else q - m) = nwc q m from rfl]
  refine wp_ist5 dJ5_newCapacity_0f7a4_32 (by decide) rfl ?_
  refine wp_ild5 dJ5_newCapacity_0f7a4_34 ?_
  refine wp_ldc dJ5_newCapacity_0f7a4_36 qJ5_39 ?_
  refine wp_icmp_ne (tgt := 51) dJ5_newCapacity_0f7a4_38 (by decide) (fun _ => ?_) (fun h => absurd (nI_inj (by omega) (by decide) (show nI (nwc q m) = nI 2147483647 from h)) (by omega))
  refine wp_ild5 dJ5_newCapacity_0f7a4_51 ?_
  refine wp_ald0 dJ5_newCapacity_0f7a4_53 ?_
  refine wp_get dJ5_newCapacity_0f7a4_54 fJ5_22 hA hEA rfl ?_
  refine wp_ishr dJ5_newCapacity_0f7a4_57 ?_
  rw [sb_shr0]
  exact wp_iret dJ5_newCapacity_0f7a4_58 rfl (Nat.le_refl _) (Nat.le_refl _) rfl rfl
abbrev cpMm (G : GG) (M : Mem) (m nc : Nat) (f : Nat → Int32) : Mem := ups (pushM M (.inl (cyB G, nc, .inl (fun _ => 0)))) M.2.2 (.inl (cyB G, nc, .inl (va_cpy f (fun _ => 0) 0 0 m)))
theorem sx_copyOf {G : GG} {M : Mem} {d : Nat} {b m nc : Nat} {f : Nat → Int32} (hG : GOK G) (hb : b ∈ M.1) (hbl : b < M.2.2) (hEb : M.2.1 b = .inl (cyB G, m, .inl f)) (hf : sb_Fit f) (hm : m < nc) (hnc : nc ≤ 1000) (hdp : 1 ≤ d) : Ct G d yJ7_copyOf_9075b iJ7_copyOf_9075b [.ref b, .int (nI nc)] M 1 nc (some (.ref M.2.2)) (cpMm G M m nc f) := by
  refine Ct.of 1 (by decide) rfl (by decide) (Nat.le_of_ble_eq_true rfl) ?_
  show WP _ _ _ _ _ _ _ 0 [some (.ref b), some (.int (nI nc)), none] [] _ 0 0
  refine wp_ild1 dJ7_copyOf_9075b_0 ?_
  refine wp_ald0 dJ7_copyOf_9075b_1 ?_
  refine wp_alen dJ7_copyOf_9075b_2 hG.2.1 hb hEb (v := nI m) rfl ?_
  refine wp_icmp_ne (tgt := 14) dJ7_copyOf_9075b_3 (by decide) (fun _ => ?_) (fun h => absurd (nI_inj (by omega) (by omega) h) (by omega))
  refine wp_ild1 dJ7_copyOf_9075b_14 ?_
  refine wp_newa (atype := .byte) (N := nc) dJ7_copyOf_9075b_15 (Or.inr rfl) mw_aB hG.2.1 (nI_pos (by omega)) (nI_clamp (by omega)) (by show nc * 1 ≤ _; omega) (by omega) (by omega) ?_
  have hb2 : b ∈ (pushM M (.inl (cyB G, nc, .inl (fun _ => 0)))).1 := List.mem_append_left _ hb
  have hEb2 : (pushM M (.inl (cyB G, nc, .inl (fun _ => 0)))).2.1 b = .inl (cyB G, m, .inl f) := (vu_ne (by omega)).trans hEb
  refine wp_ast2 dJ7_copyOf_9075b_17 (by decide) rfl ?_
  refine wp_ald0 dJ7_copyOf_9075b_18 ?_
  refine wp_iconst (v := 0) dJ7_copyOf_9075b_19 (by decide) ?_
  refine wp_ald2 dJ7_copyOf_9075b_20 ?_
  refine wp_iconst (v := 0) dJ7_copyOf_9075b_21 (by decide) ?_
  refine wp_ald0 dJ7_copyOf_9075b_22 ?_
  refine wp_alen dJ7_copyOf_9075b_23 hG.2.1 hb2 hEb2 (v := nI m) rfl ?_
  refine wp_ild1 dJ7_copyOf_9075b_24 ?_
  refine wp_min dJ7_copyOf_9075b_25 kJ7_304 hdp (Nat.le_of_ble_eq_true rfl) (by omega) (by omega) ?_
  rw [if_neg (nI_nlt (by omega) (by omega))]
  refine wp_copy (t := 1) (c1 := cyB G) (n0 := m) (n1 := nc) dJ7_copyOf_9075b_28 kJ7_150 mw_ac1 mw_ac2 mw_ac3 hG.2.1 rfl (Or.inl ⟨hb2, hEb2⟩) (List.mem_append_right _ (List.mem_singleton.mpr rfl)) vu_eq (by decide) (by decide) (nI_pos (by omega)) (by rw [nI_clamp (by omega)]; show 0 + m ≤ m; omega) (by rw [nI_clamp (by omega)]; show 0 + m ≤ nc; omega) (fun i _ => hf _) hdp (Nat.le_of_ble_eq_true rfl) ?_
  rw [nI_clamp (show m < 2 ^ 31 by omega)]
  refine wp_ald2 dJ7_copyOf_9075b_31 ?_
  exact wp_aret dJ7_copyOf_9075b_32 rfl (Or.inr ⟨_, rfl⟩) (Or.inr ⟨_, rfl⟩) (by omega) (by omega) rfl rfl
theorem sx_ens {G : GG} {M : Mem} {d : Nat} {A b m q : Nat} {t : List Nat} (hG : GOK G) (h : SB G A b m t M) (hq : q ≤ 300) (hdp : 3 ≤ d) : ∃ M1 b1 m1, Ct G d yJ5_ensureCapacityInternal_d00df iJ5_ensureCapacityInternal_d00df [.ref A, .int (nI q)] M (m1 - m) (2 * (m1 - m)) none M1 ∧ SB G A b1 m1 t M1 ∧ Sx A M b m M1 b1 m1 ∧ q ≤ m1 := by
  have h' := h
  obtain ⟨f, ml, ⟨⟨hA, hb⟩, hne, hAl, hbl⟩, hEA, hEb, ⟨hnm, hm⟩, hf, hfi, hc⟩ := h
  by_cases hqm : q ≤ m
  · refine ⟨M, b, m, ?_, h', Sx.rf, hqm⟩
    refine Ct.of 1 (by decide) rfl (by decide) (Nat.le_of_ble_eq_true rfl) ?_
    show WP _ _ _ _ _ _ _ 0 [some (.ref A), some (.int (nI q)), none] [] _ 0 0
    refine wp_ald0 dJ5_ensureCapacityInternal_d00df_0 ?_
    refine wp_get dJ5_ensureCapacityInternal_d00df_1 fJ5_15 hA hEA rfl ?_
    refine wp_alen dJ5_ensureCapacityInternal_d00df_4 hG.2.1 hb hEb (v := nI m) rfl ?_
    refine wp_ald0 dJ5_ensureCapacityInternal_d00df_5 ?_
    refine wp_get dJ5_ensureCapacityInternal_d00df_6 fJ5_22 hA hEA rfl ?_
    refine wp_ishr dJ5_ensureCapacityInternal_d00df_9 ?_
    rw [sb_shr0]
    refine wp_ist2 dJ5_ensureCapacityInternal_d00df_10 (by decide) rfl ?_
    refine wp_ild1 dJ5_ensureCapacityInternal_d00df_11 ?_
    refine wp_ild2 dJ5_ensureCapacityInternal_d00df_12 ?_
    refine wp_isub dJ5_ensureCapacityInternal_d00df_13 ?_
    refine wp_if_le (tgt := 38) dJ5_ensureCapacityInternal_d00df_14 (by decide) (fun _ => ?_) (fun h => absurd ((sub_le0 (by omega) (by omega)).mpr hqm) h)
    exact wp_vret dJ5_ensureCapacityInternal_d00df_38 rfl (by omega) (by omega) rfl rfl
  · have hn1 : m < nwc q m ∧ 2 * m + 2 ≤ nwc q m ∧ nwc q m ≤ 700 ∧ q ≤ nwc q m := by unfold nwc; split <;> omega
    have hkn : (cpMm G M m (nwc q m) f).2.1 A = .inr (0, [.ref b, .int 0, .int ml, .int (nI t.length)]) := by
      show va_up (va_up M.2.1 M.2.2 _) M.2.2 _ A = _
      rw [vu_ne (by omega), vu_ne (by omega)]; exact hEA
    have hkA : A ∈ (cpMm G M m (nwc q m) f).1 := List.mem_append_left _ hA
    refine ⟨ups (cpMm G M m (nwc q m) f) A (.inr (0, [.ref M.2.2, .int 0, .int ml, .int (nI t.length)])), M.2.2, nwc q m, ?_, ⟨va_cpy f (fun _ => 0) 0 0 m, ml, ⟨⟨hkA, List.mem_append_right _ (List.mem_singleton.mpr rfl)⟩, by omega, Nat.lt_succ_of_lt hAl, Nat.lt_succ_self _⟩, vu_eq, ?_, ⟨by omega, hn1.2.2.1⟩, sb_fitC hf sb_fit0, fun i hi => ?_, hc⟩, ⟨⟨fun a ha => List.mem_append_left _ ha, Nat.le_succ _, fun a h1 h2 h3 => ?_⟩, Or.inr (Nat.le_refl _), by omega⟩, hn1.2.2.2⟩
    · refine Ct.of 1 (by decide) rfl (by decide) (Nat.le_of_ble_eq_true rfl) ?_
      show WP _ _ _ _ _ _ _ 0 [some (.ref A), some (.int (nI q)), none] [] _ 0 0
      refine wp_ald0 dJ5_ensureCapacityInternal_d00df_0 ?_
      refine wp_get dJ5_ensureCapacityInternal_d00df_1 fJ5_15 hA hEA rfl ?_
      refine wp_alen dJ5_ensureCapacityInternal_d00df_4 hG.2.1 hb hEb (v := nI m) rfl ?_
      refine wp_ald0 dJ5_ensureCapacityInternal_d00df_5 ?_
      refine wp_get dJ5_ensureCapacityInternal_d00df_6 fJ5_22 hA hEA rfl ?_
      refine wp_ishr dJ5_ensureCapacityInternal_d00df_9 ?_
      rw [sb_shr0]
      refine wp_ist2 dJ5_ensureCapacityInternal_d00df_10 (by decide) rfl ?_
      refine wp_ild1 dJ5_ensureCapacityInternal_d00df_11 ?_
      refine wp_ild2 dJ5_ensureCapacityInternal_d00df_12 ?_
      refine wp_isub dJ5_ensureCapacityInternal_d00df_13 ?_
      refine wp_if_le (tgt := 38) dJ5_ensureCapacityInternal_d00df_14 (by decide) (fun h => absurd ((sub_le0 (by omega) (by omega)).mp h) hqm) (fun _ => ?_)
      refine wp_ald0 dJ5_ensureCapacityInternal_d00df_17 ?_
      refine wp_ald0 dJ5_ensureCapacityInternal_d00df_18 ?_
      refine wp_get dJ5_ensureCapacityInternal_d00df_19 fJ5_15 hA hEA rfl ?_
      refine wp_ald0 dJ5_ensureCapacityInternal_d00df_22 ?_
      refine wp_ild1 dJ5_ensureCapacityInternal_d00df_23 ?_
      refine wp_callU (As := [.int (nI q)]) dJ5_ensureCapacityInternal_d00df_24 uJ5_104 (sx_newCap (d := d - 1) hG hA hb hEA hEb rfl hm hq (by omega) (by omega)) hA hEA rfl rfl (by omega) (by omega) (by omega) rfl (Nat.le_of_ble_eq_true rfl) ?_
      refine wp_ald0 dJ5_ensureCapacityInternal_d00df_27 ?_
      refine wp_get dJ5_ensureCapacityInternal_d00df_28 fJ5_22 hA hEA rfl ?_
      refine wp_ishl dJ5_ensureCapacityInternal_d00df_31 ?_
      rw [sb_shl0]
      refine wp_callS (As := [.ref b, .int (nI (nwc q m))]) dJ5_ensureCapacityInternal_d00df_32 kJ5_108 (sx_copyOf (d := d - 1) hG hb hbl hEb hf hn1.1 (by omega) (by omega)) rfl (by omega) (by omega) (by omega) rfl (Nat.le_of_ble_eq_true rfl) ?_
      refine wp_put dJ5_ensureCapacityInternal_d00df_35 pJ5_15 hkA hkn (by show 0 < 4; decide) rfl rfl ?_
      exact wp_vret dJ5_ensureCapacityInternal_d00df_38 rfl (by omega) (by omega) rfl rfl
    · show va_up (va_up (va_up M.2.1 M.2.2 _) M.2.2 _) A _ M.2.2 = _
      rw [vu_ne (by omega), vu_eq]
    · rw [sb_cpy0 (by omega)]; exact hfi i hi
    · show va_up (va_up (va_up M.2.1 M.2.2 _) M.2.2 _) A _ a = _
      rw [vu_ne h2, vu_ne (by omega), vu_ne (by omega)]
