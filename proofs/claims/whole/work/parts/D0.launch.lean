/-! what the launch gives: statics, strings, classes -/
def PP : List Cond := flatC (Jvm.Cond.and given_1 narrow_1)
def sBas (i : Nat) : Nat := ([547, 574, 601, 632, 663, 698, 732, 761, 793, 825, 391, 404, 414, 429, 445, 460, 481, 502, 520, 328, 339, 352, 364, 375] : List Nat).getD i 0
def sOwn (i : Nat) : String := if i < 10 then "LockSimulator$Operation" else "LockSimulator$Lock"
def sIdx (i : Nat) : Nat := if i < 10 then 7 + 2 * i else lkI.getD (i - 10) 0
def sTxt (i : Nat) : String := if i < 10 then fmT i else lkT (sIdx i)
def sCod (i : Nat) : List Nat := if i < 10 then fmS i else lkS (sIdx i)
abbrev sTm (i : Nat) : Term := .string (sOwn i) (sIdx i)
abbrev sVal (i : Nat) : Term := .field (sTm i) "java/lang/String" "value" "[B"
abbrev sRow (i : Nat) : Prop := PP[sBas i]? = some (.exactly (sTm i) "java/lang/String") ∧ PP[sBas i + 1]? = some (.eq (.field (sTm i) "java/lang/String" "coder" "B") (.int 0)) ∧ PP[sBas i + 2]? = some (.arrayOf (sVal i) .byte) ∧ PP[sBas i + 3]? = some (.eq (.length (sVal i)) (.int (Int32.ofNat (sCod i).length))) ∧ ∀ j, j < (sCod i).length → PP[sBas i + 4 + j]? = some (.eq (.elem (sVal i) (.int (Int32.ofNat j))) (.int (nI ((sCod i).getD j 0))))
theorem sRows : ∀ i, i < 24 → sRow i := by decide +kernel
theorem sRefs : ∀ i, i < 24 → Cond.stringRef (sOwn i) (sIdx i) (sTxt i) ∈ tables_1 := by decide +kernel
theorem sLens : ∀ i, i < 24 → (sCod i).length ≤ 50 ∧ ∀ c, c ∈ sCod i → c < 128 := by decide +kernel
theorem lkRows : ∀ i, i ∈ lkI → (10 + lkI.idxOf i < 24 ∧ sOwn (10 + lkI.idxOf i) = "LockSimulator$Lock" ∧ sIdx (10 + lkI.idxOf i) = i ∧ sTxt (10 + lkI.idxOf i) = lkT i ∧ sCod (10 + lkI.idxOf i) = lkS i) := by decide +kernel
abbrev aRow (C n ds : String) (ty : FieldType) (N : Nat) (f : Nat → Int32) (b : Nat) : Prop := PP[b]? = some (.arrayOf (.static C n ds) ty) ∧ PP[b + 1]? = some (.eq (.length (.static C n ds)) (.int (Int32.ofNat N))) ∧ ∀ j, j < N → PP[b + 2 + j]? = some (.eq (.elem (.static C n ds) (.int (Int32.ofNat j))) (.int (f j)))
theorem aFirst : aRow "LockSimulator$Settings" "FIRST" "[I" .int 8 sFirst 5 := by decide +kernel
theorem aLeast : aRow "LockSimulator$Settings" "LEAST" "[I" .int 8 sLeast 17 := by decide +kernel
theorem aGreat : aRow "LockSimulator$Settings" "GREATEST" "[I" .int 8 sGreat 28 := by decide +kernel
theorem aPrice : aRow "LockSimulator$Tally" "PRICES" "[I" .int 9 sPrice 249 := by decide +kernel
theorem aOnes : aRow "java/lang/Integer" "DigitOnes" "[B" .byte 100 (fun j => nI (48 + j % 10)) 43 := by decide +kernel
theorem aTens : aRow "java/lang/Integer" "DigitTens" "[B" .byte 100 (fun j => nI (48 + j / 10)) 146 := by decide +kernel
theorem lwRows : ∀ p, p ∈ lwTab → Cond.eq (.static "LockSimulatorModel" p.1 "J") (.long p.2) ∈ PP := by decide +kernel
theorem lwLays : ∀ p, p ∈ lwTab → Cond.laysStatic "LockSimulatorModel" p.1 "J" ∈ tables_1 := by decide +kernel
def zWs : List Cond := [.laysStatic "LockSimulator$Settings" "FIRST" "[I", .laysStatic "LockSimulator$Settings" "LEAST" "[I", .laysStatic "LockSimulator$Settings" "GREATEST" "[I", .laysStatic "LockSimulator$Tally" "PRICES" "[I", .laysStatic "java/lang/Integer" "DigitOnes" "[B", .laysStatic "java/lang/Integer" "DigitTens" "[B", .laysStatic "java/lang/String" "COMPACT_STRINGS" "Z", .laysStatic "jdk/internal/util/Preconditions" "SIOOBE_FORMATTER" "Ljava/util/function/BiFunction;", .initialized "LockSimulator$Settings", .initialized "LockSimulator$Tally", .initialized "java/lang/Integer", .initialized "java/lang/String", .initialized "jdk/internal/util/Preconditions", .initialized "LockSimulatorModel", nwF, nwM, .castable "[B" "java/lang/Cloneable", .arrayOver (.object "LockSimulator$Strand"), .arrayOver (.object "LockSimulator$Lock"), .arrayOver (.object "LockSimulator$Kind"), .arrayOver (.object "LockSimulator$Slot"), .arrayClass .int, .arrayClass .byte]
theorem zIn : ∀ w, w ∈ zWs → w ∈ tables_1 := by decide +kernel
theorem prIn : ∀ y, y ∈ prC → Cond.privateMethod y ∈ tables_1 := by decide +kernel
