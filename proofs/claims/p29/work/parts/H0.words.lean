/-! ===== what holds at the law's entry ===== -/
def tm5 (i : Nat) : Term := .string "NeedNotJoin$Reader" ([76, 82, 84, 85, 87].getD i 0)
theorem cx_ex : ∀ i, i < 5 → (Cond.exactly (tm5 i) "java/lang/String") ∈ flatC (Jvm.Cond.and given_1 narrow_1) := by decide +kernel
theorem cx_co : ∀ i, i < 5 → (Cond.eq (.field (tm5 i) "java/lang/String" "coder" "B") (.int 0)) ∈ flatC (Jvm.Cond.and given_1 narrow_1) := by decide +kernel
theorem cx_ar : ∀ i, i < 5 → (Cond.arrayOf (.field (tm5 i) "java/lang/String" "value" "[B") .byte) ∈ flatC (Jvm.Cond.and given_1 narrow_1) := by decide +kernel
theorem cx_le : ∀ i, i < 5 → (Cond.eq (.length (.field (tm5 i) "java/lang/String" "value" "[B")) (.int (Int32.ofNat (lw_len.getD i 0)))) ∈ flatC (Jvm.Cond.and given_1 narrow_1) := by decide +kernel
theorem cx_el : ∀ i, i < 5 → ∀ j, j < lw_len.getD i 0 → (Cond.eq (.elem (.field (tm5 i) "java/lang/String" "value" "[B") (.int (Int32.ofNat j))) (.int ((lw_byt.getD i []).getD j 0))) ∈ flatC (Jvm.Cond.and given_1 narrow_1) := by decide +kernel
theorem cx_ne : ∀ i, i < 5 → ∀ j, j < 5 → i < j → (Cond.not (Cond.eq (tm5 i) (tm5 j))) ∈ flatC (Jvm.Cond.and given_1 narrow_1) := by decide +kernel
def tm8 (i : Nat) : Term := .string "NeedNotJoinLaw" ([61, 70, 72, 82, 95, 115, 117, 123].getD i 0)
def ln8 : List Nat := [6, 1, 1, 5, 7, 3, 5, 2]
def by8 : List (List Int32) := [[111, 114, 100, 101, 114, 32], [32], [59], [102, 105, 101, 108, 100], [32, 116, 119, 105, 115, 116, 32], [97, 116, 32], [116, 117, 114, 110, 32], [32, 59]]
theorem cy_ex : ∀ i, i < 8 → (Cond.exactly (tm8 i) "java/lang/String") ∈ flatC (Jvm.Cond.and given_1 narrow_1) := by decide +kernel
theorem cy_co : ∀ i, i < 8 → (Cond.eq (.field (tm8 i) "java/lang/String" "coder" "B") (.int 0)) ∈ flatC (Jvm.Cond.and given_1 narrow_1) := by decide +kernel
theorem cy_ar : ∀ i, i < 8 → (Cond.arrayOf (.field (tm8 i) "java/lang/String" "value" "[B") .byte) ∈ flatC (Jvm.Cond.and given_1 narrow_1) := by decide +kernel
theorem cy_le : ∀ i, i < 8 → (Cond.eq (.length (.field (tm8 i) "java/lang/String" "value" "[B")) (.int (Int32.ofNat (ln8.getD i 0)))) ∈ flatC (Jvm.Cond.and given_1 narrow_1) := by decide +kernel
theorem cy_el : ∀ i, i < 8 → ∀ j, j < ln8.getD i 0 → (Cond.eq (.elem (.field (tm8 i) "java/lang/String" "value" "[B") (.int (Int32.ofNat j))) (.int ((by8.getD i []).getD j 0))) ∈ flatC (Jvm.Cond.and given_1 narrow_1) := by decide +kernel
theorem cy_ne : ∀ i, i < 8 → ∀ j, j < 8 → i < j → (Cond.not (Cond.eq (tm8 i) (tm8 j))) ∈ flatC (Jvm.Cond.and given_1 narrow_1) := by decide +kernel
theorem by8_ok : ∀ i, i < 8 → (ltx i).length = ln8.getD i 0 ∧ ln8.getD i 0 < 8 ∧ ∀ j, j < ln8.getD i 0 → (by8.getD i []).getD j 0 = nI ((ltx i).getD j 0) ∧ (ltx i).getD j 0 < 128 := by decide +kernel
def tmO : Term := .static "java/lang/Integer" "DigitOnes" "[B"
def tmT : Term := .static "java/lang/Integer" "DigitTens" "[B"
theorem co_ar : (Cond.arrayOf tmO .byte) ∈ flatC (Jvm.Cond.and given_1 narrow_1) ∧ (Cond.arrayOf tmT .byte) ∈ flatC (Jvm.Cond.and given_1 narrow_1) := by decide +kernel
theorem co_le : (Cond.eq (.length tmO) (.int (Int32.ofNat 100))) ∈ flatC (Jvm.Cond.and given_1 narrow_1) ∧ (Cond.eq (.length tmT) (.int (Int32.ofNat 100))) ∈ flatC (Jvm.Cond.and given_1 narrow_1) := by decide +kernel
theorem co_all : ((flatC (Jvm.Cond.and given_1 narrow_1)).drop 12).take 100 = (List.range 100).map (fun j => Cond.eq (.elem tmO (.int (Int32.ofNat j))) (.int (Int32.ofNat (48 + j % 10)))) := by decide +kernel
theorem ct_all : ((flatC (Jvm.Cond.and given_1 narrow_1)).drop 115).take 100 = (List.range 100).map (fun j => Cond.eq (.elem tmT (.int (Int32.ofNat j))) (.int (Int32.ofNat (48 + j / 10)))) := by decide +kernel
theorem co_el (j : Nat) (hj : j < 100) : (Cond.eq (.elem tmO (.int (Int32.ofNat j))) (.int (Int32.ofNat (48 + j % 10)))) ∈ flatC (Jvm.Cond.and given_1 narrow_1) := by
  have m : (Cond.eq (.elem tmO (.int (Int32.ofNat j))) (.int (Int32.ofNat (48 + j % 10)))) ∈ (List.range 100).map (fun j => Cond.eq (.elem tmO (.int (Int32.ofNat j))) (.int (Int32.ofNat (48 + j % 10)))) := List.mem_map.mpr ⟨j, List.mem_range.mpr hj, rfl⟩
  rw [← co_all] at m
  exact List.mem_of_mem_drop (List.mem_of_mem_take m)
theorem ct_el (j : Nat) (hj : j < 100) : (Cond.eq (.elem tmT (.int (Int32.ofNat j))) (.int (Int32.ofNat (48 + j / 10)))) ∈ flatC (Jvm.Cond.and given_1 narrow_1) := by
  have m : (Cond.eq (.elem tmT (.int (Int32.ofNat j))) (.int (Int32.ofNat (48 + j / 10)))) ∈ (List.range 100).map (fun j => Cond.eq (.elem tmT (.int (Int32.ofNat j))) (.int (Int32.ofNat (48 + j / 10)))) := List.mem_map.mpr ⟨j, List.mem_range.mpr hj, rfl⟩
  rw [← ct_all] at m
  exact List.mem_of_mem_drop (List.mem_of_mem_take m)
