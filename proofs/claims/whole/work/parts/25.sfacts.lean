def strT : Nat → Term := fun i => if i = 0 then .string "WordMill$Script" 41 else .string "WordMill$Script" 77
abbrev fl0 : List Cond := flatC (Jvm.Cond.and given_1 narrow_1)
set_option maxRecDepth 100000 in
theorem ao_in : Cond.arrayOver (.object "WordMill$State") ∈ tables_1 := by decide +kernel
set_option maxRecDepth 100000 in
theorem st_ex : ∀ i, i < 2 → Cond.exactly (strT i) "java/lang/String" ∈ fl0 := by decide +kernel
set_option maxRecDepth 100000 in
theorem st_co : ∀ i, i < 2 → Cond.eq (.field (strT i) "java/lang/String" "coder" "B") (.int 0) ∈ fl0 := by decide +kernel
set_option maxRecDepth 100000 in
theorem st_ar : ∀ i, i < 2 → Cond.arrayOf (.field (strT i) "java/lang/String" "value" "[B") .byte ∈ fl0 := by decide +kernel
set_option maxRecDepth 100000 in
theorem st_le : ∀ i, i < 2 → Cond.eq (.length (.field (strT i) "java/lang/String" "value" "[B")) (.int (Int32.ofNat (([126, 9] : List Nat).getD i 0))) ∈ fl0 := by decide +kernel
set_option maxRecDepth 100000 in
theorem st_el : ∀ i, i < 2 → ∀ j, j < ([126, 9] : List Nat).getD i 0 → Cond.eq (.elem (.field (strT i) "java/lang/String" "value" "[B") (.int (Int32.ofNat j))) (.int ((([str0.map Int32.ofInt, str1.map Int32.ofInt] : List (List Int32)).getD i []).getD j 0)) ∈ fl0 := by decide +kernel
set_option maxRecDepth 100000 in
theorem st_ne : Cond.not (Cond.eq (strT 0) (strT 1)) ∈ fl0 := by decide +kernel
set_option maxRecDepth 100000 in
theorem cs_in : Cond.laysStatic "java/lang/String" "COMPACT_STRINGS" "Z" ∈ tables_1 := by decide +kernel
set_option maxRecDepth 100000 in
theorem sf_in : Cond.laysStatic "jdk/internal/util/Preconditions" "SIOOBE_FORMATTER" "Ljava/util/function/BiFunction;" ∈ tables_1 := by decide +kernel
set_option maxRecDepth 100000 in
theorem cs_eq : Cond.eq (.static "java/lang/String" "COMPACT_STRINGS" "Z") (.int 1) ∈ fl0 := by decide +kernel
set_option maxRecDepth 100000 in
theorem sf_ref : Cond.isRef (.static "jdk/internal/util/Preconditions" "SIOOBE_FORMATTER" "Ljava/util/function/BiFunction;") ∈ fl0 := by decide +kernel
set_option maxRecDepth 100000 in
theorem ci_in : Cond.initialized "java/lang/String" ∈ lw_good := List.mem_filter.mpr ⟨List.mem_append_right _ (by decide +kernel), rfl⟩
set_option maxRecDepth 100000 in
theorem pi_in : Cond.initialized "jdk/internal/util/Preconditions" ∈ lw_good := List.mem_filter.mpr ⟨List.mem_append_right _ (by decide +kernel), rfl⟩
set_option maxRecDepth 100000 in
theorem s0_in : Cond.stringRef RX4 41 "class stone to none after before root ending head word pair land brings seed edge if then else ends heads tons dust turn left " ∈ tables_1 := by decide +kernel
set_option maxRecDepth 100000 in
theorem s1_in : Cond.stringRef RX4 77 ";=+-*/<()" ∈ tables_1 := by decide +kernel
