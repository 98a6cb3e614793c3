theorem cw_X4_copy_L : Cond.methodLink RX4 70 arraycopyName ∈ wsX4_copy := by decide +kernel
theorem cw_X4_copy_N : Cond.native arraycopyName ∈ wsX4_copy := by decide +kernel
theorem cw_X4_copy_S : Cond.static arraycopyName ∈ wsX4_copy := by decide +kernel
theorem cw_X4_copy_I : Cond.initialized "java/lang/System" ∈ wsX4_copy := by decide +kernel
theorem fw_X4_copy_15 : Cond.fieldLink RX4 15 "StillInAugust$House" "offers" "[I" ∈ wsX4_copy := by decide +kernel
theorem fw_X4_copy_18 : Cond.fieldLink RX4 18 "StillInAugust$House" "goes" "[I" ∈ wsX4_copy := by decide +kernel
theorem fw_X4_copy_21 : Cond.fieldLink RX4 21 "StillInAugust$House" "does" "[I" ∈ wsX4_copy := by decide +kernel
theorem fw_X4_copy_32 : Cond.fieldLink RX4 32 "StillInAugust$House" "weeks" "I" ∈ wsX4_copy := by decide +kernel
theorem fw_X4_copy_36 : Cond.fieldLink RX4 36 "StillInAugust$House" "hooks" "I" ∈ wsX4_copy := by decide +kernel
theorem fw_X4_copy_45 : Cond.fieldLink RX4 45 "StillInAugust$House" "pay" "I" ∈ wsX4_copy := by decide +kernel
theorem fw_X4_copy_48 : Cond.fieldLink RX4 48 "StillInAugust$House" "shortPrice" "I" ∈ wsX4_copy := by decide +kernel
theorem fw_X4_copy_51 : Cond.fieldLink RX4 51 "StillInAugust$House" "letGoPrice" "I" ∈ wsX4_copy := by decide +kernel
theorem fw_X4_copy_54 : Cond.fieldLink RX4 54 "StillInAugust$House" "teachPrice" "I" ∈ wsX4_copy := by decide +kernel
theorem fw_X4_copy_57 : Cond.fieldLink RX4 57 "StillInAugust$House" "agencyPrice" "I" ∈ wsX4_copy := by decide +kernel
theorem fw_X4_copy_60 : Cond.fieldLink RX4 60 "StillInAugust$House" "bonus" "I" ∈ wsX4_copy := by decide +kernel
theorem fw_X4_copy_63 : Cond.fieldLink RX4 63 "StillInAugust$House" "fifthsLess" "I" ∈ wsX4_copy := by decide +kernel
theorem fw_X4_copy_9 : Cond.fieldLink RX4 9 "StillInAugust$House" "wants" "[I" ∈ wsX4_copy := by decide +kernel
theorem nd_X4_settle : yX4_settle.cls = RX4 ∧ yX4_settle.cls ≠ "java/lang/invoke/MethodHandle" ∧ yX4_settle.cls ≠ "java/lang/invoke/VarHandle" ∧ (parseMethodDescriptor yX4_settle.desc).map (fun d => d.parameters.length) = some 0 := by decide +kernel
theorem iw_X4_copy_X4 : ∀ w ∈ u_ws RX4 TX4 14, w ∈ wsX4_copy := fun _ h => List.mem_cons_of_mem _ (List.mem_append_right _ h)
def J_X4_copy (sh : Nat → Nat → Int32) (so : Nat → Nat → Int32) (p0 : Int32) : Int32 × Int32 × (Nat → Int32) × (Nat → Int32) × (Nat → Int32) × (Nat → Int32) × Int32 × Int32 × Int32 × Int32 × Int32 × Int32 × Int32 := if (p0 &&& (1 : Int32)) = 0 then if (p0 &&& (2 : Int32)) = 0 then if (p0 &&& (4 : Int32)) = 0 then if (p0 &&& (8 : Int32)) = 0 then if (p0 &&& (8 : Int32)) = 0 then ((so 0 0), (so 0 1), (va_cpy (so 1) (sh 1) ((0 : Int32).toNatClampNeg) ((0 : Int32).toNatClampNeg) ((5 : Int32).toNatClampNeg)), (va_cpy (so 2) (sh 2) ((0 : Int32).toNatClampNeg) ((0 : Int32).toNatClampNeg) ((5 : Int32).toNatClampNeg)), (va_cpy (so 3) (sh 3) ((0 : Int32).toNatClampNeg) ((0 : Int32).toNatClampNeg) ((3 : Int32).toNatClampNeg)), (va_cpy (so 4) (sh 4) ((0 : Int32).toNatClampNeg) ((0 : Int32).toNatClampNeg) ((3 : Int32).toNatClampNeg)), (so 0 6), (so 0 7), (so 0 8), (so 0 9), (so 0 10), (so 0 11), (so 0 12)) else ((so 0 0), (so 0 1), (va_cpy (so 1) (sh 1) ((0 : Int32).toNatClampNeg) ((0 : Int32).toNatClampNeg) ((5 : Int32).toNatClampNeg)), (va_cpy (so 2) (sh 2) ((0 : Int32).toNatClampNeg) ((0 : Int32).toNatClampNeg) ((5 : Int32).toNatClampNeg)), (va_cpy (so 3) (sh 3) ((0 : Int32).toNatClampNeg) ((0 : Int32).toNatClampNeg) ((3 : Int32).toNatClampNeg)), (va_cpy (so 4) (sh 4) ((0 : Int32).toNatClampNeg) ((0 : Int32).toNatClampNeg) ((3 : Int32).toNatClampNeg)), (so 0 6), (so 0 7), (so 0 8), (so 0 9), (so 0 10), (so 0 11), (0 : Int32)) else if (p0 &&& (8 : Int32)) = 0 then ((so 0 0), (so 0 1), (va_cpy (so 1) (sh 1) ((0 : Int32).toNatClampNeg) ((0 : Int32).toNatClampNeg) ((5 : Int32).toNatClampNeg)), (va_cpy (so 2) (sh 2) ((0 : Int32).toNatClampNeg) ((0 : Int32).toNatClampNeg) ((5 : Int32).toNatClampNeg)), (va_cpy (so 3) (sh 3) ((0 : Int32).toNatClampNeg) ((0 : Int32).toNatClampNeg) ((3 : Int32).toNatClampNeg)), (va_cpy (so 4) (sh 4) ((0 : Int32).toNatClampNeg) ((0 : Int32).toNatClampNeg) ((3 : Int32).toNatClampNeg)), (so 0 6), (so 0 7), (so 0 8), (so 0 9), (so 0 10), ((-9) : Int32), (so 0 12)) else ((so 0 0), (so 0 1), (va_cpy (so 1) (sh 1) ((0 : Int32).toNatClampNeg) ((0 : Int32).toNatClampNeg) ((5 : Int32).toNatClampNeg)), (va_cpy (so 2) (sh 2) ((0 : Int32).toNatClampNeg) ((0 : Int32).toNatClampNeg) ((5 : Int32).toNatClampNeg)), (va_cpy (so 3) (sh 3) ((0 : Int32).toNatClampNeg) ((0 : Int32).toNatClampNeg) ((3 : Int32).toNatClampNeg)), (va_cpy (so 4) (sh 4) ((0 : Int32).toNatClampNeg) ((0 : Int32).toNatClampNeg) ((3 : Int32).toNatClampNeg)), (so 0 6), (so 0 7), (so 0 8), (so 0 9), (so 0 10), ((-9) : Int32), (0 : Int32)) else if (p0 &&& (8 : Int32)) = 0 then if (p0 &&& (8 : Int32)) = 0 then ((so 0 0), (so 0 1), (va_cpy (so 1) (sh 1) ((0 : Int32).toNatClampNeg) ((0 : Int32).toNatClampNeg) ((5 : Int32).toNatClampNeg)), (va_cpy (so 2) (sh 2) ((0 : Int32).toNatClampNeg) ((0 : Int32).toNatClampNeg) ((5 : Int32).toNatClampNeg)), (va_cpy (so 3) (sh 3) ((0 : Int32).toNatClampNeg) ((0 : Int32).toNatClampNeg) ((3 : Int32).toNatClampNeg)), (va_cpy (so 4) (sh 4) ((0 : Int32).toNatClampNeg) ((0 : Int32).toNatClampNeg) ((3 : Int32).toNatClampNeg)), (so 0 6), (so 0 7), (so 0 8), (so 0 9), ((-9) : Int32), (so 0 11), (so 0 12)) else ((so 0 0), (so 0 1), (va_cpy (so 1) (sh 1) ((0 : Int32).toNatClampNeg) ((0 : Int32).toNatClampNeg) ((5 : Int32).toNatClampNeg)), (va_cpy (so 2) (sh 2) ((0 : Int32).toNatClampNeg) ((0 : Int32).toNatClampNeg) ((5 : Int32).toNatClampNeg)), (va_cpy (so 3) (sh 3) ((0 : Int32).toNatClampNeg) ((0 : Int32).toNatClampNeg) ((3 : Int32).toNatClampNeg)), (va_cpy (so 4) (sh 4) ((0 : Int32).toNatClampNeg) ((0 : Int32).toNatClampNeg) ((3 : Int32).toNatClampNeg)), (so 0 6), (so 0 7), (so 0 8), (so 0 9), ((-9) : Int32), (so 0 11), (0 : Int32)) else if (p0 &&& (8 : Int32)) = 0 then ((so 0 0), (so 0 1), (va_cpy (so 1) (sh 1) ((0 : Int32).toNatClampNeg) ((0 : Int32).toNatClampNeg) ((5 : Int32).toNatClampNeg)), (va_cpy (so 2) (sh 2) ((0 : Int32).toNatClampNeg) ((0 : Int32).toNatClampNeg) ((5 : Int32).toNatClampNeg)), (va_cpy (so 3) (sh 3) ((0 : Int32).toNatClampNeg) ((0 : Int32).toNatClampNeg) ((3 : Int32).toNatClampNeg)), (va_cpy (so 4) (sh 4) ((0 : Int32).toNatClampNeg) ((0 : Int32).toNatClampNeg) ((3 : Int32).toNatClampNeg)), (so 0 6), (so 0 7), (so 0 8), (so 0 9), ((-9) : Int32), ((-9) : Int32), (so 0 12)) else ((so 0 0), (so 0 1), (va_cpy (so 1) (sh 1) ((0 : Int32).toNatClampNeg) ((0 : Int32).toNatClampNeg) ((5 : Int32).toNatClampNeg)), (va_cpy (so 2) (sh 2) ((0 : Int32).toNatClampNeg) ((0 : Int32).toNatClampNeg) ((5 : Int32).toNatClampNeg)), (va_cpy (so 3) (sh 3) ((0 : Int32).toNatClampNeg) ((0 : Int32).toNatClampNeg) ((3 : Int32).toNatClampNeg)), (va_cpy (so 4) (sh 4) ((0 : Int32).toNatClampNeg) ((0 : Int32).toNatClampNeg) ((3 : Int32).toNatClampNeg)), (so 0 6), (so 0 7), (so 0 8), (so 0 9), ((-9) : Int32), ((-9) : Int32), (0 : Int32)) else if (p0 &&& (4 : Int32)) = 0 then if (p0 &&& (8 : Int32)) = 0 then if (p0 &&& (8 : Int32)) = 0 then ((so 0 0), (so 0 1), (va_cpy (so 1) (sh 1) ((0 : Int32).toNatClampNeg) ((0 : Int32).toNatClampNeg) ((5 : Int32).toNatClampNeg)), (va_cpy (so 2) (sh 2) ((0 : Int32).toNatClampNeg) ((0 : Int32).toNatClampNeg) ((5 : Int32).toNatClampNeg)), (va_cpy (so 3) (sh 3) ((0 : Int32).toNatClampNeg) ((0 : Int32).toNatClampNeg) ((3 : Int32).toNatClampNeg)), (va_cpy (so 4) (sh 4) ((0 : Int32).toNatClampNeg) ((0 : Int32).toNatClampNeg) ((3 : Int32).toNatClampNeg)), (so 0 6), (so 0 7), (so 0 8), ((-9) : Int32), (so 0 10), (so 0 11), (so 0 12)) else ((so 0 0), (so 0 1), (va_cpy (so 1) (sh 1) ((0 : Int32).toNatClampNeg) ((0 : Int32).toNatClampNeg) ((5 : Int32).toNatClampNeg)), (va_cpy (so 2) (sh 2) ((0 : Int32).toNatClampNeg) ((0 : Int32).toNatClampNeg) ((5 : Int32).toNatClampNeg)), (va_cpy (so 3) (sh 3) ((0 : Int32).toNatClampNeg) ((0 : Int32).toNatClampNeg) ((3 : Int32).toNatClampNeg)), (va_cpy (so 4) (sh 4) ((0 : Int32).toNatClampNeg) ((0 : Int32).toNatClampNeg) ((3 : Int32).toNatClampNeg)), (so 0 6), (so 0 7), (so 0 8), ((-9) : Int32), (so 0 10), (so 0 11), (0 : Int32)) else if (p0 &&& (8 : Int32)) = 0 then ((so 0 0), (so 0 1), (va_cpy (so 1) (sh 1) ((0 : Int32).toNatClampNeg) ((0 : Int32).toNatClampNeg) ((5 : Int32).toNatClampNeg)), (va_cpy (so 2) (sh 2) ((0 : Int32).toNatClampNeg) ((0 : Int32).toNatClampNeg) ((5 : Int32).toNatClampNeg)), (va_cpy (so 3) (sh 3) ((0 : Int32).toNatClampNeg) ((0 : Int32).toNatClampNeg) ((3 : Int32).toNatClampNeg)), (va_cpy (so 4) (sh 4) ((0 : Int32).toNatClampNeg) ((0 : Int32).toNatClampNeg) ((3 : Int32).toNatClampNeg)), (so 0 6), (so 0 7), (so 0 8), ((-9) : Int32), (so 0 10), ((-9) : Int32), (so 0 12)) else ((so 0 0), (so 0 1), (va_cpy (so 1) (sh 1) ((0 : Int32).toNatClampNeg) ((0 : Int32).toNatClampNeg) ((5 : Int32).toNatClampNeg)), (va_cpy (so 2) (sh 2) ((0 : Int32).toNatClampNeg) ((0 : Int32).toNatClampNeg) ((5 : Int32).toNatClampNeg)), (va_cpy (so 3) (sh 3) ((0 : Int32).toNatClampNeg) ((0 : Int32).toNatClampNeg) ((3 : Int32).toNatClampNeg)), (va_cpy (so 4) (sh 4) ((0 : Int32).toNatClampNeg) ((0 : Int32).toNatClampNeg) ((3 : Int32).toNatClampNeg)), (so 0 6), (so 0 7), (so 0 8), ((-9) : Int32), (so 0 10), ((-9) : Int32), (0 : Int32)) else if (p0 &&& (8 : Int32)) = 0 then if (p0 &&& (8 : Int32)) = 0 then ((so 0 0), (so 0 1), (va_cpy (so 1) (sh 1) ((0 : Int32).toNatClampNeg) ((0 : Int32).toNatClampNeg) ((5 : Int32).toNatClampNeg)), (va_cpy (so 2) (sh 2) ((0 : Int32).toNatClampNeg) ((0 : Int32).toNatClampNeg) ((5 : Int32).toNatClampNeg)), (va_cpy (so 3) (sh 3) ((0 : Int32).toNatClampNeg) ((0 : Int32).toNatClampNeg) ((3 : Int32).toNatClampNeg)), (va_cpy (so 4) (sh 4) ((0 : Int32).toNatClampNeg) ((0 : Int32).toNatClampNeg) ((3 : Int32).toNatClampNeg)), (so 0 6), (so 0 7), (so 0 8), ((-9) : Int32), ((-9) : Int32), (so 0 11), (so 0 12)) else ((so 0 0), (so 0 1), (va_cpy (so 1) (sh 1) ((0 : Int32).toNatClampNeg) ((0 : Int32).toNatClampNeg) ((5 : Int32).toNatClampNeg)), (va_cpy (so 2) (sh 2) ((0 : Int32).toNatClampNeg) ((0 : Int32).toNatClampNeg) ((5 : Int32).toNatClampNeg)), (va_cpy (so 3) (sh 3) ((0 : Int32).toNatClampNeg) ((0 : Int32).toNatClampNeg) ((3 : Int32).toNatClampNeg)), (va_cpy (so 4) (sh 4) ((0 : Int32).toNatClampNeg) ((0 : Int32).toNatClampNeg) ((3 : Int32).toNatClampNeg)), (so 0 6), (so 0 7), (so 0 8), ((-9) : Int32), ((-9) : Int32), (so 0 11), (0 : Int32)) else if (p0 &&& (8 : Int32)) = 0 then ((so 0 0), (so 0 1), (va_cpy (so 1) (sh 1) ((0 : Int32).toNatClampNeg) ((0 : Int32).toNatClampNeg) ((5 : Int32).toNatClampNeg)), (va_cpy (so 2) (sh 2) ((0 : Int32).toNatClampNeg) ((0 : Int32).toNatClampNeg) ((5 : Int32).toNatClampNeg)), (va_cpy (so 3) (sh 3) ((0 : Int32).toNatClampNeg) ((0 : Int32).toNatClampNeg) ((3 : Int32).toNatClampNeg)), (va_cpy (so 4) (sh 4) ((0 : Int32).toNatClampNeg) ((0 : Int32).toNatClampNeg) ((3 : Int32).toNatClampNeg)), (so 0 6), (so 0 7), (so 0 8), ((-9) : Int32), ((-9) : Int32), ((-9) : Int32), (so 0 12)) else ((so 0 0), (so 0 1), (va_cpy (so 1) (sh 1) ((0 : Int32).toNatClampNeg) ((0 : Int32).toNatClampNeg) ((5 : Int32).toNatClampNeg)), (va_cpy (so 2) (sh 2) ((0 : Int32).toNatClampNeg) ((0 : Int32).toNatClampNeg) ((5 : Int32).toNatClampNeg)), (va_cpy (so 3) (sh 3) ((0 : Int32).toNatClampNeg) ((0 : Int32).toNatClampNeg) ((3 : Int32).toNatClampNeg)), (va_cpy (so 4) (sh 4) ((0 : Int32).toNatClampNeg) ((0 : Int32).toNatClampNeg) ((3 : Int32).toNatClampNeg)), (so 0 6), (so 0 7), (so 0 8), ((-9) : Int32), ((-9) : Int32), ((-9) : Int32), (0 : Int32)) else if (p0 &&& (2 : Int32)) = 0 then if (p0 &&& (4 : Int32)) = 0 then if (p0 &&& (8 : Int32)) = 0 then if (p0 &&& (8 : Int32)) = 0 then ((so 0 0), (so 0 1), (va_cpy (so 1) (sh 1) ((0 : Int32).toNatClampNeg) ((0 : Int32).toNatClampNeg) ((5 : Int32).toNatClampNeg)), (va_cpy (so 2) (sh 2) ((0 : Int32).toNatClampNeg) ((0 : Int32).toNatClampNeg) ((5 : Int32).toNatClampNeg)), (va_cpy (so 3) (sh 3) ((0 : Int32).toNatClampNeg) ((0 : Int32).toNatClampNeg) ((3 : Int32).toNatClampNeg)), (va_cpy (so 4) (sh 4) ((0 : Int32).toNatClampNeg) ((0 : Int32).toNatClampNeg) ((3 : Int32).toNatClampNeg)), (so 0 6), (so 0 7), ((-9) : Int32), (so 0 9), (so 0 10), (so 0 11), (so 0 12)) else ((so 0 0), (so 0 1), (va_cpy (so 1) (sh 1) ((0 : Int32).toNatClampNeg) ((0 : Int32).toNatClampNeg) ((5 : Int32).toNatClampNeg)), (va_cpy (so 2) (sh 2) ((0 : Int32).toNatClampNeg) ((0 : Int32).toNatClampNeg) ((5 : Int32).toNatClampNeg)), (va_cpy (so 3) (sh 3) ((0 : Int32).toNatClampNeg) ((0 : Int32).toNatClampNeg) ((3 : Int32).toNatClampNeg)), (va_cpy (so 4) (sh 4) ((0 : Int32).toNatClampNeg) ((0 : Int32).toNatClampNeg) ((3 : Int32).toNatClampNeg)), (so 0 6), (so 0 7), ((-9) : Int32), (so 0 9), (so 0 10), (so 0 11), (0 : Int32)) else if (p0 &&& (8 : Int32)) = 0 then ((so 0 0), (so 0 1), (va_cpy (so 1) (sh 1) ((0 : Int32).toNatClampNeg) ((0 : Int32).toNatClampNeg) ((5 : Int32).toNatClampNeg)), (va_cpy (so 2) (sh 2) ((0 : Int32).toNatClampNeg) ((0 : Int32).toNatClampNeg) ((5 : Int32).toNatClampNeg)), (va_cpy (so 3) (sh 3) ((0 : Int32).toNatClampNeg) ((0 : Int32).toNatClampNeg) ((3 : Int32).toNatClampNeg)), (va_cpy (so 4) (sh 4) ((0 : Int32).toNatClampNeg) ((0 : Int32).toNatClampNeg) ((3 : Int32).toNatClampNeg)), (so 0 6), (so 0 7), ((-9) : Int32), (so 0 9), (so 0 10), ((-9) : Int32), (so 0 12)) else ((so 0 0), (so 0 1), (va_cpy (so 1) (sh 1) ((0 : Int32).toNatClampNeg) ((0 : Int32).toNatClampNeg) ((5 : Int32).toNatClampNeg)), (va_cpy (so 2) (sh 2) ((0 : Int32).toNatClampNeg) ((0 : Int32).toNatClampNeg) ((5 : Int32).toNatClampNeg)), (va_cpy (so 3) (sh 3) ((0 : Int32).toNatClampNeg) ((0 : Int32).toNatClampNeg) ((3 : Int32).toNatClampNeg)), (va_cpy (so 4) (sh 4) ((0 : Int32).toNatClampNeg) ((0 : Int32).toNatClampNeg) ((3 : Int32).toNatClampNeg)), (so 0 6), (so 0 7), ((-9) : Int32), (so 0 9), (so 0 10), ((-9) : Int32), (0 : Int32)) else if (p0 &&& (8 : Int32)) = 0 then if (p0 &&& (8 : Int32)) = 0 then ((so 0 0), (so 0 1), (va_cpy (so 1) (sh 1) ((0 : Int32).toNatClampNeg) ((0 : Int32).toNatClampNeg) ((5 : Int32).toNatClampNeg)), (va_cpy (so 2) (sh 2) ((0 : Int32).toNatClampNeg) ((0 : Int32).toNatClampNeg) ((5 : Int32).toNatClampNeg)), (va_cpy (so 3) (sh 3) ((0 : Int32).toNatClampNeg) ((0 : Int32).toNatClampNeg) ((3 : Int32).toNatClampNeg)), (va_cpy (so 4) (sh 4) ((0 : Int32).toNatClampNeg) ((0 : Int32).toNatClampNeg) ((3 : Int32).toNatClampNeg)), (so 0 6), (so 0 7), ((-9) : Int32), (so 0 9), ((-9) : Int32), (so 0 11), (so 0 12)) else ((so 0 0), (so 0 1), (va_cpy (so 1) (sh 1) ((0 : Int32).toNatClampNeg) ((0 : Int32).toNatClampNeg) ((5 : Int32).toNatClampNeg)), (va_cpy (so 2) (sh 2) ((0 : Int32).toNatClampNeg) ((0 : Int32).toNatClampNeg) ((5 : Int32).toNatClampNeg)), (va_cpy (so 3) (sh 3) ((0 : Int32).toNatClampNeg) ((0 : Int32).toNatClampNeg) ((3 : Int32).toNatClampNeg)), (va_cpy (so 4) (sh 4) ((0 : Int32).toNatClampNeg) ((0 : Int32).toNatClampNeg) ((3 : Int32).toNatClampNeg)), (so 0 6), (so 0 7), ((-9) : Int32), (so 0 9), ((-9) : Int32), (so 0 11), (0 : Int32)) else if (p0 &&& (8 : Int32)) = 0 then ((so 0 0), (so 0 1), (va_cpy (so 1) (sh 1) ((0 : Int32).toNatClampNeg) ((0 : Int32).toNatClampNeg) ((5 : Int32).toNatClampNeg)), (va_cpy (so 2) (sh 2) ((0 : Int32).toNatClampNeg) ((0 : Int32).toNatClampNeg) ((5 : Int32).toNatClampNeg)), (va_cpy (so 3) (sh 3) ((0 : Int32).toNatClampNeg) ((0 : Int32).toNatClampNeg) ((3 : Int32).toNatClampNeg)), (va_cpy (so 4) (sh 4) ((0 : Int32).toNatClampNeg) ((0 : Int32).toNatClampNeg) ((3 : Int32).toNatClampNeg)), (so 0 6), (so 0 7), ((-9) : Int32), (so 0 9), ((-9) : Int32), ((-9) : Int32), (so 0 12)) else ((so 0 0), (so 0 1), (va_cpy (so 1) (sh 1) ((0 : Int32).toNatClampNeg) ((0 : Int32).toNatClampNeg) ((5 : Int32).toNatClampNeg)), (va_cpy (so 2) (sh 2) ((0 : Int32).toNatClampNeg) ((0 : Int32).toNatClampNeg) ((5 : Int32).toNatClampNeg)), (va_cpy (so 3) (sh 3) ((0 : Int32).toNatClampNeg) ((0 : Int32).toNatClampNeg) ((3 : Int32).toNatClampNeg)), (va_cpy (so 4) (sh 4) ((0 : Int32).toNatClampNeg) ((0 : Int32).toNatClampNeg) ((3 : Int32).toNatClampNeg)), (so 0 6), (so 0 7), ((-9) : Int32), (so 0 9), ((-9) : Int32), ((-9) : Int32), (0 : Int32)) else if (p0 &&& (4 : Int32)) = 0 then if (p0 &&& (8 : Int32)) = 0 then if (p0 &&& (8 : Int32)) = 0 then ((so 0 0), (so 0 1), (va_cpy (so 1) (sh 1) ((0 : Int32).toNatClampNeg) ((0 : Int32).toNatClampNeg) ((5 : Int32).toNatClampNeg)), (va_cpy (so 2) (sh 2) ((0 : Int32).toNatClampNeg) ((0 : Int32).toNatClampNeg) ((5 : Int32).toNatClampNeg)), (va_cpy (so 3) (sh 3) ((0 : Int32).toNatClampNeg) ((0 : Int32).toNatClampNeg) ((3 : Int32).toNatClampNeg)), (va_cpy (so 4) (sh 4) ((0 : Int32).toNatClampNeg) ((0 : Int32).toNatClampNeg) ((3 : Int32).toNatClampNeg)), (so 0 6), (so 0 7), ((-9) : Int32), ((-9) : Int32), (so 0 10), (so 0 11), (so 0 12)) else ((so 0 0), (so 0 1), (va_cpy (so 1) (sh 1) ((0 : Int32).toNatClampNeg) ((0 : Int32).toNatClampNeg) ((5 : Int32).toNatClampNeg)), (va_cpy (so 2) (sh 2) ((0 : Int32).toNatClampNeg) ((0 : Int32).toNatClampNeg) ((5 : Int32).toNatClampNeg)), (va_cpy (so 3) (sh 3) ((0 : Int32).toNatClampNeg) ((0 : Int32).toNatClampNeg) ((3 : Int32).toNatClampNeg)), (va_cpy (so 4) (sh 4) ((0 : Int32).toNatClampNeg) ((0 : Int32).toNatClampNeg) ((3 : Int32).toNatClampNeg)), (so 0 6), (so 0 7), ((-9) : Int32), ((-9) : Int32), (so 0 10), (so 0 11), (0 : Int32)) else if (p0 &&& (8 : Int32)) = 0 then ((so 0 0), (so 0 1), (va_cpy (so 1) (sh 1) ((0 : Int32).toNatClampNeg) ((0 : Int32).toNatClampNeg) ((5 : Int32).toNatClampNeg)), (va_cpy (so 2) (sh 2) ((0 : Int32).toNatClampNeg) ((0 : Int32).toNatClampNeg) ((5 : Int32).toNatClampNeg)), (va_cpy (so 3) (sh 3) ((0 : Int32).toNatClampNeg) ((0 : Int32).toNatClampNeg) ((3 : Int32).toNatClampNeg)), (va_cpy (so 4) (sh 4) ((0 : Int32).toNatClampNeg) ((0 : Int32).toNatClampNeg) ((3 : Int32).toNatClampNeg)), (so 0 6), (so 0 7), ((-9) : Int32), ((-9) : Int32), (so 0 10), ((-9) : Int32), (so 0 12)) else ((so 0 0), (so 0 1), (va_cpy (so 1) (sh 1) ((0 : Int32).toNatClampNeg) ((0 : Int32).toNatClampNeg) ((5 : Int32).toNatClampNeg)), (va_cpy (so 2) (sh 2) ((0 : Int32).toNatClampNeg) ((0 : Int32).toNatClampNeg) ((5 : Int32).toNatClampNeg)), (va_cpy (so 3) (sh 3) ((0 : Int32).toNatClampNeg) ((0 : Int32).toNatClampNeg) ((3 : Int32).toNatClampNeg)), (va_cpy (so 4) (sh 4) ((0 : Int32).toNatClampNeg) ((0 : Int32).toNatClampNeg) ((3 : Int32).toNatClampNeg)), (so 0 6), (so 0 7), ((-9) : Int32), ((-9) : Int32), (so 0 10), ((-9) : Int32), (0 : Int32)) else if (p0 &&& (8 : Int32)) = 0 then if (p0 &&& (8 : Int32)) = 0 then ((so 0 0), (so 0 1), (va_cpy (so 1) (sh 1) ((0 : Int32).toNatClampNeg) ((0 : Int32).toNatClampNeg) ((5 : Int32).toNatClampNeg)), (va_cpy (so 2) (sh 2) ((0 : Int32).toNatClampNeg) ((0 : Int32).toNatClampNeg) ((5 : Int32).toNatClampNeg)), (va_cpy (so 3) (sh 3) ((0 : Int32).toNatClampNeg) ((0 : Int32).toNatClampNeg) ((3 : Int32).toNatClampNeg)), (va_cpy (so 4) (sh 4) ((0 : Int32).toNatClampNeg) ((0 : Int32).toNatClampNeg) ((3 : Int32).toNatClampNeg)), (so 0 6), (so 0 7), ((-9) : Int32), ((-9) : Int32), ((-9) : Int32), (so 0 11), (so 0 12)) else ((so 0 0), (so 0 1), (va_cpy (so 1) (sh 1) ((0 : Int32).toNatClampNeg) ((0 : Int32).toNatClampNeg) ((5 : Int32).toNatClampNeg)), (va_cpy (so 2) (sh 2) ((0 : Int32).toNatClampNeg) ((0 : Int32).toNatClampNeg) ((5 : Int32).toNatClampNeg)), (va_cpy (so 3) (sh 3) ((0 : Int32).toNatClampNeg) ((0 : Int32).toNatClampNeg) ((3 : Int32).toNatClampNeg)), (va_cpy (so 4) (sh 4) ((0 : Int32).toNatClampNeg) ((0 : Int32).toNatClampNeg) ((3 : Int32).toNatClampNeg)), (so 0 6), (so 0 7), ((-9) : Int32), ((-9) : Int32), ((-9) : Int32), (so 0 11), (0 : Int32)) else if (p0 &&& (8 : Int32)) = 0 then ((so 0 0), (so 0 1), (va_cpy (so 1) (sh 1) ((0 : Int32).toNatClampNeg) ((0 : Int32).toNatClampNeg) ((5 : Int32).toNatClampNeg)), (va_cpy (so 2) (sh 2) ((0 : Int32).toNatClampNeg) ((0 : Int32).toNatClampNeg) ((5 : Int32).toNatClampNeg)), (va_cpy (so 3) (sh 3) ((0 : Int32).toNatClampNeg) ((0 : Int32).toNatClampNeg) ((3 : Int32).toNatClampNeg)), (va_cpy (so 4) (sh 4) ((0 : Int32).toNatClampNeg) ((0 : Int32).toNatClampNeg) ((3 : Int32).toNatClampNeg)), (so 0 6), (so 0 7), ((-9) : Int32), ((-9) : Int32), ((-9) : Int32), ((-9) : Int32), (so 0 12)) else ((so 0 0), (so 0 1), (va_cpy (so 1) (sh 1) ((0 : Int32).toNatClampNeg) ((0 : Int32).toNatClampNeg) ((5 : Int32).toNatClampNeg)), (va_cpy (so 2) (sh 2) ((0 : Int32).toNatClampNeg) ((0 : Int32).toNatClampNeg) ((5 : Int32).toNatClampNeg)), (va_cpy (so 3) (sh 3) ((0 : Int32).toNatClampNeg) ((0 : Int32).toNatClampNeg) ((3 : Int32).toNatClampNeg)), (va_cpy (so 4) (sh 4) ((0 : Int32).toNatClampNeg) ((0 : Int32).toNatClampNeg) ((3 : Int32).toNatClampNeg)), (so 0 6), (so 0 7), ((-9) : Int32), ((-9) : Int32), ((-9) : Int32), ((-9) : Int32), (0 : Int32))
set_option maxHeartbeats 4000000 in
set_option maxRecDepth 100000 in
theorem c_X4_copy (l : Launch) (D : va_G) (k : Nat → ClassId) (b : Nat → Nat) (qh : Nat → Nat) (sh : Nat → Nat → Int32) (qo : Nat → Nat) (so : Nat → Nat → Int32) (sz : Nat) (p0 : Int32) (h_wk : 0 ≤ (so 0 0).toInt ∧ (so 0 0).toInt ≤ 5) (h_hk : 0 ≤ (so 0 1).toInt ∧ (so 0 1).toInt ≤ 4) (h_fl : 0 ≤ (so 0 12).toInt ∧ (so 0 12).toInt ≤ 5) (h_of : ∀ j, 0 ≤ (so 2 j).toInt ∧ (so 2 j).toInt ≤ 4) (h_go : ∀ j, 0 ≤ (so 3 j).toInt ∧ (so 3 j).toInt ≤ 5) (g_of : ∀ j, 0 ≤ (sh 2 j).toInt ∧ (sh 2 j).toInt ≤ 4) (g_go : ∀ j, 0 ≤ (sh 3 j).toInt ∧ (sh 3 j).toInt ≤ 5) : MetV l D k b yX4_copy wsX4_copy ({ frames := 4, cells := 0, slots := 0, locals := 96 } : Room) [cell32_ qh sh, cell0_ k qh sh, cell1_ k qh sh, cell4_ k qh sh, cell3_ k qh sh, cell2_ k qh sh, cell32_ qo so, cell0_ k qo so, cell1_ k qo so, cell4_ k qo so, cell3_ k qo so, cell2_ k qo so] sz [.ref (qh 0), .ref (qo 0), .int p0] (fun (u : Int32 × Int32 × (Nat → Int32) × (Nat → Int32) × (Nat → Int32) × (Nat → Int32) × Int32 × Int32 × Int32 × Int32 × Int32 × Int32 × Int32 × (Nat → Int32)) => (0 ≤ (u.1).toInt ∧ (u.1).toInt ≤ 5) ∧ (0 ≤ (u.2.1).toInt ∧ (u.2.1).toInt ≤ 4) ∧ (0 ≤ (u.2.2.2.2.2.2.2.2.2.2.2.2.1).toInt ∧ (u.2.2.2.2.2.2.2.2.2.2.2.2.1).toInt ≤ 5) ∧ (∀ j, 0 ≤ ((u.2.2.2.1) j).toInt ∧ ((u.2.2.2.1) j).toInt ≤ 4) ∧ (∀ j, 0 ≤ ((u.2.2.2.2.1) j).toInt ∧ ((u.2.2.2.2.1) j).toInt ≤ 5) ∧ (SUok (u.2.2.2.2.2.2.2.2.2.2.2.2.2)) ∧ ((u.1).toInt = (so 0 0).toInt) ∧ (((u.1), (u.2.1), (u.2.2.1), (u.2.2.2.1), (u.2.2.2.2.1), (u.2.2.2.2.2.1), (u.2.2.2.2.2.2.1), (u.2.2.2.2.2.2.2.1), (u.2.2.2.2.2.2.2.2.1), (u.2.2.2.2.2.2.2.2.2.1), (u.2.2.2.2.2.2.2.2.2.2.1), (u.2.2.2.2.2.2.2.2.2.2.2.1), (u.2.2.2.2.2.2.2.2.2.2.2.2.1)) = J_X4_copy sh so p0)) (fun u => [cell114_ qh (u.1) (u.2.1) (u.2.2.2.2.2.2.1) (u.2.2.2.2.2.2.2.1) (u.2.2.2.2.2.2.2.2.1) (u.2.2.2.2.2.2.2.2.2.1) (u.2.2.2.2.2.2.2.2.2.2.1) (u.2.2.2.2.2.2.2.2.2.2.2.1) (u.2.2.2.2.2.2.2.2.2.2.2.2.1), cell86_ k qh (u.2.2.1), cell97_ k qh (u.2.2.2.1), cell102_ k qh (u.2.2.2.2.1), cell103_ k qh (u.2.2.2.2.2.1), cell165_ k qh (u.2.2.2.2.2.2.2.2.2.2.2.2.2), cell32_ qo so, cell0_ k qo so, cell1_ k qo so, cell4_ k qo so, cell3_ k qo so, cell2_ k qo so]) := by
  refine g_enter (cc := cX4_copy) (maxL := 3) (ret := none) (by decide) rfl (Nat.le_of_ble_eq_true rfl) ?_
  intro p e s m below meth c A hsz hAe cx hr hP hD hS ls hl
  rw [hAe]
  refine g_q (fun Q hQ => ?_)
  have hx := cx.1.1
  have hb := cx.1.2.1
  have bp0 := i_rng p0
  have hl : lv_has ls 3 [(0, .ref (qh 0)), (1, .ref (qo 0)), (2, .int p0)] := hl
  obtain ⟨H, eH⟩ : ∃ H : Heap, H = s.heap := ⟨_, rfl⟩
  obtain ⟨locs, el⟩ : ∃ L : List Loc, L = [] := ⟨_, rfl⟩
  have hP : va_P D vwCl [cell32_ qh sh, cell0_ k qh sh, cell1_ k qh sh, cell4_ k qh sh, cell3_ k qh sh, cell2_ k qh sh, cell32_ qo so, cell0_ k qo so, cell1_ k qo so, cell4_ k qo so, cell3_ k qo so, cell2_ k qo so] H := by rw [eH]; exact hP
  have hD : va_D A [cell32_ qh sh, cell0_ k qh sh, cell1_ k qh sh, cell4_ k qh sh, cell3_ k qh sh, cell2_ k qh sh, cell32_ qo so, cell0_ k qo so, cell1_ k qo so, cell4_ k qo so, cell3_ k qo so, cell2_ k qo so] := hD
  have hS : va_S A s.heap H locs := by rw [eH, el]; exact hS
  suffices goal : W p l e ({ frames := 4, cells := 0, slots := 0, locals := 96 } : Room) s m ([.ref (qh 0), .ref (qo 0), .int p0] : List Value).toArray below meth c H locs 0 0 Q (F0 m 0 ls []) by rw [eH, el] at goal; exact goal
  refine lv_aload_n hx hb dX4_copy_0 rfl (lv_at hl 0 rfl) ?_
  refine lv_aload_n hx hb dX4_copy_1 rfl (lv_at hl 1 rfl) ?_
  refine g_get cx hP iw_X4_copy_X4 6 rfl rfl 0 (by decide) rfl fw_X4_copy_32 rfl dX4_copy_2 ?_
  refine g_pt cx hP hD hS iw_X4_copy_X4 tyX4 tyX4_ok nmX4 0 rfl rfl 0 (by decide) rfl fw_X4_copy_32 (ty := .int) rfl rfl rfl (Nat.le_of_ble_eq_true rfl) dX4_copy_5 (fun H locs hP hD hS => ?_)
  have hP : va_P D vwCl [(qh 0, .inr (2, [.int (so 0 0), .int (sh 0 1), .ref (qh 1), .ref (qh 2), .ref (qh 3), .ref (qh 4), .int (sh 0 6), .int (sh 0 7), .int (sh 0 8), .int (sh 0 9), .int (sh 0 10), .int (sh 0 11), .int (sh 0 12), .ref (qh 5)])), cell0_ k qh sh, cell1_ k qh sh, cell4_ k qh sh, cell3_ k qh sh, cell2_ k qh sh, cell32_ qo so, cell0_ k qo so, cell1_ k qo so, cell4_ k qo so, cell3_ k qo so, cell2_ k qo so] H := hP
  have hD : va_D A [(qh 0, .inr (2, [.int (so 0 0), .int (sh 0 1), .ref (qh 1), .ref (qh 2), .ref (qh 3), .ref (qh 4), .int (sh 0 6), .int (sh 0 7), .int (sh 0 8), .int (sh 0 9), .int (sh 0 10), .int (sh 0 11), .int (sh 0 12), .ref (qh 5)])), cell0_ k qh sh, cell1_ k qh sh, cell4_ k qh sh, cell3_ k qh sh, cell2_ k qh sh, cell32_ qo so, cell0_ k qo so, cell1_ k qo so, cell4_ k qo so, cell3_ k qo so, cell2_ k qo so] := hD
  refine lv_aload_n hx hb dX4_copy_8 rfl (lv_at hl 0 rfl) ?_
  refine lv_aload_n hx hb dX4_copy_9 rfl (lv_at hl 1 rfl) ?_
  refine g_get cx hP iw_X4_copy_X4 6 rfl rfl 1 (by decide) rfl fw_X4_copy_36 rfl dX4_copy_10 ?_
  refine g_pt cx hP hD hS iw_X4_copy_X4 tyX4 tyX4_ok nmX4 0 rfl rfl 1 (by decide) rfl fw_X4_copy_36 (ty := .int) rfl rfl rfl (Nat.le_of_ble_eq_true rfl) dX4_copy_13 (fun H locs hP hD hS => ?_)
  have hP : va_P D vwCl [cell150_ qh so sh, cell0_ k qh sh, cell1_ k qh sh, cell4_ k qh sh, cell3_ k qh sh, cell2_ k qh sh, cell32_ qo so, cell0_ k qo so, cell1_ k qo so, cell4_ k qo so, cell3_ k qo so, cell2_ k qo so] H := hP
  have hD : va_D A [cell150_ qh so sh, cell0_ k qh sh, cell1_ k qh sh, cell4_ k qh sh, cell3_ k qh sh, cell2_ k qh sh, cell32_ qo so, cell0_ k qo so, cell1_ k qo so, cell4_ k qo so, cell3_ k qo so, cell2_ k qo so] := hD
  refine lv_aload_n hx hb dX4_copy_16 rfl (lv_at hl 1 rfl) ?_
  refine g_get cx hP iw_X4_copy_X4 6 rfl rfl 2 (by decide) rfl fw_X4_copy_9 rfl dX4_copy_17 ?_
  refine lv_iconst (v := 0) hx hb dX4_copy_20 (by decide) ?_
  refine lv_aload_n hx hb dX4_copy_21 rfl (lv_at hl 0 rfl) ?_
  refine g_get cx hP iw_X4_copy_X4 0 rfl rfl 2 (by decide) rfl fw_X4_copy_9 rfl dX4_copy_22 ?_
  refine lv_iconst (v := 0) hx hb dX4_copy_25 (by decide) ?_
  refine lv_iconst (v := 5) hx hb dX4_copy_26 (by decide) ?_
  refine va_copyi hx hb (cx.1.2.2.1.trans hl.1.symm) cx.1.2.2.2.1 (cx.1.2.2.2.2 _ cw_X4_copy_L) (cx.1.2.2.2.2 _ cw_X4_copy_N) (cx.1.2.2.2.2 _ cw_X4_copy_S) (cx.1.2.2.2.2 _ cw_X4_copy_I) cx.2.1 hP hD hS 7 1 0 0 rfl rfl rfl rfl rfl (by decide) (by decide) (by decide) (by decide) (by decide) (fun _ _ => rfl) (Nat.le_of_ble_eq_true rfl) (Nat.le_of_ble_eq_true rfl) dX4_copy_27 (fun H locs hP hD hS => ?_)
  obtain ⟨g1, eg1⟩ : ∃ g : Nat → Int32, g = va_cpy (so 1) (sh 1) ((0 : Int32).toNatClampNeg) ((0 : Int32).toNatClampNeg) ((5 : Int32).toNatClampNeg) := ⟨_, rfl⟩
  rw [← eg1] at hP hD
  have hP : va_P D vwCl [cell150_ qh so sh, (qh 1, .inl (k 0, 5, .inl g1)), cell1_ k qh sh, cell4_ k qh sh, cell3_ k qh sh, cell2_ k qh sh, cell32_ qo so, cell0_ k qo so, cell1_ k qo so, cell4_ k qo so, cell3_ k qo so, cell2_ k qo so] H := hP
  have hD : va_D A [cell150_ qh so sh, (qh 1, .inl (k 0, 5, .inl g1)), cell1_ k qh sh, cell4_ k qh sh, cell3_ k qh sh, cell2_ k qh sh, cell32_ qo so, cell0_ k qo so, cell1_ k qo so, cell4_ k qo so, cell3_ k qo so, cell2_ k qo so] := hD
  refine lv_aload_n hx hb dX4_copy_30 rfl (lv_at hl 1 rfl) ?_
  refine g_get cx hP iw_X4_copy_X4 6 rfl rfl 3 (by decide) rfl fw_X4_copy_15 rfl dX4_copy_31 ?_
  refine lv_iconst (v := 0) hx hb dX4_copy_34 (by decide) ?_
  refine lv_aload_n hx hb dX4_copy_35 rfl (lv_at hl 0 rfl) ?_
  refine g_get cx hP iw_X4_copy_X4 0 rfl rfl 3 (by decide) rfl fw_X4_copy_15 rfl dX4_copy_36 ?_
  refine lv_iconst (v := 0) hx hb dX4_copy_39 (by decide) ?_
  refine lv_iconst (v := 5) hx hb dX4_copy_40 (by decide) ?_
  refine va_copyi hx hb (cx.1.2.2.1.trans hl.1.symm) cx.1.2.2.2.1 (cx.1.2.2.2.2 _ cw_X4_copy_L) (cx.1.2.2.2.2 _ cw_X4_copy_N) (cx.1.2.2.2.2 _ cw_X4_copy_S) (cx.1.2.2.2.2 _ cw_X4_copy_I) cx.2.1 hP hD hS 8 2 0 0 rfl rfl rfl rfl rfl (by decide) (by decide) (by decide) (by decide) (by decide) (fun _ _ => rfl) (Nat.le_of_ble_eq_true rfl) (Nat.le_of_ble_eq_true rfl) dX4_copy_41 (fun H locs hP hD hS => ?_)
  obtain ⟨g2, eg2⟩ : ∃ g : Nat → Int32, g = va_cpy (so 2) (sh 2) ((0 : Int32).toNatClampNeg) ((0 : Int32).toNatClampNeg) ((5 : Int32).toNatClampNeg) := ⟨_, rfl⟩
  rw [← eg2] at hP hD
  have hP : va_P D vwCl [cell150_ qh so sh, (qh 1, .inl (k 0, 5, .inl g1)), (qh 2, .inl (k 0, 5, .inl g2)), cell4_ k qh sh, cell3_ k qh sh, cell2_ k qh sh, cell32_ qo so, cell0_ k qo so, cell1_ k qo so, cell4_ k qo so, cell3_ k qo so, cell2_ k qo so] H := hP
  have hD : va_D A [cell150_ qh so sh, (qh 1, .inl (k 0, 5, .inl g1)), (qh 2, .inl (k 0, 5, .inl g2)), cell4_ k qh sh, cell3_ k qh sh, cell2_ k qh sh, cell32_ qo so, cell0_ k qo so, cell1_ k qo so, cell4_ k qo so, cell3_ k qo so, cell2_ k qo so] := hD
  have ag2 := cpy_all eg2 h_of g_of
  refine lv_aload_n hx hb dX4_copy_44 rfl (lv_at hl 1 rfl) ?_
  refine g_get cx hP iw_X4_copy_X4 6 rfl rfl 4 (by decide) rfl fw_X4_copy_18 rfl dX4_copy_45 ?_
  refine lv_iconst (v := 0) hx hb dX4_copy_48 (by decide) ?_
  refine lv_aload_n hx hb dX4_copy_49 rfl (lv_at hl 0 rfl) ?_
  refine g_get cx hP iw_X4_copy_X4 0 rfl rfl 4 (by decide) rfl fw_X4_copy_18 rfl dX4_copy_50 ?_
  refine lv_iconst (v := 0) hx hb dX4_copy_53 (by decide) ?_
  refine lv_iconst (v := 3) hx hb dX4_copy_54 (by decide) ?_
  refine va_copyi hx hb (cx.1.2.2.1.trans hl.1.symm) cx.1.2.2.2.1 (cx.1.2.2.2.2 _ cw_X4_copy_L) (cx.1.2.2.2.2 _ cw_X4_copy_N) (cx.1.2.2.2.2 _ cw_X4_copy_S) (cx.1.2.2.2.2 _ cw_X4_copy_I) cx.2.1 hP hD hS 9 3 0 0 rfl rfl rfl rfl rfl (by decide) (by decide) (by decide) (by decide) (by decide) (fun _ _ => rfl) (Nat.le_of_ble_eq_true rfl) (Nat.le_of_ble_eq_true rfl) dX4_copy_55 (fun H locs hP hD hS => ?_)
  obtain ⟨g3, eg3⟩ : ∃ g : Nat → Int32, g = va_cpy (so 3) (sh 3) ((0 : Int32).toNatClampNeg) ((0 : Int32).toNatClampNeg) ((3 : Int32).toNatClampNeg) := ⟨_, rfl⟩
  rw [← eg3] at hP hD
  have hP : va_P D vwCl [cell150_ qh so sh, (qh 1, .inl (k 0, 5, .inl g1)), (qh 2, .inl (k 0, 5, .inl g2)), (qh 3, .inl (k 0, 3, .inl g3)), cell3_ k qh sh, cell2_ k qh sh, cell32_ qo so, cell0_ k qo so, cell1_ k qo so, cell4_ k qo so, cell3_ k qo so, cell2_ k qo so] H := hP
  have hD : va_D A [cell150_ qh so sh, (qh 1, .inl (k 0, 5, .inl g1)), (qh 2, .inl (k 0, 5, .inl g2)), (qh 3, .inl (k 0, 3, .inl g3)), cell3_ k qh sh, cell2_ k qh sh, cell32_ qo so, cell0_ k qo so, cell1_ k qo so, cell4_ k qo so, cell3_ k qo so, cell2_ k qo so] := hD
  have ag3 := cpy_all eg3 h_go g_go
  refine lv_aload_n hx hb dX4_copy_58 rfl (lv_at hl 1 rfl) ?_
  refine g_get cx hP iw_X4_copy_X4 6 rfl rfl 5 (by decide) rfl fw_X4_copy_21 rfl dX4_copy_59 ?_
  refine lv_iconst (v := 0) hx hb dX4_copy_62 (by decide) ?_
  refine lv_aload_n hx hb dX4_copy_63 rfl (lv_at hl 0 rfl) ?_
  refine g_get cx hP iw_X4_copy_X4 0 rfl rfl 5 (by decide) rfl fw_X4_copy_21 rfl dX4_copy_64 ?_
  refine lv_iconst (v := 0) hx hb dX4_copy_67 (by decide) ?_
  refine lv_iconst (v := 3) hx hb dX4_copy_68 (by decide) ?_
  refine va_copyi hx hb (cx.1.2.2.1.trans hl.1.symm) cx.1.2.2.2.1 (cx.1.2.2.2.2 _ cw_X4_copy_L) (cx.1.2.2.2.2 _ cw_X4_copy_N) (cx.1.2.2.2.2 _ cw_X4_copy_S) (cx.1.2.2.2.2 _ cw_X4_copy_I) cx.2.1 hP hD hS 10 4 0 0 rfl rfl rfl rfl rfl (by decide) (by decide) (by decide) (by decide) (by decide) (fun _ _ => rfl) (Nat.le_of_ble_eq_true rfl) (Nat.le_of_ble_eq_true rfl) dX4_copy_69 (fun H locs hP hD hS => ?_)
  obtain ⟨g4, eg4⟩ : ∃ g : Nat → Int32, g = va_cpy (so 4) (sh 4) ((0 : Int32).toNatClampNeg) ((0 : Int32).toNatClampNeg) ((3 : Int32).toNatClampNeg) := ⟨_, rfl⟩
  rw [← eg4] at hP hD
  have hP : va_P D vwCl [cell150_ qh so sh, (qh 1, .inl (k 0, 5, .inl g1)), (qh 2, .inl (k 0, 5, .inl g2)), (qh 3, .inl (k 0, 3, .inl g3)), (qh 4, .inl (k 0, 3, .inl g4)), cell2_ k qh sh, cell32_ qo so, cell0_ k qo so, cell1_ k qo so, cell4_ k qo so, cell3_ k qo so, cell2_ k qo so] H := hP
  have hD : va_D A [cell150_ qh so sh, (qh 1, .inl (k 0, 5, .inl g1)), (qh 2, .inl (k 0, 5, .inl g2)), (qh 3, .inl (k 0, 3, .inl g3)), (qh 4, .inl (k 0, 3, .inl g4)), cell2_ k qh sh, cell32_ qo so, cell0_ k qo so, cell1_ k qo so, cell4_ k qo so, cell3_ k qo so, cell2_ k qo so] := hD
  refine lv_aload_n hx hb dX4_copy_72 rfl (lv_at hl 0 rfl) ?_
  refine lv_aload_n hx hb dX4_copy_73 rfl (lv_at hl 1 rfl) ?_
  refine g_get cx hP iw_X4_copy_X4 6 rfl rfl 6 (by decide) rfl fw_X4_copy_45 rfl dX4_copy_74 ?_
  refine g_pt cx hP hD hS iw_X4_copy_X4 tyX4 tyX4_ok nmX4 0 rfl rfl 6 (by decide) rfl fw_X4_copy_45 (ty := .int) rfl rfl rfl (Nat.le_of_ble_eq_true rfl) dX4_copy_77 (fun H locs hP hD hS => ?_)
  have hP : va_P D vwCl [(qh 0, .inr (2, [.int (so 0 0), .int (so 0 1), .ref (qh 1), .ref (qh 2), .ref (qh 3), .ref (qh 4), .int (so 0 6), .int (sh 0 7), .int (sh 0 8), .int (sh 0 9), .int (sh 0 10), .int (sh 0 11), .int (sh 0 12), .ref (qh 5)])), (qh 1, .inl (k 0, 5, .inl g1)), (qh 2, .inl (k 0, 5, .inl g2)), (qh 3, .inl (k 0, 3, .inl g3)), (qh 4, .inl (k 0, 3, .inl g4)), cell2_ k qh sh, cell32_ qo so, cell0_ k qo so, cell1_ k qo so, cell4_ k qo so, cell3_ k qo so, cell2_ k qo so] H := hP
  have hD : va_D A [(qh 0, .inr (2, [.int (so 0 0), .int (so 0 1), .ref (qh 1), .ref (qh 2), .ref (qh 3), .ref (qh 4), .int (so 0 6), .int (sh 0 7), .int (sh 0 8), .int (sh 0 9), .int (sh 0 10), .int (sh 0 11), .int (sh 0 12), .ref (qh 5)])), (qh 1, .inl (k 0, 5, .inl g1)), (qh 2, .inl (k 0, 5, .inl g2)), (qh 3, .inl (k 0, 3, .inl g3)), (qh 4, .inl (k 0, 3, .inl g4)), cell2_ k qh sh, cell32_ qo so, cell0_ k qo so, cell1_ k qo so, cell4_ k qo so, cell3_ k qo so, cell2_ k qo so] := hD
  refine lv_aload_n hx hb dX4_copy_80 rfl (lv_at hl 0 rfl) ?_
  refine lv_aload_n hx hb dX4_copy_81 rfl (lv_at hl 1 rfl) ?_
  refine g_get cx hP iw_X4_copy_X4 6 rfl rfl 7 (by decide) rfl fw_X4_copy_48 rfl dX4_copy_82 ?_
  refine g_pt cx hP hD hS iw_X4_copy_X4 tyX4 tyX4_ok nmX4 0 rfl rfl 7 (by decide) rfl fw_X4_copy_48 (ty := .int) rfl rfl rfl (Nat.le_of_ble_eq_true rfl) dX4_copy_85 (fun H locs hP hD hS => ?_)
  have hP : va_P D vwCl [(qh 0, .inr (2, [.int (so 0 0), .int (so 0 1), .ref (qh 1), .ref (qh 2), .ref (qh 3), .ref (qh 4), .int (so 0 6), .int (so 0 7), .int (sh 0 8), .int (sh 0 9), .int (sh 0 10), .int (sh 0 11), .int (sh 0 12), .ref (qh 5)])), (qh 1, .inl (k 0, 5, .inl g1)), (qh 2, .inl (k 0, 5, .inl g2)), (qh 3, .inl (k 0, 3, .inl g3)), (qh 4, .inl (k 0, 3, .inl g4)), cell2_ k qh sh, cell32_ qo so, cell0_ k qo so, cell1_ k qo so, cell4_ k qo so, cell3_ k qo so, cell2_ k qo so] H := hP
  have hD : va_D A [(qh 0, .inr (2, [.int (so 0 0), .int (so 0 1), .ref (qh 1), .ref (qh 2), .ref (qh 3), .ref (qh 4), .int (so 0 6), .int (so 0 7), .int (sh 0 8), .int (sh 0 9), .int (sh 0 10), .int (sh 0 11), .int (sh 0 12), .ref (qh 5)])), (qh 1, .inl (k 0, 5, .inl g1)), (qh 2, .inl (k 0, 5, .inl g2)), (qh 3, .inl (k 0, 3, .inl g3)), (qh 4, .inl (k 0, 3, .inl g4)), cell2_ k qh sh, cell32_ qo so, cell0_ k qo so, cell1_ k qo so, cell4_ k qo so, cell3_ k qo so, cell2_ k qo so] := hD
  refine lv_aload_n hx hb dX4_copy_88 rfl (lv_at hl 0 rfl) ?_
  refine lv_iload_n hx hb dX4_copy_89 rfl (lv_at hl 2 rfl) ?_
  refine lv_iconst (v := 1) hx hb dX4_copy_90 (by decide) ?_
  refine lv_iand hx hb dX4_copy_91 (lv_topi (fun v5 e5 => ?_))
  have t5 : 0 ≤ v5.toInt ∧ v5.toInt ≤ 1 := by rw [e5]; exact and_r (by decide) (by omega)
  refine lv_if_eq (tgt := 100) hx hb dX4_copy_92 (by decide) (fun c6 => ?_) (fun c6 => ?_)
  · have f6 : v5.toInt = 0 := f_eq rfl (by decide) c6
    refine lv_aload_n hx hb dX4_copy_100 rfl (lv_at hl 1 rfl) ?_
    refine g_get cx hP iw_X4_copy_X4 6 rfl rfl 8 (by decide) rfl fw_X4_copy_51 rfl dX4_copy_101 ?_
    refine g_pt cx hP hD hS iw_X4_copy_X4 tyX4 tyX4_ok nmX4 0 rfl rfl 8 (by decide) rfl fw_X4_copy_51 (ty := .int) rfl rfl rfl (Nat.le_of_ble_eq_true rfl) dX4_copy_104 (fun H locs hP hD hS => ?_)
    have hP : va_P D vwCl [(qh 0, .inr (2, [.int (so 0 0), .int (so 0 1), .ref (qh 1), .ref (qh 2), .ref (qh 3), .ref (qh 4), .int (so 0 6), .int (so 0 7), .int (so 0 8), .int (sh 0 9), .int (sh 0 10), .int (sh 0 11), .int (sh 0 12), .ref (qh 5)])), (qh 1, .inl (k 0, 5, .inl g1)), (qh 2, .inl (k 0, 5, .inl g2)), (qh 3, .inl (k 0, 3, .inl g3)), (qh 4, .inl (k 0, 3, .inl g4)), cell2_ k qh sh, cell32_ qo so, cell0_ k qo so, cell1_ k qo so, cell4_ k qo so, cell3_ k qo so, cell2_ k qo so] H := hP
    have hD : va_D A [(qh 0, .inr (2, [.int (so 0 0), .int (so 0 1), .ref (qh 1), .ref (qh 2), .ref (qh 3), .ref (qh 4), .int (so 0 6), .int (so 0 7), .int (so 0 8), .int (sh 0 9), .int (sh 0 10), .int (sh 0 11), .int (sh 0 12), .ref (qh 5)])), (qh 1, .inl (k 0, 5, .inl g1)), (qh 2, .inl (k 0, 5, .inl g2)), (qh 3, .inl (k 0, 3, .inl g3)), (qh 4, .inl (k 0, 3, .inl g4)), cell2_ k qh sh, cell32_ qo so, cell0_ k qo so, cell1_ k qo so, cell4_ k qo so, cell3_ k qo so, cell2_ k qo so] := hD
    refine lv_aload_n hx hb dX4_copy_107 rfl (lv_at hl 0 rfl) ?_
    refine lv_iload_n hx hb dX4_copy_108 rfl (lv_at hl 2 rfl) ?_
    refine lv_iconst (v := 2) hx hb dX4_copy_109 (by decide) ?_
    refine lv_iand hx hb dX4_copy_110 (lv_topi (fun v7 e7 => ?_))
    have t7 : 0 ≤ v7.toInt ∧ v7.toInt ≤ 2 := by rw [e7]; exact and_r (by decide) (by omega)
    refine lv_if_eq (tgt := 119) hx hb dX4_copy_111 (by decide) (fun c8 => ?_) (fun c8 => ?_)
    · have f8 : v7.toInt = 0 := f_eq rfl (by decide) c8
      refine lv_aload_n hx hb dX4_copy_119 rfl (lv_at hl 1 rfl) ?_
      refine g_get cx hP iw_X4_copy_X4 6 rfl rfl 9 (by decide) rfl fw_X4_copy_54 rfl dX4_copy_120 ?_
      refine g_pt cx hP hD hS iw_X4_copy_X4 tyX4 tyX4_ok nmX4 0 rfl rfl 9 (by decide) rfl fw_X4_copy_54 (ty := .int) rfl rfl rfl (Nat.le_of_ble_eq_true rfl) dX4_copy_123 (fun H locs hP hD hS => ?_)
      have hP : va_P D vwCl [(qh 0, .inr (2, [.int (so 0 0), .int (so 0 1), .ref (qh 1), .ref (qh 2), .ref (qh 3), .ref (qh 4), .int (so 0 6), .int (so 0 7), .int (so 0 8), .int (so 0 9), .int (sh 0 10), .int (sh 0 11), .int (sh 0 12), .ref (qh 5)])), (qh 1, .inl (k 0, 5, .inl g1)), (qh 2, .inl (k 0, 5, .inl g2)), (qh 3, .inl (k 0, 3, .inl g3)), (qh 4, .inl (k 0, 3, .inl g4)), cell2_ k qh sh, cell32_ qo so, cell0_ k qo so, cell1_ k qo so, cell4_ k qo so, cell3_ k qo so, cell2_ k qo so] H := hP
      have hD : va_D A [(qh 0, .inr (2, [.int (so 0 0), .int (so 0 1), .ref (qh 1), .ref (qh 2), .ref (qh 3), .ref (qh 4), .int (so 0 6), .int (so 0 7), .int (so 0 8), .int (so 0 9), .int (sh 0 10), .int (sh 0 11), .int (sh 0 12), .ref (qh 5)])), (qh 1, .inl (k 0, 5, .inl g1)), (qh 2, .inl (k 0, 5, .inl g2)), (qh 3, .inl (k 0, 3, .inl g3)), (qh 4, .inl (k 0, 3, .inl g4)), cell2_ k qh sh, cell32_ qo so, cell0_ k qo so, cell1_ k qo so, cell4_ k qo so, cell3_ k qo so, cell2_ k qo so] := hD
      refine lv_aload_n hx hb dX4_copy_126 rfl (lv_at hl 0 rfl) ?_
      refine lv_iload_n hx hb dX4_copy_127 rfl (lv_at hl 2 rfl) ?_
      refine lv_iconst (v := 4) hx hb dX4_copy_128 (by decide) ?_
      refine lv_iand hx hb dX4_copy_129 (lv_topi (fun v9 e9 => ?_))
      have t9 : 0 ≤ v9.toInt ∧ v9.toInt ≤ 4 := by rw [e9]; exact and_r (by decide) (by omega)
      refine lv_if_eq (tgt := 138) hx hb dX4_copy_130 (by decide) (fun c10 => ?_) (fun c10 => ?_)
      · have f10 : v9.toInt = 0 := f_eq rfl (by decide) c10
        refine lv_aload_n hx hb dX4_copy_138 rfl (lv_at hl 1 rfl) ?_
        refine g_get cx hP iw_X4_copy_X4 6 rfl rfl 10 (by decide) rfl fw_X4_copy_57 rfl dX4_copy_139 ?_
        refine g_pt cx hP hD hS iw_X4_copy_X4 tyX4 tyX4_ok nmX4 0 rfl rfl 10 (by decide) rfl fw_X4_copy_57 (ty := .int) rfl rfl rfl (Nat.le_of_ble_eq_true rfl) dX4_copy_142 (fun H locs hP hD hS => ?_)
        have hP : va_P D vwCl [(qh 0, .inr (2, [.int (so 0 0), .int (so 0 1), .ref (qh 1), .ref (qh 2), .ref (qh 3), .ref (qh 4), .int (so 0 6), .int (so 0 7), .int (so 0 8), .int (so 0 9), .int (so 0 10), .int (sh 0 11), .int (sh 0 12), .ref (qh 5)])), (qh 1, .inl (k 0, 5, .inl g1)), (qh 2, .inl (k 0, 5, .inl g2)), (qh 3, .inl (k 0, 3, .inl g3)), (qh 4, .inl (k 0, 3, .inl g4)), cell2_ k qh sh, cell32_ qo so, cell0_ k qo so, cell1_ k qo so, cell4_ k qo so, cell3_ k qo so, cell2_ k qo so] H := hP
        have hD : va_D A [(qh 0, .inr (2, [.int (so 0 0), .int (so 0 1), .ref (qh 1), .ref (qh 2), .ref (qh 3), .ref (qh 4), .int (so 0 6), .int (so 0 7), .int (so 0 8), .int (so 0 9), .int (so 0 10), .int (sh 0 11), .int (sh 0 12), .ref (qh 5)])), (qh 1, .inl (k 0, 5, .inl g1)), (qh 2, .inl (k 0, 5, .inl g2)), (qh 3, .inl (k 0, 3, .inl g3)), (qh 4, .inl (k 0, 3, .inl g4)), cell2_ k qh sh, cell32_ qo so, cell0_ k qo so, cell1_ k qo so, cell4_ k qo so, cell3_ k qo so, cell2_ k qo so] := hD
        refine lv_aload_n hx hb dX4_copy_145 rfl (lv_at hl 0 rfl) ?_
        refine lv_iload_n hx hb dX4_copy_146 rfl (lv_at hl 2 rfl) ?_
        refine lv_bipush (v := 8) hx hb dX4_copy_147 (by decide) ?_
        refine lv_iand hx hb dX4_copy_149 (lv_topi (fun v11 e11 => ?_))
        have t11 : 0 ≤ v11.toInt ∧ v11.toInt ≤ 8 := by rw [e11]; exact and_r (by decide) (by omega)
        refine lv_if_eq (tgt := 158) hx hb dX4_copy_150 (by decide) (fun c12 => ?_) (fun c12 => ?_)
        · have f12 : v11.toInt = 0 := f_eq rfl (by decide) c12
          refine lv_aload_n hx hb dX4_copy_158 rfl (lv_at hl 1 rfl) ?_
          refine g_get cx hP iw_X4_copy_X4 6 rfl rfl 11 (by decide) rfl fw_X4_copy_60 rfl dX4_copy_159 ?_
          refine g_pt cx hP hD hS iw_X4_copy_X4 tyX4 tyX4_ok nmX4 0 rfl rfl 11 (by decide) rfl fw_X4_copy_60 (ty := .int) rfl rfl rfl (Nat.le_of_ble_eq_true rfl) dX4_copy_162 (fun H locs hP hD hS => ?_)
          have hP : va_P D vwCl [(qh 0, .inr (2, [.int (so 0 0), .int (so 0 1), .ref (qh 1), .ref (qh 2), .ref (qh 3), .ref (qh 4), .int (so 0 6), .int (so 0 7), .int (so 0 8), .int (so 0 9), .int (so 0 10), .int (so 0 11), .int (sh 0 12), .ref (qh 5)])), (qh 1, .inl (k 0, 5, .inl g1)), (qh 2, .inl (k 0, 5, .inl g2)), (qh 3, .inl (k 0, 3, .inl g3)), (qh 4, .inl (k 0, 3, .inl g4)), cell2_ k qh sh, cell32_ qo so, cell0_ k qo so, cell1_ k qo so, cell4_ k qo so, cell3_ k qo so, cell2_ k qo so] H := hP
          have hD : va_D A [(qh 0, .inr (2, [.int (so 0 0), .int (so 0 1), .ref (qh 1), .ref (qh 2), .ref (qh 3), .ref (qh 4), .int (so 0 6), .int (so 0 7), .int (so 0 8), .int (so 0 9), .int (so 0 10), .int (so 0 11), .int (sh 0 12), .ref (qh 5)])), (qh 1, .inl (k 0, 5, .inl g1)), (qh 2, .inl (k 0, 5, .inl g2)), (qh 3, .inl (k 0, 3, .inl g3)), (qh 4, .inl (k 0, 3, .inl g4)), cell2_ k qh sh, cell32_ qo so, cell0_ k qo so, cell1_ k qo so, cell4_ k qo so, cell3_ k qo so, cell2_ k qo so] := hD
          refine lv_aload_n hx hb dX4_copy_165 rfl (lv_at hl 0 rfl) ?_
          refine lv_iload_n hx hb dX4_copy_166 rfl (lv_at hl 2 rfl) ?_
          refine lv_bipush (v := 8) hx hb dX4_copy_167 (by decide) ?_
          refine lv_iand hx hb dX4_copy_169 (lv_topi (fun v13 e13 => ?_))
          have t13 : 0 ≤ v13.toInt ∧ v13.toInt ≤ 8 := by rw [e13]; exact and_r (by decide) (by omega)
          refine lv_if_eq (tgt := 177) hx hb dX4_copy_170 (by decide) (fun c14 => ?_) (fun c14 => ?_)
          · have f14 : v13.toInt = 0 := f_eq rfl (by decide) c14
            refine lv_aload_n hx hb dX4_copy_177 rfl (lv_at hl 1 rfl) ?_
            refine g_get cx hP iw_X4_copy_X4 6 rfl rfl 12 (by decide) rfl fw_X4_copy_63 rfl dX4_copy_178 ?_
            refine g_pt cx hP hD hS iw_X4_copy_X4 tyX4 tyX4_ok nmX4 0 rfl rfl 12 (by decide) rfl fw_X4_copy_63 (ty := .int) rfl rfl rfl (Nat.le_of_ble_eq_true rfl) dX4_copy_181 (fun H locs hP hD hS => ?_)
            have hP : va_P D vwCl [cell32_ qh so, (qh 1, .inl (k 0, 5, .inl g1)), (qh 2, .inl (k 0, 5, .inl g2)), (qh 3, .inl (k 0, 3, .inl g3)), (qh 4, .inl (k 0, 3, .inl g4)), cell2_ k qh sh, cell32_ qo so, cell0_ k qo so, cell1_ k qo so, cell4_ k qo so, cell3_ k qo so, cell2_ k qo so] H := hP
            have hD : va_D A [cell32_ qh so, (qh 1, .inl (k 0, 5, .inl g1)), (qh 2, .inl (k 0, 5, .inl g2)), (qh 3, .inl (k 0, 3, .inl g3)), (qh 4, .inl (k 0, 3, .inl g4)), cell2_ k qh sh, cell32_ qo so, cell0_ k qo so, cell1_ k qo so, cell4_ k qo so, cell3_ k qo so, cell2_ k qo so] := hD
            refine lv_aload_n hx hb dX4_copy_184 rfl (lv_at hl 0 rfl) ?_
            refine g_v (w1 := fun (u : (Nat → Int32)) => [cell32_ qh so, (qh 1, .inl (k 0, 5, .inl g1)), (qh 2, .inl (k 0, 5, .inl g2)), (qh 3, .inl (k 0, 3, .inl g3)), (qh 4, .inl (k 0, 3, .inl g4)), (qh 5, .inl (k 0, 525, .inl u))]) (g_runV (wc := [cell32_ qh so, (qh 1, .inl (k 0, 5, .inl g1)), (qh 2, .inl (k 0, 5, .inl g2)), (qh 3, .inl (k 0, 3, .inl g3)), (qh 4, .inl (k 0, 3, .inl g4)), cell2_ k qh sh]) (rest := []) cx hP hD hS [0, 1, 2, 3, 4, 5] rfl (by decide) [] (c_X4_settle l D k b qh (up2 (up2 (up2 (up2 (up2 sh 0 (upd (upd (upd (upd (upd (upd (upd (upd (upd (sh 0) 0 (so 0 0)) 1 (so 0 1)) 6 (so 0 6)) 7 (so 0 7)) 8 (so 0 8)) 9 (so 0 9)) 10 (so 0 10)) 11 (so 0 11)) 12 (so 0 12))) 1 g1) 2 g2) 3 g3) 4 g4) H.size (show 0 ≤ (so 0 12).toInt ∧ (so 0 12).toInt ≤ 5 from by first | decide | omega) ag3) gX4_copy_X4_settle rfl rfl rfl nd_X4_settle ⟨Nat.le_of_ble_eq_true rfl, Nat.le_of_ble_eq_true rfl⟩ (ci := 2) (q0 := 0) rfl rfl rfl hl.1 rfl (Nat.le_of_ble_eq_true rfl) ⟨Nat.zero_le _, Nat.zero_le _⟩ dX4_copy_185) cx.2.2.1 hP hD hS [0, 1, 2, 3, 4, 5] rfl (fun _ => rfl) (fun u16 H locs hw15 hP hD hS => ?_)
            obtain ⟨m17, rfl⟩ : ∃ z, z = u16 := ⟨_, rfl⟩
            have hP : va_P D vwCl [cell32_ qh so, (qh 1, .inl (k 0, 5, .inl g1)), (qh 2, .inl (k 0, 5, .inl g2)), (qh 3, .inl (k 0, 3, .inl g3)), (qh 4, .inl (k 0, 3, .inl g4)), (qh 5, .inl (k 0, 525, .inl m17)), cell32_ qo so, cell0_ k qo so, cell1_ k qo so, cell4_ k qo so, cell3_ k qo so, cell2_ k qo so] H := hP
            have hD : va_D A [cell32_ qh so, (qh 1, .inl (k 0, 5, .inl g1)), (qh 2, .inl (k 0, 5, .inl g2)), (qh 3, .inl (k 0, 3, .inl g3)), (qh 4, .inl (k 0, 3, .inl g4)), (qh 5, .inl (k 0, 525, .inl m17)), cell32_ qo so, cell0_ k qo so, cell1_ k qo so, cell4_ k qo so, cell3_ k qo so, cell2_ k qo so] := hD
            have w18 : SUok m17 := hw15
            clear hw15
            rw [hQ]
            exact x_v cx hr ((so 0 0), (so 0 1), g1, g2, g3, g4, (so 0 6), (so 0 7), (so 0 8), (so 0 9), (so 0 10), (so 0 11), (so 0 12), m17) hP hD hS ⟨(show 0 ≤ (so 0 0).toInt ∧ (so 0 0).toInt ≤ 5 from by omega), (show 0 ≤ (so 0 1).toInt ∧ (so 0 1).toInt ≤ 4 from by omega), (show 0 ≤ (so 0 12).toInt ∧ (so 0 12).toInt ≤ 5 from by omega), ag2, ag3, (show SUok m17 from by assumption), (show (so 0 0).toInt = (so 0 0).toInt from by omega), (show ((so 0 0), (so 0 1), g1, g2, g3, g4, (so 0 6), (so 0 7), (so 0 8), (so 0 9), (so 0 10), (so 0 11), (so 0 12)) = J_X4_copy sh so p0 from by subst eg1 eg2 eg3 eg4 e5 e7 e9 e11 e13; first | (refine Eq.symm ?_; refine Eq.trans (if_pos c6) ?_; refine Eq.trans (if_pos c8) ?_; refine Eq.trans (if_pos c10) ?_; refine Eq.trans (if_pos c12) ?_; refine Eq.trans (if_pos c14) ?_; rfl) | (unfold J_X4_copy; try dsimp only; rw [if_pos c6, if_pos c8, if_pos c10, if_pos c12, if_pos c14]))⟩ dX4_copy_188
          · have f14 : ¬ v13.toInt = 0 := f_ne rfl (by decide) c14
            refine lv_iconst (v := 0) hx hb dX4_copy_173 (by decide) ?_
            refine lv_goto (tgt := 181) hx hb dX4_copy_174 (by decide) ?_
            refine g_pt cx hP hD hS iw_X4_copy_X4 tyX4 tyX4_ok nmX4 0 rfl rfl 12 (by decide) rfl fw_X4_copy_63 (ty := .int) rfl rfl rfl (Nat.le_of_ble_eq_true rfl) dX4_copy_181 (fun H locs hP hD hS => ?_)
            have hP : va_P D vwCl [cell169_ qh so 0, (qh 1, .inl (k 0, 5, .inl g1)), (qh 2, .inl (k 0, 5, .inl g2)), (qh 3, .inl (k 0, 3, .inl g3)), (qh 4, .inl (k 0, 3, .inl g4)), cell2_ k qh sh, cell32_ qo so, cell0_ k qo so, cell1_ k qo so, cell4_ k qo so, cell3_ k qo so, cell2_ k qo so] H := hP
            have hD : va_D A [cell169_ qh so 0, (qh 1, .inl (k 0, 5, .inl g1)), (qh 2, .inl (k 0, 5, .inl g2)), (qh 3, .inl (k 0, 3, .inl g3)), (qh 4, .inl (k 0, 3, .inl g4)), cell2_ k qh sh, cell32_ qo so, cell0_ k qo so, cell1_ k qo so, cell4_ k qo so, cell3_ k qo so, cell2_ k qo so] := hD
            have hlit19 : (0 : Int32).toInt = 0 := by decide
            refine lv_aload_n hx hb dX4_copy_184 rfl (lv_at hl 0 rfl) ?_
            refine g_v (w1 := fun (u : (Nat → Int32)) => [cell169_ qh so 0, (qh 1, .inl (k 0, 5, .inl g1)), (qh 2, .inl (k 0, 5, .inl g2)), (qh 3, .inl (k 0, 3, .inl g3)), (qh 4, .inl (k 0, 3, .inl g4)), (qh 5, .inl (k 0, 525, .inl u))]) (g_runV (wc := [cell169_ qh so 0, (qh 1, .inl (k 0, 5, .inl g1)), (qh 2, .inl (k 0, 5, .inl g2)), (qh 3, .inl (k 0, 3, .inl g3)), (qh 4, .inl (k 0, 3, .inl g4)), cell2_ k qh sh]) (rest := []) cx hP hD hS [0, 1, 2, 3, 4, 5] rfl (by decide) [] (c_X4_settle l D k b qh (up2 (up2 (up2 (up2 (up2 sh 0 (upd (upd (upd (upd (upd (upd (upd (upd (upd (sh 0) 0 (so 0 0)) 1 (so 0 1)) 6 (so 0 6)) 7 (so 0 7)) 8 (so 0 8)) 9 (so 0 9)) 10 (so 0 10)) 11 (so 0 11)) 12 0)) 1 g1) 2 g2) 3 g3) 4 g4) H.size (show 0 ≤ (0 : Int32).toInt ∧ (0 : Int32).toInt ≤ 5 from by first | decide | omega) ag3) gX4_copy_X4_settle rfl rfl rfl nd_X4_settle ⟨Nat.le_of_ble_eq_true rfl, Nat.le_of_ble_eq_true rfl⟩ (ci := 2) (q0 := 0) rfl rfl rfl hl.1 rfl (Nat.le_of_ble_eq_true rfl) ⟨Nat.zero_le _, Nat.zero_le _⟩ dX4_copy_185) cx.2.2.1 hP hD hS [0, 1, 2, 3, 4, 5] rfl (fun _ => rfl) (fun u21 H locs hw20 hP hD hS => ?_)
            obtain ⟨m22, rfl⟩ : ∃ z, z = u21 := ⟨_, rfl⟩
            have hP : va_P D vwCl [cell169_ qh so 0, (qh 1, .inl (k 0, 5, .inl g1)), (qh 2, .inl (k 0, 5, .inl g2)), (qh 3, .inl (k 0, 3, .inl g3)), (qh 4, .inl (k 0, 3, .inl g4)), (qh 5, .inl (k 0, 525, .inl m22)), cell32_ qo so, cell0_ k qo so, cell1_ k qo so, cell4_ k qo so, cell3_ k qo so, cell2_ k qo so] H := hP
            have hD : va_D A [cell169_ qh so 0, (qh 1, .inl (k 0, 5, .inl g1)), (qh 2, .inl (k 0, 5, .inl g2)), (qh 3, .inl (k 0, 3, .inl g3)), (qh 4, .inl (k 0, 3, .inl g4)), (qh 5, .inl (k 0, 525, .inl m22)), cell32_ qo so, cell0_ k qo so, cell1_ k qo so, cell4_ k qo so, cell3_ k qo so, cell2_ k qo so] := hD
            have w23 : SUok m22 := hw20
            clear hw20
            have hlit24 : (0 : Int32).toInt = 0 := by decide
            rw [hQ]
            exact x_v cx hr ((so 0 0), (so 0 1), g1, g2, g3, g4, (so 0 6), (so 0 7), (so 0 8), (so 0 9), (so 0 10), (so 0 11), 0, m22) hP hD hS ⟨(show 0 ≤ (so 0 0).toInt ∧ (so 0 0).toInt ≤ 5 from by omega), (show 0 ≤ (so 0 1).toInt ∧ (so 0 1).toInt ≤ 4 from by omega), (show 0 ≤ (0 : Int32).toInt ∧ (0 : Int32).toInt ≤ 5 from by omega), ag2, ag3, (show SUok m22 from by assumption), (show (so 0 0).toInt = (so 0 0).toInt from by omega), (show ((so 0 0), (so 0 1), g1, g2, g3, g4, (so 0 6), (so 0 7), (so 0 8), (so 0 9), (so 0 10), (so 0 11), (0 : Int32)) = J_X4_copy sh so p0 from by subst eg1 eg2 eg3 eg4 e5 e7 e9 e11 e13; first | (refine Eq.symm ?_; refine Eq.trans (if_pos c6) ?_; refine Eq.trans (if_pos c8) ?_; refine Eq.trans (if_pos c10) ?_; refine Eq.trans (if_pos c12) ?_; refine Eq.trans (if_neg c14) ?_; rfl) | (unfold J_X4_copy; try dsimp only; rw [if_pos c6, if_pos c8, if_pos c10, if_pos c12, if_neg c14]))⟩ dX4_copy_188
        · have f12 : ¬ v11.toInt = 0 := f_ne rfl (by decide) c12
          refine lv_bipush (v := (-9)) hx hb dX4_copy_153 (by decide) ?_
          refine lv_goto (tgt := 162) hx hb dX4_copy_155 (by decide) ?_
          refine g_pt cx hP hD hS iw_X4_copy_X4 tyX4 tyX4_ok nmX4 0 rfl rfl 11 (by decide) rfl fw_X4_copy_60 (ty := .int) rfl rfl rfl (Nat.le_of_ble_eq_true rfl) dX4_copy_162 (fun H locs hP hD hS => ?_)
          have hP : va_P D vwCl [(qh 0, .inr (2, [.int (so 0 0), .int (so 0 1), .ref (qh 1), .ref (qh 2), .ref (qh 3), .ref (qh 4), .int (so 0 6), .int (so 0 7), .int (so 0 8), .int (so 0 9), .int (so 0 10), .int (-9), .int (sh 0 12), .ref (qh 5)])), (qh 1, .inl (k 0, 5, .inl g1)), (qh 2, .inl (k 0, 5, .inl g2)), (qh 3, .inl (k 0, 3, .inl g3)), (qh 4, .inl (k 0, 3, .inl g4)), cell2_ k qh sh, cell32_ qo so, cell0_ k qo so, cell1_ k qo so, cell4_ k qo so, cell3_ k qo so, cell2_ k qo so] H := hP
          have hD : va_D A [(qh 0, .inr (2, [.int (so 0 0), .int (so 0 1), .ref (qh 1), .ref (qh 2), .ref (qh 3), .ref (qh 4), .int (so 0 6), .int (so 0 7), .int (so 0 8), .int (so 0 9), .int (so 0 10), .int (-9), .int (sh 0 12), .ref (qh 5)])), (qh 1, .inl (k 0, 5, .inl g1)), (qh 2, .inl (k 0, 5, .inl g2)), (qh 3, .inl (k 0, 3, .inl g3)), (qh 4, .inl (k 0, 3, .inl g4)), cell2_ k qh sh, cell32_ qo so, cell0_ k qo so, cell1_ k qo so, cell4_ k qo so, cell3_ k qo so, cell2_ k qo so] := hD
          have hlit25 : ((-9) : Int32).toInt = -9 := by decide
          refine lv_aload_n hx hb dX4_copy_165 rfl (lv_at hl 0 rfl) ?_
          refine lv_iload_n hx hb dX4_copy_166 rfl (lv_at hl 2 rfl) ?_
          refine lv_bipush (v := 8) hx hb dX4_copy_167 (by decide) ?_
          refine lv_iand hx hb dX4_copy_169 (lv_topi (fun v26 e26 => ?_))
          have t26 : 0 ≤ v26.toInt ∧ v26.toInt ≤ 8 := by rw [e26]; exact and_r (by decide) (by omega)
          refine lv_if_eq (tgt := 177) hx hb dX4_copy_170 (by decide) (fun c27 => ?_) (fun c27 => ?_)
          · have f27 : v26.toInt = 0 := f_eq rfl (by decide) c27
            refine lv_aload_n hx hb dX4_copy_177 rfl (lv_at hl 1 rfl) ?_
            refine g_get cx hP iw_X4_copy_X4 6 rfl rfl 12 (by decide) rfl fw_X4_copy_63 rfl dX4_copy_178 ?_
            refine g_pt cx hP hD hS iw_X4_copy_X4 tyX4 tyX4_ok nmX4 0 rfl rfl 12 (by decide) rfl fw_X4_copy_63 (ty := .int) rfl rfl rfl (Nat.le_of_ble_eq_true rfl) dX4_copy_181 (fun H locs hP hD hS => ?_)
            have hP : va_P D vwCl [cell158_ qh so (-9), (qh 1, .inl (k 0, 5, .inl g1)), (qh 2, .inl (k 0, 5, .inl g2)), (qh 3, .inl (k 0, 3, .inl g3)), (qh 4, .inl (k 0, 3, .inl g4)), cell2_ k qh sh, cell32_ qo so, cell0_ k qo so, cell1_ k qo so, cell4_ k qo so, cell3_ k qo so, cell2_ k qo so] H := hP
            have hD : va_D A [cell158_ qh so (-9), (qh 1, .inl (k 0, 5, .inl g1)), (qh 2, .inl (k 0, 5, .inl g2)), (qh 3, .inl (k 0, 3, .inl g3)), (qh 4, .inl (k 0, 3, .inl g4)), cell2_ k qh sh, cell32_ qo so, cell0_ k qo so, cell1_ k qo so, cell4_ k qo so, cell3_ k qo so, cell2_ k qo so] := hD
            refine lv_aload_n hx hb dX4_copy_184 rfl (lv_at hl 0 rfl) ?_
            refine g_v (w1 := fun (u : (Nat → Int32)) => [cell158_ qh so (-9), (qh 1, .inl (k 0, 5, .inl g1)), (qh 2, .inl (k 0, 5, .inl g2)), (qh 3, .inl (k 0, 3, .inl g3)), (qh 4, .inl (k 0, 3, .inl g4)), (qh 5, .inl (k 0, 525, .inl u))]) (g_runV (wc := [cell158_ qh so (-9), (qh 1, .inl (k 0, 5, .inl g1)), (qh 2, .inl (k 0, 5, .inl g2)), (qh 3, .inl (k 0, 3, .inl g3)), (qh 4, .inl (k 0, 3, .inl g4)), cell2_ k qh sh]) (rest := []) cx hP hD hS [0, 1, 2, 3, 4, 5] rfl (by decide) [] (c_X4_settle l D k b qh (up2 (up2 (up2 (up2 (up2 sh 0 (upd (upd (upd (upd (upd (upd (upd (upd (upd (sh 0) 0 (so 0 0)) 1 (so 0 1)) 6 (so 0 6)) 7 (so 0 7)) 8 (so 0 8)) 9 (so 0 9)) 10 (so 0 10)) 11 (-9)) 12 (so 0 12))) 1 g1) 2 g2) 3 g3) 4 g4) H.size (show 0 ≤ (so 0 12).toInt ∧ (so 0 12).toInt ≤ 5 from by first | decide | omega) ag3) gX4_copy_X4_settle rfl rfl rfl nd_X4_settle ⟨Nat.le_of_ble_eq_true rfl, Nat.le_of_ble_eq_true rfl⟩ (ci := 2) (q0 := 0) rfl rfl rfl hl.1 rfl (Nat.le_of_ble_eq_true rfl) ⟨Nat.zero_le _, Nat.zero_le _⟩ dX4_copy_185) cx.2.2.1 hP hD hS [0, 1, 2, 3, 4, 5] rfl (fun _ => rfl) (fun u29 H locs hw28 hP hD hS => ?_)
            obtain ⟨m30, rfl⟩ : ∃ z, z = u29 := ⟨_, rfl⟩
            have hP : va_P D vwCl [cell158_ qh so (-9), (qh 1, .inl (k 0, 5, .inl g1)), (qh 2, .inl (k 0, 5, .inl g2)), (qh 3, .inl (k 0, 3, .inl g3)), (qh 4, .inl (k 0, 3, .inl g4)), (qh 5, .inl (k 0, 525, .inl m30)), cell32_ qo so, cell0_ k qo so, cell1_ k qo so, cell4_ k qo so, cell3_ k qo so, cell2_ k qo so] H := hP
            have hD : va_D A [cell158_ qh so (-9), (qh 1, .inl (k 0, 5, .inl g1)), (qh 2, .inl (k 0, 5, .inl g2)), (qh 3, .inl (k 0, 3, .inl g3)), (qh 4, .inl (k 0, 3, .inl g4)), (qh 5, .inl (k 0, 525, .inl m30)), cell32_ qo so, cell0_ k qo so, cell1_ k qo so, cell4_ k qo so, cell3_ k qo so, cell2_ k qo so] := hD
            have w31 : SUok m30 := hw28
            clear hw28
            have hlit32 : ((-9) : Int32).toInt = -9 := by decide
            rw [hQ]
            exact x_v cx hr ((so 0 0), (so 0 1), g1, g2, g3, g4, (so 0 6), (so 0 7), (so 0 8), (so 0 9), (so 0 10), (-9), (so 0 12), m30) hP hD hS ⟨(show 0 ≤ (so 0 0).toInt ∧ (so 0 0).toInt ≤ 5 from by omega), (show 0 ≤ (so 0 1).toInt ∧ (so 0 1).toInt ≤ 4 from by omega), (show 0 ≤ (so 0 12).toInt ∧ (so 0 12).toInt ≤ 5 from by omega), ag2, ag3, (show SUok m30 from by assumption), (show (so 0 0).toInt = (so 0 0).toInt from by omega), (show ((so 0 0), (so 0 1), g1, g2, g3, g4, (so 0 6), (so 0 7), (so 0 8), (so 0 9), (so 0 10), ((-9) : Int32), (so 0 12)) = J_X4_copy sh so p0 from by subst eg1 eg2 eg3 eg4 e5 e7 e9 e11 e26; first | (refine Eq.symm ?_; refine Eq.trans (if_pos c6) ?_; refine Eq.trans (if_pos c8) ?_; refine Eq.trans (if_pos c10) ?_; refine Eq.trans (if_neg c12) ?_; refine Eq.trans (if_pos c27) ?_; rfl) | (unfold J_X4_copy; try dsimp only; rw [if_pos c6, if_pos c8, if_pos c10, if_neg c12, if_pos c27]))⟩ dX4_copy_188
          · have f27 : ¬ v26.toInt = 0 := f_ne rfl (by decide) c27
            refine lv_iconst (v := 0) hx hb dX4_copy_173 (by decide) ?_
            refine lv_goto (tgt := 181) hx hb dX4_copy_174 (by decide) ?_
            refine g_pt cx hP hD hS iw_X4_copy_X4 tyX4 tyX4_ok nmX4 0 rfl rfl 12 (by decide) rfl fw_X4_copy_63 (ty := .int) rfl rfl rfl (Nat.le_of_ble_eq_true rfl) dX4_copy_181 (fun H locs hP hD hS => ?_)
            have hP : va_P D vwCl [cell159_ qh so (-9) 0, (qh 1, .inl (k 0, 5, .inl g1)), (qh 2, .inl (k 0, 5, .inl g2)), (qh 3, .inl (k 0, 3, .inl g3)), (qh 4, .inl (k 0, 3, .inl g4)), cell2_ k qh sh, cell32_ qo so, cell0_ k qo so, cell1_ k qo so, cell4_ k qo so, cell3_ k qo so, cell2_ k qo so] H := hP
            have hD : va_D A [cell159_ qh so (-9) 0, (qh 1, .inl (k 0, 5, .inl g1)), (qh 2, .inl (k 0, 5, .inl g2)), (qh 3, .inl (k 0, 3, .inl g3)), (qh 4, .inl (k 0, 3, .inl g4)), cell2_ k qh sh, cell32_ qo so, cell0_ k qo so, cell1_ k qo so, cell4_ k qo so, cell3_ k qo so, cell2_ k qo so] := hD
            have hlit33 : (0 : Int32).toInt = 0 := by decide
            refine lv_aload_n hx hb dX4_copy_184 rfl (lv_at hl 0 rfl) ?_
            refine g_v (w1 := fun (u : (Nat → Int32)) => [cell159_ qh so (-9) 0, (qh 1, .inl (k 0, 5, .inl g1)), (qh 2, .inl (k 0, 5, .inl g2)), (qh 3, .inl (k 0, 3, .inl g3)), (qh 4, .inl (k 0, 3, .inl g4)), (qh 5, .inl (k 0, 525, .inl u))]) (g_runV (wc := [cell159_ qh so (-9) 0, (qh 1, .inl (k 0, 5, .inl g1)), (qh 2, .inl (k 0, 5, .inl g2)), (qh 3, .inl (k 0, 3, .inl g3)), (qh 4, .inl (k 0, 3, .inl g4)), cell2_ k qh sh]) (rest := []) cx hP hD hS [0, 1, 2, 3, 4, 5] rfl (by decide) [] (c_X4_settle l D k b qh (up2 (up2 (up2 (up2 (up2 sh 0 (upd (upd (upd (upd (upd (upd (upd (upd (upd (sh 0) 0 (so 0 0)) 1 (so 0 1)) 6 (so 0 6)) 7 (so 0 7)) 8 (so 0 8)) 9 (so 0 9)) 10 (so 0 10)) 11 (-9)) 12 0)) 1 g1) 2 g2) 3 g3) 4 g4) H.size (show 0 ≤ (0 : Int32).toInt ∧ (0 : Int32).toInt ≤ 5 from by first | decide | omega) ag3) gX4_copy_X4_settle rfl rfl rfl nd_X4_settle ⟨Nat.le_of_ble_eq_true rfl, Nat.le_of_ble_eq_true rfl⟩ (ci := 2) (q0 := 0) rfl rfl rfl hl.1 rfl (Nat.le_of_ble_eq_true rfl) ⟨Nat.zero_le _, Nat.zero_le _⟩ dX4_copy_185) cx.2.2.1 hP hD hS [0, 1, 2, 3, 4, 5] rfl (fun _ => rfl) (fun u35 H locs hw34 hP hD hS => ?_)
            obtain ⟨m36, rfl⟩ : ∃ z, z = u35 := ⟨_, rfl⟩
            have hP : va_P D vwCl [cell159_ qh so (-9) 0, (qh 1, .inl (k 0, 5, .inl g1)), (qh 2, .inl (k 0, 5, .inl g2)), (qh 3, .inl (k 0, 3, .inl g3)), (qh 4, .inl (k 0, 3, .inl g4)), (qh 5, .inl (k 0, 525, .inl m36)), cell32_ qo so, cell0_ k qo so, cell1_ k qo so, cell4_ k qo so, cell3_ k qo so, cell2_ k qo so] H := hP
            have hD : va_D A [cell159_ qh so (-9) 0, (qh 1, .inl (k 0, 5, .inl g1)), (qh 2, .inl (k 0, 5, .inl g2)), (qh 3, .inl (k 0, 3, .inl g3)), (qh 4, .inl (k 0, 3, .inl g4)), (qh 5, .inl (k 0, 525, .inl m36)), cell32_ qo so, cell0_ k qo so, cell1_ k qo so, cell4_ k qo so, cell3_ k qo so, cell2_ k qo so] := hD
            have w37 : SUok m36 := hw34
            clear hw34
            have hlit38 : ((-9) : Int32).toInt = -9 := by decide
            have hlit39 : (0 : Int32).toInt = 0 := by decide
            rw [hQ]
            exact x_v cx hr ((so 0 0), (so 0 1), g1, g2, g3, g4, (so 0 6), (so 0 7), (so 0 8), (so 0 9), (so 0 10), (-9), 0, m36) hP hD hS ⟨(show 0 ≤ (so 0 0).toInt ∧ (so 0 0).toInt ≤ 5 from by omega), (show 0 ≤ (so 0 1).toInt ∧ (so 0 1).toInt ≤ 4 from by omega), (show 0 ≤ (0 : Int32).toInt ∧ (0 : Int32).toInt ≤ 5 from by omega), ag2, ag3, (show SUok m36 from by assumption), (show (so 0 0).toInt = (so 0 0).toInt from by omega), (show ((so 0 0), (so 0 1), g1, g2, g3, g4, (so 0 6), (so 0 7), (so 0 8), (so 0 9), (so 0 10), ((-9) : Int32), (0 : Int32)) = J_X4_copy sh so p0 from by subst eg1 eg2 eg3 eg4 e5 e7 e9 e11 e26; first | (refine Eq.symm ?_; refine Eq.trans (if_pos c6) ?_; refine Eq.trans (if_pos c8) ?_; refine Eq.trans (if_pos c10) ?_; refine Eq.trans (if_neg c12) ?_; refine Eq.trans (if_neg c27) ?_; rfl) | (unfold J_X4_copy; try dsimp only; rw [if_pos c6, if_pos c8, if_pos c10, if_neg c12, if_neg c27]))⟩ dX4_copy_188
      · have f10 : ¬ v9.toInt = 0 := f_ne rfl (by decide) c10
        refine lv_bipush (v := (-9)) hx hb dX4_copy_133 (by decide) ?_
        refine lv_goto (tgt := 142) hx hb dX4_copy_135 (by decide) ?_
        refine g_pt cx hP hD hS iw_X4_copy_X4 tyX4 tyX4_ok nmX4 0 rfl rfl 10 (by decide) rfl fw_X4_copy_57 (ty := .int) rfl rfl rfl (Nat.le_of_ble_eq_true rfl) dX4_copy_142 (fun H locs hP hD hS => ?_)
        have hP : va_P D vwCl [(qh 0, .inr (2, [.int (so 0 0), .int (so 0 1), .ref (qh 1), .ref (qh 2), .ref (qh 3), .ref (qh 4), .int (so 0 6), .int (so 0 7), .int (so 0 8), .int (so 0 9), .int (-9), .int (sh 0 11), .int (sh 0 12), .ref (qh 5)])), (qh 1, .inl (k 0, 5, .inl g1)), (qh 2, .inl (k 0, 5, .inl g2)), (qh 3, .inl (k 0, 3, .inl g3)), (qh 4, .inl (k 0, 3, .inl g4)), cell2_ k qh sh, cell32_ qo so, cell0_ k qo so, cell1_ k qo so, cell4_ k qo so, cell3_ k qo so, cell2_ k qo so] H := hP
        have hD : va_D A [(qh 0, .inr (2, [.int (so 0 0), .int (so 0 1), .ref (qh 1), .ref (qh 2), .ref (qh 3), .ref (qh 4), .int (so 0 6), .int (so 0 7), .int (so 0 8), .int (so 0 9), .int (-9), .int (sh 0 11), .int (sh 0 12), .ref (qh 5)])), (qh 1, .inl (k 0, 5, .inl g1)), (qh 2, .inl (k 0, 5, .inl g2)), (qh 3, .inl (k 0, 3, .inl g3)), (qh 4, .inl (k 0, 3, .inl g4)), cell2_ k qh sh, cell32_ qo so, cell0_ k qo so, cell1_ k qo so, cell4_ k qo so, cell3_ k qo so, cell2_ k qo so] := hD
        have hlit40 : ((-9) : Int32).toInt = -9 := by decide
        refine lv_aload_n hx hb dX4_copy_145 rfl (lv_at hl 0 rfl) ?_
        refine lv_iload_n hx hb dX4_copy_146 rfl (lv_at hl 2 rfl) ?_
        refine lv_bipush (v := 8) hx hb dX4_copy_147 (by decide) ?_
        refine lv_iand hx hb dX4_copy_149 (lv_topi (fun v41 e41 => ?_))
        have t41 : 0 ≤ v41.toInt ∧ v41.toInt ≤ 8 := by rw [e41]; exact and_r (by decide) (by omega)
        refine lv_if_eq (tgt := 158) hx hb dX4_copy_150 (by decide) (fun c42 => ?_) (fun c42 => ?_)
        · have f42 : v41.toInt = 0 := f_eq rfl (by decide) c42
          refine lv_aload_n hx hb dX4_copy_158 rfl (lv_at hl 1 rfl) ?_
          refine g_get cx hP iw_X4_copy_X4 6 rfl rfl 11 (by decide) rfl fw_X4_copy_60 rfl dX4_copy_159 ?_
          refine g_pt cx hP hD hS iw_X4_copy_X4 tyX4 tyX4_ok nmX4 0 rfl rfl 11 (by decide) rfl fw_X4_copy_60 (ty := .int) rfl rfl rfl (Nat.le_of_ble_eq_true rfl) dX4_copy_162 (fun H locs hP hD hS => ?_)
          have hP : va_P D vwCl [(qh 0, .inr (2, [.int (so 0 0), .int (so 0 1), .ref (qh 1), .ref (qh 2), .ref (qh 3), .ref (qh 4), .int (so 0 6), .int (so 0 7), .int (so 0 8), .int (so 0 9), .int (-9), .int (so 0 11), .int (sh 0 12), .ref (qh 5)])), (qh 1, .inl (k 0, 5, .inl g1)), (qh 2, .inl (k 0, 5, .inl g2)), (qh 3, .inl (k 0, 3, .inl g3)), (qh 4, .inl (k 0, 3, .inl g4)), cell2_ k qh sh, cell32_ qo so, cell0_ k qo so, cell1_ k qo so, cell4_ k qo so, cell3_ k qo so, cell2_ k qo so] H := hP
          have hD : va_D A [(qh 0, .inr (2, [.int (so 0 0), .int (so 0 1), .ref (qh 1), .ref (qh 2), .ref (qh 3), .ref (qh 4), .int (so 0 6), .int (so 0 7), .int (so 0 8), .int (so 0 9), .int (-9), .int (so 0 11), .int (sh 0 12), .ref (qh 5)])), (qh 1, .inl (k 0, 5, .inl g1)), (qh 2, .inl (k 0, 5, .inl g2)), (qh 3, .inl (k 0, 3, .inl g3)), (qh 4, .inl (k 0, 3, .inl g4)), cell2_ k qh sh, cell32_ qo so, cell0_ k qo so, cell1_ k qo so, cell4_ k qo so, cell3_ k qo so, cell2_ k qo so] := hD
          refine lv_aload_n hx hb dX4_copy_165 rfl (lv_at hl 0 rfl) ?_
          refine lv_iload_n hx hb dX4_copy_166 rfl (lv_at hl 2 rfl) ?_
          refine lv_bipush (v := 8) hx hb dX4_copy_167 (by decide) ?_
          refine lv_iand hx hb dX4_copy_169 (lv_topi (fun v43 e43 => ?_))
          have t43 : 0 ≤ v43.toInt ∧ v43.toInt ≤ 8 := by rw [e43]; exact and_r (by decide) (by omega)
          refine lv_if_eq (tgt := 177) hx hb dX4_copy_170 (by decide) (fun c44 => ?_) (fun c44 => ?_)
          · have f44 : v43.toInt = 0 := f_eq rfl (by decide) c44
            refine lv_aload_n hx hb dX4_copy_177 rfl (lv_at hl 1 rfl) ?_
            refine g_get cx hP iw_X4_copy_X4 6 rfl rfl 12 (by decide) rfl fw_X4_copy_63 rfl dX4_copy_178 ?_
            refine g_pt cx hP hD hS iw_X4_copy_X4 tyX4 tyX4_ok nmX4 0 rfl rfl 12 (by decide) rfl fw_X4_copy_63 (ty := .int) rfl rfl rfl (Nat.le_of_ble_eq_true rfl) dX4_copy_181 (fun H locs hP hD hS => ?_)
            have hP : va_P D vwCl [cell157_ qh so (-9), (qh 1, .inl (k 0, 5, .inl g1)), (qh 2, .inl (k 0, 5, .inl g2)), (qh 3, .inl (k 0, 3, .inl g3)), (qh 4, .inl (k 0, 3, .inl g4)), cell2_ k qh sh, cell32_ qo so, cell0_ k qo so, cell1_ k qo so, cell4_ k qo so, cell3_ k qo so, cell2_ k qo so] H := hP
            have hD : va_D A [cell157_ qh so (-9), (qh 1, .inl (k 0, 5, .inl g1)), (qh 2, .inl (k 0, 5, .inl g2)), (qh 3, .inl (k 0, 3, .inl g3)), (qh 4, .inl (k 0, 3, .inl g4)), cell2_ k qh sh, cell32_ qo so, cell0_ k qo so, cell1_ k qo so, cell4_ k qo so, cell3_ k qo so, cell2_ k qo so] := hD
            refine lv_aload_n hx hb dX4_copy_184 rfl (lv_at hl 0 rfl) ?_
            refine g_v (w1 := fun (u : (Nat → Int32)) => [cell157_ qh so (-9), (qh 1, .inl (k 0, 5, .inl g1)), (qh 2, .inl (k 0, 5, .inl g2)), (qh 3, .inl (k 0, 3, .inl g3)), (qh 4, .inl (k 0, 3, .inl g4)), (qh 5, .inl (k 0, 525, .inl u))]) (g_runV (wc := [cell157_ qh so (-9), (qh 1, .inl (k 0, 5, .inl g1)), (qh 2, .inl (k 0, 5, .inl g2)), (qh 3, .inl (k 0, 3, .inl g3)), (qh 4, .inl (k 0, 3, .inl g4)), cell2_ k qh sh]) (rest := []) cx hP hD hS [0, 1, 2, 3, 4, 5] rfl (by decide) [] (c_X4_settle l D k b qh (up2 (up2 (up2 (up2 (up2 sh 0 (upd (upd (upd (upd (upd (upd (upd (upd (upd (sh 0) 0 (so 0 0)) 1 (so 0 1)) 6 (so 0 6)) 7 (so 0 7)) 8 (so 0 8)) 9 (so 0 9)) 10 (-9)) 11 (so 0 11)) 12 (so 0 12))) 1 g1) 2 g2) 3 g3) 4 g4) H.size (show 0 ≤ (so 0 12).toInt ∧ (so 0 12).toInt ≤ 5 from by first | decide | omega) ag3) gX4_copy_X4_settle rfl rfl rfl nd_X4_settle ⟨Nat.le_of_ble_eq_true rfl, Nat.le_of_ble_eq_true rfl⟩ (ci := 2) (q0 := 0) rfl rfl rfl hl.1 rfl (Nat.le_of_ble_eq_true rfl) ⟨Nat.zero_le _, Nat.zero_le _⟩ dX4_copy_185) cx.2.2.1 hP hD hS [0, 1, 2, 3, 4, 5] rfl (fun _ => rfl) (fun u46 H locs hw45 hP hD hS => ?_)
            obtain ⟨m47, rfl⟩ : ∃ z, z = u46 := ⟨_, rfl⟩
            have hP : va_P D vwCl [cell157_ qh so (-9), (qh 1, .inl (k 0, 5, .inl g1)), (qh 2, .inl (k 0, 5, .inl g2)), (qh 3, .inl (k 0, 3, .inl g3)), (qh 4, .inl (k 0, 3, .inl g4)), (qh 5, .inl (k 0, 525, .inl m47)), cell32_ qo so, cell0_ k qo so, cell1_ k qo so, cell4_ k qo so, cell3_ k qo so, cell2_ k qo so] H := hP
            have hD : va_D A [cell157_ qh so (-9), (qh 1, .inl (k 0, 5, .inl g1)), (qh 2, .inl (k 0, 5, .inl g2)), (qh 3, .inl (k 0, 3, .inl g3)), (qh 4, .inl (k 0, 3, .inl g4)), (qh 5, .inl (k 0, 525, .inl m47)), cell32_ qo so, cell0_ k qo so, cell1_ k qo so, cell4_ k qo so, cell3_ k qo so, cell2_ k qo so] := hD
            have w48 : SUok m47 := hw45
            clear hw45
            have hlit49 : ((-9) : Int32).toInt = -9 := by decide
            rw [hQ]
            exact x_v cx hr ((so 0 0), (so 0 1), g1, g2, g3, g4, (so 0 6), (so 0 7), (so 0 8), (so 0 9), (-9), (so 0 11), (so 0 12), m47) hP hD hS ⟨(show 0 ≤ (so 0 0).toInt ∧ (so 0 0).toInt ≤ 5 from by omega), (show 0 ≤ (so 0 1).toInt ∧ (so 0 1).toInt ≤ 4 from by omega), (show 0 ≤ (so 0 12).toInt ∧ (so 0 12).toInt ≤ 5 from by omega), ag2, ag3, (show SUok m47 from by assumption), (show (so 0 0).toInt = (so 0 0).toInt from by omega), (show ((so 0 0), (so 0 1), g1, g2, g3, g4, (so 0 6), (so 0 7), (so 0 8), (so 0 9), ((-9) : Int32), (so 0 11), (so 0 12)) = J_X4_copy sh so p0 from by subst eg1 eg2 eg3 eg4 e5 e7 e9 e41 e43; first | (refine Eq.symm ?_; refine Eq.trans (if_pos c6) ?_; refine Eq.trans (if_pos c8) ?_; refine Eq.trans (if_neg c10) ?_; refine Eq.trans (if_pos c42) ?_; refine Eq.trans (if_pos c44) ?_; rfl) | (unfold J_X4_copy; try dsimp only; rw [if_pos c6, if_pos c8, if_neg c10, if_pos c42, if_pos c44]))⟩ dX4_copy_188
          · have f44 : ¬ v43.toInt = 0 := f_ne rfl (by decide) c44
            refine lv_iconst (v := 0) hx hb dX4_copy_173 (by decide) ?_
            refine lv_goto (tgt := 181) hx hb dX4_copy_174 (by decide) ?_
            refine g_pt cx hP hD hS iw_X4_copy_X4 tyX4 tyX4_ok nmX4 0 rfl rfl 12 (by decide) rfl fw_X4_copy_63 (ty := .int) rfl rfl rfl (Nat.le_of_ble_eq_true rfl) dX4_copy_181 (fun H locs hP hD hS => ?_)
            have hP : va_P D vwCl [cell170_ qh so (-9) 0, (qh 1, .inl (k 0, 5, .inl g1)), (qh 2, .inl (k 0, 5, .inl g2)), (qh 3, .inl (k 0, 3, .inl g3)), (qh 4, .inl (k 0, 3, .inl g4)), cell2_ k qh sh, cell32_ qo so, cell0_ k qo so, cell1_ k qo so, cell4_ k qo so, cell3_ k qo so, cell2_ k qo so] H := hP
            have hD : va_D A [cell170_ qh so (-9) 0, (qh 1, .inl (k 0, 5, .inl g1)), (qh 2, .inl (k 0, 5, .inl g2)), (qh 3, .inl (k 0, 3, .inl g3)), (qh 4, .inl (k 0, 3, .inl g4)), cell2_ k qh sh, cell32_ qo so, cell0_ k qo so, cell1_ k qo so, cell4_ k qo so, cell3_ k qo so, cell2_ k qo so] := hD
            have hlit50 : (0 : Int32).toInt = 0 := by decide
            refine lv_aload_n hx hb dX4_copy_184 rfl (lv_at hl 0 rfl) ?_
            refine g_v (w1 := fun (u : (Nat → Int32)) => [cell170_ qh so (-9) 0, (qh 1, .inl (k 0, 5, .inl g1)), (qh 2, .inl (k 0, 5, .inl g2)), (qh 3, .inl (k 0, 3, .inl g3)), (qh 4, .inl (k 0, 3, .inl g4)), (qh 5, .inl (k 0, 525, .inl u))]) (g_runV (wc := [cell170_ qh so (-9) 0, (qh 1, .inl (k 0, 5, .inl g1)), (qh 2, .inl (k 0, 5, .inl g2)), (qh 3, .inl (k 0, 3, .inl g3)), (qh 4, .inl (k 0, 3, .inl g4)), cell2_ k qh sh]) (rest := []) cx hP hD hS [0, 1, 2, 3, 4, 5] rfl (by decide) [] (c_X4_settle l D k b qh (up2 (up2 (up2 (up2 (up2 sh 0 (upd (upd (upd (upd (upd (upd (upd (upd (upd (sh 0) 0 (so 0 0)) 1 (so 0 1)) 6 (so 0 6)) 7 (so 0 7)) 8 (so 0 8)) 9 (so 0 9)) 10 (-9)) 11 (so 0 11)) 12 0)) 1 g1) 2 g2) 3 g3) 4 g4) H.size (show 0 ≤ (0 : Int32).toInt ∧ (0 : Int32).toInt ≤ 5 from by first | decide | omega) ag3) gX4_copy_X4_settle rfl rfl rfl nd_X4_settle ⟨Nat.le_of_ble_eq_true rfl, Nat.le_of_ble_eq_true rfl⟩ (ci := 2) (q0 := 0) rfl rfl rfl hl.1 rfl (Nat.le_of_ble_eq_true rfl) ⟨Nat.zero_le _, Nat.zero_le _⟩ dX4_copy_185) cx.2.2.1 hP hD hS [0, 1, 2, 3, 4, 5] rfl (fun _ => rfl) (fun u52 H locs hw51 hP hD hS => ?_)
            obtain ⟨m53, rfl⟩ : ∃ z, z = u52 := ⟨_, rfl⟩
            have hP : va_P D vwCl [cell170_ qh so (-9) 0, (qh 1, .inl (k 0, 5, .inl g1)), (qh 2, .inl (k 0, 5, .inl g2)), (qh 3, .inl (k 0, 3, .inl g3)), (qh 4, .inl (k 0, 3, .inl g4)), (qh 5, .inl (k 0, 525, .inl m53)), cell32_ qo so, cell0_ k qo so, cell1_ k qo so, cell4_ k qo so, cell3_ k qo so, cell2_ k qo so] H := hP
            have hD : va_D A [cell170_ qh so (-9) 0, (qh 1, .inl (k 0, 5, .inl g1)), (qh 2, .inl (k 0, 5, .inl g2)), (qh 3, .inl (k 0, 3, .inl g3)), (qh 4, .inl (k 0, 3, .inl g4)), (qh 5, .inl (k 0, 525, .inl m53)), cell32_ qo so, cell0_ k qo so, cell1_ k qo so, cell4_ k qo so, cell3_ k qo so, cell2_ k qo so] := hD
            have w54 : SUok m53 := hw51
            clear hw51
            have hlit55 : ((-9) : Int32).toInt = -9 := by decide
            have hlit56 : (0 : Int32).toInt = 0 := by decide
            rw [hQ]
            exact x_v cx hr ((so 0 0), (so 0 1), g1, g2, g3, g4, (so 0 6), (so 0 7), (so 0 8), (so 0 9), (-9), (so 0 11), 0, m53) hP hD hS ⟨(show 0 ≤ (so 0 0).toInt ∧ (so 0 0).toInt ≤ 5 from by omega), (show 0 ≤ (so 0 1).toInt ∧ (so 0 1).toInt ≤ 4 from by omega), (show 0 ≤ (0 : Int32).toInt ∧ (0 : Int32).toInt ≤ 5 from by omega), ag2, ag3, (show SUok m53 from by assumption), (show (so 0 0).toInt = (so 0 0).toInt from by omega), (show ((so 0 0), (so 0 1), g1, g2, g3, g4, (so 0 6), (so 0 7), (so 0 8), (so 0 9), ((-9) : Int32), (so 0 11), (0 : Int32)) = J_X4_copy sh so p0 from by subst eg1 eg2 eg3 eg4 e5 e7 e9 e41 e43; first | (refine Eq.symm ?_; refine Eq.trans (if_pos c6) ?_; refine Eq.trans (if_pos c8) ?_; refine Eq.trans (if_neg c10) ?_; refine Eq.trans (if_pos c42) ?_; refine Eq.trans (if_neg c44) ?_; rfl) | (unfold J_X4_copy; try dsimp only; rw [if_pos c6, if_pos c8, if_neg c10, if_pos c42, if_neg c44]))⟩ dX4_copy_188
        · have f42 : ¬ v41.toInt = 0 := f_ne rfl (by decide) c42
          refine lv_bipush (v := (-9)) hx hb dX4_copy_153 (by decide) ?_
          refine lv_goto (tgt := 162) hx hb dX4_copy_155 (by decide) ?_
          refine g_pt cx hP hD hS iw_X4_copy_X4 tyX4 tyX4_ok nmX4 0 rfl rfl 11 (by decide) rfl fw_X4_copy_60 (ty := .int) rfl rfl rfl (Nat.le_of_ble_eq_true rfl) dX4_copy_162 (fun H locs hP hD hS => ?_)
          have hP : va_P D vwCl [(qh 0, .inr (2, [.int (so 0 0), .int (so 0 1), .ref (qh 1), .ref (qh 2), .ref (qh 3), .ref (qh 4), .int (so 0 6), .int (so 0 7), .int (so 0 8), .int (so 0 9), .int (-9), .int (-9), .int (sh 0 12), .ref (qh 5)])), (qh 1, .inl (k 0, 5, .inl g1)), (qh 2, .inl (k 0, 5, .inl g2)), (qh 3, .inl (k 0, 3, .inl g3)), (qh 4, .inl (k 0, 3, .inl g4)), cell2_ k qh sh, cell32_ qo so, cell0_ k qo so, cell1_ k qo so, cell4_ k qo so, cell3_ k qo so, cell2_ k qo so] H := hP
          have hD : va_D A [(qh 0, .inr (2, [.int (so 0 0), .int (so 0 1), .ref (qh 1), .ref (qh 2), .ref (qh 3), .ref (qh 4), .int (so 0 6), .int (so 0 7), .int (so 0 8), .int (so 0 9), .int (-9), .int (-9), .int (sh 0 12), .ref (qh 5)])), (qh 1, .inl (k 0, 5, .inl g1)), (qh 2, .inl (k 0, 5, .inl g2)), (qh 3, .inl (k 0, 3, .inl g3)), (qh 4, .inl (k 0, 3, .inl g4)), cell2_ k qh sh, cell32_ qo so, cell0_ k qo so, cell1_ k qo so, cell4_ k qo so, cell3_ k qo so, cell2_ k qo so] := hD
          have hlit57 : ((-9) : Int32).toInt = -9 := by decide
          refine lv_aload_n hx hb dX4_copy_165 rfl (lv_at hl 0 rfl) ?_
          refine lv_iload_n hx hb dX4_copy_166 rfl (lv_at hl 2 rfl) ?_
          refine lv_bipush (v := 8) hx hb dX4_copy_167 (by decide) ?_
          refine lv_iand hx hb dX4_copy_169 (lv_topi (fun v58 e58 => ?_))
          have t58 : 0 ≤ v58.toInt ∧ v58.toInt ≤ 8 := by rw [e58]; exact and_r (by decide) (by omega)
          refine lv_if_eq (tgt := 177) hx hb dX4_copy_170 (by decide) (fun c59 => ?_) (fun c59 => ?_)
          · have f59 : v58.toInt = 0 := f_eq rfl (by decide) c59
            refine lv_aload_n hx hb dX4_copy_177 rfl (lv_at hl 1 rfl) ?_
            refine g_get cx hP iw_X4_copy_X4 6 rfl rfl 12 (by decide) rfl fw_X4_copy_63 rfl dX4_copy_178 ?_
            refine g_pt cx hP hD hS iw_X4_copy_X4 tyX4 tyX4_ok nmX4 0 rfl rfl 12 (by decide) rfl fw_X4_copy_63 (ty := .int) rfl rfl rfl (Nat.le_of_ble_eq_true rfl) dX4_copy_181 (fun H locs hP hD hS => ?_)
            have hP : va_P D vwCl [cell171_ qh so (-9) (-9), (qh 1, .inl (k 0, 5, .inl g1)), (qh 2, .inl (k 0, 5, .inl g2)), (qh 3, .inl (k 0, 3, .inl g3)), (qh 4, .inl (k 0, 3, .inl g4)), cell2_ k qh sh, cell32_ qo so, cell0_ k qo so, cell1_ k qo so, cell4_ k qo so, cell3_ k qo so, cell2_ k qo so] H := hP
            have hD : va_D A [cell171_ qh so (-9) (-9), (qh 1, .inl (k 0, 5, .inl g1)), (qh 2, .inl (k 0, 5, .inl g2)), (qh 3, .inl (k 0, 3, .inl g3)), (qh 4, .inl (k 0, 3, .inl g4)), cell2_ k qh sh, cell32_ qo so, cell0_ k qo so, cell1_ k qo so, cell4_ k qo so, cell3_ k qo so, cell2_ k qo so] := hD
            refine lv_aload_n hx hb dX4_copy_184 rfl (lv_at hl 0 rfl) ?_
            refine g_v (w1 := fun (u : (Nat → Int32)) => [cell171_ qh so (-9) (-9), (qh 1, .inl (k 0, 5, .inl g1)), (qh 2, .inl (k 0, 5, .inl g2)), (qh 3, .inl (k 0, 3, .inl g3)), (qh 4, .inl (k 0, 3, .inl g4)), (qh 5, .inl (k 0, 525, .inl u))]) (g_runV (wc := [cell171_ qh so (-9) (-9), (qh 1, .inl (k 0, 5, .inl g1)), (qh 2, .inl (k 0, 5, .inl g2)), (qh 3, .inl (k 0, 3, .inl g3)), (qh 4, .inl (k 0, 3, .inl g4)), cell2_ k qh sh]) (rest := []) cx hP hD hS [0, 1, 2, 3, 4, 5] rfl (by decide) [] (c_X4_settle l D k b qh (up2 (up2 (up2 (up2 (up2 sh 0 (upd (upd (upd (upd (upd (upd (upd (upd (upd (sh 0) 0 (so 0 0)) 1 (so 0 1)) 6 (so 0 6)) 7 (so 0 7)) 8 (so 0 8)) 9 (so 0 9)) 10 (-9)) 11 (-9)) 12 (so 0 12))) 1 g1) 2 g2) 3 g3) 4 g4) H.size (show 0 ≤ (so 0 12).toInt ∧ (so 0 12).toInt ≤ 5 from by first | decide | omega) ag3) gX4_copy_X4_settle rfl rfl rfl nd_X4_settle ⟨Nat.le_of_ble_eq_true rfl, Nat.le_of_ble_eq_true rfl⟩ (ci := 2) (q0 := 0) rfl rfl rfl hl.1 rfl (Nat.le_of_ble_eq_true rfl) ⟨Nat.zero_le _, Nat.zero_le _⟩ dX4_copy_185) cx.2.2.1 hP hD hS [0, 1, 2, 3, 4, 5] rfl (fun _ => rfl) (fun u61 H locs hw60 hP hD hS => ?_)
            obtain ⟨m62, rfl⟩ : ∃ z, z = u61 := ⟨_, rfl⟩
            have hP : va_P D vwCl [cell171_ qh so (-9) (-9), (qh 1, .inl (k 0, 5, .inl g1)), (qh 2, .inl (k 0, 5, .inl g2)), (qh 3, .inl (k 0, 3, .inl g3)), (qh 4, .inl (k 0, 3, .inl g4)), (qh 5, .inl (k 0, 525, .inl m62)), cell32_ qo so, cell0_ k qo so, cell1_ k qo so, cell4_ k qo so, cell3_ k qo so, cell2_ k qo so] H := hP
            have hD : va_D A [cell171_ qh so (-9) (-9), (qh 1, .inl (k 0, 5, .inl g1)), (qh 2, .inl (k 0, 5, .inl g2)), (qh 3, .inl (k 0, 3, .inl g3)), (qh 4, .inl (k 0, 3, .inl g4)), (qh 5, .inl (k 0, 525, .inl m62)), cell32_ qo so, cell0_ k qo so, cell1_ k qo so, cell4_ k qo so, cell3_ k qo so, cell2_ k qo so] := hD
            have w63 : SUok m62 := hw60
            clear hw60
            have hlit64 : ((-9) : Int32).toInt = -9 := by decide
            have hlit65 : ((-9) : Int32).toInt = -9 := by decide
            rw [hQ]
            exact x_v cx hr ((so 0 0), (so 0 1), g1, g2, g3, g4, (so 0 6), (so 0 7), (so 0 8), (so 0 9), (-9), (-9), (so 0 12), m62) hP hD hS ⟨(show 0 ≤ (so 0 0).toInt ∧ (so 0 0).toInt ≤ 5 from by omega), (show 0 ≤ (so 0 1).toInt ∧ (so 0 1).toInt ≤ 4 from by omega), (show 0 ≤ (so 0 12).toInt ∧ (so 0 12).toInt ≤ 5 from by omega), ag2, ag3, (show SUok m62 from by assumption), (show (so 0 0).toInt = (so 0 0).toInt from by omega), (show ((so 0 0), (so 0 1), g1, g2, g3, g4, (so 0 6), (so 0 7), (so 0 8), (so 0 9), ((-9) : Int32), ((-9) : Int32), (so 0 12)) = J_X4_copy sh so p0 from by subst eg1 eg2 eg3 eg4 e5 e7 e9 e41 e58; first | (refine Eq.symm ?_; refine Eq.trans (if_pos c6) ?_; refine Eq.trans (if_pos c8) ?_; refine Eq.trans (if_neg c10) ?_; refine Eq.trans (if_neg c42) ?_; refine Eq.trans (if_pos c59) ?_; rfl) | (unfold J_X4_copy; try dsimp only; rw [if_pos c6, if_pos c8, if_neg c10, if_neg c42, if_pos c59]))⟩ dX4_copy_188
          · have f59 : ¬ v58.toInt = 0 := f_ne rfl (by decide) c59
            refine lv_iconst (v := 0) hx hb dX4_copy_173 (by decide) ?_
            refine lv_goto (tgt := 181) hx hb dX4_copy_174 (by decide) ?_
            refine g_pt cx hP hD hS iw_X4_copy_X4 tyX4 tyX4_ok nmX4 0 rfl rfl 12 (by decide) rfl fw_X4_copy_63 (ty := .int) rfl rfl rfl (Nat.le_of_ble_eq_true rfl) dX4_copy_181 (fun H locs hP hD hS => ?_)
            have hP : va_P D vwCl [cell172_ qh so (-9) (-9) 0, (qh 1, .inl (k 0, 5, .inl g1)), (qh 2, .inl (k 0, 5, .inl g2)), (qh 3, .inl (k 0, 3, .inl g3)), (qh 4, .inl (k 0, 3, .inl g4)), cell2_ k qh sh, cell32_ qo so, cell0_ k qo so, cell1_ k qo so, cell4_ k qo so, cell3_ k qo so, cell2_ k qo so] H := hP
            have hD : va_D A [cell172_ qh so (-9) (-9) 0, (qh 1, .inl (k 0, 5, .inl g1)), (qh 2, .inl (k 0, 5, .inl g2)), (qh 3, .inl (k 0, 3, .inl g3)), (qh 4, .inl (k 0, 3, .inl g4)), cell2_ k qh sh, cell32_ qo so, cell0_ k qo so, cell1_ k qo so, cell4_ k qo so, cell3_ k qo so, cell2_ k qo so] := hD
            have hlit66 : (0 : Int32).toInt = 0 := by decide
            refine lv_aload_n hx hb dX4_copy_184 rfl (lv_at hl 0 rfl) ?_
            refine g_v (w1 := fun (u : (Nat → Int32)) => [cell172_ qh so (-9) (-9) 0, (qh 1, .inl (k 0, 5, .inl g1)), (qh 2, .inl (k 0, 5, .inl g2)), (qh 3, .inl (k 0, 3, .inl g3)), (qh 4, .inl (k 0, 3, .inl g4)), (qh 5, .inl (k 0, 525, .inl u))]) (g_runV (wc := [cell172_ qh so (-9) (-9) 0, (qh 1, .inl (k 0, 5, .inl g1)), (qh 2, .inl (k 0, 5, .inl g2)), (qh 3, .inl (k 0, 3, .inl g3)), (qh 4, .inl (k 0, 3, .inl g4)), cell2_ k qh sh]) (rest := []) cx hP hD hS [0, 1, 2, 3, 4, 5] rfl (by decide) [] (c_X4_settle l D k b qh (up2 (up2 (up2 (up2 (up2 sh 0 (upd (upd (upd (upd (upd (upd (upd (upd (upd (sh 0) 0 (so 0 0)) 1 (so 0 1)) 6 (so 0 6)) 7 (so 0 7)) 8 (so 0 8)) 9 (so 0 9)) 10 (-9)) 11 (-9)) 12 0)) 1 g1) 2 g2) 3 g3) 4 g4) H.size (show 0 ≤ (0 : Int32).toInt ∧ (0 : Int32).toInt ≤ 5 from by first | decide | omega) ag3) gX4_copy_X4_settle rfl rfl rfl nd_X4_settle ⟨Nat.le_of_ble_eq_true rfl, Nat.le_of_ble_eq_true rfl⟩ (ci := 2) (q0 := 0) rfl rfl rfl hl.1 rfl (Nat.le_of_ble_eq_true rfl) ⟨Nat.zero_le _, Nat.zero_le _⟩ dX4_copy_185) cx.2.2.1 hP hD hS [0, 1, 2, 3, 4, 5] rfl (fun _ => rfl) (fun u68 H locs hw67 hP hD hS => ?_)
            obtain ⟨m69, rfl⟩ : ∃ z, z = u68 := ⟨_, rfl⟩
            have hP : va_P D vwCl [cell172_ qh so (-9) (-9) 0, (qh 1, .inl (k 0, 5, .inl g1)), (qh 2, .inl (k 0, 5, .inl g2)), (qh 3, .inl (k 0, 3, .inl g3)), (qh 4, .inl (k 0, 3, .inl g4)), (qh 5, .inl (k 0, 525, .inl m69)), cell32_ qo so, cell0_ k qo so, cell1_ k qo so, cell4_ k qo so, cell3_ k qo so, cell2_ k qo so] H := hP
            have hD : va_D A [cell172_ qh so (-9) (-9) 0, (qh 1, .inl (k 0, 5, .inl g1)), (qh 2, .inl (k 0, 5, .inl g2)), (qh 3, .inl (k 0, 3, .inl g3)), (qh 4, .inl (k 0, 3, .inl g4)), (qh 5, .inl (k 0, 525, .inl m69)), cell32_ qo so, cell0_ k qo so, cell1_ k qo so, cell4_ k qo so, cell3_ k qo so, cell2_ k qo so] := hD
            have w70 : SUok m69 := hw67
            clear hw67
            have hlit71 : ((-9) : Int32).toInt = -9 := by decide
            have hlit72 : ((-9) : Int32).toInt = -9 := by decide
            have hlit73 : (0 : Int32).toInt = 0 := by decide
            rw [hQ]
            exact x_v cx hr ((so 0 0), (so 0 1), g1, g2, g3, g4, (so 0 6), (so 0 7), (so 0 8), (so 0 9), (-9), (-9), 0, m69) hP hD hS ⟨(show 0 ≤ (so 0 0).toInt ∧ (so 0 0).toInt ≤ 5 from by omega), (show 0 ≤ (so 0 1).toInt ∧ (so 0 1).toInt ≤ 4 from by omega), (show 0 ≤ (0 : Int32).toInt ∧ (0 : Int32).toInt ≤ 5 from by omega), ag2, ag3, (show SUok m69 from by assumption), (show (so 0 0).toInt = (so 0 0).toInt from by omega), (show ((so 0 0), (so 0 1), g1, g2, g3, g4, (so 0 6), (so 0 7), (so 0 8), (so 0 9), ((-9) : Int32), ((-9) : Int32), (0 : Int32)) = J_X4_copy sh so p0 from by subst eg1 eg2 eg3 eg4 e5 e7 e9 e41 e58; first | (refine Eq.symm ?_; refine Eq.trans (if_pos c6) ?_; refine Eq.trans (if_pos c8) ?_; refine Eq.trans (if_neg c10) ?_; refine Eq.trans (if_neg c42) ?_; refine Eq.trans (if_neg c59) ?_; rfl) | (unfold J_X4_copy; try dsimp only; rw [if_pos c6, if_pos c8, if_neg c10, if_neg c42, if_neg c59]))⟩ dX4_copy_188
    · have f8 : ¬ v7.toInt = 0 := f_ne rfl (by decide) c8
      refine lv_bipush (v := (-9)) hx hb dX4_copy_114 (by decide) ?_
      refine lv_goto (tgt := 123) hx hb dX4_copy_116 (by decide) ?_
      refine g_pt cx hP hD hS iw_X4_copy_X4 tyX4 tyX4_ok nmX4 0 rfl rfl 9 (by decide) rfl fw_X4_copy_54 (ty := .int) rfl rfl rfl (Nat.le_of_ble_eq_true rfl) dX4_copy_123 (fun H locs hP hD hS => ?_)
      have hP : va_P D vwCl [(qh 0, .inr (2, [.int (so 0 0), .int (so 0 1), .ref (qh 1), .ref (qh 2), .ref (qh 3), .ref (qh 4), .int (so 0 6), .int (so 0 7), .int (so 0 8), .int (-9), .int (sh 0 10), .int (sh 0 11), .int (sh 0 12), .ref (qh 5)])), (qh 1, .inl (k 0, 5, .inl g1)), (qh 2, .inl (k 0, 5, .inl g2)), (qh 3, .inl (k 0, 3, .inl g3)), (qh 4, .inl (k 0, 3, .inl g4)), cell2_ k qh sh, cell32_ qo so, cell0_ k qo so, cell1_ k qo so, cell4_ k qo so, cell3_ k qo so, cell2_ k qo so] H := hP
      have hD : va_D A [(qh 0, .inr (2, [.int (so 0 0), .int (so 0 1), .ref (qh 1), .ref (qh 2), .ref (qh 3), .ref (qh 4), .int (so 0 6), .int (so 0 7), .int (so 0 8), .int (-9), .int (sh 0 10), .int (sh 0 11), .int (sh 0 12), .ref (qh 5)])), (qh 1, .inl (k 0, 5, .inl g1)), (qh 2, .inl (k 0, 5, .inl g2)), (qh 3, .inl (k 0, 3, .inl g3)), (qh 4, .inl (k 0, 3, .inl g4)), cell2_ k qh sh, cell32_ qo so, cell0_ k qo so, cell1_ k qo so, cell4_ k qo so, cell3_ k qo so, cell2_ k qo so] := hD
      have hlit74 : ((-9) : Int32).toInt = -9 := by decide
      refine lv_aload_n hx hb dX4_copy_126 rfl (lv_at hl 0 rfl) ?_
      refine lv_iload_n hx hb dX4_copy_127 rfl (lv_at hl 2 rfl) ?_
      refine lv_iconst (v := 4) hx hb dX4_copy_128 (by decide) ?_
      refine lv_iand hx hb dX4_copy_129 (lv_topi (fun v75 e75 => ?_))
      have t75 : 0 ≤ v75.toInt ∧ v75.toInt ≤ 4 := by rw [e75]; exact and_r (by decide) (by omega)
      refine lv_if_eq (tgt := 138) hx hb dX4_copy_130 (by decide) (fun c76 => ?_) (fun c76 => ?_)
      · have f76 : v75.toInt = 0 := f_eq rfl (by decide) c76
        refine lv_aload_n hx hb dX4_copy_138 rfl (lv_at hl 1 rfl) ?_
        refine g_get cx hP iw_X4_copy_X4 6 rfl rfl 10 (by decide) rfl fw_X4_copy_57 rfl dX4_copy_139 ?_
        refine g_pt cx hP hD hS iw_X4_copy_X4 tyX4 tyX4_ok nmX4 0 rfl rfl 10 (by decide) rfl fw_X4_copy_57 (ty := .int) rfl rfl rfl (Nat.le_of_ble_eq_true rfl) dX4_copy_142 (fun H locs hP hD hS => ?_)
        have hP : va_P D vwCl [(qh 0, .inr (2, [.int (so 0 0), .int (so 0 1), .ref (qh 1), .ref (qh 2), .ref (qh 3), .ref (qh 4), .int (so 0 6), .int (so 0 7), .int (so 0 8), .int (-9), .int (so 0 10), .int (sh 0 11), .int (sh 0 12), .ref (qh 5)])), (qh 1, .inl (k 0, 5, .inl g1)), (qh 2, .inl (k 0, 5, .inl g2)), (qh 3, .inl (k 0, 3, .inl g3)), (qh 4, .inl (k 0, 3, .inl g4)), cell2_ k qh sh, cell32_ qo so, cell0_ k qo so, cell1_ k qo so, cell4_ k qo so, cell3_ k qo so, cell2_ k qo so] H := hP
        have hD : va_D A [(qh 0, .inr (2, [.int (so 0 0), .int (so 0 1), .ref (qh 1), .ref (qh 2), .ref (qh 3), .ref (qh 4), .int (so 0 6), .int (so 0 7), .int (so 0 8), .int (-9), .int (so 0 10), .int (sh 0 11), .int (sh 0 12), .ref (qh 5)])), (qh 1, .inl (k 0, 5, .inl g1)), (qh 2, .inl (k 0, 5, .inl g2)), (qh 3, .inl (k 0, 3, .inl g3)), (qh 4, .inl (k 0, 3, .inl g4)), cell2_ k qh sh, cell32_ qo so, cell0_ k qo so, cell1_ k qo so, cell4_ k qo so, cell3_ k qo so, cell2_ k qo so] := hD
        refine lv_aload_n hx hb dX4_copy_145 rfl (lv_at hl 0 rfl) ?_
        refine lv_iload_n hx hb dX4_copy_146 rfl (lv_at hl 2 rfl) ?_
        refine lv_bipush (v := 8) hx hb dX4_copy_147 (by decide) ?_
        refine lv_iand hx hb dX4_copy_149 (lv_topi (fun v77 e77 => ?_))
        have t77 : 0 ≤ v77.toInt ∧ v77.toInt ≤ 8 := by rw [e77]; exact and_r (by decide) (by omega)
        refine lv_if_eq (tgt := 158) hx hb dX4_copy_150 (by decide) (fun c78 => ?_) (fun c78 => ?_)
        · have f78 : v77.toInt = 0 := f_eq rfl (by decide) c78
          refine lv_aload_n hx hb dX4_copy_158 rfl (lv_at hl 1 rfl) ?_
          refine g_get cx hP iw_X4_copy_X4 6 rfl rfl 11 (by decide) rfl fw_X4_copy_60 rfl dX4_copy_159 ?_
          refine g_pt cx hP hD hS iw_X4_copy_X4 tyX4 tyX4_ok nmX4 0 rfl rfl 11 (by decide) rfl fw_X4_copy_60 (ty := .int) rfl rfl rfl (Nat.le_of_ble_eq_true rfl) dX4_copy_162 (fun H locs hP hD hS => ?_)
          have hP : va_P D vwCl [(qh 0, .inr (2, [.int (so 0 0), .int (so 0 1), .ref (qh 1), .ref (qh 2), .ref (qh 3), .ref (qh 4), .int (so 0 6), .int (so 0 7), .int (so 0 8), .int (-9), .int (so 0 10), .int (so 0 11), .int (sh 0 12), .ref (qh 5)])), (qh 1, .inl (k 0, 5, .inl g1)), (qh 2, .inl (k 0, 5, .inl g2)), (qh 3, .inl (k 0, 3, .inl g3)), (qh 4, .inl (k 0, 3, .inl g4)), cell2_ k qh sh, cell32_ qo so, cell0_ k qo so, cell1_ k qo so, cell4_ k qo so, cell3_ k qo so, cell2_ k qo so] H := hP
          have hD : va_D A [(qh 0, .inr (2, [.int (so 0 0), .int (so 0 1), .ref (qh 1), .ref (qh 2), .ref (qh 3), .ref (qh 4), .int (so 0 6), .int (so 0 7), .int (so 0 8), .int (-9), .int (so 0 10), .int (so 0 11), .int (sh 0 12), .ref (qh 5)])), (qh 1, .inl (k 0, 5, .inl g1)), (qh 2, .inl (k 0, 5, .inl g2)), (qh 3, .inl (k 0, 3, .inl g3)), (qh 4, .inl (k 0, 3, .inl g4)), cell2_ k qh sh, cell32_ qo so, cell0_ k qo so, cell1_ k qo so, cell4_ k qo so, cell3_ k qo so, cell2_ k qo so] := hD
          refine lv_aload_n hx hb dX4_copy_165 rfl (lv_at hl 0 rfl) ?_
          refine lv_iload_n hx hb dX4_copy_166 rfl (lv_at hl 2 rfl) ?_
          refine lv_bipush (v := 8) hx hb dX4_copy_167 (by decide) ?_
          refine lv_iand hx hb dX4_copy_169 (lv_topi (fun v79 e79 => ?_))
          have t79 : 0 ≤ v79.toInt ∧ v79.toInt ≤ 8 := by rw [e79]; exact and_r (by decide) (by omega)
          refine lv_if_eq (tgt := 177) hx hb dX4_copy_170 (by decide) (fun c80 => ?_) (fun c80 => ?_)
          · have f80 : v79.toInt = 0 := f_eq rfl (by decide) c80
            refine lv_aload_n hx hb dX4_copy_177 rfl (lv_at hl 1 rfl) ?_
            refine g_get cx hP iw_X4_copy_X4 6 rfl rfl 12 (by decide) rfl fw_X4_copy_63 rfl dX4_copy_178 ?_
            refine g_pt cx hP hD hS iw_X4_copy_X4 tyX4 tyX4_ok nmX4 0 rfl rfl 12 (by decide) rfl fw_X4_copy_63 (ty := .int) rfl rfl rfl (Nat.le_of_ble_eq_true rfl) dX4_copy_181 (fun H locs hP hD hS => ?_)
            have hP : va_P D vwCl [cell161_ qh so (-9), (qh 1, .inl (k 0, 5, .inl g1)), (qh 2, .inl (k 0, 5, .inl g2)), (qh 3, .inl (k 0, 3, .inl g3)), (qh 4, .inl (k 0, 3, .inl g4)), cell2_ k qh sh, cell32_ qo so, cell0_ k qo so, cell1_ k qo so, cell4_ k qo so, cell3_ k qo so, cell2_ k qo so] H := hP
            have hD : va_D A [cell161_ qh so (-9), (qh 1, .inl (k 0, 5, .inl g1)), (qh 2, .inl (k 0, 5, .inl g2)), (qh 3, .inl (k 0, 3, .inl g3)), (qh 4, .inl (k 0, 3, .inl g4)), cell2_ k qh sh, cell32_ qo so, cell0_ k qo so, cell1_ k qo so, cell4_ k qo so, cell3_ k qo so, cell2_ k qo so] := hD
            refine lv_aload_n hx hb dX4_copy_184 rfl (lv_at hl 0 rfl) ?_
            refine g_v (w1 := fun (u : (Nat → Int32)) => [cell161_ qh so (-9), (qh 1, .inl (k 0, 5, .inl g1)), (qh 2, .inl (k 0, 5, .inl g2)), (qh 3, .inl (k 0, 3, .inl g3)), (qh 4, .inl (k 0, 3, .inl g4)), (qh 5, .inl (k 0, 525, .inl u))]) (g_runV (wc := [cell161_ qh so (-9), (qh 1, .inl (k 0, 5, .inl g1)), (qh 2, .inl (k 0, 5, .inl g2)), (qh 3, .inl (k 0, 3, .inl g3)), (qh 4, .inl (k 0, 3, .inl g4)), cell2_ k qh sh]) (rest := []) cx hP hD hS [0, 1, 2, 3, 4, 5] rfl (by decide) [] (c_X4_settle l D k b qh (up2 (up2 (up2 (up2 (up2 sh 0 (upd (upd (upd (upd (upd (upd (upd (upd (upd (sh 0) 0 (so 0 0)) 1 (so 0 1)) 6 (so 0 6)) 7 (so 0 7)) 8 (so 0 8)) 9 (-9)) 10 (so 0 10)) 11 (so 0 11)) 12 (so 0 12))) 1 g1) 2 g2) 3 g3) 4 g4) H.size (show 0 ≤ (so 0 12).toInt ∧ (so 0 12).toInt ≤ 5 from by first | decide | omega) ag3) gX4_copy_X4_settle rfl rfl rfl nd_X4_settle ⟨Nat.le_of_ble_eq_true rfl, Nat.le_of_ble_eq_true rfl⟩ (ci := 2) (q0 := 0) rfl rfl rfl hl.1 rfl (Nat.le_of_ble_eq_true rfl) ⟨Nat.zero_le _, Nat.zero_le _⟩ dX4_copy_185) cx.2.2.1 hP hD hS [0, 1, 2, 3, 4, 5] rfl (fun _ => rfl) (fun u82 H locs hw81 hP hD hS => ?_)
            obtain ⟨m83, rfl⟩ : ∃ z, z = u82 := ⟨_, rfl⟩
            have hP : va_P D vwCl [cell161_ qh so (-9), (qh 1, .inl (k 0, 5, .inl g1)), (qh 2, .inl (k 0, 5, .inl g2)), (qh 3, .inl (k 0, 3, .inl g3)), (qh 4, .inl (k 0, 3, .inl g4)), (qh 5, .inl (k 0, 525, .inl m83)), cell32_ qo so, cell0_ k qo so, cell1_ k qo so, cell4_ k qo so, cell3_ k qo so, cell2_ k qo so] H := hP
            have hD : va_D A [cell161_ qh so (-9), (qh 1, .inl (k 0, 5, .inl g1)), (qh 2, .inl (k 0, 5, .inl g2)), (qh 3, .inl (k 0, 3, .inl g3)), (qh 4, .inl (k 0, 3, .inl g4)), (qh 5, .inl (k 0, 525, .inl m83)), cell32_ qo so, cell0_ k qo so, cell1_ k qo so, cell4_ k qo so, cell3_ k qo so, cell2_ k qo so] := hD
            have w84 : SUok m83 := hw81
            clear hw81
            have hlit85 : ((-9) : Int32).toInt = -9 := by decide
            rw [hQ]
            exact x_v cx hr ((so 0 0), (so 0 1), g1, g2, g3, g4, (so 0 6), (so 0 7), (so 0 8), (-9), (so 0 10), (so 0 11), (so 0 12), m83) hP hD hS ⟨(show 0 ≤ (so 0 0).toInt ∧ (so 0 0).toInt ≤ 5 from by omega), (show 0 ≤ (so 0 1).toInt ∧ (so 0 1).toInt ≤ 4 from by omega), (show 0 ≤ (so 0 12).toInt ∧ (so 0 12).toInt ≤ 5 from by omega), ag2, ag3, (show SUok m83 from by assumption), (show (so 0 0).toInt = (so 0 0).toInt from by omega), (show ((so 0 0), (so 0 1), g1, g2, g3, g4, (so 0 6), (so 0 7), (so 0 8), ((-9) : Int32), (so 0 10), (so 0 11), (so 0 12)) = J_X4_copy sh so p0 from by subst eg1 eg2 eg3 eg4 e5 e7 e75 e77 e79; first | (refine Eq.symm ?_; refine Eq.trans (if_pos c6) ?_; refine Eq.trans (if_neg c8) ?_; refine Eq.trans (if_pos c76) ?_; refine Eq.trans (if_pos c78) ?_; refine Eq.trans (if_pos c80) ?_; rfl) | (unfold J_X4_copy; try dsimp only; rw [if_pos c6, if_neg c8, if_pos c76, if_pos c78, if_pos c80]))⟩ dX4_copy_188
          · have f80 : ¬ v79.toInt = 0 := f_ne rfl (by decide) c80
            refine lv_iconst (v := 0) hx hb dX4_copy_173 (by decide) ?_
            refine lv_goto (tgt := 181) hx hb dX4_copy_174 (by decide) ?_
            refine g_pt cx hP hD hS iw_X4_copy_X4 tyX4 tyX4_ok nmX4 0 rfl rfl 12 (by decide) rfl fw_X4_copy_63 (ty := .int) rfl rfl rfl (Nat.le_of_ble_eq_true rfl) dX4_copy_181 (fun H locs hP hD hS => ?_)
            have hP : va_P D vwCl [cell173_ qh so (-9) 0, (qh 1, .inl (k 0, 5, .inl g1)), (qh 2, .inl (k 0, 5, .inl g2)), (qh 3, .inl (k 0, 3, .inl g3)), (qh 4, .inl (k 0, 3, .inl g4)), cell2_ k qh sh, cell32_ qo so, cell0_ k qo so, cell1_ k qo so, cell4_ k qo so, cell3_ k qo so, cell2_ k qo so] H := hP
            have hD : va_D A [cell173_ qh so (-9) 0, (qh 1, .inl (k 0, 5, .inl g1)), (qh 2, .inl (k 0, 5, .inl g2)), (qh 3, .inl (k 0, 3, .inl g3)), (qh 4, .inl (k 0, 3, .inl g4)), cell2_ k qh sh, cell32_ qo so, cell0_ k qo so, cell1_ k qo so, cell4_ k qo so, cell3_ k qo so, cell2_ k qo so] := hD
            have hlit86 : (0 : Int32).toInt = 0 := by decide
            refine lv_aload_n hx hb dX4_copy_184 rfl (lv_at hl 0 rfl) ?_
            refine g_v (w1 := fun (u : (Nat → Int32)) => [cell173_ qh so (-9) 0, (qh 1, .inl (k 0, 5, .inl g1)), (qh 2, .inl (k 0, 5, .inl g2)), (qh 3, .inl (k 0, 3, .inl g3)), (qh 4, .inl (k 0, 3, .inl g4)), (qh 5, .inl (k 0, 525, .inl u))]) (g_runV (wc := [cell173_ qh so (-9) 0, (qh 1, .inl (k 0, 5, .inl g1)), (qh 2, .inl (k 0, 5, .inl g2)), (qh 3, .inl (k 0, 3, .inl g3)), (qh 4, .inl (k 0, 3, .inl g4)), cell2_ k qh sh]) (rest := []) cx hP hD hS [0, 1, 2, 3, 4, 5] rfl (by decide) [] (c_X4_settle l D k b qh (up2 (up2 (up2 (up2 (up2 sh 0 (upd (upd (upd (upd (upd (upd (upd (upd (upd (sh 0) 0 (so 0 0)) 1 (so 0 1)) 6 (so 0 6)) 7 (so 0 7)) 8 (so 0 8)) 9 (-9)) 10 (so 0 10)) 11 (so 0 11)) 12 0)) 1 g1) 2 g2) 3 g3) 4 g4) H.size (show 0 ≤ (0 : Int32).toInt ∧ (0 : Int32).toInt ≤ 5 from by first | decide | omega) ag3) gX4_copy_X4_settle rfl rfl rfl nd_X4_settle ⟨Nat.le_of_ble_eq_true rfl, Nat.le_of_ble_eq_true rfl⟩ (ci := 2) (q0 := 0) rfl rfl rfl hl.1 rfl (Nat.le_of_ble_eq_true rfl) ⟨Nat.zero_le _, Nat.zero_le _⟩ dX4_copy_185) cx.2.2.1 hP hD hS [0, 1, 2, 3, 4, 5] rfl (fun _ => rfl) (fun u88 H locs hw87 hP hD hS => ?_)
            obtain ⟨m89, rfl⟩ : ∃ z, z = u88 := ⟨_, rfl⟩
            have hP : va_P D vwCl [cell173_ qh so (-9) 0, (qh 1, .inl (k 0, 5, .inl g1)), (qh 2, .inl (k 0, 5, .inl g2)), (qh 3, .inl (k 0, 3, .inl g3)), (qh 4, .inl (k 0, 3, .inl g4)), (qh 5, .inl (k 0, 525, .inl m89)), cell32_ qo so, cell0_ k qo so, cell1_ k qo so, cell4_ k qo so, cell3_ k qo so, cell2_ k qo so] H := hP
            have hD : va_D A [cell173_ qh so (-9) 0, (qh 1, .inl (k 0, 5, .inl g1)), (qh 2, .inl (k 0, 5, .inl g2)), (qh 3, .inl (k 0, 3, .inl g3)), (qh 4, .inl (k 0, 3, .inl g4)), (qh 5, .inl (k 0, 525, .inl m89)), cell32_ qo so, cell0_ k qo so, cell1_ k qo so, cell4_ k qo so, cell3_ k qo so, cell2_ k qo so] := hD
            have w90 : SUok m89 := hw87
            clear hw87
            have hlit91 : ((-9) : Int32).toInt = -9 := by decide
            have hlit92 : (0 : Int32).toInt = 0 := by decide
            rw [hQ]
            exact x_v cx hr ((so 0 0), (so 0 1), g1, g2, g3, g4, (so 0 6), (so 0 7), (so 0 8), (-9), (so 0 10), (so 0 11), 0, m89) hP hD hS ⟨(show 0 ≤ (so 0 0).toInt ∧ (so 0 0).toInt ≤ 5 from by omega), (show 0 ≤ (so 0 1).toInt ∧ (so 0 1).toInt ≤ 4 from by omega), (show 0 ≤ (0 : Int32).toInt ∧ (0 : Int32).toInt ≤ 5 from by omega), ag2, ag3, (show SUok m89 from by assumption), (show (so 0 0).toInt = (so 0 0).toInt from by omega), (show ((so 0 0), (so 0 1), g1, g2, g3, g4, (so 0 6), (so 0 7), (so 0 8), ((-9) : Int32), (so 0 10), (so 0 11), (0 : Int32)) = J_X4_copy sh so p0 from by subst eg1 eg2 eg3 eg4 e5 e7 e75 e77 e79; first | (refine Eq.symm ?_; refine Eq.trans (if_pos c6) ?_; refine Eq.trans (if_neg c8) ?_; refine Eq.trans (if_pos c76) ?_; refine Eq.trans (if_pos c78) ?_; refine Eq.trans (if_neg c80) ?_; rfl) | (unfold J_X4_copy; try dsimp only; rw [if_pos c6, if_neg c8, if_pos c76, if_pos c78, if_neg c80]))⟩ dX4_copy_188
        · have f78 : ¬ v77.toInt = 0 := f_ne rfl (by decide) c78
          refine lv_bipush (v := (-9)) hx hb dX4_copy_153 (by decide) ?_
          refine lv_goto (tgt := 162) hx hb dX4_copy_155 (by decide) ?_
          refine g_pt cx hP hD hS iw_X4_copy_X4 tyX4 tyX4_ok nmX4 0 rfl rfl 11 (by decide) rfl fw_X4_copy_60 (ty := .int) rfl rfl rfl (Nat.le_of_ble_eq_true rfl) dX4_copy_162 (fun H locs hP hD hS => ?_)
          have hP : va_P D vwCl [(qh 0, .inr (2, [.int (so 0 0), .int (so 0 1), .ref (qh 1), .ref (qh 2), .ref (qh 3), .ref (qh 4), .int (so 0 6), .int (so 0 7), .int (so 0 8), .int (-9), .int (so 0 10), .int (-9), .int (sh 0 12), .ref (qh 5)])), (qh 1, .inl (k 0, 5, .inl g1)), (qh 2, .inl (k 0, 5, .inl g2)), (qh 3, .inl (k 0, 3, .inl g3)), (qh 4, .inl (k 0, 3, .inl g4)), cell2_ k qh sh, cell32_ qo so, cell0_ k qo so, cell1_ k qo so, cell4_ k qo so, cell3_ k qo so, cell2_ k qo so] H := hP
          have hD : va_D A [(qh 0, .inr (2, [.int (so 0 0), .int (so 0 1), .ref (qh 1), .ref (qh 2), .ref (qh 3), .ref (qh 4), .int (so 0 6), .int (so 0 7), .int (so 0 8), .int (-9), .int (so 0 10), .int (-9), .int (sh 0 12), .ref (qh 5)])), (qh 1, .inl (k 0, 5, .inl g1)), (qh 2, .inl (k 0, 5, .inl g2)), (qh 3, .inl (k 0, 3, .inl g3)), (qh 4, .inl (k 0, 3, .inl g4)), cell2_ k qh sh, cell32_ qo so, cell0_ k qo so, cell1_ k qo so, cell4_ k qo so, cell3_ k qo so, cell2_ k qo so] := hD
          have hlit93 : ((-9) : Int32).toInt = -9 := by decide
          refine lv_aload_n hx hb dX4_copy_165 rfl (lv_at hl 0 rfl) ?_
          refine lv_iload_n hx hb dX4_copy_166 rfl (lv_at hl 2 rfl) ?_
          refine lv_bipush (v := 8) hx hb dX4_copy_167 (by decide) ?_
          refine lv_iand hx hb dX4_copy_169 (lv_topi (fun v94 e94 => ?_))
          have t94 : 0 ≤ v94.toInt ∧ v94.toInt ≤ 8 := by rw [e94]; exact and_r (by decide) (by omega)
          refine lv_if_eq (tgt := 177) hx hb dX4_copy_170 (by decide) (fun c95 => ?_) (fun c95 => ?_)
          · have f95 : v94.toInt = 0 := f_eq rfl (by decide) c95
            refine lv_aload_n hx hb dX4_copy_177 rfl (lv_at hl 1 rfl) ?_
            refine g_get cx hP iw_X4_copy_X4 6 rfl rfl 12 (by decide) rfl fw_X4_copy_63 rfl dX4_copy_178 ?_
            refine g_pt cx hP hD hS iw_X4_copy_X4 tyX4 tyX4_ok nmX4 0 rfl rfl 12 (by decide) rfl fw_X4_copy_63 (ty := .int) rfl rfl rfl (Nat.le_of_ble_eq_true rfl) dX4_copy_181 (fun H locs hP hD hS => ?_)
            have hP : va_P D vwCl [cell174_ qh so (-9) (-9), (qh 1, .inl (k 0, 5, .inl g1)), (qh 2, .inl (k 0, 5, .inl g2)), (qh 3, .inl (k 0, 3, .inl g3)), (qh 4, .inl (k 0, 3, .inl g4)), cell2_ k qh sh, cell32_ qo so, cell0_ k qo so, cell1_ k qo so, cell4_ k qo so, cell3_ k qo so, cell2_ k qo so] H := hP
            have hD : va_D A [cell174_ qh so (-9) (-9), (qh 1, .inl (k 0, 5, .inl g1)), (qh 2, .inl (k 0, 5, .inl g2)), (qh 3, .inl (k 0, 3, .inl g3)), (qh 4, .inl (k 0, 3, .inl g4)), cell2_ k qh sh, cell32_ qo so, cell0_ k qo so, cell1_ k qo so, cell4_ k qo so, cell3_ k qo so, cell2_ k qo so] := hD
            refine lv_aload_n hx hb dX4_copy_184 rfl (lv_at hl 0 rfl) ?_
            refine g_v (w1 := fun (u : (Nat → Int32)) => [cell174_ qh so (-9) (-9), (qh 1, .inl (k 0, 5, .inl g1)), (qh 2, .inl (k 0, 5, .inl g2)), (qh 3, .inl (k 0, 3, .inl g3)), (qh 4, .inl (k 0, 3, .inl g4)), (qh 5, .inl (k 0, 525, .inl u))]) (g_runV (wc := [cell174_ qh so (-9) (-9), (qh 1, .inl (k 0, 5, .inl g1)), (qh 2, .inl (k 0, 5, .inl g2)), (qh 3, .inl (k 0, 3, .inl g3)), (qh 4, .inl (k 0, 3, .inl g4)), cell2_ k qh sh]) (rest := []) cx hP hD hS [0, 1, 2, 3, 4, 5] rfl (by decide) [] (c_X4_settle l D k b qh (up2 (up2 (up2 (up2 (up2 sh 0 (upd (upd (upd (upd (upd (upd (upd (upd (upd (sh 0) 0 (so 0 0)) 1 (so 0 1)) 6 (so 0 6)) 7 (so 0 7)) 8 (so 0 8)) 9 (-9)) 10 (so 0 10)) 11 (-9)) 12 (so 0 12))) 1 g1) 2 g2) 3 g3) 4 g4) H.size (show 0 ≤ (so 0 12).toInt ∧ (so 0 12).toInt ≤ 5 from by first | decide | omega) ag3) gX4_copy_X4_settle rfl rfl rfl nd_X4_settle ⟨Nat.le_of_ble_eq_true rfl, Nat.le_of_ble_eq_true rfl⟩ (ci := 2) (q0 := 0) rfl rfl rfl hl.1 rfl (Nat.le_of_ble_eq_true rfl) ⟨Nat.zero_le _, Nat.zero_le _⟩ dX4_copy_185) cx.2.2.1 hP hD hS [0, 1, 2, 3, 4, 5] rfl (fun _ => rfl) (fun u97 H locs hw96 hP hD hS => ?_)
            obtain ⟨m98, rfl⟩ : ∃ z, z = u97 := ⟨_, rfl⟩
            have hP : va_P D vwCl [cell174_ qh so (-9) (-9), (qh 1, .inl (k 0, 5, .inl g1)), (qh 2, .inl (k 0, 5, .inl g2)), (qh 3, .inl (k 0, 3, .inl g3)), (qh 4, .inl (k 0, 3, .inl g4)), (qh 5, .inl (k 0, 525, .inl m98)), cell32_ qo so, cell0_ k qo so, cell1_ k qo so, cell4_ k qo so, cell3_ k qo so, cell2_ k qo so] H := hP
            have hD : va_D A [cell174_ qh so (-9) (-9), (qh 1, .inl (k 0, 5, .inl g1)), (qh 2, .inl (k 0, 5, .inl g2)), (qh 3, .inl (k 0, 3, .inl g3)), (qh 4, .inl (k 0, 3, .inl g4)), (qh 5, .inl (k 0, 525, .inl m98)), cell32_ qo so, cell0_ k qo so, cell1_ k qo so, cell4_ k qo so, cell3_ k qo so, cell2_ k qo so] := hD
            have w99 : SUok m98 := hw96
            clear hw96
            have hlit100 : ((-9) : Int32).toInt = -9 := by decide
            have hlit101 : ((-9) : Int32).toInt = -9 := by decide
            rw [hQ]
            exact x_v cx hr ((so 0 0), (so 0 1), g1, g2, g3, g4, (so 0 6), (so 0 7), (so 0 8), (-9), (so 0 10), (-9), (so 0 12), m98) hP hD hS ⟨(show 0 ≤ (so 0 0).toInt ∧ (so 0 0).toInt ≤ 5 from by omega), (show 0 ≤ (so 0 1).toInt ∧ (so 0 1).toInt ≤ 4 from by omega), (show 0 ≤ (so 0 12).toInt ∧ (so 0 12).toInt ≤ 5 from by omega), ag2, ag3, (show SUok m98 from by assumption), (show (so 0 0).toInt = (so 0 0).toInt from by omega), (show ((so 0 0), (so 0 1), g1, g2, g3, g4, (so 0 6), (so 0 7), (so 0 8), ((-9) : Int32), (so 0 10), ((-9) : Int32), (so 0 12)) = J_X4_copy sh so p0 from by subst eg1 eg2 eg3 eg4 e5 e7 e75 e77 e94; first | (refine Eq.symm ?_; refine Eq.trans (if_pos c6) ?_; refine Eq.trans (if_neg c8) ?_; refine Eq.trans (if_pos c76) ?_; refine Eq.trans (if_neg c78) ?_; refine Eq.trans (if_pos c95) ?_; rfl) | (unfold J_X4_copy; try dsimp only; rw [if_pos c6, if_neg c8, if_pos c76, if_neg c78, if_pos c95]))⟩ dX4_copy_188
          · have f95 : ¬ v94.toInt = 0 := f_ne rfl (by decide) c95
            refine lv_iconst (v := 0) hx hb dX4_copy_173 (by decide) ?_
            refine lv_goto (tgt := 181) hx hb dX4_copy_174 (by decide) ?_
            refine g_pt cx hP hD hS iw_X4_copy_X4 tyX4 tyX4_ok nmX4 0 rfl rfl 12 (by decide) rfl fw_X4_copy_63 (ty := .int) rfl rfl rfl (Nat.le_of_ble_eq_true rfl) dX4_copy_181 (fun H locs hP hD hS => ?_)
            have hP : va_P D vwCl [cell175_ qh so (-9) (-9) 0, (qh 1, .inl (k 0, 5, .inl g1)), (qh 2, .inl (k 0, 5, .inl g2)), (qh 3, .inl (k 0, 3, .inl g3)), (qh 4, .inl (k 0, 3, .inl g4)), cell2_ k qh sh, cell32_ qo so, cell0_ k qo so, cell1_ k qo so, cell4_ k qo so, cell3_ k qo so, cell2_ k qo so] H := hP
            have hD : va_D A [cell175_ qh so (-9) (-9) 0, (qh 1, .inl (k 0, 5, .inl g1)), (qh 2, .inl (k 0, 5, .inl g2)), (qh 3, .inl (k 0, 3, .inl g3)), (qh 4, .inl (k 0, 3, .inl g4)), cell2_ k qh sh, cell32_ qo so, cell0_ k qo so, cell1_ k qo so, cell4_ k qo so, cell3_ k qo so, cell2_ k qo so] := hD
            have hlit102 : (0 : Int32).toInt = 0 := by decide
            refine lv_aload_n hx hb dX4_copy_184 rfl (lv_at hl 0 rfl) ?_
            refine g_v (w1 := fun (u : (Nat → Int32)) => [cell175_ qh so (-9) (-9) 0, (qh 1, .inl (k 0, 5, .inl g1)), (qh 2, .inl (k 0, 5, .inl g2)), (qh 3, .inl (k 0, 3, .inl g3)), (qh 4, .inl (k 0, 3, .inl g4)), (qh 5, .inl (k 0, 525, .inl u))]) (g_runV (wc := [cell175_ qh so (-9) (-9) 0, (qh 1, .inl (k 0, 5, .inl g1)), (qh 2, .inl (k 0, 5, .inl g2)), (qh 3, .inl (k 0, 3, .inl g3)), (qh 4, .inl (k 0, 3, .inl g4)), cell2_ k qh sh]) (rest := []) cx hP hD hS [0, 1, 2, 3, 4, 5] rfl (by decide) [] (c_X4_settle l D k b qh (up2 (up2 (up2 (up2 (up2 sh 0 (upd (upd (upd (upd (upd (upd (upd (upd (upd (sh 0) 0 (so 0 0)) 1 (so 0 1)) 6 (so 0 6)) 7 (so 0 7)) 8 (so 0 8)) 9 (-9)) 10 (so 0 10)) 11 (-9)) 12 0)) 1 g1) 2 g2) 3 g3) 4 g4) H.size (show 0 ≤ (0 : Int32).toInt ∧ (0 : Int32).toInt ≤ 5 from by first | decide | omega) ag3) gX4_copy_X4_settle rfl rfl rfl nd_X4_settle ⟨Nat.le_of_ble_eq_true rfl, Nat.le_of_ble_eq_true rfl⟩ (ci := 2) (q0 := 0) rfl rfl rfl hl.1 rfl (Nat.le_of_ble_eq_true rfl) ⟨Nat.zero_le _, Nat.zero_le _⟩ dX4_copy_185) cx.2.2.1 hP hD hS [0, 1, 2, 3, 4, 5] rfl (fun _ => rfl) (fun u104 H locs hw103 hP hD hS => ?_)
            obtain ⟨m105, rfl⟩ : ∃ z, z = u104 := ⟨_, rfl⟩
            have hP : va_P D vwCl [cell175_ qh so (-9) (-9) 0, (qh 1, .inl (k 0, 5, .inl g1)), (qh 2, .inl (k 0, 5, .inl g2)), (qh 3, .inl (k 0, 3, .inl g3)), (qh 4, .inl (k 0, 3, .inl g4)), (qh 5, .inl (k 0, 525, .inl m105)), cell32_ qo so, cell0_ k qo so, cell1_ k qo so, cell4_ k qo so, cell3_ k qo so, cell2_ k qo so] H := hP
            have hD : va_D A [cell175_ qh so (-9) (-9) 0, (qh 1, .inl (k 0, 5, .inl g1)), (qh 2, .inl (k 0, 5, .inl g2)), (qh 3, .inl (k 0, 3, .inl g3)), (qh 4, .inl (k 0, 3, .inl g4)), (qh 5, .inl (k 0, 525, .inl m105)), cell32_ qo so, cell0_ k qo so, cell1_ k qo so, cell4_ k qo so, cell3_ k qo so, cell2_ k qo so] := hD
            have w106 : SUok m105 := hw103
            clear hw103
            have hlit107 : ((-9) : Int32).toInt = -9 := by decide
            have hlit108 : ((-9) : Int32).toInt = -9 := by decide
            have hlit109 : (0 : Int32).toInt = 0 := by decide
            rw [hQ]
            exact x_v cx hr ((so 0 0), (so 0 1), g1, g2, g3, g4, (so 0 6), (so 0 7), (so 0 8), (-9), (so 0 10), (-9), 0, m105) hP hD hS ⟨(show 0 ≤ (so 0 0).toInt ∧ (so 0 0).toInt ≤ 5 from by omega), (show 0 ≤ (so 0 1).toInt ∧ (so 0 1).toInt ≤ 4 from by omega), (show 0 ≤ (0 : Int32).toInt ∧ (0 : Int32).toInt ≤ 5 from by omega), ag2, ag3, (show SUok m105 from by assumption), (show (so 0 0).toInt = (so 0 0).toInt from by omega), (show ((so 0 0), (so 0 1), g1, g2, g3, g4, (so 0 6), (so 0 7), (so 0 8), ((-9) : Int32), (so 0 10), ((-9) : Int32), (0 : Int32)) = J_X4_copy sh so p0 from by subst eg1 eg2 eg3 eg4 e5 e7 e75 e77 e94; first | (refine Eq.symm ?_; refine Eq.trans (if_pos c6) ?_; refine Eq.trans (if_neg c8) ?_; refine Eq.trans (if_pos c76) ?_; refine Eq.trans (if_neg c78) ?_; refine Eq.trans (if_neg c95) ?_; rfl) | (unfold J_X4_copy; try dsimp only; rw [if_pos c6, if_neg c8, if_pos c76, if_neg c78, if_neg c95]))⟩ dX4_copy_188
      · have f76 : ¬ v75.toInt = 0 := f_ne rfl (by decide) c76
        refine lv_bipush (v := (-9)) hx hb dX4_copy_133 (by decide) ?_
        refine lv_goto (tgt := 142) hx hb dX4_copy_135 (by decide) ?_
        refine g_pt cx hP hD hS iw_X4_copy_X4 tyX4 tyX4_ok nmX4 0 rfl rfl 10 (by decide) rfl fw_X4_copy_57 (ty := .int) rfl rfl rfl (Nat.le_of_ble_eq_true rfl) dX4_copy_142 (fun H locs hP hD hS => ?_)
        have hP : va_P D vwCl [(qh 0, .inr (2, [.int (so 0 0), .int (so 0 1), .ref (qh 1), .ref (qh 2), .ref (qh 3), .ref (qh 4), .int (so 0 6), .int (so 0 7), .int (so 0 8), .int (-9), .int (-9), .int (sh 0 11), .int (sh 0 12), .ref (qh 5)])), (qh 1, .inl (k 0, 5, .inl g1)), (qh 2, .inl (k 0, 5, .inl g2)), (qh 3, .inl (k 0, 3, .inl g3)), (qh 4, .inl (k 0, 3, .inl g4)), cell2_ k qh sh, cell32_ qo so, cell0_ k qo so, cell1_ k qo so, cell4_ k qo so, cell3_ k qo so, cell2_ k qo so] H := hP
        have hD : va_D A [(qh 0, .inr (2, [.int (so 0 0), .int (so 0 1), .ref (qh 1), .ref (qh 2), .ref (qh 3), .ref (qh 4), .int (so 0 6), .int (so 0 7), .int (so 0 8), .int (-9), .int (-9), .int (sh 0 11), .int (sh 0 12), .ref (qh 5)])), (qh 1, .inl (k 0, 5, .inl g1)), (qh 2, .inl (k 0, 5, .inl g2)), (qh 3, .inl (k 0, 3, .inl g3)), (qh 4, .inl (k 0, 3, .inl g4)), cell2_ k qh sh, cell32_ qo so, cell0_ k qo so, cell1_ k qo so, cell4_ k qo so, cell3_ k qo so, cell2_ k qo so] := hD
        have hlit110 : ((-9) : Int32).toInt = -9 := by decide
        refine lv_aload_n hx hb dX4_copy_145 rfl (lv_at hl 0 rfl) ?_
        refine lv_iload_n hx hb dX4_copy_146 rfl (lv_at hl 2 rfl) ?_
        refine lv_bipush (v := 8) hx hb dX4_copy_147 (by decide) ?_
        refine lv_iand hx hb dX4_copy_149 (lv_topi (fun v111 e111 => ?_))
        have t111 : 0 ≤ v111.toInt ∧ v111.toInt ≤ 8 := by rw [e111]; exact and_r (by decide) (by omega)
        refine lv_if_eq (tgt := 158) hx hb dX4_copy_150 (by decide) (fun c112 => ?_) (fun c112 => ?_)
        · have f112 : v111.toInt = 0 := f_eq rfl (by decide) c112
          refine lv_aload_n hx hb dX4_copy_158 rfl (lv_at hl 1 rfl) ?_
          refine g_get cx hP iw_X4_copy_X4 6 rfl rfl 11 (by decide) rfl fw_X4_copy_60 rfl dX4_copy_159 ?_
          refine g_pt cx hP hD hS iw_X4_copy_X4 tyX4 tyX4_ok nmX4 0 rfl rfl 11 (by decide) rfl fw_X4_copy_60 (ty := .int) rfl rfl rfl (Nat.le_of_ble_eq_true rfl) dX4_copy_162 (fun H locs hP hD hS => ?_)
          have hP : va_P D vwCl [(qh 0, .inr (2, [.int (so 0 0), .int (so 0 1), .ref (qh 1), .ref (qh 2), .ref (qh 3), .ref (qh 4), .int (so 0 6), .int (so 0 7), .int (so 0 8), .int (-9), .int (-9), .int (so 0 11), .int (sh 0 12), .ref (qh 5)])), (qh 1, .inl (k 0, 5, .inl g1)), (qh 2, .inl (k 0, 5, .inl g2)), (qh 3, .inl (k 0, 3, .inl g3)), (qh 4, .inl (k 0, 3, .inl g4)), cell2_ k qh sh, cell32_ qo so, cell0_ k qo so, cell1_ k qo so, cell4_ k qo so, cell3_ k qo so, cell2_ k qo so] H := hP
          have hD : va_D A [(qh 0, .inr (2, [.int (so 0 0), .int (so 0 1), .ref (qh 1), .ref (qh 2), .ref (qh 3), .ref (qh 4), .int (so 0 6), .int (so 0 7), .int (so 0 8), .int (-9), .int (-9), .int (so 0 11), .int (sh 0 12), .ref (qh 5)])), (qh 1, .inl (k 0, 5, .inl g1)), (qh 2, .inl (k 0, 5, .inl g2)), (qh 3, .inl (k 0, 3, .inl g3)), (qh 4, .inl (k 0, 3, .inl g4)), cell2_ k qh sh, cell32_ qo so, cell0_ k qo so, cell1_ k qo so, cell4_ k qo so, cell3_ k qo so, cell2_ k qo so] := hD
          refine lv_aload_n hx hb dX4_copy_165 rfl (lv_at hl 0 rfl) ?_
          refine lv_iload_n hx hb dX4_copy_166 rfl (lv_at hl 2 rfl) ?_
          refine lv_bipush (v := 8) hx hb dX4_copy_167 (by decide) ?_
          refine lv_iand hx hb dX4_copy_169 (lv_topi (fun v113 e113 => ?_))
          have t113 : 0 ≤ v113.toInt ∧ v113.toInt ≤ 8 := by rw [e113]; exact and_r (by decide) (by omega)
          refine lv_if_eq (tgt := 177) hx hb dX4_copy_170 (by decide) (fun c114 => ?_) (fun c114 => ?_)
          · have f114 : v113.toInt = 0 := f_eq rfl (by decide) c114
            refine lv_aload_n hx hb dX4_copy_177 rfl (lv_at hl 1 rfl) ?_
            refine g_get cx hP iw_X4_copy_X4 6 rfl rfl 12 (by decide) rfl fw_X4_copy_63 rfl dX4_copy_178 ?_
            refine g_pt cx hP hD hS iw_X4_copy_X4 tyX4 tyX4_ok nmX4 0 rfl rfl 12 (by decide) rfl fw_X4_copy_63 (ty := .int) rfl rfl rfl (Nat.le_of_ble_eq_true rfl) dX4_copy_181 (fun H locs hP hD hS => ?_)
            have hP : va_P D vwCl [cell176_ qh so (-9) (-9), (qh 1, .inl (k 0, 5, .inl g1)), (qh 2, .inl (k 0, 5, .inl g2)), (qh 3, .inl (k 0, 3, .inl g3)), (qh 4, .inl (k 0, 3, .inl g4)), cell2_ k qh sh, cell32_ qo so, cell0_ k qo so, cell1_ k qo so, cell4_ k qo so, cell3_ k qo so, cell2_ k qo so] H := hP
            have hD : va_D A [cell176_ qh so (-9) (-9), (qh 1, .inl (k 0, 5, .inl g1)), (qh 2, .inl (k 0, 5, .inl g2)), (qh 3, .inl (k 0, 3, .inl g3)), (qh 4, .inl (k 0, 3, .inl g4)), cell2_ k qh sh, cell32_ qo so, cell0_ k qo so, cell1_ k qo so, cell4_ k qo so, cell3_ k qo so, cell2_ k qo so] := hD
            refine lv_aload_n hx hb dX4_copy_184 rfl (lv_at hl 0 rfl) ?_
            refine g_v (w1 := fun (u : (Nat → Int32)) => [cell176_ qh so (-9) (-9), (qh 1, .inl (k 0, 5, .inl g1)), (qh 2, .inl (k 0, 5, .inl g2)), (qh 3, .inl (k 0, 3, .inl g3)), (qh 4, .inl (k 0, 3, .inl g4)), (qh 5, .inl (k 0, 525, .inl u))]) (g_runV (wc := [cell176_ qh so (-9) (-9), (qh 1, .inl (k 0, 5, .inl g1)), (qh 2, .inl (k 0, 5, .inl g2)), (qh 3, .inl (k 0, 3, .inl g3)), (qh 4, .inl (k 0, 3, .inl g4)), cell2_ k qh sh]) (rest := []) cx hP hD hS [0, 1, 2, 3, 4, 5] rfl (by decide) [] (c_X4_settle l D k b qh (up2 (up2 (up2 (up2 (up2 sh 0 (upd (upd (upd (upd (upd (upd (upd (upd (upd (sh 0) 0 (so 0 0)) 1 (so 0 1)) 6 (so 0 6)) 7 (so 0 7)) 8 (so 0 8)) 9 (-9)) 10 (-9)) 11 (so 0 11)) 12 (so 0 12))) 1 g1) 2 g2) 3 g3) 4 g4) H.size (show 0 ≤ (so 0 12).toInt ∧ (so 0 12).toInt ≤ 5 from by first | decide | omega) ag3) gX4_copy_X4_settle rfl rfl rfl nd_X4_settle ⟨Nat.le_of_ble_eq_true rfl, Nat.le_of_ble_eq_true rfl⟩ (ci := 2) (q0 := 0) rfl rfl rfl hl.1 rfl (Nat.le_of_ble_eq_true rfl) ⟨Nat.zero_le _, Nat.zero_le _⟩ dX4_copy_185) cx.2.2.1 hP hD hS [0, 1, 2, 3, 4, 5] rfl (fun _ => rfl) (fun u116 H locs hw115 hP hD hS => ?_)
            obtain ⟨m117, rfl⟩ : ∃ z, z = u116 := ⟨_, rfl⟩
            have hP : va_P D vwCl [cell176_ qh so (-9) (-9), (qh 1, .inl (k 0, 5, .inl g1)), (qh 2, .inl (k 0, 5, .inl g2)), (qh 3, .inl (k 0, 3, .inl g3)), (qh 4, .inl (k 0, 3, .inl g4)), (qh 5, .inl (k 0, 525, .inl m117)), cell32_ qo so, cell0_ k qo so, cell1_ k qo so, cell4_ k qo so, cell3_ k qo so, cell2_ k qo so] H := hP
            have hD : va_D A [cell176_ qh so (-9) (-9), (qh 1, .inl (k 0, 5, .inl g1)), (qh 2, .inl (k 0, 5, .inl g2)), (qh 3, .inl (k 0, 3, .inl g3)), (qh 4, .inl (k 0, 3, .inl g4)), (qh 5, .inl (k 0, 525, .inl m117)), cell32_ qo so, cell0_ k qo so, cell1_ k qo so, cell4_ k qo so, cell3_ k qo so, cell2_ k qo so] := hD
            have w118 : SUok m117 := hw115
            clear hw115
            have hlit119 : ((-9) : Int32).toInt = -9 := by decide
            have hlit120 : ((-9) : Int32).toInt = -9 := by decide
            rw [hQ]
            exact x_v cx hr ((so 0 0), (so 0 1), g1, g2, g3, g4, (so 0 6), (so 0 7), (so 0 8), (-9), (-9), (so 0 11), (so 0 12), m117) hP hD hS ⟨(show 0 ≤ (so 0 0).toInt ∧ (so 0 0).toInt ≤ 5 from by omega), (show 0 ≤ (so 0 1).toInt ∧ (so 0 1).toInt ≤ 4 from by omega), (show 0 ≤ (so 0 12).toInt ∧ (so 0 12).toInt ≤ 5 from by omega), ag2, ag3, (show SUok m117 from by assumption), (show (so 0 0).toInt = (so 0 0).toInt from by omega), (show ((so 0 0), (so 0 1), g1, g2, g3, g4, (so 0 6), (so 0 7), (so 0 8), ((-9) : Int32), ((-9) : Int32), (so 0 11), (so 0 12)) = J_X4_copy sh so p0 from by subst eg1 eg2 eg3 eg4 e5 e7 e75 e111 e113; first | (refine Eq.symm ?_; refine Eq.trans (if_pos c6) ?_; refine Eq.trans (if_neg c8) ?_; refine Eq.trans (if_neg c76) ?_; refine Eq.trans (if_pos c112) ?_; refine Eq.trans (if_pos c114) ?_; rfl) | (unfold J_X4_copy; try dsimp only; rw [if_pos c6, if_neg c8, if_neg c76, if_pos c112, if_pos c114]))⟩ dX4_copy_188
          · have f114 : ¬ v113.toInt = 0 := f_ne rfl (by decide) c114
            refine lv_iconst (v := 0) hx hb dX4_copy_173 (by decide) ?_
            refine lv_goto (tgt := 181) hx hb dX4_copy_174 (by decide) ?_
            refine g_pt cx hP hD hS iw_X4_copy_X4 tyX4 tyX4_ok nmX4 0 rfl rfl 12 (by decide) rfl fw_X4_copy_63 (ty := .int) rfl rfl rfl (Nat.le_of_ble_eq_true rfl) dX4_copy_181 (fun H locs hP hD hS => ?_)
            have hP : va_P D vwCl [cell177_ qh so (-9) (-9) 0, (qh 1, .inl (k 0, 5, .inl g1)), (qh 2, .inl (k 0, 5, .inl g2)), (qh 3, .inl (k 0, 3, .inl g3)), (qh 4, .inl (k 0, 3, .inl g4)), cell2_ k qh sh, cell32_ qo so, cell0_ k qo so, cell1_ k qo so, cell4_ k qo so, cell3_ k qo so, cell2_ k qo so] H := hP
            have hD : va_D A [cell177_ qh so (-9) (-9) 0, (qh 1, .inl (k 0, 5, .inl g1)), (qh 2, .inl (k 0, 5, .inl g2)), (qh 3, .inl (k 0, 3, .inl g3)), (qh 4, .inl (k 0, 3, .inl g4)), cell2_ k qh sh, cell32_ qo so, cell0_ k qo so, cell1_ k qo so, cell4_ k qo so, cell3_ k qo so, cell2_ k qo so] := hD
            have hlit121 : (0 : Int32).toInt = 0 := by decide
            refine lv_aload_n hx hb dX4_copy_184 rfl (lv_at hl 0 rfl) ?_
            refine g_v (w1 := fun (u : (Nat → Int32)) => [cell177_ qh so (-9) (-9) 0, (qh 1, .inl (k 0, 5, .inl g1)), (qh 2, .inl (k 0, 5, .inl g2)), (qh 3, .inl (k 0, 3, .inl g3)), (qh 4, .inl (k 0, 3, .inl g4)), (qh 5, .inl (k 0, 525, .inl u))]) (g_runV (wc := [cell177_ qh so (-9) (-9) 0, (qh 1, .inl (k 0, 5, .inl g1)), (qh 2, .inl (k 0, 5, .inl g2)), (qh 3, .inl (k 0, 3, .inl g3)), (qh 4, .inl (k 0, 3, .inl g4)), cell2_ k qh sh]) (rest := []) cx hP hD hS [0, 1, 2, 3, 4, 5] rfl (by decide) [] (c_X4_settle l D k b qh (up2 (up2 (up2 (up2 (up2 sh 0 (upd (upd (upd (upd (upd (upd (upd (upd (upd (sh 0) 0 (so 0 0)) 1 (so 0 1)) 6 (so 0 6)) 7 (so 0 7)) 8 (so 0 8)) 9 (-9)) 10 (-9)) 11 (so 0 11)) 12 0)) 1 g1) 2 g2) 3 g3) 4 g4) H.size (show 0 ≤ (0 : Int32).toInt ∧ (0 : Int32).toInt ≤ 5 from by first | decide | omega) ag3) gX4_copy_X4_settle rfl rfl rfl nd_X4_settle ⟨Nat.le_of_ble_eq_true rfl, Nat.le_of_ble_eq_true rfl⟩ (ci := 2) (q0 := 0) rfl rfl rfl hl.1 rfl (Nat.le_of_ble_eq_true rfl) ⟨Nat.zero_le _, Nat.zero_le _⟩ dX4_copy_185) cx.2.2.1 hP hD hS [0, 1, 2, 3, 4, 5] rfl (fun _ => rfl) (fun u123 H locs hw122 hP hD hS => ?_)
            obtain ⟨m124, rfl⟩ : ∃ z, z = u123 := ⟨_, rfl⟩
            have hP : va_P D vwCl [cell177_ qh so (-9) (-9) 0, (qh 1, .inl (k 0, 5, .inl g1)), (qh 2, .inl (k 0, 5, .inl g2)), (qh 3, .inl (k 0, 3, .inl g3)), (qh 4, .inl (k 0, 3, .inl g4)), (qh 5, .inl (k 0, 525, .inl m124)), cell32_ qo so, cell0_ k qo so, cell1_ k qo so, cell4_ k qo so, cell3_ k qo so, cell2_ k qo so] H := hP
            have hD : va_D A [cell177_ qh so (-9) (-9) 0, (qh 1, .inl (k 0, 5, .inl g1)), (qh 2, .inl (k 0, 5, .inl g2)), (qh 3, .inl (k 0, 3, .inl g3)), (qh 4, .inl (k 0, 3, .inl g4)), (qh 5, .inl (k 0, 525, .inl m124)), cell32_ qo so, cell0_ k qo so, cell1_ k qo so, cell4_ k qo so, cell3_ k qo so, cell2_ k qo so] := hD
            have w125 : SUok m124 := hw122
            clear hw122
            have hlit126 : ((-9) : Int32).toInt = -9 := by decide
            have hlit127 : ((-9) : Int32).toInt = -9 := by decide
            have hlit128 : (0 : Int32).toInt = 0 := by decide
            rw [hQ]
            exact x_v cx hr ((so 0 0), (so 0 1), g1, g2, g3, g4, (so 0 6), (so 0 7), (so 0 8), (-9), (-9), (so 0 11), 0, m124) hP hD hS ⟨(show 0 ≤ (so 0 0).toInt ∧ (so 0 0).toInt ≤ 5 from by omega), (show 0 ≤ (so 0 1).toInt ∧ (so 0 1).toInt ≤ 4 from by omega), (show 0 ≤ (0 : Int32).toInt ∧ (0 : Int32).toInt ≤ 5 from by omega), ag2, ag3, (show SUok m124 from by assumption), (show (so 0 0).toInt = (so 0 0).toInt from by omega), (show ((so 0 0), (so 0 1), g1, g2, g3, g4, (so 0 6), (so 0 7), (so 0 8), ((-9) : Int32), ((-9) : Int32), (so 0 11), (0 : Int32)) = J_X4_copy sh so p0 from by subst eg1 eg2 eg3 eg4 e5 e7 e75 e111 e113; first | (refine Eq.symm ?_; refine Eq.trans (if_pos c6) ?_; refine Eq.trans (if_neg c8) ?_; refine Eq.trans (if_neg c76) ?_; refine Eq.trans (if_pos c112) ?_; refine Eq.trans (if_neg c114) ?_; rfl) | (unfold J_X4_copy; try dsimp only; rw [if_pos c6, if_neg c8, if_neg c76, if_pos c112, if_neg c114]))⟩ dX4_copy_188
        · have f112 : ¬ v111.toInt = 0 := f_ne rfl (by decide) c112
          refine lv_bipush (v := (-9)) hx hb dX4_copy_153 (by decide) ?_
          refine lv_goto (tgt := 162) hx hb dX4_copy_155 (by decide) ?_
          refine g_pt cx hP hD hS iw_X4_copy_X4 tyX4 tyX4_ok nmX4 0 rfl rfl 11 (by decide) rfl fw_X4_copy_60 (ty := .int) rfl rfl rfl (Nat.le_of_ble_eq_true rfl) dX4_copy_162 (fun H locs hP hD hS => ?_)
          have hP : va_P D vwCl [(qh 0, .inr (2, [.int (so 0 0), .int (so 0 1), .ref (qh 1), .ref (qh 2), .ref (qh 3), .ref (qh 4), .int (so 0 6), .int (so 0 7), .int (so 0 8), .int (-9), .int (-9), .int (-9), .int (sh 0 12), .ref (qh 5)])), (qh 1, .inl (k 0, 5, .inl g1)), (qh 2, .inl (k 0, 5, .inl g2)), (qh 3, .inl (k 0, 3, .inl g3)), (qh 4, .inl (k 0, 3, .inl g4)), cell2_ k qh sh, cell32_ qo so, cell0_ k qo so, cell1_ k qo so, cell4_ k qo so, cell3_ k qo so, cell2_ k qo so] H := hP
          have hD : va_D A [(qh 0, .inr (2, [.int (so 0 0), .int (so 0 1), .ref (qh 1), .ref (qh 2), .ref (qh 3), .ref (qh 4), .int (so 0 6), .int (so 0 7), .int (so 0 8), .int (-9), .int (-9), .int (-9), .int (sh 0 12), .ref (qh 5)])), (qh 1, .inl (k 0, 5, .inl g1)), (qh 2, .inl (k 0, 5, .inl g2)), (qh 3, .inl (k 0, 3, .inl g3)), (qh 4, .inl (k 0, 3, .inl g4)), cell2_ k qh sh, cell32_ qo so, cell0_ k qo so, cell1_ k qo so, cell4_ k qo so, cell3_ k qo so, cell2_ k qo so] := hD
          have hlit129 : ((-9) : Int32).toInt = -9 := by decide
          refine lv_aload_n hx hb dX4_copy_165 rfl (lv_at hl 0 rfl) ?_
          refine lv_iload_n hx hb dX4_copy_166 rfl (lv_at hl 2 rfl) ?_
          refine lv_bipush (v := 8) hx hb dX4_copy_167 (by decide) ?_
          refine lv_iand hx hb dX4_copy_169 (lv_topi (fun v130 e130 => ?_))
          have t130 : 0 ≤ v130.toInt ∧ v130.toInt ≤ 8 := by rw [e130]; exact and_r (by decide) (by omega)
          refine lv_if_eq (tgt := 177) hx hb dX4_copy_170 (by decide) (fun c131 => ?_) (fun c131 => ?_)
          · have f131 : v130.toInt = 0 := f_eq rfl (by decide) c131
            refine lv_aload_n hx hb dX4_copy_177 rfl (lv_at hl 1 rfl) ?_
            refine g_get cx hP iw_X4_copy_X4 6 rfl rfl 12 (by decide) rfl fw_X4_copy_63 rfl dX4_copy_178 ?_
            refine g_pt cx hP hD hS iw_X4_copy_X4 tyX4 tyX4_ok nmX4 0 rfl rfl 12 (by decide) rfl fw_X4_copy_63 (ty := .int) rfl rfl rfl (Nat.le_of_ble_eq_true rfl) dX4_copy_181 (fun H locs hP hD hS => ?_)
            have hP : va_P D vwCl [cell178_ qh so (-9) (-9) (-9), (qh 1, .inl (k 0, 5, .inl g1)), (qh 2, .inl (k 0, 5, .inl g2)), (qh 3, .inl (k 0, 3, .inl g3)), (qh 4, .inl (k 0, 3, .inl g4)), cell2_ k qh sh, cell32_ qo so, cell0_ k qo so, cell1_ k qo so, cell4_ k qo so, cell3_ k qo so, cell2_ k qo so] H := hP
            have hD : va_D A [cell178_ qh so (-9) (-9) (-9), (qh 1, .inl (k 0, 5, .inl g1)), (qh 2, .inl (k 0, 5, .inl g2)), (qh 3, .inl (k 0, 3, .inl g3)), (qh 4, .inl (k 0, 3, .inl g4)), cell2_ k qh sh, cell32_ qo so, cell0_ k qo so, cell1_ k qo so, cell4_ k qo so, cell3_ k qo so, cell2_ k qo so] := hD
            refine lv_aload_n hx hb dX4_copy_184 rfl (lv_at hl 0 rfl) ?_
            refine g_v (w1 := fun (u : (Nat → Int32)) => [cell178_ qh so (-9) (-9) (-9), (qh 1, .inl (k 0, 5, .inl g1)), (qh 2, .inl (k 0, 5, .inl g2)), (qh 3, .inl (k 0, 3, .inl g3)), (qh 4, .inl (k 0, 3, .inl g4)), (qh 5, .inl (k 0, 525, .inl u))]) (g_runV (wc := [cell178_ qh so (-9) (-9) (-9), (qh 1, .inl (k 0, 5, .inl g1)), (qh 2, .inl (k 0, 5, .inl g2)), (qh 3, .inl (k 0, 3, .inl g3)), (qh 4, .inl (k 0, 3, .inl g4)), cell2_ k qh sh]) (rest := []) cx hP hD hS [0, 1, 2, 3, 4, 5] rfl (by decide) [] (c_X4_settle l D k b qh (up2 (up2 (up2 (up2 (up2 sh 0 (upd (upd (upd (upd (upd (upd (upd (upd (upd (sh 0) 0 (so 0 0)) 1 (so 0 1)) 6 (so 0 6)) 7 (so 0 7)) 8 (so 0 8)) 9 (-9)) 10 (-9)) 11 (-9)) 12 (so 0 12))) 1 g1) 2 g2) 3 g3) 4 g4) H.size (show 0 ≤ (so 0 12).toInt ∧ (so 0 12).toInt ≤ 5 from by first | decide | omega) ag3) gX4_copy_X4_settle rfl rfl rfl nd_X4_settle ⟨Nat.le_of_ble_eq_true rfl, Nat.le_of_ble_eq_true rfl⟩ (ci := 2) (q0 := 0) rfl rfl rfl hl.1 rfl (Nat.le_of_ble_eq_true rfl) ⟨Nat.zero_le _, Nat.zero_le _⟩ dX4_copy_185) cx.2.2.1 hP hD hS [0, 1, 2, 3, 4, 5] rfl (fun _ => rfl) (fun u133 H locs hw132 hP hD hS => ?_)
            obtain ⟨m134, rfl⟩ : ∃ z, z = u133 := ⟨_, rfl⟩
            have hP : va_P D vwCl [cell178_ qh so (-9) (-9) (-9), (qh 1, .inl (k 0, 5, .inl g1)), (qh 2, .inl (k 0, 5, .inl g2)), (qh 3, .inl (k 0, 3, .inl g3)), (qh 4, .inl (k 0, 3, .inl g4)), (qh 5, .inl (k 0, 525, .inl m134)), cell32_ qo so, cell0_ k qo so, cell1_ k qo so, cell4_ k qo so, cell3_ k qo so, cell2_ k qo so] H := hP
            have hD : va_D A [cell178_ qh so (-9) (-9) (-9), (qh 1, .inl (k 0, 5, .inl g1)), (qh 2, .inl (k 0, 5, .inl g2)), (qh 3, .inl (k 0, 3, .inl g3)), (qh 4, .inl (k 0, 3, .inl g4)), (qh 5, .inl (k 0, 525, .inl m134)), cell32_ qo so, cell0_ k qo so, cell1_ k qo so, cell4_ k qo so, cell3_ k qo so, cell2_ k qo so] := hD
            have w135 : SUok m134 := hw132
            clear hw132
            have hlit136 : ((-9) : Int32).toInt = -9 := by decide
            have hlit137 : ((-9) : Int32).toInt = -9 := by decide
            have hlit138 : ((-9) : Int32).toInt = -9 := by decide
            rw [hQ]
            exact x_v cx hr ((so 0 0), (so 0 1), g1, g2, g3, g4, (so 0 6), (so 0 7), (so 0 8), (-9), (-9), (-9), (so 0 12), m134) hP hD hS ⟨(show 0 ≤ (so 0 0).toInt ∧ (so 0 0).toInt ≤ 5 from by omega), (show 0 ≤ (so 0 1).toInt ∧ (so 0 1).toInt ≤ 4 from by omega), (show 0 ≤ (so 0 12).toInt ∧ (so 0 12).toInt ≤ 5 from by omega), ag2, ag3, (show SUok m134 from by assumption), (show (so 0 0).toInt = (so 0 0).toInt from by omega), (show ((so 0 0), (so 0 1), g1, g2, g3, g4, (so 0 6), (so 0 7), (so 0 8), ((-9) : Int32), ((-9) : Int32), ((-9) : Int32), (so 0 12)) = J_X4_copy sh so p0 from by subst eg1 eg2 eg3 eg4 e5 e7 e75 e111 e130; first | (refine Eq.symm ?_; refine Eq.trans (if_pos c6) ?_; refine Eq.trans (if_neg c8) ?_; refine Eq.trans (if_neg c76) ?_; refine Eq.trans (if_neg c112) ?_; refine Eq.trans (if_pos c131) ?_; rfl) | (unfold J_X4_copy; try dsimp only; rw [if_pos c6, if_neg c8, if_neg c76, if_neg c112, if_pos c131]))⟩ dX4_copy_188
          · have f131 : ¬ v130.toInt = 0 := f_ne rfl (by decide) c131
            refine lv_iconst (v := 0) hx hb dX4_copy_173 (by decide) ?_
            refine lv_goto (tgt := 181) hx hb dX4_copy_174 (by decide) ?_
            refine g_pt cx hP hD hS iw_X4_copy_X4 tyX4 tyX4_ok nmX4 0 rfl rfl 12 (by decide) rfl fw_X4_copy_63 (ty := .int) rfl rfl rfl (Nat.le_of_ble_eq_true rfl) dX4_copy_181 (fun H locs hP hD hS => ?_)
            have hP : va_P D vwCl [cell179_ qh so (-9) (-9) (-9) 0, (qh 1, .inl (k 0, 5, .inl g1)), (qh 2, .inl (k 0, 5, .inl g2)), (qh 3, .inl (k 0, 3, .inl g3)), (qh 4, .inl (k 0, 3, .inl g4)), cell2_ k qh sh, cell32_ qo so, cell0_ k qo so, cell1_ k qo so, cell4_ k qo so, cell3_ k qo so, cell2_ k qo so] H := hP
            have hD : va_D A [cell179_ qh so (-9) (-9) (-9) 0, (qh 1, .inl (k 0, 5, .inl g1)), (qh 2, .inl (k 0, 5, .inl g2)), (qh 3, .inl (k 0, 3, .inl g3)), (qh 4, .inl (k 0, 3, .inl g4)), cell2_ k qh sh, cell32_ qo so, cell0_ k qo so, cell1_ k qo so, cell4_ k qo so, cell3_ k qo so, cell2_ k qo so] := hD
            have hlit139 : (0 : Int32).toInt = 0 := by decide
            refine lv_aload_n hx hb dX4_copy_184 rfl (lv_at hl 0 rfl) ?_
            refine g_v (w1 := fun (u : (Nat → Int32)) => [cell179_ qh so (-9) (-9) (-9) 0, (qh 1, .inl (k 0, 5, .inl g1)), (qh 2, .inl (k 0, 5, .inl g2)), (qh 3, .inl (k 0, 3, .inl g3)), (qh 4, .inl (k 0, 3, .inl g4)), (qh 5, .inl (k 0, 525, .inl u))]) (g_runV (wc := [cell179_ qh so (-9) (-9) (-9) 0, (qh 1, .inl (k 0, 5, .inl g1)), (qh 2, .inl (k 0, 5, .inl g2)), (qh 3, .inl (k 0, 3, .inl g3)), (qh 4, .inl (k 0, 3, .inl g4)), cell2_ k qh sh]) (rest := []) cx hP hD hS [0, 1, 2, 3, 4, 5] rfl (by decide) [] (c_X4_settle l D k b qh (up2 (up2 (up2 (up2 (up2 sh 0 (upd (upd (upd (upd (upd (upd (upd (upd (upd (sh 0) 0 (so 0 0)) 1 (so 0 1)) 6 (so 0 6)) 7 (so 0 7)) 8 (so 0 8)) 9 (-9)) 10 (-9)) 11 (-9)) 12 0)) 1 g1) 2 g2) 3 g3) 4 g4) H.size (show 0 ≤ (0 : Int32).toInt ∧ (0 : Int32).toInt ≤ 5 from by first | decide | omega) ag3) gX4_copy_X4_settle rfl rfl rfl nd_X4_settle ⟨Nat.le_of_ble_eq_true rfl, Nat.le_of_ble_eq_true rfl⟩ (ci := 2) (q0 := 0) rfl rfl rfl hl.1 rfl (Nat.le_of_ble_eq_true rfl) ⟨Nat.zero_le _, Nat.zero_le _⟩ dX4_copy_185) cx.2.2.1 hP hD hS [0, 1, 2, 3, 4, 5] rfl (fun _ => rfl) (fun u141 H locs hw140 hP hD hS => ?_)
            obtain ⟨m142, rfl⟩ : ∃ z, z = u141 := ⟨_, rfl⟩
            have hP : va_P D vwCl [cell179_ qh so (-9) (-9) (-9) 0, (qh 1, .inl (k 0, 5, .inl g1)), (qh 2, .inl (k 0, 5, .inl g2)), (qh 3, .inl (k 0, 3, .inl g3)), (qh 4, .inl (k 0, 3, .inl g4)), (qh 5, .inl (k 0, 525, .inl m142)), cell32_ qo so, cell0_ k qo so, cell1_ k qo so, cell4_ k qo so, cell3_ k qo so, cell2_ k qo so] H := hP
            have hD : va_D A [cell179_ qh so (-9) (-9) (-9) 0, (qh 1, .inl (k 0, 5, .inl g1)), (qh 2, .inl (k 0, 5, .inl g2)), (qh 3, .inl (k 0, 3, .inl g3)), (qh 4, .inl (k 0, 3, .inl g4)), (qh 5, .inl (k 0, 525, .inl m142)), cell32_ qo so, cell0_ k qo so, cell1_ k qo so, cell4_ k qo so, cell3_ k qo so, cell2_ k qo so] := hD
            have w143 : SUok m142 := hw140
            clear hw140
            have hlit144 : ((-9) : Int32).toInt = -9 := by decide
            have hlit145 : ((-9) : Int32).toInt = -9 := by decide
            have hlit146 : ((-9) : Int32).toInt = -9 := by decide
            have hlit147 : (0 : Int32).toInt = 0 := by decide
            rw [hQ]
            exact x_v cx hr ((so 0 0), (so 0 1), g1, g2, g3, g4, (so 0 6), (so 0 7), (so 0 8), (-9), (-9), (-9), 0, m142) hP hD hS ⟨(show 0 ≤ (so 0 0).toInt ∧ (so 0 0).toInt ≤ 5 from by omega), (show 0 ≤ (so 0 1).toInt ∧ (so 0 1).toInt ≤ 4 from by omega), (show 0 ≤ (0 : Int32).toInt ∧ (0 : Int32).toInt ≤ 5 from by omega), ag2, ag3, (show SUok m142 from by assumption), (show (so 0 0).toInt = (so 0 0).toInt from by omega), (show ((so 0 0), (so 0 1), g1, g2, g3, g4, (so 0 6), (so 0 7), (so 0 8), ((-9) : Int32), ((-9) : Int32), ((-9) : Int32), (0 : Int32)) = J_X4_copy sh so p0 from by subst eg1 eg2 eg3 eg4 e5 e7 e75 e111 e130; first | (refine Eq.symm ?_; refine Eq.trans (if_pos c6) ?_; refine Eq.trans (if_neg c8) ?_; refine Eq.trans (if_neg c76) ?_; refine Eq.trans (if_neg c112) ?_; refine Eq.trans (if_neg c131) ?_; rfl) | (unfold J_X4_copy; try dsimp only; rw [if_pos c6, if_neg c8, if_neg c76, if_neg c112, if_neg c131]))⟩ dX4_copy_188
  · have f6 : ¬ v5.toInt = 0 := f_ne rfl (by decide) c6
    refine lv_bipush (v := (-9)) hx hb dX4_copy_95 (by decide) ?_
    refine lv_goto (tgt := 104) hx hb dX4_copy_97 (by decide) ?_
    refine g_pt cx hP hD hS iw_X4_copy_X4 tyX4 tyX4_ok nmX4 0 rfl rfl 8 (by decide) rfl fw_X4_copy_51 (ty := .int) rfl rfl rfl (Nat.le_of_ble_eq_true rfl) dX4_copy_104 (fun H locs hP hD hS => ?_)
    have hP : va_P D vwCl [(qh 0, .inr (2, [.int (so 0 0), .int (so 0 1), .ref (qh 1), .ref (qh 2), .ref (qh 3), .ref (qh 4), .int (so 0 6), .int (so 0 7), .int (-9), .int (sh 0 9), .int (sh 0 10), .int (sh 0 11), .int (sh 0 12), .ref (qh 5)])), (qh 1, .inl (k 0, 5, .inl g1)), (qh 2, .inl (k 0, 5, .inl g2)), (qh 3, .inl (k 0, 3, .inl g3)), (qh 4, .inl (k 0, 3, .inl g4)), cell2_ k qh sh, cell32_ qo so, cell0_ k qo so, cell1_ k qo so, cell4_ k qo so, cell3_ k qo so, cell2_ k qo so] H := hP
    have hD : va_D A [(qh 0, .inr (2, [.int (so 0 0), .int (so 0 1), .ref (qh 1), .ref (qh 2), .ref (qh 3), .ref (qh 4), .int (so 0 6), .int (so 0 7), .int (-9), .int (sh 0 9), .int (sh 0 10), .int (sh 0 11), .int (sh 0 12), .ref (qh 5)])), (qh 1, .inl (k 0, 5, .inl g1)), (qh 2, .inl (k 0, 5, .inl g2)), (qh 3, .inl (k 0, 3, .inl g3)), (qh 4, .inl (k 0, 3, .inl g4)), cell2_ k qh sh, cell32_ qo so, cell0_ k qo so, cell1_ k qo so, cell4_ k qo so, cell3_ k qo so, cell2_ k qo so] := hD
    have hlit148 : ((-9) : Int32).toInt = -9 := by decide
    refine lv_aload_n hx hb dX4_copy_107 rfl (lv_at hl 0 rfl) ?_
    refine lv_iload_n hx hb dX4_copy_108 rfl (lv_at hl 2 rfl) ?_
    refine lv_iconst (v := 2) hx hb dX4_copy_109 (by decide) ?_
    refine lv_iand hx hb dX4_copy_110 (lv_topi (fun v149 e149 => ?_))
    have t149 : 0 ≤ v149.toInt ∧ v149.toInt ≤ 2 := by rw [e149]; exact and_r (by decide) (by omega)
    refine lv_if_eq (tgt := 119) hx hb dX4_copy_111 (by decide) (fun c150 => ?_) (fun c150 => ?_)
    · have f150 : v149.toInt = 0 := f_eq rfl (by decide) c150
      refine lv_aload_n hx hb dX4_copy_119 rfl (lv_at hl 1 rfl) ?_
      refine g_get cx hP iw_X4_copy_X4 6 rfl rfl 9 (by decide) rfl fw_X4_copy_54 rfl dX4_copy_120 ?_
      refine g_pt cx hP hD hS iw_X4_copy_X4 tyX4 tyX4_ok nmX4 0 rfl rfl 9 (by decide) rfl fw_X4_copy_54 (ty := .int) rfl rfl rfl (Nat.le_of_ble_eq_true rfl) dX4_copy_123 (fun H locs hP hD hS => ?_)
      have hP : va_P D vwCl [(qh 0, .inr (2, [.int (so 0 0), .int (so 0 1), .ref (qh 1), .ref (qh 2), .ref (qh 3), .ref (qh 4), .int (so 0 6), .int (so 0 7), .int (-9), .int (so 0 9), .int (sh 0 10), .int (sh 0 11), .int (sh 0 12), .ref (qh 5)])), (qh 1, .inl (k 0, 5, .inl g1)), (qh 2, .inl (k 0, 5, .inl g2)), (qh 3, .inl (k 0, 3, .inl g3)), (qh 4, .inl (k 0, 3, .inl g4)), cell2_ k qh sh, cell32_ qo so, cell0_ k qo so, cell1_ k qo so, cell4_ k qo so, cell3_ k qo so, cell2_ k qo so] H := hP
      have hD : va_D A [(qh 0, .inr (2, [.int (so 0 0), .int (so 0 1), .ref (qh 1), .ref (qh 2), .ref (qh 3), .ref (qh 4), .int (so 0 6), .int (so 0 7), .int (-9), .int (so 0 9), .int (sh 0 10), .int (sh 0 11), .int (sh 0 12), .ref (qh 5)])), (qh 1, .inl (k 0, 5, .inl g1)), (qh 2, .inl (k 0, 5, .inl g2)), (qh 3, .inl (k 0, 3, .inl g3)), (qh 4, .inl (k 0, 3, .inl g4)), cell2_ k qh sh, cell32_ qo so, cell0_ k qo so, cell1_ k qo so, cell4_ k qo so, cell3_ k qo so, cell2_ k qo so] := hD
      refine lv_aload_n hx hb dX4_copy_126 rfl (lv_at hl 0 rfl) ?_
      refine lv_iload_n hx hb dX4_copy_127 rfl (lv_at hl 2 rfl) ?_
      refine lv_iconst (v := 4) hx hb dX4_copy_128 (by decide) ?_
      refine lv_iand hx hb dX4_copy_129 (lv_topi (fun v151 e151 => ?_))
      have t151 : 0 ≤ v151.toInt ∧ v151.toInt ≤ 4 := by rw [e151]; exact and_r (by decide) (by omega)
      refine lv_if_eq (tgt := 138) hx hb dX4_copy_130 (by decide) (fun c152 => ?_) (fun c152 => ?_)
      · have f152 : v151.toInt = 0 := f_eq rfl (by decide) c152
        refine lv_aload_n hx hb dX4_copy_138 rfl (lv_at hl 1 rfl) ?_
        refine g_get cx hP iw_X4_copy_X4 6 rfl rfl 10 (by decide) rfl fw_X4_copy_57 rfl dX4_copy_139 ?_
        refine g_pt cx hP hD hS iw_X4_copy_X4 tyX4 tyX4_ok nmX4 0 rfl rfl 10 (by decide) rfl fw_X4_copy_57 (ty := .int) rfl rfl rfl (Nat.le_of_ble_eq_true rfl) dX4_copy_142 (fun H locs hP hD hS => ?_)
        have hP : va_P D vwCl [(qh 0, .inr (2, [.int (so 0 0), .int (so 0 1), .ref (qh 1), .ref (qh 2), .ref (qh 3), .ref (qh 4), .int (so 0 6), .int (so 0 7), .int (-9), .int (so 0 9), .int (so 0 10), .int (sh 0 11), .int (sh 0 12), .ref (qh 5)])), (qh 1, .inl (k 0, 5, .inl g1)), (qh 2, .inl (k 0, 5, .inl g2)), (qh 3, .inl (k 0, 3, .inl g3)), (qh 4, .inl (k 0, 3, .inl g4)), cell2_ k qh sh, cell32_ qo so, cell0_ k qo so, cell1_ k qo so, cell4_ k qo so, cell3_ k qo so, cell2_ k qo so] H := hP
        have hD : va_D A [(qh 0, .inr (2, [.int (so 0 0), .int (so 0 1), .ref (qh 1), .ref (qh 2), .ref (qh 3), .ref (qh 4), .int (so 0 6), .int (so 0 7), .int (-9), .int (so 0 9), .int (so 0 10), .int (sh 0 11), .int (sh 0 12), .ref (qh 5)])), (qh 1, .inl (k 0, 5, .inl g1)), (qh 2, .inl (k 0, 5, .inl g2)), (qh 3, .inl (k 0, 3, .inl g3)), (qh 4, .inl (k 0, 3, .inl g4)), cell2_ k qh sh, cell32_ qo so, cell0_ k qo so, cell1_ k qo so, cell4_ k qo so, cell3_ k qo so, cell2_ k qo so] := hD
        refine lv_aload_n hx hb dX4_copy_145 rfl (lv_at hl 0 rfl) ?_
        refine lv_iload_n hx hb dX4_copy_146 rfl (lv_at hl 2 rfl) ?_
        refine lv_bipush (v := 8) hx hb dX4_copy_147 (by decide) ?_
        refine lv_iand hx hb dX4_copy_149 (lv_topi (fun v153 e153 => ?_))
        have t153 : 0 ≤ v153.toInt ∧ v153.toInt ≤ 8 := by rw [e153]; exact and_r (by decide) (by omega)
        refine lv_if_eq (tgt := 158) hx hb dX4_copy_150 (by decide) (fun c154 => ?_) (fun c154 => ?_)
        · have f154 : v153.toInt = 0 := f_eq rfl (by decide) c154
          refine lv_aload_n hx hb dX4_copy_158 rfl (lv_at hl 1 rfl) ?_
          refine g_get cx hP iw_X4_copy_X4 6 rfl rfl 11 (by decide) rfl fw_X4_copy_60 rfl dX4_copy_159 ?_
          refine g_pt cx hP hD hS iw_X4_copy_X4 tyX4 tyX4_ok nmX4 0 rfl rfl 11 (by decide) rfl fw_X4_copy_60 (ty := .int) rfl rfl rfl (Nat.le_of_ble_eq_true rfl) dX4_copy_162 (fun H locs hP hD hS => ?_)
          have hP : va_P D vwCl [(qh 0, .inr (2, [.int (so 0 0), .int (so 0 1), .ref (qh 1), .ref (qh 2), .ref (qh 3), .ref (qh 4), .int (so 0 6), .int (so 0 7), .int (-9), .int (so 0 9), .int (so 0 10), .int (so 0 11), .int (sh 0 12), .ref (qh 5)])), (qh 1, .inl (k 0, 5, .inl g1)), (qh 2, .inl (k 0, 5, .inl g2)), (qh 3, .inl (k 0, 3, .inl g3)), (qh 4, .inl (k 0, 3, .inl g4)), cell2_ k qh sh, cell32_ qo so, cell0_ k qo so, cell1_ k qo so, cell4_ k qo so, cell3_ k qo so, cell2_ k qo so] H := hP
          have hD : va_D A [(qh 0, .inr (2, [.int (so 0 0), .int (so 0 1), .ref (qh 1), .ref (qh 2), .ref (qh 3), .ref (qh 4), .int (so 0 6), .int (so 0 7), .int (-9), .int (so 0 9), .int (so 0 10), .int (so 0 11), .int (sh 0 12), .ref (qh 5)])), (qh 1, .inl (k 0, 5, .inl g1)), (qh 2, .inl (k 0, 5, .inl g2)), (qh 3, .inl (k 0, 3, .inl g3)), (qh 4, .inl (k 0, 3, .inl g4)), cell2_ k qh sh, cell32_ qo so, cell0_ k qo so, cell1_ k qo so, cell4_ k qo so, cell3_ k qo so, cell2_ k qo so] := hD
          refine lv_aload_n hx hb dX4_copy_165 rfl (lv_at hl 0 rfl) ?_
          refine lv_iload_n hx hb dX4_copy_166 rfl (lv_at hl 2 rfl) ?_
          refine lv_bipush (v := 8) hx hb dX4_copy_167 (by decide) ?_
          refine lv_iand hx hb dX4_copy_169 (lv_topi (fun v155 e155 => ?_))
          have t155 : 0 ≤ v155.toInt ∧ v155.toInt ≤ 8 := by rw [e155]; exact and_r (by decide) (by omega)
          refine lv_if_eq (tgt := 177) hx hb dX4_copy_170 (by decide) (fun c156 => ?_) (fun c156 => ?_)
          · have f156 : v155.toInt = 0 := f_eq rfl (by decide) c156
            refine lv_aload_n hx hb dX4_copy_177 rfl (lv_at hl 1 rfl) ?_
            refine g_get cx hP iw_X4_copy_X4 6 rfl rfl 12 (by decide) rfl fw_X4_copy_63 rfl dX4_copy_178 ?_
            refine g_pt cx hP hD hS iw_X4_copy_X4 tyX4 tyX4_ok nmX4 0 rfl rfl 12 (by decide) rfl fw_X4_copy_63 (ty := .int) rfl rfl rfl (Nat.le_of_ble_eq_true rfl) dX4_copy_181 (fun H locs hP hD hS => ?_)
            have hP : va_P D vwCl [cell160_ qh so (-9), (qh 1, .inl (k 0, 5, .inl g1)), (qh 2, .inl (k 0, 5, .inl g2)), (qh 3, .inl (k 0, 3, .inl g3)), (qh 4, .inl (k 0, 3, .inl g4)), cell2_ k qh sh, cell32_ qo so, cell0_ k qo so, cell1_ k qo so, cell4_ k qo so, cell3_ k qo so, cell2_ k qo so] H := hP
            have hD : va_D A [cell160_ qh so (-9), (qh 1, .inl (k 0, 5, .inl g1)), (qh 2, .inl (k 0, 5, .inl g2)), (qh 3, .inl (k 0, 3, .inl g3)), (qh 4, .inl (k 0, 3, .inl g4)), cell2_ k qh sh, cell32_ qo so, cell0_ k qo so, cell1_ k qo so, cell4_ k qo so, cell3_ k qo so, cell2_ k qo so] := hD
            refine lv_aload_n hx hb dX4_copy_184 rfl (lv_at hl 0 rfl) ?_
            refine g_v (w1 := fun (u : (Nat → Int32)) => [cell160_ qh so (-9), (qh 1, .inl (k 0, 5, .inl g1)), (qh 2, .inl (k 0, 5, .inl g2)), (qh 3, .inl (k 0, 3, .inl g3)), (qh 4, .inl (k 0, 3, .inl g4)), (qh 5, .inl (k 0, 525, .inl u))]) (g_runV (wc := [cell160_ qh so (-9), (qh 1, .inl (k 0, 5, .inl g1)), (qh 2, .inl (k 0, 5, .inl g2)), (qh 3, .inl (k 0, 3, .inl g3)), (qh 4, .inl (k 0, 3, .inl g4)), cell2_ k qh sh]) (rest := []) cx hP hD hS [0, 1, 2, 3, 4, 5] rfl (by decide) [] (c_X4_settle l D k b qh (up2 (up2 (up2 (up2 (up2 sh 0 (upd (upd (upd (upd (upd (upd (upd (upd (upd (sh 0) 0 (so 0 0)) 1 (so 0 1)) 6 (so 0 6)) 7 (so 0 7)) 8 (-9)) 9 (so 0 9)) 10 (so 0 10)) 11 (so 0 11)) 12 (so 0 12))) 1 g1) 2 g2) 3 g3) 4 g4) H.size (show 0 ≤ (so 0 12).toInt ∧ (so 0 12).toInt ≤ 5 from by first | decide | omega) ag3) gX4_copy_X4_settle rfl rfl rfl nd_X4_settle ⟨Nat.le_of_ble_eq_true rfl, Nat.le_of_ble_eq_true rfl⟩ (ci := 2) (q0 := 0) rfl rfl rfl hl.1 rfl (Nat.le_of_ble_eq_true rfl) ⟨Nat.zero_le _, Nat.zero_le _⟩ dX4_copy_185) cx.2.2.1 hP hD hS [0, 1, 2, 3, 4, 5] rfl (fun _ => rfl) (fun u158 H locs hw157 hP hD hS => ?_)
            obtain ⟨m159, rfl⟩ : ∃ z, z = u158 := ⟨_, rfl⟩
            have hP : va_P D vwCl [cell160_ qh so (-9), (qh 1, .inl (k 0, 5, .inl g1)), (qh 2, .inl (k 0, 5, .inl g2)), (qh 3, .inl (k 0, 3, .inl g3)), (qh 4, .inl (k 0, 3, .inl g4)), (qh 5, .inl (k 0, 525, .inl m159)), cell32_ qo so, cell0_ k qo so, cell1_ k qo so, cell4_ k qo so, cell3_ k qo so, cell2_ k qo so] H := hP
            have hD : va_D A [cell160_ qh so (-9), (qh 1, .inl (k 0, 5, .inl g1)), (qh 2, .inl (k 0, 5, .inl g2)), (qh 3, .inl (k 0, 3, .inl g3)), (qh 4, .inl (k 0, 3, .inl g4)), (qh 5, .inl (k 0, 525, .inl m159)), cell32_ qo so, cell0_ k qo so, cell1_ k qo so, cell4_ k qo so, cell3_ k qo so, cell2_ k qo so] := hD
            have w160 : SUok m159 := hw157
            clear hw157
            have hlit161 : ((-9) : Int32).toInt = -9 := by decide
            rw [hQ]
            exact x_v cx hr ((so 0 0), (so 0 1), g1, g2, g3, g4, (so 0 6), (so 0 7), (-9), (so 0 9), (so 0 10), (so 0 11), (so 0 12), m159) hP hD hS ⟨(show 0 ≤ (so 0 0).toInt ∧ (so 0 0).toInt ≤ 5 from by omega), (show 0 ≤ (so 0 1).toInt ∧ (so 0 1).toInt ≤ 4 from by omega), (show 0 ≤ (so 0 12).toInt ∧ (so 0 12).toInt ≤ 5 from by omega), ag2, ag3, (show SUok m159 from by assumption), (show (so 0 0).toInt = (so 0 0).toInt from by omega), (show ((so 0 0), (so 0 1), g1, g2, g3, g4, (so 0 6), (so 0 7), ((-9) : Int32), (so 0 9), (so 0 10), (so 0 11), (so 0 12)) = J_X4_copy sh so p0 from by subst eg1 eg2 eg3 eg4 e5 e149 e151 e153 e155; first | (refine Eq.symm ?_; refine Eq.trans (if_neg c6) ?_; refine Eq.trans (if_pos c150) ?_; refine Eq.trans (if_pos c152) ?_; refine Eq.trans (if_pos c154) ?_; refine Eq.trans (if_pos c156) ?_; rfl) | (unfold J_X4_copy; try dsimp only; rw [if_neg c6, if_pos c150, if_pos c152, if_pos c154, if_pos c156]))⟩ dX4_copy_188
          · have f156 : ¬ v155.toInt = 0 := f_ne rfl (by decide) c156
            refine lv_iconst (v := 0) hx hb dX4_copy_173 (by decide) ?_
            refine lv_goto (tgt := 181) hx hb dX4_copy_174 (by decide) ?_
            refine g_pt cx hP hD hS iw_X4_copy_X4 tyX4 tyX4_ok nmX4 0 rfl rfl 12 (by decide) rfl fw_X4_copy_63 (ty := .int) rfl rfl rfl (Nat.le_of_ble_eq_true rfl) dX4_copy_181 (fun H locs hP hD hS => ?_)
            have hP : va_P D vwCl [cell180_ qh so (-9) 0, (qh 1, .inl (k 0, 5, .inl g1)), (qh 2, .inl (k 0, 5, .inl g2)), (qh 3, .inl (k 0, 3, .inl g3)), (qh 4, .inl (k 0, 3, .inl g4)), cell2_ k qh sh, cell32_ qo so, cell0_ k qo so, cell1_ k qo so, cell4_ k qo so, cell3_ k qo so, cell2_ k qo so] H := hP
            have hD : va_D A [cell180_ qh so (-9) 0, (qh 1, .inl (k 0, 5, .inl g1)), (qh 2, .inl (k 0, 5, .inl g2)), (qh 3, .inl (k 0, 3, .inl g3)), (qh 4, .inl (k 0, 3, .inl g4)), cell2_ k qh sh, cell32_ qo so, cell0_ k qo so, cell1_ k qo so, cell4_ k qo so, cell3_ k qo so, cell2_ k qo so] := hD
            have hlit162 : (0 : Int32).toInt = 0 := by decide
            refine lv_aload_n hx hb dX4_copy_184 rfl (lv_at hl 0 rfl) ?_
            refine g_v (w1 := fun (u : (Nat → Int32)) => [cell180_ qh so (-9) 0, (qh 1, .inl (k 0, 5, .inl g1)), (qh 2, .inl (k 0, 5, .inl g2)), (qh 3, .inl (k 0, 3, .inl g3)), (qh 4, .inl (k 0, 3, .inl g4)), (qh 5, .inl (k 0, 525, .inl u))]) (g_runV (wc := [cell180_ qh so (-9) 0, (qh 1, .inl (k 0, 5, .inl g1)), (qh 2, .inl (k 0, 5, .inl g2)), (qh 3, .inl (k 0, 3, .inl g3)), (qh 4, .inl (k 0, 3, .inl g4)), cell2_ k qh sh]) (rest := []) cx hP hD hS [0, 1, 2, 3, 4, 5] rfl (by decide) [] (c_X4_settle l D k b qh (up2 (up2 (up2 (up2 (up2 sh 0 (upd (upd (upd (upd (upd (upd (upd (upd (upd (sh 0) 0 (so 0 0)) 1 (so 0 1)) 6 (so 0 6)) 7 (so 0 7)) 8 (-9)) 9 (so 0 9)) 10 (so 0 10)) 11 (so 0 11)) 12 0)) 1 g1) 2 g2) 3 g3) 4 g4) H.size (show 0 ≤ (0 : Int32).toInt ∧ (0 : Int32).toInt ≤ 5 from by first | decide | omega) ag3) gX4_copy_X4_settle rfl rfl rfl nd_X4_settle ⟨Nat.le_of_ble_eq_true rfl, Nat.le_of_ble_eq_true rfl⟩ (ci := 2) (q0 := 0) rfl rfl rfl hl.1 rfl (Nat.le_of_ble_eq_true rfl) ⟨Nat.zero_le _, Nat.zero_le _⟩ dX4_copy_185) cx.2.2.1 hP hD hS [0, 1, 2, 3, 4, 5] rfl (fun _ => rfl) (fun u164 H locs hw163 hP hD hS => ?_)
            obtain ⟨m165, rfl⟩ : ∃ z, z = u164 := ⟨_, rfl⟩
            have hP : va_P D vwCl [cell180_ qh so (-9) 0, (qh 1, .inl (k 0, 5, .inl g1)), (qh 2, .inl (k 0, 5, .inl g2)), (qh 3, .inl (k 0, 3, .inl g3)), (qh 4, .inl (k 0, 3, .inl g4)), (qh 5, .inl (k 0, 525, .inl m165)), cell32_ qo so, cell0_ k qo so, cell1_ k qo so, cell4_ k qo so, cell3_ k qo so, cell2_ k qo so] H := hP
            have hD : va_D A [cell180_ qh so (-9) 0, (qh 1, .inl (k 0, 5, .inl g1)), (qh 2, .inl (k 0, 5, .inl g2)), (qh 3, .inl (k 0, 3, .inl g3)), (qh 4, .inl (k 0, 3, .inl g4)), (qh 5, .inl (k 0, 525, .inl m165)), cell32_ qo so, cell0_ k qo so, cell1_ k qo so, cell4_ k qo so, cell3_ k qo so, cell2_ k qo so] := hD
            have w166 : SUok m165 := hw163
            clear hw163
            have hlit167 : ((-9) : Int32).toInt = -9 := by decide
            have hlit168 : (0 : Int32).toInt = 0 := by decide
            rw [hQ]
            exact x_v cx hr ((so 0 0), (so 0 1), g1, g2, g3, g4, (so 0 6), (so 0 7), (-9), (so 0 9), (so 0 10), (so 0 11), 0, m165) hP hD hS ⟨(show 0 ≤ (so 0 0).toInt ∧ (so 0 0).toInt ≤ 5 from by omega), (show 0 ≤ (so 0 1).toInt ∧ (so 0 1).toInt ≤ 4 from by omega), (show 0 ≤ (0 : Int32).toInt ∧ (0 : Int32).toInt ≤ 5 from by omega), ag2, ag3, (show SUok m165 from by assumption), (show (so 0 0).toInt = (so 0 0).toInt from by omega), (show ((so 0 0), (so 0 1), g1, g2, g3, g4, (so 0 6), (so 0 7), ((-9) : Int32), (so 0 9), (so 0 10), (so 0 11), (0 : Int32)) = J_X4_copy sh so p0 from by subst eg1 eg2 eg3 eg4 e5 e149 e151 e153 e155; first | (refine Eq.symm ?_; refine Eq.trans (if_neg c6) ?_; refine Eq.trans (if_pos c150) ?_; refine Eq.trans (if_pos c152) ?_; refine Eq.trans (if_pos c154) ?_; refine Eq.trans (if_neg c156) ?_; rfl) | (unfold J_X4_copy; try dsimp only; rw [if_neg c6, if_pos c150, if_pos c152, if_pos c154, if_neg c156]))⟩ dX4_copy_188
        · have f154 : ¬ v153.toInt = 0 := f_ne rfl (by decide) c154
          refine lv_bipush (v := (-9)) hx hb dX4_copy_153 (by decide) ?_
          refine lv_goto (tgt := 162) hx hb dX4_copy_155 (by decide) ?_
          refine g_pt cx hP hD hS iw_X4_copy_X4 tyX4 tyX4_ok nmX4 0 rfl rfl 11 (by decide) rfl fw_X4_copy_60 (ty := .int) rfl rfl rfl (Nat.le_of_ble_eq_true rfl) dX4_copy_162 (fun H locs hP hD hS => ?_)
          have hP : va_P D vwCl [(qh 0, .inr (2, [.int (so 0 0), .int (so 0 1), .ref (qh 1), .ref (qh 2), .ref (qh 3), .ref (qh 4), .int (so 0 6), .int (so 0 7), .int (-9), .int (so 0 9), .int (so 0 10), .int (-9), .int (sh 0 12), .ref (qh 5)])), (qh 1, .inl (k 0, 5, .inl g1)), (qh 2, .inl (k 0, 5, .inl g2)), (qh 3, .inl (k 0, 3, .inl g3)), (qh 4, .inl (k 0, 3, .inl g4)), cell2_ k qh sh, cell32_ qo so, cell0_ k qo so, cell1_ k qo so, cell4_ k qo so, cell3_ k qo so, cell2_ k qo so] H := hP
          have hD : va_D A [(qh 0, .inr (2, [.int (so 0 0), .int (so 0 1), .ref (qh 1), .ref (qh 2), .ref (qh 3), .ref (qh 4), .int (so 0 6), .int (so 0 7), .int (-9), .int (so 0 9), .int (so 0 10), .int (-9), .int (sh 0 12), .ref (qh 5)])), (qh 1, .inl (k 0, 5, .inl g1)), (qh 2, .inl (k 0, 5, .inl g2)), (qh 3, .inl (k 0, 3, .inl g3)), (qh 4, .inl (k 0, 3, .inl g4)), cell2_ k qh sh, cell32_ qo so, cell0_ k qo so, cell1_ k qo so, cell4_ k qo so, cell3_ k qo so, cell2_ k qo so] := hD
          have hlit169 : ((-9) : Int32).toInt = -9 := by decide
          refine lv_aload_n hx hb dX4_copy_165 rfl (lv_at hl 0 rfl) ?_
          refine lv_iload_n hx hb dX4_copy_166 rfl (lv_at hl 2 rfl) ?_
          refine lv_bipush (v := 8) hx hb dX4_copy_167 (by decide) ?_
          refine lv_iand hx hb dX4_copy_169 (lv_topi (fun v170 e170 => ?_))
          have t170 : 0 ≤ v170.toInt ∧ v170.toInt ≤ 8 := by rw [e170]; exact and_r (by decide) (by omega)
          refine lv_if_eq (tgt := 177) hx hb dX4_copy_170 (by decide) (fun c171 => ?_) (fun c171 => ?_)
          · have f171 : v170.toInt = 0 := f_eq rfl (by decide) c171
            refine lv_aload_n hx hb dX4_copy_177 rfl (lv_at hl 1 rfl) ?_
            refine g_get cx hP iw_X4_copy_X4 6 rfl rfl 12 (by decide) rfl fw_X4_copy_63 rfl dX4_copy_178 ?_
            refine g_pt cx hP hD hS iw_X4_copy_X4 tyX4 tyX4_ok nmX4 0 rfl rfl 12 (by decide) rfl fw_X4_copy_63 (ty := .int) rfl rfl rfl (Nat.le_of_ble_eq_true rfl) dX4_copy_181 (fun H locs hP hD hS => ?_)
            have hP : va_P D vwCl [cell181_ qh so (-9) (-9), (qh 1, .inl (k 0, 5, .inl g1)), (qh 2, .inl (k 0, 5, .inl g2)), (qh 3, .inl (k 0, 3, .inl g3)), (qh 4, .inl (k 0, 3, .inl g4)), cell2_ k qh sh, cell32_ qo so, cell0_ k qo so, cell1_ k qo so, cell4_ k qo so, cell3_ k qo so, cell2_ k qo so] H := hP
            have hD : va_D A [cell181_ qh so (-9) (-9), (qh 1, .inl (k 0, 5, .inl g1)), (qh 2, .inl (k 0, 5, .inl g2)), (qh 3, .inl (k 0, 3, .inl g3)), (qh 4, .inl (k 0, 3, .inl g4)), cell2_ k qh sh, cell32_ qo so, cell0_ k qo so, cell1_ k qo so, cell4_ k qo so, cell3_ k qo so, cell2_ k qo so] := hD
            refine lv_aload_n hx hb dX4_copy_184 rfl (lv_at hl 0 rfl) ?_
            refine g_v (w1 := fun (u : (Nat → Int32)) => [cell181_ qh so (-9) (-9), (qh 1, .inl (k 0, 5, .inl g1)), (qh 2, .inl (k 0, 5, .inl g2)), (qh 3, .inl (k 0, 3, .inl g3)), (qh 4, .inl (k 0, 3, .inl g4)), (qh 5, .inl (k 0, 525, .inl u))]) (g_runV (wc := [cell181_ qh so (-9) (-9), (qh 1, .inl (k 0, 5, .inl g1)), (qh 2, .inl (k 0, 5, .inl g2)), (qh 3, .inl (k 0, 3, .inl g3)), (qh 4, .inl (k 0, 3, .inl g4)), cell2_ k qh sh]) (rest := []) cx hP hD hS [0, 1, 2, 3, 4, 5] rfl (by decide) [] (c_X4_settle l D k b qh (up2 (up2 (up2 (up2 (up2 sh 0 (upd (upd (upd (upd (upd (upd (upd (upd (upd (sh 0) 0 (so 0 0)) 1 (so 0 1)) 6 (so 0 6)) 7 (so 0 7)) 8 (-9)) 9 (so 0 9)) 10 (so 0 10)) 11 (-9)) 12 (so 0 12))) 1 g1) 2 g2) 3 g3) 4 g4) H.size (show 0 ≤ (so 0 12).toInt ∧ (so 0 12).toInt ≤ 5 from by first | decide | omega) ag3) gX4_copy_X4_settle rfl rfl rfl nd_X4_settle ⟨Nat.le_of_ble_eq_true rfl, Nat.le_of_ble_eq_true rfl⟩ (ci := 2) (q0 := 0) rfl rfl rfl hl.1 rfl (Nat.le_of_ble_eq_true rfl) ⟨Nat.zero_le _, Nat.zero_le _⟩ dX4_copy_185) cx.2.2.1 hP hD hS [0, 1, 2, 3, 4, 5] rfl (fun _ => rfl) (fun u173 H locs hw172 hP hD hS => ?_)
            obtain ⟨m174, rfl⟩ : ∃ z, z = u173 := ⟨_, rfl⟩
            have hP : va_P D vwCl [cell181_ qh so (-9) (-9), (qh 1, .inl (k 0, 5, .inl g1)), (qh 2, .inl (k 0, 5, .inl g2)), (qh 3, .inl (k 0, 3, .inl g3)), (qh 4, .inl (k 0, 3, .inl g4)), (qh 5, .inl (k 0, 525, .inl m174)), cell32_ qo so, cell0_ k qo so, cell1_ k qo so, cell4_ k qo so, cell3_ k qo so, cell2_ k qo so] H := hP
            have hD : va_D A [cell181_ qh so (-9) (-9), (qh 1, .inl (k 0, 5, .inl g1)), (qh 2, .inl (k 0, 5, .inl g2)), (qh 3, .inl (k 0, 3, .inl g3)), (qh 4, .inl (k 0, 3, .inl g4)), (qh 5, .inl (k 0, 525, .inl m174)), cell32_ qo so, cell0_ k qo so, cell1_ k qo so, cell4_ k qo so, cell3_ k qo so, cell2_ k qo so] := hD
            have w175 : SUok m174 := hw172
            clear hw172
            have hlit176 : ((-9) : Int32).toInt = -9 := by decide
            have hlit177 : ((-9) : Int32).toInt = -9 := by decide
            rw [hQ]
            exact x_v cx hr ((so 0 0), (so 0 1), g1, g2, g3, g4, (so 0 6), (so 0 7), (-9), (so 0 9), (so 0 10), (-9), (so 0 12), m174) hP hD hS ⟨(show 0 ≤ (so 0 0).toInt ∧ (so 0 0).toInt ≤ 5 from by omega), (show 0 ≤ (so 0 1).toInt ∧ (so 0 1).toInt ≤ 4 from by omega), (show 0 ≤ (so 0 12).toInt ∧ (so 0 12).toInt ≤ 5 from by omega), ag2, ag3, (show SUok m174 from by assumption), (show (so 0 0).toInt = (so 0 0).toInt from by omega), (show ((so 0 0), (so 0 1), g1, g2, g3, g4, (so 0 6), (so 0 7), ((-9) : Int32), (so 0 9), (so 0 10), ((-9) : Int32), (so 0 12)) = J_X4_copy sh so p0 from by subst eg1 eg2 eg3 eg4 e5 e149 e151 e153 e170; first | (refine Eq.symm ?_; refine Eq.trans (if_neg c6) ?_; refine Eq.trans (if_pos c150) ?_; refine Eq.trans (if_pos c152) ?_; refine Eq.trans (if_neg c154) ?_; refine Eq.trans (if_pos c171) ?_; rfl) | (unfold J_X4_copy; try dsimp only; rw [if_neg c6, if_pos c150, if_pos c152, if_neg c154, if_pos c171]))⟩ dX4_copy_188
          · have f171 : ¬ v170.toInt = 0 := f_ne rfl (by decide) c171
            refine lv_iconst (v := 0) hx hb dX4_copy_173 (by decide) ?_
            refine lv_goto (tgt := 181) hx hb dX4_copy_174 (by decide) ?_
            refine g_pt cx hP hD hS iw_X4_copy_X4 tyX4 tyX4_ok nmX4 0 rfl rfl 12 (by decide) rfl fw_X4_copy_63 (ty := .int) rfl rfl rfl (Nat.le_of_ble_eq_true rfl) dX4_copy_181 (fun H locs hP hD hS => ?_)
            have hP : va_P D vwCl [cell182_ qh so (-9) (-9) 0, (qh 1, .inl (k 0, 5, .inl g1)), (qh 2, .inl (k 0, 5, .inl g2)), (qh 3, .inl (k 0, 3, .inl g3)), (qh 4, .inl (k 0, 3, .inl g4)), cell2_ k qh sh, cell32_ qo so, cell0_ k qo so, cell1_ k qo so, cell4_ k qo so, cell3_ k qo so, cell2_ k qo so] H := hP
            have hD : va_D A [cell182_ qh so (-9) (-9) 0, (qh 1, .inl (k 0, 5, .inl g1)), (qh 2, .inl (k 0, 5, .inl g2)), (qh 3, .inl (k 0, 3, .inl g3)), (qh 4, .inl (k 0, 3, .inl g4)), cell2_ k qh sh, cell32_ qo so, cell0_ k qo so, cell1_ k qo so, cell4_ k qo so, cell3_ k qo so, cell2_ k qo so] := hD
            have hlit178 : (0 : Int32).toInt = 0 := by decide
            refine lv_aload_n hx hb dX4_copy_184 rfl (lv_at hl 0 rfl) ?_
            refine g_v (w1 := fun (u : (Nat → Int32)) => [cell182_ qh so (-9) (-9) 0, (qh 1, .inl (k 0, 5, .inl g1)), (qh 2, .inl (k 0, 5, .inl g2)), (qh 3, .inl (k 0, 3, .inl g3)), (qh 4, .inl (k 0, 3, .inl g4)), (qh 5, .inl (k 0, 525, .inl u))]) (g_runV (wc := [cell182_ qh so (-9) (-9) 0, (qh 1, .inl (k 0, 5, .inl g1)), (qh 2, .inl (k 0, 5, .inl g2)), (qh 3, .inl (k 0, 3, .inl g3)), (qh 4, .inl (k 0, 3, .inl g4)), cell2_ k qh sh]) (rest := []) cx hP hD hS [0, 1, 2, 3, 4, 5] rfl (by decide) [] (c_X4_settle l D k b qh (up2 (up2 (up2 (up2 (up2 sh 0 (upd (upd (upd (upd (upd (upd (upd (upd (upd (sh 0) 0 (so 0 0)) 1 (so 0 1)) 6 (so 0 6)) 7 (so 0 7)) 8 (-9)) 9 (so 0 9)) 10 (so 0 10)) 11 (-9)) 12 0)) 1 g1) 2 g2) 3 g3) 4 g4) H.size (show 0 ≤ (0 : Int32).toInt ∧ (0 : Int32).toInt ≤ 5 from by first | decide | omega) ag3) gX4_copy_X4_settle rfl rfl rfl nd_X4_settle ⟨Nat.le_of_ble_eq_true rfl, Nat.le_of_ble_eq_true rfl⟩ (ci := 2) (q0 := 0) rfl rfl rfl hl.1 rfl (Nat.le_of_ble_eq_true rfl) ⟨Nat.zero_le _, Nat.zero_le _⟩ dX4_copy_185) cx.2.2.1 hP hD hS [0, 1, 2, 3, 4, 5] rfl (fun _ => rfl) (fun u180 H locs hw179 hP hD hS => ?_)
            obtain ⟨m181, rfl⟩ : ∃ z, z = u180 := ⟨_, rfl⟩
            have hP : va_P D vwCl [cell182_ qh so (-9) (-9) 0, (qh 1, .inl (k 0, 5, .inl g1)), (qh 2, .inl (k 0, 5, .inl g2)), (qh 3, .inl (k 0, 3, .inl g3)), (qh 4, .inl (k 0, 3, .inl g4)), (qh 5, .inl (k 0, 525, .inl m181)), cell32_ qo so, cell0_ k qo so, cell1_ k qo so, cell4_ k qo so, cell3_ k qo so, cell2_ k qo so] H := hP
            have hD : va_D A [cell182_ qh so (-9) (-9) 0, (qh 1, .inl (k 0, 5, .inl g1)), (qh 2, .inl (k 0, 5, .inl g2)), (qh 3, .inl (k 0, 3, .inl g3)), (qh 4, .inl (k 0, 3, .inl g4)), (qh 5, .inl (k 0, 525, .inl m181)), cell32_ qo so, cell0_ k qo so, cell1_ k qo so, cell4_ k qo so, cell3_ k qo so, cell2_ k qo so] := hD
            have w182 : SUok m181 := hw179
            clear hw179
            have hlit183 : ((-9) : Int32).toInt = -9 := by decide
            have hlit184 : ((-9) : Int32).toInt = -9 := by decide
            have hlit185 : (0 : Int32).toInt = 0 := by decide
            rw [hQ]
            exact x_v cx hr ((so 0 0), (so 0 1), g1, g2, g3, g4, (so 0 6), (so 0 7), (-9), (so 0 9), (so 0 10), (-9), 0, m181) hP hD hS ⟨(show 0 ≤ (so 0 0).toInt ∧ (so 0 0).toInt ≤ 5 from by omega), (show 0 ≤ (so 0 1).toInt ∧ (so 0 1).toInt ≤ 4 from by omega), (show 0 ≤ (0 : Int32).toInt ∧ (0 : Int32).toInt ≤ 5 from by omega), ag2, ag3, (show SUok m181 from by assumption), (show (so 0 0).toInt = (so 0 0).toInt from by omega), (show ((so 0 0), (so 0 1), g1, g2, g3, g4, (so 0 6), (so 0 7), ((-9) : Int32), (so 0 9), (so 0 10), ((-9) : Int32), (0 : Int32)) = J_X4_copy sh so p0 from by subst eg1 eg2 eg3 eg4 e5 e149 e151 e153 e170; first | (refine Eq.symm ?_; refine Eq.trans (if_neg c6) ?_; refine Eq.trans (if_pos c150) ?_; refine Eq.trans (if_pos c152) ?_; refine Eq.trans (if_neg c154) ?_; refine Eq.trans (if_neg c171) ?_; rfl) | (unfold J_X4_copy; try dsimp only; rw [if_neg c6, if_pos c150, if_pos c152, if_neg c154, if_neg c171]))⟩ dX4_copy_188
      · have f152 : ¬ v151.toInt = 0 := f_ne rfl (by decide) c152
        refine lv_bipush (v := (-9)) hx hb dX4_copy_133 (by decide) ?_
        refine lv_goto (tgt := 142) hx hb dX4_copy_135 (by decide) ?_
        refine g_pt cx hP hD hS iw_X4_copy_X4 tyX4 tyX4_ok nmX4 0 rfl rfl 10 (by decide) rfl fw_X4_copy_57 (ty := .int) rfl rfl rfl (Nat.le_of_ble_eq_true rfl) dX4_copy_142 (fun H locs hP hD hS => ?_)
        have hP : va_P D vwCl [(qh 0, .inr (2, [.int (so 0 0), .int (so 0 1), .ref (qh 1), .ref (qh 2), .ref (qh 3), .ref (qh 4), .int (so 0 6), .int (so 0 7), .int (-9), .int (so 0 9), .int (-9), .int (sh 0 11), .int (sh 0 12), .ref (qh 5)])), (qh 1, .inl (k 0, 5, .inl g1)), (qh 2, .inl (k 0, 5, .inl g2)), (qh 3, .inl (k 0, 3, .inl g3)), (qh 4, .inl (k 0, 3, .inl g4)), cell2_ k qh sh, cell32_ qo so, cell0_ k qo so, cell1_ k qo so, cell4_ k qo so, cell3_ k qo so, cell2_ k qo so] H := hP
        have hD : va_D A [(qh 0, .inr (2, [.int (so 0 0), .int (so 0 1), .ref (qh 1), .ref (qh 2), .ref (qh 3), .ref (qh 4), .int (so 0 6), .int (so 0 7), .int (-9), .int (so 0 9), .int (-9), .int (sh 0 11), .int (sh 0 12), .ref (qh 5)])), (qh 1, .inl (k 0, 5, .inl g1)), (qh 2, .inl (k 0, 5, .inl g2)), (qh 3, .inl (k 0, 3, .inl g3)), (qh 4, .inl (k 0, 3, .inl g4)), cell2_ k qh sh, cell32_ qo so, cell0_ k qo so, cell1_ k qo so, cell4_ k qo so, cell3_ k qo so, cell2_ k qo so] := hD
        have hlit186 : ((-9) : Int32).toInt = -9 := by decide
        refine lv_aload_n hx hb dX4_copy_145 rfl (lv_at hl 0 rfl) ?_
        refine lv_iload_n hx hb dX4_copy_146 rfl (lv_at hl 2 rfl) ?_
        refine lv_bipush (v := 8) hx hb dX4_copy_147 (by decide) ?_
        refine lv_iand hx hb dX4_copy_149 (lv_topi (fun v187 e187 => ?_))
        have t187 : 0 ≤ v187.toInt ∧ v187.toInt ≤ 8 := by rw [e187]; exact and_r (by decide) (by omega)
        refine lv_if_eq (tgt := 158) hx hb dX4_copy_150 (by decide) (fun c188 => ?_) (fun c188 => ?_)
        · have f188 : v187.toInt = 0 := f_eq rfl (by decide) c188
          refine lv_aload_n hx hb dX4_copy_158 rfl (lv_at hl 1 rfl) ?_
          refine g_get cx hP iw_X4_copy_X4 6 rfl rfl 11 (by decide) rfl fw_X4_copy_60 rfl dX4_copy_159 ?_
          refine g_pt cx hP hD hS iw_X4_copy_X4 tyX4 tyX4_ok nmX4 0 rfl rfl 11 (by decide) rfl fw_X4_copy_60 (ty := .int) rfl rfl rfl (Nat.le_of_ble_eq_true rfl) dX4_copy_162 (fun H locs hP hD hS => ?_)
          have hP : va_P D vwCl [(qh 0, .inr (2, [.int (so 0 0), .int (so 0 1), .ref (qh 1), .ref (qh 2), .ref (qh 3), .ref (qh 4), .int (so 0 6), .int (so 0 7), .int (-9), .int (so 0 9), .int (-9), .int (so 0 11), .int (sh 0 12), .ref (qh 5)])), (qh 1, .inl (k 0, 5, .inl g1)), (qh 2, .inl (k 0, 5, .inl g2)), (qh 3, .inl (k 0, 3, .inl g3)), (qh 4, .inl (k 0, 3, .inl g4)), cell2_ k qh sh, cell32_ qo so, cell0_ k qo so, cell1_ k qo so, cell4_ k qo so, cell3_ k qo so, cell2_ k qo so] H := hP
          have hD : va_D A [(qh 0, .inr (2, [.int (so 0 0), .int (so 0 1), .ref (qh 1), .ref (qh 2), .ref (qh 3), .ref (qh 4), .int (so 0 6), .int (so 0 7), .int (-9), .int (so 0 9), .int (-9), .int (so 0 11), .int (sh 0 12), .ref (qh 5)])), (qh 1, .inl (k 0, 5, .inl g1)), (qh 2, .inl (k 0, 5, .inl g2)), (qh 3, .inl (k 0, 3, .inl g3)), (qh 4, .inl (k 0, 3, .inl g4)), cell2_ k qh sh, cell32_ qo so, cell0_ k qo so, cell1_ k qo so, cell4_ k qo so, cell3_ k qo so, cell2_ k qo so] := hD
          refine lv_aload_n hx hb dX4_copy_165 rfl (lv_at hl 0 rfl) ?_
          refine lv_iload_n hx hb dX4_copy_166 rfl (lv_at hl 2 rfl) ?_
          refine lv_bipush (v := 8) hx hb dX4_copy_167 (by decide) ?_
          refine lv_iand hx hb dX4_copy_169 (lv_topi (fun v189 e189 => ?_))
          have t189 : 0 ≤ v189.toInt ∧ v189.toInt ≤ 8 := by rw [e189]; exact and_r (by decide) (by omega)
          refine lv_if_eq (tgt := 177) hx hb dX4_copy_170 (by decide) (fun c190 => ?_) (fun c190 => ?_)
          · have f190 : v189.toInt = 0 := f_eq rfl (by decide) c190
            refine lv_aload_n hx hb dX4_copy_177 rfl (lv_at hl 1 rfl) ?_
            refine g_get cx hP iw_X4_copy_X4 6 rfl rfl 12 (by decide) rfl fw_X4_copy_63 rfl dX4_copy_178 ?_
            refine g_pt cx hP hD hS iw_X4_copy_X4 tyX4 tyX4_ok nmX4 0 rfl rfl 12 (by decide) rfl fw_X4_copy_63 (ty := .int) rfl rfl rfl (Nat.le_of_ble_eq_true rfl) dX4_copy_181 (fun H locs hP hD hS => ?_)
            have hP : va_P D vwCl [cell183_ qh so (-9) (-9), (qh 1, .inl (k 0, 5, .inl g1)), (qh 2, .inl (k 0, 5, .inl g2)), (qh 3, .inl (k 0, 3, .inl g3)), (qh 4, .inl (k 0, 3, .inl g4)), cell2_ k qh sh, cell32_ qo so, cell0_ k qo so, cell1_ k qo so, cell4_ k qo so, cell3_ k qo so, cell2_ k qo so] H := hP
            have hD : va_D A [cell183_ qh so (-9) (-9), (qh 1, .inl (k 0, 5, .inl g1)), (qh 2, .inl (k 0, 5, .inl g2)), (qh 3, .inl (k 0, 3, .inl g3)), (qh 4, .inl (k 0, 3, .inl g4)), cell2_ k qh sh, cell32_ qo so, cell0_ k qo so, cell1_ k qo so, cell4_ k qo so, cell3_ k qo so, cell2_ k qo so] := hD
            refine lv_aload_n hx hb dX4_copy_184 rfl (lv_at hl 0 rfl) ?_
            refine g_v (w1 := fun (u : (Nat → Int32)) => [cell183_ qh so (-9) (-9), (qh 1, .inl (k 0, 5, .inl g1)), (qh 2, .inl (k 0, 5, .inl g2)), (qh 3, .inl (k 0, 3, .inl g3)), (qh 4, .inl (k 0, 3, .inl g4)), (qh 5, .inl (k 0, 525, .inl u))]) (g_runV (wc := [cell183_ qh so (-9) (-9), (qh 1, .inl (k 0, 5, .inl g1)), (qh 2, .inl (k 0, 5, .inl g2)), (qh 3, .inl (k 0, 3, .inl g3)), (qh 4, .inl (k 0, 3, .inl g4)), cell2_ k qh sh]) (rest := []) cx hP hD hS [0, 1, 2, 3, 4, 5] rfl (by decide) [] (c_X4_settle l D k b qh (up2 (up2 (up2 (up2 (up2 sh 0 (upd (upd (upd (upd (upd (upd (upd (upd (upd (sh 0) 0 (so 0 0)) 1 (so 0 1)) 6 (so 0 6)) 7 (so 0 7)) 8 (-9)) 9 (so 0 9)) 10 (-9)) 11 (so 0 11)) 12 (so 0 12))) 1 g1) 2 g2) 3 g3) 4 g4) H.size (show 0 ≤ (so 0 12).toInt ∧ (so 0 12).toInt ≤ 5 from by first | decide | omega) ag3) gX4_copy_X4_settle rfl rfl rfl nd_X4_settle ⟨Nat.le_of_ble_eq_true rfl, Nat.le_of_ble_eq_true rfl⟩ (ci := 2) (q0 := 0) rfl rfl rfl hl.1 rfl (Nat.le_of_ble_eq_true rfl) ⟨Nat.zero_le _, Nat.zero_le _⟩ dX4_copy_185) cx.2.2.1 hP hD hS [0, 1, 2, 3, 4, 5] rfl (fun _ => rfl) (fun u192 H locs hw191 hP hD hS => ?_)
            obtain ⟨m193, rfl⟩ : ∃ z, z = u192 := ⟨_, rfl⟩
            have hP : va_P D vwCl [cell183_ qh so (-9) (-9), (qh 1, .inl (k 0, 5, .inl g1)), (qh 2, .inl (k 0, 5, .inl g2)), (qh 3, .inl (k 0, 3, .inl g3)), (qh 4, .inl (k 0, 3, .inl g4)), (qh 5, .inl (k 0, 525, .inl m193)), cell32_ qo so, cell0_ k qo so, cell1_ k qo so, cell4_ k qo so, cell3_ k qo so, cell2_ k qo so] H := hP
            have hD : va_D A [cell183_ qh so (-9) (-9), (qh 1, .inl (k 0, 5, .inl g1)), (qh 2, .inl (k 0, 5, .inl g2)), (qh 3, .inl (k 0, 3, .inl g3)), (qh 4, .inl (k 0, 3, .inl g4)), (qh 5, .inl (k 0, 525, .inl m193)), cell32_ qo so, cell0_ k qo so, cell1_ k qo so, cell4_ k qo so, cell3_ k qo so, cell2_ k qo so] := hD
            have w194 : SUok m193 := hw191
            clear hw191
            have hlit195 : ((-9) : Int32).toInt = -9 := by decide
            have hlit196 : ((-9) : Int32).toInt = -9 := by decide
            rw [hQ]
            exact x_v cx hr ((so 0 0), (so 0 1), g1, g2, g3, g4, (so 0 6), (so 0 7), (-9), (so 0 9), (-9), (so 0 11), (so 0 12), m193) hP hD hS ⟨(show 0 ≤ (so 0 0).toInt ∧ (so 0 0).toInt ≤ 5 from by omega), (show 0 ≤ (so 0 1).toInt ∧ (so 0 1).toInt ≤ 4 from by omega), (show 0 ≤ (so 0 12).toInt ∧ (so 0 12).toInt ≤ 5 from by omega), ag2, ag3, (show SUok m193 from by assumption), (show (so 0 0).toInt = (so 0 0).toInt from by omega), (show ((so 0 0), (so 0 1), g1, g2, g3, g4, (so 0 6), (so 0 7), ((-9) : Int32), (so 0 9), ((-9) : Int32), (so 0 11), (so 0 12)) = J_X4_copy sh so p0 from by subst eg1 eg2 eg3 eg4 e5 e149 e151 e187 e189; first | (refine Eq.symm ?_; refine Eq.trans (if_neg c6) ?_; refine Eq.trans (if_pos c150) ?_; refine Eq.trans (if_neg c152) ?_; refine Eq.trans (if_pos c188) ?_; refine Eq.trans (if_pos c190) ?_; rfl) | (unfold J_X4_copy; try dsimp only; rw [if_neg c6, if_pos c150, if_neg c152, if_pos c188, if_pos c190]))⟩ dX4_copy_188
          · have f190 : ¬ v189.toInt = 0 := f_ne rfl (by decide) c190
            refine lv_iconst (v := 0) hx hb dX4_copy_173 (by decide) ?_
            refine lv_goto (tgt := 181) hx hb dX4_copy_174 (by decide) ?_
            refine g_pt cx hP hD hS iw_X4_copy_X4 tyX4 tyX4_ok nmX4 0 rfl rfl 12 (by decide) rfl fw_X4_copy_63 (ty := .int) rfl rfl rfl (Nat.le_of_ble_eq_true rfl) dX4_copy_181 (fun H locs hP hD hS => ?_)
            have hP : va_P D vwCl [cell184_ qh so (-9) (-9) 0, (qh 1, .inl (k 0, 5, .inl g1)), (qh 2, .inl (k 0, 5, .inl g2)), (qh 3, .inl (k 0, 3, .inl g3)), (qh 4, .inl (k 0, 3, .inl g4)), cell2_ k qh sh, cell32_ qo so, cell0_ k qo so, cell1_ k qo so, cell4_ k qo so, cell3_ k qo so, cell2_ k qo so] H := hP
            have hD : va_D A [cell184_ qh so (-9) (-9) 0, (qh 1, .inl (k 0, 5, .inl g1)), (qh 2, .inl (k 0, 5, .inl g2)), (qh 3, .inl (k 0, 3, .inl g3)), (qh 4, .inl (k 0, 3, .inl g4)), cell2_ k qh sh, cell32_ qo so, cell0_ k qo so, cell1_ k qo so, cell4_ k qo so, cell3_ k qo so, cell2_ k qo so] := hD
            have hlit197 : (0 : Int32).toInt = 0 := by decide
            refine lv_aload_n hx hb dX4_copy_184 rfl (lv_at hl 0 rfl) ?_
            refine g_v (w1 := fun (u : (Nat → Int32)) => [cell184_ qh so (-9) (-9) 0, (qh 1, .inl (k 0, 5, .inl g1)), (qh 2, .inl (k 0, 5, .inl g2)), (qh 3, .inl (k 0, 3, .inl g3)), (qh 4, .inl (k 0, 3, .inl g4)), (qh 5, .inl (k 0, 525, .inl u))]) (g_runV (wc := [cell184_ qh so (-9) (-9) 0, (qh 1, .inl (k 0, 5, .inl g1)), (qh 2, .inl (k 0, 5, .inl g2)), (qh 3, .inl (k 0, 3, .inl g3)), (qh 4, .inl (k 0, 3, .inl g4)), cell2_ k qh sh]) (rest := []) cx hP hD hS [0, 1, 2, 3, 4, 5] rfl (by decide) [] (c_X4_settle l D k b qh (up2 (up2 (up2 (up2 (up2 sh 0 (upd (upd (upd (upd (upd (upd (upd (upd (upd (sh 0) 0 (so 0 0)) 1 (so 0 1)) 6 (so 0 6)) 7 (so 0 7)) 8 (-9)) 9 (so 0 9)) 10 (-9)) 11 (so 0 11)) 12 0)) 1 g1) 2 g2) 3 g3) 4 g4) H.size (show 0 ≤ (0 : Int32).toInt ∧ (0 : Int32).toInt ≤ 5 from by first | decide | omega) ag3) gX4_copy_X4_settle rfl rfl rfl nd_X4_settle ⟨Nat.le_of_ble_eq_true rfl, Nat.le_of_ble_eq_true rfl⟩ (ci := 2) (q0 := 0) rfl rfl rfl hl.1 rfl (Nat.le_of_ble_eq_true rfl) ⟨Nat.zero_le _, Nat.zero_le _⟩ dX4_copy_185) cx.2.2.1 hP hD hS [0, 1, 2, 3, 4, 5] rfl (fun _ => rfl) (fun u199 H locs hw198 hP hD hS => ?_)
            obtain ⟨m200, rfl⟩ : ∃ z, z = u199 := ⟨_, rfl⟩
            have hP : va_P D vwCl [cell184_ qh so (-9) (-9) 0, (qh 1, .inl (k 0, 5, .inl g1)), (qh 2, .inl (k 0, 5, .inl g2)), (qh 3, .inl (k 0, 3, .inl g3)), (qh 4, .inl (k 0, 3, .inl g4)), (qh 5, .inl (k 0, 525, .inl m200)), cell32_ qo so, cell0_ k qo so, cell1_ k qo so, cell4_ k qo so, cell3_ k qo so, cell2_ k qo so] H := hP
            have hD : va_D A [cell184_ qh so (-9) (-9) 0, (qh 1, .inl (k 0, 5, .inl g1)), (qh 2, .inl (k 0, 5, .inl g2)), (qh 3, .inl (k 0, 3, .inl g3)), (qh 4, .inl (k 0, 3, .inl g4)), (qh 5, .inl (k 0, 525, .inl m200)), cell32_ qo so, cell0_ k qo so, cell1_ k qo so, cell4_ k qo so, cell3_ k qo so, cell2_ k qo so] := hD
            have w201 : SUok m200 := hw198
            clear hw198
            have hlit202 : ((-9) : Int32).toInt = -9 := by decide
            have hlit203 : ((-9) : Int32).toInt = -9 := by decide
            have hlit204 : (0 : Int32).toInt = 0 := by decide
            rw [hQ]
            exact x_v cx hr ((so 0 0), (so 0 1), g1, g2, g3, g4, (so 0 6), (so 0 7), (-9), (so 0 9), (-9), (so 0 11), 0, m200) hP hD hS ⟨(show 0 ≤ (so 0 0).toInt ∧ (so 0 0).toInt ≤ 5 from by omega), (show 0 ≤ (so 0 1).toInt ∧ (so 0 1).toInt ≤ 4 from by omega), (show 0 ≤ (0 : Int32).toInt ∧ (0 : Int32).toInt ≤ 5 from by omega), ag2, ag3, (show SUok m200 from by assumption), (show (so 0 0).toInt = (so 0 0).toInt from by omega), (show ((so 0 0), (so 0 1), g1, g2, g3, g4, (so 0 6), (so 0 7), ((-9) : Int32), (so 0 9), ((-9) : Int32), (so 0 11), (0 : Int32)) = J_X4_copy sh so p0 from by subst eg1 eg2 eg3 eg4 e5 e149 e151 e187 e189; first | (refine Eq.symm ?_; refine Eq.trans (if_neg c6) ?_; refine Eq.trans (if_pos c150) ?_; refine Eq.trans (if_neg c152) ?_; refine Eq.trans (if_pos c188) ?_; refine Eq.trans (if_neg c190) ?_; rfl) | (unfold J_X4_copy; try dsimp only; rw [if_neg c6, if_pos c150, if_neg c152, if_pos c188, if_neg c190]))⟩ dX4_copy_188
        · have f188 : ¬ v187.toInt = 0 := f_ne rfl (by decide) c188
          refine lv_bipush (v := (-9)) hx hb dX4_copy_153 (by decide) ?_
          refine lv_goto (tgt := 162) hx hb dX4_copy_155 (by decide) ?_
          refine g_pt cx hP hD hS iw_X4_copy_X4 tyX4 tyX4_ok nmX4 0 rfl rfl 11 (by decide) rfl fw_X4_copy_60 (ty := .int) rfl rfl rfl (Nat.le_of_ble_eq_true rfl) dX4_copy_162 (fun H locs hP hD hS => ?_)
          have hP : va_P D vwCl [(qh 0, .inr (2, [.int (so 0 0), .int (so 0 1), .ref (qh 1), .ref (qh 2), .ref (qh 3), .ref (qh 4), .int (so 0 6), .int (so 0 7), .int (-9), .int (so 0 9), .int (-9), .int (-9), .int (sh 0 12), .ref (qh 5)])), (qh 1, .inl (k 0, 5, .inl g1)), (qh 2, .inl (k 0, 5, .inl g2)), (qh 3, .inl (k 0, 3, .inl g3)), (qh 4, .inl (k 0, 3, .inl g4)), cell2_ k qh sh, cell32_ qo so, cell0_ k qo so, cell1_ k qo so, cell4_ k qo so, cell3_ k qo so, cell2_ k qo so] H := hP
          have hD : va_D A [(qh 0, .inr (2, [.int (so 0 0), .int (so 0 1), .ref (qh 1), .ref (qh 2), .ref (qh 3), .ref (qh 4), .int (so 0 6), .int (so 0 7), .int (-9), .int (so 0 9), .int (-9), .int (-9), .int (sh 0 12), .ref (qh 5)])), (qh 1, .inl (k 0, 5, .inl g1)), (qh 2, .inl (k 0, 5, .inl g2)), (qh 3, .inl (k 0, 3, .inl g3)), (qh 4, .inl (k 0, 3, .inl g4)), cell2_ k qh sh, cell32_ qo so, cell0_ k qo so, cell1_ k qo so, cell4_ k qo so, cell3_ k qo so, cell2_ k qo so] := hD
          have hlit205 : ((-9) : Int32).toInt = -9 := by decide
          refine lv_aload_n hx hb dX4_copy_165 rfl (lv_at hl 0 rfl) ?_
          refine lv_iload_n hx hb dX4_copy_166 rfl (lv_at hl 2 rfl) ?_
          refine lv_bipush (v := 8) hx hb dX4_copy_167 (by decide) ?_
          refine lv_iand hx hb dX4_copy_169 (lv_topi (fun v206 e206 => ?_))
          have t206 : 0 ≤ v206.toInt ∧ v206.toInt ≤ 8 := by rw [e206]; exact and_r (by decide) (by omega)
          refine lv_if_eq (tgt := 177) hx hb dX4_copy_170 (by decide) (fun c207 => ?_) (fun c207 => ?_)
          · have f207 : v206.toInt = 0 := f_eq rfl (by decide) c207
            refine lv_aload_n hx hb dX4_copy_177 rfl (lv_at hl 1 rfl) ?_
            refine g_get cx hP iw_X4_copy_X4 6 rfl rfl 12 (by decide) rfl fw_X4_copy_63 rfl dX4_copy_178 ?_
            refine g_pt cx hP hD hS iw_X4_copy_X4 tyX4 tyX4_ok nmX4 0 rfl rfl 12 (by decide) rfl fw_X4_copy_63 (ty := .int) rfl rfl rfl (Nat.le_of_ble_eq_true rfl) dX4_copy_181 (fun H locs hP hD hS => ?_)
            have hP : va_P D vwCl [cell185_ qh so (-9) (-9) (-9), (qh 1, .inl (k 0, 5, .inl g1)), (qh 2, .inl (k 0, 5, .inl g2)), (qh 3, .inl (k 0, 3, .inl g3)), (qh 4, .inl (k 0, 3, .inl g4)), cell2_ k qh sh, cell32_ qo so, cell0_ k qo so, cell1_ k qo so, cell4_ k qo so, cell3_ k qo so, cell2_ k qo so] H := hP
            have hD : va_D A [cell185_ qh so (-9) (-9) (-9), (qh 1, .inl (k 0, 5, .inl g1)), (qh 2, .inl (k 0, 5, .inl g2)), (qh 3, .inl (k 0, 3, .inl g3)), (qh 4, .inl (k 0, 3, .inl g4)), cell2_ k qh sh, cell32_ qo so, cell0_ k qo so, cell1_ k qo so, cell4_ k qo so, cell3_ k qo so, cell2_ k qo so] := hD
            refine lv_aload_n hx hb dX4_copy_184 rfl (lv_at hl 0 rfl) ?_
            refine g_v (w1 := fun (u : (Nat → Int32)) => [cell185_ qh so (-9) (-9) (-9), (qh 1, .inl (k 0, 5, .inl g1)), (qh 2, .inl (k 0, 5, .inl g2)), (qh 3, .inl (k 0, 3, .inl g3)), (qh 4, .inl (k 0, 3, .inl g4)), (qh 5, .inl (k 0, 525, .inl u))]) (g_runV (wc := [cell185_ qh so (-9) (-9) (-9), (qh 1, .inl (k 0, 5, .inl g1)), (qh 2, .inl (k 0, 5, .inl g2)), (qh 3, .inl (k 0, 3, .inl g3)), (qh 4, .inl (k 0, 3, .inl g4)), cell2_ k qh sh]) (rest := []) cx hP hD hS [0, 1, 2, 3, 4, 5] rfl (by decide) [] (c_X4_settle l D k b qh (up2 (up2 (up2 (up2 (up2 sh 0 (upd (upd (upd (upd (upd (upd (upd (upd (upd (sh 0) 0 (so 0 0)) 1 (so 0 1)) 6 (so 0 6)) 7 (so 0 7)) 8 (-9)) 9 (so 0 9)) 10 (-9)) 11 (-9)) 12 (so 0 12))) 1 g1) 2 g2) 3 g3) 4 g4) H.size (show 0 ≤ (so 0 12).toInt ∧ (so 0 12).toInt ≤ 5 from by first | decide | omega) ag3) gX4_copy_X4_settle rfl rfl rfl nd_X4_settle ⟨Nat.le_of_ble_eq_true rfl, Nat.le_of_ble_eq_true rfl⟩ (ci := 2) (q0 := 0) rfl rfl rfl hl.1 rfl (Nat.le_of_ble_eq_true rfl) ⟨Nat.zero_le _, Nat.zero_le _⟩ dX4_copy_185) cx.2.2.1 hP hD hS [0, 1, 2, 3, 4, 5] rfl (fun _ => rfl) (fun u209 H locs hw208 hP hD hS => ?_)
            obtain ⟨m210, rfl⟩ : ∃ z, z = u209 := ⟨_, rfl⟩
            have hP : va_P D vwCl [cell185_ qh so (-9) (-9) (-9), (qh 1, .inl (k 0, 5, .inl g1)), (qh 2, .inl (k 0, 5, .inl g2)), (qh 3, .inl (k 0, 3, .inl g3)), (qh 4, .inl (k 0, 3, .inl g4)), (qh 5, .inl (k 0, 525, .inl m210)), cell32_ qo so, cell0_ k qo so, cell1_ k qo so, cell4_ k qo so, cell3_ k qo so, cell2_ k qo so] H := hP
            have hD : va_D A [cell185_ qh so (-9) (-9) (-9), (qh 1, .inl (k 0, 5, .inl g1)), (qh 2, .inl (k 0, 5, .inl g2)), (qh 3, .inl (k 0, 3, .inl g3)), (qh 4, .inl (k 0, 3, .inl g4)), (qh 5, .inl (k 0, 525, .inl m210)), cell32_ qo so, cell0_ k qo so, cell1_ k qo so, cell4_ k qo so, cell3_ k qo so, cell2_ k qo so] := hD
            have w211 : SUok m210 := hw208
            clear hw208
            have hlit212 : ((-9) : Int32).toInt = -9 := by decide
            have hlit213 : ((-9) : Int32).toInt = -9 := by decide
            have hlit214 : ((-9) : Int32).toInt = -9 := by decide
            rw [hQ]
            exact x_v cx hr ((so 0 0), (so 0 1), g1, g2, g3, g4, (so 0 6), (so 0 7), (-9), (so 0 9), (-9), (-9), (so 0 12), m210) hP hD hS ⟨(show 0 ≤ (so 0 0).toInt ∧ (so 0 0).toInt ≤ 5 from by omega), (show 0 ≤ (so 0 1).toInt ∧ (so 0 1).toInt ≤ 4 from by omega), (show 0 ≤ (so 0 12).toInt ∧ (so 0 12).toInt ≤ 5 from by omega), ag2, ag3, (show SUok m210 from by assumption), (show (so 0 0).toInt = (so 0 0).toInt from by omega), (show ((so 0 0), (so 0 1), g1, g2, g3, g4, (so 0 6), (so 0 7), ((-9) : Int32), (so 0 9), ((-9) : Int32), ((-9) : Int32), (so 0 12)) = J_X4_copy sh so p0 from by subst eg1 eg2 eg3 eg4 e5 e149 e151 e187 e206; first | (refine Eq.symm ?_; refine Eq.trans (if_neg c6) ?_; refine Eq.trans (if_pos c150) ?_; refine Eq.trans (if_neg c152) ?_; refine Eq.trans (if_neg c188) ?_; refine Eq.trans (if_pos c207) ?_; rfl) | (unfold J_X4_copy; try dsimp only; rw [if_neg c6, if_pos c150, if_neg c152, if_neg c188, if_pos c207]))⟩ dX4_copy_188
          · have f207 : ¬ v206.toInt = 0 := f_ne rfl (by decide) c207
            refine lv_iconst (v := 0) hx hb dX4_copy_173 (by decide) ?_
            refine lv_goto (tgt := 181) hx hb dX4_copy_174 (by decide) ?_
            refine g_pt cx hP hD hS iw_X4_copy_X4 tyX4 tyX4_ok nmX4 0 rfl rfl 12 (by decide) rfl fw_X4_copy_63 (ty := .int) rfl rfl rfl (Nat.le_of_ble_eq_true rfl) dX4_copy_181 (fun H locs hP hD hS => ?_)
            have hP : va_P D vwCl [cell186_ qh so (-9) (-9) (-9) 0, (qh 1, .inl (k 0, 5, .inl g1)), (qh 2, .inl (k 0, 5, .inl g2)), (qh 3, .inl (k 0, 3, .inl g3)), (qh 4, .inl (k 0, 3, .inl g4)), cell2_ k qh sh, cell32_ qo so, cell0_ k qo so, cell1_ k qo so, cell4_ k qo so, cell3_ k qo so, cell2_ k qo so] H := hP
            have hD : va_D A [cell186_ qh so (-9) (-9) (-9) 0, (qh 1, .inl (k 0, 5, .inl g1)), (qh 2, .inl (k 0, 5, .inl g2)), (qh 3, .inl (k 0, 3, .inl g3)), (qh 4, .inl (k 0, 3, .inl g4)), cell2_ k qh sh, cell32_ qo so, cell0_ k qo so, cell1_ k qo so, cell4_ k qo so, cell3_ k qo so, cell2_ k qo so] := hD
            have hlit215 : (0 : Int32).toInt = 0 := by decide
            refine lv_aload_n hx hb dX4_copy_184 rfl (lv_at hl 0 rfl) ?_
            refine g_v (w1 := fun (u : (Nat → Int32)) => [cell186_ qh so (-9) (-9) (-9) 0, (qh 1, .inl (k 0, 5, .inl g1)), (qh 2, .inl (k 0, 5, .inl g2)), (qh 3, .inl (k 0, 3, .inl g3)), (qh 4, .inl (k 0, 3, .inl g4)), (qh 5, .inl (k 0, 525, .inl u))]) (g_runV (wc := [cell186_ qh so (-9) (-9) (-9) 0, (qh 1, .inl (k 0, 5, .inl g1)), (qh 2, .inl (k 0, 5, .inl g2)), (qh 3, .inl (k 0, 3, .inl g3)), (qh 4, .inl (k 0, 3, .inl g4)), cell2_ k qh sh]) (rest := []) cx hP hD hS [0, 1, 2, 3, 4, 5] rfl (by decide) [] (c_X4_settle l D k b qh (up2 (up2 (up2 (up2 (up2 sh 0 (upd (upd (upd (upd (upd (upd (upd (upd (upd (sh 0) 0 (so 0 0)) 1 (so 0 1)) 6 (so 0 6)) 7 (so 0 7)) 8 (-9)) 9 (so 0 9)) 10 (-9)) 11 (-9)) 12 0)) 1 g1) 2 g2) 3 g3) 4 g4) H.size (show 0 ≤ (0 : Int32).toInt ∧ (0 : Int32).toInt ≤ 5 from by first | decide | omega) ag3) gX4_copy_X4_settle rfl rfl rfl nd_X4_settle ⟨Nat.le_of_ble_eq_true rfl, Nat.le_of_ble_eq_true rfl⟩ (ci := 2) (q0 := 0) rfl rfl rfl hl.1 rfl (Nat.le_of_ble_eq_true rfl) ⟨Nat.zero_le _, Nat.zero_le _⟩ dX4_copy_185) cx.2.2.1 hP hD hS [0, 1, 2, 3, 4, 5] rfl (fun _ => rfl) (fun u217 H locs hw216 hP hD hS => ?_)
            obtain ⟨m218, rfl⟩ : ∃ z, z = u217 := ⟨_, rfl⟩
            have hP : va_P D vwCl [cell186_ qh so (-9) (-9) (-9) 0, (qh 1, .inl (k 0, 5, .inl g1)), (qh 2, .inl (k 0, 5, .inl g2)), (qh 3, .inl (k 0, 3, .inl g3)), (qh 4, .inl (k 0, 3, .inl g4)), (qh 5, .inl (k 0, 525, .inl m218)), cell32_ qo so, cell0_ k qo so, cell1_ k qo so, cell4_ k qo so, cell3_ k qo so, cell2_ k qo so] H := hP
            have hD : va_D A [cell186_ qh so (-9) (-9) (-9) 0, (qh 1, .inl (k 0, 5, .inl g1)), (qh 2, .inl (k 0, 5, .inl g2)), (qh 3, .inl (k 0, 3, .inl g3)), (qh 4, .inl (k 0, 3, .inl g4)), (qh 5, .inl (k 0, 525, .inl m218)), cell32_ qo so, cell0_ k qo so, cell1_ k qo so, cell4_ k qo so, cell3_ k qo so, cell2_ k qo so] := hD
            have w219 : SUok m218 := hw216
            clear hw216
            have hlit220 : ((-9) : Int32).toInt = -9 := by decide
            have hlit221 : ((-9) : Int32).toInt = -9 := by decide
            have hlit222 : ((-9) : Int32).toInt = -9 := by decide
            have hlit223 : (0 : Int32).toInt = 0 := by decide
            rw [hQ]
            exact x_v cx hr ((so 0 0), (so 0 1), g1, g2, g3, g4, (so 0 6), (so 0 7), (-9), (so 0 9), (-9), (-9), 0, m218) hP hD hS ⟨(show 0 ≤ (so 0 0).toInt ∧ (so 0 0).toInt ≤ 5 from by omega), (show 0 ≤ (so 0 1).toInt ∧ (so 0 1).toInt ≤ 4 from by omega), (show 0 ≤ (0 : Int32).toInt ∧ (0 : Int32).toInt ≤ 5 from by omega), ag2, ag3, (show SUok m218 from by assumption), (show (so 0 0).toInt = (so 0 0).toInt from by omega), (show ((so 0 0), (so 0 1), g1, g2, g3, g4, (so 0 6), (so 0 7), ((-9) : Int32), (so 0 9), ((-9) : Int32), ((-9) : Int32), (0 : Int32)) = J_X4_copy sh so p0 from by subst eg1 eg2 eg3 eg4 e5 e149 e151 e187 e206; first | (refine Eq.symm ?_; refine Eq.trans (if_neg c6) ?_; refine Eq.trans (if_pos c150) ?_; refine Eq.trans (if_neg c152) ?_; refine Eq.trans (if_neg c188) ?_; refine Eq.trans (if_neg c207) ?_; rfl) | (unfold J_X4_copy; try dsimp only; rw [if_neg c6, if_pos c150, if_neg c152, if_neg c188, if_neg c207]))⟩ dX4_copy_188
    · have f150 : ¬ v149.toInt = 0 := f_ne rfl (by decide) c150
      refine lv_bipush (v := (-9)) hx hb dX4_copy_114 (by decide) ?_
      refine lv_goto (tgt := 123) hx hb dX4_copy_116 (by decide) ?_
      refine g_pt cx hP hD hS iw_X4_copy_X4 tyX4 tyX4_ok nmX4 0 rfl rfl 9 (by decide) rfl fw_X4_copy_54 (ty := .int) rfl rfl rfl (Nat.le_of_ble_eq_true rfl) dX4_copy_123 (fun H locs hP hD hS => ?_)
      have hP : va_P D vwCl [(qh 0, .inr (2, [.int (so 0 0), .int (so 0 1), .ref (qh 1), .ref (qh 2), .ref (qh 3), .ref (qh 4), .int (so 0 6), .int (so 0 7), .int (-9), .int (-9), .int (sh 0 10), .int (sh 0 11), .int (sh 0 12), .ref (qh 5)])), (qh 1, .inl (k 0, 5, .inl g1)), (qh 2, .inl (k 0, 5, .inl g2)), (qh 3, .inl (k 0, 3, .inl g3)), (qh 4, .inl (k 0, 3, .inl g4)), cell2_ k qh sh, cell32_ qo so, cell0_ k qo so, cell1_ k qo so, cell4_ k qo so, cell3_ k qo so, cell2_ k qo so] H := hP
      have hD : va_D A [(qh 0, .inr (2, [.int (so 0 0), .int (so 0 1), .ref (qh 1), .ref (qh 2), .ref (qh 3), .ref (qh 4), .int (so 0 6), .int (so 0 7), .int (-9), .int (-9), .int (sh 0 10), .int (sh 0 11), .int (sh 0 12), .ref (qh 5)])), (qh 1, .inl (k 0, 5, .inl g1)), (qh 2, .inl (k 0, 5, .inl g2)), (qh 3, .inl (k 0, 3, .inl g3)), (qh 4, .inl (k 0, 3, .inl g4)), cell2_ k qh sh, cell32_ qo so, cell0_ k qo so, cell1_ k qo so, cell4_ k qo so, cell3_ k qo so, cell2_ k qo so] := hD
      have hlit224 : ((-9) : Int32).toInt = -9 := by decide
      refine lv_aload_n hx hb dX4_copy_126 rfl (lv_at hl 0 rfl) ?_
      refine lv_iload_n hx hb dX4_copy_127 rfl (lv_at hl 2 rfl) ?_
      refine lv_iconst (v := 4) hx hb dX4_copy_128 (by decide) ?_
      refine lv_iand hx hb dX4_copy_129 (lv_topi (fun v225 e225 => ?_))
      have t225 : 0 ≤ v225.toInt ∧ v225.toInt ≤ 4 := by rw [e225]; exact and_r (by decide) (by omega)
      refine lv_if_eq (tgt := 138) hx hb dX4_copy_130 (by decide) (fun c226 => ?_) (fun c226 => ?_)
      · have f226 : v225.toInt = 0 := f_eq rfl (by decide) c226
        refine lv_aload_n hx hb dX4_copy_138 rfl (lv_at hl 1 rfl) ?_
        refine g_get cx hP iw_X4_copy_X4 6 rfl rfl 10 (by decide) rfl fw_X4_copy_57 rfl dX4_copy_139 ?_
        refine g_pt cx hP hD hS iw_X4_copy_X4 tyX4 tyX4_ok nmX4 0 rfl rfl 10 (by decide) rfl fw_X4_copy_57 (ty := .int) rfl rfl rfl (Nat.le_of_ble_eq_true rfl) dX4_copy_142 (fun H locs hP hD hS => ?_)
        have hP : va_P D vwCl [(qh 0, .inr (2, [.int (so 0 0), .int (so 0 1), .ref (qh 1), .ref (qh 2), .ref (qh 3), .ref (qh 4), .int (so 0 6), .int (so 0 7), .int (-9), .int (-9), .int (so 0 10), .int (sh 0 11), .int (sh 0 12), .ref (qh 5)])), (qh 1, .inl (k 0, 5, .inl g1)), (qh 2, .inl (k 0, 5, .inl g2)), (qh 3, .inl (k 0, 3, .inl g3)), (qh 4, .inl (k 0, 3, .inl g4)), cell2_ k qh sh, cell32_ qo so, cell0_ k qo so, cell1_ k qo so, cell4_ k qo so, cell3_ k qo so, cell2_ k qo so] H := hP
        have hD : va_D A [(qh 0, .inr (2, [.int (so 0 0), .int (so 0 1), .ref (qh 1), .ref (qh 2), .ref (qh 3), .ref (qh 4), .int (so 0 6), .int (so 0 7), .int (-9), .int (-9), .int (so 0 10), .int (sh 0 11), .int (sh 0 12), .ref (qh 5)])), (qh 1, .inl (k 0, 5, .inl g1)), (qh 2, .inl (k 0, 5, .inl g2)), (qh 3, .inl (k 0, 3, .inl g3)), (qh 4, .inl (k 0, 3, .inl g4)), cell2_ k qh sh, cell32_ qo so, cell0_ k qo so, cell1_ k qo so, cell4_ k qo so, cell3_ k qo so, cell2_ k qo so] := hD
        refine lv_aload_n hx hb dX4_copy_145 rfl (lv_at hl 0 rfl) ?_
        refine lv_iload_n hx hb dX4_copy_146 rfl (lv_at hl 2 rfl) ?_
        refine lv_bipush (v := 8) hx hb dX4_copy_147 (by decide) ?_
        refine lv_iand hx hb dX4_copy_149 (lv_topi (fun v227 e227 => ?_))
        have t227 : 0 ≤ v227.toInt ∧ v227.toInt ≤ 8 := by rw [e227]; exact and_r (by decide) (by omega)
        refine lv_if_eq (tgt := 158) hx hb dX4_copy_150 (by decide) (fun c228 => ?_) (fun c228 => ?_)
        · have f228 : v227.toInt = 0 := f_eq rfl (by decide) c228
          refine lv_aload_n hx hb dX4_copy_158 rfl (lv_at hl 1 rfl) ?_
          refine g_get cx hP iw_X4_copy_X4 6 rfl rfl 11 (by decide) rfl fw_X4_copy_60 rfl dX4_copy_159 ?_
          refine g_pt cx hP hD hS iw_X4_copy_X4 tyX4 tyX4_ok nmX4 0 rfl rfl 11 (by decide) rfl fw_X4_copy_60 (ty := .int) rfl rfl rfl (Nat.le_of_ble_eq_true rfl) dX4_copy_162 (fun H locs hP hD hS => ?_)
          have hP : va_P D vwCl [(qh 0, .inr (2, [.int (so 0 0), .int (so 0 1), .ref (qh 1), .ref (qh 2), .ref (qh 3), .ref (qh 4), .int (so 0 6), .int (so 0 7), .int (-9), .int (-9), .int (so 0 10), .int (so 0 11), .int (sh 0 12), .ref (qh 5)])), (qh 1, .inl (k 0, 5, .inl g1)), (qh 2, .inl (k 0, 5, .inl g2)), (qh 3, .inl (k 0, 3, .inl g3)), (qh 4, .inl (k 0, 3, .inl g4)), cell2_ k qh sh, cell32_ qo so, cell0_ k qo so, cell1_ k qo so, cell4_ k qo so, cell3_ k qo so, cell2_ k qo so] H := hP
          have hD : va_D A [(qh 0, .inr (2, [.int (so 0 0), .int (so 0 1), .ref (qh 1), .ref (qh 2), .ref (qh 3), .ref (qh 4), .int (so 0 6), .int (so 0 7), .int (-9), .int (-9), .int (so 0 10), .int (so 0 11), .int (sh 0 12), .ref (qh 5)])), (qh 1, .inl (k 0, 5, .inl g1)), (qh 2, .inl (k 0, 5, .inl g2)), (qh 3, .inl (k 0, 3, .inl g3)), (qh 4, .inl (k 0, 3, .inl g4)), cell2_ k qh sh, cell32_ qo so, cell0_ k qo so, cell1_ k qo so, cell4_ k qo so, cell3_ k qo so, cell2_ k qo so] := hD
          refine lv_aload_n hx hb dX4_copy_165 rfl (lv_at hl 0 rfl) ?_
          refine lv_iload_n hx hb dX4_copy_166 rfl (lv_at hl 2 rfl) ?_
          refine lv_bipush (v := 8) hx hb dX4_copy_167 (by decide) ?_
          refine lv_iand hx hb dX4_copy_169 (lv_topi (fun v229 e229 => ?_))
          have t229 : 0 ≤ v229.toInt ∧ v229.toInt ≤ 8 := by rw [e229]; exact and_r (by decide) (by omega)
          refine lv_if_eq (tgt := 177) hx hb dX4_copy_170 (by decide) (fun c230 => ?_) (fun c230 => ?_)
          · have f230 : v229.toInt = 0 := f_eq rfl (by decide) c230
            refine lv_aload_n hx hb dX4_copy_177 rfl (lv_at hl 1 rfl) ?_
            refine g_get cx hP iw_X4_copy_X4 6 rfl rfl 12 (by decide) rfl fw_X4_copy_63 rfl dX4_copy_178 ?_
            refine g_pt cx hP hD hS iw_X4_copy_X4 tyX4 tyX4_ok nmX4 0 rfl rfl 12 (by decide) rfl fw_X4_copy_63 (ty := .int) rfl rfl rfl (Nat.le_of_ble_eq_true rfl) dX4_copy_181 (fun H locs hP hD hS => ?_)
            have hP : va_P D vwCl [cell187_ qh so (-9) (-9), (qh 1, .inl (k 0, 5, .inl g1)), (qh 2, .inl (k 0, 5, .inl g2)), (qh 3, .inl (k 0, 3, .inl g3)), (qh 4, .inl (k 0, 3, .inl g4)), cell2_ k qh sh, cell32_ qo so, cell0_ k qo so, cell1_ k qo so, cell4_ k qo so, cell3_ k qo so, cell2_ k qo so] H := hP
            have hD : va_D A [cell187_ qh so (-9) (-9), (qh 1, .inl (k 0, 5, .inl g1)), (qh 2, .inl (k 0, 5, .inl g2)), (qh 3, .inl (k 0, 3, .inl g3)), (qh 4, .inl (k 0, 3, .inl g4)), cell2_ k qh sh, cell32_ qo so, cell0_ k qo so, cell1_ k qo so, cell4_ k qo so, cell3_ k qo so, cell2_ k qo so] := hD
            refine lv_aload_n hx hb dX4_copy_184 rfl (lv_at hl 0 rfl) ?_
            refine g_v (w1 := fun (u : (Nat → Int32)) => [cell187_ qh so (-9) (-9), (qh 1, .inl (k 0, 5, .inl g1)), (qh 2, .inl (k 0, 5, .inl g2)), (qh 3, .inl (k 0, 3, .inl g3)), (qh 4, .inl (k 0, 3, .inl g4)), (qh 5, .inl (k 0, 525, .inl u))]) (g_runV (wc := [cell187_ qh so (-9) (-9), (qh 1, .inl (k 0, 5, .inl g1)), (qh 2, .inl (k 0, 5, .inl g2)), (qh 3, .inl (k 0, 3, .inl g3)), (qh 4, .inl (k 0, 3, .inl g4)), cell2_ k qh sh]) (rest := []) cx hP hD hS [0, 1, 2, 3, 4, 5] rfl (by decide) [] (c_X4_settle l D k b qh (up2 (up2 (up2 (up2 (up2 sh 0 (upd (upd (upd (upd (upd (upd (upd (upd (upd (sh 0) 0 (so 0 0)) 1 (so 0 1)) 6 (so 0 6)) 7 (so 0 7)) 8 (-9)) 9 (-9)) 10 (so 0 10)) 11 (so 0 11)) 12 (so 0 12))) 1 g1) 2 g2) 3 g3) 4 g4) H.size (show 0 ≤ (so 0 12).toInt ∧ (so 0 12).toInt ≤ 5 from by first | decide | omega) ag3) gX4_copy_X4_settle rfl rfl rfl nd_X4_settle ⟨Nat.le_of_ble_eq_true rfl, Nat.le_of_ble_eq_true rfl⟩ (ci := 2) (q0 := 0) rfl rfl rfl hl.1 rfl (Nat.le_of_ble_eq_true rfl) ⟨Nat.zero_le _, Nat.zero_le _⟩ dX4_copy_185) cx.2.2.1 hP hD hS [0, 1, 2, 3, 4, 5] rfl (fun _ => rfl) (fun u232 H locs hw231 hP hD hS => ?_)
            obtain ⟨m233, rfl⟩ : ∃ z, z = u232 := ⟨_, rfl⟩
            have hP : va_P D vwCl [cell187_ qh so (-9) (-9), (qh 1, .inl (k 0, 5, .inl g1)), (qh 2, .inl (k 0, 5, .inl g2)), (qh 3, .inl (k 0, 3, .inl g3)), (qh 4, .inl (k 0, 3, .inl g4)), (qh 5, .inl (k 0, 525, .inl m233)), cell32_ qo so, cell0_ k qo so, cell1_ k qo so, cell4_ k qo so, cell3_ k qo so, cell2_ k qo so] H := hP
            have hD : va_D A [cell187_ qh so (-9) (-9), (qh 1, .inl (k 0, 5, .inl g1)), (qh 2, .inl (k 0, 5, .inl g2)), (qh 3, .inl (k 0, 3, .inl g3)), (qh 4, .inl (k 0, 3, .inl g4)), (qh 5, .inl (k 0, 525, .inl m233)), cell32_ qo so, cell0_ k qo so, cell1_ k qo so, cell4_ k qo so, cell3_ k qo so, cell2_ k qo so] := hD
            have w234 : SUok m233 := hw231
            clear hw231
            have hlit235 : ((-9) : Int32).toInt = -9 := by decide
            have hlit236 : ((-9) : Int32).toInt = -9 := by decide
            rw [hQ]
            exact x_v cx hr ((so 0 0), (so 0 1), g1, g2, g3, g4, (so 0 6), (so 0 7), (-9), (-9), (so 0 10), (so 0 11), (so 0 12), m233) hP hD hS ⟨(show 0 ≤ (so 0 0).toInt ∧ (so 0 0).toInt ≤ 5 from by omega), (show 0 ≤ (so 0 1).toInt ∧ (so 0 1).toInt ≤ 4 from by omega), (show 0 ≤ (so 0 12).toInt ∧ (so 0 12).toInt ≤ 5 from by omega), ag2, ag3, (show SUok m233 from by assumption), (show (so 0 0).toInt = (so 0 0).toInt from by omega), (show ((so 0 0), (so 0 1), g1, g2, g3, g4, (so 0 6), (so 0 7), ((-9) : Int32), ((-9) : Int32), (so 0 10), (so 0 11), (so 0 12)) = J_X4_copy sh so p0 from by subst eg1 eg2 eg3 eg4 e5 e149 e225 e227 e229; first | (refine Eq.symm ?_; refine Eq.trans (if_neg c6) ?_; refine Eq.trans (if_neg c150) ?_; refine Eq.trans (if_pos c226) ?_; refine Eq.trans (if_pos c228) ?_; refine Eq.trans (if_pos c230) ?_; rfl) | (unfold J_X4_copy; try dsimp only; rw [if_neg c6, if_neg c150, if_pos c226, if_pos c228, if_pos c230]))⟩ dX4_copy_188
          · have f230 : ¬ v229.toInt = 0 := f_ne rfl (by decide) c230
            refine lv_iconst (v := 0) hx hb dX4_copy_173 (by decide) ?_
            refine lv_goto (tgt := 181) hx hb dX4_copy_174 (by decide) ?_
            refine g_pt cx hP hD hS iw_X4_copy_X4 tyX4 tyX4_ok nmX4 0 rfl rfl 12 (by decide) rfl fw_X4_copy_63 (ty := .int) rfl rfl rfl (Nat.le_of_ble_eq_true rfl) dX4_copy_181 (fun H locs hP hD hS => ?_)
            have hP : va_P D vwCl [cell188_ qh so (-9) (-9) 0, (qh 1, .inl (k 0, 5, .inl g1)), (qh 2, .inl (k 0, 5, .inl g2)), (qh 3, .inl (k 0, 3, .inl g3)), (qh 4, .inl (k 0, 3, .inl g4)), cell2_ k qh sh, cell32_ qo so, cell0_ k qo so, cell1_ k qo so, cell4_ k qo so, cell3_ k qo so, cell2_ k qo so] H := hP
            have hD : va_D A [cell188_ qh so (-9) (-9) 0, (qh 1, .inl (k 0, 5, .inl g1)), (qh 2, .inl (k 0, 5, .inl g2)), (qh 3, .inl (k 0, 3, .inl g3)), (qh 4, .inl (k 0, 3, .inl g4)), cell2_ k qh sh, cell32_ qo so, cell0_ k qo so, cell1_ k qo so, cell4_ k qo so, cell3_ k qo so, cell2_ k qo so] := hD
            have hlit237 : (0 : Int32).toInt = 0 := by decide
            refine lv_aload_n hx hb dX4_copy_184 rfl (lv_at hl 0 rfl) ?_
            refine g_v (w1 := fun (u : (Nat → Int32)) => [cell188_ qh so (-9) (-9) 0, (qh 1, .inl (k 0, 5, .inl g1)), (qh 2, .inl (k 0, 5, .inl g2)), (qh 3, .inl (k 0, 3, .inl g3)), (qh 4, .inl (k 0, 3, .inl g4)), (qh 5, .inl (k 0, 525, .inl u))]) (g_runV (wc := [cell188_ qh so (-9) (-9) 0, (qh 1, .inl (k 0, 5, .inl g1)), (qh 2, .inl (k 0, 5, .inl g2)), (qh 3, .inl (k 0, 3, .inl g3)), (qh 4, .inl (k 0, 3, .inl g4)), cell2_ k qh sh]) (rest := []) cx hP hD hS [0, 1, 2, 3, 4, 5] rfl (by decide) [] (c_X4_settle l D k b qh (up2 (up2 (up2 (up2 (up2 sh 0 (upd (upd (upd (upd (upd (upd (upd (upd (upd (sh 0) 0 (so 0 0)) 1 (so 0 1)) 6 (so 0 6)) 7 (so 0 7)) 8 (-9)) 9 (-9)) 10 (so 0 10)) 11 (so 0 11)) 12 0)) 1 g1) 2 g2) 3 g3) 4 g4) H.size (show 0 ≤ (0 : Int32).toInt ∧ (0 : Int32).toInt ≤ 5 from by first | decide | omega) ag3) gX4_copy_X4_settle rfl rfl rfl nd_X4_settle ⟨Nat.le_of_ble_eq_true rfl, Nat.le_of_ble_eq_true rfl⟩ (ci := 2) (q0 := 0) rfl rfl rfl hl.1 rfl (Nat.le_of_ble_eq_true rfl) ⟨Nat.zero_le _, Nat.zero_le _⟩ dX4_copy_185) cx.2.2.1 hP hD hS [0, 1, 2, 3, 4, 5] rfl (fun _ => rfl) (fun u239 H locs hw238 hP hD hS => ?_)
            obtain ⟨m240, rfl⟩ : ∃ z, z = u239 := ⟨_, rfl⟩
            have hP : va_P D vwCl [cell188_ qh so (-9) (-9) 0, (qh 1, .inl (k 0, 5, .inl g1)), (qh 2, .inl (k 0, 5, .inl g2)), (qh 3, .inl (k 0, 3, .inl g3)), (qh 4, .inl (k 0, 3, .inl g4)), (qh 5, .inl (k 0, 525, .inl m240)), cell32_ qo so, cell0_ k qo so, cell1_ k qo so, cell4_ k qo so, cell3_ k qo so, cell2_ k qo so] H := hP
            have hD : va_D A [cell188_ qh so (-9) (-9) 0, (qh 1, .inl (k 0, 5, .inl g1)), (qh 2, .inl (k 0, 5, .inl g2)), (qh 3, .inl (k 0, 3, .inl g3)), (qh 4, .inl (k 0, 3, .inl g4)), (qh 5, .inl (k 0, 525, .inl m240)), cell32_ qo so, cell0_ k qo so, cell1_ k qo so, cell4_ k qo so, cell3_ k qo so, cell2_ k qo so] := hD
            have w241 : SUok m240 := hw238
            clear hw238
            have hlit242 : ((-9) : Int32).toInt = -9 := by decide
            have hlit243 : ((-9) : Int32).toInt = -9 := by decide
            have hlit244 : (0 : Int32).toInt = 0 := by decide
            rw [hQ]
            exact x_v cx hr ((so 0 0), (so 0 1), g1, g2, g3, g4, (so 0 6), (so 0 7), (-9), (-9), (so 0 10), (so 0 11), 0, m240) hP hD hS ⟨(show 0 ≤ (so 0 0).toInt ∧ (so 0 0).toInt ≤ 5 from by omega), (show 0 ≤ (so 0 1).toInt ∧ (so 0 1).toInt ≤ 4 from by omega), (show 0 ≤ (0 : Int32).toInt ∧ (0 : Int32).toInt ≤ 5 from by omega), ag2, ag3, (show SUok m240 from by assumption), (show (so 0 0).toInt = (so 0 0).toInt from by omega), (show ((so 0 0), (so 0 1), g1, g2, g3, g4, (so 0 6), (so 0 7), ((-9) : Int32), ((-9) : Int32), (so 0 10), (so 0 11), (0 : Int32)) = J_X4_copy sh so p0 from by subst eg1 eg2 eg3 eg4 e5 e149 e225 e227 e229; first | (refine Eq.symm ?_; refine Eq.trans (if_neg c6) ?_; refine Eq.trans (if_neg c150) ?_; refine Eq.trans (if_pos c226) ?_; refine Eq.trans (if_pos c228) ?_; refine Eq.trans (if_neg c230) ?_; rfl) | (unfold J_X4_copy; try dsimp only; rw [if_neg c6, if_neg c150, if_pos c226, if_pos c228, if_neg c230]))⟩ dX4_copy_188
        · have f228 : ¬ v227.toInt = 0 := f_ne rfl (by decide) c228
          refine lv_bipush (v := (-9)) hx hb dX4_copy_153 (by decide) ?_
          refine lv_goto (tgt := 162) hx hb dX4_copy_155 (by decide) ?_
          refine g_pt cx hP hD hS iw_X4_copy_X4 tyX4 tyX4_ok nmX4 0 rfl rfl 11 (by decide) rfl fw_X4_copy_60 (ty := .int) rfl rfl rfl (Nat.le_of_ble_eq_true rfl) dX4_copy_162 (fun H locs hP hD hS => ?_)
          have hP : va_P D vwCl [(qh 0, .inr (2, [.int (so 0 0), .int (so 0 1), .ref (qh 1), .ref (qh 2), .ref (qh 3), .ref (qh 4), .int (so 0 6), .int (so 0 7), .int (-9), .int (-9), .int (so 0 10), .int (-9), .int (sh 0 12), .ref (qh 5)])), (qh 1, .inl (k 0, 5, .inl g1)), (qh 2, .inl (k 0, 5, .inl g2)), (qh 3, .inl (k 0, 3, .inl g3)), (qh 4, .inl (k 0, 3, .inl g4)), cell2_ k qh sh, cell32_ qo so, cell0_ k qo so, cell1_ k qo so, cell4_ k qo so, cell3_ k qo so, cell2_ k qo so] H := hP
          have hD : va_D A [(qh 0, .inr (2, [.int (so 0 0), .int (so 0 1), .ref (qh 1), .ref (qh 2), .ref (qh 3), .ref (qh 4), .int (so 0 6), .int (so 0 7), .int (-9), .int (-9), .int (so 0 10), .int (-9), .int (sh 0 12), .ref (qh 5)])), (qh 1, .inl (k 0, 5, .inl g1)), (qh 2, .inl (k 0, 5, .inl g2)), (qh 3, .inl (k 0, 3, .inl g3)), (qh 4, .inl (k 0, 3, .inl g4)), cell2_ k qh sh, cell32_ qo so, cell0_ k qo so, cell1_ k qo so, cell4_ k qo so, cell3_ k qo so, cell2_ k qo so] := hD
          have hlit245 : ((-9) : Int32).toInt = -9 := by decide
          refine lv_aload_n hx hb dX4_copy_165 rfl (lv_at hl 0 rfl) ?_
          refine lv_iload_n hx hb dX4_copy_166 rfl (lv_at hl 2 rfl) ?_
          refine lv_bipush (v := 8) hx hb dX4_copy_167 (by decide) ?_
          refine lv_iand hx hb dX4_copy_169 (lv_topi (fun v246 e246 => ?_))
          have t246 : 0 ≤ v246.toInt ∧ v246.toInt ≤ 8 := by rw [e246]; exact and_r (by decide) (by omega)
          refine lv_if_eq (tgt := 177) hx hb dX4_copy_170 (by decide) (fun c247 => ?_) (fun c247 => ?_)
          · have f247 : v246.toInt = 0 := f_eq rfl (by decide) c247
            refine lv_aload_n hx hb dX4_copy_177 rfl (lv_at hl 1 rfl) ?_
            refine g_get cx hP iw_X4_copy_X4 6 rfl rfl 12 (by decide) rfl fw_X4_copy_63 rfl dX4_copy_178 ?_
            refine g_pt cx hP hD hS iw_X4_copy_X4 tyX4 tyX4_ok nmX4 0 rfl rfl 12 (by decide) rfl fw_X4_copy_63 (ty := .int) rfl rfl rfl (Nat.le_of_ble_eq_true rfl) dX4_copy_181 (fun H locs hP hD hS => ?_)
            have hP : va_P D vwCl [cell189_ qh so (-9) (-9) (-9), (qh 1, .inl (k 0, 5, .inl g1)), (qh 2, .inl (k 0, 5, .inl g2)), (qh 3, .inl (k 0, 3, .inl g3)), (qh 4, .inl (k 0, 3, .inl g4)), cell2_ k qh sh, cell32_ qo so, cell0_ k qo so, cell1_ k qo so, cell4_ k qo so, cell3_ k qo so, cell2_ k qo so] H := hP
            have hD : va_D A [cell189_ qh so (-9) (-9) (-9), (qh 1, .inl (k 0, 5, .inl g1)), (qh 2, .inl (k 0, 5, .inl g2)), (qh 3, .inl (k 0, 3, .inl g3)), (qh 4, .inl (k 0, 3, .inl g4)), cell2_ k qh sh, cell32_ qo so, cell0_ k qo so, cell1_ k qo so, cell4_ k qo so, cell3_ k qo so, cell2_ k qo so] := hD
            refine lv_aload_n hx hb dX4_copy_184 rfl (lv_at hl 0 rfl) ?_
            refine g_v (w1 := fun (u : (Nat → Int32)) => [cell189_ qh so (-9) (-9) (-9), (qh 1, .inl (k 0, 5, .inl g1)), (qh 2, .inl (k 0, 5, .inl g2)), (qh 3, .inl (k 0, 3, .inl g3)), (qh 4, .inl (k 0, 3, .inl g4)), (qh 5, .inl (k 0, 525, .inl u))]) (g_runV (wc := [cell189_ qh so (-9) (-9) (-9), (qh 1, .inl (k 0, 5, .inl g1)), (qh 2, .inl (k 0, 5, .inl g2)), (qh 3, .inl (k 0, 3, .inl g3)), (qh 4, .inl (k 0, 3, .inl g4)), cell2_ k qh sh]) (rest := []) cx hP hD hS [0, 1, 2, 3, 4, 5] rfl (by decide) [] (c_X4_settle l D k b qh (up2 (up2 (up2 (up2 (up2 sh 0 (upd (upd (upd (upd (upd (upd (upd (upd (upd (sh 0) 0 (so 0 0)) 1 (so 0 1)) 6 (so 0 6)) 7 (so 0 7)) 8 (-9)) 9 (-9)) 10 (so 0 10)) 11 (-9)) 12 (so 0 12))) 1 g1) 2 g2) 3 g3) 4 g4) H.size (show 0 ≤ (so 0 12).toInt ∧ (so 0 12).toInt ≤ 5 from by first | decide | omega) ag3) gX4_copy_X4_settle rfl rfl rfl nd_X4_settle ⟨Nat.le_of_ble_eq_true rfl, Nat.le_of_ble_eq_true rfl⟩ (ci := 2) (q0 := 0) rfl rfl rfl hl.1 rfl (Nat.le_of_ble_eq_true rfl) ⟨Nat.zero_le _, Nat.zero_le _⟩ dX4_copy_185) cx.2.2.1 hP hD hS [0, 1, 2, 3, 4, 5] rfl (fun _ => rfl) (fun u249 H locs hw248 hP hD hS => ?_)
            obtain ⟨m250, rfl⟩ : ∃ z, z = u249 := ⟨_, rfl⟩
            have hP : va_P D vwCl [cell189_ qh so (-9) (-9) (-9), (qh 1, .inl (k 0, 5, .inl g1)), (qh 2, .inl (k 0, 5, .inl g2)), (qh 3, .inl (k 0, 3, .inl g3)), (qh 4, .inl (k 0, 3, .inl g4)), (qh 5, .inl (k 0, 525, .inl m250)), cell32_ qo so, cell0_ k qo so, cell1_ k qo so, cell4_ k qo so, cell3_ k qo so, cell2_ k qo so] H := hP
            have hD : va_D A [cell189_ qh so (-9) (-9) (-9), (qh 1, .inl (k 0, 5, .inl g1)), (qh 2, .inl (k 0, 5, .inl g2)), (qh 3, .inl (k 0, 3, .inl g3)), (qh 4, .inl (k 0, 3, .inl g4)), (qh 5, .inl (k 0, 525, .inl m250)), cell32_ qo so, cell0_ k qo so, cell1_ k qo so, cell4_ k qo so, cell3_ k qo so, cell2_ k qo so] := hD
            have w251 : SUok m250 := hw248
            clear hw248
            have hlit252 : ((-9) : Int32).toInt = -9 := by decide
            have hlit253 : ((-9) : Int32).toInt = -9 := by decide
            have hlit254 : ((-9) : Int32).toInt = -9 := by decide
            rw [hQ]
            exact x_v cx hr ((so 0 0), (so 0 1), g1, g2, g3, g4, (so 0 6), (so 0 7), (-9), (-9), (so 0 10), (-9), (so 0 12), m250) hP hD hS ⟨(show 0 ≤ (so 0 0).toInt ∧ (so 0 0).toInt ≤ 5 from by omega), (show 0 ≤ (so 0 1).toInt ∧ (so 0 1).toInt ≤ 4 from by omega), (show 0 ≤ (so 0 12).toInt ∧ (so 0 12).toInt ≤ 5 from by omega), ag2, ag3, (show SUok m250 from by assumption), (show (so 0 0).toInt = (so 0 0).toInt from by omega), (show ((so 0 0), (so 0 1), g1, g2, g3, g4, (so 0 6), (so 0 7), ((-9) : Int32), ((-9) : Int32), (so 0 10), ((-9) : Int32), (so 0 12)) = J_X4_copy sh so p0 from by subst eg1 eg2 eg3 eg4 e5 e149 e225 e227 e246; first | (refine Eq.symm ?_; refine Eq.trans (if_neg c6) ?_; refine Eq.trans (if_neg c150) ?_; refine Eq.trans (if_pos c226) ?_; refine Eq.trans (if_neg c228) ?_; refine Eq.trans (if_pos c247) ?_; rfl) | (unfold J_X4_copy; try dsimp only; rw [if_neg c6, if_neg c150, if_pos c226, if_neg c228, if_pos c247]))⟩ dX4_copy_188
          · have f247 : ¬ v246.toInt = 0 := f_ne rfl (by decide) c247
            refine lv_iconst (v := 0) hx hb dX4_copy_173 (by decide) ?_
            refine lv_goto (tgt := 181) hx hb dX4_copy_174 (by decide) ?_
            refine g_pt cx hP hD hS iw_X4_copy_X4 tyX4 tyX4_ok nmX4 0 rfl rfl 12 (by decide) rfl fw_X4_copy_63 (ty := .int) rfl rfl rfl (Nat.le_of_ble_eq_true rfl) dX4_copy_181 (fun H locs hP hD hS => ?_)
            have hP : va_P D vwCl [cell190_ qh so (-9) (-9) (-9) 0, (qh 1, .inl (k 0, 5, .inl g1)), (qh 2, .inl (k 0, 5, .inl g2)), (qh 3, .inl (k 0, 3, .inl g3)), (qh 4, .inl (k 0, 3, .inl g4)), cell2_ k qh sh, cell32_ qo so, cell0_ k qo so, cell1_ k qo so, cell4_ k qo so, cell3_ k qo so, cell2_ k qo so] H := hP
            have hD : va_D A [cell190_ qh so (-9) (-9) (-9) 0, (qh 1, .inl (k 0, 5, .inl g1)), (qh 2, .inl (k 0, 5, .inl g2)), (qh 3, .inl (k 0, 3, .inl g3)), (qh 4, .inl (k 0, 3, .inl g4)), cell2_ k qh sh, cell32_ qo so, cell0_ k qo so, cell1_ k qo so, cell4_ k qo so, cell3_ k qo so, cell2_ k qo so] := hD
            have hlit255 : (0 : Int32).toInt = 0 := by decide
            refine lv_aload_n hx hb dX4_copy_184 rfl (lv_at hl 0 rfl) ?_
            refine g_v (w1 := fun (u : (Nat → Int32)) => [cell190_ qh so (-9) (-9) (-9) 0, (qh 1, .inl (k 0, 5, .inl g1)), (qh 2, .inl (k 0, 5, .inl g2)), (qh 3, .inl (k 0, 3, .inl g3)), (qh 4, .inl (k 0, 3, .inl g4)), (qh 5, .inl (k 0, 525, .inl u))]) (g_runV (wc := [cell190_ qh so (-9) (-9) (-9) 0, (qh 1, .inl (k 0, 5, .inl g1)), (qh 2, .inl (k 0, 5, .inl g2)), (qh 3, .inl (k 0, 3, .inl g3)), (qh 4, .inl (k 0, 3, .inl g4)), cell2_ k qh sh]) (rest := []) cx hP hD hS [0, 1, 2, 3, 4, 5] rfl (by decide) [] (c_X4_settle l D k b qh (up2 (up2 (up2 (up2 (up2 sh 0 (upd (upd (upd (upd (upd (upd (upd (upd (upd (sh 0) 0 (so 0 0)) 1 (so 0 1)) 6 (so 0 6)) 7 (so 0 7)) 8 (-9)) 9 (-9)) 10 (so 0 10)) 11 (-9)) 12 0)) 1 g1) 2 g2) 3 g3) 4 g4) H.size (show 0 ≤ (0 : Int32).toInt ∧ (0 : Int32).toInt ≤ 5 from by first | decide | omega) ag3) gX4_copy_X4_settle rfl rfl rfl nd_X4_settle ⟨Nat.le_of_ble_eq_true rfl, Nat.le_of_ble_eq_true rfl⟩ (ci := 2) (q0 := 0) rfl rfl rfl hl.1 rfl (Nat.le_of_ble_eq_true rfl) ⟨Nat.zero_le _, Nat.zero_le _⟩ dX4_copy_185) cx.2.2.1 hP hD hS [0, 1, 2, 3, 4, 5] rfl (fun _ => rfl) (fun u257 H locs hw256 hP hD hS => ?_)
            obtain ⟨m258, rfl⟩ : ∃ z, z = u257 := ⟨_, rfl⟩
            have hP : va_P D vwCl [cell190_ qh so (-9) (-9) (-9) 0, (qh 1, .inl (k 0, 5, .inl g1)), (qh 2, .inl (k 0, 5, .inl g2)), (qh 3, .inl (k 0, 3, .inl g3)), (qh 4, .inl (k 0, 3, .inl g4)), (qh 5, .inl (k 0, 525, .inl m258)), cell32_ qo so, cell0_ k qo so, cell1_ k qo so, cell4_ k qo so, cell3_ k qo so, cell2_ k qo so] H := hP
            have hD : va_D A [cell190_ qh so (-9) (-9) (-9) 0, (qh 1, .inl (k 0, 5, .inl g1)), (qh 2, .inl (k 0, 5, .inl g2)), (qh 3, .inl (k 0, 3, .inl g3)), (qh 4, .inl (k 0, 3, .inl g4)), (qh 5, .inl (k 0, 525, .inl m258)), cell32_ qo so, cell0_ k qo so, cell1_ k qo so, cell4_ k qo so, cell3_ k qo so, cell2_ k qo so] := hD
            have w259 : SUok m258 := hw256
            clear hw256
            have hlit260 : ((-9) : Int32).toInt = -9 := by decide
            have hlit261 : ((-9) : Int32).toInt = -9 := by decide
            have hlit262 : ((-9) : Int32).toInt = -9 := by decide
            have hlit263 : (0 : Int32).toInt = 0 := by decide
            rw [hQ]
            exact x_v cx hr ((so 0 0), (so 0 1), g1, g2, g3, g4, (so 0 6), (so 0 7), (-9), (-9), (so 0 10), (-9), 0, m258) hP hD hS ⟨(show 0 ≤ (so 0 0).toInt ∧ (so 0 0).toInt ≤ 5 from by omega), (show 0 ≤ (so 0 1).toInt ∧ (so 0 1).toInt ≤ 4 from by omega), (show 0 ≤ (0 : Int32).toInt ∧ (0 : Int32).toInt ≤ 5 from by omega), ag2, ag3, (show SUok m258 from by assumption), (show (so 0 0).toInt = (so 0 0).toInt from by omega), (show ((so 0 0), (so 0 1), g1, g2, g3, g4, (so 0 6), (so 0 7), ((-9) : Int32), ((-9) : Int32), (so 0 10), ((-9) : Int32), (0 : Int32)) = J_X4_copy sh so p0 from by subst eg1 eg2 eg3 eg4 e5 e149 e225 e227 e246; first | (refine Eq.symm ?_; refine Eq.trans (if_neg c6) ?_; refine Eq.trans (if_neg c150) ?_; refine Eq.trans (if_pos c226) ?_; refine Eq.trans (if_neg c228) ?_; refine Eq.trans (if_neg c247) ?_; rfl) | (unfold J_X4_copy; try dsimp only; rw [if_neg c6, if_neg c150, if_pos c226, if_neg c228, if_neg c247]))⟩ dX4_copy_188
      · have f226 : ¬ v225.toInt = 0 := f_ne rfl (by decide) c226
        refine lv_bipush (v := (-9)) hx hb dX4_copy_133 (by decide) ?_
        refine lv_goto (tgt := 142) hx hb dX4_copy_135 (by decide) ?_
        refine g_pt cx hP hD hS iw_X4_copy_X4 tyX4 tyX4_ok nmX4 0 rfl rfl 10 (by decide) rfl fw_X4_copy_57 (ty := .int) rfl rfl rfl (Nat.le_of_ble_eq_true rfl) dX4_copy_142 (fun H locs hP hD hS => ?_)
        have hP : va_P D vwCl [(qh 0, .inr (2, [.int (so 0 0), .int (so 0 1), .ref (qh 1), .ref (qh 2), .ref (qh 3), .ref (qh 4), .int (so 0 6), .int (so 0 7), .int (-9), .int (-9), .int (-9), .int (sh 0 11), .int (sh 0 12), .ref (qh 5)])), (qh 1, .inl (k 0, 5, .inl g1)), (qh 2, .inl (k 0, 5, .inl g2)), (qh 3, .inl (k 0, 3, .inl g3)), (qh 4, .inl (k 0, 3, .inl g4)), cell2_ k qh sh, cell32_ qo so, cell0_ k qo so, cell1_ k qo so, cell4_ k qo so, cell3_ k qo so, cell2_ k qo so] H := hP
        have hD : va_D A [(qh 0, .inr (2, [.int (so 0 0), .int (so 0 1), .ref (qh 1), .ref (qh 2), .ref (qh 3), .ref (qh 4), .int (so 0 6), .int (so 0 7), .int (-9), .int (-9), .int (-9), .int (sh 0 11), .int (sh 0 12), .ref (qh 5)])), (qh 1, .inl (k 0, 5, .inl g1)), (qh 2, .inl (k 0, 5, .inl g2)), (qh 3, .inl (k 0, 3, .inl g3)), (qh 4, .inl (k 0, 3, .inl g4)), cell2_ k qh sh, cell32_ qo so, cell0_ k qo so, cell1_ k qo so, cell4_ k qo so, cell3_ k qo so, cell2_ k qo so] := hD
        have hlit264 : ((-9) : Int32).toInt = -9 := by decide
        refine lv_aload_n hx hb dX4_copy_145 rfl (lv_at hl 0 rfl) ?_
        refine lv_iload_n hx hb dX4_copy_146 rfl (lv_at hl 2 rfl) ?_
        refine lv_bipush (v := 8) hx hb dX4_copy_147 (by decide) ?_
        refine lv_iand hx hb dX4_copy_149 (lv_topi (fun v265 e265 => ?_))
        have t265 : 0 ≤ v265.toInt ∧ v265.toInt ≤ 8 := by rw [e265]; exact and_r (by decide) (by omega)
        refine lv_if_eq (tgt := 158) hx hb dX4_copy_150 (by decide) (fun c266 => ?_) (fun c266 => ?_)
        · have f266 : v265.toInt = 0 := f_eq rfl (by decide) c266
          refine lv_aload_n hx hb dX4_copy_158 rfl (lv_at hl 1 rfl) ?_
          refine g_get cx hP iw_X4_copy_X4 6 rfl rfl 11 (by decide) rfl fw_X4_copy_60 rfl dX4_copy_159 ?_
          refine g_pt cx hP hD hS iw_X4_copy_X4 tyX4 tyX4_ok nmX4 0 rfl rfl 11 (by decide) rfl fw_X4_copy_60 (ty := .int) rfl rfl rfl (Nat.le_of_ble_eq_true rfl) dX4_copy_162 (fun H locs hP hD hS => ?_)
          have hP : va_P D vwCl [(qh 0, .inr (2, [.int (so 0 0), .int (so 0 1), .ref (qh 1), .ref (qh 2), .ref (qh 3), .ref (qh 4), .int (so 0 6), .int (so 0 7), .int (-9), .int (-9), .int (-9), .int (so 0 11), .int (sh 0 12), .ref (qh 5)])), (qh 1, .inl (k 0, 5, .inl g1)), (qh 2, .inl (k 0, 5, .inl g2)), (qh 3, .inl (k 0, 3, .inl g3)), (qh 4, .inl (k 0, 3, .inl g4)), cell2_ k qh sh, cell32_ qo so, cell0_ k qo so, cell1_ k qo so, cell4_ k qo so, cell3_ k qo so, cell2_ k qo so] H := hP
          have hD : va_D A [(qh 0, .inr (2, [.int (so 0 0), .int (so 0 1), .ref (qh 1), .ref (qh 2), .ref (qh 3), .ref (qh 4), .int (so 0 6), .int (so 0 7), .int (-9), .int (-9), .int (-9), .int (so 0 11), .int (sh 0 12), .ref (qh 5)])), (qh 1, .inl (k 0, 5, .inl g1)), (qh 2, .inl (k 0, 5, .inl g2)), (qh 3, .inl (k 0, 3, .inl g3)), (qh 4, .inl (k 0, 3, .inl g4)), cell2_ k qh sh, cell32_ qo so, cell0_ k qo so, cell1_ k qo so, cell4_ k qo so, cell3_ k qo so, cell2_ k qo so] := hD
          refine lv_aload_n hx hb dX4_copy_165 rfl (lv_at hl 0 rfl) ?_
          refine lv_iload_n hx hb dX4_copy_166 rfl (lv_at hl 2 rfl) ?_
          refine lv_bipush (v := 8) hx hb dX4_copy_167 (by decide) ?_
          refine lv_iand hx hb dX4_copy_169 (lv_topi (fun v267 e267 => ?_))
          have t267 : 0 ≤ v267.toInt ∧ v267.toInt ≤ 8 := by rw [e267]; exact and_r (by decide) (by omega)
          refine lv_if_eq (tgt := 177) hx hb dX4_copy_170 (by decide) (fun c268 => ?_) (fun c268 => ?_)
          · have f268 : v267.toInt = 0 := f_eq rfl (by decide) c268
            refine lv_aload_n hx hb dX4_copy_177 rfl (lv_at hl 1 rfl) ?_
            refine g_get cx hP iw_X4_copy_X4 6 rfl rfl 12 (by decide) rfl fw_X4_copy_63 rfl dX4_copy_178 ?_
            refine g_pt cx hP hD hS iw_X4_copy_X4 tyX4 tyX4_ok nmX4 0 rfl rfl 12 (by decide) rfl fw_X4_copy_63 (ty := .int) rfl rfl rfl (Nat.le_of_ble_eq_true rfl) dX4_copy_181 (fun H locs hP hD hS => ?_)
            have hP : va_P D vwCl [cell191_ qh so (-9) (-9) (-9), (qh 1, .inl (k 0, 5, .inl g1)), (qh 2, .inl (k 0, 5, .inl g2)), (qh 3, .inl (k 0, 3, .inl g3)), (qh 4, .inl (k 0, 3, .inl g4)), cell2_ k qh sh, cell32_ qo so, cell0_ k qo so, cell1_ k qo so, cell4_ k qo so, cell3_ k qo so, cell2_ k qo so] H := hP
            have hD : va_D A [cell191_ qh so (-9) (-9) (-9), (qh 1, .inl (k 0, 5, .inl g1)), (qh 2, .inl (k 0, 5, .inl g2)), (qh 3, .inl (k 0, 3, .inl g3)), (qh 4, .inl (k 0, 3, .inl g4)), cell2_ k qh sh, cell32_ qo so, cell0_ k qo so, cell1_ k qo so, cell4_ k qo so, cell3_ k qo so, cell2_ k qo so] := hD
            refine lv_aload_n hx hb dX4_copy_184 rfl (lv_at hl 0 rfl) ?_
            refine g_v (w1 := fun (u : (Nat → Int32)) => [cell191_ qh so (-9) (-9) (-9), (qh 1, .inl (k 0, 5, .inl g1)), (qh 2, .inl (k 0, 5, .inl g2)), (qh 3, .inl (k 0, 3, .inl g3)), (qh 4, .inl (k 0, 3, .inl g4)), (qh 5, .inl (k 0, 525, .inl u))]) (g_runV (wc := [cell191_ qh so (-9) (-9) (-9), (qh 1, .inl (k 0, 5, .inl g1)), (qh 2, .inl (k 0, 5, .inl g2)), (qh 3, .inl (k 0, 3, .inl g3)), (qh 4, .inl (k 0, 3, .inl g4)), cell2_ k qh sh]) (rest := []) cx hP hD hS [0, 1, 2, 3, 4, 5] rfl (by decide) [] (c_X4_settle l D k b qh (up2 (up2 (up2 (up2 (up2 sh 0 (upd (upd (upd (upd (upd (upd (upd (upd (upd (sh 0) 0 (so 0 0)) 1 (so 0 1)) 6 (so 0 6)) 7 (so 0 7)) 8 (-9)) 9 (-9)) 10 (-9)) 11 (so 0 11)) 12 (so 0 12))) 1 g1) 2 g2) 3 g3) 4 g4) H.size (show 0 ≤ (so 0 12).toInt ∧ (so 0 12).toInt ≤ 5 from by first | decide | omega) ag3) gX4_copy_X4_settle rfl rfl rfl nd_X4_settle ⟨Nat.le_of_ble_eq_true rfl, Nat.le_of_ble_eq_true rfl⟩ (ci := 2) (q0 := 0) rfl rfl rfl hl.1 rfl (Nat.le_of_ble_eq_true rfl) ⟨Nat.zero_le _, Nat.zero_le _⟩ dX4_copy_185) cx.2.2.1 hP hD hS [0, 1, 2, 3, 4, 5] rfl (fun _ => rfl) (fun u270 H locs hw269 hP hD hS => ?_)
            obtain ⟨m271, rfl⟩ : ∃ z, z = u270 := ⟨_, rfl⟩
            have hP : va_P D vwCl [cell191_ qh so (-9) (-9) (-9), (qh 1, .inl (k 0, 5, .inl g1)), (qh 2, .inl (k 0, 5, .inl g2)), (qh 3, .inl (k 0, 3, .inl g3)), (qh 4, .inl (k 0, 3, .inl g4)), (qh 5, .inl (k 0, 525, .inl m271)), cell32_ qo so, cell0_ k qo so, cell1_ k qo so, cell4_ k qo so, cell3_ k qo so, cell2_ k qo so] H := hP
            have hD : va_D A [cell191_ qh so (-9) (-9) (-9), (qh 1, .inl (k 0, 5, .inl g1)), (qh 2, .inl (k 0, 5, .inl g2)), (qh 3, .inl (k 0, 3, .inl g3)), (qh 4, .inl (k 0, 3, .inl g4)), (qh 5, .inl (k 0, 525, .inl m271)), cell32_ qo so, cell0_ k qo so, cell1_ k qo so, cell4_ k qo so, cell3_ k qo so, cell2_ k qo so] := hD
            have w272 : SUok m271 := hw269
            clear hw269
            have hlit273 : ((-9) : Int32).toInt = -9 := by decide
            have hlit274 : ((-9) : Int32).toInt = -9 := by decide
            have hlit275 : ((-9) : Int32).toInt = -9 := by decide
            rw [hQ]
            exact x_v cx hr ((so 0 0), (so 0 1), g1, g2, g3, g4, (so 0 6), (so 0 7), (-9), (-9), (-9), (so 0 11), (so 0 12), m271) hP hD hS ⟨(show 0 ≤ (so 0 0).toInt ∧ (so 0 0).toInt ≤ 5 from by omega), (show 0 ≤ (so 0 1).toInt ∧ (so 0 1).toInt ≤ 4 from by omega), (show 0 ≤ (so 0 12).toInt ∧ (so 0 12).toInt ≤ 5 from by omega), ag2, ag3, (show SUok m271 from by assumption), (show (so 0 0).toInt = (so 0 0).toInt from by omega), (show ((so 0 0), (so 0 1), g1, g2, g3, g4, (so 0 6), (so 0 7), ((-9) : Int32), ((-9) : Int32), ((-9) : Int32), (so 0 11), (so 0 12)) = J_X4_copy sh so p0 from by subst eg1 eg2 eg3 eg4 e5 e149 e225 e265 e267; first | (refine Eq.symm ?_; refine Eq.trans (if_neg c6) ?_; refine Eq.trans (if_neg c150) ?_; refine Eq.trans (if_neg c226) ?_; refine Eq.trans (if_pos c266) ?_; refine Eq.trans (if_pos c268) ?_; rfl) | (unfold J_X4_copy; try dsimp only; rw [if_neg c6, if_neg c150, if_neg c226, if_pos c266, if_pos c268]))⟩ dX4_copy_188
          · have f268 : ¬ v267.toInt = 0 := f_ne rfl (by decide) c268
            refine lv_iconst (v := 0) hx hb dX4_copy_173 (by decide) ?_
            refine lv_goto (tgt := 181) hx hb dX4_copy_174 (by decide) ?_
            refine g_pt cx hP hD hS iw_X4_copy_X4 tyX4 tyX4_ok nmX4 0 rfl rfl 12 (by decide) rfl fw_X4_copy_63 (ty := .int) rfl rfl rfl (Nat.le_of_ble_eq_true rfl) dX4_copy_181 (fun H locs hP hD hS => ?_)
            have hP : va_P D vwCl [cell192_ qh so (-9) (-9) (-9) 0, (qh 1, .inl (k 0, 5, .inl g1)), (qh 2, .inl (k 0, 5, .inl g2)), (qh 3, .inl (k 0, 3, .inl g3)), (qh 4, .inl (k 0, 3, .inl g4)), cell2_ k qh sh, cell32_ qo so, cell0_ k qo so, cell1_ k qo so, cell4_ k qo so, cell3_ k qo so, cell2_ k qo so] H := hP
            have hD : va_D A [cell192_ qh so (-9) (-9) (-9) 0, (qh 1, .inl (k 0, 5, .inl g1)), (qh 2, .inl (k 0, 5, .inl g2)), (qh 3, .inl (k 0, 3, .inl g3)), (qh 4, .inl (k 0, 3, .inl g4)), cell2_ k qh sh, cell32_ qo so, cell0_ k qo so, cell1_ k qo so, cell4_ k qo so, cell3_ k qo so, cell2_ k qo so] := hD
            have hlit276 : (0 : Int32).toInt = 0 := by decide
            refine lv_aload_n hx hb dX4_copy_184 rfl (lv_at hl 0 rfl) ?_
            refine g_v (w1 := fun (u : (Nat → Int32)) => [cell192_ qh so (-9) (-9) (-9) 0, (qh 1, .inl (k 0, 5, .inl g1)), (qh 2, .inl (k 0, 5, .inl g2)), (qh 3, .inl (k 0, 3, .inl g3)), (qh 4, .inl (k 0, 3, .inl g4)), (qh 5, .inl (k 0, 525, .inl u))]) (g_runV (wc := [cell192_ qh so (-9) (-9) (-9) 0, (qh 1, .inl (k 0, 5, .inl g1)), (qh 2, .inl (k 0, 5, .inl g2)), (qh 3, .inl (k 0, 3, .inl g3)), (qh 4, .inl (k 0, 3, .inl g4)), cell2_ k qh sh]) (rest := []) cx hP hD hS [0, 1, 2, 3, 4, 5] rfl (by decide) [] (c_X4_settle l D k b qh (up2 (up2 (up2 (up2 (up2 sh 0 (upd (upd (upd (upd (upd (upd (upd (upd (upd (sh 0) 0 (so 0 0)) 1 (so 0 1)) 6 (so 0 6)) 7 (so 0 7)) 8 (-9)) 9 (-9)) 10 (-9)) 11 (so 0 11)) 12 0)) 1 g1) 2 g2) 3 g3) 4 g4) H.size (show 0 ≤ (0 : Int32).toInt ∧ (0 : Int32).toInt ≤ 5 from by first | decide | omega) ag3) gX4_copy_X4_settle rfl rfl rfl nd_X4_settle ⟨Nat.le_of_ble_eq_true rfl, Nat.le_of_ble_eq_true rfl⟩ (ci := 2) (q0 := 0) rfl rfl rfl hl.1 rfl (Nat.le_of_ble_eq_true rfl) ⟨Nat.zero_le _, Nat.zero_le _⟩ dX4_copy_185) cx.2.2.1 hP hD hS [0, 1, 2, 3, 4, 5] rfl (fun _ => rfl) (fun u278 H locs hw277 hP hD hS => ?_)
            obtain ⟨m279, rfl⟩ : ∃ z, z = u278 := ⟨_, rfl⟩
            have hP : va_P D vwCl [cell192_ qh so (-9) (-9) (-9) 0, (qh 1, .inl (k 0, 5, .inl g1)), (qh 2, .inl (k 0, 5, .inl g2)), (qh 3, .inl (k 0, 3, .inl g3)), (qh 4, .inl (k 0, 3, .inl g4)), (qh 5, .inl (k 0, 525, .inl m279)), cell32_ qo so, cell0_ k qo so, cell1_ k qo so, cell4_ k qo so, cell3_ k qo so, cell2_ k qo so] H := hP
            have hD : va_D A [cell192_ qh so (-9) (-9) (-9) 0, (qh 1, .inl (k 0, 5, .inl g1)), (qh 2, .inl (k 0, 5, .inl g2)), (qh 3, .inl (k 0, 3, .inl g3)), (qh 4, .inl (k 0, 3, .inl g4)), (qh 5, .inl (k 0, 525, .inl m279)), cell32_ qo so, cell0_ k qo so, cell1_ k qo so, cell4_ k qo so, cell3_ k qo so, cell2_ k qo so] := hD
            have w280 : SUok m279 := hw277
            clear hw277
            have hlit281 : ((-9) : Int32).toInt = -9 := by decide
            have hlit282 : ((-9) : Int32).toInt = -9 := by decide
            have hlit283 : ((-9) : Int32).toInt = -9 := by decide
            have hlit284 : (0 : Int32).toInt = 0 := by decide
            rw [hQ]
            exact x_v cx hr ((so 0 0), (so 0 1), g1, g2, g3, g4, (so 0 6), (so 0 7), (-9), (-9), (-9), (so 0 11), 0, m279) hP hD hS ⟨(show 0 ≤ (so 0 0).toInt ∧ (so 0 0).toInt ≤ 5 from by omega), (show 0 ≤ (so 0 1).toInt ∧ (so 0 1).toInt ≤ 4 from by omega), (show 0 ≤ (0 : Int32).toInt ∧ (0 : Int32).toInt ≤ 5 from by omega), ag2, ag3, (show SUok m279 from by assumption), (show (so 0 0).toInt = (so 0 0).toInt from by omega), (show ((so 0 0), (so 0 1), g1, g2, g3, g4, (so 0 6), (so 0 7), ((-9) : Int32), ((-9) : Int32), ((-9) : Int32), (so 0 11), (0 : Int32)) = J_X4_copy sh so p0 from by subst eg1 eg2 eg3 eg4 e5 e149 e225 e265 e267; first | (refine Eq.symm ?_; refine Eq.trans (if_neg c6) ?_; refine Eq.trans (if_neg c150) ?_; refine Eq.trans (if_neg c226) ?_; refine Eq.trans (if_pos c266) ?_; refine Eq.trans (if_neg c268) ?_; rfl) | (unfold J_X4_copy; try dsimp only; rw [if_neg c6, if_neg c150, if_neg c226, if_pos c266, if_neg c268]))⟩ dX4_copy_188
        · have f266 : ¬ v265.toInt = 0 := f_ne rfl (by decide) c266
          refine lv_bipush (v := (-9)) hx hb dX4_copy_153 (by decide) ?_
          refine lv_goto (tgt := 162) hx hb dX4_copy_155 (by decide) ?_
          refine g_pt cx hP hD hS iw_X4_copy_X4 tyX4 tyX4_ok nmX4 0 rfl rfl 11 (by decide) rfl fw_X4_copy_60 (ty := .int) rfl rfl rfl (Nat.le_of_ble_eq_true rfl) dX4_copy_162 (fun H locs hP hD hS => ?_)
          have hP : va_P D vwCl [(qh 0, .inr (2, [.int (so 0 0), .int (so 0 1), .ref (qh 1), .ref (qh 2), .ref (qh 3), .ref (qh 4), .int (so 0 6), .int (so 0 7), .int (-9), .int (-9), .int (-9), .int (-9), .int (sh 0 12), .ref (qh 5)])), (qh 1, .inl (k 0, 5, .inl g1)), (qh 2, .inl (k 0, 5, .inl g2)), (qh 3, .inl (k 0, 3, .inl g3)), (qh 4, .inl (k 0, 3, .inl g4)), cell2_ k qh sh, cell32_ qo so, cell0_ k qo so, cell1_ k qo so, cell4_ k qo so, cell3_ k qo so, cell2_ k qo so] H := hP
          have hD : va_D A [(qh 0, .inr (2, [.int (so 0 0), .int (so 0 1), .ref (qh 1), .ref (qh 2), .ref (qh 3), .ref (qh 4), .int (so 0 6), .int (so 0 7), .int (-9), .int (-9), .int (-9), .int (-9), .int (sh 0 12), .ref (qh 5)])), (qh 1, .inl (k 0, 5, .inl g1)), (qh 2, .inl (k 0, 5, .inl g2)), (qh 3, .inl (k 0, 3, .inl g3)), (qh 4, .inl (k 0, 3, .inl g4)), cell2_ k qh sh, cell32_ qo so, cell0_ k qo so, cell1_ k qo so, cell4_ k qo so, cell3_ k qo so, cell2_ k qo so] := hD
          have hlit285 : ((-9) : Int32).toInt = -9 := by decide
          refine lv_aload_n hx hb dX4_copy_165 rfl (lv_at hl 0 rfl) ?_
          refine lv_iload_n hx hb dX4_copy_166 rfl (lv_at hl 2 rfl) ?_
          refine lv_bipush (v := 8) hx hb dX4_copy_167 (by decide) ?_
          refine lv_iand hx hb dX4_copy_169 (lv_topi (fun v286 e286 => ?_))
          have t286 : 0 ≤ v286.toInt ∧ v286.toInt ≤ 8 := by rw [e286]; exact and_r (by decide) (by omega)
          refine lv_if_eq (tgt := 177) hx hb dX4_copy_170 (by decide) (fun c287 => ?_) (fun c287 => ?_)
          · have f287 : v286.toInt = 0 := f_eq rfl (by decide) c287
            refine lv_aload_n hx hb dX4_copy_177 rfl (lv_at hl 1 rfl) ?_
            refine g_get cx hP iw_X4_copy_X4 6 rfl rfl 12 (by decide) rfl fw_X4_copy_63 rfl dX4_copy_178 ?_
            refine g_pt cx hP hD hS iw_X4_copy_X4 tyX4 tyX4_ok nmX4 0 rfl rfl 12 (by decide) rfl fw_X4_copy_63 (ty := .int) rfl rfl rfl (Nat.le_of_ble_eq_true rfl) dX4_copy_181 (fun H locs hP hD hS => ?_)
            have hP : va_P D vwCl [cell193_ qh so (-9) (-9) (-9) (-9), (qh 1, .inl (k 0, 5, .inl g1)), (qh 2, .inl (k 0, 5, .inl g2)), (qh 3, .inl (k 0, 3, .inl g3)), (qh 4, .inl (k 0, 3, .inl g4)), cell2_ k qh sh, cell32_ qo so, cell0_ k qo so, cell1_ k qo so, cell4_ k qo so, cell3_ k qo so, cell2_ k qo so] H := hP
            have hD : va_D A [cell193_ qh so (-9) (-9) (-9) (-9), (qh 1, .inl (k 0, 5, .inl g1)), (qh 2, .inl (k 0, 5, .inl g2)), (qh 3, .inl (k 0, 3, .inl g3)), (qh 4, .inl (k 0, 3, .inl g4)), cell2_ k qh sh, cell32_ qo so, cell0_ k qo so, cell1_ k qo so, cell4_ k qo so, cell3_ k qo so, cell2_ k qo so] := hD
            refine lv_aload_n hx hb dX4_copy_184 rfl (lv_at hl 0 rfl) ?_
            refine g_v (w1 := fun (u : (Nat → Int32)) => [cell193_ qh so (-9) (-9) (-9) (-9), (qh 1, .inl (k 0, 5, .inl g1)), (qh 2, .inl (k 0, 5, .inl g2)), (qh 3, .inl (k 0, 3, .inl g3)), (qh 4, .inl (k 0, 3, .inl g4)), (qh 5, .inl (k 0, 525, .inl u))]) (g_runV (wc := [cell193_ qh so (-9) (-9) (-9) (-9), (qh 1, .inl (k 0, 5, .inl g1)), (qh 2, .inl (k 0, 5, .inl g2)), (qh 3, .inl (k 0, 3, .inl g3)), (qh 4, .inl (k 0, 3, .inl g4)), cell2_ k qh sh]) (rest := []) cx hP hD hS [0, 1, 2, 3, 4, 5] rfl (by decide) [] (c_X4_settle l D k b qh (up2 (up2 (up2 (up2 (up2 sh 0 (upd (upd (upd (upd (upd (upd (upd (upd (upd (sh 0) 0 (so 0 0)) 1 (so 0 1)) 6 (so 0 6)) 7 (so 0 7)) 8 (-9)) 9 (-9)) 10 (-9)) 11 (-9)) 12 (so 0 12))) 1 g1) 2 g2) 3 g3) 4 g4) H.size (show 0 ≤ (so 0 12).toInt ∧ (so 0 12).toInt ≤ 5 from by first | decide | omega) ag3) gX4_copy_X4_settle rfl rfl rfl nd_X4_settle ⟨Nat.le_of_ble_eq_true rfl, Nat.le_of_ble_eq_true rfl⟩ (ci := 2) (q0 := 0) rfl rfl rfl hl.1 rfl (Nat.le_of_ble_eq_true rfl) ⟨Nat.zero_le _, Nat.zero_le _⟩ dX4_copy_185) cx.2.2.1 hP hD hS [0, 1, 2, 3, 4, 5] rfl (fun _ => rfl) (fun u289 H locs hw288 hP hD hS => ?_)
            obtain ⟨m290, rfl⟩ : ∃ z, z = u289 := ⟨_, rfl⟩
            have hP : va_P D vwCl [cell193_ qh so (-9) (-9) (-9) (-9), (qh 1, .inl (k 0, 5, .inl g1)), (qh 2, .inl (k 0, 5, .inl g2)), (qh 3, .inl (k 0, 3, .inl g3)), (qh 4, .inl (k 0, 3, .inl g4)), (qh 5, .inl (k 0, 525, .inl m290)), cell32_ qo so, cell0_ k qo so, cell1_ k qo so, cell4_ k qo so, cell3_ k qo so, cell2_ k qo so] H := hP
            have hD : va_D A [cell193_ qh so (-9) (-9) (-9) (-9), (qh 1, .inl (k 0, 5, .inl g1)), (qh 2, .inl (k 0, 5, .inl g2)), (qh 3, .inl (k 0, 3, .inl g3)), (qh 4, .inl (k 0, 3, .inl g4)), (qh 5, .inl (k 0, 525, .inl m290)), cell32_ qo so, cell0_ k qo so, cell1_ k qo so, cell4_ k qo so, cell3_ k qo so, cell2_ k qo so] := hD
            have w291 : SUok m290 := hw288
            clear hw288
            have hlit292 : ((-9) : Int32).toInt = -9 := by decide
            have hlit293 : ((-9) : Int32).toInt = -9 := by decide
            have hlit294 : ((-9) : Int32).toInt = -9 := by decide
            have hlit295 : ((-9) : Int32).toInt = -9 := by decide
            rw [hQ]
            exact x_v cx hr ((so 0 0), (so 0 1), g1, g2, g3, g4, (so 0 6), (so 0 7), (-9), (-9), (-9), (-9), (so 0 12), m290) hP hD hS ⟨(show 0 ≤ (so 0 0).toInt ∧ (so 0 0).toInt ≤ 5 from by omega), (show 0 ≤ (so 0 1).toInt ∧ (so 0 1).toInt ≤ 4 from by omega), (show 0 ≤ (so 0 12).toInt ∧ (so 0 12).toInt ≤ 5 from by omega), ag2, ag3, (show SUok m290 from by assumption), (show (so 0 0).toInt = (so 0 0).toInt from by omega), (show ((so 0 0), (so 0 1), g1, g2, g3, g4, (so 0 6), (so 0 7), ((-9) : Int32), ((-9) : Int32), ((-9) : Int32), ((-9) : Int32), (so 0 12)) = J_X4_copy sh so p0 from by subst eg1 eg2 eg3 eg4 e5 e149 e225 e265 e286; first | (refine Eq.symm ?_; refine Eq.trans (if_neg c6) ?_; refine Eq.trans (if_neg c150) ?_; refine Eq.trans (if_neg c226) ?_; refine Eq.trans (if_neg c266) ?_; refine Eq.trans (if_pos c287) ?_; rfl) | (unfold J_X4_copy; try dsimp only; rw [if_neg c6, if_neg c150, if_neg c226, if_neg c266, if_pos c287]))⟩ dX4_copy_188
          · have f287 : ¬ v286.toInt = 0 := f_ne rfl (by decide) c287
            refine lv_iconst (v := 0) hx hb dX4_copy_173 (by decide) ?_
            refine lv_goto (tgt := 181) hx hb dX4_copy_174 (by decide) ?_
            refine g_pt cx hP hD hS iw_X4_copy_X4 tyX4 tyX4_ok nmX4 0 rfl rfl 12 (by decide) rfl fw_X4_copy_63 (ty := .int) rfl rfl rfl (Nat.le_of_ble_eq_true rfl) dX4_copy_181 (fun H locs hP hD hS => ?_)
            have hP : va_P D vwCl [cell82_ qh so (-9) (-9) (-9) (-9) 0, (qh 1, .inl (k 0, 5, .inl g1)), (qh 2, .inl (k 0, 5, .inl g2)), (qh 3, .inl (k 0, 3, .inl g3)), (qh 4, .inl (k 0, 3, .inl g4)), cell2_ k qh sh, cell32_ qo so, cell0_ k qo so, cell1_ k qo so, cell4_ k qo so, cell3_ k qo so, cell2_ k qo so] H := hP
            have hD : va_D A [cell82_ qh so (-9) (-9) (-9) (-9) 0, (qh 1, .inl (k 0, 5, .inl g1)), (qh 2, .inl (k 0, 5, .inl g2)), (qh 3, .inl (k 0, 3, .inl g3)), (qh 4, .inl (k 0, 3, .inl g4)), cell2_ k qh sh, cell32_ qo so, cell0_ k qo so, cell1_ k qo so, cell4_ k qo so, cell3_ k qo so, cell2_ k qo so] := hD
            have hlit296 : (0 : Int32).toInt = 0 := by decide
            refine lv_aload_n hx hb dX4_copy_184 rfl (lv_at hl 0 rfl) ?_
            refine g_v (w1 := fun (u : (Nat → Int32)) => [cell82_ qh so (-9) (-9) (-9) (-9) 0, (qh 1, .inl (k 0, 5, .inl g1)), (qh 2, .inl (k 0, 5, .inl g2)), (qh 3, .inl (k 0, 3, .inl g3)), (qh 4, .inl (k 0, 3, .inl g4)), (qh 5, .inl (k 0, 525, .inl u))]) (g_runV (wc := [cell82_ qh so (-9) (-9) (-9) (-9) 0, (qh 1, .inl (k 0, 5, .inl g1)), (qh 2, .inl (k 0, 5, .inl g2)), (qh 3, .inl (k 0, 3, .inl g3)), (qh 4, .inl (k 0, 3, .inl g4)), cell2_ k qh sh]) (rest := []) cx hP hD hS [0, 1, 2, 3, 4, 5] rfl (by decide) [] (c_X4_settle l D k b qh (up2 (up2 (up2 (up2 (up2 sh 0 (upd (upd (upd (upd (upd (upd (upd (upd (upd (sh 0) 0 (so 0 0)) 1 (so 0 1)) 6 (so 0 6)) 7 (so 0 7)) 8 (-9)) 9 (-9)) 10 (-9)) 11 (-9)) 12 0)) 1 g1) 2 g2) 3 g3) 4 g4) H.size (show 0 ≤ (0 : Int32).toInt ∧ (0 : Int32).toInt ≤ 5 from by first | decide | omega) ag3) gX4_copy_X4_settle rfl rfl rfl nd_X4_settle ⟨Nat.le_of_ble_eq_true rfl, Nat.le_of_ble_eq_true rfl⟩ (ci := 2) (q0 := 0) rfl rfl rfl hl.1 rfl (Nat.le_of_ble_eq_true rfl) ⟨Nat.zero_le _, Nat.zero_le _⟩ dX4_copy_185) cx.2.2.1 hP hD hS [0, 1, 2, 3, 4, 5] rfl (fun _ => rfl) (fun u298 H locs hw297 hP hD hS => ?_)
            obtain ⟨m299, rfl⟩ : ∃ z, z = u298 := ⟨_, rfl⟩
            have hP : va_P D vwCl [cell82_ qh so (-9) (-9) (-9) (-9) 0, (qh 1, .inl (k 0, 5, .inl g1)), (qh 2, .inl (k 0, 5, .inl g2)), (qh 3, .inl (k 0, 3, .inl g3)), (qh 4, .inl (k 0, 3, .inl g4)), (qh 5, .inl (k 0, 525, .inl m299)), cell32_ qo so, cell0_ k qo so, cell1_ k qo so, cell4_ k qo so, cell3_ k qo so, cell2_ k qo so] H := hP
            have hD : va_D A [cell82_ qh so (-9) (-9) (-9) (-9) 0, (qh 1, .inl (k 0, 5, .inl g1)), (qh 2, .inl (k 0, 5, .inl g2)), (qh 3, .inl (k 0, 3, .inl g3)), (qh 4, .inl (k 0, 3, .inl g4)), (qh 5, .inl (k 0, 525, .inl m299)), cell32_ qo so, cell0_ k qo so, cell1_ k qo so, cell4_ k qo so, cell3_ k qo so, cell2_ k qo so] := hD
            have w300 : SUok m299 := hw297
            clear hw297
            have hlit301 : ((-9) : Int32).toInt = -9 := by decide
            have hlit302 : ((-9) : Int32).toInt = -9 := by decide
            have hlit303 : ((-9) : Int32).toInt = -9 := by decide
            have hlit304 : ((-9) : Int32).toInt = -9 := by decide
            have hlit305 : (0 : Int32).toInt = 0 := by decide
            rw [hQ]
            exact x_v cx hr ((so 0 0), (so 0 1), g1, g2, g3, g4, (so 0 6), (so 0 7), (-9), (-9), (-9), (-9), 0, m299) hP hD hS ⟨(show 0 ≤ (so 0 0).toInt ∧ (so 0 0).toInt ≤ 5 from by omega), (show 0 ≤ (so 0 1).toInt ∧ (so 0 1).toInt ≤ 4 from by omega), (show 0 ≤ (0 : Int32).toInt ∧ (0 : Int32).toInt ≤ 5 from by omega), ag2, ag3, (show SUok m299 from by assumption), (show (so 0 0).toInt = (so 0 0).toInt from by omega), (show ((so 0 0), (so 0 1), g1, g2, g3, g4, (so 0 6), (so 0 7), ((-9) : Int32), ((-9) : Int32), ((-9) : Int32), ((-9) : Int32), (0 : Int32)) = J_X4_copy sh so p0 from by subst eg1 eg2 eg3 eg4 e5 e149 e225 e265 e286; first | (refine Eq.symm ?_; refine Eq.trans (if_neg c6) ?_; refine Eq.trans (if_neg c150) ?_; refine Eq.trans (if_neg c226) ?_; refine Eq.trans (if_neg c266) ?_; refine Eq.trans (if_neg c287) ?_; rfl) | (unfold J_X4_copy; try dsimp only; rw [if_neg c6, if_neg c150, if_neg c226, if_neg c266, if_neg c287]))⟩ dX4_copy_188
theorem fw_X4_partsTo_26 : Cond.fieldLink RX4 26 "StillInAugust$House" "sundays" "[I" ∈ wsX4_partsTo := by decide +kernel
theorem iw_X4_partsTo_X4 : ∀ w ∈ u_ws RX4 TX4 14, w ∈ wsX4_partsTo := fun _ h => List.mem_cons_of_mem _ (List.mem_append_right _ h)
set_option maxHeartbeats 4000000 in
set_option maxRecDepth 100000 in
theorem c_X4_partsTo (l : Launch) (D : va_G) (k : Nat → ClassId) (b : Nat → Nat) (qh : Nat → Nat) (sh : Nat → Nat → Int32) (sz : Nat) (p0 : Int32) (p1 : Int32) (h_su : SUok (sh 5)) (hp0 : 0 ≤ p0.toInt ∧ p0.toInt ≤ 34) (hp1 : 0 ≤ p1.toInt ∧ p1.toInt ≤ 14) : MetI l D k b yX4_partsTo wsX4_partsTo ({ frames := 0, cells := 0, slots := 0, locals := 0 } : Room) [cell32_ qh sh, cell0_ k qh sh, cell1_ k qh sh, cell4_ k qh sh, cell3_ k qh sh, cell2_ k qh sh] sz [.ref (qh 0), .int p0, .int p1] (fun (r : Int32) (u : Unit) => r = 0 ∨ totN p1.toNatClampNeg ≤ totN p0.toNatClampNeg) (fun u => [cell32_ qh sh, cell0_ k qh sh, cell1_ k qh sh, cell4_ k qh sh, cell3_ k qh sh, cell2_ k qh sh]) := by
  refine g_enter (cc := cX4_partsTo) (maxL := 3) (ret := (some .int)) (by decide) rfl (Nat.le_of_ble_eq_true rfl) ?_
  intro p e s m below meth c A hsz hAe cx hr hP hD hS ls hl
  rw [hAe]
  refine g_q (fun Q hQ => ?_)
  have hx := cx.1.1
  have hb := cx.1.2.1
  have bp0 := i_rng p0
  have bp1 := i_rng p1
  have hl : lv_has ls 3 [(0, .ref (qh 0)), (1, .int p0), (2, .int p1)] := hl
  obtain ⟨H, eH⟩ : ∃ H : Heap, H = s.heap := ⟨_, rfl⟩
  obtain ⟨locs, el⟩ : ∃ L : List Loc, L = [] := ⟨_, rfl⟩
  have hP : va_P D vwCl [cell32_ qh sh, cell0_ k qh sh, cell1_ k qh sh, cell4_ k qh sh, cell3_ k qh sh, cell2_ k qh sh] H := by rw [eH]; exact hP
  have hD : va_D A [cell32_ qh sh, cell0_ k qh sh, cell1_ k qh sh, cell4_ k qh sh, cell3_ k qh sh, cell2_ k qh sh] := hD
  have hS : va_S A s.heap H locs := by rw [eH, el]; exact hS
  suffices goal : W p l e ({ frames := 0, cells := 0, slots := 0, locals := 0 } : Room) s m ([.ref (qh 0), .int p0, .int p1] : List Value).toArray below meth c H locs 0 0 Q (F0 m 0 ls []) by rw [eH, el] at goal; exact goal
  refine lv_aload_n hx hb dX4_partsTo_0 rfl (lv_at hl 0 rfl) ?_
  refine g_get cx hP iw_X4_partsTo_X4 0 rfl rfl 13 (by decide) rfl fw_X4_partsTo_26 rfl dX4_partsTo_1 ?_
  refine lv_iload_n hx hb dX4_partsTo_4 rfl (lv_at hl 1 rfl) ?_
  refine lv_bipush (v := 15) hx hb dX4_partsTo_5 (by decide) ?_
  refine lv_imul hx hb dX4_partsTo_7 (lv_topi (fun v1 e1 => ?_))
  have t1 : v1.toInt = p0.toInt * 15 := by rw [e1]; exact i_mul rfl (by decide) (by omega) (by omega)
  refine lv_iload_n hx hb dX4_partsTo_8 rfl (lv_at hl 2 rfl) ?_
  refine lv_iadd hx hb dX4_partsTo_9 (lv_topi (fun v2 e2 => ?_))
  have t2 : v2.toInt = v1.toInt + p1.toInt := by rw [e2]; exact i_add rfl rfl (by omega) (by omega)
  have hn3 : vp_in v2 525 := f_in (a := v2.toInt) rfl (by omega) (by omega)
  refine va_iald hx hb cx.2.1 hP 5 0 rfl rfl hn3 dX4_partsTo_10 (lv_topi (fun v4 e4 => ?_))
  have su0 := SU_get (k := p0) (b := p1) e4 h_su (by omega) ⟨by omega, by omega⟩ ⟨by omega, by omega⟩
  rw [hQ]
  exact x_i cx hr () hP hD hS (show v4 = 0 ∨ totN p1.toNatClampNeg ≤ totN p0.toNatClampNeg from su0) dX4_partsTo_11
theorem nd_X3_areAtMost : yX3_areAtMost.cls ≠ "java/lang/invoke/MethodHandle" ∧ yX3_areAtMost.cls ≠ "java/lang/invoke/VarHandle" ∧ (parseMethodDescriptor yX3_areAtMost.desc).map (fun d => d.parameters.length) = some 2 := by decide +kernel
theorem nd_X4_partsTo : yX4_partsTo.cls = RX4 ∧ yX4_partsTo.cls ≠ "java/lang/invoke/MethodHandle" ∧ yX4_partsTo.cls ≠ "java/lang/invoke/VarHandle" ∧ (parseMethodDescriptor yX4_partsTo.desc).map (fun d => d.parameters.length) = some 2 := by decide +kernel
set_option maxHeartbeats 4000000 in
set_option maxRecDepth 100000 in
theorem c_X4_becomes (l : Launch) (D : va_G) (k : Nat → ClassId) (b : Nat → Nat) (qh : Nat → Nat) (sh : Nat → Nat → Int32) (sz : Nat) (p0 : Int32) (p1 : Int32) (h_su : SUok (sh 5)) (hv : 0 ≤ p0.toInt ∧ p0.toInt ≤ 400 ∧ tot p0 ≤ 4) : MetI l D k b yX4_becomes wsX4_becomes ({ frames := 2, cells := 0, slots := 0, locals := 41 } : Room) [cell32_ qh sh, cell0_ k qh sh, cell1_ k qh sh, cell4_ k qh sh, cell3_ k qh sh, cell2_ k qh sh] sz [.ref (qh 0), .int p0, .int p1] (fun (r : Int32) (u : Unit) => True) (fun u => [cell32_ qh sh, cell0_ k qh sh, cell1_ k qh sh, cell4_ k qh sh, cell3_ k qh sh, cell2_ k qh sh]) := by
  refine g_enter (cc := cX4_becomes) (maxL := 3) (ret := (some .int)) (by decide) rfl (Nat.le_of_ble_eq_true rfl) ?_
  intro p e s m below meth c A hsz hAe cx hr hP hD hS ls hl
  rw [hAe]
  refine g_q (fun Q hQ => ?_)
  have hx := cx.1.1
  have hb := cx.1.2.1
  have bp0 := i_rng p0
  have bp1 := i_rng p1
  have hl : lv_has ls 3 [(0, .ref (qh 0)), (1, .int p0), (2, .int p1)] := hl
  obtain ⟨H, eH⟩ : ∃ H : Heap, H = s.heap := ⟨_, rfl⟩
  obtain ⟨locs, el⟩ : ∃ L : List Loc, L = [] := ⟨_, rfl⟩
  have hP : va_P D vwCl [cell32_ qh sh, cell0_ k qh sh, cell1_ k qh sh, cell4_ k qh sh, cell3_ k qh sh, cell2_ k qh sh] H := by rw [eH]; exact hP
  have hD : va_D A [cell32_ qh sh, cell0_ k qh sh, cell1_ k qh sh, cell4_ k qh sh, cell3_ k qh sh, cell2_ k qh sh] := hD
  have hS : va_S A s.heap H locs := by rw [eH, el]; exact hS
  suffices goal : W p l e ({ frames := 2, cells := 0, slots := 0, locals := 41 } : Room) s m ([.ref (qh 0), .int p0, .int p1] : List Value).toArray below meth c H locs 0 0 Q (F0 m 0 ls []) by rw [eH, el] at goal; exact goal
  refine lv_iload_n hx hb dX4_becomes_0 rfl (lv_at hl 2 rfl) ?_
  refine lv_iconst (v := 4) hx hb dX4_becomes_1 (by decide) ?_
  have hlit1 : (4 : Int32).toInt = 4 := by decide
  refine g_ir (g_runS (wc := []) (rest := []) cx hP hD hS [] rfl (by decide) [.int p1, .int 4] (c_X3_areAtMost l D k b H.size p1 4) gX4_becomes_X3_areAtMost rfl rfl rfl nd_X3_areAtMost ⟨Nat.le_of_ble_eq_true rfl, Nat.le_of_ble_eq_true rfl⟩ rfl hl.1 rfl (Nat.le_of_ble_eq_true rfl) ⟨Nat.zero_le _, Nat.zero_le _⟩ dX4_becomes_2) cx.2.2.1 hP hD hS [] rfl rfl (fun r3 H locs hw2 hP hS => ?_)
  have w4 : r3 = J_X3_areAtMost p1 (4 : Int32) := hw2
  clear hw2
  have hq4_ : (4 : Int32).toInt = 4 := by decide
  have zr3 := atm_b w4
  refine lv_if_eq (tgt := 14) hx hb dX4_becomes_5 (by decide) (fun c5 => ?_) (fun c5 => ?_)
  · have f5 : r3.toInt = 0 := f_eq rfl (by decide) c5
    refine lv_iconst (v := 0) hx hb dX4_becomes_14 (by decide) ?_
    have hlit6 : (0 : Int32).toInt = 0 := by decide
    rw [hQ]
    exact x_i cx hr () hP hD hS trivial dX4_becomes_15
  · have f5 : ¬ r3.toInt = 0 := f_ne rfl (by decide) c5
    have k5 : (0 ≤ p1.toInt ∧ p1.toInt ≤ 400 ∧ tot p1 ≤ 4) ∧ tot p1 ≤ (4 : Int32).toInt := atm_v w4 c5 (by decide)
    refine lv_iload_n hx hb dX4_becomes_8 rfl (lv_at hl 2 rfl) ?_
    refine lv_bipush (v := 100) hx hb dX4_becomes_9 (by decide) ?_
    refine lv_icmp_lt (tgt := 16) hx hb dX4_becomes_11 (by decide) (fun c7 => ?_) (fun c7 => ?_)
    · have f7 : p1.toInt < 100 := f_lt rfl (by decide) c7
      refine lv_aload_n hx hb dX4_becomes_16 rfl (lv_at hl 0 rfl) ?_
      refine lv_iload_n hx hb dX4_becomes_17 rfl (lv_at hl 1 rfl) ?_
      refine g_ir (g_runS (wc := []) (rest := [.ref (qh 0)]) cx hP hD hS [] rfl (by decide) [.int p0] (c_X3_kind l D k b H.size p0 ⟨by first | decide | omega, by first | decide | omega, (show tot p0 ≤ 4 from by first | decide | omega)⟩) gX4_becomes_X3_kind rfl rfl rfl nd_X3_kind ⟨Nat.le_of_ble_eq_true rfl, Nat.le_of_ble_eq_true rfl⟩ rfl hl.1 rfl (Nat.le_of_ble_eq_true rfl) ⟨Nat.zero_le _, Nat.zero_le _⟩ dX4_becomes_18) cx.2.2.1 hP hD hS [] rfl rfl (fun r9 H locs hw8 hP hS => ?_)
      have w10 : r9 = J_X3_kind p0 := hw8
      clear hw8
      have zr9 := kind_t w10 ⟨by first | decide | omega, by first | decide | omega, (show tot p0 ≤ 4 from by first | decide | omega)⟩
      refine lv_iload_n hx hb dX4_becomes_21 rfl (lv_at hl 2 rfl) ?_
      refine g_ir (g_runS (wc := []) (rest := [.int r9, .ref (qh 0)]) cx hP hD hS [] rfl (by decide) [.int p1] (c_X3_kind l D k b H.size p1 ⟨by first | decide | omega, by first | decide | omega, (show tot p1 ≤ 4 from by first | decide | omega)⟩) gX4_becomes_X3_kind rfl rfl rfl nd_X3_kind ⟨Nat.le_of_ble_eq_true rfl, Nat.le_of_ble_eq_true rfl⟩ rfl hl.1 rfl (Nat.le_of_ble_eq_true rfl) ⟨Nat.zero_le _, Nat.zero_le _⟩ dX4_becomes_22) cx.2.2.1 hP hD hS [] rfl rfl (fun r12 H locs hw11 hP hS => ?_)
      have w13 : r12 = J_X3_kind p1 := hw11
      clear hw11
      have zr12 := kind_t w13 ⟨by first | decide | omega, by first | decide | omega, (show tot p1 ≤ 4 from by first | decide | omega)⟩
      refine g_iF (w1 := fun (_ : Unit) => [cell32_ qh sh, cell0_ k qh sh, cell1_ k qh sh, cell4_ k qh sh, cell3_ k qh sh, cell2_ k qh sh]) (g_runVF (ws := [cell32_ qh sh, cell0_ k qh sh, cell1_ k qh sh, cell4_ k qh sh, cell3_ k qh sh, cell2_ k qh sh]) (rest := []) cx hP hD hS [.int r9, .int r12] (c_X4_partsTo l D k b qh sh H.size r9 r12 (show SUok (sh 5) from by assumption) (show 0 ≤ r9.toInt ∧ r9.toInt ≤ 34 from by first | decide | omega) (show 0 ≤ r12.toInt ∧ r12.toInt ≤ 14 from by first | decide | omega)) gX4_becomes_X4_partsTo rfl rfl rfl nd_X4_partsTo ⟨Nat.le_of_ble_eq_true rfl, Nat.le_of_ble_eq_true rfl⟩ (ci := 2) (q0 := 0) rfl rfl rfl hl.1 rfl (Nat.le_of_ble_eq_true rfl) ⟨Nat.zero_le _, Nat.zero_le _⟩ dX4_becomes_25) cx.2.2.1 hD hS (fun r15 _ H locs hw14 hP hD hS => ?_)
      have w16 : r15 = 0 ∨ totN r12.toNatClampNeg ≤ totN r9.toNatClampNeg := hw14
      clear hw14
      rw [hQ]
      exact x_i cx hr () hP hD hS trivial dX4_becomes_28
    · have f7 : 100 ≤ p1.toInt := f_nlt rfl (by decide) c7
      refine lv_iconst (v := 0) hx hb dX4_becomes_14 (by decide) ?_
      have hlit17 : (0 : Int32).toInt = 0 := by decide
      rw [hQ]
      exact x_i cx hr () hP hD hS trivial dX4_becomes_15
theorem fw_X4_mostComing_57 : Cond.fieldLink RX4 57 "StillInAugust$House" "agencyPrice" "I" ∈ wsX4_mostComing := by decide +kernel
theorem iw_X4_mostComing_X4 : ∀ w ∈ u_ws RX4 TX4 14, w ∈ wsX4_mostComing := fun _ h => List.mem_cons_of_mem _ (List.mem_append_right _ h)
def J_X4_mostComing (sh : Nat → Nat → Int32) : Int32 := if (sh 0 10) = (-9) then (0 : Int32) else (2 : Int32)
set_option maxHeartbeats 4000000 in
set_option maxRecDepth 100000 in
theorem c_X4_mostComing (l : Launch) (D : va_G) (k : Nat → ClassId) (b : Nat → Nat) (qh : Nat → Nat) (sh : Nat → Nat → Int32) (sz : Nat) : MetI l D k b yX4_mostComing wsX4_mostComing ({ frames := 0, cells := 0, slots := 0, locals := 0 } : Room) [cell32_ qh sh, cell0_ k qh sh, cell1_ k qh sh, cell4_ k qh sh, cell3_ k qh sh, cell2_ k qh sh] sz [.ref (qh 0)] (fun (r : Int32) (u : Unit) => (r.toInt = 0 ∨ r.toInt = 2) ∧ (r = J_X4_mostComing sh)) (fun u => [cell32_ qh sh, cell0_ k qh sh, cell1_ k qh sh, cell4_ k qh sh, cell3_ k qh sh, cell2_ k qh sh]) := by
  refine g_enter (cc := cX4_mostComing) (maxL := 1) (ret := (some .int)) (by decide) rfl (Nat.le_of_ble_eq_true rfl) ?_
  intro p e s m below meth c A hsz hAe cx hr hP hD hS ls hl
  rw [hAe]
  refine g_q (fun Q hQ => ?_)
  have hx := cx.1.1
  have hb := cx.1.2.1
  have hl : lv_has ls 1 [(0, .ref (qh 0))] := hl
  obtain ⟨H, eH⟩ : ∃ H : Heap, H = s.heap := ⟨_, rfl⟩
  obtain ⟨locs, el⟩ : ∃ L : List Loc, L = [] := ⟨_, rfl⟩
  have hP : va_P D vwCl [cell32_ qh sh, cell0_ k qh sh, cell1_ k qh sh, cell4_ k qh sh, cell3_ k qh sh, cell2_ k qh sh] H := by rw [eH]; exact hP
  have hD : va_D A [cell32_ qh sh, cell0_ k qh sh, cell1_ k qh sh, cell4_ k qh sh, cell3_ k qh sh, cell2_ k qh sh] := hD
  have hS : va_S A s.heap H locs := by rw [eH, el]; exact hS
  suffices goal : W p l e ({ frames := 0, cells := 0, slots := 0, locals := 0 } : Room) s m ([.ref (qh 0)] : List Value).toArray below meth c H locs 0 0 Q (F0 m 0 ls []) by rw [eH, el] at goal; exact goal
  refine lv_aload_n hx hb dX4_mostComing_0 rfl (lv_at hl 0 rfl) ?_
  refine g_get cx hP iw_X4_mostComing_X4 0 rfl rfl 10 (by decide) rfl fw_X4_mostComing_57 rfl dX4_mostComing_1 ?_
  refine lv_bipush (v := (-9)) hx hb dX4_mostComing_4 (by decide) ?_
  refine lv_icmp_ne (tgt := 13) hx hb dX4_mostComing_6 (by decide) (fun c1 => ?_) (fun c1 => ?_)
  · have f1 : ¬ (sh 0 10).toInt = (-9) := f_ne rfl (by decide) c1
    refine lv_iconst (v := 2) hx hb dX4_mostComing_13 (by decide) ?_
    have hlit2 : (2 : Int32).toInt = 2 := by decide
    rw [hQ]
    exact x_i cx hr () hP hD hS ⟨(show (2 : Int32).toInt = 0 ∨ (2 : Int32).toInt = 2 from by omega), (show (2 : Int32) = J_X4_mostComing sh from by first | (refine Eq.symm ?_; refine Eq.trans (if_neg c1) ?_; rfl) | (unfold J_X4_mostComing; try dsimp only; rw [if_neg c1]))⟩ dX4_mostComing_14
  · have f1 : (sh 0 10).toInt = (-9) := f_eq rfl (by decide) c1
    refine lv_iconst (v := 0) hx hb dX4_mostComing_9 (by decide) ?_
    refine lv_goto (tgt := 14) hx hb dX4_mostComing_10 (by decide) ?_
    have hlit3 : (0 : Int32).toInt = 0 := by decide
    rw [hQ]
    exact x_i cx hr () hP hD hS ⟨(show (0 : Int32).toInt = 0 ∨ (0 : Int32).toInt = 2 from by omega), (show (0 : Int32) = J_X4_mostComing sh from by first | (refine Eq.symm ?_; refine Eq.trans (if_pos c1) ?_; rfl) | (unfold J_X4_mostComing; try dsimp only; rw [if_pos c1]))⟩ dX4_mostComing_14
theorem fw_X4_mostOrdered_32 : Cond.fieldLink RX4 32 "StillInAugust$House" "weeks" "I" ∈ wsX4_mostOrdered := by decide +kernel
theorem nd_X4_mostComing : yX4_mostComing.cls = RX4 ∧ yX4_mostComing.cls ≠ "java/lang/invoke/MethodHandle" ∧ yX4_mostComing.cls ≠ "java/lang/invoke/VarHandle" ∧ (parseMethodDescriptor yX4_mostComing.desc).map (fun d => d.parameters.length) = some 0 := by decide +kernel
theorem iw_X4_mostOrdered_X4 : ∀ w ∈ u_ws RX4 TX4 14, w ∈ wsX4_mostOrdered := fun _ h => List.mem_cons_of_mem _ (List.mem_append_right _ h)
def J_X4_mostOrdered (sh : Nat → Nat → Int32) (p0 : Int32) : Int32 := if p0 = ((sh 0 0) - (1 : Int32)) then (0 : Int32) else let y7 := J_X4_mostComing sh; y7
set_option maxHeartbeats 4000000 in
set_option maxRecDepth 100000 in
theorem c_X4_mostOrdered (l : Launch) (D : va_G) (k : Nat → ClassId) (b : Nat → Nat) (qh : Nat → Nat) (sh : Nat → Nat → Int32) (sz : Nat) (p0 : Int32) (h_wk : 0 ≤ (sh 0 0).toInt ∧ (sh 0 0).toInt ≤ 5) : MetI l D k b yX4_mostOrdered wsX4_mostOrdered ({ frames := 1, cells := 0, slots := 0, locals := 20 } : Room) [cell32_ qh sh, cell0_ k qh sh, cell1_ k qh sh, cell4_ k qh sh, cell3_ k qh sh, cell2_ k qh sh] sz [.ref (qh 0), .int p0] (fun (r : Int32) (u : Unit) => (0 ≤ r.toInt ∧ r.toInt ≤ 2) ∧ (r = J_X4_mostOrdered sh p0)) (fun u => [cell32_ qh sh, cell0_ k qh sh, cell1_ k qh sh, cell4_ k qh sh, cell3_ k qh sh, cell2_ k qh sh]) := by
  refine g_enter (cc := cX4_mostOrdered) (maxL := 2) (ret := (some .int)) (by decide) rfl (Nat.le_of_ble_eq_true rfl) ?_
  intro p e s m below meth c A hsz hAe cx hr hP hD hS ls hl
  rw [hAe]
  refine g_q (fun Q hQ => ?_)
  have hx := cx.1.1
  have hb := cx.1.2.1
  have bp0 := i_rng p0
  have hl : lv_has ls 2 [(0, .ref (qh 0)), (1, .int p0)] := hl
  obtain ⟨H, eH⟩ : ∃ H : Heap, H = s.heap := ⟨_, rfl⟩
  obtain ⟨locs, el⟩ : ∃ L : List Loc, L = [] := ⟨_, rfl⟩
  have hP : va_P D vwCl [cell32_ qh sh, cell0_ k qh sh, cell1_ k qh sh, cell4_ k qh sh, cell3_ k qh sh, cell2_ k qh sh] H := by rw [eH]; exact hP
  have hD : va_D A [cell32_ qh sh, cell0_ k qh sh, cell1_ k qh sh, cell4_ k qh sh, cell3_ k qh sh, cell2_ k qh sh] := hD
  have hS : va_S A s.heap H locs := by rw [eH, el]; exact hS
  suffices goal : W p l e ({ frames := 1, cells := 0, slots := 0, locals := 20 } : Room) s m ([.ref (qh 0), .int p0] : List Value).toArray below meth c H locs 0 0 Q (F0 m 0 ls []) by rw [eH, el] at goal; exact goal
  refine lv_iload_n hx hb dX4_mostOrdered_0 rfl (lv_at hl 1 rfl) ?_
  refine lv_aload_n hx hb dX4_mostOrdered_1 rfl (lv_at hl 0 rfl) ?_
  refine g_get cx hP iw_X4_mostOrdered_X4 0 rfl rfl 0 (by decide) rfl fw_X4_mostOrdered_32 rfl dX4_mostOrdered_2 ?_
  refine lv_iconst (v := 1) hx hb dX4_mostOrdered_5 (by decide) ?_
  refine lv_isub hx hb dX4_mostOrdered_6 (lv_topi (fun v1 e1 => ?_))
  have t1 : v1.toInt = (sh 0 0).toInt - 1 := by rw [e1]; exact i_sub rfl (by decide) (by omega) (by omega)
  refine lv_icmp_ne (tgt := 14) hx hb dX4_mostOrdered_7 (by decide) (fun c2 => ?_) (fun c2 => ?_)
  · have f2 : ¬ p0.toInt = v1.toInt := f_ne rfl rfl c2
    refine lv_aload_n hx hb dX4_mostOrdered_14 rfl (lv_at hl 0 rfl) ?_
    refine g_iF (w1 := fun (_ : Unit) => [cell32_ qh sh, cell0_ k qh sh, cell1_ k qh sh, cell4_ k qh sh, cell3_ k qh sh, cell2_ k qh sh]) (g_runVF (ws := [cell32_ qh sh, cell0_ k qh sh, cell1_ k qh sh, cell4_ k qh sh, cell3_ k qh sh, cell2_ k qh sh]) (rest := []) cx hP hD hS [] (c_X4_mostComing l D k b qh sh H.size) gX4_mostOrdered_X4_mostComing rfl rfl rfl nd_X4_mostComing ⟨Nat.le_of_ble_eq_true rfl, Nat.le_of_ble_eq_true rfl⟩ (ci := 2) (q0 := 0) rfl rfl rfl hl.1 rfl (Nat.le_of_ble_eq_true rfl) ⟨Nat.zero_le _, Nat.zero_le _⟩ dX4_mostOrdered_15) cx.2.2.1 hD hS (fun r4 _ H locs hw3 hP hD hS => ?_)
    replace hw3 : (r4.toInt = 0 ∨ r4.toInt = 2) ∧ (r4 = J_X4_mostComing sh) := hw3
    obtain ⟨w5, w6⟩ := hw3
    have k8 : r4 = (J_X4_mostComing sh) := congrArg (fun z => z) w6
    rw [hQ]
    exact x_i cx hr () hP hD hS ⟨(show 0 ≤ r4.toInt ∧ r4.toInt ≤ 2 from by omega), (show r4 = J_X4_mostOrdered sh p0 from by subst e1 k8; first | (refine Eq.symm ?_; refine Eq.trans (if_neg c2) ?_; rfl) | (unfold J_X4_mostOrdered; try dsimp only; rw [if_neg c2]))⟩ dX4_mostOrdered_18
  · have f2 : p0.toInt = v1.toInt := f_eq rfl rfl c2
    refine lv_iconst (v := 0) hx hb dX4_mostOrdered_10 (by decide) ?_
    refine lv_goto (tgt := 18) hx hb dX4_mostOrdered_11 (by decide) ?_
    have hlit9 : (0 : Int32).toInt = 0 := by decide
    rw [hQ]
    exact x_i cx hr () hP hD hS ⟨(show 0 ≤ (0 : Int32).toInt ∧ (0 : Int32).toInt ≤ 2 from by omega), (show (0 : Int32) = J_X4_mostOrdered sh p0 from by subst e1; first | (refine Eq.symm ?_; refine Eq.trans (if_pos c2) ?_; rfl) | (unfold J_X4_mostOrdered; try dsimp only; rw [if_pos c2]))⟩ dX4_mostOrdered_18
theorem fw_X4_mostLetGo_51 : Cond.fieldLink RX4 51 "StillInAugust$House" "letGoPrice" "I" ∈ wsX4_mostLetGo := by decide +kernel
theorem iw_X4_mostLetGo_X4 : ∀ w ∈ u_ws RX4 TX4 14, w ∈ wsX4_mostLetGo := fun _ h => List.mem_cons_of_mem _ (List.mem_append_right _ h)
def J_X4_mostLetGo (sh : Nat → Nat → Int32) (p0 : Int32) : Int32 := if (sh 0 8) = (-9) then (0 : Int32) else (J_X3_total p0)
set_option maxHeartbeats 4000000 in
set_option maxRecDepth 100000 in
theorem c_X4_mostLetGo (l : Launch) (D : va_G) (k : Nat → ClassId) (b : Nat → Nat) (qh : Nat → Nat) (sh : Nat → Nat → Int32) (sz : Nat) (p0 : Int32) (hv : 0 ≤ p0.toInt ∧ p0.toInt ≤ 400 ∧ tot p0 ≤ 4) : MetI l D k b yX4_mostLetGo wsX4_mostLetGo ({ frames := 1, cells := 0, slots := 0, locals := 20 } : Room) [cell32_ qh sh, cell0_ k qh sh, cell1_ k qh sh, cell4_ k qh sh, cell3_ k qh sh, cell2_ k qh sh] sz [.ref (qh 0), .int p0] (fun (r : Int32) (u : Unit) => (0 ≤ r.toInt ∧ r.toInt ≤ tot p0) ∧ (r = J_X4_mostLetGo sh p0)) (fun u => [cell32_ qh sh, cell0_ k qh sh, cell1_ k qh sh, cell4_ k qh sh, cell3_ k qh sh, cell2_ k qh sh]) := by
  refine g_enter (cc := cX4_mostLetGo) (maxL := 2) (ret := (some .int)) (by decide) rfl (Nat.le_of_ble_eq_true rfl) ?_
  intro p e s m below meth c A hsz hAe cx hr hP hD hS ls hl
  rw [hAe]
  refine g_q (fun Q hQ => ?_)
  have hx := cx.1.1
  have hb := cx.1.2.1
  have bp0 := i_rng p0
  have hl : lv_has ls 2 [(0, .ref (qh 0)), (1, .int p0)] := hl
  obtain ⟨H, eH⟩ : ∃ H : Heap, H = s.heap := ⟨_, rfl⟩
  obtain ⟨locs, el⟩ : ∃ L : List Loc, L = [] := ⟨_, rfl⟩
  have hP : va_P D vwCl [cell32_ qh sh, cell0_ k qh sh, cell1_ k qh sh, cell4_ k qh sh, cell3_ k qh sh, cell2_ k qh sh] H := by rw [eH]; exact hP
  have hD : va_D A [cell32_ qh sh, cell0_ k qh sh, cell1_ k qh sh, cell4_ k qh sh, cell3_ k qh sh, cell2_ k qh sh] := hD
  have hS : va_S A s.heap H locs := by rw [eH, el]; exact hS
  suffices goal : W p l e ({ frames := 1, cells := 0, slots := 0, locals := 20 } : Room) s m ([.ref (qh 0), .int p0] : List Value).toArray below meth c H locs 0 0 Q (F0 m 0 ls []) by rw [eH, el] at goal; exact goal
  have y0 := tot_0 (x := p0) hv.1
  refine lv_aload_n hx hb dX4_mostLetGo_0 rfl (lv_at hl 0 rfl) ?_
  refine g_get cx hP iw_X4_mostLetGo_X4 0 rfl rfl 8 (by decide) rfl fw_X4_mostLetGo_51 rfl dX4_mostLetGo_1 ?_
  refine lv_bipush (v := (-9)) hx hb dX4_mostLetGo_4 (by decide) ?_
  refine lv_icmp_ne (tgt := 13) hx hb dX4_mostLetGo_6 (by decide) (fun c1 => ?_) (fun c1 => ?_)
  · have f1 : ¬ (sh 0 8).toInt = (-9) := f_ne rfl (by decide) c1
    refine lv_iload_n hx hb dX4_mostLetGo_13 rfl (lv_at hl 1 rfl) ?_
    refine g_ir (g_runS (wc := []) (rest := []) cx hP hD hS [] rfl (by decide) [.int p0] (c_X3_total l D k b H.size p0) gX4_mostLetGo_X3_total rfl rfl rfl nd_X3_total ⟨Nat.le_of_ble_eq_true rfl, Nat.le_of_ble_eq_true rfl⟩ rfl hl.1 rfl (Nat.le_of_ble_eq_true rfl) ⟨Nat.zero_le _, Nat.zero_le _⟩ dX4_mostLetGo_14) cx.2.2.1 hP hD hS [] rfl rfl (fun r3 H locs hw2 hP hS => ?_)
    have w4 : r3 = J_X3_total p0 := hw2
    clear hw2
    have zr3 : r3.toInt = tot p0 := tot3 w4 (show 0 ≤ p0.toInt from by first | decide | omega)
    have yr3 := tot_0 (x := p0) (by first | decide | omega)
    rw [hQ]
    exact x_i cx hr () hP hD hS ⟨(show 0 ≤ r3.toInt ∧ r3.toInt ≤ tot p0 from by omega), (show r3 = J_X4_mostLetGo sh p0 from by subst w4; first | (refine Eq.symm ?_; refine Eq.trans (if_neg c1) ?_; rfl) | (unfold J_X4_mostLetGo; try dsimp only; rw [if_neg c1]))⟩ dX4_mostLetGo_17
  · have f1 : (sh 0 8).toInt = (-9) := f_eq rfl (by decide) c1
    refine lv_iconst (v := 0) hx hb dX4_mostLetGo_9 (by decide) ?_
    refine lv_goto (tgt := 17) hx hb dX4_mostLetGo_10 (by decide) ?_
    have hlit5 : (0 : Int32).toInt = 0 := by decide
    rw [hQ]
    exact x_i cx hr () hP hD hS ⟨(show 0 ≤ (0 : Int32).toInt ∧ (0 : Int32).toInt ≤ tot p0 from by omega), (show (0 : Int32) = J_X4_mostLetGo sh p0 from by first | (refine Eq.symm ?_; refine Eq.trans (if_pos c1) ?_; rfl) | (unfold J_X4_mostLetGo; try dsimp only; rw [if_pos c1]))⟩ dX4_mostLetGo_17
theorem mw_X4_mostTaken_minL127 : Cond.methodLink RX4 127 Lib.Math.min.name ∈ wsX4_mostTaken := by decide +kernel
theorem mw_X4_mostTaken_minS : Cond.static Lib.Math.min.name ∈ wsX4_mostTaken := by decide +kernel
theorem mw_X4_mostTaken_minI : Cond.initialized "java/lang/Math" ∈ wsX4_mostTaken := by decide +kernel
theorem mw_X4_mostTaken_minC : Cond.code Lib.Math.min.name Lib.Math.min.code 2 (some .int) ∈ wsX4_mostTaken := by decide +kernel
theorem fw_X4_mostTaken_15 : Cond.fieldLink RX4 15 "StillInAugust$House" "offers" "[I" ∈ wsX4_mostTaken := by decide +kernel
theorem fw_X4_mostTaken_36 : Cond.fieldLink RX4 36 "StillInAugust$House" "hooks" "I" ∈ wsX4_mostTaken := by decide +kernel
theorem iw_X4_mostTaken_X4 : ∀ w ∈ u_ws RX4 TX4 14, w ∈ wsX4_mostTaken := fun _ h => List.mem_cons_of_mem _ (List.mem_append_right _ h)
def J_X4_mostTaken (sh : Nat → Nat → Int32) (p0 : Int32) (p1 : Int32) : Int32 := (if ((sh 0 1) - (J_X3_total p1)) < ((sh 2) (p0).toNatClampNeg) then ((sh 0 1) - (J_X3_total p1)) else ((sh 2) (p0).toNatClampNeg))
set_option maxHeartbeats 4000000 in
set_option maxRecDepth 100000 in
theorem c_X4_mostTaken (l : Launch) (D : va_G) (k : Nat → ClassId) (b : Nat → Nat) (qh : Nat → Nat) (sh : Nat → Nat → Int32) (sz : Nat) (p0 : Int32) (p1 : Int32) (h_hk : 0 ≤ (sh 0 1).toInt ∧ (sh 0 1).toInt ≤ 4) (h_of : ∀ j, 0 ≤ (sh 2 j).toInt ∧ (sh 2 j).toInt ≤ 4) (hv : 0 ≤ p1.toInt ∧ p1.toInt ≤ 400 ∧ tot p1 ≤ 4) (hp0 : 0 ≤ p0.toInt ∧ p0.toInt ≤ 4) : MetI l D k b yX4_mostTaken wsX4_mostTaken ({ frames := 1, cells := 0, slots := 0, locals := 21 } : Room) [cell32_ qh sh, cell0_ k qh sh, cell1_ k qh sh, cell4_ k qh sh, cell3_ k qh sh, cell2_ k qh sh] sz [.ref (qh 0), .int p0, .int p1] (fun (r : Int32) (u : Unit) => (-4 ≤ r.toInt ∧ r.toInt ≤ 4 ∧ r.toInt ≤ (sh 0 1).toInt - (tot p1)) ∧ ((sh 0 1).toInt < tot p1 ∨ 0 ≤ r.toInt) ∧ (r = J_X4_mostTaken sh p0 p1)) (fun u => [cell32_ qh sh, cell0_ k qh sh, cell1_ k qh sh, cell4_ k qh sh, cell3_ k qh sh, cell2_ k qh sh]) := by
  refine g_enter (cc := cX4_mostTaken) (maxL := 3) (ret := (some .int)) (by decide) rfl (Nat.le_of_ble_eq_true rfl) ?_
  intro p e s m below meth c A hsz hAe cx hr hP hD hS ls hl
  rw [hAe]
  refine g_q (fun Q hQ => ?_)
  have hx := cx.1.1
  have hb := cx.1.2.1
  have bp0 := i_rng p0
  have bp1 := i_rng p1
  have hl : lv_has ls 3 [(0, .ref (qh 0)), (1, .int p0), (2, .int p1)] := hl
  obtain ⟨H, eH⟩ : ∃ H : Heap, H = s.heap := ⟨_, rfl⟩
  obtain ⟨locs, el⟩ : ∃ L : List Loc, L = [] := ⟨_, rfl⟩
  have hP : va_P D vwCl [cell32_ qh sh, cell0_ k qh sh, cell1_ k qh sh, cell4_ k qh sh, cell3_ k qh sh, cell2_ k qh sh] H := by rw [eH]; exact hP
  have hD : va_D A [cell32_ qh sh, cell0_ k qh sh, cell1_ k qh sh, cell4_ k qh sh, cell3_ k qh sh, cell2_ k qh sh] := hD
  have hS : va_S A s.heap H locs := by rw [eH, el]; exact hS
  suffices goal : W p l e ({ frames := 1, cells := 0, slots := 0, locals := 21 } : Room) s m ([.ref (qh 0), .int p0, .int p1] : List Value).toArray below meth c H locs 0 0 Q (F0 m 0 ls []) by rw [eH, el] at goal; exact goal
  refine lv_aload_n hx hb dX4_mostTaken_0 rfl (lv_at hl 0 rfl) ?_
  refine g_get cx hP iw_X4_mostTaken_X4 0 rfl rfl 3 (by decide) rfl fw_X4_mostTaken_15 rfl dX4_mostTaken_1 ?_
  refine lv_iload_n hx hb dX4_mostTaken_4 rfl (lv_at hl 1 rfl) ?_
  have hn1 : vp_in p0 5 := f_in (a := p0.toInt) rfl (by omega) (by omega)
  refine va_iald hx hb cx.2.1 hP 2 0 rfl rfl hn1 dX4_mostTaken_5 (lv_topi (fun v2 e2 => ?_))
  have t2 : 0 ≤ v2.toInt ∧ v2.toInt ≤ 4 := by rw [e2]; exact h_of _
  refine lv_aload_n hx hb dX4_mostTaken_6 rfl (lv_at hl 0 rfl) ?_
  refine g_get cx hP iw_X4_mostTaken_X4 0 rfl rfl 1 (by decide) rfl fw_X4_mostTaken_36 rfl dX4_mostTaken_7 ?_
  refine lv_iload_n hx hb dX4_mostTaken_10 rfl (lv_at hl 2 rfl) ?_
  refine g_ir (g_runS (wc := []) (rest := [.int (sh 0 1), .int v2]) cx hP hD hS [] rfl (by decide) [.int p1] (c_X3_total l D k b H.size p1) gX4_mostTaken_X3_total rfl rfl rfl nd_X3_total ⟨Nat.le_of_ble_eq_true rfl, Nat.le_of_ble_eq_true rfl⟩ rfl hl.1 rfl (Nat.le_of_ble_eq_true rfl) ⟨Nat.zero_le _, Nat.zero_le _⟩ dX4_mostTaken_11) cx.2.2.1 hP hD hS [] rfl rfl (fun r4 H locs hw3 hP hS => ?_)
  have w5 : r4 = J_X3_total p1 := hw3
  clear hw3
  have zr4 : r4.toInt = tot p1 := tot3 w5 (show 0 ≤ p1.toInt from by first | decide | omega)
  have yr4 := tot_0 (x := p1) (by first | decide | omega)
  refine lv_isub hx hb dX4_mostTaken_14 (lv_topi (fun v6 e6 => ?_))
  have t6 : v6.toInt = (sh 0 1).toInt - r4.toInt := by rw [e6]; exact i_sub rfl rfl (by omega) (by omega)
  refine va_mmin hx hb (cx.1.2.2.1.trans hl.1.symm) cx.1.2.2.2.1 (cx.1.2.2.2.2 _ mw_X4_mostTaken_minL127) (cx.1.2.2.2.2 _ mw_X4_mostTaken_minS) (cx.1.2.2.2.2 _ mw_X4_mostTaken_minI) (cx.1.2.2.2.2 _ mw_X4_mostTaken_minC) (Nat.le_of_ble_eq_true rfl) (Nat.le_of_ble_eq_true rfl) (Nat.zero_le _) (Nat.zero_le _) dX4_mostTaken_15 (lv_topi (fun v7 e7 => ?_))
  have t7 := i_min rfl rfl (a := v2.toInt) (b := v6.toInt) e7
  rw [hQ]
  exact x_i cx hr () hP hD hS ⟨(show -4 ≤ v7.toInt ∧ v7.toInt ≤ 4 ∧ v7.toInt ≤ (sh 0 1).toInt - (tot p1) from by omega), (show (sh 0 1).toInt < tot p1 ∨ 0 ≤ v7.toInt from by omega), (show v7 = J_X4_mostTaken sh p0 p1 from by subst e2 w5 e6 e7; rfl)⟩ dX4_mostTaken_18
theorem fw_X4_mostTaught_54 : Cond.fieldLink RX4 54 "StillInAugust$House" "teachPrice" "I" ∈ wsX4_mostTaught := by decide +kernel
theorem iw_X4_mostTaught_X4 : ∀ w ∈ u_ws RX4 TX4 14, w ∈ wsX4_mostTaught := fun _ h => List.mem_cons_of_mem _ (List.mem_append_right _ h)
def J_X4_mostTaught (sh : Nat → Nat → Int32) (p0 : Int32) : Int32 := if (sh 0 9) = (-9) then (0 : Int32) else if (J_X3_ofAge p0 0) ≤ 0 then (0 : Int32) else if (J_X3_ofAge p0 2) ≤ 0 then (0 : Int32) else (1 : Int32)
set_option maxHeartbeats 4000000 in
set_option maxRecDepth 100000 in
theorem c_X4_mostTaught (l : Launch) (D : va_G) (k : Nat → ClassId) (b : Nat → Nat) (qh : Nat → Nat) (sh : Nat → Nat → Int32) (sz : Nat) (p0 : Int32) (hp0 : 0 ≤ p0.toInt ∧ p0.toInt ≤ 9999) : MetI l D k b yX4_mostTaught wsX4_mostTaught ({ frames := 1, cells := 0, slots := 0, locals := 21 } : Room) [cell32_ qh sh, cell0_ k qh sh, cell1_ k qh sh, cell4_ k qh sh, cell3_ k qh sh, cell2_ k qh sh] sz [.ref (qh 0), .int p0] (fun (r : Int32) (u : Unit) => (r.toInt = 0 ∨ (r.toInt = 1 ∧ 0 < p0.toInt / 100)) ∧ (r = J_X4_mostTaught sh p0)) (fun u => [cell32_ qh sh, cell0_ k qh sh, cell1_ k qh sh, cell4_ k qh sh, cell3_ k qh sh, cell2_ k qh sh]) := by
  refine g_enter (cc := cX4_mostTaught) (maxL := 2) (ret := (some .int)) (by decide) rfl (Nat.le_of_ble_eq_true rfl) ?_
  intro p e s m below meth c A hsz hAe cx hr hP hD hS ls hl
  rw [hAe]
  refine g_q (fun Q hQ => ?_)
  have hx := cx.1.1
  have hb := cx.1.2.1
  have bp0 := i_rng p0
  have hl : lv_has ls 2 [(0, .ref (qh 0)), (1, .int p0)] := hl
  obtain ⟨H, eH⟩ : ∃ H : Heap, H = s.heap := ⟨_, rfl⟩
  obtain ⟨locs, el⟩ : ∃ L : List Loc, L = [] := ⟨_, rfl⟩
  have hP : va_P D vwCl [cell32_ qh sh, cell0_ k qh sh, cell1_ k qh sh, cell4_ k qh sh, cell3_ k qh sh, cell2_ k qh sh] H := by rw [eH]; exact hP
  have hD : va_D A [cell32_ qh sh, cell0_ k qh sh, cell1_ k qh sh, cell4_ k qh sh, cell3_ k qh sh, cell2_ k qh sh] := hD
  have hS : va_S A s.heap H locs := by rw [eH, el]; exact hS
  suffices goal : W p l e ({ frames := 1, cells := 0, slots := 0, locals := 21 } : Room) s m ([.ref (qh 0), .int p0] : List Value).toArray below meth c H locs 0 0 Q (F0 m 0 ls []) by rw [eH, el] at goal; exact goal
  refine lv_aload_n hx hb dX4_mostTaught_0 rfl (lv_at hl 0 rfl) ?_
  refine g_get cx hP iw_X4_mostTaught_X4 0 rfl rfl 9 (by decide) rfl fw_X4_mostTaught_54 rfl dX4_mostTaught_1 ?_
  refine lv_bipush (v := (-9)) hx hb dX4_mostTaught_4 (by decide) ?_
  refine lv_icmp_eq (tgt := 29) hx hb dX4_mostTaught_6 (by decide) (fun c1 => ?_) (fun c1 => ?_)
  · have f1 : (sh 0 9).toInt = (-9) := f_eq rfl (by decide) c1
    refine lv_iconst (v := 0) hx hb dX4_mostTaught_29 (by decide) ?_
    have hlit2 : (0 : Int32).toInt = 0 := by decide
    rw [hQ]
    exact x_i cx hr () hP hD hS ⟨(show (0 : Int32).toInt = 0 ∨ ((0 : Int32).toInt = 1 ∧ 0 < p0.toInt / 100) from by omega), (show (0 : Int32) = J_X4_mostTaught sh p0 from by first | (refine Eq.symm ?_; refine Eq.trans (if_pos c1) ?_; rfl) | (unfold J_X4_mostTaught; try dsimp only; rw [if_pos c1]))⟩ dX4_mostTaught_30
  · have f1 : ¬ (sh 0 9).toInt = (-9) := f_ne rfl (by decide) c1
    refine lv_iload_n hx hb dX4_mostTaught_9 rfl (lv_at hl 1 rfl) ?_
    refine lv_iconst (v := 0) hx hb dX4_mostTaught_10 (by decide) ?_
    have hlit3 : (0 : Int32).toInt = 0 := by decide
    refine g_ir (g_runS (wc := []) (rest := []) cx hP hD hS [] rfl (by decide) [.int p0, .int 0] (c_X3_ofAge l D k b H.size p0 0) gX4_mostTaught_X3_ofAge rfl rfl rfl nd_X3_ofAge ⟨Nat.le_of_ble_eq_true rfl, Nat.le_of_ble_eq_true rfl⟩ rfl hl.1 rfl (Nat.le_of_ble_eq_true rfl) ⟨Nat.zero_le _, Nat.zero_le _⟩ dX4_mostTaught_11) cx.2.2.1 hP hD hS [] rfl rfl (fun r5 H locs hw4 hP hS => ?_)
    have w6 : r5 = J_X3_ofAge p0 (0 : Int32) := hw4
    clear hw4
    have zr5 : r5.toInt = p0.toInt / 100 := (agep w6 (by omega)).1 (by decide)
    refine lv_if_le (tgt := 29) hx hb dX4_mostTaught_14 (by decide) (fun c7 => ?_) (fun c7 => ?_)
    · have f7 : r5.toInt ≤ 0 := f_le rfl (by decide) c7
      refine lv_iconst (v := 0) hx hb dX4_mostTaught_29 (by decide) ?_
      have hlit8 : (0 : Int32).toInt = 0 := by decide
      rw [hQ]
      exact x_i cx hr () hP hD hS ⟨(show (0 : Int32).toInt = 0 ∨ ((0 : Int32).toInt = 1 ∧ 0 < p0.toInt / 100) from by omega), (show (0 : Int32) = J_X4_mostTaught sh p0 from by subst w6; first | (refine Eq.symm ?_; refine Eq.trans (if_neg c1) ?_; refine Eq.trans (if_pos c7) ?_; rfl) | (unfold J_X4_mostTaught; try dsimp only; rw [if_neg c1, if_pos c7]))⟩ dX4_mostTaught_30
    · have f7 : 0 < r5.toInt := f_nle rfl (by decide) c7
      refine lv_iload_n hx hb dX4_mostTaught_17 rfl (lv_at hl 1 rfl) ?_
      refine lv_iconst (v := 2) hx hb dX4_mostTaught_18 (by decide) ?_
      have hlit9 : (2 : Int32).toInt = 2 := by decide
      refine g_ir (g_runS (wc := []) (rest := []) cx hP hD hS [] rfl (by decide) [.int p0, .int 2] (c_X3_ofAge l D k b H.size p0 2) gX4_mostTaught_X3_ofAge rfl rfl rfl nd_X3_ofAge ⟨Nat.le_of_ble_eq_true rfl, Nat.le_of_ble_eq_true rfl⟩ rfl hl.1 rfl (Nat.le_of_ble_eq_true rfl) ⟨Nat.zero_le _, Nat.zero_le _⟩ dX4_mostTaught_19) cx.2.2.1 hP hD hS [] rfl rfl (fun r11 H locs hw10 hP hS => ?_)
      have w12 : r11 = J_X3_ofAge p0 (2 : Int32) := hw10
      clear hw10
      refine lv_if_le (tgt := 29) hx hb dX4_mostTaught_22 (by decide) (fun c13 => ?_) (fun c13 => ?_)
      · have f13 : r11.toInt ≤ 0 := f_le rfl (by decide) c13
        refine lv_iconst (v := 0) hx hb dX4_mostTaught_29 (by decide) ?_
        have hlit14 : (0 : Int32).toInt = 0 := by decide
        rw [hQ]
        exact x_i cx hr () hP hD hS ⟨(show (0 : Int32).toInt = 0 ∨ ((0 : Int32).toInt = 1 ∧ 0 < p0.toInt / 100) from by omega), (show (0 : Int32) = J_X4_mostTaught sh p0 from by subst w6 w12; first | (refine Eq.symm ?_; refine Eq.trans (if_neg c1) ?_; refine Eq.trans (if_neg c7) ?_; refine Eq.trans (if_pos c13) ?_; rfl) | (unfold J_X4_mostTaught; try dsimp only; rw [if_neg c1, if_neg c7, if_pos c13]))⟩ dX4_mostTaught_30
      · have f13 : 0 < r11.toInt := f_nle rfl (by decide) c13
        refine lv_iconst (v := 1) hx hb dX4_mostTaught_25 (by decide) ?_
        refine lv_goto (tgt := 30) hx hb dX4_mostTaught_26 (by decide) ?_
        have hlit15 : (1 : Int32).toInt = 1 := by decide
        rw [hQ]
        exact x_i cx hr () hP hD hS ⟨(show (1 : Int32).toInt = 0 ∨ ((1 : Int32).toInt = 1 ∧ 0 < p0.toInt / 100) from by omega), (show (1 : Int32) = J_X4_mostTaught sh p0 from by subst w6 w12; first | (refine Eq.symm ?_; refine Eq.trans (if_neg c1) ?_; refine Eq.trans (if_neg c7) ?_; refine Eq.trans (if_neg c13) ?_; rfl) | (unfold J_X4_mostTaught; try dsimp only; rw [if_neg c1, if_neg c7, if_neg c13]))⟩ dX4_mostTaught_30
theorem nd_X0_ordered : yX0_ordered.cls ≠ "java/lang/invoke/MethodHandle" ∧ yX0_ordered.cls ≠ "java/lang/invoke/VarHandle" ∧ (parseMethodDescriptor yX0_ordered.desc).map (fun d => d.parameters.length) = some 1 := by decide +kernel
theorem nd_X4_mostLetGo : yX4_mostLetGo.cls = RX4 ∧ yX4_mostLetGo.cls ≠ "java/lang/invoke/MethodHandle" ∧ yX4_mostLetGo.cls ≠ "java/lang/invoke/VarHandle" ∧ (parseMethodDescriptor yX4_mostLetGo.desc).map (fun d => d.parameters.length) = some 1 := by decide +kernel
theorem nd_X4_mostOrdered : yX4_mostOrdered.cls = RX4 ∧ yX4_mostOrdered.cls ≠ "java/lang/invoke/MethodHandle" ∧ yX4_mostOrdered.cls ≠ "java/lang/invoke/VarHandle" ∧ (parseMethodDescriptor yX4_mostOrdered.desc).map (fun d => d.parameters.length) = some 1 := by decide +kernel
theorem nd_X4_mostTaken : yX4_mostTaken.cls = RX4 ∧ yX4_mostTaken.cls ≠ "java/lang/invoke/MethodHandle" ∧ yX4_mostTaken.cls ≠ "java/lang/invoke/VarHandle" ∧ (parseMethodDescriptor yX4_mostTaken.desc).map (fun d => d.parameters.length) = some 2 := by decide +kernel
theorem nd_X4_mostTaught : yX4_mostTaught.cls = RX4 ∧ yX4_mostTaught.cls ≠ "java/lang/invoke/MethodHandle" ∧ yX4_mostTaught.cls ≠ "java/lang/invoke/VarHandle" ∧ (parseMethodDescriptor yX4_mostTaught.desc).map (fun d => d.parameters.length) = some 1 := by decide +kernel
def J_X4_allows (sh : Nat → Nat → Int32) (p0 : Int32) (p1 : Int32) (p2 : Int32) : Int32 := let y8 := J_X4_mostLetGo sh p1; if (J_X0_letGo p2) ≤ y8 then let y25 := J_X4_mostTaken sh p0 (J_X3_lessYoungestFirst p1 (J_X0_letGo p2)); if (J_X0_taken p2) ≤ y25 then let y40 := J_X4_mostTaught sh (((J_X3_lessYoungestFirst p1 (J_X0_letGo p2)) + ((100 : Int32) * (J_X0_taken p2)))); if y40 < (J_X0_taught p2) then (0 : Int32) else let y51 := J_X4_mostOrdered sh p0; if y51 < (J_X0_ordered p2) then (0 : Int32) else (1 : Int32) else (0 : Int32) else (0 : Int32)
set_option maxHeartbeats 4000000 in
set_option maxRecDepth 100000 in
theorem c_X4_allows (l : Launch) (D : va_G) (k : Nat → ClassId) (b : Nat → Nat) (qh : Nat → Nat) (sh : Nat → Nat → Int32) (sz : Nat) (p0 : Int32) (p1 : Int32) (p2 : Int32) (h_wk : 0 ≤ (sh 0 0).toInt ∧ (sh 0 0).toInt ≤ 5) (h_hk : 0 ≤ (sh 0 1).toInt ∧ (sh 0 1).toInt ≤ 4) (h_fl : 0 ≤ (sh 0 12).toInt ∧ (sh 0 12).toInt ≤ 5) (h_of : ∀ j, 0 ≤ (sh 2 j).toInt ∧ (sh 2 j).toInt ≤ 4) (h_go : ∀ j, 0 ≤ (sh 3 j).toInt ∧ (sh 3 j).toInt ≤ 5) (hv : 0 ≤ p1.toInt ∧ p1.toInt ≤ 400 ∧ tot p1 ≤ 4) (ha : 0 ≤ p2.toInt) (hp0 : 0 ≤ p0.toInt ∧ p0.toInt ≤ 4) : MetI l D k b yX4_allows wsX4_allows ({ frames := 2, cells := 0, slots := 0, locals := 44 } : Room) [cell32_ qh sh, cell0_ k qh sh, cell1_ k qh sh, cell4_ k qh sh, cell3_ k qh sh, cell2_ k qh sh] sz [.ref (qh 0), .int p0, .int p1, .int p2] (fun (r : Int32) (u : Unit) => (0 ≤ r.toInt ∧ r.toInt ≤ 1) ∧ (Imp (r.toInt = 1) (0 ≤ (J_X0_done p1 p2).toInt ∧ (J_X0_done p1 p2).toInt ≤ 400 ∧ tot (J_X0_done p1 p2) ≤ 4)) ∧ (r = J_X4_allows sh p0 p1 p2)) (fun u => [cell32_ qh sh, cell0_ k qh sh, cell1_ k qh sh, cell4_ k qh sh, cell3_ k qh sh, cell2_ k qh sh]) := by
  refine g_enter (cc := cX4_allows) (maxL := 5) (ret := (some .boolean)) (by decide) rfl (Nat.le_of_ble_eq_true rfl) ?_
  intro p e s m below meth c A hsz hAe cx hr hP hD hS ls hl
  rw [hAe]
  refine g_q (fun Q hQ => ?_)
  have hx := cx.1.1
  have hb := cx.1.2.1
  have bp0 := i_rng p0
  have bp1 := i_rng p1
  have bp2 := i_rng p2
  have hl : lv_has ls 5 [(0, .ref (qh 0)), (1, .int p0), (2, .int p1), (3, .int p2)] := hl
  obtain ⟨H, eH⟩ : ∃ H : Heap, H = s.heap := ⟨_, rfl⟩
  obtain ⟨locs, el⟩ : ∃ L : List Loc, L = [] := ⟨_, rfl⟩
  have hP : va_P D vwCl [cell32_ qh sh, cell0_ k qh sh, cell1_ k qh sh, cell4_ k qh sh, cell3_ k qh sh, cell2_ k qh sh] H := by rw [eH]; exact hP
  have hD : va_D A [cell32_ qh sh, cell0_ k qh sh, cell1_ k qh sh, cell4_ k qh sh, cell3_ k qh sh, cell2_ k qh sh] := hD
  have hS : va_S A s.heap H locs := by rw [eH, el]; exact hS
  suffices goal : W p l e ({ frames := 2, cells := 0, slots := 0, locals := 44 } : Room) s m ([.ref (qh 0), .int p0, .int p1, .int p2] : List Value).toArray below meth c H locs 0 0 Q (F0 m 0 ls []) by rw [eH, el] at goal; exact goal
  refine lv_iload_n hx hb dX4_allows_0 rfl (lv_at hl 3 rfl) ?_
  refine g_ir (g_runS (wc := []) (rest := []) cx hP hD hS [] rfl (by decide) [.int p2] (c_X0_letGo l D k b H.size p2) gX4_allows_X0_letGo rfl rfl rfl nd_X0_letGo ⟨Nat.le_of_ble_eq_true rfl, Nat.le_of_ble_eq_true rfl⟩ rfl hl.1 rfl (Nat.le_of_ble_eq_true rfl) ⟨Nat.zero_le _, Nat.zero_le _⟩ dX4_allows_1) cx.2.2.1 hP hD hS [] rfl rfl (fun r2 H locs hw1 hP hS => ?_)
  have w3 : r2 = J_X0_letGo p2 := hw1
  clear hw1
  have zr2 := lg_b w3 (show 0 ≤ p2.toInt from by omega)
  have g1w := w3
  refine lv_aload_n hx hb dX4_allows_4 rfl (lv_at hl 0 rfl) ?_
  refine lv_iload_n hx hb dX4_allows_5 rfl (lv_at hl 2 rfl) ?_
  refine g_iF (w1 := fun (_ : Unit) => [cell32_ qh sh, cell0_ k qh sh, cell1_ k qh sh, cell4_ k qh sh, cell3_ k qh sh, cell2_ k qh sh]) (g_runVF (ws := [cell32_ qh sh, cell0_ k qh sh, cell1_ k qh sh, cell4_ k qh sh, cell3_ k qh sh, cell2_ k qh sh]) (rest := [.int r2]) cx hP hD hS [.int p1] (c_X4_mostLetGo l D k b qh sh H.size p1 (show 0 ≤ p1.toInt ∧ p1.toInt ≤ 400 ∧ tot p1 ≤ 4 from by first | decide | omega)) gX4_allows_X4_mostLetGo rfl rfl rfl nd_X4_mostLetGo ⟨Nat.le_of_ble_eq_true rfl, Nat.le_of_ble_eq_true rfl⟩ (ci := 2) (q0 := 0) rfl rfl rfl hl.1 rfl (Nat.le_of_ble_eq_true rfl) ⟨Nat.zero_le _, Nat.zero_le _⟩ dX4_allows_6) cx.2.2.1 hD hS (fun r5 _ H locs hw4 hP hD hS => ?_)
  replace hw4 : (0 ≤ r5.toInt ∧ r5.toInt ≤ tot p1) ∧ (r5 = J_X4_mostLetGo sh p1) := hw4
  obtain ⟨w6, w7⟩ := hw4
  have k9 : r5 = (J_X4_mostLetGo sh p1) := congrArg (fun z => z) w7
  refine lv_icmp_le (tgt := 14) hx hb dX4_allows_9 (by decide) (fun c10 => ?_) (fun c10 => ?_)
  · have f10 : r2.toInt ≤ r5.toInt := f_le rfl rfl c10
    refine lv_iload_n hx hb dX4_allows_14 rfl (lv_at hl 2 rfl) ?_
    refine lv_iload_n hx hb dX4_allows_15 rfl (lv_at hl 3 rfl) ?_
    refine g_ir (g_runS (wc := []) (rest := [.int p1]) cx hP hD hS [] rfl (by decide) [.int p2] (c_X0_letGo l D k b H.size p2) gX4_allows_X0_letGo rfl rfl rfl nd_X0_letGo ⟨Nat.le_of_ble_eq_true rfl, Nat.le_of_ble_eq_true rfl⟩ rfl hl.1 rfl (Nat.le_of_ble_eq_true rfl) ⟨Nat.zero_le _, Nat.zero_le _⟩ dX4_allows_16) cx.2.2.1 hP hD hS [] rfl rfl (fun r12 H locs hw11 hP hS => ?_)
    have w13 : r12 = J_X0_letGo p2 := hw11
    clear hw11
    have zr12 := lg_b w13 (show 0 ≤ p2.toInt from by omega)
    have g2w := w13
    have g2e : r12.toInt = r2.toInt := by rw [g1w, g2w]
    refine g_ir (g_runS (wc := []) (rest := []) cx hP hD hS [] rfl (by decide) [.int p1, .int r12] (c_X3_lessYoungestFirst l D k b H.size p1 r12) gX4_allows_X3_lessYoungestFirst rfl rfl rfl nd_X3_lessYoungestFirst ⟨Nat.le_of_ble_eq_true rfl, Nat.le_of_ble_eq_true rfl⟩ rfl hl.1 rfl (Nat.le_of_ble_eq_true rfl) ⟨Nat.zero_le _, Nat.zero_le _⟩ dX4_allows_19) cx.2.2.1 hP hD hS [] rfl rfl (fun r15 H locs hw14 hP hS => ?_)
    have w16 : r15 = J_X3_lessYoungestFirst p1 r12 := hw14
    clear hw14
    have lw := w16
    have lt := less_t w16 hv ⟨by omega, by omega⟩
    refine lv_istore (lv' := [(4, .int r15), (0, .ref (qh 0)), (1, .int p0), (2, .int p1), (3, .int p2)]) hx hb dX4_allows_22 hl (by decide) rfl (fun ls hl => ?_)
    refine lv_iload_n hx hb dX4_allows_24 rfl (lv_at hl 4 rfl) ?_
    refine g_ir (g_runS (wc := []) (rest := []) cx hP hD hS [] rfl (by decide) [.int p2] (c_X0_taken l D k b H.size p2) gX4_allows_X0_taken rfl rfl rfl nd_X0_taken ⟨Nat.le_of_ble_eq_true rfl, Nat.le_of_ble_eq_true rfl⟩ rfl hl.1 rfl (Nat.le_of_ble_eq_true rfl) ⟨Nat.zero_le _, Nat.zero_le _⟩ dX4_allows_25) cx.2.2.1 hP hD hS [] rfl rfl (fun r18 H locs hw17 hP hS => ?_)
    have w19 : r18 = J_X0_taken p2 := hw17
    clear hw17
    have zr18 := tk_b w19 (show 0 ≤ p2.toInt from by omega)
    have t1w := w19
    refine lv_aload_n hx hb dX4_allows_28 rfl (lv_at hl 1 rfl) ?_
    refine lv_iload_n hx hb dX4_allows_29 rfl (lv_at hl 2 rfl) ?_
    refine lv_iload hx hb dX4_allows_30 (lv_at hl 0 rfl) ?_
    refine g_iF (w1 := fun (_ : Unit) => [cell32_ qh sh, cell0_ k qh sh, cell1_ k qh sh, cell4_ k qh sh, cell3_ k qh sh, cell2_ k qh sh]) (g_runVF (ws := [cell32_ qh sh, cell0_ k qh sh, cell1_ k qh sh, cell4_ k qh sh, cell3_ k qh sh, cell2_ k qh sh]) (rest := [.int r18]) cx hP hD hS [.int p0, .int r15] (c_X4_mostTaken l D k b qh sh H.size p0 r15 (show 0 ≤ (sh 0 1).toInt ∧ (sh 0 1).toInt ≤ 4 from by first | decide | omega) h_of (show 0 ≤ r15.toInt ∧ r15.toInt ≤ 400 ∧ tot r15 ≤ 4 from by first | decide | omega) (show 0 ≤ p0.toInt ∧ p0.toInt ≤ 4 from by first | decide | omega)) gX4_allows_X4_mostTaken rfl rfl rfl nd_X4_mostTaken ⟨Nat.le_of_ble_eq_true rfl, Nat.le_of_ble_eq_true rfl⟩ (ci := 2) (q0 := 0) rfl rfl rfl hl.1 rfl (Nat.le_of_ble_eq_true rfl) ⟨Nat.zero_le _, Nat.zero_le _⟩ dX4_allows_32) cx.2.2.1 hD hS (fun r21 _ H locs hw20 hP hD hS => ?_)
    replace hw20 : (-4 ≤ r21.toInt ∧ r21.toInt ≤ 4 ∧ r21.toInt ≤ (sh 0 1).toInt - (tot r15)) ∧ ((sh 0 1).toInt < tot r15 ∨ 0 ≤ r21.toInt) ∧ (r21 = J_X4_mostTaken sh p0 r15) := hw20
    obtain ⟨w22, w23, w24⟩ := hw20
    have k26 : r21 = (J_X4_mostTaken sh p0 r15) := congrArg (fun z => z) w24
    refine lv_icmp_le (tgt := 40) hx hb dX4_allows_35 (by decide) (fun c27 => ?_) (fun c27 => ?_)
    · have f27 : r18.toInt ≤ r21.toInt := f_le rfl rfl c27
      refine lv_iload_n hx hb dX4_allows_40 rfl (lv_at hl 4 rfl) ?_
      refine g_ir (g_runS (wc := []) (rest := []) cx hP hD hS [] rfl (by decide) [.int p2] (c_X0_taught l D k b H.size p2) gX4_allows_X0_taught rfl rfl rfl nd_X0_taught ⟨Nat.le_of_ble_eq_true rfl, Nat.le_of_ble_eq_true rfl⟩ rfl hl.1 rfl (Nat.le_of_ble_eq_true rfl) ⟨Nat.zero_le _, Nat.zero_le _⟩ dX4_allows_41) cx.2.2.1 hP hD hS [] rfl rfl (fun r29 H locs hw28 hP hS => ?_)
      have w30 : r29 = J_X0_taught p2 := hw28
      clear hw28
      have zr29 := tg_b w30 (show 0 ≤ p2.toInt from by omega)
      have tgw := w30
      refine lv_aload_n hx hb dX4_allows_44 rfl (lv_at hl 1 rfl) ?_
      refine lv_iload hx hb dX4_allows_45 (lv_at hl 0 rfl) ?_
      refine lv_bipush (v := 100) hx hb dX4_allows_47 (by decide) ?_
      refine lv_iload_n hx hb dX4_allows_49 rfl (lv_at hl 4 rfl) ?_
      refine g_ir (g_runS (wc := []) (rest := [.int 100, .int r15, .ref (qh 0), .int r29]) cx hP hD hS [] rfl (by decide) [.int p2] (c_X0_taken l D k b H.size p2) gX4_allows_X0_taken rfl rfl rfl nd_X0_taken ⟨Nat.le_of_ble_eq_true rfl, Nat.le_of_ble_eq_true rfl⟩ rfl hl.1 rfl (Nat.le_of_ble_eq_true rfl) ⟨Nat.zero_le _, Nat.zero_le _⟩ dX4_allows_50) cx.2.2.1 hP hD hS [] rfl rfl (fun r32 H locs hw31 hP hS => ?_)
      have w33 : r32 = J_X0_taken p2 := hw31
      clear hw31
      have zr32 := tk_b w33 (show 0 ≤ p2.toInt from by omega)
      have t2e : r32.toInt = r18.toInt := by rw [t1w, w33]
      refine lv_imul hx hb dX4_allows_53 (lv_topi (fun v34 e34 => ?_))
      have t34 : v34.toInt = 100 * r32.toInt := by rw [e34]; exact i_mul (by decide) rfl (by omega) (by omega)
      refine lv_iadd hx hb dX4_allows_54 (lv_topi (fun v35 e35 => ?_))
      have t35 : v35.toInt = r15.toInt + v34.toInt := by rw [e35]; exact i_add rfl rfl (by omega) (by omega)
      refine g_iF (w1 := fun (_ : Unit) => [cell32_ qh sh, cell0_ k qh sh, cell1_ k qh sh, cell4_ k qh sh, cell3_ k qh sh, cell2_ k qh sh]) (g_runVF (ws := [cell32_ qh sh, cell0_ k qh sh, cell1_ k qh sh, cell4_ k qh sh, cell3_ k qh sh, cell2_ k qh sh]) (rest := [.int r29]) cx hP hD hS [.int v35] (c_X4_mostTaught l D k b qh sh H.size v35 (show 0 ≤ v35.toInt ∧ v35.toInt ≤ 9999 from by first | decide | omega)) gX4_allows_X4_mostTaught rfl rfl rfl nd_X4_mostTaught ⟨Nat.le_of_ble_eq_true rfl, Nat.le_of_ble_eq_true rfl⟩ (ci := 2) (q0 := 0) rfl rfl rfl hl.1 rfl (Nat.le_of_ble_eq_true rfl) ⟨Nat.zero_le _, Nat.zero_le _⟩ dX4_allows_55) cx.2.2.1 hD hS (fun r37 _ H locs hw36 hP hD hS => ?_)
      replace hw36 : (r37.toInt = 0 ∨ (r37.toInt = 1 ∧ 0 < v35.toInt / 100)) ∧ (r37 = J_X4_mostTaught sh v35) := hw36
      obtain ⟨w38, w39⟩ := hw36
      have k41 : r37 = (J_X4_mostTaught sh v35) := congrArg (fun z => z) w39
      refine lv_icmp_gt (tgt := 77) hx hb dX4_allows_58 (by decide) (fun c42 => ?_) (fun c42 => ?_)
      · have f42 : r37.toInt < r29.toInt := f_lt rfl rfl c42
        refine lv_iconst (v := 0) hx hb dX4_allows_77 (by decide) ?_
        have hlit43 : (0 : Int32).toInt = 0 := by decide
        rw [hQ]
        exact x_z cx hr (by decide) () hP hD hS ⟨(show 0 ≤ (0 : Int32).toInt ∧ (0 : Int32).toInt ≤ 1 from by omega), (show Imp ((0 : Int32).toInt = 1) (0 ≤ (J_X0_done p1 p2).toInt ∧ (J_X0_done p1 p2).toInt ≤ 400 ∧ tot (J_X0_done p1 p2) ≤ 4) from fun h => by first | exact absurd h (by decide) | exact dn.1), (show (0 : Int32) = J_X4_allows sh p0 p1 p2 from by subst w3 k9 w13 w16 w19 k26 w30 w33 e34 e35 k41; first | (refine Eq.symm ?_; refine Eq.trans (if_pos c10) ?_; refine Eq.trans (if_pos c27) ?_; refine Eq.trans (if_pos c42) ?_; rfl) | (unfold J_X4_allows; try dsimp only; rw [if_pos c10, if_pos c27, if_pos c42]))⟩ dX4_allows_78
      · have f42 : r29.toInt ≤ r37.toInt := f_nlt rfl rfl c42
        refine lv_iload_n hx hb dX4_allows_61 rfl (lv_at hl 4 rfl) ?_
        refine g_ir (g_runS (wc := []) (rest := []) cx hP hD hS [] rfl (by decide) [.int p2] (c_X0_ordered l D k b H.size p2) gX4_allows_X0_ordered rfl rfl rfl nd_X0_ordered ⟨Nat.le_of_ble_eq_true rfl, Nat.le_of_ble_eq_true rfl⟩ rfl hl.1 rfl (Nat.le_of_ble_eq_true rfl) ⟨Nat.zero_le _, Nat.zero_le _⟩ dX4_allows_62) cx.2.2.1 hP hD hS [] rfl rfl (fun r45 H locs hw44 hP hS => ?_)
        have w46 : r45 = J_X0_ordered p2 := hw44
        clear hw44
        have zr45 := or_b w46 (show 0 ≤ p2.toInt from by omega)
        refine lv_aload_n hx hb dX4_allows_65 rfl (lv_at hl 1 rfl) ?_
        refine lv_iload_n hx hb dX4_allows_66 rfl (lv_at hl 2 rfl) ?_
        refine g_iF (w1 := fun (_ : Unit) => [cell32_ qh sh, cell0_ k qh sh, cell1_ k qh sh, cell4_ k qh sh, cell3_ k qh sh, cell2_ k qh sh]) (g_runVF (ws := [cell32_ qh sh, cell0_ k qh sh, cell1_ k qh sh, cell4_ k qh sh, cell3_ k qh sh, cell2_ k qh sh]) (rest := [.int r45]) cx hP hD hS [.int p0] (c_X4_mostOrdered l D k b qh sh H.size p0 (show 0 ≤ (sh 0 0).toInt ∧ (sh 0 0).toInt ≤ 5 from by first | decide | omega)) gX4_allows_X4_mostOrdered rfl rfl rfl nd_X4_mostOrdered ⟨Nat.le_of_ble_eq_true rfl, Nat.le_of_ble_eq_true rfl⟩ (ci := 2) (q0 := 0) rfl rfl rfl hl.1 rfl (Nat.le_of_ble_eq_true rfl) ⟨Nat.zero_le _, Nat.zero_le _⟩ dX4_allows_67) cx.2.2.1 hD hS (fun r48 _ H locs hw47 hP hD hS => ?_)
        replace hw47 : (0 ≤ r48.toInt ∧ r48.toInt ≤ 2) ∧ (r48 = J_X4_mostOrdered sh p0) := hw47
        obtain ⟨w49, w50⟩ := hw47
        have k52 : r48 = (J_X4_mostOrdered sh p0) := congrArg (fun z => z) w50
        refine lv_icmp_gt (tgt := 77) hx hb dX4_allows_70 (by decide) (fun c53 => ?_) (fun c53 => ?_)
        · have f53 : r48.toInt < r45.toInt := f_lt rfl rfl c53
          refine lv_iconst (v := 0) hx hb dX4_allows_77 (by decide) ?_
          have hlit54 : (0 : Int32).toInt = 0 := by decide
          rw [hQ]
          exact x_z cx hr (by decide) () hP hD hS ⟨(show 0 ≤ (0 : Int32).toInt ∧ (0 : Int32).toInt ≤ 1 from by omega), (show Imp ((0 : Int32).toInt = 1) (0 ≤ (J_X0_done p1 p2).toInt ∧ (J_X0_done p1 p2).toInt ≤ 400 ∧ tot (J_X0_done p1 p2) ≤ 4) from fun h => by first | exact absurd h (by decide) | exact dn.1), (show (0 : Int32) = J_X4_allows sh p0 p1 p2 from by subst w3 k9 w13 w16 w19 k26 w30 w33 e34 e35 k41 w46 k52; first | (refine Eq.symm ?_; refine Eq.trans (if_pos c10) ?_; refine Eq.trans (if_pos c27) ?_; refine Eq.trans (if_neg c42) ?_; refine Eq.trans (if_pos c53) ?_; rfl) | (unfold J_X4_allows; try dsimp only; rw [if_pos c10, if_pos c27, if_neg c42, if_pos c53]))⟩ dX4_allows_78
        · have f53 : r45.toInt ≤ r48.toInt := f_nlt rfl rfl c53
          have dn := done_t (X := v35.toInt) (hook := (sh 0 1).toInt) hv g2w t1w tgw lw (by omega) (by omega) (by omega) (by omega) (by omega) (by omega) (by omega) (Eq.refl (J_X0_done p1 p2))
          refine lv_iconst (v := 1) hx hb dX4_allows_73 (by decide) ?_
          refine lv_goto (tgt := 78) hx hb dX4_allows_74 (by decide) ?_
          have hlit55 : (1 : Int32).toInt = 1 := by decide
          rw [hQ]
          exact x_z cx hr (by decide) () hP hD hS ⟨(show 0 ≤ (1 : Int32).toInt ∧ (1 : Int32).toInt ≤ 1 from by omega), (show Imp ((1 : Int32).toInt = 1) (0 ≤ (J_X0_done p1 p2).toInt ∧ (J_X0_done p1 p2).toInt ≤ 400 ∧ tot (J_X0_done p1 p2) ≤ 4) from fun h => by first | exact absurd h (by decide) | exact dn.1), (show (1 : Int32) = J_X4_allows sh p0 p1 p2 from by subst w3 k9 w13 w16 w19 k26 w30 w33 e34 e35 k41 w46 k52; first | (refine Eq.symm ?_; refine Eq.trans (if_pos c10) ?_; refine Eq.trans (if_pos c27) ?_; refine Eq.trans (if_neg c42) ?_; refine Eq.trans (if_neg c53) ?_; rfl) | (unfold J_X4_allows; try dsimp only; rw [if_pos c10, if_pos c27, if_neg c42, if_neg c53]))⟩ dX4_allows_78
    · have f27 : r21.toInt < r18.toInt := f_nle rfl rfl c27
      refine lv_iconst (v := 0) hx hb dX4_allows_38 (by decide) ?_
      have hlit56 : (0 : Int32).toInt = 0 := by decide
      rw [hQ]
      exact x_z cx hr (by decide) () hP hD hS ⟨(show 0 ≤ (0 : Int32).toInt ∧ (0 : Int32).toInt ≤ 1 from by omega), (show Imp ((0 : Int32).toInt = 1) (0 ≤ (J_X0_done p1 p2).toInt ∧ (J_X0_done p1 p2).toInt ≤ 400 ∧ tot (J_X0_done p1 p2) ≤ 4) from fun h => absurd h (by decide)), (show (0 : Int32) = J_X4_allows sh p0 p1 p2 from by subst w3 k9 w13 w16 w19 k26; first | (refine Eq.symm ?_; refine Eq.trans (if_pos c10) ?_; refine Eq.trans (if_neg c27) ?_; rfl) | (unfold J_X4_allows; try dsimp only; rw [if_pos c10, if_neg c27]))⟩ dX4_allows_39
  · have f10 : r5.toInt < r2.toInt := f_nle rfl rfl c10
    refine lv_iconst (v := 0) hx hb dX4_allows_12 (by decide) ?_
    have hlit57 : (0 : Int32).toInt = 0 := by decide
    rw [hQ]
    exact x_z cx hr (by decide) () hP hD hS ⟨(show 0 ≤ (0 : Int32).toInt ∧ (0 : Int32).toInt ≤ 1 from by omega), (show Imp ((0 : Int32).toInt = 1) (0 ≤ (J_X0_done p1 p2).toInt ∧ (J_X0_done p1 p2).toInt ≤ 400 ∧ tot (J_X0_done p1 p2) ≤ 4) from fun h => absurd h (by decide)), (show (0 : Int32) = J_X4_allows sh p0 p1 p2 from by subst w3 k9; first | (refine Eq.symm ?_; refine Eq.trans (if_neg c10) ?_; rfl) | (unfold J_X4_allows; try dsimp only; rw [if_neg c10]))⟩ dX4_allows_13
theorem mw_X4_takenByLevel_maxL97 : Cond.methodLink RX4 97 Lib.Math.max.name ∈ wsX4_takenByLevel := by decide +kernel
theorem mw_X4_takenByLevel_maxS : Cond.static Lib.Math.max.name ∈ wsX4_takenByLevel := by decide +kernel
theorem mw_X4_takenByLevel_maxI : Cond.initialized "java/lang/Math" ∈ wsX4_takenByLevel := by decide +kernel
theorem mw_X4_takenByLevel_maxC : Cond.code Lib.Math.max.name Lib.Math.max.code 2 (some .int) ∈ wsX4_takenByLevel := by decide +kernel
theorem mw_X4_takenByLevel_minL127 : Cond.methodLink RX4 127 Lib.Math.min.name ∈ wsX4_takenByLevel := by decide +kernel
theorem mw_X4_takenByLevel_minS : Cond.static Lib.Math.min.name ∈ wsX4_takenByLevel := by decide +kernel
theorem mw_X4_takenByLevel_minI : Cond.initialized "java/lang/Math" ∈ wsX4_takenByLevel := by decide +kernel
theorem mw_X4_takenByLevel_minC : Cond.code Lib.Math.min.name Lib.Math.min.code 2 (some .int) ∈ wsX4_takenByLevel := by decide +kernel
def J_X4_takenByLevel (sh : Nat → Nat → Int32) (p0 : Int32) (p1 : Int32) (p2 : Int32) : Int32 := let y6 := J_X4_mostTaken sh p0 p1; (if (if 0 < (p2 - (J_X3_total p1)) then (p2 - (J_X3_total p1)) else 0) < y6 then (if 0 < (p2 - (J_X3_total p1)) then (p2 - (J_X3_total p1)) else 0) else y6)
set_option maxHeartbeats 4000000 in
set_option maxRecDepth 100000 in
theorem c_X4_takenByLevel (l : Launch) (D : va_G) (k : Nat → ClassId) (b : Nat → Nat) (qh : Nat → Nat) (sh : Nat → Nat → Int32) (sz : Nat) (p0 : Int32) (p1 : Int32) (p2 : Int32) (h_hk : 0 ≤ (sh 0 1).toInt ∧ (sh 0 1).toInt ≤ 4) (h_of : ∀ j, 0 ≤ (sh 2 j).toInt ∧ (sh 2 j).toInt ≤ 4) (hv : 0 ≤ p1.toInt ∧ p1.toInt ≤ 400 ∧ tot p1 ≤ 4) (ht : tot p1 ≤ (sh 0 1).toInt) (hp0 : 0 ≤ p0.toInt ∧ p0.toInt ≤ 4) : MetI l D k b yX4_takenByLevel wsX4_takenByLevel ({ frames := 2, cells := 0, slots := 0, locals := 43 } : Room) [cell32_ qh sh, cell0_ k qh sh, cell1_ k qh sh, cell4_ k qh sh, cell3_ k qh sh, cell2_ k qh sh] sz [.ref (qh 0), .int p0, .int p1, .int p2] (fun (r : Int32) (u : Unit) => (0 ≤ r.toInt ∧ r.toInt ≤ 4 ∧ r.toInt ≤ (sh 0 1).toInt - (tot p1)) ∧ (r = J_X4_takenByLevel sh p0 p1 p2)) (fun u => [cell32_ qh sh, cell0_ k qh sh, cell1_ k qh sh, cell4_ k qh sh, cell3_ k qh sh, cell2_ k qh sh]) := by
  refine g_enter (cc := cX4_takenByLevel) (maxL := 4) (ret := (some .int)) (by decide) rfl (Nat.le_of_ble_eq_true rfl) ?_
  intro p e s m below meth c A hsz hAe cx hr hP hD hS ls hl
  rw [hAe]
  refine g_q (fun Q hQ => ?_)
  have hx := cx.1.1
  have hb := cx.1.2.1
  have bp0 := i_rng p0
  have bp1 := i_rng p1
  have bp2 := i_rng p2
  have hl : lv_has ls 4 [(0, .ref (qh 0)), (1, .int p0), (2, .int p1), (3, .int p2)] := hl
  obtain ⟨H, eH⟩ : ∃ H : Heap, H = s.heap := ⟨_, rfl⟩
  obtain ⟨locs, el⟩ : ∃ L : List Loc, L = [] := ⟨_, rfl⟩
  have hP : va_P D vwCl [cell32_ qh sh, cell0_ k qh sh, cell1_ k qh sh, cell4_ k qh sh, cell3_ k qh sh, cell2_ k qh sh] H := by rw [eH]; exact hP
  have hD : va_D A [cell32_ qh sh, cell0_ k qh sh, cell1_ k qh sh, cell4_ k qh sh, cell3_ k qh sh, cell2_ k qh sh] := hD
  have hS : va_S A s.heap H locs := by rw [eH, el]; exact hS
  suffices goal : W p l e ({ frames := 2, cells := 0, slots := 0, locals := 43 } : Room) s m ([.ref (qh 0), .int p0, .int p1, .int p2] : List Value).toArray below meth c H locs 0 0 Q (F0 m 0 ls []) by rw [eH, el] at goal; exact goal
  refine lv_aload_n hx hb dX4_takenByLevel_0 rfl (lv_at hl 0 rfl) ?_
  refine lv_iload_n hx hb dX4_takenByLevel_1 rfl (lv_at hl 1 rfl) ?_
  refine lv_iload_n hx hb dX4_takenByLevel_2 rfl (lv_at hl 2 rfl) ?_
  refine g_iF (w1 := fun (_ : Unit) => [cell32_ qh sh, cell0_ k qh sh, cell1_ k qh sh, cell4_ k qh sh, cell3_ k qh sh, cell2_ k qh sh]) (g_runVF (ws := [cell32_ qh sh, cell0_ k qh sh, cell1_ k qh sh, cell4_ k qh sh, cell3_ k qh sh, cell2_ k qh sh]) (rest := []) cx hP hD hS [.int p0, .int p1] (c_X4_mostTaken l D k b qh sh H.size p0 p1 (show 0 ≤ (sh 0 1).toInt ∧ (sh 0 1).toInt ≤ 4 from by first | decide | omega) h_of (show 0 ≤ p1.toInt ∧ p1.toInt ≤ 400 ∧ tot p1 ≤ 4 from by first | decide | omega) (show 0 ≤ p0.toInt ∧ p0.toInt ≤ 4 from by first | decide | omega)) gX4_takenByLevel_X4_mostTaken rfl rfl rfl nd_X4_mostTaken ⟨Nat.le_of_ble_eq_true rfl, Nat.le_of_ble_eq_true rfl⟩ (ci := 2) (q0 := 0) rfl rfl rfl hl.1 rfl (Nat.le_of_ble_eq_true rfl) ⟨Nat.zero_le _, Nat.zero_le _⟩ dX4_takenByLevel_3) cx.2.2.1 hD hS (fun r2 _ H locs hw1 hP hD hS => ?_)
  replace hw1 : (-4 ≤ r2.toInt ∧ r2.toInt ≤ 4 ∧ r2.toInt ≤ (sh 0 1).toInt - (tot p1)) ∧ ((sh 0 1).toInt < tot p1 ∨ 0 ≤ r2.toInt) ∧ (r2 = J_X4_mostTaken sh p0 p1) := hw1
  obtain ⟨w3, w4, w5⟩ := hw1
  have k7 : r2 = (J_X4_mostTaken sh p0 p1) := congrArg (fun z => z) w5
  refine lv_iconst (v := 0) hx hb dX4_takenByLevel_6 (by decide) ?_
  refine lv_iload_n hx hb dX4_takenByLevel_7 rfl (lv_at hl 3 rfl) ?_
  refine lv_iload_n hx hb dX4_takenByLevel_8 rfl (lv_at hl 2 rfl) ?_
  refine g_ir (g_runS (wc := []) (rest := [.int p2, .int 0, .int r2]) cx hP hD hS [] rfl (by decide) [.int p1] (c_X3_total l D k b H.size p1) gX4_takenByLevel_X3_total rfl rfl rfl nd_X3_total ⟨Nat.le_of_ble_eq_true rfl, Nat.le_of_ble_eq_true rfl⟩ rfl hl.1 rfl (Nat.le_of_ble_eq_true rfl) ⟨Nat.zero_le _, Nat.zero_le _⟩ dX4_takenByLevel_9) cx.2.2.1 hP hD hS [] rfl rfl (fun r9 H locs hw8 hP hS => ?_)
  have w10 : r9 = J_X3_total p1 := hw8
  clear hw8
  have zr9 : r9.toInt = tot p1 := tot3 w10 (show 0 ≤ p1.toInt from by first | decide | omega)
  have yr9 := tot_0 (x := p1) (by first | decide | omega)
  refine lv_isub hx hb dX4_takenByLevel_12 (lv_topi (fun v11 e11 => ?_))
  refine va_mmax hx hb (cx.1.2.2.1.trans hl.1.symm) cx.1.2.2.2.1 (cx.1.2.2.2.2 _ mw_X4_takenByLevel_maxL97) (cx.1.2.2.2.2 _ mw_X4_takenByLevel_maxS) (cx.1.2.2.2.2 _ mw_X4_takenByLevel_maxI) (cx.1.2.2.2.2 _ mw_X4_takenByLevel_maxC) (Nat.le_of_ble_eq_true rfl) (Nat.le_of_ble_eq_true rfl) (Nat.zero_le _) (Nat.zero_le _) dX4_takenByLevel_13 (lv_topi (fun v12 e12 => ?_))
  have t12 := i_max (by decide) rfl (a := 0) (b := v11.toInt) e12
  refine va_mmin hx hb (cx.1.2.2.1.trans hl.1.symm) cx.1.2.2.2.1 (cx.1.2.2.2.2 _ mw_X4_takenByLevel_minL127) (cx.1.2.2.2.2 _ mw_X4_takenByLevel_minS) (cx.1.2.2.2.2 _ mw_X4_takenByLevel_minI) (cx.1.2.2.2.2 _ mw_X4_takenByLevel_minC) (Nat.le_of_ble_eq_true rfl) (Nat.le_of_ble_eq_true rfl) (Nat.zero_le _) (Nat.zero_le _) dX4_takenByLevel_16 (lv_topi (fun v13 e13 => ?_))
  have t13 := i_min rfl rfl (a := r2.toInt) (b := v12.toInt) e13
  rw [hQ]
  exact x_i cx hr () hP hD hS ⟨(show 0 ≤ v13.toInt ∧ v13.toInt ≤ 4 ∧ v13.toInt ≤ (sh 0 1).toInt - (tot p1) from by omega), (show v13 = J_X4_takenByLevel sh p0 p1 p2 from by subst k7 w10 e11 e12 e13; rfl)⟩ dX4_takenByLevel_19
theorem fw_X4_lack_21 : Cond.fieldLink RX4 21 "StillInAugust$House" "does" "[I" ∈ wsX4_lack := by decide +kernel
theorem fw_X4_lack_9 : Cond.fieldLink RX4 9 "StillInAugust$House" "wants" "[I" ∈ wsX4_lack := by decide +kernel
theorem iw_X4_lack_X4 : ∀ w ∈ u_ws RX4 TX4 14, w ∈ wsX4_lack := fun _ h => List.mem_cons_of_mem _ (List.mem_append_right _ h)
def J_X4_lack (sh : Nat → Nat → Int32) (p0 : Int32) (p1 : Int32) (p2 : Int32) (p3 : Int32) : Int32 := (((((sh 1) (p0).toNatClampNeg) - (((sh 4) (0 : Int32).toNatClampNeg) * (p1 / (100 : Int32)))) - (((sh 4) (1 : Int32).toNatClampNeg) * ((p1 / (10 : Int32)) - (p1 / (10 : Int32)) / (10 : Int32) * (10 : Int32)))) - (((sh 4) (2 : Int32).toNatClampNeg) * (((p1 - p1 / (10 : Int32) * (10 : Int32)) + p2) - p3)))
set_option maxHeartbeats 4000000 in
set_option maxRecDepth 100000 in
theorem c_X4_lack (l : Launch) (D : va_G) (k : Nat → ClassId) (b : Nat → Nat) (qh : Nat → Nat) (sh : Nat → Nat → Int32) (sz : Nat) (p0 : Int32) (p1 : Int32) (p2 : Int32) (p3 : Int32) (hp0 : 0 ≤ p0.toInt ∧ p0.toInt ≤ 4) : MetI l D k b yX4_lack wsX4_lack ({ frames := 0, cells := 0, slots := 0, locals := 0 } : Room) [cell32_ qh sh, cell0_ k qh sh, cell1_ k qh sh, cell4_ k qh sh, cell3_ k qh sh, cell2_ k qh sh] sz [.ref (qh 0), .int p0, .int p1, .int p2, .int p3] (fun (r : Int32) (u : Unit) => r = J_X4_lack sh p0 p1 p2 p3) (fun u => [cell32_ qh sh, cell0_ k qh sh, cell1_ k qh sh, cell4_ k qh sh, cell3_ k qh sh, cell2_ k qh sh]) := by
  refine g_enter (cc := cX4_lack) (maxL := 6) (ret := (some .int)) (by decide) rfl (Nat.le_of_ble_eq_true rfl) ?_
  intro p e s m below meth c A hsz hAe cx hr hP hD hS ls hl
  rw [hAe]
  refine g_q (fun Q hQ => ?_)
  have hx := cx.1.1
  have hb := cx.1.2.1
  have bp0 := i_rng p0
  have bp1 := i_rng p1
  have bp2 := i_rng p2
  have bp3 := i_rng p3
  have hl : lv_has ls 6 [(0, .ref (qh 0)), (1, .int p0), (2, .int p1), (3, .int p2), (4, .int p3)] := hl
  obtain ⟨H, eH⟩ : ∃ H : Heap, H = s.heap := ⟨_, rfl⟩
  obtain ⟨locs, el⟩ : ∃ L : List Loc, L = [] := ⟨_, rfl⟩
  have hP : va_P D vwCl [cell32_ qh sh, cell0_ k qh sh, cell1_ k qh sh, cell4_ k qh sh, cell3_ k qh sh, cell2_ k qh sh] H := by rw [eH]; exact hP
  have hD : va_D A [cell32_ qh sh, cell0_ k qh sh, cell1_ k qh sh, cell4_ k qh sh, cell3_ k qh sh, cell2_ k qh sh] := hD
  have hS : va_S A s.heap H locs := by rw [eH, el]; exact hS
  suffices goal : W p l e ({ frames := 0, cells := 0, slots := 0, locals := 0 } : Room) s m ([.ref (qh 0), .int p0, .int p1, .int p2, .int p3] : List Value).toArray below meth c H locs 0 0 Q (F0 m 0 ls []) by rw [eH, el] at goal; exact goal
  refine lv_iload_n hx hb dX4_lack_0 rfl (lv_at hl 2 rfl) ?_
  refine lv_bipush (v := 10) hx hb dX4_lack_1 (by decide) ?_
  refine lv_irem hx hb dX4_lack_3 (by decide) (lv_topi (fun v1 e1 => ?_))
  have t1 : -10 < v1.toInt ∧ v1.toInt < 10 := by rw [e1]; exact i_remb (by decide) (by decide)
  refine lv_iload_n hx hb dX4_lack_4 rfl (lv_at hl 3 rfl) ?_
  refine lv_iadd hx hb dX4_lack_5 (lv_topi (fun v2 e2 => ?_))
  refine lv_iload hx hb dX4_lack_6 (lv_at hl 4 rfl) ?_
  refine lv_isub hx hb dX4_lack_8 (lv_topi (fun v3 e3 => ?_))
  refine lv_istore (lv' := [(5, .int v3), (0, .ref (qh 0)), (1, .int p0), (2, .int p1), (3, .int p2), (4, .int p3)]) hx hb dX4_lack_9 hl (by decide) rfl (fun ls hl => ?_)
  refine lv_aload_n hx hb dX4_lack_11 rfl (lv_at hl 1 rfl) ?_
  refine g_get cx hP iw_X4_lack_X4 0 rfl rfl 2 (by decide) rfl fw_X4_lack_9 rfl dX4_lack_12 ?_
  refine lv_iload_n hx hb dX4_lack_15 rfl (lv_at hl 2 rfl) ?_
  have hn4 : vp_in p0 5 := f_in (a := p0.toInt) rfl (by omega) (by omega)
  refine va_iald hx hb cx.2.1 hP 1 0 rfl rfl hn4 dX4_lack_16 (lv_topi (fun v5 e5 => ?_))
  refine lv_aload_n hx hb dX4_lack_17 rfl (lv_at hl 1 rfl) ?_
  refine g_get cx hP iw_X4_lack_X4 0 rfl rfl 5 (by decide) rfl fw_X4_lack_21 rfl dX4_lack_18 ?_
  refine lv_iconst (v := 0) hx hb dX4_lack_21 (by decide) ?_
  have hn6 : vp_in 0 3 := f_in (a := 0) (by decide) (by omega) (by omega)
  refine va_iald hx hb cx.2.1 hP 4 0 rfl rfl hn6 dX4_lack_22 (lv_topi (fun v7 e7 => ?_))
  have uv7 : v7.toInt = ((sh 4) 0).toInt := congrArg Int32.toInt e7
  refine lv_iload_n hx hb dX4_lack_23 rfl (lv_at hl 3 rfl) ?_
  refine lv_bipush (v := 100) hx hb dX4_lack_24 (by decide) ?_
  refine lv_idiv hx hb dX4_lack_26 (by decide) (lv_topi (fun v8 e8 => ?_))
  refine lv_imul hx hb dX4_lack_27 (lv_topi (fun v9 e9 => ?_))
  refine lv_isub hx hb dX4_lack_28 (lv_topi (fun v10 e10 => ?_))
  refine lv_aload_n hx hb dX4_lack_29 rfl (lv_at hl 1 rfl) ?_
  refine g_get cx hP iw_X4_lack_X4 0 rfl rfl 5 (by decide) rfl fw_X4_lack_21 rfl dX4_lack_30 ?_
  refine lv_iconst (v := 1) hx hb dX4_lack_33 (by decide) ?_
  have hn11 : vp_in 1 3 := f_in (a := 1) (by decide) (by omega) (by omega)
  refine va_iald hx hb cx.2.1 hP 4 0 rfl rfl hn11 dX4_lack_34 (lv_topi (fun v12 e12 => ?_))
  have uv12 : v12.toInt = ((sh 4) 1).toInt := congrArg Int32.toInt e12
  refine lv_iload_n hx hb dX4_lack_35 rfl (lv_at hl 3 rfl) ?_
  refine lv_bipush (v := 10) hx hb dX4_lack_36 (by decide) ?_
  refine lv_idiv hx hb dX4_lack_38 (by decide) (lv_topi (fun v13 e13 => ?_))
  refine lv_bipush (v := 10) hx hb dX4_lack_39 (by decide) ?_
  refine lv_irem hx hb dX4_lack_41 (by decide) (lv_topi (fun v14 e14 => ?_))
  have t14 : -10 < v14.toInt ∧ v14.toInt < 10 := by rw [e14]; exact i_remb (by decide) (by decide)
  refine lv_imul hx hb dX4_lack_42 (lv_topi (fun v15 e15 => ?_))
  refine lv_isub hx hb dX4_lack_43 (lv_topi (fun v16 e16 => ?_))
  refine lv_aload_n hx hb dX4_lack_44 rfl (lv_at hl 1 rfl) ?_
  refine g_get cx hP iw_X4_lack_X4 0 rfl rfl 5 (by decide) rfl fw_X4_lack_21 rfl dX4_lack_45 ?_
  refine lv_iconst (v := 2) hx hb dX4_lack_48 (by decide) ?_
  have hn17 : vp_in 2 3 := f_in (a := 2) (by decide) (by omega) (by omega)
  refine va_iald hx hb cx.2.1 hP 4 0 rfl rfl hn17 dX4_lack_49 (lv_topi (fun v18 e18 => ?_))
  have uv18 : v18.toInt = ((sh 4) 2).toInt := congrArg Int32.toInt e18
  refine lv_iload hx hb dX4_lack_50 (lv_at hl 0 rfl) ?_
  refine lv_imul hx hb dX4_lack_52 (lv_topi (fun v19 e19 => ?_))
  refine lv_isub hx hb dX4_lack_53 (lv_topi (fun v20 e20 => ?_))
  rw [hQ]
  exact x_i cx hr () hP hD hS (show v20 = J_X4_lack sh p0 p1 p2 p3 from by subst e1 e2 e3 e5 e7 e8 e9 e10 e12 e13 e14 e15 e16 e18 e19 e20; rfl) dX4_lack_54
theorem mw_X4_weekCost_maxL97 : Cond.methodLink RX4 97 Lib.Math.max.name ∈ wsX4_weekCost := by decide +kernel
theorem mw_X4_weekCost_maxS : Cond.static Lib.Math.max.name ∈ wsX4_weekCost := by decide +kernel
theorem mw_X4_weekCost_maxI : Cond.initialized "java/lang/Math" ∈ wsX4_weekCost := by decide +kernel
theorem mw_X4_weekCost_maxC : Cond.code Lib.Math.max.name Lib.Math.max.code 2 (some .int) ∈ wsX4_weekCost := by decide +kernel
theorem fw_X4_weekCost_45 : Cond.fieldLink RX4 45 "StillInAugust$House" "pay" "I" ∈ wsX4_weekCost := by decide +kernel
theorem fw_X4_weekCost_48 : Cond.fieldLink RX4 48 "StillInAugust$House" "shortPrice" "I" ∈ wsX4_weekCost := by decide +kernel
theorem fw_X4_weekCost_51 : Cond.fieldLink RX4 51 "StillInAugust$House" "letGoPrice" "I" ∈ wsX4_weekCost := by decide +kernel
theorem fw_X4_weekCost_54 : Cond.fieldLink RX4 54 "StillInAugust$House" "teachPrice" "I" ∈ wsX4_weekCost := by decide +kernel
theorem fw_X4_weekCost_57 : Cond.fieldLink RX4 57 "StillInAugust$House" "agencyPrice" "I" ∈ wsX4_weekCost := by decide +kernel
theorem nd_X4_lack : yX4_lack.cls = RX4 ∧ yX4_lack.cls ≠ "java/lang/invoke/MethodHandle" ∧ yX4_lack.cls ≠ "java/lang/invoke/VarHandle" ∧ (parseMethodDescriptor yX4_lack.desc).map (fun d => d.parameters.length) = some 4 := by decide +kernel
theorem iw_X4_weekCost_X4 : ∀ w ∈ u_ws RX4 TX4 14, w ∈ wsX4_weekCost := fun _ h => List.mem_cons_of_mem _ (List.mem_append_right _ h)
def J_X4_weekCost (sh : Nat → Nat → Int32) (p0 : Int32) (p1 : Int32) (p2 : Int32) (p3 : Int32) : Int32 := let y11 := J_X4_lack sh p0 p1 p2 (J_X0_taught p3); if (sh 0 8) = (-9) then if (sh 0 9) = (-9) then if (sh 0 10) = (-9) then (((sh 0 6) * (J_X3_total p1)) + ((sh 0 7) * (if 0 < y11 then y11 else 0))) else ((((sh 0 6) * (J_X3_total p1)) + ((sh 0 7) * (if 0 < y11 then y11 else 0))) + ((sh 0 10) * p2)) else if (sh 0 10) = (-9) then ((((sh 0 6) * (J_X3_total p1)) + ((sh 0 7) * (if 0 < y11 then y11 else 0))) + ((sh 0 9) * (J_X0_taught p3))) else (((((sh 0 6) * (J_X3_total p1)) + ((sh 0 7) * (if 0 < y11 then y11 else 0))) + ((sh 0 9) * (J_X0_taught p3))) + ((sh 0 10) * p2)) else if (sh 0 9) = (-9) then if (sh 0 10) = (-9) then ((((sh 0 6) * (J_X3_total p1)) + ((sh 0 7) * (if 0 < y11 then y11 else 0))) + ((sh 0 8) * (J_X0_letGo p3))) else (((((sh 0 6) * (J_X3_total p1)) + ((sh 0 7) * (if 0 < y11 then y11 else 0))) + ((sh 0 8) * (J_X0_letGo p3))) + ((sh 0 10) * p2)) else if (sh 0 10) = (-9) then (((((sh 0 6) * (J_X3_total p1)) + ((sh 0 7) * (if 0 < y11 then y11 else 0))) + ((sh 0 8) * (J_X0_letGo p3))) + ((sh 0 9) * (J_X0_taught p3))) else ((((((sh 0 6) * (J_X3_total p1)) + ((sh 0 7) * (if 0 < y11 then y11 else 0))) + ((sh 0 8) * (J_X0_letGo p3))) + ((sh 0 9) * (J_X0_taught p3))) + ((sh 0 10) * p2))
set_option maxHeartbeats 4000000 in
set_option maxRecDepth 100000 in
theorem c_X4_weekCost (l : Launch) (D : va_G) (k : Nat → ClassId) (b : Nat → Nat) (qh : Nat → Nat) (sh : Nat → Nat → Int32) (sz : Nat) (p0 : Int32) (p1 : Int32) (p2 : Int32) (p3 : Int32) (hp0 : 0 ≤ p0.toInt ∧ p0.toInt ≤ 4) : MetI l D k b yX4_weekCost wsX4_weekCost ({ frames := 1, cells := 0, slots := 0, locals := 25 } : Room) [cell32_ qh sh, cell0_ k qh sh, cell1_ k qh sh, cell4_ k qh sh, cell3_ k qh sh, cell2_ k qh sh] sz [.ref (qh 0), .int p0, .int p1, .int p2, .int p3] (fun (r : Int32) (u : Unit) => r = J_X4_weekCost sh p0 p1 p2 p3) (fun u => [cell32_ qh sh, cell0_ k qh sh, cell1_ k qh sh, cell4_ k qh sh, cell3_ k qh sh, cell2_ k qh sh]) := by
  refine g_enter (cc := cX4_weekCost) (maxL := 7) (ret := (some .int)) (by decide) rfl (Nat.le_of_ble_eq_true rfl) ?_
  intro p e s m below meth c A hsz hAe cx hr hP hD hS ls hl
  rw [hAe]
  refine g_q (fun Q hQ => ?_)
  have hx := cx.1.1
  have hb := cx.1.2.1
  have bp0 := i_rng p0
  have bp1 := i_rng p1
  have bp2 := i_rng p2
  have bp3 := i_rng p3
  have hl : lv_has ls 7 [(0, .ref (qh 0)), (1, .int p0), (2, .int p1), (3, .int p2), (4, .int p3)] := hl
  obtain ⟨H, eH⟩ : ∃ H : Heap, H = s.heap := ⟨_, rfl⟩
  obtain ⟨locs, el⟩ : ∃ L : List Loc, L = [] := ⟨_, rfl⟩
  have hP : va_P D vwCl [cell32_ qh sh, cell0_ k qh sh, cell1_ k qh sh, cell4_ k qh sh, cell3_ k qh sh, cell2_ k qh sh] H := by rw [eH]; exact hP
  have hD : va_D A [cell32_ qh sh, cell0_ k qh sh, cell1_ k qh sh, cell4_ k qh sh, cell3_ k qh sh, cell2_ k qh sh] := hD
  have hS : va_S A s.heap H locs := by rw [eH, el]; exact hS
  suffices goal : W p l e ({ frames := 1, cells := 0, slots := 0, locals := 25 } : Room) s m ([.ref (qh 0), .int p0, .int p1, .int p2, .int p3] : List Value).toArray below meth c H locs 0 0 Q (F0 m 0 ls []) by rw [eH, el] at goal; exact goal
  refine lv_iload hx hb dX4_weekCost_0 (lv_at hl 4 rfl) ?_
  refine g_ir (g_runS (wc := []) (rest := []) cx hP hD hS [] rfl (by decide) [.int p3] (c_X0_taught l D k b H.size p3) gX4_weekCost_X0_taught rfl rfl rfl nd_X0_taught ⟨Nat.le_of_ble_eq_true rfl, Nat.le_of_ble_eq_true rfl⟩ rfl hl.1 rfl (Nat.le_of_ble_eq_true rfl) ⟨Nat.zero_le _, Nat.zero_le _⟩ dX4_weekCost_2) cx.2.2.1 hP hD hS [] rfl rfl (fun r2 H locs hw1 hP hS => ?_)
  have w3 : r2 = J_X0_taught p3 := hw1
  clear hw1
  refine lv_istore (lv' := [(5, .int r2), (0, .ref (qh 0)), (1, .int p0), (2, .int p1), (3, .int p2), (4, .int p3)]) hx hb dX4_weekCost_5 hl (by decide) rfl (fun ls hl => ?_)
  refine lv_aload_n hx hb dX4_weekCost_7 rfl (lv_at hl 1 rfl) ?_
  refine g_get cx hP iw_X4_weekCost_X4 0 rfl rfl 6 (by decide) rfl fw_X4_weekCost_45 rfl dX4_weekCost_8 ?_
  refine lv_iload_n hx hb dX4_weekCost_11 rfl (lv_at hl 3 rfl) ?_
  refine g_ir (g_runS (wc := []) (rest := [.int (sh 0 6)]) cx hP hD hS [] rfl (by decide) [.int p1] (c_X3_total l D k b H.size p1) gX4_weekCost_X3_total rfl rfl rfl nd_X3_total ⟨Nat.le_of_ble_eq_true rfl, Nat.le_of_ble_eq_true rfl⟩ rfl hl.1 rfl (Nat.le_of_ble_eq_true rfl) ⟨Nat.zero_le _, Nat.zero_le _⟩ dX4_weekCost_12) cx.2.2.1 hP hD hS [] rfl rfl (fun r5 H locs hw4 hP hS => ?_)
  have w6 : r5 = J_X3_total p1 := hw4
  clear hw4
  refine lv_imul hx hb dX4_weekCost_15 (lv_topi (fun v7 e7 => ?_))
  refine lv_aload_n hx hb dX4_weekCost_16 rfl (lv_at hl 1 rfl) ?_
  refine g_get cx hP iw_X4_weekCost_X4 0 rfl rfl 7 (by decide) rfl fw_X4_weekCost_48 rfl dX4_weekCost_17 ?_
  refine lv_iconst (v := 0) hx hb dX4_weekCost_20 (by decide) ?_
  refine lv_aload_n hx hb dX4_weekCost_21 rfl (lv_at hl 1 rfl) ?_
  refine lv_iload_n hx hb dX4_weekCost_22 rfl (lv_at hl 2 rfl) ?_
  refine lv_iload_n hx hb dX4_weekCost_23 rfl (lv_at hl 3 rfl) ?_
  refine lv_iload_n hx hb dX4_weekCost_24 rfl (lv_at hl 4 rfl) ?_
  refine lv_iload hx hb dX4_weekCost_25 (lv_at hl 0 rfl) ?_
  refine g_iF (w1 := fun (_ : Unit) => [cell32_ qh sh, cell0_ k qh sh, cell1_ k qh sh, cell4_ k qh sh, cell3_ k qh sh, cell2_ k qh sh]) (g_runVF (ws := [cell32_ qh sh, cell0_ k qh sh, cell1_ k qh sh, cell4_ k qh sh, cell3_ k qh sh, cell2_ k qh sh]) (rest := [.int 0, .int (sh 0 7), .int v7]) cx hP hD hS [.int p0, .int p1, .int p2, .int r2] (c_X4_lack l D k b qh sh H.size p0 p1 p2 r2 (show 0 ≤ p0.toInt ∧ p0.toInt ≤ 4 from by first | decide | omega)) gX4_weekCost_X4_lack rfl rfl rfl nd_X4_lack ⟨Nat.le_of_ble_eq_true rfl, Nat.le_of_ble_eq_true rfl⟩ (ci := 2) (q0 := 0) rfl rfl rfl hl.1 rfl (Nat.le_of_ble_eq_true rfl) ⟨Nat.zero_le _, Nat.zero_le _⟩ dX4_weekCost_27) cx.2.2.1 hD hS (fun r9 _ H locs hw8 hP hD hS => ?_)
  have w10 : r9 = J_X4_lack sh p0 p1 p2 r2 := hw8
  clear hw8
  have k12 : r9 = (J_X4_lack sh p0 p1 p2 r2) := congrArg (fun z => z) w10
  refine va_mmax hx hb (cx.1.2.2.1.trans hl.1.symm) cx.1.2.2.2.1 (cx.1.2.2.2.2 _ mw_X4_weekCost_maxL97) (cx.1.2.2.2.2 _ mw_X4_weekCost_maxS) (cx.1.2.2.2.2 _ mw_X4_weekCost_maxI) (cx.1.2.2.2.2 _ mw_X4_weekCost_maxC) (Nat.le_of_ble_eq_true rfl) (Nat.le_of_ble_eq_true rfl) (Nat.zero_le _) (Nat.zero_le _) dX4_weekCost_30 (lv_topi (fun v13 e13 => ?_))
  have t13 := i_max (by decide) rfl (a := 0) (b := r9.toInt) e13
  refine lv_imul hx hb dX4_weekCost_33 (lv_topi (fun v14 e14 => ?_))
  refine lv_iadd hx hb dX4_weekCost_34 (lv_topi (fun v15 e15 => ?_))
  refine lv_istore (lv' := [(6, .int v15), (5, .int r2), (0, .ref (qh 0)), (1, .int p0), (2, .int p1), (3, .int p2), (4, .int p3)]) hx hb dX4_weekCost_35 hl (by decide) rfl (fun ls hl => ?_)
  refine lv_aload_n hx hb dX4_weekCost_37 rfl (lv_at hl 2 rfl) ?_
  refine g_get cx hP iw_X4_weekCost_X4 0 rfl rfl 8 (by decide) rfl fw_X4_weekCost_51 rfl dX4_weekCost_38 ?_
  refine lv_bipush (v := (-9)) hx hb dX4_weekCost_41 (by decide) ?_
  refine lv_icmp_eq (tgt := 61) hx hb dX4_weekCost_43 (by decide) (fun c16 => ?_) (fun c16 => ?_)
  · have f16 : (sh 0 8).toInt = (-9) := f_eq rfl (by decide) c16
    refine lv_aload_n hx hb dX4_weekCost_61 rfl (lv_at hl 2 rfl) ?_
    refine g_get cx hP iw_X4_weekCost_X4 0 rfl rfl 9 (by decide) rfl fw_X4_weekCost_54 rfl dX4_weekCost_62 ?_
    refine lv_bipush (v := (-9)) hx hb dX4_weekCost_65 (by decide) ?_
    refine lv_icmp_eq (tgt := 82) hx hb dX4_weekCost_67 (by decide) (fun c17 => ?_) (fun c17 => ?_)
    · have f17 : (sh 0 9).toInt = (-9) := f_eq rfl (by decide) c17
      refine lv_aload_n hx hb dX4_weekCost_82 rfl (lv_at hl 2 rfl) ?_
      refine g_get cx hP iw_X4_weekCost_X4 0 rfl rfl 10 (by decide) rfl fw_X4_weekCost_57 rfl dX4_weekCost_83 ?_
      refine lv_bipush (v := (-9)) hx hb dX4_weekCost_86 (by decide) ?_
      refine lv_icmp_eq (tgt := 102) hx hb dX4_weekCost_88 (by decide) (fun c18 => ?_) (fun c18 => ?_)
      · have f18 : (sh 0 10).toInt = (-9) := f_eq rfl (by decide) c18
        refine lv_iload hx hb dX4_weekCost_102 (lv_at hl 0 rfl) ?_
        rw [hQ]
        exact x_i cx hr () hP hD hS (show v15 = J_X4_weekCost sh p0 p1 p2 p3 from by subst w3 w6 e7 k12 e13 e14 e15; first | (refine Eq.symm ?_; refine Eq.trans (if_pos c16) ?_; refine Eq.trans (if_pos c17) ?_; refine Eq.trans (if_pos c18) ?_; rfl) | (unfold J_X4_weekCost; try dsimp only; rw [if_pos c16, if_pos c17, if_pos c18])) dX4_weekCost_104
      · have f18 : ¬ (sh 0 10).toInt = (-9) := f_ne rfl (by decide) c18
        refine lv_iload hx hb dX4_weekCost_91 (lv_at hl 0 rfl) ?_
        refine lv_aload_n hx hb dX4_weekCost_93 rfl (lv_at hl 2 rfl) ?_
        refine g_get cx hP iw_X4_weekCost_X4 0 rfl rfl 10 (by decide) rfl fw_X4_weekCost_57 rfl dX4_weekCost_94 ?_
        refine lv_iload_n hx hb dX4_weekCost_97 rfl (lv_at hl 5 rfl) ?_
        refine lv_imul hx hb dX4_weekCost_98 (lv_topi (fun v19 e19 => ?_))
        refine lv_iadd hx hb dX4_weekCost_99 (lv_topi (fun v20 e20 => ?_))
        refine lv_istore (lv' := [(6, .int v20), (5, .int r2), (0, .ref (qh 0)), (1, .int p0), (2, .int p1), (3, .int p2), (4, .int p3)]) hx hb dX4_weekCost_100 hl (by decide) rfl (fun ls hl => ?_)
        refine lv_iload hx hb dX4_weekCost_102 (lv_at hl 0 rfl) ?_
        rw [hQ]
        exact x_i cx hr () hP hD hS (show v20 = J_X4_weekCost sh p0 p1 p2 p3 from by subst w3 w6 e7 k12 e13 e14 e15 e19 e20; first | (refine Eq.symm ?_; refine Eq.trans (if_pos c16) ?_; refine Eq.trans (if_pos c17) ?_; refine Eq.trans (if_neg c18) ?_; rfl) | (unfold J_X4_weekCost; try dsimp only; rw [if_pos c16, if_pos c17, if_neg c18])) dX4_weekCost_104
    · have f17 : ¬ (sh 0 9).toInt = (-9) := f_ne rfl (by decide) c17
      refine lv_iload hx hb dX4_weekCost_70 (lv_at hl 0 rfl) ?_
      refine lv_aload_n hx hb dX4_weekCost_72 rfl (lv_at hl 2 rfl) ?_
      refine g_get cx hP iw_X4_weekCost_X4 0 rfl rfl 9 (by decide) rfl fw_X4_weekCost_54 rfl dX4_weekCost_73 ?_
      refine lv_iload hx hb dX4_weekCost_76 (lv_at hl 1 rfl) ?_
      refine lv_imul hx hb dX4_weekCost_78 (lv_topi (fun v21 e21 => ?_))
      refine lv_iadd hx hb dX4_weekCost_79 (lv_topi (fun v22 e22 => ?_))
      refine lv_istore (lv' := [(6, .int v22), (5, .int r2), (0, .ref (qh 0)), (1, .int p0), (2, .int p1), (3, .int p2), (4, .int p3)]) hx hb dX4_weekCost_80 hl (by decide) rfl (fun ls hl => ?_)
      refine lv_aload_n hx hb dX4_weekCost_82 rfl (lv_at hl 2 rfl) ?_
      refine g_get cx hP iw_X4_weekCost_X4 0 rfl rfl 10 (by decide) rfl fw_X4_weekCost_57 rfl dX4_weekCost_83 ?_
      refine lv_bipush (v := (-9)) hx hb dX4_weekCost_86 (by decide) ?_
      refine lv_icmp_eq (tgt := 102) hx hb dX4_weekCost_88 (by decide) (fun c23 => ?_) (fun c23 => ?_)
      · have f23 : (sh 0 10).toInt = (-9) := f_eq rfl (by decide) c23
        refine lv_iload hx hb dX4_weekCost_102 (lv_at hl 0 rfl) ?_
        rw [hQ]
        exact x_i cx hr () hP hD hS (show v22 = J_X4_weekCost sh p0 p1 p2 p3 from by subst w3 w6 e7 k12 e13 e14 e15 e21 e22; first | (refine Eq.symm ?_; refine Eq.trans (if_pos c16) ?_; refine Eq.trans (if_neg c17) ?_; refine Eq.trans (if_pos c23) ?_; rfl) | (unfold J_X4_weekCost; try dsimp only; rw [if_pos c16, if_neg c17, if_pos c23])) dX4_weekCost_104
      · have f23 : ¬ (sh 0 10).toInt = (-9) := f_ne rfl (by decide) c23
        refine lv_iload hx hb dX4_weekCost_91 (lv_at hl 0 rfl) ?_
        refine lv_aload_n hx hb dX4_weekCost_93 rfl (lv_at hl 2 rfl) ?_
        refine g_get cx hP iw_X4_weekCost_X4 0 rfl rfl 10 (by decide) rfl fw_X4_weekCost_57 rfl dX4_weekCost_94 ?_
        refine lv_iload_n hx hb dX4_weekCost_97 rfl (lv_at hl 5 rfl) ?_
        refine lv_imul hx hb dX4_weekCost_98 (lv_topi (fun v24 e24 => ?_))
        refine lv_iadd hx hb dX4_weekCost_99 (lv_topi (fun v25 e25 => ?_))
        refine lv_istore (lv' := [(6, .int v25), (5, .int r2), (0, .ref (qh 0)), (1, .int p0), (2, .int p1), (3, .int p2), (4, .int p3)]) hx hb dX4_weekCost_100 hl (by decide) rfl (fun ls hl => ?_)
        refine lv_iload hx hb dX4_weekCost_102 (lv_at hl 0 rfl) ?_
        rw [hQ]
        exact x_i cx hr () hP hD hS (show v25 = J_X4_weekCost sh p0 p1 p2 p3 from by subst w3 w6 e7 k12 e13 e14 e15 e21 e22 e24 e25; first | (refine Eq.symm ?_; refine Eq.trans (if_pos c16) ?_; refine Eq.trans (if_neg c17) ?_; refine Eq.trans (if_neg c23) ?_; rfl) | (unfold J_X4_weekCost; try dsimp only; rw [if_pos c16, if_neg c17, if_neg c23])) dX4_weekCost_104
  · have f16 : ¬ (sh 0 8).toInt = (-9) := f_ne rfl (by decide) c16
    refine lv_iload hx hb dX4_weekCost_46 (lv_at hl 0 rfl) ?_
    refine lv_aload_n hx hb dX4_weekCost_48 rfl (lv_at hl 2 rfl) ?_
    refine g_get cx hP iw_X4_weekCost_X4 0 rfl rfl 8 (by decide) rfl fw_X4_weekCost_51 rfl dX4_weekCost_49 ?_
    refine lv_iload hx hb dX4_weekCost_52 (lv_at hl 6 rfl) ?_
    refine g_ir (g_runS (wc := []) (rest := [.int (sh 0 8), .int v15]) cx hP hD hS [] rfl (by decide) [.int p3] (c_X0_letGo l D k b H.size p3) gX4_weekCost_X0_letGo rfl rfl rfl nd_X0_letGo ⟨Nat.le_of_ble_eq_true rfl, Nat.le_of_ble_eq_true rfl⟩ rfl hl.1 rfl (Nat.le_of_ble_eq_true rfl) ⟨Nat.zero_le _, Nat.zero_le _⟩ dX4_weekCost_54) cx.2.2.1 hP hD hS [] rfl rfl (fun r27 H locs hw26 hP hS => ?_)
    have w28 : r27 = J_X0_letGo p3 := hw26
    clear hw26
    refine lv_imul hx hb dX4_weekCost_57 (lv_topi (fun v29 e29 => ?_))
    refine lv_iadd hx hb dX4_weekCost_58 (lv_topi (fun v30 e30 => ?_))
    refine lv_istore (lv' := [(6, .int v30), (5, .int r2), (0, .ref (qh 0)), (1, .int p0), (2, .int p1), (3, .int p2), (4, .int p3)]) hx hb dX4_weekCost_59 hl (by decide) rfl (fun ls hl => ?_)
    refine lv_aload_n hx hb dX4_weekCost_61 rfl (lv_at hl 2 rfl) ?_
    refine g_get cx hP iw_X4_weekCost_X4 0 rfl rfl 9 (by decide) rfl fw_X4_weekCost_54 rfl dX4_weekCost_62 ?_
    refine lv_bipush (v := (-9)) hx hb dX4_weekCost_65 (by decide) ?_
    refine lv_icmp_eq (tgt := 82) hx hb dX4_weekCost_67 (by decide) (fun c31 => ?_) (fun c31 => ?_)
    · have f31 : (sh 0 9).toInt = (-9) := f_eq rfl (by decide) c31
      refine lv_aload_n hx hb dX4_weekCost_82 rfl (lv_at hl 2 rfl) ?_
      refine g_get cx hP iw_X4_weekCost_X4 0 rfl rfl 10 (by decide) rfl fw_X4_weekCost_57 rfl dX4_weekCost_83 ?_
      refine lv_bipush (v := (-9)) hx hb dX4_weekCost_86 (by decide) ?_
      refine lv_icmp_eq (tgt := 102) hx hb dX4_weekCost_88 (by decide) (fun c32 => ?_) (fun c32 => ?_)
      · have f32 : (sh 0 10).toInt = (-9) := f_eq rfl (by decide) c32
        refine lv_iload hx hb dX4_weekCost_102 (lv_at hl 0 rfl) ?_
        rw [hQ]
        exact x_i cx hr () hP hD hS (show v30 = J_X4_weekCost sh p0 p1 p2 p3 from by subst w3 w6 e7 k12 e13 e14 e15 w28 e29 e30; first | (refine Eq.symm ?_; refine Eq.trans (if_neg c16) ?_; refine Eq.trans (if_pos c31) ?_; refine Eq.trans (if_pos c32) ?_; rfl) | (unfold J_X4_weekCost; try dsimp only; rw [if_neg c16, if_pos c31, if_pos c32])) dX4_weekCost_104
      · have f32 : ¬ (sh 0 10).toInt = (-9) := f_ne rfl (by decide) c32
        refine lv_iload hx hb dX4_weekCost_91 (lv_at hl 0 rfl) ?_
        refine lv_aload_n hx hb dX4_weekCost_93 rfl (lv_at hl 2 rfl) ?_
        refine g_get cx hP iw_X4_weekCost_X4 0 rfl rfl 10 (by decide) rfl fw_X4_weekCost_57 rfl dX4_weekCost_94 ?_
        refine lv_iload_n hx hb dX4_weekCost_97 rfl (lv_at hl 5 rfl) ?_
        refine lv_imul hx hb dX4_weekCost_98 (lv_topi (fun v33 e33 => ?_))
        refine lv_iadd hx hb dX4_weekCost_99 (lv_topi (fun v34 e34 => ?_))
        refine lv_istore (lv' := [(6, .int v34), (5, .int r2), (0, .ref (qh 0)), (1, .int p0), (2, .int p1), (3, .int p2), (4, .int p3)]) hx hb dX4_weekCost_100 hl (by decide) rfl (fun ls hl => ?_)
        refine lv_iload hx hb dX4_weekCost_102 (lv_at hl 0 rfl) ?_
        rw [hQ]
        exact x_i cx hr () hP hD hS (show v34 = J_X4_weekCost sh p0 p1 p2 p3 from by subst w3 w6 e7 k12 e13 e14 e15 w28 e29 e30 e33 e34; first | (refine Eq.symm ?_; refine Eq.trans (if_neg c16) ?_; refine Eq.trans (if_pos c31) ?_; refine Eq.trans (if_neg c32) ?_; rfl) | (unfold J_X4_weekCost; try dsimp only; rw [if_neg c16, if_pos c31, if_neg c32])) dX4_weekCost_104
    · have f31 : ¬ (sh 0 9).toInt = (-9) := f_ne rfl (by decide) c31
      refine lv_iload hx hb dX4_weekCost_70 (lv_at hl 0 rfl) ?_
      refine lv_aload_n hx hb dX4_weekCost_72 rfl (lv_at hl 2 rfl) ?_
      refine g_get cx hP iw_X4_weekCost_X4 0 rfl rfl 9 (by decide) rfl fw_X4_weekCost_54 rfl dX4_weekCost_73 ?_
      refine lv_iload hx hb dX4_weekCost_76 (lv_at hl 1 rfl) ?_
      refine lv_imul hx hb dX4_weekCost_78 (lv_topi (fun v35 e35 => ?_))
      refine lv_iadd hx hb dX4_weekCost_79 (lv_topi (fun v36 e36 => ?_))
      refine lv_istore (lv' := [(6, .int v36), (5, .int r2), (0, .ref (qh 0)), (1, .int p0), (2, .int p1), (3, .int p2), (4, .int p3)]) hx hb dX4_weekCost_80 hl (by decide) rfl (fun ls hl => ?_)
      refine lv_aload_n hx hb dX4_weekCost_82 rfl (lv_at hl 2 rfl) ?_
      refine g_get cx hP iw_X4_weekCost_X4 0 rfl rfl 10 (by decide) rfl fw_X4_weekCost_57 rfl dX4_weekCost_83 ?_
      refine lv_bipush (v := (-9)) hx hb dX4_weekCost_86 (by decide) ?_
      refine lv_icmp_eq (tgt := 102) hx hb dX4_weekCost_88 (by decide) (fun c37 => ?_) (fun c37 => ?_)
      · have f37 : (sh 0 10).toInt = (-9) := f_eq rfl (by decide) c37
        refine lv_iload hx hb dX4_weekCost_102 (lv_at hl 0 rfl) ?_
        rw [hQ]
        exact x_i cx hr () hP hD hS (show v36 = J_X4_weekCost sh p0 p1 p2 p3 from by subst w3 w6 e7 k12 e13 e14 e15 w28 e29 e30 e35 e36; first | (refine Eq.symm ?_; refine Eq.trans (if_neg c16) ?_; refine Eq.trans (if_neg c31) ?_; refine Eq.trans (if_pos c37) ?_; rfl) | (unfold J_X4_weekCost; try dsimp only; rw [if_neg c16, if_neg c31, if_pos c37])) dX4_weekCost_104
      · have f37 : ¬ (sh 0 10).toInt = (-9) := f_ne rfl (by decide) c37
        refine lv_iload hx hb dX4_weekCost_91 (lv_at hl 0 rfl) ?_
        refine lv_aload_n hx hb dX4_weekCost_93 rfl (lv_at hl 2 rfl) ?_
        refine g_get cx hP iw_X4_weekCost_X4 0 rfl rfl 10 (by decide) rfl fw_X4_weekCost_57 rfl dX4_weekCost_94 ?_
        refine lv_iload_n hx hb dX4_weekCost_97 rfl (lv_at hl 5 rfl) ?_
        refine lv_imul hx hb dX4_weekCost_98 (lv_topi (fun v38 e38 => ?_))
        refine lv_iadd hx hb dX4_weekCost_99 (lv_topi (fun v39 e39 => ?_))
        refine lv_istore (lv' := [(6, .int v39), (5, .int r2), (0, .ref (qh 0)), (1, .int p0), (2, .int p1), (3, .int p2), (4, .int p3)]) hx hb dX4_weekCost_100 hl (by decide) rfl (fun ls hl => ?_)
        refine lv_iload hx hb dX4_weekCost_102 (lv_at hl 0 rfl) ?_
        rw [hQ]
        exact x_i cx hr () hP hD hS (show v39 = J_X4_weekCost sh p0 p1 p2 p3 from by subst w3 w6 e7 k12 e13 e14 e15 w28 e29 e30 e35 e36 e38 e39; first | (refine Eq.symm ?_; refine Eq.trans (if_neg c16) ?_; refine Eq.trans (if_neg c31) ?_; refine Eq.trans (if_neg c37) ?_; rfl) | (unfold J_X4_weekCost; try dsimp only; rw [if_neg c16, if_neg c31, if_neg c37])) dX4_weekCost_104
theorem fw_X4_bonusFor_60 : Cond.fieldLink RX4 60 "StillInAugust$House" "bonus" "I" ∈ wsX4_bonusFor := by decide +kernel
theorem iw_X4_bonusFor_X4 : ∀ w ∈ u_ws RX4 TX4 14, w ∈ wsX4_bonusFor := fun _ h => List.mem_cons_of_mem _ (List.mem_append_right _ h)
def J_X4_bonusFor (sh : Nat → Nat → Int32) (p0 : Int32) : Int32 := if (sh 0 11) = (-9) then (0 : Int32) else ((sh 0 11) * (J_X3_total p0))
set_option maxHeartbeats 4000000 in
set_option maxRecDepth 100000 in
theorem c_X4_bonusFor (l : Launch) (D : va_G) (k : Nat → ClassId) (b : Nat → Nat) (qh : Nat → Nat) (sh : Nat → Nat → Int32) (sz : Nat) (p0 : Int32) : MetI l D k b yX4_bonusFor wsX4_bonusFor ({ frames := 1, cells := 0, slots := 0, locals := 20 } : Room) [cell32_ qh sh, cell0_ k qh sh, cell1_ k qh sh, cell4_ k qh sh, cell3_ k qh sh, cell2_ k qh sh] sz [.ref (qh 0), .int p0] (fun (r : Int32) (u : Unit) => r = J_X4_bonusFor sh p0) (fun u => [cell32_ qh sh, cell0_ k qh sh, cell1_ k qh sh, cell4_ k qh sh, cell3_ k qh sh, cell2_ k qh sh]) := by
  refine g_enter (cc := cX4_bonusFor) (maxL := 2) (ret := (some .int)) (by decide) rfl (Nat.le_of_ble_eq_true rfl) ?_
  intro p e s m below meth c A hsz hAe cx hr hP hD hS ls hl
  rw [hAe]
  refine g_q (fun Q hQ => ?_)
  have hx := cx.1.1
  have hb := cx.1.2.1
  have bp0 := i_rng p0
  have hl : lv_has ls 2 [(0, .ref (qh 0)), (1, .int p0)] := hl
  obtain ⟨H, eH⟩ : ∃ H : Heap, H = s.heap := ⟨_, rfl⟩
  obtain ⟨locs, el⟩ : ∃ L : List Loc, L = [] := ⟨_, rfl⟩
  have hP : va_P D vwCl [cell32_ qh sh, cell0_ k qh sh, cell1_ k qh sh, cell4_ k qh sh, cell3_ k qh sh, cell2_ k qh sh] H := by rw [eH]; exact hP
  have hD : va_D A [cell32_ qh sh, cell0_ k qh sh, cell1_ k qh sh, cell4_ k qh sh, cell3_ k qh sh, cell2_ k qh sh] := hD
  have hS : va_S A s.heap H locs := by rw [eH, el]; exact hS
  suffices goal : W p l e ({ frames := 1, cells := 0, slots := 0, locals := 20 } : Room) s m ([.ref (qh 0), .int p0] : List Value).toArray below meth c H locs 0 0 Q (F0 m 0 ls []) by rw [eH, el] at goal; exact goal
  refine lv_aload_n hx hb dX4_bonusFor_0 rfl (lv_at hl 0 rfl) ?_
  refine g_get cx hP iw_X4_bonusFor_X4 0 rfl rfl 11 (by decide) rfl fw_X4_bonusFor_60 rfl dX4_bonusFor_1 ?_
  refine lv_bipush (v := (-9)) hx hb dX4_bonusFor_4 (by decide) ?_
  refine lv_icmp_ne (tgt := 13) hx hb dX4_bonusFor_6 (by decide) (fun c1 => ?_) (fun c1 => ?_)
  · have f1 : ¬ (sh 0 11).toInt = (-9) := f_ne rfl (by decide) c1
    refine lv_aload_n hx hb dX4_bonusFor_13 rfl (lv_at hl 0 rfl) ?_
    refine g_get cx hP iw_X4_bonusFor_X4 0 rfl rfl 11 (by decide) rfl fw_X4_bonusFor_60 rfl dX4_bonusFor_14 ?_
    refine lv_iload_n hx hb dX4_bonusFor_17 rfl (lv_at hl 1 rfl) ?_
    refine g_ir (g_runS (wc := []) (rest := [.int (sh 0 11)]) cx hP hD hS [] rfl (by decide) [.int p0] (c_X3_total l D k b H.size p0) gX4_bonusFor_X3_total rfl rfl rfl nd_X3_total ⟨Nat.le_of_ble_eq_true rfl, Nat.le_of_ble_eq_true rfl⟩ rfl hl.1 rfl (Nat.le_of_ble_eq_true rfl) ⟨Nat.zero_le _, Nat.zero_le _⟩ dX4_bonusFor_18) cx.2.2.1 hP hD hS [] rfl rfl (fun r3 H locs hw2 hP hS => ?_)
    have w4 : r3 = J_X3_total p0 := hw2
    clear hw2
    refine lv_imul hx hb dX4_bonusFor_21 (lv_topi (fun v5 e5 => ?_))
    rw [hQ]
    exact x_i cx hr () hP hD hS (show v5 = J_X4_bonusFor sh p0 from by subst w4 e5; first | (refine Eq.symm ?_; refine Eq.trans (if_neg c1) ?_; rfl) | (unfold J_X4_bonusFor; try dsimp only; rw [if_neg c1])) dX4_bonusFor_22
  · have f1 : (sh 0 11).toInt = (-9) := f_eq rfl (by decide) c1
    refine lv_iconst (v := 0) hx hb dX4_bonusFor_9 (by decide) ?_
    refine lv_goto (tgt := 22) hx hb dX4_bonusFor_10 (by decide) ?_
    have hlit6 : (0 : Int32).toInt = 0 := by decide
    rw [hQ]
    exact x_i cx hr () hP hD hS (show (0 : Int32) = J_X4_bonusFor sh p0 from by first | (refine Eq.symm ?_; refine Eq.trans (if_pos c1) ?_; rfl) | (unfold J_X4_bonusFor; try dsimp only; rw [if_pos c1])) dX4_bonusFor_22
theorem fw_X4_sumOf_1_32 : Cond.fieldLink RX4 32 "StillInAugust$House" "weeks" "I" ∈ wsX4_sumOf := by decide +kernel
theorem iw_X4_sumOf_1_X4 : ∀ w ∈ u_ws RX4 TX4 14, w ∈ wsX4_sumOf := fun _ h => List.mem_cons_of_mem _ (List.mem_append_right _ h)
def J_X4_sumOf_1 (sh : Nat → Nat → Int32) : Int32 := (SF (sh 1) (Int.toNat (sh 0 0).toInt))
set_option maxHeartbeats 4000000 in
set_option maxRecDepth 100000 in
theorem c_X4_sumOf_1 (l : Launch) (D : va_G) (k : Nat → ClassId) (b : Nat → Nat) (qh : Nat → Nat) (sh : Nat → Nat → Int32) (sz : Nat) (h_wk : 0 ≤ (sh 0 0).toInt ∧ (sh 0 0).toInt ≤ 5) : MetI l D k b yX4_sumOf wsX4_sumOf ({ frames := 0, cells := 0, slots := 0, locals := 0 } : Room) [cell32_ qh sh, cell0_ k qh sh, cell1_ k qh sh, cell4_ k qh sh, cell3_ k qh sh, cell2_ k qh sh] sz [.ref (qh 0), .ref (qh 1)] (fun (r : Int32) (u : Unit) => r = J_X4_sumOf_1 sh) (fun u => [cell32_ qh sh, cell0_ k qh sh, cell1_ k qh sh, cell4_ k qh sh, cell3_ k qh sh, cell2_ k qh sh]) := by
  refine g_enter (cc := cX4_sumOf) (maxL := 4) (ret := (some .int)) (by decide) rfl (Nat.le_of_ble_eq_true rfl) ?_
  intro p e s m below meth c A hsz hAe cx hr hP hD hS ls hl
  rw [hAe]
  refine g_q (fun Q hQ => ?_)
  have hx := cx.1.1
  have hb := cx.1.2.1
  have hl : lv_has ls 4 [(0, .ref (qh 0)), (1, .ref (qh 1))] := hl
  obtain ⟨H, eH⟩ : ∃ H : Heap, H = s.heap := ⟨_, rfl⟩
  obtain ⟨locs, el⟩ : ∃ L : List Loc, L = [] := ⟨_, rfl⟩
  have hP : va_P D vwCl [cell32_ qh sh, cell0_ k qh sh, cell1_ k qh sh, cell4_ k qh sh, cell3_ k qh sh, cell2_ k qh sh] H := by rw [eH]; exact hP
  have hD : va_D A [cell32_ qh sh, cell0_ k qh sh, cell1_ k qh sh, cell4_ k qh sh, cell3_ k qh sh, cell2_ k qh sh] := hD
  have hS : va_S A s.heap H locs := by rw [eH, el]; exact hS
  suffices goal : W p l e ({ frames := 0, cells := 0, slots := 0, locals := 0 } : Room) s m ([.ref (qh 0), .ref (qh 1)] : List Value).toArray below meth c H locs 0 0 Q (F0 m 0 ls []) by rw [eH, el] at goal; exact goal
  refine lv_iconst (v := 0) hx hb dX4_sumOf_0 (by decide) ?_
  refine lv_istore_n (lv' := [(2, .int 0), (0, .ref (qh 0)), (1, .ref (qh 1))]) hx hb dX4_sumOf_1 rfl hl (by decide) rfl (fun ls hl => ?_)
  refine lv_iconst (v := 0) hx hb dX4_sumOf_2 (by decide) ?_
  refine lv_istore_n (lv' := [(3, .int 0), (2, .int 0), (0, .ref (qh 0)), (1, .ref (qh 1))]) hx hb dX4_sumOf_3 rfl hl (by decide) rfl (fun ls hl => ?_)
  have hL4 : ∀ (n7 : Nat) (v5 : Int32) (v6 : Int32) (H : Heap) (locs : List Loc) (ls : Array Slot), 5 - v5.toInt < (n7 : Int) → (0 ≤ v5.toInt ∧ v5.toInt ≤ 5) → (v5.toInt ≤ (sh 0 0).toInt) → (v6 = SF (sh 1) (Int.toNat v5.toInt)) → va_P D vwCl [cell32_ qh sh, cell0_ k qh sh, cell1_ k qh sh, cell4_ k qh sh, cell3_ k qh sh, cell2_ k qh sh] H → va_D A [cell32_ qh sh, cell0_ k qh sh, cell1_ k qh sh, cell4_ k qh sh, cell3_ k qh sh, cell2_ k qh sh] → va_S A s.heap H locs → lv_has ls 4 [(3, .int v5), (2, .int v6), (0, .ref (qh 0)), (1, .ref (qh 1))] → W p l e ({ frames := 0, cells := 0, slots := 0, locals := 0 } : Room) s m ([.ref (qh 0), .ref (qh 1)] : List Value).toArray below meth c H locs 0 0 Q (F0 m 4 ls []) := by
    intro n7
    induction n7 with
    | zero => intro v5 v6 H locs ls hmn7 bv5 q3 qs1 hP hD hS hl; exact absurd hmn7 (by omega)
    | succ n7 ih4 =>
      intro v5 v6 H locs ls hmn7 bv5 q3 qs1 hP hD hS hl
      refine lv_iload_n hx hb dX4_sumOf_4 rfl (lv_at hl 0 rfl) ?_
      refine lv_aload_n hx hb dX4_sumOf_5 rfl (lv_at hl 2 rfl) ?_
      refine g_get cx hP iw_X4_sumOf_1_X4 0 rfl rfl 0 (by decide) rfl fw_X4_sumOf_1_32 rfl dX4_sumOf_6 ?_
      refine lv_icmp_ge (tgt := 30) hx hb dX4_sumOf_9 (by decide) (fun c8 => ?_) (fun c8 => ?_)
      · have f8 : (sh 0 0).toInt ≤ v5.toInt := f_le rfl rfl c8
        have qs1_e : v6 = (SF (sh 1) (Int.toNat (sh 0 0).toInt)) := by have q : Int.toNat v5.toInt = (Int.toNat (sh 0 0).toInt) := (by omega); rw [q] at qs1; exact qs1
        refine lv_iload_n hx hb dX4_sumOf_30 rfl (lv_at hl 1 rfl) ?_
        rw [hQ]
        exact x_i cx hr () hP hD hS (show v6 = J_X4_sumOf_1 sh from by subst qs1_e; rfl) dX4_sumOf_31
      · have f8 : v5.toInt < (sh 0 0).toInt := f_nle rfl rfl c8
        refine lv_iload_n hx hb dX4_sumOf_12 rfl (lv_at hl 0 rfl) ?_
        refine lv_aload_n hx hb dX4_sumOf_13 rfl (lv_at hl 3 rfl) ?_
        refine va_alen hx hb cx.2.1 hP 1 0 rfl rfl (v := 5) (show Int32.ofNat 5 = 5 from by decide) dX4_sumOf_14 ?_
        refine lv_icmp_ge (tgt := 30) hx hb dX4_sumOf_15 (by decide) (fun c9 => ?_) (fun c9 => ?_)
        · have f9 : 5 ≤ v5.toInt := f_le (by decide) rfl c9
          exact absurd f9 (by omega)
        · have f9 : v5.toInt < 5 := f_nle (by decide) rfl c9
          refine lv_iload_n hx hb dX4_sumOf_18 rfl (lv_at hl 1 rfl) ?_
          refine lv_aload_n hx hb dX4_sumOf_19 rfl (lv_at hl 3 rfl) ?_
          refine lv_iload_n hx hb dX4_sumOf_20 rfl (lv_at hl 0 rfl) ?_
          have hn10 : vp_in v5 5 := f_in (a := v5.toInt) rfl (by omega) (by omega)
          refine va_iald hx hb cx.2.1 hP 1 0 rfl rfl hn10 dX4_sumOf_21 (lv_topi (fun v11 e11 => ?_))
          have hv1_ : v11 = sh 1 (Int.toNat v5.toInt) := e11.trans (congrArg (sh 1) (cN_of (show v5.toInt = ((Int.toNat (v5.toInt) : Nat) : Int) from by omega)))
          refine lv_iadd hx hb dX4_sumOf_22 (lv_topi (fun v12 e12 => ?_))
          have hs1_ := e12
          refine lv_istore_n (lv' := [(2, .int v12), (3, .int v5), (0, .ref (qh 0)), (1, .ref (qh 1))]) hx hb dX4_sumOf_23 rfl hl (by decide) rfl (fun ls hl => ?_)
          obtain ⟨v13, e13⟩ : ∃ z : Int32, z = v5 + 1 := ⟨_, rfl⟩
          refine lv_iinc (v := v13) (lv' := [(3, .int v13), (2, .int v12), (0, .ref (qh 0)), (1, .ref (qh 1))]) hx hb dX4_sumOf_24 hl (k := 1) rfl (by rw [e13]; rfl) (by decide) rfl (fun ls hl => ?_)
          have t13 : v13.toInt = v5.toInt + 1 := by rw [e13]; exact i_add rfl (by decide) (by omega) (by omega)
          refine lv_goto (tgt := 4) hx hb dX4_sumOf_27 (by decide) ?_
          exact ih4 v13 v12 _ _ _ (by omega) (by first | decide | omega) (by first | decide | omega) (SF_st qs1 hv1_ hs1_ (by omega)) hP hD hS (lv_sub hl [0, 1, 2, 3] rfl)
  have hlit14 : (0 : Int32).toInt = 0 := by decide
  have hlit15 : (0 : Int32).toInt = 0 := by decide
  exact hL4 (Int.toNat (5 - 0) + 1) 0 0 _ _ _ (by omega) (by first | decide | omega) (by first | decide | omega) rfl hP hD hS (lv_sub hl [0, 1, 2, 3] rfl)
theorem fw_X4_sumOf_2_32 : Cond.fieldLink RX4 32 "StillInAugust$House" "weeks" "I" ∈ wsX4_sumOf := by decide +kernel
theorem iw_X4_sumOf_2_X4 : ∀ w ∈ u_ws RX4 TX4 14, w ∈ wsX4_sumOf := fun _ h => List.mem_cons_of_mem _ (List.mem_append_right _ h)
def J_X4_sumOf_2 (sh : Nat → Nat → Int32) : Int32 := (SF (sh 2) (Int.toNat (sh 0 0).toInt))
set_option maxHeartbeats 4000000 in
set_option maxRecDepth 100000 in
theorem c_X4_sumOf_2 (l : Launch) (D : va_G) (k : Nat → ClassId) (b : Nat → Nat) (qh : Nat → Nat) (sh : Nat → Nat → Int32) (sz : Nat) (h_wk : 0 ≤ (sh 0 0).toInt ∧ (sh 0 0).toInt ≤ 5) : MetI l D k b yX4_sumOf wsX4_sumOf ({ frames := 0, cells := 0, slots := 0, locals := 0 } : Room) [cell32_ qh sh, cell0_ k qh sh, cell1_ k qh sh, cell4_ k qh sh, cell3_ k qh sh, cell2_ k qh sh] sz [.ref (qh 0), .ref (qh 2)] (fun (r : Int32) (u : Unit) => r = J_X4_sumOf_2 sh) (fun u => [cell32_ qh sh, cell0_ k qh sh, cell1_ k qh sh, cell4_ k qh sh, cell3_ k qh sh, cell2_ k qh sh]) := by
  refine g_enter (cc := cX4_sumOf) (maxL := 4) (ret := (some .int)) (by decide) rfl (Nat.le_of_ble_eq_true rfl) ?_
  intro p e s m below meth c A hsz hAe cx hr hP hD hS ls hl
  rw [hAe]
  refine g_q (fun Q hQ => ?_)
  have hx := cx.1.1
  have hb := cx.1.2.1
  have hl : lv_has ls 4 [(0, .ref (qh 0)), (1, .ref (qh 2))] := hl
  obtain ⟨H, eH⟩ : ∃ H : Heap, H = s.heap := ⟨_, rfl⟩
  obtain ⟨locs, el⟩ : ∃ L : List Loc, L = [] := ⟨_, rfl⟩
  have hP : va_P D vwCl [cell32_ qh sh, cell0_ k qh sh, cell1_ k qh sh, cell4_ k qh sh, cell3_ k qh sh, cell2_ k qh sh] H := by rw [eH]; exact hP
  have hD : va_D A [cell32_ qh sh, cell0_ k qh sh, cell1_ k qh sh, cell4_ k qh sh, cell3_ k qh sh, cell2_ k qh sh] := hD
  have hS : va_S A s.heap H locs := by rw [eH, el]; exact hS
  suffices goal : W p l e ({ frames := 0, cells := 0, slots := 0, locals := 0 } : Room) s m ([.ref (qh 0), .ref (qh 2)] : List Value).toArray below meth c H locs 0 0 Q (F0 m 0 ls []) by rw [eH, el] at goal; exact goal
  refine lv_iconst (v := 0) hx hb dX4_sumOf_0 (by decide) ?_
  refine lv_istore_n (lv' := [(2, .int 0), (0, .ref (qh 0)), (1, .ref (qh 2))]) hx hb dX4_sumOf_1 rfl hl (by decide) rfl (fun ls hl => ?_)
  refine lv_iconst (v := 0) hx hb dX4_sumOf_2 (by decide) ?_
  refine lv_istore_n (lv' := [(3, .int 0), (2, .int 0), (0, .ref (qh 0)), (1, .ref (qh 2))]) hx hb dX4_sumOf_3 rfl hl (by decide) rfl (fun ls hl => ?_)
  have hL4 : ∀ (n7 : Nat) (v5 : Int32) (v6 : Int32) (H : Heap) (locs : List Loc) (ls : Array Slot), 5 - v5.toInt < (n7 : Int) → (0 ≤ v5.toInt ∧ v5.toInt ≤ 5) → (v5.toInt ≤ (sh 0 0).toInt) → (v6 = SF (sh 2) (Int.toNat v5.toInt)) → va_P D vwCl [cell32_ qh sh, cell0_ k qh sh, cell1_ k qh sh, cell4_ k qh sh, cell3_ k qh sh, cell2_ k qh sh] H → va_D A [cell32_ qh sh, cell0_ k qh sh, cell1_ k qh sh, cell4_ k qh sh, cell3_ k qh sh, cell2_ k qh sh] → va_S A s.heap H locs → lv_has ls 4 [(3, .int v5), (2, .int v6), (0, .ref (qh 0)), (1, .ref (qh 2))] → W p l e ({ frames := 0, cells := 0, slots := 0, locals := 0 } : Room) s m ([.ref (qh 0), .ref (qh 2)] : List Value).toArray below meth c H locs 0 0 Q (F0 m 4 ls []) := by
    intro n7
    induction n7 with
    | zero => intro v5 v6 H locs ls hmn7 bv5 q3 qs1 hP hD hS hl; exact absurd hmn7 (by omega)
    | succ n7 ih4 =>
      intro v5 v6 H locs ls hmn7 bv5 q3 qs1 hP hD hS hl
      refine lv_iload_n hx hb dX4_sumOf_4 rfl (lv_at hl 0 rfl) ?_
      refine lv_aload_n hx hb dX4_sumOf_5 rfl (lv_at hl 2 rfl) ?_
      refine g_get cx hP iw_X4_sumOf_2_X4 0 rfl rfl 0 (by decide) rfl fw_X4_sumOf_2_32 rfl dX4_sumOf_6 ?_
      refine lv_icmp_ge (tgt := 30) hx hb dX4_sumOf_9 (by decide) (fun c8 => ?_) (fun c8 => ?_)
      · have f8 : (sh 0 0).toInt ≤ v5.toInt := f_le rfl rfl c8
        have qs1_e : v6 = (SF (sh 2) (Int.toNat (sh 0 0).toInt)) := by have q : Int.toNat v5.toInt = (Int.toNat (sh 0 0).toInt) := (by omega); rw [q] at qs1; exact qs1
        refine lv_iload_n hx hb dX4_sumOf_30 rfl (lv_at hl 1 rfl) ?_
        rw [hQ]
        exact x_i cx hr () hP hD hS (show v6 = J_X4_sumOf_2 sh from by subst qs1_e; rfl) dX4_sumOf_31
      · have f8 : v5.toInt < (sh 0 0).toInt := f_nle rfl rfl c8
        refine lv_iload_n hx hb dX4_sumOf_12 rfl (lv_at hl 0 rfl) ?_
        refine lv_aload_n hx hb dX4_sumOf_13 rfl (lv_at hl 3 rfl) ?_
        refine va_alen hx hb cx.2.1 hP 2 0 rfl rfl (v := 5) (show Int32.ofNat 5 = 5 from by decide) dX4_sumOf_14 ?_
        refine lv_icmp_ge (tgt := 30) hx hb dX4_sumOf_15 (by decide) (fun c9 => ?_) (fun c9 => ?_)
        · have f9 : 5 ≤ v5.toInt := f_le (by decide) rfl c9
          exact absurd f9 (by omega)
        · have f9 : v5.toInt < 5 := f_nle (by decide) rfl c9
          refine lv_iload_n hx hb dX4_sumOf_18 rfl (lv_at hl 1 rfl) ?_
          refine lv_aload_n hx hb dX4_sumOf_19 rfl (lv_at hl 3 rfl) ?_
          refine lv_iload_n hx hb dX4_sumOf_20 rfl (lv_at hl 0 rfl) ?_
          have hn10 : vp_in v5 5 := f_in (a := v5.toInt) rfl (by omega) (by omega)
          refine va_iald hx hb cx.2.1 hP 2 0 rfl rfl hn10 dX4_sumOf_21 (lv_topi (fun v11 e11 => ?_))
          have hv1_ : v11 = sh 2 (Int.toNat v5.toInt) := e11.trans (congrArg (sh 2) (cN_of (show v5.toInt = ((Int.toNat (v5.toInt) : Nat) : Int) from by omega)))
          refine lv_iadd hx hb dX4_sumOf_22 (lv_topi (fun v12 e12 => ?_))
          have hs1_ := e12
          refine lv_istore_n (lv' := [(2, .int v12), (3, .int v5), (0, .ref (qh 0)), (1, .ref (qh 2))]) hx hb dX4_sumOf_23 rfl hl (by decide) rfl (fun ls hl => ?_)
          obtain ⟨v13, e13⟩ : ∃ z : Int32, z = v5 + 1 := ⟨_, rfl⟩
          refine lv_iinc (v := v13) (lv' := [(3, .int v13), (2, .int v12), (0, .ref (qh 0)), (1, .ref (qh 2))]) hx hb dX4_sumOf_24 hl (k := 1) rfl (by rw [e13]; rfl) (by decide) rfl (fun ls hl => ?_)
          have t13 : v13.toInt = v5.toInt + 1 := by rw [e13]; exact i_add rfl (by decide) (by omega) (by omega)
          refine lv_goto (tgt := 4) hx hb dX4_sumOf_27 (by decide) ?_
          exact ih4 v13 v12 _ _ _ (by omega) (by first | decide | omega) (by first | decide | omega) (SF_st qs1 hv1_ hs1_ (by omega)) hP hD hS (lv_sub hl [0, 1, 2, 3] rfl)
  have hlit14 : (0 : Int32).toInt = 0 := by decide
  have hlit15 : (0 : Int32).toInt = 0 := by decide
  exact hL4 (Int.toNat (5 - 0) + 1) 0 0 _ _ _ (by omega) (by first | decide | omega) (by first | decide | omega) rfl hP hD hS (lv_sub hl [0, 1, 2, 3] rfl)
