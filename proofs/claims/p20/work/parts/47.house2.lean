theorem cw_X4_copy_L : Cond.methodLink RX4 70 arraycopyName ∈ wsX4_copy := by decide +kernel
theorem cw_X4_copy_N : Cond.native arraycopyName ∈ wsX4_copy := by decide +kernel
theorem cw_X4_copy_S : Cond.static arraycopyName ∈ wsX4_copy := by decide +kernel
theorem cw_X4_copy_I : Cond.initialized "java/lang/System" ∈ wsX4_copy := by decide +kernel
theorem fw_X4_copy_15 : Cond.fieldLink RX4 15 "StillInAugust$House" "offers" "[I" ∈ wsX4_copy := by decide +kernel
theorem fw_X4_copy_18 : Cond.fieldLink RX4 18 "StillInAugust$House" "goes" "[I" ∈ wsX4_copy := by decide +kernel
theorem fw_X4_copy_21 : Cond.fieldLink RX4 21 "StillInAugust$House" "does" "[I" ∈ wsX4_copy := by decide +kernel
theorem fw_X4_copy_32 : Cond.fieldLink RX4 32 "StillInAugust$House" "weeks" "I" ∈ wsX4_copy := by decide +kernel
theorem fw_X4_copy_36 : Cond.fieldLink RX4 36 "StillInAugust$House" "hooks" "I" ∈ wsX4_copy := by decide +kernel
theorem fw_X4_copy_45 : Cond.fieldLink RX4 45 "StillInAugust$House" "pay" "I" ∈ wsX4_copy := by decide +kernel
theorem fw_X4_copy_48 : Cond.fieldLink RX4 48 "StillInAugust$House" "shortPrice" "I" ∈ wsX4_copy := by decide +kernel
theorem fw_X4_copy_51 : Cond.fieldLink RX4 51 "StillInAugust$House" "letGoPrice" "I" ∈ wsX4_copy := by decide +kernel
theorem fw_X4_copy_54 : Cond.fieldLink RX4 54 "StillInAugust$House" "teachPrice" "I" ∈ wsX4_copy := by decide +kernel
theorem fw_X4_copy_57 : Cond.fieldLink RX4 57 "StillInAugust$House" "agencyPrice" "I" ∈ wsX4_copy := by decide +kernel
theorem fw_X4_copy_60 : Cond.fieldLink RX4 60 "StillInAugust$House" "bonus" "I" ∈ wsX4_copy := by decide +kernel
theorem fw_X4_copy_63 : Cond.fieldLink RX4 63 "StillInAugust$House" "fifthsLess" "I" ∈ wsX4_copy := by decide +kernel
theorem fw_X4_copy_9 : Cond.fieldLink RX4 9 "StillInAugust$House" "wants" "[I" ∈ wsX4_copy := by decide +kernel
theorem nd_X4_settle : yX4_settle.cls = RX4 ∧ yX4_settle.cls ≠ "java/lang/invoke/MethodHandle" ∧ yX4_settle.cls ≠ "java/lang/invoke/VarHandle" ∧ (parseMethodDescriptor yX4_settle.desc).map (fun d => d.parameters.length) = some 0 := by decide +kernel
theorem iw_X4_copy_X4 : ∀ w ∈ u_ws RX4 TX4 14, w ∈ wsX4_copy := fun _ h => List.mem_cons_of_mem _ (List.mem_append_right _ h)
def J_X4_copy (sh : Nat → Nat → Int32) (so : Nat → Nat → Int32) (p0 : Int32) : Int32 × Int32 × (Nat → Int32) × (Nat → Int32) × (Nat → Int32) × (Nat → Int32) × Int32 × Int32 × Int32 × Int32 × Int32 × Int32 × Int32 × (Nat → Int32) := if (p0 &&& (1 : Int32)) = 0 then if (p0 &&& (2 : Int32)) = 0 then if (p0 &&& (4 : Int32)) = 0 then if (p0 &&& (8 : Int32)) = 0 then if (p0 &&& (8 : Int32)) = 0 then let y20 := J_X4_settle (up2 (up2 (up2 (up2 (up2 sh 0 (upd (upd (upd (upd (upd (upd (upd (upd (upd (sh 0) 0 (so 0 0)) 1 (so 0 1)) 6 (so 0 6)) 7 (so 0 7)) 8 (so 0 8)) 9 (so 0 9)) 10 (so 0 10)) 11 (so 0 11)) 12 (so 0 12))) 1 (va_cpy (so 1) (sh 1) ((0 : Int32).toNatClampNeg) ((0 : Int32).toNatClampNeg) ((5 : Int32).toNatClampNeg))) 2 (va_cpy (so 2) (sh 2) ((0 : Int32).toNatClampNeg) ((0 : Int32).toNatClampNeg) ((5 : Int32).toNatClampNeg))) 3 (va_cpy (so 3) (sh 3) ((0 : Int32).toNatClampNeg) ((0 : Int32).toNatClampNeg) ((3 : Int32).toNatClampNeg))) 4 (va_cpy (so 4) (sh 4) ((0 : Int32).toNatClampNeg) ((0 : Int32).toNatClampNeg) ((3 : Int32).toNatClampNeg))); ((so 0 0), (so 0 1), (va_cpy (so 1) (sh 1) ((0 : Int32).toNatClampNeg) ((0 : Int32).toNatClampNeg) ((5 : Int32).toNatClampNeg)), (va_cpy (so 2) (sh 2) ((0 : Int32).toNatClampNeg) ((0 : Int32).toNatClampNeg) ((5 : Int32).toNatClampNeg)), (va_cpy (so 3) (sh 3) ((0 : Int32).toNatClampNeg) ((0 : Int32).toNatClampNeg) ((3 : Int32).toNatClampNeg)), (va_cpy (so 4) (sh 4) ((0 : Int32).toNatClampNeg) ((0 : Int32).toNatClampNeg) ((3 : Int32).toNatClampNeg)), (so 0 6), (so 0 7), (so 0 8), (so 0 9), (so 0 10), (so 0 11), (so 0 12), y20) else let y28 := J_X4_settle (up2 (up2 (up2 (up2 (up2 sh 0 (upd (upd (upd (upd (upd (upd (upd (upd (upd (sh 0) 0 (so 0 0)) 1 (so 0 1)) 6 (so 0 6)) 7 (so 0 7)) 8 (so 0 8)) 9 (so 0 9)) 10 (so 0 10)) 11 (so 0 11)) 12 0)) 1 (va_cpy (so 1) (sh 1) ((0 : Int32).toNatClampNeg) ((0 : Int32).toNatClampNeg) ((5 : Int32).toNatClampNeg))) 2 (va_cpy (so 2) (sh 2) ((0 : Int32).toNatClampNeg) ((0 : Int32).toNatClampNeg) ((5 : Int32).toNatClampNeg))) 3 (va_cpy (so 3) (sh 3) ((0 : Int32).toNatClampNeg) ((0 : Int32).toNatClampNeg) ((3 : Int32).toNatClampNeg))) 4 (va_cpy (so 4) (sh 4) ((0 : Int32).toNatClampNeg) ((0 : Int32).toNatClampNeg) ((3 : Int32).toNatClampNeg))); ((so 0 0), (so 0 1), (va_cpy (so 1) (sh 1) ((0 : Int32).toNatClampNeg) ((0 : Int32).toNatClampNeg) ((5 : Int32).toNatClampNeg)), (va_cpy (so 2) (sh 2) ((0 : Int32).toNatClampNeg) ((0 : Int32).toNatClampNeg) ((5 : Int32).toNatClampNeg)), (va_cpy (so 3) (sh 3) ((0 : Int32).toNatClampNeg) ((0 : Int32).toNatClampNeg) ((3 : Int32).toNatClampNeg)), (va_cpy (so 4) (sh 4) ((0 : Int32).toNatClampNeg) ((0 : Int32).toNatClampNeg) ((3 : Int32).toNatClampNeg)), (so 0 6), (so 0 7), (so 0 8), (so 0 9), (so 0 10), (so 0 11), (0 : Int32), y28) else if (p0 &&& (8 : Int32)) = 0 then let y39 := J_X4_settle (up2 (up2 (up2 (up2 (up2 sh 0 (upd (upd (upd (upd (upd (upd (upd (upd (upd (sh 0) 0 (so 0 0)) 1 (so 0 1)) 6 (so 0 6)) 7 (so 0 7)) 8 (so 0 8)) 9 (so 0 9)) 10 (so 0 10)) 11 (-9)) 12 (so 0 12))) 1 (va_cpy (so 1) (sh 1) ((0 : Int32).toNatClampNeg) ((0 : Int32).toNatClampNeg) ((5 : Int32).toNatClampNeg))) 2 (va_cpy (so 2) (sh 2) ((0 : Int32).toNatClampNeg) ((0 : Int32).toNatClampNeg) ((5 : Int32).toNatClampNeg))) 3 (va_cpy (so 3) (sh 3) ((0 : Int32).toNatClampNeg) ((0 : Int32).toNatClampNeg) ((3 : Int32).toNatClampNeg))) 4 (va_cpy (so 4) (sh 4) ((0 : Int32).toNatClampNeg) ((0 : Int32).toNatClampNeg) ((3 : Int32).toNatClampNeg))); ((so 0 0), (so 0 1), (va_cpy (so 1) (sh 1) ((0 : Int32).toNatClampNeg) ((0 : Int32).toNatClampNeg) ((5 : Int32).toNatClampNeg)), (va_cpy (so 2) (sh 2) ((0 : Int32).toNatClampNeg) ((0 : Int32).toNatClampNeg) ((5 : Int32).toNatClampNeg)), (va_cpy (so 3) (sh 3) ((0 : Int32).toNatClampNeg) ((0 : Int32).toNatClampNeg) ((3 : Int32).toNatClampNeg)), (va_cpy (so 4) (sh 4) ((0 : Int32).toNatClampNeg) ((0 : Int32).toNatClampNeg) ((3 : Int32).toNatClampNeg)), (so 0 6), (so 0 7), (so 0 8), (so 0 9), (so 0 10), ((-9) : Int32), (so 0 12), y39) else let y48 := J_X4_settle (up2 (up2 (up2 (up2 (up2 sh 0 (upd (upd (upd (upd (upd (upd (upd (upd (upd (sh 0) 0 (so 0 0)) 1 (so 0 1)) 6 (so 0 6)) 7 (so 0 7)) 8 (so 0 8)) 9 (so 0 9)) 10 (so 0 10)) 11 (-9)) 12 0)) 1 (va_cpy (so 1) (sh 1) ((0 : Int32).toNatClampNeg) ((0 : Int32).toNatClampNeg) ((5 : Int32).toNatClampNeg))) 2 (va_cpy (so 2) (sh 2) ((0 : Int32).toNatClampNeg) ((0 : Int32).toNatClampNeg) ((5 : Int32).toNatClampNeg))) 3 (va_cpy (so 3) (sh 3) ((0 : Int32).toNatClampNeg) ((0 : Int32).toNatClampNeg) ((3 : Int32).toNatClampNeg))) 4 (va_cpy (so 4) (sh 4) ((0 : Int32).toNatClampNeg) ((0 : Int32).toNatClampNeg) ((3 : Int32).toNatClampNeg))); ((so 0 0), (so 0 1), (va_cpy (so 1) (sh 1) ((0 : Int32).toNatClampNeg) ((0 : Int32).toNatClampNeg) ((5 : Int32).toNatClampNeg)), (va_cpy (so 2) (sh 2) ((0 : Int32).toNatClampNeg) ((0 : Int32).toNatClampNeg) ((5 : Int32).toNatClampNeg)), (va_cpy (so 3) (sh 3) ((0 : Int32).toNatClampNeg) ((0 : Int32).toNatClampNeg) ((3 : Int32).toNatClampNeg)), (va_cpy (so 4) (sh 4) ((0 : Int32).toNatClampNeg) ((0 : Int32).toNatClampNeg) ((3 : Int32).toNatClampNeg)), (so 0 6), (so 0 7), (so 0 8), (so 0 9), (so 0 10), ((-9) : Int32), (0 : Int32), y48) else if (p0 &&& (8 : Int32)) = 0 then if (p0 &&& (8 : Int32)) = 0 then let y62 := J_X4_settle (up2 (up2 (up2 (up2 (up2 sh 0 (upd (upd (upd (upd (upd (upd (upd (upd (upd (sh 0) 0 (so 0 0)) 1 (so 0 1)) 6 (so 0 6)) 7 (so 0 7)) 8 (so 0 8)) 9 (so 0 9)) 10 (-9)) 11 (so 0 11)) 12 (so 0 12))) 1 (va_cpy (so 1) (sh 1) ((0 : Int32).toNatClampNeg) ((0 : Int32).toNatClampNeg) ((5 : Int32).toNatClampNeg))) 2 (va_cpy (so 2) (sh 2) ((0 : Int32).toNatClampNeg) ((0 : Int32).toNatClampNeg) ((5 : Int32).toNatClampNeg))) 3 (va_cpy (so 3) (sh 3) ((0 : Int32).toNatClampNeg) ((0 : Int32).toNatClampNeg) ((3 : Int32).toNatClampNeg))) 4 (va_cpy (so 4) (sh 4) ((0 : Int32).toNatClampNeg) ((0 : Int32).toNatClampNeg) ((3 : Int32).toNatClampNeg))); ((so 0 0), (so 0 1), (va_cpy (so 1) (sh 1) ((0 : Int32).toNatClampNeg) ((0 : Int32).toNatClampNeg) ((5 : Int32).toNatClampNeg)), (va_cpy (so 2) (sh 2) ((0 : Int32).toNatClampNeg) ((0 : Int32).toNatClampNeg) ((5 : Int32).toNatClampNeg)), (va_cpy (so 3) (sh 3) ((0 : Int32).toNatClampNeg) ((0 : Int32).toNatClampNeg) ((3 : Int32).toNatClampNeg)), (va_cpy (so 4) (sh 4) ((0 : Int32).toNatClampNeg) ((0 : Int32).toNatClampNeg) ((3 : Int32).toNatClampNeg)), (so 0 6), (so 0 7), (so 0 8), (so 0 9), ((-9) : Int32), (so 0 11), (so 0 12), y62) else let y71 := J_X4_settle (up2 (up2 (up2 (up2 (up2 sh 0 (upd (upd (upd (upd (upd (upd (upd (upd (upd (sh 0) 0 (so 0 0)) 1 (so 0 1)) 6 (so 0 6)) 7 (so 0 7)) 8 (so 0 8)) 9 (so 0 9)) 10 (-9)) 11 (so 0 11)) 12 0)) 1 (va_cpy (so 1) (sh 1) ((0 : Int32).toNatClampNeg) ((0 : Int32).toNatClampNeg) ((5 : Int32).toNatClampNeg))) 2 (va_cpy (so 2) (sh 2) ((0 : Int32).toNatClampNeg) ((0 : Int32).toNatClampNeg) ((5 : Int32).toNatClampNeg))) 3 (va_cpy (so 3) (sh 3) ((0 : Int32).toNatClampNeg) ((0 : Int32).toNatClampNeg) ((3 : Int32).toNatClampNeg))) 4 (va_cpy (so 4) (sh 4) ((0 : Int32).toNatClampNeg) ((0 : Int32).toNatClampNeg) ((3 : Int32).toNatClampNeg))); ((so 0 0), (so 0 1), (va_cpy (so 1) (sh 1) ((0 : Int32).toNatClampNeg) ((0 : Int32).toNatClampNeg) ((5 : Int32).toNatClampNeg)), (va_cpy (so 2) (sh 2) ((0 : Int32).toNatClampNeg) ((0 : Int32).toNatClampNeg) ((5 : Int32).toNatClampNeg)), (va_cpy (so 3) (sh 3) ((0 : Int32).toNatClampNeg) ((0 : Int32).toNatClampNeg) ((3 : Int32).toNatClampNeg)), (va_cpy (so 4) (sh 4) ((0 : Int32).toNatClampNeg) ((0 : Int32).toNatClampNeg) ((3 : Int32).toNatClampNeg)), (so 0 6), (so 0 7), (so 0 8), (so 0 9), ((-9) : Int32), (so 0 11), (0 : Int32), y71) else if (p0 &&& (8 : Int32)) = 0 then let y83 := J_X4_settle (up2 (up2 (up2 (up2 (up2 sh 0 (upd (upd (upd (upd (upd (upd (upd (upd (upd (sh 0) 0 (so 0 0)) 1 (so 0 1)) 6 (so 0 6)) 7 (so 0 7)) 8 (so 0 8)) 9 (so 0 9)) 10 (-9)) 11 (-9)) 12 (so 0 12))) 1 (va_cpy (so 1) (sh 1) ((0 : Int32).toNatClampNeg) ((0 : Int32).toNatClampNeg) ((5 : Int32).toNatClampNeg))) 2 (va_cpy (so 2) (sh 2) ((0 : Int32).toNatClampNeg) ((0 : Int32).toNatClampNeg) ((5 : Int32).toNatClampNeg))) 3 (va_cpy (so 3) (sh 3) ((0 : Int32).toNatClampNeg) ((0 : Int32).toNatClampNeg) ((3 : Int32).toNatClampNeg))) 4 (va_cpy (so 4) (sh 4) ((0 : Int32).toNatClampNeg) ((0 : Int32).toNatClampNeg) ((3 : Int32).toNatClampNeg))); ((so 0 0), (so 0 1), (va_cpy (so 1) (sh 1) ((0 : Int32).toNatClampNeg) ((0 : Int32).toNatClampNeg) ((5 : Int32).toNatClampNeg)), (va_cpy (so 2) (sh 2) ((0 : Int32).toNatClampNeg) ((0 : Int32).toNatClampNeg) ((5 : Int32).toNatClampNeg)), (va_cpy (so 3) (sh 3) ((0 : Int32).toNatClampNeg) ((0 : Int32).toNatClampNeg) ((3 : Int32).toNatClampNeg)), (va_cpy (so 4) (sh 4) ((0 : Int32).toNatClampNeg) ((0 : Int32).toNatClampNeg) ((3 : Int32).toNatClampNeg)), (so 0 6), (so 0 7), (so 0 8), (so 0 9), ((-9) : Int32), ((-9) : Int32), (so 0 12), y83) else let y93 := J_X4_settle (up2 (up2 (up2 (up2 (up2 sh 0 (upd (upd (upd (upd (upd (upd (upd (upd (upd (sh 0) 0 (so 0 0)) 1 (so 0 1)) 6 (so 0 6)) 7 (so 0 7)) 8 (so 0 8)) 9 (so 0 9)) 10 (-9)) 11 (-9)) 12 0)) 1 (va_cpy (so 1) (sh 1) ((0 : Int32).toNatClampNeg) ((0 : Int32).toNatClampNeg) ((5 : Int32).toNatClampNeg))) 2 (va_cpy (so 2) (sh 2) ((0 : Int32).toNatClampNeg) ((0 : Int32).toNatClampNeg) ((5 : Int32).toNatClampNeg))) 3 (va_cpy (so 3) (sh 3) ((0 : Int32).toNatClampNeg) ((0 : Int32).toNatClampNeg) ((3 : Int32).toNatClampNeg))) 4 (va_cpy (so 4) (sh 4) ((0 : Int32).toNatClampNeg) ((0 : Int32).toNatClampNeg) ((3 : Int32).toNatClampNeg))); ((so 0 0), (so 0 1), (va_cpy (so 1) (sh 1) ((0 : Int32).toNatClampNeg) ((0 : Int32).toNatClampNeg) ((5 : Int32).toNatClampNeg)), (va_cpy (so 2) (sh 2) ((0 : Int32).toNatClampNeg) ((0 : Int32).toNatClampNeg) ((5 : Int32).toNatClampNeg)), (va_cpy (so 3) (sh 3) ((0 : Int32).toNatClampNeg) ((0 : Int32).toNatClampNeg) ((3 : Int32).toNatClampNeg)), (va_cpy (so 4) (sh 4) ((0 : Int32).toNatClampNeg) ((0 : Int32).toNatClampNeg) ((3 : Int32).toNatClampNeg)), (so 0 6), (so 0 7), (so 0 8), (so 0 9), ((-9) : Int32), ((-9) : Int32), (0 : Int32), y93) else if (p0 &&& (4 : Int32)) = 0 then if (p0 &&& (8 : Int32)) = 0 then if (p0 &&& (8 : Int32)) = 0 then let y110 := J_X4_settle (up2 (up2 (up2 (up2 (up2 sh 0 (upd (upd (upd (upd (upd (upd (upd (upd (upd (sh 0) 0 (so 0 0)) 1 (so 0 1)) 6 (so 0 6)) 7 (so 0 7)) 8 (so 0 8)) 9 (-9)) 10 (so 0 10)) 11 (so 0 11)) 12 (so 0 12))) 1 (va_cpy (so 1) (sh 1) ((0 : Int32).toNatClampNeg) ((0 : Int32).toNatClampNeg) ((5 : Int32).toNatClampNeg))) 2 (va_cpy (so 2) (sh 2) ((0 : Int32).toNatClampNeg) ((0 : Int32).toNatClampNeg) ((5 : Int32).toNatClampNeg))) 3 (va_cpy (so 3) (sh 3) ((0 : Int32).toNatClampNeg) ((0 : Int32).toNatClampNeg) ((3 : Int32).toNatClampNeg))) 4 (va_cpy (so 4) (sh 4) ((0 : Int32).toNatClampNeg) ((0 : Int32).toNatClampNeg) ((3 : Int32).toNatClampNeg))); ((so 0 0), (so 0 1), (va_cpy (so 1) (sh 1) ((0 : Int32).toNatClampNeg) ((0 : Int32).toNatClampNeg) ((5 : Int32).toNatClampNeg)), (va_cpy (so 2) (sh 2) ((0 : Int32).toNatClampNeg) ((0 : Int32).toNatClampNeg) ((5 : Int32).toNatClampNeg)), (va_cpy (so 3) (sh 3) ((0 : Int32).toNatClampNeg) ((0 : Int32).toNatClampNeg) ((3 : Int32).toNatClampNeg)), (va_cpy (so 4) (sh 4) ((0 : Int32).toNatClampNeg) ((0 : Int32).toNatClampNeg) ((3 : Int32).toNatClampNeg)), (so 0 6), (so 0 7), (so 0 8), ((-9) : Int32), (so 0 10), (so 0 11), (so 0 12), y110) else let y119 := J_X4_settle (up2 (up2 (up2 (up2 (up2 sh 0 (upd (upd (upd (upd (upd (upd (upd (upd (upd (sh 0) 0 (so 0 0)) 1 (so 0 1)) 6 (so 0 6)) 7 (so 0 7)) 8 (so 0 8)) 9 (-9)) 10 (so 0 10)) 11 (so 0 11)) 12 0)) 1 (va_cpy (so 1) (sh 1) ((0 : Int32).toNatClampNeg) ((0 : Int32).toNatClampNeg) ((5 : Int32).toNatClampNeg))) 2 (va_cpy (so 2) (sh 2) ((0 : Int32).toNatClampNeg) ((0 : Int32).toNatClampNeg) ((5 : Int32).toNatClampNeg))) 3 (va_cpy (so 3) (sh 3) ((0 : Int32).toNatClampNeg) ((0 : Int32).toNatClampNeg) ((3 : Int32).toNatClampNeg))) 4 (va_cpy (so 4) (sh 4) ((0 : Int32).toNatClampNeg) ((0 : Int32).toNatClampNeg) ((3 : Int32).toNatClampNeg))); ((so 0 0), (so 0 1), (va_cpy (so 1) (sh 1) ((0 : Int32).toNatClampNeg) ((0 : Int32).toNatClampNeg) ((5 : Int32).toNatClampNeg)), (va_cpy (so 2) (sh 2) ((0 : Int32).toNatClampNeg) ((0 : Int32).toNatClampNeg) ((5 : Int32).toNatClampNeg)), (va_cpy (so 3) (sh 3) ((0 : Int32).toNatClampNeg) ((0 : Int32).toNatClampNeg) ((3 : Int32).toNatClampNeg)), (va_cpy (so 4) (sh 4) ((0 : Int32).toNatClampNeg) ((0 : Int32).toNatClampNeg) ((3 : Int32).toNatClampNeg)), (so 0 6), (so 0 7), (so 0 8), ((-9) : Int32), (so 0 10), (so 0 11), (0 : Int32), y119) else if (p0 &&& (8 : Int32)) = 0 then let y131 := J_X4_settle (up2 (up2 (up2 (up2 (up2 sh 0 (upd (upd (upd (upd (upd (upd (upd (upd (upd (sh 0) 0 (so 0 0)) 1 (so 0 1)) 6 (so 0 6)) 7 (so 0 7)) 8 (so 0 8)) 9 (-9)) 10 (so 0 10)) 11 (-9)) 12 (so 0 12))) 1 (va_cpy (so 1) (sh 1) ((0 : Int32).toNatClampNeg) ((0 : Int32).toNatClampNeg) ((5 : Int32).toNatClampNeg))) 2 (va_cpy (so 2) (sh 2) ((0 : Int32).toNatClampNeg) ((0 : Int32).toNatClampNeg) ((5 : Int32).toNatClampNeg))) 3 (va_cpy (so 3) (sh 3) ((0 : Int32).toNatClampNeg) ((0 : Int32).toNatClampNeg) ((3 : Int32).toNatClampNeg))) 4 (va_cpy (so 4) (sh 4) ((0 : Int32).toNatClampNeg) ((0 : Int32).toNatClampNeg) ((3 : Int32).toNatClampNeg))); ((so 0 0), (so 0 1), (va_cpy (so 1) (sh 1) ((0 : Int32).toNatClampNeg) ((0 : Int32).toNatClampNeg) ((5 : Int32).toNatClampNeg)), (va_cpy (so 2) (sh 2) ((0 : Int32).toNatClampNeg) ((0 : Int32).toNatClampNeg) ((5 : Int32).toNatClampNeg)), (va_cpy (so 3) (sh 3) ((0 : Int32).toNatClampNeg) ((0 : Int32).toNatClampNeg) ((3 : Int32).toNatClampNeg)), (va_cpy (so 4) (sh 4) ((0 : Int32).toNatClampNeg) ((0 : Int32).toNatClampNeg) ((3 : Int32).toNatClampNeg)), (so 0 6), (so 0 7), (so 0 8), ((-9) : Int32), (so 0 10), ((-9) : Int32), (so 0 12), y131) else let y141 := J_X4_settle (up2 (up2 (up2 (up2 (up2 sh 0 (upd (upd (upd (upd (upd (upd (upd (upd (upd (sh 0) 0 (so 0 0)) 1 (so 0 1)) 6 (so 0 6)) 7 (so 0 7)) 8 (so 0 8)) 9 (-9)) 10 (so 0 10)) 11 (-9)) 12 0)) 1 (va_cpy (so 1) (sh 1) ((0 : Int32).toNatClampNeg) ((0 : Int32).toNatClampNeg) ((5 : Int32).toNatClampNeg))) 2 (va_cpy (so 2) (sh 2) ((0 : Int32).toNatClampNeg) ((0 : Int32).toNatClampNeg) ((5 : Int32).toNatClampNeg))) 3 (va_cpy (so 3) (sh 3) ((0 : Int32).toNatClampNeg) ((0 : Int32).toNatClampNeg) ((3 : Int32).toNatClampNeg))) 4 (va_cpy (so 4) (sh 4) ((0 : Int32).toNatClampNeg) ((0 : Int32).toNatClampNeg) ((3 : Int32).toNatClampNeg))); ((so 0 0), (so 0 1), (va_cpy (so 1) (sh 1) ((0 : Int32).toNatClampNeg) ((0 : Int32).toNatClampNeg) ((5 : Int32).toNatClampNeg)), (va_cpy (so 2) (sh 2) ((0 : Int32).toNatClampNeg) ((0 : Int32).toNatClampNeg) ((5 : Int32).toNatClampNeg)), (va_cpy (so 3) (sh 3) ((0 : Int32).toNatClampNeg) ((0 : Int32).toNatClampNeg) ((3 : Int32).toNatClampNeg)), (va_cpy (so 4) (sh 4) ((0 : Int32).toNatClampNeg) ((0 : Int32).toNatClampNeg) ((3 : Int32).toNatClampNeg)), (so 0 6), (so 0 7), (so 0 8), ((-9) : Int32), (so 0 10), ((-9) : Int32), (0 : Int32), y141) else if (p0 &&& (8 : Int32)) = 0 then if (p0 &&& (8 : Int32)) = 0 then let y156 := J_X4_settle (up2 (up2 (up2 (up2 (up2 sh 0 (upd (upd (upd (upd (upd (upd (upd (upd (upd (sh 0) 0 (so 0 0)) 1 (so 0 1)) 6 (so 0 6)) 7 (so 0 7)) 8 (so 0 8)) 9 (-9)) 10 (-9)) 11 (so 0 11)) 12 (so 0 12))) 1 (va_cpy (so 1) (sh 1) ((0 : Int32).toNatClampNeg) ((0 : Int32).toNatClampNeg) ((5 : Int32).toNatClampNeg))) 2 (va_cpy (so 2) (sh 2) ((0 : Int32).toNatClampNeg) ((0 : Int32).toNatClampNeg) ((5 : Int32).toNatClampNeg))) 3 (va_cpy (so 3) (sh 3) ((0 : Int32).toNatClampNeg) ((0 : Int32).toNatClampNeg) ((3 : Int32).toNatClampNeg))) 4 (va_cpy (so 4) (sh 4) ((0 : Int32).toNatClampNeg) ((0 : Int32).toNatClampNeg) ((3 : Int32).toNatClampNeg))); ((so 0 0), (so 0 1), (va_cpy (so 1) (sh 1) ((0 : Int32).toNatClampNeg) ((0 : Int32).toNatClampNeg) ((5 : Int32).toNatClampNeg)), (va_cpy (so 2) (sh 2) ((0 : Int32).toNatClampNeg) ((0 : Int32).toNatClampNeg) ((5 : Int32).toNatClampNeg)), (va_cpy (so 3) (sh 3) ((0 : Int32).toNatClampNeg) ((0 : Int32).toNatClampNeg) ((3 : Int32).toNatClampNeg)), (va_cpy (so 4) (sh 4) ((0 : Int32).toNatClampNeg) ((0 : Int32).toNatClampNeg) ((3 : Int32).toNatClampNeg)), (so 0 6), (so 0 7), (so 0 8), ((-9) : Int32), ((-9) : Int32), (so 0 11), (so 0 12), y156) else let y166 := J_X4_settle (up2 (up2 (up2 (up2 (up2 sh 0 (upd (upd (upd (upd (upd (upd (upd (upd (upd (sh 0) 0 (so 0 0)) 1 (so 0 1)) 6 (so 0 6)) 7 (so 0 7)) 8 (so 0 8)) 9 (-9)) 10 (-9)) 11 (so 0 11)) 12 0)) 1 (va_cpy (so 1) (sh 1) ((0 : Int32).toNatClampNeg) ((0 : Int32).toNatClampNeg) ((5 : Int32).toNatClampNeg))) 2 (va_cpy (so 2) (sh 2) ((0 : Int32).toNatClampNeg) ((0 : Int32).toNatClampNeg) ((5 : Int32).toNatClampNeg))) 3 (va_cpy (so 3) (sh 3) ((0 : Int32).toNatClampNeg) ((0 : Int32).toNatClampNeg) ((3 : Int32).toNatClampNeg))) 4 (va_cpy (so 4) (sh 4) ((0 : Int32).toNatClampNeg) ((0 : Int32).toNatClampNeg) ((3 : Int32).toNatClampNeg))); ((so 0 0), (so 0 1), (va_cpy (so 1) (sh 1) ((0 : Int32).toNatClampNeg) ((0 : Int32).toNatClampNeg) ((5 : Int32).toNatClampNeg)), (va_cpy (so 2) (sh 2) ((0 : Int32).toNatClampNeg) ((0 : Int32).toNatClampNeg) ((5 : Int32).toNatClampNeg)), (va_cpy (so 3) (sh 3) ((0 : Int32).toNatClampNeg) ((0 : Int32).toNatClampNeg) ((3 : Int32).toNatClampNeg)), (va_cpy (so 4) (sh 4) ((0 : Int32).toNatClampNeg) ((0 : Int32).toNatClampNeg) ((3 : Int32).toNatClampNeg)), (so 0 6), (so 0 7), (so 0 8), ((-9) : Int32), ((-9) : Int32), (so 0 11), (0 : Int32), y166) else if (p0 &&& (8 : Int32)) = 0 then let y179 := J_X4_settle (up2 (up2 (up2 (up2 (up2 sh 0 (upd (upd (upd (upd (upd (upd (upd (upd (upd (sh 0) 0 (so 0 0)) 1 (so 0 1)) 6 (so 0 6)) 7 (so 0 7)) 8 (so 0 8)) 9 (-9)) 10 (-9)) 11 (-9)) 12 (so 0 12))) 1 (va_cpy (so 1) (sh 1) ((0 : Int32).toNatClampNeg) ((0 : Int32).toNatClampNeg) ((5 : Int32).toNatClampNeg))) 2 (va_cpy (so 2) (sh 2) ((0 : Int32).toNatClampNeg) ((0 : Int32).toNatClampNeg) ((5 : Int32).toNatClampNeg))) 3 (va_cpy (so 3) (sh 3) ((0 : Int32).toNatClampNeg) ((0 : Int32).toNatClampNeg) ((3 : Int32).toNatClampNeg))) 4 (va_cpy (so 4) (sh 4) ((0 : Int32).toNatClampNeg) ((0 : Int32).toNatClampNeg) ((3 : Int32).toNatClampNeg))); ((so 0 0), (so 0 1), (va_cpy (so 1) (sh 1) ((0 : Int32).toNatClampNeg) ((0 : Int32).toNatClampNeg) ((5 : Int32).toNatClampNeg)), (va_cpy (so 2) (sh 2) ((0 : Int32).toNatClampNeg) ((0 : Int32).toNatClampNeg) ((5 : Int32).toNatClampNeg)), (va_cpy (so 3) (sh 3) ((0 : Int32).toNatClampNeg) ((0 : Int32).toNatClampNeg) ((3 : Int32).toNatClampNeg)), (va_cpy (so 4) (sh 4) ((0 : Int32).toNatClampNeg) ((0 : Int32).toNatClampNeg) ((3 : Int32).toNatClampNeg)), (so 0 6), (so 0 7), (so 0 8), ((-9) : Int32), ((-9) : Int32), ((-9) : Int32), (so 0 12), y179) else let y190 := J_X4_settle (up2 (up2 (up2 (up2 (up2 sh 0 (upd (upd (upd (upd (upd (upd (upd (upd (upd (sh 0) 0 (so 0 0)) 1 (so 0 1)) 6 (so 0 6)) 7 (so 0 7)) 8 (so 0 8)) 9 (-9)) 10 (-9)) 11 (-9)) 12 0)) 1 (va_cpy (so 1) (sh 1) ((0 : Int32).toNatClampNeg) ((0 : Int32).toNatClampNeg) ((5 : Int32).toNatClampNeg))) 2 (va_cpy (so 2) (sh 2) ((0 : Int32).toNatClampNeg) ((0 : Int32).toNatClampNeg) ((5 : Int32).toNatClampNeg))) 3 (va_cpy (so 3) (sh 3) ((0 : Int32).toNatClampNeg) ((0 : Int32).toNatClampNeg) ((3 : Int32).toNatClampNeg))) 4 (va_cpy (so 4) (sh 4) ((0 : Int32).toNatClampNeg) ((0 : Int32).toNatClampNeg) ((3 : Int32).toNatClampNeg))); ((so 0 0), (so 0 1), (va_cpy (so 1) (sh 1) ((0 : Int32).toNatClampNeg) ((0 : Int32).toNatClampNeg) ((5 : Int32).toNatClampNeg)), (va_cpy (so 2) (sh 2) ((0 : Int32).toNatClampNeg) ((0 : Int32).toNatClampNeg) ((5 : Int32).toNatClampNeg)), (va_cpy (so 3) (sh 3) ((0 : Int32).toNatClampNeg) ((0 : Int32).toNatClampNeg) ((3 : Int32).toNatClampNeg)), (va_cpy (so 4) (sh 4) ((0 : Int32).toNatClampNeg) ((0 : Int32).toNatClampNeg) ((3 : Int32).toNatClampNeg)), (so 0 6), (so 0 7), (so 0 8), ((-9) : Int32), ((-9) : Int32), ((-9) : Int32), (0 : Int32), y190) else if (p0 &&& (2 : Int32)) = 0 then if (p0 &&& (4 : Int32)) = 0 then if (p0 &&& (8 : Int32)) = 0 then if (p0 &&& (8 : Int32)) = 0 then let y210 := J_X4_settle (up2 (up2 (up2 (up2 (up2 sh 0 (upd (upd (upd (upd (upd (upd (upd (upd (upd (sh 0) 0 (so 0 0)) 1 (so 0 1)) 6 (so 0 6)) 7 (so 0 7)) 8 (-9)) 9 (so 0 9)) 10 (so 0 10)) 11 (so 0 11)) 12 (so 0 12))) 1 (va_cpy (so 1) (sh 1) ((0 : Int32).toNatClampNeg) ((0 : Int32).toNatClampNeg) ((5 : Int32).toNatClampNeg))) 2 (va_cpy (so 2) (sh 2) ((0 : Int32).toNatClampNeg) ((0 : Int32).toNatClampNeg) ((5 : Int32).toNatClampNeg))) 3 (va_cpy (so 3) (sh 3) ((0 : Int32).toNatClampNeg) ((0 : Int32).toNatClampNeg) ((3 : Int32).toNatClampNeg))) 4 (va_cpy (so 4) (sh 4) ((0 : Int32).toNatClampNeg) ((0 : Int32).toNatClampNeg) ((3 : Int32).toNatClampNeg))); ((so 0 0), (so 0 1), (va_cpy (so 1) (sh 1) ((0 : Int32).toNatClampNeg) ((0 : Int32).toNatClampNeg) ((5 : Int32).toNatClampNeg)), (va_cpy (so 2) (sh 2) ((0 : Int32).toNatClampNeg) ((0 : Int32).toNatClampNeg) ((5 : Int32).toNatClampNeg)), (va_cpy (so 3) (sh 3) ((0 : Int32).toNatClampNeg) ((0 : Int32).toNatClampNeg) ((3 : Int32).toNatClampNeg)), (va_cpy (so 4) (sh 4) ((0 : Int32).toNatClampNeg) ((0 : Int32).toNatClampNeg) ((3 : Int32).toNatClampNeg)), (so 0 6), (so 0 7), ((-9) : Int32), (so 0 9), (so 0 10), (so 0 11), (so 0 12), y210) else let y219 := J_X4_settle (up2 (up2 (up2 (up2 (up2 sh 0 (upd (upd (upd (upd (upd (upd (upd (upd (upd (sh 0) 0 (so 0 0)) 1 (so 0 1)) 6 (so 0 6)) 7 (so 0 7)) 8 (-9)) 9 (so 0 9)) 10 (so 0 10)) 11 (so 0 11)) 12 0)) 1 (va_cpy (so 1) (sh 1) ((0 : Int32).toNatClampNeg) ((0 : Int32).toNatClampNeg) ((5 : Int32).toNatClampNeg))) 2 (va_cpy (so 2) (sh 2) ((0 : Int32).toNatClampNeg) ((0 : Int32).toNatClampNeg) ((5 : Int32).toNatClampNeg))) 3 (va_cpy (so 3) (sh 3) ((0 : Int32).toNatClampNeg) ((0 : Int32).toNatClampNeg) ((3 : Int32).toNatClampNeg))) 4 (va_cpy (so 4) (sh 4) ((0 : Int32).toNatClampNeg) ((0 : Int32).toNatClampNeg) ((3 : Int32).toNatClampNeg))); ((so 0 0), (so 0 1), (va_cpy (so 1) (sh 1) ((0 : Int32).toNatClampNeg) ((0 : Int32).toNatClampNeg) ((5 : Int32).toNatClampNeg)), (va_cpy (so 2) (sh 2) ((0 : Int32).toNatClampNeg) ((0 : Int32).toNatClampNeg) ((5 : Int32).toNatClampNeg)), (va_cpy (so 3) (sh 3) ((0 : Int32).toNatClampNeg) ((0 : Int32).toNatClampNeg) ((3 : Int32).toNatClampNeg)), (va_cpy (so 4) (sh 4) ((0 : Int32).toNatClampNeg) ((0 : Int32).toNatClampNeg) ((3 : Int32).toNatClampNeg)), (so 0 6), (so 0 7), ((-9) : Int32), (so 0 9), (so 0 10), (so 0 11), (0 : Int32), y219) else if (p0 &&& (8 : Int32)) = 0 then let y231 := J_X4_settle (up2 (up2 (up2 (up2 (up2 sh 0 (upd (upd (upd (upd (upd (upd (upd (upd (upd (sh 0) 0 (so 0 0)) 1 (so 0 1)) 6 (so 0 6)) 7 (so 0 7)) 8 (-9)) 9 (so 0 9)) 10 (so 0 10)) 11 (-9)) 12 (so 0 12))) 1 (va_cpy (so 1) (sh 1) ((0 : Int32).toNatClampNeg) ((0 : Int32).toNatClampNeg) ((5 : Int32).toNatClampNeg))) 2 (va_cpy (so 2) (sh 2) ((0 : Int32).toNatClampNeg) ((0 : Int32).toNatClampNeg) ((5 : Int32).toNatClampNeg))) 3 (va_cpy (so 3) (sh 3) ((0 : Int32).toNatClampNeg) ((0 : Int32).toNatClampNeg) ((3 : Int32).toNatClampNeg))) 4 (va_cpy (so 4) (sh 4) ((0 : Int32).toNatClampNeg) ((0 : Int32).toNatClampNeg) ((3 : Int32).toNatClampNeg))); ((so 0 0), (so 0 1), (va_cpy (so 1) (sh 1) ((0 : Int32).toNatClampNeg) ((0 : Int32).toNatClampNeg) ((5 : Int32).toNatClampNeg)), (va_cpy (so 2) (sh 2) ((0 : Int32).toNatClampNeg) ((0 : Int32).toNatClampNeg) ((5 : Int32).toNatClampNeg)), (va_cpy (so 3) (sh 3) ((0 : Int32).toNatClampNeg) ((0 : Int32).toNatClampNeg) ((3 : Int32).toNatClampNeg)), (va_cpy (so 4) (sh 4) ((0 : Int32).toNatClampNeg) ((0 : Int32).toNatClampNeg) ((3 : Int32).toNatClampNeg)), (so 0 6), (so 0 7), ((-9) : Int32), (so 0 9), (so 0 10), ((-9) : Int32), (so 0 12), y231) else let y241 := J_X4_settle (up2 (up2 (up2 (up2 (up2 sh 0 (upd (upd (upd (upd (upd (upd (upd (upd (upd (sh 0) 0 (so 0 0)) 1 (so 0 1)) 6 (so 0 6)) 7 (so 0 7)) 8 (-9)) 9 (so 0 9)) 10 (so 0 10)) 11 (-9)) 12 0)) 1 (va_cpy (so 1) (sh 1) ((0 : Int32).toNatClampNeg) ((0 : Int32).toNatClampNeg) ((5 : Int32).toNatClampNeg))) 2 (va_cpy (so 2) (sh 2) ((0 : Int32).toNatClampNeg) ((0 : Int32).toNatClampNeg) ((5 : Int32).toNatClampNeg))) 3 (va_cpy (so 3) (sh 3) ((0 : Int32).toNatClampNeg) ((0 : Int32).toNatClampNeg) ((3 : Int32).toNatClampNeg))) 4 (va_cpy (so 4) (sh 4) ((0 : Int32).toNatClampNeg) ((0 : Int32).toNatClampNeg) ((3 : Int32).toNatClampNeg))); ((so 0 0), (so 0 1), (va_cpy (so 1) (sh 1) ((0 : Int32).toNatClampNeg) ((0 : Int32).toNatClampNeg) ((5 : Int32).toNatClampNeg)), (va_cpy (so 2) (sh 2) ((0 : Int32).toNatClampNeg) ((0 : Int32).toNatClampNeg) ((5 : Int32).toNatClampNeg)), (va_cpy (so 3) (sh 3) ((0 : Int32).toNatClampNeg) ((0 : Int32).toNatClampNeg) ((3 : Int32).toNatClampNeg)), (va_cpy (so 4) (sh 4) ((0 : Int32).toNatClampNeg) ((0 : Int32).toNatClampNeg) ((3 : Int32).toNatClampNeg)), (so 0 6), (so 0 7), ((-9) : Int32), (so 0 9), (so 0 10), ((-9) : Int32), (0 : Int32), y241) else if (p0 &&& (8 : Int32)) = 0 then if (p0 &&& (8 : Int32)) = 0 then let y256 := J_X4_settle (up2 (up2 (up2 (up2 (up2 sh 0 (upd (upd (upd (upd (upd (upd (upd (upd (upd (sh 0) 0 (so 0 0)) 1 (so 0 1)) 6 (so 0 6)) 7 (so 0 7)) 8 (-9)) 9 (so 0 9)) 10 (-9)) 11 (so 0 11)) 12 (so 0 12))) 1 (va_cpy (so 1) (sh 1) ((0 : Int32).toNatClampNeg) ((0 : Int32).toNatClampNeg) ((5 : Int32).toNatClampNeg))) 2 (va_cpy (so 2) (sh 2) ((0 : Int32).toNatClampNeg) ((0 : Int32).toNatClampNeg) ((5 : Int32).toNatClampNeg))) 3 (va_cpy (so 3) (sh 3) ((0 : Int32).toNatClampNeg) ((0 : Int32).toNatClampNeg) ((3 : Int32).toNatClampNeg))) 4 (va_cpy (so 4) (sh 4) ((0 : Int32).toNatClampNeg) ((0 : Int32).toNatClampNeg) ((3 : Int32).toNatClampNeg))); ((so 0 0), (so 0 1), (va_cpy (so 1) (sh 1) ((0 : Int32).toNatClampNeg) ((0 : Int32).toNatClampNeg) ((5 : Int32).toNatClampNeg)), (va_cpy (so 2) (sh 2) ((0 : Int32).toNatClampNeg) ((0 : Int32).toNatClampNeg) ((5 : Int32).toNatClampNeg)), (va_cpy (so 3) (sh 3) ((0 : Int32).toNatClampNeg) ((0 : Int32).toNatClampNeg) ((3 : Int32).toNatClampNeg)), (va_cpy (so 4) (sh 4) ((0 : Int32).toNatClampNeg) ((0 : Int32).toNatClampNeg) ((3 : Int32).toNatClampNeg)), (so 0 6), (so 0 7), ((-9) : Int32), (so 0 9), ((-9) : Int32), (so 0 11), (so 0 12), y256) else let y266 := J_X4_settle (up2 (up2 (up2 (up2 (up2 sh 0 (upd (upd (upd (upd (upd (upd (upd (upd (upd (sh 0) 0 (so 0 0)) 1 (so 0 1)) 6 (so 0 6)) 7 (so 0 7)) 8 (-9)) 9 (so 0 9)) 10 (-9)) 11 (so 0 11)) 12 0)) 1 (va_cpy (so 1) (sh 1) ((0 : Int32).toNatClampNeg) ((0 : Int32).toNatClampNeg) ((5 : Int32).toNatClampNeg))) 2 (va_cpy (so 2) (sh 2) ((0 : Int32).toNatClampNeg) ((0 : Int32).toNatClampNeg) ((5 : Int32).toNatClampNeg))) 3 (va_cpy (so 3) (sh 3) ((0 : Int32).toNatClampNeg) ((0 : Int32).toNatClampNeg) ((3 : Int32).toNatClampNeg))) 4 (va_cpy (so 4) (sh 4) ((0 : Int32).toNatClampNeg) ((0 : Int32).toNatClampNeg) ((3 : Int32).toNatClampNeg))); ((so 0 0), (so 0 1), (va_cpy (so 1) (sh 1) ((0 : Int32).toNatClampNeg) ((0 : Int32).toNatClampNeg) ((5 : Int32).toNatClampNeg)), (va_cpy (so 2) (sh 2) ((0 : Int32).toNatClampNeg) ((0 : Int32).toNatClampNeg) ((5 : Int32).toNatClampNeg)), (va_cpy (so 3) (sh 3) ((0 : Int32).toNatClampNeg) ((0 : Int32).toNatClampNeg) ((3 : Int32).toNatClampNeg)), (va_cpy (so 4) (sh 4) ((0 : Int32).toNatClampNeg) ((0 : Int32).toNatClampNeg) ((3 : Int32).toNatClampNeg)), (so 0 6), (so 0 7), ((-9) : Int32), (so 0 9), ((-9) : Int32), (so 0 11), (0 : Int32), y266) else if (p0 &&& (8 : Int32)) = 0 then let y279 := J_X4_settle (up2 (up2 (up2 (up2 (up2 sh 0 (upd (upd (upd (upd (upd (upd (upd (upd (upd (sh 0) 0 (so 0 0)) 1 (so 0 1)) 6 (so 0 6)) 7 (so 0 7)) 8 (-9)) 9 (so 0 9)) 10 (-9)) 11 (-9)) 12 (so 0 12))) 1 (va_cpy (so 1) (sh 1) ((0 : Int32).toNatClampNeg) ((0 : Int32).toNatClampNeg) ((5 : Int32).toNatClampNeg))) 2 (va_cpy (so 2) (sh 2) ((0 : Int32).toNatClampNeg) ((0 : Int32).toNatClampNeg) ((5 : Int32).toNatClampNeg))) 3 (va_cpy (so 3) (sh 3) ((0 : Int32).toNatClampNeg) ((0 : Int32).toNatClampNeg) ((3 : Int32).toNatClampNeg))) 4 (va_cpy (so 4) (sh 4) ((0 : Int32).toNatClampNeg) ((0 : Int32).toNatClampNeg) ((3 : Int32).toNatClampNeg))); ((so 0 0), (so 0 1), (va_cpy (so 1) (sh 1) ((0 : Int32).toNatClampNeg) ((0 : Int32).toNatClampNeg) ((5 : Int32).toNatClampNeg)), (va_cpy (so 2) (sh 2) ((0 : Int32).toNatClampNeg) ((0 : Int32).toNatClampNeg) ((5 : Int32).toNatClampNeg)), (va_cpy (so 3) (sh 3) ((0 : Int32).toNatClampNeg) ((0 : Int32).toNatClampNeg) ((3 : Int32).toNatClampNeg)), (va_cpy (so 4) (sh 4) ((0 : Int32).toNatClampNeg) ((0 : Int32).toNatClampNeg) ((3 : Int32).toNatClampNeg)), (so 0 6), (so 0 7), ((-9) : Int32), (so 0 9), ((-9) : Int32), ((-9) : Int32), (so 0 12), y279) else let y290 := J_X4_settle (up2 (up2 (up2 (up2 (up2 sh 0 (upd (upd (upd (upd (upd (upd (upd (upd (upd (sh 0) 0 (so 0 0)) 1 (so 0 1)) 6 (so 0 6)) 7 (so 0 7)) 8 (-9)) 9 (so 0 9)) 10 (-9)) 11 (-9)) 12 0)) 1 (va_cpy (so 1) (sh 1) ((0 : Int32).toNatClampNeg) ((0 : Int32).toNatClampNeg) ((5 : Int32).toNatClampNeg))) 2 (va_cpy (so 2) (sh 2) ((0 : Int32).toNatClampNeg) ((0 : Int32).toNatClampNeg) ((5 : Int32).toNatClampNeg))) 3 (va_cpy (so 3) (sh 3) ((0 : Int32).toNatClampNeg) ((0 : Int32).toNatClampNeg) ((3 : Int32).toNatClampNeg))) 4 (va_cpy (so 4) (sh 4) ((0 : Int32).toNatClampNeg) ((0 : Int32).toNatClampNeg) ((3 : Int32).toNatClampNeg))); ((so 0 0), (so 0 1), (va_cpy (so 1) (sh 1) ((0 : Int32).toNatClampNeg) ((0 : Int32).toNatClampNeg) ((5 : Int32).toNatClampNeg)), (va_cpy (so 2) (sh 2) ((0 : Int32).toNatClampNeg) ((0 : Int32).toNatClampNeg) ((5 : Int32).toNatClampNeg)), (va_cpy (so 3) (sh 3) ((0 : Int32).toNatClampNeg) ((0 : Int32).toNatClampNeg) ((3 : Int32).toNatClampNeg)), (va_cpy (so 4) (sh 4) ((0 : Int32).toNatClampNeg) ((0 : Int32).toNatClampNeg) ((3 : Int32).toNatClampNeg)), (so 0 6), (so 0 7), ((-9) : Int32), (so 0 9), ((-9) : Int32), ((-9) : Int32), (0 : Int32), y290) else if (p0 &&& (4 : Int32)) = 0 then if (p0 &&& (8 : Int32)) = 0 then if (p0 &&& (8 : Int32)) = 0 then let y308 := J_X4_settle (up2 (up2 (up2 (up2 (up2 sh 0 (upd (upd (upd (upd (upd (upd (upd (upd (upd (sh 0) 0 (so 0 0)) 1 (so 0 1)) 6 (so 0 6)) 7 (so 0 7)) 8 (-9)) 9 (-9)) 10 (so 0 10)) 11 (so 0 11)) 12 (so 0 12))) 1 (va_cpy (so 1) (sh 1) ((0 : Int32).toNatClampNeg) ((0 : Int32).toNatClampNeg) ((5 : Int32).toNatClampNeg))) 2 (va_cpy (so 2) (sh 2) ((0 : Int32).toNatClampNeg) ((0 : Int32).toNatClampNeg) ((5 : Int32).toNatClampNeg))) 3 (va_cpy (so 3) (sh 3) ((0 : Int32).toNatClampNeg) ((0 : Int32).toNatClampNeg) ((3 : Int32).toNatClampNeg))) 4 (va_cpy (so 4) (sh 4) ((0 : Int32).toNatClampNeg) ((0 : Int32).toNatClampNeg) ((3 : Int32).toNatClampNeg))); ((so 0 0), (so 0 1), (va_cpy (so 1) (sh 1) ((0 : Int32).toNatClampNeg) ((0 : Int32).toNatClampNeg) ((5 : Int32).toNatClampNeg)), (va_cpy (so 2) (sh 2) ((0 : Int32).toNatClampNeg) ((0 : Int32).toNatClampNeg) ((5 : Int32).toNatClampNeg)), (va_cpy (so 3) (sh 3) ((0 : Int32).toNatClampNeg) ((0 : Int32).toNatClampNeg) ((3 : Int32).toNatClampNeg)), (va_cpy (so 4) (sh 4) ((0 : Int32).toNatClampNeg) ((0 : Int32).toNatClampNeg) ((3 : Int32).toNatClampNeg)), (so 0 6), (so 0 7), ((-9) : Int32), ((-9) : Int32), (so 0 10), (so 0 11), (so 0 12), y308) else let y318 := J_X4_settle (up2 (up2 (up2 (up2 (up2 sh 0 (upd (upd (upd (upd (upd (upd (upd (upd (upd (sh 0) 0 (so 0 0)) 1 (so 0 1)) 6 (so 0 6)) 7 (so 0 7)) 8 (-9)) 9 (-9)) 10 (so 0 10)) 11 (so 0 11)) 12 0)) 1 (va_cpy (so 1) (sh 1) ((0 : Int32).toNatClampNeg) ((0 : Int32).toNatClampNeg) ((5 : Int32).toNatClampNeg))) 2 (va_cpy (so 2) (sh 2) ((0 : Int32).toNatClampNeg) ((0 : Int32).toNatClampNeg) ((5 : Int32).toNatClampNeg))) 3 (va_cpy (so 3) (sh 3) ((0 : Int32).toNatClampNeg) ((0 : Int32).toNatClampNeg) ((3 : Int32).toNatClampNeg))) 4 (va_cpy (so 4) (sh 4) ((0 : Int32).toNatClampNeg) ((0 : Int32).toNatClampNeg) ((3 : Int32).toNatClampNeg))); ((so 0 0), (so 0 1), (va_cpy (so 1) (sh 1) ((0 : Int32).toNatClampNeg) ((0 : Int32).toNatClampNeg) ((5 : Int32).toNatClampNeg)), (va_cpy (so 2) (sh 2) ((0 : Int32).toNatClampNeg) ((0 : Int32).toNatClampNeg) ((5 : Int32).toNatClampNeg)), (va_cpy (so 3) (sh 3) ((0 : Int32).toNatClampNeg) ((0 : Int32).toNatClampNeg) ((3 : Int32).toNatClampNeg)), (va_cpy (so 4) (sh 4) ((0 : Int32).toNatClampNeg) ((0 : Int32).toNatClampNeg) ((3 : Int32).toNatClampNeg)), (so 0 6), (so 0 7), ((-9) : Int32), ((-9) : Int32), (so 0 10), (so 0 11), (0 : Int32), y318) else if (p0 &&& (8 : Int32)) = 0 then let y331 := J_X4_settle (up2 (up2 (up2 (up2 (up2 sh 0 (upd (upd (upd (upd (upd (upd (upd (upd (upd (sh 0) 0 (so 0 0)) 1 (so 0 1)) 6 (so 0 6)) 7 (so 0 7)) 8 (-9)) 9 (-9)) 10 (so 0 10)) 11 (-9)) 12 (so 0 12))) 1 (va_cpy (so 1) (sh 1) ((0 : Int32).toNatClampNeg) ((0 : Int32).toNatClampNeg) ((5 : Int32).toNatClampNeg))) 2 (va_cpy (so 2) (sh 2) ((0 : Int32).toNatClampNeg) ((0 : Int32).toNatClampNeg) ((5 : Int32).toNatClampNeg))) 3 (va_cpy (so 3) (sh 3) ((0 : Int32).toNatClampNeg) ((0 : Int32).toNatClampNeg) ((3 : Int32).toNatClampNeg))) 4 (va_cpy (so 4) (sh 4) ((0 : Int32).toNatClampNeg) ((0 : Int32).toNatClampNeg) ((3 : Int32).toNatClampNeg))); ((so 0 0), (so 0 1), (va_cpy (so 1) (sh 1) ((0 : Int32).toNatClampNeg) ((0 : Int32).toNatClampNeg) ((5 : Int32).toNatClampNeg)), (va_cpy (so 2) (sh 2) ((0 : Int32).toNatClampNeg) ((0 : Int32).toNatClampNeg) ((5 : Int32).toNatClampNeg)), (va_cpy (so 3) (sh 3) ((0 : Int32).toNatClampNeg) ((0 : Int32).toNatClampNeg) ((3 : Int32).toNatClampNeg)), (va_cpy (so 4) (sh 4) ((0 : Int32).toNatClampNeg) ((0 : Int32).toNatClampNeg) ((3 : Int32).toNatClampNeg)), (so 0 6), (so 0 7), ((-9) : Int32), ((-9) : Int32), (so 0 10), ((-9) : Int32), (so 0 12), y331) else let y342 := J_X4_settle (up2 (up2 (up2 (up2 (up2 sh 0 (upd (upd (upd (upd (upd (upd (upd (upd (upd (sh 0) 0 (so 0 0)) 1 (so 0 1)) 6 (so 0 6)) 7 (so 0 7)) 8 (-9)) 9 (-9)) 10 (so 0 10)) 11 (-9)) 12 0)) 1 (va_cpy (so 1) (sh 1) ((0 : Int32).toNatClampNeg) ((0 : Int32).toNatClampNeg) ((5 : Int32).toNatClampNeg))) 2 (va_cpy (so 2) (sh 2) ((0 : Int32).toNatClampNeg) ((0 : Int32).toNatClampNeg) ((5 : Int32).toNatClampNeg))) 3 (va_cpy (so 3) (sh 3) ((0 : Int32).toNatClampNeg) ((0 : Int32).toNatClampNeg) ((3 : Int32).toNatClampNeg))) 4 (va_cpy (so 4) (sh 4) ((0 : Int32).toNatClampNeg) ((0 : Int32).toNatClampNeg) ((3 : Int32).toNatClampNeg))); ((so 0 0), (so 0 1), (va_cpy (so 1) (sh 1) ((0 : Int32).toNatClampNeg) ((0 : Int32).toNatClampNeg) ((5 : Int32).toNatClampNeg)), (va_cpy (so 2) (sh 2) ((0 : Int32).toNatClampNeg) ((0 : Int32).toNatClampNeg) ((5 : Int32).toNatClampNeg)), (va_cpy (so 3) (sh 3) ((0 : Int32).toNatClampNeg) ((0 : Int32).toNatClampNeg) ((3 : Int32).toNatClampNeg)), (va_cpy (so 4) (sh 4) ((0 : Int32).toNatClampNeg) ((0 : Int32).toNatClampNeg) ((3 : Int32).toNatClampNeg)), (so 0 6), (so 0 7), ((-9) : Int32), ((-9) : Int32), (so 0 10), ((-9) : Int32), (0 : Int32), y342) else if (p0 &&& (8 : Int32)) = 0 then if (p0 &&& (8 : Int32)) = 0 then let y358 := J_X4_settle (up2 (up2 (up2 (up2 (up2 sh 0 (upd (upd (upd (upd (upd (upd (upd (upd (upd (sh 0) 0 (so 0 0)) 1 (so 0 1)) 6 (so 0 6)) 7 (so 0 7)) 8 (-9)) 9 (-9)) 10 (-9)) 11 (so 0 11)) 12 (so 0 12))) 1 (va_cpy (so 1) (sh 1) ((0 : Int32).toNatClampNeg) ((0 : Int32).toNatClampNeg) ((5 : Int32).toNatClampNeg))) 2 (va_cpy (so 2) (sh 2) ((0 : Int32).toNatClampNeg) ((0 : Int32).toNatClampNeg) ((5 : Int32).toNatClampNeg))) 3 (va_cpy (so 3) (sh 3) ((0 : Int32).toNatClampNeg) ((0 : Int32).toNatClampNeg) ((3 : Int32).toNatClampNeg))) 4 (va_cpy (so 4) (sh 4) ((0 : Int32).toNatClampNeg) ((0 : Int32).toNatClampNeg) ((3 : Int32).toNatClampNeg))); ((so 0 0), (so 0 1), (va_cpy (so 1) (sh 1) ((0 : Int32).toNatClampNeg) ((0 : Int32).toNatClampNeg) ((5 : Int32).toNatClampNeg)), (va_cpy (so 2) (sh 2) ((0 : Int32).toNatClampNeg) ((0 : Int32).toNatClampNeg) ((5 : Int32).toNatClampNeg)), (va_cpy (so 3) (sh 3) ((0 : Int32).toNatClampNeg) ((0 : Int32).toNatClampNeg) ((3 : Int32).toNatClampNeg)), (va_cpy (so 4) (sh 4) ((0 : Int32).toNatClampNeg) ((0 : Int32).toNatClampNeg) ((3 : Int32).toNatClampNeg)), (so 0 6), (so 0 7), ((-9) : Int32), ((-9) : Int32), ((-9) : Int32), (so 0 11), (so 0 12), y358) else let y369 := J_X4_settle (up2 (up2 (up2 (up2 (up2 sh 0 (upd (upd (upd (upd (upd (upd (upd (upd (upd (sh 0) 0 (so 0 0)) 1 (so 0 1)) 6 (so 0 6)) 7 (so 0 7)) 8 (-9)) 9 (-9)) 10 (-9)) 11 (so 0 11)) 12 0)) 1 (va_cpy (so 1) (sh 1) ((0 : Int32).toNatClampNeg) ((0 : Int32).toNatClampNeg) ((5 : Int32).toNatClampNeg))) 2 (va_cpy (so 2) (sh 2) ((0 : Int32).toNatClampNeg) ((0 : Int32).toNatClampNeg) ((5 : Int32).toNatClampNeg))) 3 (va_cpy (so 3) (sh 3) ((0 : Int32).toNatClampNeg) ((0 : Int32).toNatClampNeg) ((3 : Int32).toNatClampNeg))) 4 (va_cpy (so 4) (sh 4) ((0 : Int32).toNatClampNeg) ((0 : Int32).toNatClampNeg) ((3 : Int32).toNatClampNeg))); ((so 0 0), (so 0 1), (va_cpy (so 1) (sh 1) ((0 : Int32).toNatClampNeg) ((0 : Int32).toNatClampNeg) ((5 : Int32).toNatClampNeg)), (va_cpy (so 2) (sh 2) ((0 : Int32).toNatClampNeg) ((0 : Int32).toNatClampNeg) ((5 : Int32).toNatClampNeg)), (va_cpy (so 3) (sh 3) ((0 : Int32).toNatClampNeg) ((0 : Int32).toNatClampNeg) ((3 : Int32).toNatClampNeg)), (va_cpy (so 4) (sh 4) ((0 : Int32).toNatClampNeg) ((0 : Int32).toNatClampNeg) ((3 : Int32).toNatClampNeg)), (so 0 6), (so 0 7), ((-9) : Int32), ((-9) : Int32), ((-9) : Int32), (so 0 11), (0 : Int32), y369) else if (p0 &&& (8 : Int32)) = 0 then let y383 := J_X4_settle (up2 (up2 (up2 (up2 (up2 sh 0 (upd (upd (upd (upd (upd (upd (upd (upd (upd (sh 0) 0 (so 0 0)) 1 (so 0 1)) 6 (so 0 6)) 7 (so 0 7)) 8 (-9)) 9 (-9)) 10 (-9)) 11 (-9)) 12 (so 0 12))) 1 (va_cpy (so 1) (sh 1) ((0 : Int32).toNatClampNeg) ((0 : Int32).toNatClampNeg) ((5 : Int32).toNatClampNeg))) 2 (va_cpy (so 2) (sh 2) ((0 : Int32).toNatClampNeg) ((0 : Int32).toNatClampNeg) ((5 : Int32).toNatClampNeg))) 3 (va_cpy (so 3) (sh 3) ((0 : Int32).toNatClampNeg) ((0 : Int32).toNatClampNeg) ((3 : Int32).toNatClampNeg))) 4 (va_cpy (so 4) (sh 4) ((0 : Int32).toNatClampNeg) ((0 : Int32).toNatClampNeg) ((3 : Int32).toNatClampNeg))); ((so 0 0), (so 0 1), (va_cpy (so 1) (sh 1) ((0 : Int32).toNatClampNeg) ((0 : Int32).toNatClampNeg) ((5 : Int32).toNatClampNeg)), (va_cpy (so 2) (sh 2) ((0 : Int32).toNatClampNeg) ((0 : Int32).toNatClampNeg) ((5 : Int32).toNatClampNeg)), (va_cpy (so 3) (sh 3) ((0 : Int32).toNatClampNeg) ((0 : Int32).toNatClampNeg) ((3 : Int32).toNatClampNeg)), (va_cpy (so 4) (sh 4) ((0 : Int32).toNatClampNeg) ((0 : Int32).toNatClampNeg) ((3 : Int32).toNatClampNeg)), (so 0 6), (so 0 7), ((-9) : Int32), ((-9) : Int32), ((-9) : Int32), ((-9) : Int32), (so 0 12), y383) else let y395 := J_X4_settle (up2 (up2 (up2 (up2 (up2 sh 0 (upd (upd (upd (upd (upd (upd (upd (upd (upd (sh 0) 0 (so 0 0)) 1 (so 0 1)) 6 (so 0 6)) 7 (so 0 7)) 8 (-9)) 9 (-9)) 10 (-9)) 11 (-9)) 12 0)) 1 (va_cpy (so 1) (sh 1) ((0 : Int32).toNatClampNeg) ((0 : Int32).toNatClampNeg) ((5 : Int32).toNatClampNeg))) 2 (va_cpy (so 2) (sh 2) ((0 : Int32).toNatClampNeg) ((0 : Int32).toNatClampNeg) ((5 : Int32).toNatClampNeg))) 3 (va_cpy (so 3) (sh 3) ((0 : Int32).toNatClampNeg) ((0 : Int32).toNatClampNeg) ((3 : Int32).toNatClampNeg))) 4 (va_cpy (so 4) (sh 4) ((0 : Int32).toNatClampNeg) ((0 : Int32).toNatClampNeg) ((3 : Int32).toNatClampNeg))); ((so 0 0), (so 0 1), (va_cpy (so 1) (sh 1) ((0 : Int32).toNatClampNeg) ((0 : Int32).toNatClampNeg) ((5 : Int32).toNatClampNeg)), (va_cpy (so 2) (sh 2) ((0 : Int32).toNatClampNeg) ((0 : Int32).toNatClampNeg) ((5 : Int32).toNatClampNeg)), (va_cpy (so 3) (sh 3) ((0 : Int32).toNatClampNeg) ((0 : Int32).toNatClampNeg) ((3 : Int32).toNatClampNeg)), (va_cpy (so 4) (sh 4) ((0 : Int32).toNatClampNeg) ((0 : Int32).toNatClampNeg) ((3 : Int32).toNatClampNeg)), (so 0 6), (so 0 7), ((-9) : Int32), ((-9) : Int32), ((-9) : Int32), ((-9) : Int32), (0 : Int32), y395)
set_option maxHeartbeats 4000000 in
set_option maxRecDepth 100000 in
theorem c_X4_copy (l : Launch) (D : va_G) (k : Nat → ClassId) (b : Nat → Nat) (qh : Nat → Nat) (sh : Nat → Nat → Int32) (qo : Nat → Nat) (so : Nat → Nat → Int32) (sz : Nat) (p0 : Int32) (h_wk : 0 ≤ (so 0 0).toInt ∧ (so 0 0).toInt ≤ 5) (h_hk : 0 ≤ (so 0 1).toInt ∧ (so 0 1).toInt ≤ 4) (h_fl : 0 ≤ (so 0 12).toInt ∧ (so 0 12).toInt ≤ 5) (h_of : ∀ j, 0 ≤ (so 2 j).toInt ∧ (so 2 j).toInt ≤ 4) (h_go : ∀ j, 0 ≤ (so 3 j).toInt ∧ (so 3 j).toInt ≤ 5) (g_of : ∀ j, 0 ≤ (sh 2 j).toInt ∧ (sh 2 j).toInt ≤ 4) (g_go : ∀ j, 0 ≤ (sh 3 j).toInt ∧ (sh 3 j).toInt ≤ 5) : MetV l D k b yX4_copy wsX4_copy ({ frames := 4, cells := 0, slots := 0, locals := 96 } : Room) [cell32_ qh sh, cell0_ k qh sh, cell1_ k qh sh, cell4_ k qh sh, cell3_ k qh sh, cell2_ k qh sh, cell32_ qo so, cell0_ k qo so, cell1_ k qo so, cell4_ k qo so, cell3_ k qo so, cell2_ k qo so] sz [.ref (qh 0), .ref (qo 0), .int p0] (fun (u : Int32 × Int32 × (Nat → Int32) × (Nat → Int32) × (Nat → Int32) × (Nat → Int32) × Int32 × Int32 × Int32 × Int32 × Int32 × Int32 × Int32 × (Nat → Int32)) => (0 ≤ (u.1).toInt ∧ (u.1).toInt ≤ 5) ∧ (0 ≤ (u.2.1).toInt ∧ (u.2.1).toInt ≤ 4) ∧ (0 ≤ (u.2.2.2.2.2.2.2.2.2.2.2.2.1).toInt ∧ (u.2.2.2.2.2.2.2.2.2.2.2.2.1).toInt ≤ 5) ∧ (∀ j, 0 ≤ ((u.2.2.2.1) j).toInt ∧ ((u.2.2.2.1) j).toInt ≤ 4) ∧ (∀ j, 0 ≤ ((u.2.2.2.2.1) j).toInt ∧ ((u.2.2.2.2.1) j).toInt ≤ 5) ∧ (SUok (u.2.2.2.2.2.2.2.2.2.2.2.2.2)) ∧ ((u.1).toInt = (so 0 0).toInt) ∧ (((u.1), (u.2.1), (u.2.2.1), (u.2.2.2.1), (u.2.2.2.2.1), (u.2.2.2.2.2.1), (u.2.2.2.2.2.2.1), (u.2.2.2.2.2.2.2.1), (u.2.2.2.2.2.2.2.2.1), (u.2.2.2.2.2.2.2.2.2.1), (u.2.2.2.2.2.2.2.2.2.2.1), (u.2.2.2.2.2.2.2.2.2.2.2.1), (u.2.2.2.2.2.2.2.2.2.2.2.2.1), (u.2.2.2.2.2.2.2.2.2.2.2.2.2)) = J_X4_copy sh so p0)) (fun u => [cell114_ qh (u.1) (u.2.1) (u.2.2.2.2.2.2.1) (u.2.2.2.2.2.2.2.1) (u.2.2.2.2.2.2.2.2.1) (u.2.2.2.2.2.2.2.2.2.1) (u.2.2.2.2.2.2.2.2.2.2.1) (u.2.2.2.2.2.2.2.2.2.2.2.1) (u.2.2.2.2.2.2.2.2.2.2.2.2.1), cell85_ k qh (u.2.2.1), cell97_ k qh (u.2.2.2.1), cell102_ k qh (u.2.2.2.2.1), cell103_ k qh (u.2.2.2.2.2.1), cell164_ k qh (u.2.2.2.2.2.2.2.2.2.2.2.2.2), cell32_ qo so, cell0_ k qo so, cell1_ k qo so, cell4_ k qo so, cell3_ k qo so, cell2_ k qo so]) := by
  refine g_enter (cc := cX4_copy) (maxL := 3) (ret := none) (by decide) rfl (Nat.le_of_ble_eq_true rfl) ?_
  intro p e s m below meth c A hsz hAe cx hr hP hD hS ls hl
  rw [hAe]
  refine g_q (fun Q hQ => ?_)
  have hx := cx.1.1
  have hb := cx.1.2.1
  have bp0 := i_rng p0
  have hl : lv_has ls 3 [(0, .ref (qh 0)), (1, .ref (qo 0)), (2, .int p0)] := hl
  obtain ⟨H, eH⟩ : ∃ H : Heap, H = s.heap := ⟨_, rfl⟩
  obtain ⟨locs, el⟩ : ∃ L : List Loc, L = [] := ⟨_, rfl⟩
  have hP : va_P D vwCl [cell32_ qh sh, cell0_ k qh sh, cell1_ k qh sh, cell4_ k qh sh, cell3_ k qh sh, cell2_ k qh sh, cell32_ qo so, cell0_ k qo so, cell1_ k qo so, cell4_ k qo so, cell3_ k qo so, cell2_ k qo so] H := by rw [eH]; exact hP
  have hD : va_D A [cell32_ qh sh, cell0_ k qh sh, cell1_ k qh sh, cell4_ k qh sh, cell3_ k qh sh, cell2_ k qh sh, cell32_ qo so, cell0_ k qo so, cell1_ k qo so, cell4_ k qo so, cell3_ k qo so, cell2_ k qo so] := hD
  have hS : va_S A s.heap H locs := by rw [eH, el]; exact hS
  suffices goal : W p l e ({ frames := 4, cells := 0, slots := 0, locals := 96 } : Room) s m ([.ref (qh 0), .ref (qo 0), .int p0] : List Value).toArray below meth c H locs 0 0 Q (F0 m 0 ls []) by rw [eH, el] at goal; exact goal
  refine lv_aload_n hx hb dX4_copy_0 rfl (lv_at hl 0 rfl) ?_
  refine lv_aload_n hx hb dX4_copy_1 rfl (lv_at hl 1 rfl) ?_
  refine g_get cx hP iw_X4_copy_X4 6 rfl rfl 0 (by decide) rfl fw_X4_copy_32 rfl dX4_copy_2 ?_
  refine g_pt cx hP hD hS iw_X4_copy_X4 tyX4 tyX4_ok nmX4 0 rfl rfl 0 (by decide) rfl fw_X4_copy_32 (ty := .int) rfl rfl rfl (Nat.le_of_ble_eq_true rfl) dX4_copy_5 (fun H locs hP hD hS => ?_)
  have hP : va_P D vwCl [(qh 0, .inr (2, [.int (so 0 0), .int (sh 0 1), .ref (qh 1), .ref (qh 2), .ref (qh 3), .ref (qh 4), .int (sh 0 6), .int (sh 0 7), .int (sh 0 8), .int (sh 0 9), .int (sh 0 10), .int (sh 0 11), .int (sh 0 12), .ref (qh 5)])), cell0_ k qh sh, cell1_ k qh sh, cell4_ k qh sh, cell3_ k qh sh, cell2_ k qh sh, cell32_ qo so, cell0_ k qo so, cell1_ k qo so, cell4_ k qo so, cell3_ k qo so, cell2_ k qo so] H := hP
  have hD : va_D A [(qh 0, .inr (2, [.int (so 0 0), .int (sh 0 1), .ref (qh 1), .ref (qh 2), .ref (qh 3), .ref (qh 4), .int (sh 0 6), .int (sh 0 7), .int (sh 0 8), .int (sh 0 9), .int (sh 0 10), .int (sh 0 11), .int (sh 0 12), .ref (qh 5)])), cell0_ k qh sh, cell1_ k qh sh, cell4_ k qh sh, cell3_ k qh sh, cell2_ k qh sh, cell32_ qo so, cell0_ k qo so, cell1_ k qo so, cell4_ k qo so, cell3_ k qo so, cell2_ k qo so] := hD
  refine lv_aload_n hx hb dX4_copy_8 rfl (lv_at hl 0 rfl) ?_
  refine lv_aload_n hx hb dX4_copy_9 rfl (lv_at hl 1 rfl) ?_
  refine g_get cx hP iw_X4_copy_X4 6 rfl rfl 1 (by decide) rfl fw_X4_copy_36 rfl dX4_copy_10 ?_
  refine g_pt cx hP hD hS iw_X4_copy_X4 tyX4 tyX4_ok nmX4 0 rfl rfl 1 (by decide) rfl fw_X4_copy_36 (ty := .int) rfl rfl rfl (Nat.le_of_ble_eq_true rfl) dX4_copy_13 (fun H locs hP hD hS => ?_)
  have hP : va_P D vwCl [cell150_ qh so sh, cell0_ k qh sh, cell1_ k qh sh, cell4_ k qh sh, cell3_ k qh sh, cell2_ k qh sh, cell32_ qo so, cell0_ k qo so, cell1_ k qo so, cell4_ k qo so, cell3_ k qo so, cell2_ k qo so] H := hP
  have hD : va_D A [cell150_ qh so sh, cell0_ k qh sh, cell1_ k qh sh, cell4_ k qh sh, cell3_ k qh sh, cell2_ k qh sh, cell32_ qo so, cell0_ k qo so, cell1_ k qo so, cell4_ k qo so, cell3_ k qo so, cell2_ k qo so] := hD
  refine lv_aload_n hx hb dX4_copy_16 rfl (lv_at hl 1 rfl) ?_
  refine g_get cx hP iw_X4_copy_X4 6 rfl rfl 2 (by decide) rfl fw_X4_copy_9 rfl dX4_copy_17 ?_
  refine lv_iconst (v := 0) hx hb dX4_copy_20 (by decide) ?_
  refine lv_aload_n hx hb dX4_copy_21 rfl (lv_at hl 0 rfl) ?_
  refine g_get cx hP iw_X4_copy_X4 0 rfl rfl 2 (by decide) rfl fw_X4_copy_9 rfl dX4_copy_22 ?_
  refine lv_iconst (v := 0) hx hb dX4_copy_25 (by decide) ?_
  refine lv_iconst (v := 5) hx hb dX4_copy_26 (by decide) ?_
  refine va_copyi hx hb (cx.1.2.2.1.trans hl.1.symm) cx.1.2.2.2.1 (cx.1.2.2.2.2 _ cw_X4_copy_L) (cx.1.2.2.2.2 _ cw_X4_copy_N) (cx.1.2.2.2.2 _ cw_X4_copy_S) (cx.1.2.2.2.2 _ cw_X4_copy_I) cx.2.1 hP hD hS 7 1 0 0 rfl rfl rfl rfl rfl (by decide) (by decide) (by decide) (by decide) (by decide) (fun _ _ => rfl) (Nat.le_of_ble_eq_true rfl) (Nat.le_of_ble_eq_true rfl) dX4_copy_27 (fun H locs hP hD hS => ?_)
  obtain ⟨g1, eg1⟩ : ∃ g : Nat → Int32, g = va_cpy (so 1) (sh 1) ((0 : Int32).toNatClampNeg) ((0 : Int32).toNatClampNeg) ((5 : Int32).toNatClampNeg) := ⟨_, rfl⟩
  rw [← eg1] at hP hD
  have hP : va_P D vwCl [cell150_ qh so sh, (qh 1, .inl (k 0, 5, .inl g1)), cell1_ k qh sh, cell4_ k qh sh, cell3_ k qh sh, cell2_ k qh sh, cell32_ qo so, cell0_ k qo so, cell1_ k qo so, cell4_ k qo so, cell3_ k qo so, cell2_ k qo so] H := hP
  have hD : va_D A [cell150_ qh so sh, (qh 1, .inl (k 0, 5, .inl g1)), cell1_ k qh sh, cell4_ k qh sh, cell3_ k qh sh, cell2_ k qh sh, cell32_ qo so, cell0_ k qo so, cell1_ k qo so, cell4_ k qo so, cell3_ k qo so, cell2_ k qo so] := hD
  refine lv_aload_n hx hb dX4_copy_30 rfl (lv_at hl 1 rfl) ?_
  refine g_get cx hP iw_X4_copy_X4 6 rfl rfl 3 (by decide) rfl fw_X4_copy_15 rfl dX4_copy_31 ?_
  refine lv_iconst (v := 0) hx hb dX4_copy_34 (by decide) ?_
  refine lv_aload_n hx hb dX4_copy_35 rfl (lv_at hl 0 rfl) ?_
  refine g_get cx hP iw_X4_copy_X4 0 rfl rfl 3 (by decide) rfl fw_X4_copy_15 rfl dX4_copy_36 ?_
  refine lv_iconst (v := 0) hx hb dX4_copy_39 (by decide) ?_
  refine lv_iconst (v := 5) hx hb dX4_copy_40 (by decide) ?_
  refine va_copyi hx hb (cx.1.2.2.1.trans hl.1.symm) cx.1.2.2.2.1 (cx.1.2.2.2.2 _ cw_X4_copy_L) (cx.1.2.2.2.2 _ cw_X4_copy_N) (cx.1.2.2.2.2 _ cw_X4_copy_S) (cx.1.2.2.2.2 _ cw_X4_copy_I) cx.2.1 hP hD hS 8 2 0 0 rfl rfl rfl rfl rfl (by decide) (by decide) (by decide) (by decide) (by decide) (fun _ _ => rfl) (Nat.le_of_ble_eq_true rfl) (Nat.le_of_ble_eq_true rfl) dX4_copy_41 (fun H locs hP hD hS => ?_)
  obtain ⟨g2, eg2⟩ : ∃ g : Nat → Int32, g = va_cpy (so 2) (sh 2) ((0 : Int32).toNatClampNeg) ((0 : Int32).toNatClampNeg) ((5 : Int32).toNatClampNeg) := ⟨_, rfl⟩
  rw [← eg2] at hP hD
  have hP : va_P D vwCl [cell150_ qh so sh, (qh 1, .inl (k 0, 5, .inl g1)), (qh 2, .inl (k 0, 5, .inl g2)), cell4_ k qh sh, cell3_ k qh sh, cell2_ k qh sh, cell32_ qo so, cell0_ k qo so, cell1_ k qo so, cell4_ k qo so, cell3_ k qo so, cell2_ k qo so] H := hP
  have hD : va_D A [cell150_ qh so sh, (qh 1, .inl (k 0, 5, .inl g1)), (qh 2, .inl (k 0, 5, .inl g2)), cell4_ k qh sh, cell3_ k qh sh, cell2_ k qh sh, cell32_ qo so, cell0_ k qo so, cell1_ k qo so, cell4_ k qo so, cell3_ k qo so, cell2_ k qo so] := hD
  have ag2 := cpy_all eg2 h_of g_of
  refine lv_aload_n hx hb dX4_copy_44 rfl (lv_at hl 1 rfl) ?_
  refine g_get cx hP iw_X4_copy_X4 6 rfl rfl 4 (by decide) rfl fw_X4_copy_18 rfl dX4_copy_45 ?_
  refine lv_iconst (v := 0) hx hb dX4_copy_48 (by decide) ?_
  refine lv_aload_n hx hb dX4_copy_49 rfl (lv_at hl 0 rfl) ?_
  refine g_get cx hP iw_X4_copy_X4 0 rfl rfl 4 (by decide) rfl fw_X4_copy_18 rfl dX4_copy_50 ?_
  refine lv_iconst (v := 0) hx hb dX4_copy_53 (by decide) ?_
  refine lv_iconst (v := 3) hx hb dX4_copy_54 (by decide) ?_
  refine va_copyi hx hb (cx.1.2.2.1.trans hl.1.symm) cx.1.2.2.2.1 (cx.1.2.2.2.2 _ cw_X4_copy_L) (cx.1.2.2.2.2 _ cw_X4_copy_N) (cx.1.2.2.2.2 _ cw_X4_copy_S) (cx.1.2.2.2.2 _ cw_X4_copy_I) cx.2.1 hP hD hS 9 3 0 0 rfl rfl rfl rfl rfl (by decide) (by decide) (by decide) (by decide) (by decide) (fun _ _ => rfl) (Nat.le_of_ble_eq_true rfl) (Nat.le_of_ble_eq_true rfl) dX4_copy_55 (fun H locs hP hD hS => ?_)
  obtain ⟨g3, eg3⟩ : ∃ g : Nat → Int32, g = va_cpy (so 3) (sh 3) ((0 : Int32).toNatClampNeg) ((0 : Int32).toNatClampNeg) ((3 : Int32).toNatClampNeg) := ⟨_, rfl⟩
  rw [← eg3] at hP hD
  have hP : va_P D vwCl [cell150_ qh so sh, (qh 1, .inl (k 0, 5, .inl g1)), (qh 2, .inl (k 0, 5, .inl g2)), (qh 3, .inl (k 0, 3, .inl g3)), cell3_ k qh sh, cell2_ k qh sh, cell32_ qo so, cell0_ k qo so, cell1_ k qo so, cell4_ k qo so, cell3_ k qo so, cell2_ k qo so] H := hP
  have hD : va_D A [cell150_ qh so sh, (qh 1, .inl (k 0, 5, .inl g1)), (qh 2, .inl (k 0, 5, .inl g2)), (qh 3, .inl (k 0, 3, .inl g3)), cell3_ k qh sh, cell2_ k qh sh, cell32_ qo so, cell0_ k qo so, cell1_ k qo so, cell4_ k qo so, cell3_ k qo so, cell2_ k qo so] := hD
  have ag3 := cpy_all eg3 h_go g_go
  refine lv_aload_n hx hb dX4_copy_58 rfl (lv_at hl 1 rfl) ?_
  refine g_get cx hP iw_X4_copy_X4 6 rfl rfl 5 (by decide) rfl fw_X4_copy_21 rfl dX4_copy_59 ?_
  refine lv_iconst (v := 0) hx hb dX4_copy_62 (by decide) ?_
  refine lv_aload_n hx hb dX4_copy_63 rfl (lv_at hl 0 rfl) ?_
  refine g_get cx hP iw_X4_copy_X4 0 rfl rfl 5 (by decide) rfl fw_X4_copy_21 rfl dX4_copy_64 ?_
  refine lv_iconst (v := 0) hx hb dX4_copy_67 (by decide) ?_
  refine lv_iconst (v := 3) hx hb dX4_copy_68 (by decide) ?_
  refine va_copyi hx hb (cx.1.2.2.1.trans hl.1.symm) cx.1.2.2.2.1 (cx.1.2.2.2.2 _ cw_X4_copy_L) (cx.1.2.2.2.2 _ cw_X4_copy_N) (cx.1.2.2.2.2 _ cw_X4_copy_S) (cx.1.2.2.2.2 _ cw_X4_copy_I) cx.2.1 hP hD hS 10 4 0 0 rfl rfl rfl rfl rfl (by decide) (by decide) (by decide) (by decide) (by decide) (fun _ _ => rfl) (Nat.le_of_ble_eq_true rfl) (Nat.le_of_ble_eq_true rfl) dX4_copy_69 (fun H locs hP hD hS => ?_)
  obtain ⟨g4, eg4⟩ : ∃ g : Nat → Int32, g = va_cpy (so 4) (sh 4) ((0 : Int32).toNatClampNeg) ((0 : Int32).toNatClampNeg) ((3 : Int32).toNatClampNeg) := ⟨_, rfl⟩
  rw [← eg4] at hP hD
  have hP : va_P D vwCl [cell150_ qh so sh, (qh 1, .inl (k 0, 5, .inl g1)), (qh 2, .inl (k 0, 5, .inl g2)), (qh 3, .inl (k 0, 3, .inl g3)), (qh 4, .inl (k 0, 3, .inl g4)), cell2_ k qh sh, cell32_ qo so, cell0_ k qo so, cell1_ k qo so, cell4_ k qo so, cell3_ k qo so, cell2_ k qo so] H := hP
  have hD : va_D A [cell150_ qh so sh, (qh 1, .inl (k 0, 5, .inl g1)), (qh 2, .inl (k 0, 5, .inl g2)), (qh 3, .inl (k 0, 3, .inl g3)), (qh 4, .inl (k 0, 3, .inl g4)), cell2_ k qh sh, cell32_ qo so, cell0_ k qo so, cell1_ k qo so, cell4_ k qo so, cell3_ k qo so, cell2_ k qo so] := hD
  refine lv_aload_n hx hb dX4_copy_72 rfl (lv_at hl 0 rfl) ?_
  refine lv_aload_n hx hb dX4_copy_73 rfl (lv_at hl 1 rfl) ?_
  refine g_get cx hP iw_X4_copy_X4 6 rfl rfl 6 (by decide) rfl fw_X4_copy_45 rfl dX4_copy_74 ?_
  refine g_pt cx hP hD hS iw_X4_copy_X4 tyX4 tyX4_ok nmX4 0 rfl rfl 6 (by decide) rfl fw_X4_copy_45 (ty := .int) rfl rfl rfl (Nat.le_of_ble_eq_true rfl) dX4_copy_77 (fun H locs hP hD hS => ?_)
  have hP : va_P D vwCl [(qh 0, .inr (2, [.int (so 0 0), .int (so 0 1), .ref (qh 1), .ref (qh 2), .ref (qh 3), .ref (qh 4), .int (so 0 6), .int (sh 0 7), .int (sh 0 8), .int (sh 0 9), .int (sh 0 10), .int (sh 0 11), .int (sh 0 12), .ref (qh 5)])), (qh 1, .inl (k 0, 5, .inl g1)), (qh 2, .inl (k 0, 5, .inl g2)), (qh 3, .inl (k 0, 3, .inl g3)), (qh 4, .inl (k 0, 3, .inl g4)), cell2_ k qh sh, cell32_ qo so, cell0_ k qo so, cell1_ k qo so, cell4_ k qo so, cell3_ k qo so, cell2_ k qo so] H := hP
  have hD : va_D A [(qh 0, .inr (2, [.int (so 0 0), .int (so 0 1), .ref (qh 1), .ref (qh 2), .ref (qh 3), .ref (qh 4), .int (so 0 6), .int (sh 0 7), .int (sh 0 8), .int (sh 0 9), .int (sh 0 10), .int (sh 0 11), .int (sh 0 12), .ref (qh 5)])), (qh 1, .inl (k 0, 5, .inl g1)), (qh 2, .inl (k 0, 5, .inl g2)), (qh 3, .inl (k 0, 3, .inl g3)), (qh 4, .inl (k 0, 3, .inl g4)), cell2_ k qh sh, cell32_ qo so, cell0_ k qo so, cell1_ k qo so, cell4_ k qo so, cell3_ k qo so, cell2_ k qo so] := hD
  refine lv_aload_n hx hb dX4_copy_80 rfl (lv_at hl 0 rfl) ?_
  refine lv_aload_n hx hb dX4_copy_81 rfl (lv_at hl 1 rfl) ?_
  refine g_get cx hP iw_X4_copy_X4 6 rfl rfl 7 (by decide) rfl fw_X4_copy_48 rfl dX4_copy_82 ?_
  refine g_pt cx hP hD hS iw_X4_copy_X4 tyX4 tyX4_ok nmX4 0 rfl rfl 7 (by decide) rfl fw_X4_copy_48 (ty := .int) rfl rfl rfl (Nat.le_of_ble_eq_true rfl) dX4_copy_85 (fun H locs hP hD hS => ?_)
  have hP : va_P D vwCl [(qh 0, .inr (2, [.int (so 0 0), .int (so 0 1), .ref (qh 1), .ref (qh 2), .ref (qh 3), .ref (qh 4), .int (so 0 6), .int (so 0 7), .int (sh 0 8), .int (sh 0 9), .int (sh 0 10), .int (sh 0 11), .int (sh 0 12), .ref (qh 5)])), (qh 1, .inl (k 0, 5, .inl g1)), (qh 2, .inl (k 0, 5, .inl g2)), (qh 3, .inl (k 0, 3, .inl g3)), (qh 4, .inl (k 0, 3, .inl g4)), cell2_ k qh sh, cell32_ qo so, cell0_ k qo so, cell1_ k qo so, cell4_ k qo so, cell3_ k qo so, cell2_ k qo so] H := hP
  have hD : va_D A [(qh 0, .inr (2, [.int (so 0 0), .int (so 0 1), .ref (qh 1), .ref (qh 2), .ref (qh 3), .ref (qh 4), .int (so 0 6), .int (so 0 7), .int (sh 0 8), .int (sh 0 9), .int (sh 0 10), .int (sh 0 11), .int (sh 0 12), .ref (qh 5)])), (qh 1, .inl (k 0, 5, .inl g1)), (qh 2, .inl (k 0, 5, .inl g2)), (qh 3, .inl (k 0, 3, .inl g3)), (qh 4, .inl (k 0, 3, .inl g4)), cell2_ k qh sh, cell32_ qo so, cell0_ k qo so, cell1_ k qo so, cell4_ k qo so, cell3_ k qo so, cell2_ k qo so] := hD
  refine lv_aload_n hx hb dX4_copy_88 rfl (lv_at hl 0 rfl) ?_
  refine lv_iload_n hx hb dX4_copy_89 rfl (lv_at hl 2 rfl) ?_
  refine lv_iconst (v := 1) hx hb dX4_copy_90 (by decide) ?_
  refine lv_iand hx hb dX4_copy_91 (lv_topi (fun v5 e5 => ?_))
  have t5 : 0 ≤ v5.toInt ∧ v5.toInt ≤ 1 := by rw [e5]; exact and_r (by decide) (by omega)
  refine lv_if_eq (tgt := 100) hx hb dX4_copy_92 (by decide) (fun c6 => ?_) (fun c6 => ?_)
  · have f6 : v5.toInt = 0 := f_eq rfl (by decide) c6
    refine lv_aload_n hx hb dX4_copy_100 rfl (lv_at hl 1 rfl) ?_
    refine g_get cx hP iw_X4_copy_X4 6 rfl rfl 8 (by decide) rfl fw_X4_copy_51 rfl dX4_copy_101 ?_
    refine g_pt cx hP hD hS iw_X4_copy_X4 tyX4 tyX4_ok nmX4 0 rfl rfl 8 (by decide) rfl fw_X4_copy_51 (ty := .int) rfl rfl rfl (Nat.le_of_ble_eq_true rfl) dX4_copy_104 (fun H locs hP hD hS => ?_)
    have hP : va_P D vwCl [(qh 0, .inr (2, [.int (so 0 0), .int (so 0 1), .ref (qh 1), .ref (qh 2), .ref (qh 3), .ref (qh 4), .int (so 0 6), .int (so 0 7), .int (so 0 8), .int (sh 0 9), .int (sh 0 10), .int (sh 0 11), .int (sh 0 12), .ref (qh 5)])), (qh 1, .inl (k 0, 5, .inl g1)), (qh 2, .inl (k 0, 5, .inl g2)), (qh 3, .inl (k 0, 3, .inl g3)), (qh 4, .inl (k 0, 3, .inl g4)), cell2_ k qh sh, cell32_ qo so, cell0_ k qo so, cell1_ k qo so, cell4_ k qo so, cell3_ k qo so, cell2_ k qo so] H := hP
    have hD : va_D A [(qh 0, .inr (2, [.int (so 0 0), .int (so 0 1), .ref (qh 1), .ref (qh 2), .ref (qh 3), .ref (qh 4), .int (so 0 6), .int (so 0 7), .int (so 0 8), .int (sh 0 9), .int (sh 0 10), .int (sh 0 11), .int (sh 0 12), .ref (qh 5)])), (qh 1, .inl (k 0, 5, .inl g1)), (qh 2, .inl (k 0, 5, .inl g2)), (qh 3, .inl (k 0, 3, .inl g3)), (qh 4, .inl (k 0, 3, .inl g4)), cell2_ k qh sh, cell32_ qo so, cell0_ k qo so, cell1_ k qo so, cell4_ k qo so, cell3_ k qo so, cell2_ k qo so] := hD
    refine lv_aload_n hx hb dX4_copy_107 rfl (lv_at hl 0 rfl) ?_
    refine lv_iload_n hx hb dX4_copy_108 rfl (lv_at hl 2 rfl) ?_
    refine lv_iconst (v := 2) hx hb dX4_copy_109 (by decide) ?_
    refine lv_iand hx hb dX4_copy_110 (lv_topi (fun v7 e7 => ?_))
    have t7 : 0 ≤ v7.toInt ∧ v7.toInt ≤ 2 := by rw [e7]; exact and_r (by decide) (by omega)
    refine lv_if_eq (tgt := 119) hx hb dX4_copy_111 (by decide) (fun c8 => ?_) (fun c8 => ?_)
    · have f8 : v7.toInt = 0 := f_eq rfl (by decide) c8
      refine lv_aload_n hx hb dX4_copy_119 rfl (lv_at hl 1 rfl) ?_
      refine g_get cx hP iw_X4_copy_X4 6 rfl rfl 9 (by decide) rfl fw_X4_copy_54 rfl dX4_copy_120 ?_
      refine g_pt cx hP hD hS iw_X4_copy_X4 tyX4 tyX4_ok nmX4 0 rfl rfl 9 (by decide) rfl fw_X4_copy_54 (ty := .int) rfl rfl rfl (Nat.le_of_ble_eq_true rfl) dX4_copy_123 (fun H locs hP hD hS => ?_)
      have hP : va_P D vwCl [(qh 0, .inr (2, [.int (so 0 0), .int (so 0 1), .ref (qh 1), .ref (qh 2), .ref (qh 3), .ref (qh 4), .int (so 0 6), .int (so 0 7), .int (so 0 8), .int (so 0 9), .int (sh 0 10), .int (sh 0 11), .int (sh 0 12), .ref (qh 5)])), (qh 1, .inl (k 0, 5, .inl g1)), (qh 2, .inl (k 0, 5, .inl g2)), (qh 3, .inl (k 0, 3, .inl g3)), (qh 4, .inl (k 0, 3, .inl g4)), cell2_ k qh sh, cell32_ qo so, cell0_ k qo so, cell1_ k qo so, cell4_ k qo so, cell3_ k qo so, cell2_ k qo so] H := hP
      have hD : va_D A [(qh 0, .inr (2, [.int (so 0 0), .int (so 0 1), .ref (qh 1), .ref (qh 2), .ref (qh 3), .ref (qh 4), .int (so 0 6), .int (so 0 7), .int (so 0 8), .int (so 0 9), .int (sh 0 10), .int (sh 0 11), .int (sh 0 12), .ref (qh 5)])), (qh 1, .inl (k 0, 5, .inl g1)), (qh 2, .inl (k 0, 5, .inl g2)), (qh 3, .inl (k 0, 3, .inl g3)), (qh 4, .inl (k 0, 3, .inl g4)), cell2_ k qh sh, cell32_ qo so, cell0_ k qo so, cell1_ k qo so, cell4_ k qo so, cell3_ k qo so, cell2_ k qo so] := hD
      refine lv_aload_n hx hb dX4_copy_126 rfl (lv_at hl 0 rfl) ?_
      refine lv_iload_n hx hb dX4_copy_127 rfl (lv_at hl 2 rfl) ?_
      refine lv_iconst (v := 4) hx hb dX4_copy_128 (by decide) ?_
      refine lv_iand hx hb dX4_copy_129 (lv_topi (fun v9 e9 => ?_))
      have t9 : 0 ≤ v9.toInt ∧ v9.toInt ≤ 4 := by rw [e9]; exact and_r (by decide) (by omega)
      refine lv_if_eq (tgt := 138) hx hb dX4_copy_130 (by decide) (fun c10 => ?_) (fun c10 => ?_)
      · have f10 : v9.toInt = 0 := f_eq rfl (by decide) c10
        refine lv_aload_n hx hb dX4_copy_138 rfl (lv_at hl 1 rfl) ?_
        refine g_get cx hP iw_X4_copy_X4 6 rfl rfl 10 (by decide) rfl fw_X4_copy_57 rfl dX4_copy_139 ?_
        refine g_pt cx hP hD hS iw_X4_copy_X4 tyX4 tyX4_ok nmX4 0 rfl rfl 10 (by decide) rfl fw_X4_copy_57 (ty := .int) rfl rfl rfl (Nat.le_of_ble_eq_true rfl) dX4_copy_142 (fun H locs hP hD hS => ?_)
        have hP : va_P D vwCl [(qh 0, .inr (2, [.int (so 0 0), .int (so 0 1), .ref (qh 1), .ref (qh 2), .ref (qh 3), .ref (qh 4), .int (so 0 6), .int (so 0 7), .int (so 0 8), .int (so 0 9), .int (so 0 10), .int (sh 0 11), .int (sh 0 12), .ref (qh 5)])), (qh 1, .inl (k 0, 5, .inl g1)), (qh 2, .inl (k 0, 5, .inl g2)), (qh 3, .inl (k 0, 3, .inl g3)), (qh 4, .inl (k 0, 3, .inl g4)), cell2_ k qh sh, cell32_ qo so, cell0_ k qo so, cell1_ k qo so, cell4_ k qo so, cell3_ k qo so, cell2_ k qo so] H := hP
        have hD : va_D A [(qh 0, .inr (2, [.int (so 0 0), .int (so 0 1), .ref (qh 1), .ref (qh 2), .ref (qh 3), .ref (qh 4), .int (so 0 6), .int (so 0 7), .int (so 0 8), .int (so 0 9), .int (so 0 10), .int (sh 0 11), .int (sh 0 12), .ref (qh 5)])), (qh 1, .inl (k 0, 5, .inl g1)), (qh 2, .inl (k 0, 5, .inl g2)), (qh 3, .inl (k 0, 3, .inl g3)), (qh 4, .inl (k 0, 3, .inl g4)), cell2_ k qh sh, cell32_ qo so, cell0_ k qo so, cell1_ k qo so, cell4_ k qo so, cell3_ k qo so, cell2_ k qo so] := hD
        refine lv_aload_n hx hb dX4_copy_145 rfl (lv_at hl 0 rfl) ?_
        refine lv_iload_n hx hb dX4_copy_146 rfl (lv_at hl 2 rfl) ?_
        refine lv_bipush (v := 8) hx hb dX4_copy_147 (by decide) ?_
        refine lv_iand hx hb dX4_copy_149 (lv_topi (fun v11 e11 => ?_))
        have t11 : 0 ≤ v11.toInt ∧ v11.toInt ≤ 8 := by rw [e11]; exact and_r (by decide) (by omega)
        refine lv_if_eq (tgt := 158) hx hb dX4_copy_150 (by decide) (fun c12 => ?_) (fun c12 => ?_)
        · have f12 : v11.toInt = 0 := f_eq rfl (by decide) c12
          refine lv_aload_n hx hb dX4_copy_158 rfl (lv_at hl 1 rfl) ?_
          refine g_get cx hP iw_X4_copy_X4 6 rfl rfl 11 (by decide) rfl fw_X4_copy_60 rfl dX4_copy_159 ?_
          refine g_pt cx hP hD hS iw_X4_copy_X4 tyX4 tyX4_ok nmX4 0 rfl rfl 11 (by decide) rfl fw_X4_copy_60 (ty := .int) rfl rfl rfl (Nat.le_of_ble_eq_true rfl) dX4_copy_162 (fun H locs hP hD hS => ?_)
          have hP : va_P D vwCl [(qh 0, .inr (2, [.int (so 0 0), .int (so 0 1), .ref (qh 1), .ref (qh 2), .ref (qh 3), .ref (qh 4), .int (so 0 6), .int (so 0 7), .int (so 0 8), .int (so 0 9), .int (so 0 10), .int (so 0 11), .int (sh 0 12), .ref (qh 5)])), (qh 1, .inl (k 0, 5, .inl g1)), (qh 2, .inl (k 0, 5, .inl g2)), (qh 3, .inl (k 0, 3, .inl g3)), (qh 4, .inl (k 0, 3, .inl g4)), cell2_ k qh sh, cell32_ qo so, cell0_ k qo so, cell1_ k qo so, cell4_ k qo so, cell3_ k qo so, cell2_ k qo so] H := hP
          have hD : va_D A [(qh 0, .inr (2, [.int (so 0 0), .int (so 0 1), .ref (qh 1), .ref (qh 2), .ref (qh 3), .ref (qh 4), .int (so 0 6), .int (so 0 7), .int (so 0 8), .int (so 0 9), .int (so 0 10), .int (so 0 11), .int (sh 0 12), .ref (qh 5)])), (qh 1, .inl (k 0, 5, .inl g1)), (qh 2, .inl (k 0, 5, .inl g2)), (qh 3, .inl (k 0, 3, .inl g3)), (qh 4, .inl (k 0, 3, .inl g4)), cell2_ k qh sh, cell32_ qo so, cell0_ k qo so, cell1_ k qo so, cell4_ k qo so, cell3_ k qo so, cell2_ k qo so] := hD
          refine lv_aload_n hx hb dX4_copy_165 rfl (lv_at hl 0 rfl) ?_
          refine lv_iload_n hx hb dX4_copy_166 rfl (lv_at hl 2 rfl) ?_
          refine lv_bipush (v := 8) hx hb dX4_copy_167 (by decide) ?_
          refine lv_iand hx hb dX4_copy_169 (lv_topi (fun v13 e13 => ?_))
          have t13 : 0 ≤ v13.toInt ∧ v13.toInt ≤ 8 := by rw [e13]; exact and_r (by decide) (by omega)
          refine lv_if_eq (tgt := 177) hx hb dX4_copy_170 (by decide) (fun c14 => ?_) (fun c14 => ?_)
          · have f14 : v13.toInt = 0 := f_eq rfl (by decide) c14
            refine lv_aload_n hx hb dX4_copy_177 rfl (lv_at hl 1 rfl) ?_
            refine g_get cx hP iw_X4_copy_X4 6 rfl rfl 12 (by decide) rfl fw_X4_copy_63 rfl dX4_copy_178 ?_
            refine g_pt cx hP hD hS iw_X4_copy_X4 tyX4 tyX4_ok nmX4 0 rfl rfl 12 (by decide) rfl fw_X4_copy_63 (ty := .int) rfl rfl rfl (Nat.le_of_ble_eq_true rfl) dX4_copy_181 (fun H locs hP hD hS => ?_)
            have hP : va_P D vwCl [cell32_ qh so, (qh 1, .inl (k 0, 5, .inl g1)), (qh 2, .inl (k 0, 5, .inl g2)), (qh 3, .inl (k 0, 3, .inl g3)), (qh 4, .inl (k 0, 3, .inl g4)), cell2_ k qh sh, cell32_ qo so, cell0_ k qo so, cell1_ k qo so, cell4_ k qo so, cell3_ k qo so, cell2_ k qo so] H := hP
            have hD : va_D A [cell32_ qh so, (qh 1, .inl (k 0, 5, .inl g1)), (qh 2, .inl (k 0, 5, .inl g2)), (qh 3, .inl (k 0, 3, .inl g3)), (qh 4, .inl (k 0, 3, .inl g4)), cell2_ k qh sh, cell32_ qo so, cell0_ k qo so, cell1_ k qo so, cell4_ k qo so, cell3_ k qo so, cell2_ k qo so] := hD
            refine lv_aload_n hx hb dX4_copy_184 rfl (lv_at hl 0 rfl) ?_
            refine g_v (w1 := fun (u : (Nat → Int32)) => [cell32_ qh so, (qh 1, .inl (k 0, 5, .inl g1)), (qh 2, .inl (k 0, 5, .inl g2)), (qh 3, .inl (k 0, 3, .inl g3)), (qh 4, .inl (k 0, 3, .inl g4)), (qh 5, .inl (k 0, 525, .inl u))]) (g_runV (wc := [cell32_ qh so, (qh 1, .inl (k 0, 5, .inl g1)), (qh 2, .inl (k 0, 5, .inl g2)), (qh 3, .inl (k 0, 3, .inl g3)), (qh 4, .inl (k 0, 3, .inl g4)), cell2_ k qh sh]) (rest := []) cx hP hD hS [0, 1, 2, 3, 4, 5] rfl (by decide) [] (c_X4_settle l D k b qh (up2 (up2 (up2 (up2 (up2 sh 0 (upd (upd (upd (upd (upd (upd (upd (upd (upd (sh 0) 0 (so 0 0)) 1 (so 0 1)) 6 (so 0 6)) 7 (so 0 7)) 8 (so 0 8)) 9 (so 0 9)) 10 (so 0 10)) 11 (so 0 11)) 12 (so 0 12))) 1 g1) 2 g2) 3 g3) 4 g4) H.size (show 0 ≤ (so 0 12).toInt ∧ (so 0 12).toInt ≤ 5 from by first | decide | omega) ag3) gX4_copy_X4_settle rfl rfl rfl nd_X4_settle ⟨Nat.le_of_ble_eq_true rfl, Nat.le_of_ble_eq_true rfl⟩ (ci := 2) (q0 := 0) rfl rfl rfl hl.1 rfl (Nat.le_of_ble_eq_true rfl) ⟨Nat.zero_le _, Nat.zero_le _⟩ dX4_copy_185) cx.2.2.1 hP hD hS [0, 1, 2, 3, 4, 5] rfl (fun _ => rfl) (fun u16 H locs hw15 hP hD hS => ?_)
            obtain ⟨m17, rfl⟩ : ∃ z, z = u16 := ⟨_, rfl⟩
            have hP : va_P D vwCl [cell32_ qh so, (qh 1, .inl (k 0, 5, .inl g1)), (qh 2, .inl (k 0, 5, .inl g2)), (qh 3, .inl (k 0, 3, .inl g3)), (qh 4, .inl (k 0, 3, .inl g4)), (qh 5, .inl (k 0, 525, .inl m17)), cell32_ qo so, cell0_ k qo so, cell1_ k qo so, cell4_ k qo so, cell3_ k qo so, cell2_ k qo so] H := hP
            have hD : va_D A [cell32_ qh so, (qh 1, .inl (k 0, 5, .inl g1)), (qh 2, .inl (k 0, 5, .inl g2)), (qh 3, .inl (k 0, 3, .inl g3)), (qh 4, .inl (k 0, 3, .inl g4)), (qh 5, .inl (k 0, 525, .inl m17)), cell32_ qo so, cell0_ k qo so, cell1_ k qo so, cell4_ k qo so, cell3_ k qo so, cell2_ k qo so] := hD
            replace hw15 : (SUok m17) ∧ (m17 = J_X4_settle (up2 (up2 (up2 (up2 (up2 sh 0 (upd (upd (upd (upd (upd (upd (upd (upd (upd (sh 0) 0 (so 0 0)) 1 (so 0 1)) 6 (so 0 6)) 7 (so 0 7)) 8 (so 0 8)) 9 (so 0 9)) 10 (so 0 10)) 11 (so 0 11)) 12 (so 0 12))) 1 g1) 2 g2) 3 g3) 4 g4)) := hw15
            obtain ⟨w18, w19⟩ := hw15
            have k21 : m17 = (J_X4_settle (up2 (up2 (up2 (up2 (up2 sh 0 (upd (upd (upd (upd (upd (upd (upd (upd (upd (sh 0) 0 (so 0 0)) 1 (so 0 1)) 6 (so 0 6)) 7 (so 0 7)) 8 (so 0 8)) 9 (so 0 9)) 10 (so 0 10)) 11 (so 0 11)) 12 (so 0 12))) 1 g1) 2 g2) 3 g3) 4 g4)) := congrArg (fun z => z) w19
            rw [hQ]
            exact x_v cx hr ((so 0 0), (so 0 1), g1, g2, g3, g4, (so 0 6), (so 0 7), (so 0 8), (so 0 9), (so 0 10), (so 0 11), (so 0 12), m17) hP hD hS ⟨(show 0 ≤ (so 0 0).toInt ∧ (so 0 0).toInt ≤ 5 from by omega), (show 0 ≤ (so 0 1).toInt ∧ (so 0 1).toInt ≤ 4 from by omega), (show 0 ≤ (so 0 12).toInt ∧ (so 0 12).toInt ≤ 5 from by omega), ag2, ag3, (show SUok m17 from by assumption), (show (so 0 0).toInt = (so 0 0).toInt from by omega), (show ((so 0 0), (so 0 1), g1, g2, g3, g4, (so 0 6), (so 0 7), (so 0 8), (so 0 9), (so 0 10), (so 0 11), (so 0 12), m17) = J_X4_copy sh so p0 from by subst eg1 eg2 eg3 eg4 e5 e7 e9 e11 e13 k21; first | (refine Eq.symm ?_; refine Eq.trans (if_pos c6) ?_; refine Eq.trans (if_pos c8) ?_; refine Eq.trans (if_pos c10) ?_; refine Eq.trans (if_pos c12) ?_; refine Eq.trans (if_pos c14) ?_; rfl) | (unfold J_X4_copy; try dsimp only; rw [if_pos c6, if_pos c8, if_pos c10, if_pos c12, if_pos c14]))⟩ dX4_copy_188
          · have f14 : ¬ v13.toInt = 0 := f_ne rfl (by decide) c14
            refine lv_iconst (v := 0) hx hb dX4_copy_173 (by decide) ?_
            refine lv_goto (tgt := 181) hx hb dX4_copy_174 (by decide) ?_
            refine g_pt cx hP hD hS iw_X4_copy_X4 tyX4 tyX4_ok nmX4 0 rfl rfl 12 (by decide) rfl fw_X4_copy_63 (ty := .int) rfl rfl rfl (Nat.le_of_ble_eq_true rfl) dX4_copy_181 (fun H locs hP hD hS => ?_)
            have hP : va_P D vwCl [cell169_ qh so 0, (qh 1, .inl (k 0, 5, .inl g1)), (qh 2, .inl (k 0, 5, .inl g2)), (qh 3, .inl (k 0, 3, .inl g3)), (qh 4, .inl (k 0, 3, .inl g4)), cell2_ k qh sh, cell32_ qo so, cell0_ k qo so, cell1_ k qo so, cell4_ k qo so, cell3_ k qo so, cell2_ k qo so] H := hP
            have hD : va_D A [cell169_ qh so 0, (qh 1, .inl (k 0, 5, .inl g1)), (qh 2, .inl (k 0, 5, .inl g2)), (qh 3, .inl (k 0, 3, .inl g3)), (qh 4, .inl (k 0, 3, .inl g4)), cell2_ k qh sh, cell32_ qo so, cell0_ k qo so, cell1_ k qo so, cell4_ k qo so, cell3_ k qo so, cell2_ k qo so] := hD
            have hlit22 : (0 : Int32).toInt = 0 := by decide
            refine lv_aload_n hx hb dX4_copy_184 rfl (lv_at hl 0 rfl) ?_
            refine g_v (w1 := fun (u : (Nat → Int32)) => [cell169_ qh so 0, (qh 1, .inl (k 0, 5, .inl g1)), (qh 2, .inl (k 0, 5, .inl g2)), (qh 3, .inl (k 0, 3, .inl g3)), (qh 4, .inl (k 0, 3, .inl g4)), (qh 5, .inl (k 0, 525, .inl u))]) (g_runV (wc := [cell169_ qh so 0, (qh 1, .inl (k 0, 5, .inl g1)), (qh 2, .inl (k 0, 5, .inl g2)), (qh 3, .inl (k 0, 3, .inl g3)), (qh 4, .inl (k 0, 3, .inl g4)), cell2_ k qh sh]) (rest := []) cx hP hD hS [0, 1, 2, 3, 4, 5] rfl (by decide) [] (c_X4_settle l D k b qh (up2 (up2 (up2 (up2 (up2 sh 0 (upd (upd (upd (upd (upd (upd (upd (upd (upd (sh 0) 0 (so 0 0)) 1 (so 0 1)) 6 (so 0 6)) 7 (so 0 7)) 8 (so 0 8)) 9 (so 0 9)) 10 (so 0 10)) 11 (so 0 11)) 12 0)) 1 g1) 2 g2) 3 g3) 4 g4) H.size (show 0 ≤ (0 : Int32).toInt ∧ (0 : Int32).toInt ≤ 5 from by first | decide | omega) ag3) gX4_copy_X4_settle rfl rfl rfl nd_X4_settle ⟨Nat.le_of_ble_eq_true rfl, Nat.le_of_ble_eq_true rfl⟩ (ci := 2) (q0 := 0) rfl rfl rfl hl.1 rfl (Nat.le_of_ble_eq_true rfl) ⟨Nat.zero_le _, Nat.zero_le _⟩ dX4_copy_185) cx.2.2.1 hP hD hS [0, 1, 2, 3, 4, 5] rfl (fun _ => rfl) (fun u24 H locs hw23 hP hD hS => ?_)
            obtain ⟨m25, rfl⟩ : ∃ z, z = u24 := ⟨_, rfl⟩
            have hP : va_P D vwCl [cell169_ qh so 0, (qh 1, .inl (k 0, 5, .inl g1)), (qh 2, .inl (k 0, 5, .inl g2)), (qh 3, .inl (k 0, 3, .inl g3)), (qh 4, .inl (k 0, 3, .inl g4)), (qh 5, .inl (k 0, 525, .inl m25)), cell32_ qo so, cell0_ k qo so, cell1_ k qo so, cell4_ k qo so, cell3_ k qo so, cell2_ k qo so] H := hP
            have hD : va_D A [cell169_ qh so 0, (qh 1, .inl (k 0, 5, .inl g1)), (qh 2, .inl (k 0, 5, .inl g2)), (qh 3, .inl (k 0, 3, .inl g3)), (qh 4, .inl (k 0, 3, .inl g4)), (qh 5, .inl (k 0, 525, .inl m25)), cell32_ qo so, cell0_ k qo so, cell1_ k qo so, cell4_ k qo so, cell3_ k qo so, cell2_ k qo so] := hD
            replace hw23 : (SUok m25) ∧ (m25 = J_X4_settle (up2 (up2 (up2 (up2 (up2 sh 0 (upd (upd (upd (upd (upd (upd (upd (upd (upd (sh 0) 0 (so 0 0)) 1 (so 0 1)) 6 (so 0 6)) 7 (so 0 7)) 8 (so 0 8)) 9 (so 0 9)) 10 (so 0 10)) 11 (so 0 11)) 12 0)) 1 g1) 2 g2) 3 g3) 4 g4)) := hw23
            obtain ⟨w26, w27⟩ := hw23
            have k29 : m25 = (J_X4_settle (up2 (up2 (up2 (up2 (up2 sh 0 (upd (upd (upd (upd (upd (upd (upd (upd (upd (sh 0) 0 (so 0 0)) 1 (so 0 1)) 6 (so 0 6)) 7 (so 0 7)) 8 (so 0 8)) 9 (so 0 9)) 10 (so 0 10)) 11 (so 0 11)) 12 0)) 1 g1) 2 g2) 3 g3) 4 g4)) := congrArg (fun z => z) w27
            have hlit30 : (0 : Int32).toInt = 0 := by decide
            rw [hQ]
            exact x_v cx hr ((so 0 0), (so 0 1), g1, g2, g3, g4, (so 0 6), (so 0 7), (so 0 8), (so 0 9), (so 0 10), (so 0 11), 0, m25) hP hD hS ⟨(show 0 ≤ (so 0 0).toInt ∧ (so 0 0).toInt ≤ 5 from by omega), (show 0 ≤ (so 0 1).toInt ∧ (so 0 1).toInt ≤ 4 from by omega), (show 0 ≤ (0 : Int32).toInt ∧ (0 : Int32).toInt ≤ 5 from by omega), ag2, ag3, (show SUok m25 from by assumption), (show (so 0 0).toInt = (so 0 0).toInt from by omega), (show ((so 0 0), (so 0 1), g1, g2, g3, g4, (so 0 6), (so 0 7), (so 0 8), (so 0 9), (so 0 10), (so 0 11), (0 : Int32), m25) = J_X4_copy sh so p0 from by subst eg1 eg2 eg3 eg4 e5 e7 e9 e11 e13 k29; first | (refine Eq.symm ?_; refine Eq.trans (if_pos c6) ?_; refine Eq.trans (if_pos c8) ?_; refine Eq.trans (if_pos c10) ?_; refine Eq.trans (if_pos c12) ?_; refine Eq.trans (if_neg c14) ?_; rfl) | (unfold J_X4_copy; try dsimp only; rw [if_pos c6, if_pos c8, if_pos c10, if_pos c12, if_neg c14]))⟩ dX4_copy_188
        · have f12 : ¬ v11.toInt = 0 := f_ne rfl (by decide) c12
          refine lv_bipush (v := (-9)) hx hb dX4_copy_153 (by decide) ?_
          refine lv_goto (tgt := 162) hx hb dX4_copy_155 (by decide) ?_
          refine g_pt cx hP hD hS iw_X4_copy_X4 tyX4 tyX4_ok nmX4 0 rfl rfl 11 (by decide) rfl fw_X4_copy_60 (ty := .int) rfl rfl rfl (Nat.le_of_ble_eq_true rfl) dX4_copy_162 (fun H locs hP hD hS => ?_)
          have hP : va_P D vwCl [(qh 0, .inr (2, [.int (so 0 0), .int (so 0 1), .ref (qh 1), .ref (qh 2), .ref (qh 3), .ref (qh 4), .int (so 0 6), .int (so 0 7), .int (so 0 8), .int (so 0 9), .int (so 0 10), .int (-9), .int (sh 0 12), .ref (qh 5)])), (qh 1, .inl (k 0, 5, .inl g1)), (qh 2, .inl (k 0, 5, .inl g2)), (qh 3, .inl (k 0, 3, .inl g3)), (qh 4, .inl (k 0, 3, .inl g4)), cell2_ k qh sh, cell32_ qo so, cell0_ k qo so, cell1_ k qo so, cell4_ k qo so, cell3_ k qo so, cell2_ k qo so] H := hP
          have hD : va_D A [(qh 0, .inr (2, [.int (so 0 0), .int (so 0 1), .ref (qh 1), .ref (qh 2), .ref (qh 3), .ref (qh 4), .int (so 0 6), .int (so 0 7), .int (so 0 8), .int (so 0 9), .int (so 0 10), .int (-9), .int (sh 0 12), .ref (qh 5)])), (qh 1, .inl (k 0, 5, .inl g1)), (qh 2, .inl (k 0, 5, .inl g2)), (qh 3, .inl (k 0, 3, .inl g3)), (qh 4, .inl (k 0, 3, .inl g4)), cell2_ k qh sh, cell32_ qo so, cell0_ k qo so, cell1_ k qo so, cell4_ k qo so, cell3_ k qo so, cell2_ k qo so] := hD
          have hlit31 : ((-9) : Int32).toInt = -9 := by decide
          refine lv_aload_n hx hb dX4_copy_165 rfl (lv_at hl 0 rfl) ?_
          refine lv_iload_n hx hb dX4_copy_166 rfl (lv_at hl 2 rfl) ?_
          refine lv_bipush (v := 8) hx hb dX4_copy_167 (by decide) ?_
          refine lv_iand hx hb dX4_copy_169 (lv_topi (fun v32 e32 => ?_))
          have t32 : 0 ≤ v32.toInt ∧ v32.toInt ≤ 8 := by rw [e32]; exact and_r (by decide) (by omega)
          refine lv_if_eq (tgt := 177) hx hb dX4_copy_170 (by decide) (fun c33 => ?_) (fun c33 => ?_)
          · have f33 : v32.toInt = 0 := f_eq rfl (by decide) c33
            refine lv_aload_n hx hb dX4_copy_177 rfl (lv_at hl 1 rfl) ?_
            refine g_get cx hP iw_X4_copy_X4 6 rfl rfl 12 (by decide) rfl fw_X4_copy_63 rfl dX4_copy_178 ?_
            refine g_pt cx hP hD hS iw_X4_copy_X4 tyX4 tyX4_ok nmX4 0 rfl rfl 12 (by decide) rfl fw_X4_copy_63 (ty := .int) rfl rfl rfl (Nat.le_of_ble_eq_true rfl) dX4_copy_181 (fun H locs hP hD hS => ?_)
            have hP : va_P D vwCl [cell157_ qh so (-9), (qh 1, .inl (k 0, 5, .inl g1)), (qh 2, .inl (k 0, 5, .inl g2)), (qh 3, .inl (k 0, 3, .inl g3)), (qh 4, .inl (k 0, 3, .inl g4)), cell2_ k qh sh, cell32_ qo so, cell0_ k qo so, cell1_ k qo so, cell4_ k qo so, cell3_ k qo so, cell2_ k qo so] H := hP
            have hD : va_D A [cell157_ qh so (-9), (qh 1, .inl (k 0, 5, .inl g1)), (qh 2, .inl (k 0, 5, .inl g2)), (qh 3, .inl (k 0, 3, .inl g3)), (qh 4, .inl (k 0, 3, .inl g4)), cell2_ k qh sh, cell32_ qo so, cell0_ k qo so, cell1_ k qo so, cell4_ k qo so, cell3_ k qo so, cell2_ k qo so] := hD
            refine lv_aload_n hx hb dX4_copy_184 rfl (lv_at hl 0 rfl) ?_
            refine g_v (w1 := fun (u : (Nat → Int32)) => [cell157_ qh so (-9), (qh 1, .inl (k 0, 5, .inl g1)), (qh 2, .inl (k 0, 5, .inl g2)), (qh 3, .inl (k 0, 3, .inl g3)), (qh 4, .inl (k 0, 3, .inl g4)), (qh 5, .inl (k 0, 525, .inl u))]) (g_runV (wc := [cell157_ qh so (-9), (qh 1, .inl (k 0, 5, .inl g1)), (qh 2, .inl (k 0, 5, .inl g2)), (qh 3, .inl (k 0, 3, .inl g3)), (qh 4, .inl (k 0, 3, .inl g4)), cell2_ k qh sh]) (rest := []) cx hP hD hS [0, 1, 2, 3, 4, 5] rfl (by decide) [] (c_X4_settle l D k b qh (up2 (up2 (up2 (up2 (up2 sh 0 (upd (upd (upd (upd (upd (upd (upd (upd (upd (sh 0) 0 (so 0 0)) 1 (so 0 1)) 6 (so 0 6)) 7 (so 0 7)) 8 (so 0 8)) 9 (so 0 9)) 10 (so 0 10)) 11 (-9)) 12 (so 0 12))) 1 g1) 2 g2) 3 g3) 4 g4) H.size (show 0 ≤ (so 0 12).toInt ∧ (so 0 12).toInt ≤ 5 from by first | decide | omega) ag3) gX4_copy_X4_settle rfl rfl rfl nd_X4_settle ⟨Nat.le_of_ble_eq_true rfl, Nat.le_of_ble_eq_true rfl⟩ (ci := 2) (q0 := 0) rfl rfl rfl hl.1 rfl (Nat.le_of_ble_eq_true rfl) ⟨Nat.zero_le _, Nat.zero_le _⟩ dX4_copy_185) cx.2.2.1 hP hD hS [0, 1, 2, 3, 4, 5] rfl (fun _ => rfl) (fun u35 H locs hw34 hP hD hS => ?_)
            obtain ⟨m36, rfl⟩ : ∃ z, z = u35 := ⟨_, rfl⟩
            have hP : va_P D vwCl [cell157_ qh so (-9), (qh 1, .inl (k 0, 5, .inl g1)), (qh 2, .inl (k 0, 5, .inl g2)), (qh 3, .inl (k 0, 3, .inl g3)), (qh 4, .inl (k 0, 3, .inl g4)), (qh 5, .inl (k 0, 525, .inl m36)), cell32_ qo so, cell0_ k qo so, cell1_ k qo so, cell4_ k qo so, cell3_ k qo so, cell2_ k qo so] H := hP
            have hD : va_D A [cell157_ qh so (-9), (qh 1, .inl (k 0, 5, .inl g1)), (qh 2, .inl (k 0, 5, .inl g2)), (qh 3, .inl (k 0, 3, .inl g3)), (qh 4, .inl (k 0, 3, .inl g4)), (qh 5, .inl (k 0, 525, .inl m36)), cell32_ qo so, cell0_ k qo so, cell1_ k qo so, cell4_ k qo so, cell3_ k qo so, cell2_ k qo so] := hD
            replace hw34 : (SUok m36) ∧ (m36 = J_X4_settle (up2 (up2 (up2 (up2 (up2 sh 0 (upd (upd (upd (upd (upd (upd (upd (upd (upd (sh 0) 0 (so 0 0)) 1 (so 0 1)) 6 (so 0 6)) 7 (so 0 7)) 8 (so 0 8)) 9 (so 0 9)) 10 (so 0 10)) 11 (-9)) 12 (so 0 12))) 1 g1) 2 g2) 3 g3) 4 g4)) := hw34
            obtain ⟨w37, w38⟩ := hw34
            have k40 : m36 = (J_X4_settle (up2 (up2 (up2 (up2 (up2 sh 0 (upd (upd (upd (upd (upd (upd (upd (upd (upd (sh 0) 0 (so 0 0)) 1 (so 0 1)) 6 (so 0 6)) 7 (so 0 7)) 8 (so 0 8)) 9 (so 0 9)) 10 (so 0 10)) 11 (-9)) 12 (so 0 12))) 1 g1) 2 g2) 3 g3) 4 g4)) := congrArg (fun z => z) w38
            have hlit41 : ((-9) : Int32).toInt = -9 := by decide
            rw [hQ]
            exact x_v cx hr ((so 0 0), (so 0 1), g1, g2, g3, g4, (so 0 6), (so 0 7), (so 0 8), (so 0 9), (so 0 10), (-9), (so 0 12), m36) hP hD hS ⟨(show 0 ≤ (so 0 0).toInt ∧ (so 0 0).toInt ≤ 5 from by omega), (show 0 ≤ (so 0 1).toInt ∧ (so 0 1).toInt ≤ 4 from by omega), (show 0 ≤ (so 0 12).toInt ∧ (so 0 12).toInt ≤ 5 from by omega), ag2, ag3, (show SUok m36 from by assumption), (show (so 0 0).toInt = (so 0 0).toInt from by omega), (show ((so 0 0), (so 0 1), g1, g2, g3, g4, (so 0 6), (so 0 7), (so 0 8), (so 0 9), (so 0 10), ((-9) : Int32), (so 0 12), m36) = J_X4_copy sh so p0 from by subst eg1 eg2 eg3 eg4 e5 e7 e9 e11 e32 k40; first | (refine Eq.symm ?_; refine Eq.trans (if_pos c6) ?_; refine Eq.trans (if_pos c8) ?_; refine Eq.trans (if_pos c10) ?_; refine Eq.trans (if_neg c12) ?_; refine Eq.trans (if_pos c33) ?_; rfl) | (unfold J_X4_copy; try dsimp only; rw [if_pos c6, if_pos c8, if_pos c10, if_neg c12, if_pos c33]))⟩ dX4_copy_188
          · have f33 : ¬ v32.toInt = 0 := f_ne rfl (by decide) c33
            refine lv_iconst (v := 0) hx hb dX4_copy_173 (by decide) ?_
            refine lv_goto (tgt := 181) hx hb dX4_copy_174 (by decide) ?_
            refine g_pt cx hP hD hS iw_X4_copy_X4 tyX4 tyX4_ok nmX4 0 rfl rfl 12 (by decide) rfl fw_X4_copy_63 (ty := .int) rfl rfl rfl (Nat.le_of_ble_eq_true rfl) dX4_copy_181 (fun H locs hP hD hS => ?_)
            have hP : va_P D vwCl [cell158_ qh so (-9) 0, (qh 1, .inl (k 0, 5, .inl g1)), (qh 2, .inl (k 0, 5, .inl g2)), (qh 3, .inl (k 0, 3, .inl g3)), (qh 4, .inl (k 0, 3, .inl g4)), cell2_ k qh sh, cell32_ qo so, cell0_ k qo so, cell1_ k qo so, cell4_ k qo so, cell3_ k qo so, cell2_ k qo so] H := hP
            have hD : va_D A [cell158_ qh so (-9) 0, (qh 1, .inl (k 0, 5, .inl g1)), (qh 2, .inl (k 0, 5, .inl g2)), (qh 3, .inl (k 0, 3, .inl g3)), (qh 4, .inl (k 0, 3, .inl g4)), cell2_ k qh sh, cell32_ qo so, cell0_ k qo so, cell1_ k qo so, cell4_ k qo so, cell3_ k qo so, cell2_ k qo so] := hD
            have hlit42 : (0 : Int32).toInt = 0 := by decide
            refine lv_aload_n hx hb dX4_copy_184 rfl (lv_at hl 0 rfl) ?_
            refine g_v (w1 := fun (u : (Nat → Int32)) => [cell158_ qh so (-9) 0, (qh 1, .inl (k 0, 5, .inl g1)), (qh 2, .inl (k 0, 5, .inl g2)), (qh 3, .inl (k 0, 3, .inl g3)), (qh 4, .inl (k 0, 3, .inl g4)), (qh 5, .inl (k 0, 525, .inl u))]) (g_runV (wc := [cell158_ qh so (-9) 0, (qh 1, .inl (k 0, 5, .inl g1)), (qh 2, .inl (k 0, 5, .inl g2)), (qh 3, .inl (k 0, 3, .inl g3)), (qh 4, .inl (k 0, 3, .inl g4)), cell2_ k qh sh]) (rest := []) cx hP hD hS [0, 1, 2, 3, 4, 5] rfl (by decide) [] (c_X4_settle l D k b qh (up2 (up2 (up2 (up2 (up2 sh 0 (upd (upd (upd (upd (upd (upd (upd (upd (upd (sh 0) 0 (so 0 0)) 1 (so 0 1)) 6 (so 0 6)) 7 (so 0 7)) 8 (so 0 8)) 9 (so 0 9)) 10 (so 0 10)) 11 (-9)) 12 0)) 1 g1) 2 g2) 3 g3) 4 g4) H.size (show 0 ≤ (0 : Int32).toInt ∧ (0 : Int32).toInt ≤ 5 from by first | decide | omega) ag3) gX4_copy_X4_settle rfl rfl rfl nd_X4_settle ⟨Nat.le_of_ble_eq_true rfl, Nat.le_of_ble_eq_true rfl⟩ (ci := 2) (q0 := 0) rfl rfl rfl hl.1 rfl (Nat.le_of_ble_eq_true rfl) ⟨Nat.zero_le _, Nat.zero_le _⟩ dX4_copy_185) cx.2.2.1 hP hD hS [0, 1, 2, 3, 4, 5] rfl (fun _ => rfl) (fun u44 H locs hw43 hP hD hS => ?_)
            obtain ⟨m45, rfl⟩ : ∃ z, z = u44 := ⟨_, rfl⟩
            have hP : va_P D vwCl [cell158_ qh so (-9) 0, (qh 1, .inl (k 0, 5, .inl g1)), (qh 2, .inl (k 0, 5, .inl g2)), (qh 3, .inl (k 0, 3, .inl g3)), (qh 4, .inl (k 0, 3, .inl g4)), (qh 5, .inl (k 0, 525, .inl m45)), cell32_ qo so, cell0_ k qo so, cell1_ k qo so, cell4_ k qo so, cell3_ k qo so, cell2_ k qo so] H := hP
            have hD : va_D A [cell158_ qh so (-9) 0, (qh 1, .inl (k 0, 5, .inl g1)), (qh 2, .inl (k 0, 5, .inl g2)), (qh 3, .inl (k 0, 3, .inl g3)), (qh 4, .inl (k 0, 3, .inl g4)), (qh 5, .inl (k 0, 525, .inl m45)), cell32_ qo so, cell0_ k qo so, cell1_ k qo so, cell4_ k qo so, cell3_ k qo so, cell2_ k qo so] := hD
            replace hw43 : (SUok m45) ∧ (m45 = J_X4_settle (up2 (up2 (up2 (up2 (up2 sh 0 (upd (upd (upd (upd (upd (upd (upd (upd (upd (sh 0) 0 (so 0 0)) 1 (so 0 1)) 6 (so 0 6)) 7 (so 0 7)) 8 (so 0 8)) 9 (so 0 9)) 10 (so 0 10)) 11 (-9)) 12 0)) 1 g1) 2 g2) 3 g3) 4 g4)) := hw43
            obtain ⟨w46, w47⟩ := hw43
            have k49 : m45 = (J_X4_settle (up2 (up2 (up2 (up2 (up2 sh 0 (upd (upd (upd (upd (upd (upd (upd (upd (upd (sh 0) 0 (so 0 0)) 1 (so 0 1)) 6 (so 0 6)) 7 (so 0 7)) 8 (so 0 8)) 9 (so 0 9)) 10 (so 0 10)) 11 (-9)) 12 0)) 1 g1) 2 g2) 3 g3) 4 g4)) := congrArg (fun z => z) w47
            have hlit50 : ((-9) : Int32).toInt = -9 := by decide
            have hlit51 : (0 : Int32).toInt = 0 := by decide
            rw [hQ]
            exact x_v cx hr ((so 0 0), (so 0 1), g1, g2, g3, g4, (so 0 6), (so 0 7), (so 0 8), (so 0 9), (so 0 10), (-9), 0, m45) hP hD hS ⟨(show 0 ≤ (so 0 0).toInt ∧ (so 0 0).toInt ≤ 5 from by omega), (show 0 ≤ (so 0 1).toInt ∧ (so 0 1).toInt ≤ 4 from by omega), (show 0 ≤ (0 : Int32).toInt ∧ (0 : Int32).toInt ≤ 5 from by omega), ag2, ag3, (show SUok m45 from by assumption), (show (so 0 0).toInt = (so 0 0).toInt from by omega), (show ((so 0 0), (so 0 1), g1, g2, g3, g4, (so 0 6), (so 0 7), (so 0 8), (so 0 9), (so 0 10), ((-9) : Int32), (0 : Int32), m45) = J_X4_copy sh so p0 from by subst eg1 eg2 eg3 eg4 e5 e7 e9 e11 e32 k49; first | (refine Eq.symm ?_; refine Eq.trans (if_pos c6) ?_; refine Eq.trans (if_pos c8) ?_; refine Eq.trans (if_pos c10) ?_; refine Eq.trans (if_neg c12) ?_; refine Eq.trans (if_neg c33) ?_; rfl) | (unfold J_X4_copy; try dsimp only; rw [if_pos c6, if_pos c8, if_pos c10, if_neg c12, if_neg c33]))⟩ dX4_copy_188
      · have f10 : ¬ v9.toInt = 0 := f_ne rfl (by decide) c10
        refine lv_bipush (v := (-9)) hx hb dX4_copy_133 (by decide) ?_
        refine lv_goto (tgt := 142) hx hb dX4_copy_135 (by decide) ?_
        refine g_pt cx hP hD hS iw_X4_copy_X4 tyX4 tyX4_ok nmX4 0 rfl rfl 10 (by decide) rfl fw_X4_copy_57 (ty := .int) rfl rfl rfl (Nat.le_of_ble_eq_true rfl) dX4_copy_142 (fun H locs hP hD hS => ?_)
        have hP : va_P D vwCl [(qh 0, .inr (2, [.int (so 0 0), .int (so 0 1), .ref (qh 1), .ref (qh 2), .ref (qh 3), .ref (qh 4), .int (so 0 6), .int (so 0 7), .int (so 0 8), .int (so 0 9), .int (-9), .int (sh 0 11), .int (sh 0 12), .ref (qh 5)])), (qh 1, .inl (k 0, 5, .inl g1)), (qh 2, .inl (k 0, 5, .inl g2)), (qh 3, .inl (k 0, 3, .inl g3)), (qh 4, .inl (k 0, 3, .inl g4)), cell2_ k qh sh, cell32_ qo so, cell0_ k qo so, cell1_ k qo so, cell4_ k qo so, cell3_ k qo so, cell2_ k qo so] H := hP
        have hD : va_D A [(qh 0, .inr (2, [.int (so 0 0), .int (so 0 1), .ref (qh 1), .ref (qh 2), .ref (qh 3), .ref (qh 4), .int (so 0 6), .int (so 0 7), .int (so 0 8), .int (so 0 9), .int (-9), .int (sh 0 11), .int (sh 0 12), .ref (qh 5)])), (qh 1, .inl (k 0, 5, .inl g1)), (qh 2, .inl (k 0, 5, .inl g2)), (qh 3, .inl (k 0, 3, .inl g3)), (qh 4, .inl (k 0, 3, .inl g4)), cell2_ k qh sh, cell32_ qo so, cell0_ k qo so, cell1_ k qo so, cell4_ k qo so, cell3_ k qo so, cell2_ k qo so] := hD
        have hlit52 : ((-9) : Int32).toInt = -9 := by decide
        refine lv_aload_n hx hb dX4_copy_145 rfl (lv_at hl 0 rfl) ?_
        refine lv_iload_n hx hb dX4_copy_146 rfl (lv_at hl 2 rfl) ?_
        refine lv_bipush (v := 8) hx hb dX4_copy_147 (by decide) ?_
        refine lv_iand hx hb dX4_copy_149 (lv_topi (fun v53 e53 => ?_))
        have t53 : 0 ≤ v53.toInt ∧ v53.toInt ≤ 8 := by rw [e53]; exact and_r (by decide) (by omega)
        refine lv_if_eq (tgt := 158) hx hb dX4_copy_150 (by decide) (fun c54 => ?_) (fun c54 => ?_)
        · have f54 : v53.toInt = 0 := f_eq rfl (by decide) c54
          refine lv_aload_n hx hb dX4_copy_158 rfl (lv_at hl 1 rfl) ?_
          refine g_get cx hP iw_X4_copy_X4 6 rfl rfl 11 (by decide) rfl fw_X4_copy_60 rfl dX4_copy_159 ?_
          refine g_pt cx hP hD hS iw_X4_copy_X4 tyX4 tyX4_ok nmX4 0 rfl rfl 11 (by decide) rfl fw_X4_copy_60 (ty := .int) rfl rfl rfl (Nat.le_of_ble_eq_true rfl) dX4_copy_162 (fun H locs hP hD hS => ?_)
          have hP : va_P D vwCl [(qh 0, .inr (2, [.int (so 0 0), .int (so 0 1), .ref (qh 1), .ref (qh 2), .ref (qh 3), .ref (qh 4), .int (so 0 6), .int (so 0 7), .int (so 0 8), .int (so 0 9), .int (-9), .int (so 0 11), .int (sh 0 12), .ref (qh 5)])), (qh 1, .inl (k 0, 5, .inl g1)), (qh 2, .inl (k 0, 5, .inl g2)), (qh 3, .inl (k 0, 3, .inl g3)), (qh 4, .inl (k 0, 3, .inl g4)), cell2_ k qh sh, cell32_ qo so, cell0_ k qo so, cell1_ k qo so, cell4_ k qo so, cell3_ k qo so, cell2_ k qo so] H := hP
          have hD : va_D A [(qh 0, .inr (2, [.int (so 0 0), .int (so 0 1), .ref (qh 1), .ref (qh 2), .ref (qh 3), .ref (qh 4), .int (so 0 6), .int (so 0 7), .int (so 0 8), .int (so 0 9), .int (-9), .int (so 0 11), .int (sh 0 12), .ref (qh 5)])), (qh 1, .inl (k 0, 5, .inl g1)), (qh 2, .inl (k 0, 5, .inl g2)), (qh 3, .inl (k 0, 3, .inl g3)), (qh 4, .inl (k 0, 3, .inl g4)), cell2_ k qh sh, cell32_ qo so, cell0_ k qo so, cell1_ k qo so, cell4_ k qo so, cell3_ k qo so, cell2_ k qo so] := hD
          refine lv_aload_n hx hb dX4_copy_165 rfl (lv_at hl 0 rfl) ?_
          refine lv_iload_n hx hb dX4_copy_166 rfl (lv_at hl 2 rfl) ?_
          refine lv_bipush (v := 8) hx hb dX4_copy_167 (by decide) ?_
          refine lv_iand hx hb dX4_copy_169 (lv_topi (fun v55 e55 => ?_))
          have t55 : 0 ≤ v55.toInt ∧ v55.toInt ≤ 8 := by rw [e55]; exact and_r (by decide) (by omega)
          refine lv_if_eq (tgt := 177) hx hb dX4_copy_170 (by decide) (fun c56 => ?_) (fun c56 => ?_)
          · have f56 : v55.toInt = 0 := f_eq rfl (by decide) c56
            refine lv_aload_n hx hb dX4_copy_177 rfl (lv_at hl 1 rfl) ?_
            refine g_get cx hP iw_X4_copy_X4 6 rfl rfl 12 (by decide) rfl fw_X4_copy_63 rfl dX4_copy_178 ?_
            refine g_pt cx hP hD hS iw_X4_copy_X4 tyX4 tyX4_ok nmX4 0 rfl rfl 12 (by decide) rfl fw_X4_copy_63 (ty := .int) rfl rfl rfl (Nat.le_of_ble_eq_true rfl) dX4_copy_181 (fun H locs hP hD hS => ?_)
            have hP : va_P D vwCl [cell156_ qh so (-9), (qh 1, .inl (k 0, 5, .inl g1)), (qh 2, .inl (k 0, 5, .inl g2)), (qh 3, .inl (k 0, 3, .inl g3)), (qh 4, .inl (k 0, 3, .inl g4)), cell2_ k qh sh, cell32_ qo so, cell0_ k qo so, cell1_ k qo so, cell4_ k qo so, cell3_ k qo so, cell2_ k qo so] H := hP
            have hD : va_D A [cell156_ qh so (-9), (qh 1, .inl (k 0, 5, .inl g1)), (qh 2, .inl (k 0, 5, .inl g2)), (qh 3, .inl (k 0, 3, .inl g3)), (qh 4, .inl (k 0, 3, .inl g4)), cell2_ k qh sh, cell32_ qo so, cell0_ k qo so, cell1_ k qo so, cell4_ k qo so, cell3_ k qo so, cell2_ k qo so] := hD
            refine lv_aload_n hx hb dX4_copy_184 rfl (lv_at hl 0 rfl) ?_
            refine g_v (w1 := fun (u : (Nat → Int32)) => [cell156_ qh so (-9), (qh 1, .inl (k 0, 5, .inl g1)), (qh 2, .inl (k 0, 5, .inl g2)), (qh 3, .inl (k 0, 3, .inl g3)), (qh 4, .inl (k 0, 3, .inl g4)), (qh 5, .inl (k 0, 525, .inl u))]) (g_runV (wc := [cell156_ qh so (-9), (qh 1, .inl (k 0, 5, .inl g1)), (qh 2, .inl (k 0, 5, .inl g2)), (qh 3, .inl (k 0, 3, .inl g3)), (qh 4, .inl (k 0, 3, .inl g4)), cell2_ k qh sh]) (rest := []) cx hP hD hS [0, 1, 2, 3, 4, 5] rfl (by decide) [] (c_X4_settle l D k b qh (up2 (up2 (up2 (up2 (up2 sh 0 (upd (upd (upd (upd (upd (upd (upd (upd (upd (sh 0) 0 (so 0 0)) 1 (so 0 1)) 6 (so 0 6)) 7 (so 0 7)) 8 (so 0 8)) 9 (so 0 9)) 10 (-9)) 11 (so 0 11)) 12 (so 0 12))) 1 g1) 2 g2) 3 g3) 4 g4) H.size (show 0 ≤ (so 0 12).toInt ∧ (so 0 12).toInt ≤ 5 from by first | decide | omega) ag3) gX4_copy_X4_settle rfl rfl rfl nd_X4_settle ⟨Nat.le_of_ble_eq_true rfl, Nat.le_of_ble_eq_true rfl⟩ (ci := 2) (q0 := 0) rfl rfl rfl hl.1 rfl (Nat.le_of_ble_eq_true rfl) ⟨Nat.zero_le _, Nat.zero_le _⟩ dX4_copy_185) cx.2.2.1 hP hD hS [0, 1, 2, 3, 4, 5] rfl (fun _ => rfl) (fun u58 H locs hw57 hP hD hS => ?_)
            obtain ⟨m59, rfl⟩ : ∃ z, z = u58 := ⟨_, rfl⟩
            have hP : va_P D vwCl [cell156_ qh so (-9), (qh 1, .inl (k 0, 5, .inl g1)), (qh 2, .inl (k 0, 5, .inl g2)), (qh 3, .inl (k 0, 3, .inl g3)), (qh 4, .inl (k 0, 3, .inl g4)), (qh 5, .inl (k 0, 525, .inl m59)), cell32_ qo so, cell0_ k qo so, cell1_ k qo so, cell4_ k qo so, cell3_ k qo so, cell2_ k qo so] H := hP
            have hD : va_D A [cell156_ qh so (-9), (qh 1, .inl (k 0, 5, .inl g1)), (qh 2, .inl (k 0, 5, .inl g2)), (qh 3, .inl (k 0, 3, .inl g3)), (qh 4, .inl (k 0, 3, .inl g4)), (qh 5, .inl (k 0, 525, .inl m59)), cell32_ qo so, cell0_ k qo so, cell1_ k qo so, cell4_ k qo so, cell3_ k qo so, cell2_ k qo so] := hD
            replace hw57 : (SUok m59) ∧ (m59 = J_X4_settle (up2 (up2 (up2 (up2 (up2 sh 0 (upd (upd (upd (upd (upd (upd (upd (upd (upd (sh 0) 0 (so 0 0)) 1 (so 0 1)) 6 (so 0 6)) 7 (so 0 7)) 8 (so 0 8)) 9 (so 0 9)) 10 (-9)) 11 (so 0 11)) 12 (so 0 12))) 1 g1) 2 g2) 3 g3) 4 g4)) := hw57
            obtain ⟨w60, w61⟩ := hw57
            have k63 : m59 = (J_X4_settle (up2 (up2 (up2 (up2 (up2 sh 0 (upd (upd (upd (upd (upd (upd (upd (upd (upd (sh 0) 0 (so 0 0)) 1 (so 0 1)) 6 (so 0 6)) 7 (so 0 7)) 8 (so 0 8)) 9 (so 0 9)) 10 (-9)) 11 (so 0 11)) 12 (so 0 12))) 1 g1) 2 g2) 3 g3) 4 g4)) := congrArg (fun z => z) w61
            have hlit64 : ((-9) : Int32).toInt = -9 := by decide
            rw [hQ]
            exact x_v cx hr ((so 0 0), (so 0 1), g1, g2, g3, g4, (so 0 6), (so 0 7), (so 0 8), (so 0 9), (-9), (so 0 11), (so 0 12), m59) hP hD hS ⟨(show 0 ≤ (so 0 0).toInt ∧ (so 0 0).toInt ≤ 5 from by omega), (show 0 ≤ (so 0 1).toInt ∧ (so 0 1).toInt ≤ 4 from by omega), (show 0 ≤ (so 0 12).toInt ∧ (so 0 12).toInt ≤ 5 from by omega), ag2, ag3, (show SUok m59 from by assumption), (show (so 0 0).toInt = (so 0 0).toInt from by omega), (show ((so 0 0), (so 0 1), g1, g2, g3, g4, (so 0 6), (so 0 7), (so 0 8), (so 0 9), ((-9) : Int32), (so 0 11), (so 0 12), m59) = J_X4_copy sh so p0 from by subst eg1 eg2 eg3 eg4 e5 e7 e9 e53 e55 k63; first | (refine Eq.symm ?_; refine Eq.trans (if_pos c6) ?_; refine Eq.trans (if_pos c8) ?_; refine Eq.trans (if_neg c10) ?_; refine Eq.trans (if_pos c54) ?_; refine Eq.trans (if_pos c56) ?_; rfl) | (unfold J_X4_copy; try dsimp only; rw [if_pos c6, if_pos c8, if_neg c10, if_pos c54, if_pos c56]))⟩ dX4_copy_188
          · have f56 : ¬ v55.toInt = 0 := f_ne rfl (by decide) c56
            refine lv_iconst (v := 0) hx hb dX4_copy_173 (by decide) ?_
            refine lv_goto (tgt := 181) hx hb dX4_copy_174 (by decide) ?_
            refine g_pt cx hP hD hS iw_X4_copy_X4 tyX4 tyX4_ok nmX4 0 rfl rfl 12 (by decide) rfl fw_X4_copy_63 (ty := .int) rfl rfl rfl (Nat.le_of_ble_eq_true rfl) dX4_copy_181 (fun H locs hP hD hS => ?_)
            have hP : va_P D vwCl [cell170_ qh so (-9) 0, (qh 1, .inl (k 0, 5, .inl g1)), (qh 2, .inl (k 0, 5, .inl g2)), (qh 3, .inl (k 0, 3, .inl g3)), (qh 4, .inl (k 0, 3, .inl g4)), cell2_ k qh sh, cell32_ qo so, cell0_ k qo so, cell1_ k qo so, cell4_ k qo so, cell3_ k qo so, cell2_ k qo so] H := hP
            have hD : va_D A [cell170_ qh so (-9) 0, (qh 1, .inl (k 0, 5, .inl g1)), (qh 2, .inl (k 0, 5, .inl g2)), (qh 3, .inl (k 0, 3, .inl g3)), (qh 4, .inl (k 0, 3, .inl g4)), cell2_ k qh sh, cell32_ qo so, cell0_ k qo so, cell1_ k qo so, cell4_ k qo so, cell3_ k qo so, cell2_ k qo so] := hD
            have hlit65 : (0 : Int32).toInt = 0 := by decide
            refine lv_aload_n hx hb dX4_copy_184 rfl (lv_at hl 0 rfl) ?_
            refine g_v (w1 := fun (u : (Nat → Int32)) => [cell170_ qh so (-9) 0, (qh 1, .inl (k 0, 5, .inl g1)), (qh 2, .inl (k 0, 5, .inl g2)), (qh 3, .inl (k 0, 3, .inl g3)), (qh 4, .inl (k 0, 3, .inl g4)), (qh 5, .inl (k 0, 525, .inl u))]) (g_runV (wc := [cell170_ qh so (-9) 0, (qh 1, .inl (k 0, 5, .inl g1)), (qh 2, .inl (k 0, 5, .inl g2)), (qh 3, .inl (k 0, 3, .inl g3)), (qh 4, .inl (k 0, 3, .inl g4)), cell2_ k qh sh]) (rest := []) cx hP hD hS [0, 1, 2, 3, 4, 5] rfl (by decide) [] (c_X4_settle l D k b qh (up2 (up2 (up2 (up2 (up2 sh 0 (upd (upd (upd (upd (upd (upd (upd (upd (upd (sh 0) 0 (so 0 0)) 1 (so 0 1)) 6 (so 0 6)) 7 (so 0 7)) 8 (so 0 8)) 9 (so 0 9)) 10 (-9)) 11 (so 0 11)) 12 0)) 1 g1) 2 g2) 3 g3) 4 g4) H.size (show 0 ≤ (0 : Int32).toInt ∧ (0 : Int32).toInt ≤ 5 from by first | decide | omega) ag3) gX4_copy_X4_settle rfl rfl rfl nd_X4_settle ⟨Nat.le_of_ble_eq_true rfl, Nat.le_of_ble_eq_true rfl⟩ (ci := 2) (q0 := 0) rfl rfl rfl hl.1 rfl (Nat.le_of_ble_eq_true rfl) ⟨Nat.zero_le _, Nat.zero_le _⟩ dX4_copy_185) cx.2.2.1 hP hD hS [0, 1, 2, 3, 4, 5] rfl (fun _ => rfl) (fun u67 H locs hw66 hP hD hS => ?_)
            obtain ⟨m68, rfl⟩ : ∃ z, z = u67 := ⟨_, rfl⟩
            have hP : va_P D vwCl [cell170_ qh so (-9) 0, (qh 1, .inl (k 0, 5, .inl g1)), (qh 2, .inl (k 0, 5, .inl g2)), (qh 3, .inl (k 0, 3, .inl g3)), (qh 4, .inl (k 0, 3, .inl g4)), (qh 5, .inl (k 0, 525, .inl m68)), cell32_ qo so, cell0_ k qo so, cell1_ k qo so, cell4_ k qo so, cell3_ k qo so, cell2_ k qo so] H := hP
            have hD : va_D A [cell170_ qh so (-9) 0, (qh 1, .inl (k 0, 5, .inl g1)), (qh 2, .inl (k 0, 5, .inl g2)), (qh 3, .inl (k 0, 3, .inl g3)), (qh 4, .inl (k 0, 3, .inl g4)), (qh 5, .inl (k 0, 525, .inl m68)), cell32_ qo so, cell0_ k qo so, cell1_ k qo so, cell4_ k qo so, cell3_ k qo so, cell2_ k qo so] := hD
            replace hw66 : (SUok m68) ∧ (m68 = J_X4_settle (up2 (up2 (up2 (up2 (up2 sh 0 (upd (upd (upd (upd (upd (upd (upd (upd (upd (sh 0) 0 (so 0 0)) 1 (so 0 1)) 6 (so 0 6)) 7 (so 0 7)) 8 (so 0 8)) 9 (so 0 9)) 10 (-9)) 11 (so 0 11)) 12 0)) 1 g1) 2 g2) 3 g3) 4 g4)) := hw66
            obtain ⟨w69, w70⟩ := hw66
            have k72 : m68 = (J_X4_settle (up2 (up2 (up2 (up2 (up2 sh 0 (upd (upd (upd (upd (upd (upd (upd (upd (upd (sh 0) 0 (so 0 0)) 1 (so 0 1)) 6 (so 0 6)) 7 (so 0 7)) 8 (so 0 8)) 9 (so 0 9)) 10 (-9)) 11 (so 0 11)) 12 0)) 1 g1) 2 g2) 3 g3) 4 g4)) := congrArg (fun z => z) w70
            have hlit73 : ((-9) : Int32).toInt = -9 := by decide
            have hlit74 : (0 : Int32).toInt = 0 := by decide
            rw [hQ]
            exact x_v cx hr ((so 0 0), (so 0 1), g1, g2, g3, g4, (so 0 6), (so 0 7), (so 0 8), (so 0 9), (-9), (so 0 11), 0, m68) hP hD hS ⟨(show 0 ≤ (so 0 0).toInt ∧ (so 0 0).toInt ≤ 5 from by omega), (show 0 ≤ (so 0 1).toInt ∧ (so 0 1).toInt ≤ 4 from by omega), (show 0 ≤ (0 : Int32).toInt ∧ (0 : Int32).toInt ≤ 5 from by omega), ag2, ag3, (show SUok m68 from by assumption), (show (so 0 0).toInt = (so 0 0).toInt from by omega), (show ((so 0 0), (so 0 1), g1, g2, g3, g4, (so 0 6), (so 0 7), (so 0 8), (so 0 9), ((-9) : Int32), (so 0 11), (0 : Int32), m68) = J_X4_copy sh so p0 from by subst eg1 eg2 eg3 eg4 e5 e7 e9 e53 e55 k72; first | (refine Eq.symm ?_; refine Eq.trans (if_pos c6) ?_; refine Eq.trans (if_pos c8) ?_; refine Eq.trans (if_neg c10) ?_; refine Eq.trans (if_pos c54) ?_; refine Eq.trans (if_neg c56) ?_; rfl) | (unfold J_X4_copy; try dsimp only; rw [if_pos c6, if_pos c8, if_neg c10, if_pos c54, if_neg c56]))⟩ dX4_copy_188
        · have f54 : ¬ v53.toInt = 0 := f_ne rfl (by decide) c54
          refine lv_bipush (v := (-9)) hx hb dX4_copy_153 (by decide) ?_
          refine lv_goto (tgt := 162) hx hb dX4_copy_155 (by decide) ?_
          refine g_pt cx hP hD hS iw_X4_copy_X4 tyX4 tyX4_ok nmX4 0 rfl rfl 11 (by decide) rfl fw_X4_copy_60 (ty := .int) rfl rfl rfl (Nat.le_of_ble_eq_true rfl) dX4_copy_162 (fun H locs hP hD hS => ?_)
          have hP : va_P D vwCl [(qh 0, .inr (2, [.int (so 0 0), .int (so 0 1), .ref (qh 1), .ref (qh 2), .ref (qh 3), .ref (qh 4), .int (so 0 6), .int (so 0 7), .int (so 0 8), .int (so 0 9), .int (-9), .int (-9), .int (sh 0 12), .ref (qh 5)])), (qh 1, .inl (k 0, 5, .inl g1)), (qh 2, .inl (k 0, 5, .inl g2)), (qh 3, .inl (k 0, 3, .inl g3)), (qh 4, .inl (k 0, 3, .inl g4)), cell2_ k qh sh, cell32_ qo so, cell0_ k qo so, cell1_ k qo so, cell4_ k qo so, cell3_ k qo so, cell2_ k qo so] H := hP
          have hD : va_D A [(qh 0, .inr (2, [.int (so 0 0), .int (so 0 1), .ref (qh 1), .ref (qh 2), .ref (qh 3), .ref (qh 4), .int (so 0 6), .int (so 0 7), .int (so 0 8), .int (so 0 9), .int (-9), .int (-9), .int (sh 0 12), .ref (qh 5)])), (qh 1, .inl (k 0, 5, .inl g1)), (qh 2, .inl (k 0, 5, .inl g2)), (qh 3, .inl (k 0, 3, .inl g3)), (qh 4, .inl (k 0, 3, .inl g4)), cell2_ k qh sh, cell32_ qo so, cell0_ k qo so, cell1_ k qo so, cell4_ k qo so, cell3_ k qo so, cell2_ k qo so] := hD
          have hlit75 : ((-9) : Int32).toInt = -9 := by decide
          refine lv_aload_n hx hb dX4_copy_165 rfl (lv_at hl 0 rfl) ?_
          refine lv_iload_n hx hb dX4_copy_166 rfl (lv_at hl 2 rfl) ?_
          refine lv_bipush (v := 8) hx hb dX4_copy_167 (by decide) ?_
          refine lv_iand hx hb dX4_copy_169 (lv_topi (fun v76 e76 => ?_))
          have t76 : 0 ≤ v76.toInt ∧ v76.toInt ≤ 8 := by rw [e76]; exact and_r (by decide) (by omega)
          refine lv_if_eq (tgt := 177) hx hb dX4_copy_170 (by decide) (fun c77 => ?_) (fun c77 => ?_)
          · have f77 : v76.toInt = 0 := f_eq rfl (by decide) c77
            refine lv_aload_n hx hb dX4_copy_177 rfl (lv_at hl 1 rfl) ?_
            refine g_get cx hP iw_X4_copy_X4 6 rfl rfl 12 (by decide) rfl fw_X4_copy_63 rfl dX4_copy_178 ?_
            refine g_pt cx hP hD hS iw_X4_copy_X4 tyX4 tyX4_ok nmX4 0 rfl rfl 12 (by decide) rfl fw_X4_copy_63 (ty := .int) rfl rfl rfl (Nat.le_of_ble_eq_true rfl) dX4_copy_181 (fun H locs hP hD hS => ?_)
            have hP : va_P D vwCl [cell171_ qh so (-9) (-9), (qh 1, .inl (k 0, 5, .inl g1)), (qh 2, .inl (k 0, 5, .inl g2)), (qh 3, .inl (k 0, 3, .inl g3)), (qh 4, .inl (k 0, 3, .inl g4)), cell2_ k qh sh, cell32_ qo so, cell0_ k qo so, cell1_ k qo so, cell4_ k qo so, cell3_ k qo so, cell2_ k qo so] H := hP
            have hD : va_D A [cell171_ qh so (-9) (-9), (qh 1, .inl (k 0, 5, .inl g1)), (qh 2, .inl (k 0, 5, .inl g2)), (qh 3, .inl (k 0, 3, .inl g3)), (qh 4, .inl (k 0, 3, .inl g4)), cell2_ k qh sh, cell32_ qo so, cell0_ k qo so, cell1_ k qo so, cell4_ k qo so, cell3_ k qo so, cell2_ k qo so] := hD
            refine lv_aload_n hx hb dX4_copy_184 rfl (lv_at hl 0 rfl) ?_
            refine g_v (w1 := fun (u : (Nat → Int32)) => [cell171_ qh so (-9) (-9), (qh 1, .inl (k 0, 5, .inl g1)), (qh 2, .inl (k 0, 5, .inl g2)), (qh 3, .inl (k 0, 3, .inl g3)), (qh 4, .inl (k 0, 3, .inl g4)), (qh 5, .inl (k 0, 525, .inl u))]) (g_runV (wc := [cell171_ qh so (-9) (-9), (qh 1, .inl (k 0, 5, .inl g1)), (qh 2, .inl (k 0, 5, .inl g2)), (qh 3, .inl (k 0, 3, .inl g3)), (qh 4, .inl (k 0, 3, .inl g4)), cell2_ k qh sh]) (rest := []) cx hP hD hS [0, 1, 2, 3, 4, 5] rfl (by decide) [] (c_X4_settle l D k b qh (up2 (up2 (up2 (up2 (up2 sh 0 (upd (upd (upd (upd (upd (upd (upd (upd (upd (sh 0) 0 (so 0 0)) 1 (so 0 1)) 6 (so 0 6)) 7 (so 0 7)) 8 (so 0 8)) 9 (so 0 9)) 10 (-9)) 11 (-9)) 12 (so 0 12))) 1 g1) 2 g2) 3 g3) 4 g4) H.size (show 0 ≤ (so 0 12).toInt ∧ (so 0 12).toInt ≤ 5 from by first | decide | omega) ag3) gX4_copy_X4_settle rfl rfl rfl nd_X4_settle ⟨Nat.le_of_ble_eq_true rfl, Nat.le_of_ble_eq_true rfl⟩ (ci := 2) (q0 := 0) rfl rfl rfl hl.1 rfl (Nat.le_of_ble_eq_true rfl) ⟨Nat.zero_le _, Nat.zero_le _⟩ dX4_copy_185) cx.2.2.1 hP hD hS [0, 1, 2, 3, 4, 5] rfl (fun _ => rfl) (fun u79 H locs hw78 hP hD hS => ?_)
            obtain ⟨m80, rfl⟩ : ∃ z, z = u79 := ⟨_, rfl⟩
            have hP : va_P D vwCl [cell171_ qh so (-9) (-9), (qh 1, .inl (k 0, 5, .inl g1)), (qh 2, .inl (k 0, 5, .inl g2)), (qh 3, .inl (k 0, 3, .inl g3)), (qh 4, .inl (k 0, 3, .inl g4)), (qh 5, .inl (k 0, 525, .inl m80)), cell32_ qo so, cell0_ k qo so, cell1_ k qo so, cell4_ k qo so, cell3_ k qo so, cell2_ k qo so] H := hP
            have hD : va_D A [cell171_ qh so (-9) (-9), (qh 1, .inl (k 0, 5, .inl g1)), (qh 2, .inl (k 0, 5, .inl g2)), (qh 3, .inl (k 0, 3, .inl g3)), (qh 4, .inl (k 0, 3, .inl g4)), (qh 5, .inl (k 0, 525, .inl m80)), cell32_ qo so, cell0_ k qo so, cell1_ k qo so, cell4_ k qo so, cell3_ k qo so, cell2_ k qo so] := hD
            replace hw78 : (SUok m80) ∧ (m80 = J_X4_settle (up2 (up2 (up2 (up2 (up2 sh 0 (upd (upd (upd (upd (upd (upd (upd (upd (upd (sh 0) 0 (so 0 0)) 1 (so 0 1)) 6 (so 0 6)) 7 (so 0 7)) 8 (so 0 8)) 9 (so 0 9)) 10 (-9)) 11 (-9)) 12 (so 0 12))) 1 g1) 2 g2) 3 g3) 4 g4)) := hw78
            obtain ⟨w81, w82⟩ := hw78
            have k84 : m80 = (J_X4_settle (up2 (up2 (up2 (up2 (up2 sh 0 (upd (upd (upd (upd (upd (upd (upd (upd (upd (sh 0) 0 (so 0 0)) 1 (so 0 1)) 6 (so 0 6)) 7 (so 0 7)) 8 (so 0 8)) 9 (so 0 9)) 10 (-9)) 11 (-9)) 12 (so 0 12))) 1 g1) 2 g2) 3 g3) 4 g4)) := congrArg (fun z => z) w82
            have hlit85 : ((-9) : Int32).toInt = -9 := by decide
            have hlit86 : ((-9) : Int32).toInt = -9 := by decide
            rw [hQ]
            exact x_v cx hr ((so 0 0), (so 0 1), g1, g2, g3, g4, (so 0 6), (so 0 7), (so 0 8), (so 0 9), (-9), (-9), (so 0 12), m80) hP hD hS ⟨(show 0 ≤ (so 0 0).toInt ∧ (so 0 0).toInt ≤ 5 from by omega), (show 0 ≤ (so 0 1).toInt ∧ (so 0 1).toInt ≤ 4 from by omega), (show 0 ≤ (so 0 12).toInt ∧ (so 0 12).toInt ≤ 5 from by omega), ag2, ag3, (show SUok m80 from by assumption), (show (so 0 0).toInt = (so 0 0).toInt from by omega), (show ((so 0 0), (so 0 1), g1, g2, g3, g4, (so 0 6), (so 0 7), (so 0 8), (so 0 9), ((-9) : Int32), ((-9) : Int32), (so 0 12), m80) = J_X4_copy sh so p0 from by subst eg1 eg2 eg3 eg4 e5 e7 e9 e53 e76 k84; first | (refine Eq.symm ?_; refine Eq.trans (if_pos c6) ?_; refine Eq.trans (if_pos c8) ?_; refine Eq.trans (if_neg c10) ?_; refine Eq.trans (if_neg c54) ?_; refine Eq.trans (if_pos c77) ?_; rfl) | (unfold J_X4_copy; try dsimp only; rw [if_pos c6, if_pos c8, if_neg c10, if_neg c54, if_pos c77]))⟩ dX4_copy_188
          · have f77 : ¬ v76.toInt = 0 := f_ne rfl (by decide) c77
            refine lv_iconst (v := 0) hx hb dX4_copy_173 (by decide) ?_
            refine lv_goto (tgt := 181) hx hb dX4_copy_174 (by decide) ?_
            refine g_pt cx hP hD hS iw_X4_copy_X4 tyX4 tyX4_ok nmX4 0 rfl rfl 12 (by decide) rfl fw_X4_copy_63 (ty := .int) rfl rfl rfl (Nat.le_of_ble_eq_true rfl) dX4_copy_181 (fun H locs hP hD hS => ?_)
            have hP : va_P D vwCl [cell172_ qh so (-9) (-9) 0, (qh 1, .inl (k 0, 5, .inl g1)), (qh 2, .inl (k 0, 5, .inl g2)), (qh 3, .inl (k 0, 3, .inl g3)), (qh 4, .inl (k 0, 3, .inl g4)), cell2_ k qh sh, cell32_ qo so, cell0_ k qo so, cell1_ k qo so, cell4_ k qo so, cell3_ k qo so, cell2_ k qo so] H := hP
            have hD : va_D A [cell172_ qh so (-9) (-9) 0, (qh 1, .inl (k 0, 5, .inl g1)), (qh 2, .inl (k 0, 5, .inl g2)), (qh 3, .inl (k 0, 3, .inl g3)), (qh 4, .inl (k 0, 3, .inl g4)), cell2_ k qh sh, cell32_ qo so, cell0_ k qo so, cell1_ k qo so, cell4_ k qo so, cell3_ k qo so, cell2_ k qo so] := hD
            have hlit87 : (0 : Int32).toInt = 0 := by decide
            refine lv_aload_n hx hb dX4_copy_184 rfl (lv_at hl 0 rfl) ?_
            refine g_v (w1 := fun (u : (Nat → Int32)) => [cell172_ qh so (-9) (-9) 0, (qh 1, .inl (k 0, 5, .inl g1)), (qh 2, .inl (k 0, 5, .inl g2)), (qh 3, .inl (k 0, 3, .inl g3)), (qh 4, .inl (k 0, 3, .inl g4)), (qh 5, .inl (k 0, 525, .inl u))]) (g_runV (wc := [cell172_ qh so (-9) (-9) 0, (qh 1, .inl (k 0, 5, .inl g1)), (qh 2, .inl (k 0, 5, .inl g2)), (qh 3, .inl (k 0, 3, .inl g3)), (qh 4, .inl (k 0, 3, .inl g4)), cell2_ k qh sh]) (rest := []) cx hP hD hS [0, 1, 2, 3, 4, 5] rfl (by decide) [] (c_X4_settle l D k b qh (up2 (up2 (up2 (up2 (up2 sh 0 (upd (upd (upd (upd (upd (upd (upd (upd (upd (sh 0) 0 (so 0 0)) 1 (so 0 1)) 6 (so 0 6)) 7 (so 0 7)) 8 (so 0 8)) 9 (so 0 9)) 10 (-9)) 11 (-9)) 12 0)) 1 g1) 2 g2) 3 g3) 4 g4) H.size (show 0 ≤ (0 : Int32).toInt ∧ (0 : Int32).toInt ≤ 5 from by first | decide | omega) ag3) gX4_copy_X4_settle rfl rfl rfl nd_X4_settle ⟨Nat.le_of_ble_eq_true rfl, Nat.le_of_ble_eq_true rfl⟩ (ci := 2) (q0 := 0) rfl rfl rfl hl.1 rfl (Nat.le_of_ble_eq_true rfl) ⟨Nat.zero_le _, Nat.zero_le _⟩ dX4_copy_185) cx.2.2.1 hP hD hS [0, 1, 2, 3, 4, 5] rfl (fun _ => rfl) (fun u89 H locs hw88 hP hD hS => ?_)
            obtain ⟨m90, rfl⟩ : ∃ z, z = u89 := ⟨_, rfl⟩
            have hP : va_P D vwCl [cell172_ qh so (-9) (-9) 0, (qh 1, .inl (k 0, 5, .inl g1)), (qh 2, .inl (k 0, 5, .inl g2)), (qh 3, .inl (k 0, 3, .inl g3)), (qh 4, .inl (k 0, 3, .inl g4)), (qh 5, .inl (k 0, 525, .inl m90)), cell32_ qo so, cell0_ k qo so, cell1_ k qo so, cell4_ k qo so, cell3_ k qo so, cell2_ k qo so] H := hP
            have hD : va_D A [cell172_ qh so (-9) (-9) 0, (qh 1, .inl (k 0, 5, .inl g1)), (qh 2, .inl (k 0, 5, .inl g2)), (qh 3, .inl (k 0, 3, .inl g3)), (qh 4, .inl (k 0, 3, .inl g4)), (qh 5, .inl (k 0, 525, .inl m90)), cell32_ qo so, cell0_ k qo so, cell1_ k qo so, cell4_ k qo so, cell3_ k qo so, cell2_ k qo so] := hD
            replace hw88 : (SUok m90) ∧ (m90 = J_X4_settle (up2 (up2 (up2 (up2 (up2 sh 0 (upd (upd (upd (upd (upd (upd (upd (upd (upd (sh 0) 0 (so 0 0)) 1 (so 0 1)) 6 (so 0 6)) 7 (so 0 7)) 8 (so 0 8)) 9 (so 0 9)) 10 (-9)) 11 (-9)) 12 0)) 1 g1) 2 g2) 3 g3) 4 g4)) := hw88
            obtain ⟨w91, w92⟩ := hw88
            have k94 : m90 = (J_X4_settle (up2 (up2 (up2 (up2 (up2 sh 0 (upd (upd (upd (upd (upd (upd (upd (upd (upd (sh 0) 0 (so 0 0)) 1 (so 0 1)) 6 (so 0 6)) 7 (so 0 7)) 8 (so 0 8)) 9 (so 0 9)) 10 (-9)) 11 (-9)) 12 0)) 1 g1) 2 g2) 3 g3) 4 g4)) := congrArg (fun z => z) w92
            have hlit95 : ((-9) : Int32).toInt = -9 := by decide
            have hlit96 : ((-9) : Int32).toInt = -9 := by decide
            have hlit97 : (0 : Int32).toInt = 0 := by decide
            rw [hQ]
            exact x_v cx hr ((so 0 0), (so 0 1), g1, g2, g3, g4, (so 0 6), (so 0 7), (so 0 8), (so 0 9), (-9), (-9), 0, m90) hP hD hS ⟨(show 0 ≤ (so 0 0).toInt ∧ (so 0 0).toInt ≤ 5 from by omega), (show 0 ≤ (so 0 1).toInt ∧ (so 0 1).toInt ≤ 4 from by omega), (show 0 ≤ (0 : Int32).toInt ∧ (0 : Int32).toInt ≤ 5 from by omega), ag2, ag3, (show SUok m90 from by assumption), (show (so 0 0).toInt = (so 0 0).toInt from by omega), (show ((so 0 0), (so 0 1), g1, g2, g3, g4, (so 0 6), (so 0 7), (so 0 8), (so 0 9), ((-9) : Int32), ((-9) : Int32), (0 : Int32), m90) = J_X4_copy sh so p0 from by subst eg1 eg2 eg3 eg4 e5 e7 e9 e53 e76 k94; first | (refine Eq.symm ?_; refine Eq.trans (if_pos c6) ?_; refine Eq.trans (if_pos c8) ?_; refine Eq.trans (if_neg c10) ?_; refine Eq.trans (if_neg c54) ?_; refine Eq.trans (if_neg c77) ?_; rfl) | (unfold J_X4_copy; try dsimp only; rw [if_pos c6, if_pos c8, if_neg c10, if_neg c54, if_neg c77]))⟩ dX4_copy_188
    · have f8 : ¬ v7.toInt = 0 := f_ne rfl (by decide) c8
      refine lv_bipush (v := (-9)) hx hb dX4_copy_114 (by decide) ?_
      refine lv_goto (tgt := 123) hx hb dX4_copy_116 (by decide) ?_
      refine g_pt cx hP hD hS iw_X4_copy_X4 tyX4 tyX4_ok nmX4 0 rfl rfl 9 (by decide) rfl fw_X4_copy_54 (ty := .int) rfl rfl rfl (Nat.le_of_ble_eq_true rfl) dX4_copy_123 (fun H locs hP hD hS => ?_)
      have hP : va_P D vwCl [(qh 0, .inr (2, [.int (so 0 0), .int (so 0 1), .ref (qh 1), .ref (qh 2), .ref (qh 3), .ref (qh 4), .int (so 0 6), .int (so 0 7), .int (so 0 8), .int (-9), .int (sh 0 10), .int (sh 0 11), .int (sh 0 12), .ref (qh 5)])), (qh 1, .inl (k 0, 5, .inl g1)), (qh 2, .inl (k 0, 5, .inl g2)), (qh 3, .inl (k 0, 3, .inl g3)), (qh 4, .inl (k 0, 3, .inl g4)), cell2_ k qh sh, cell32_ qo so, cell0_ k qo so, cell1_ k qo so, cell4_ k qo so, cell3_ k qo so, cell2_ k qo so] H := hP
      have hD : va_D A [(qh 0, .inr (2, [.int (so 0 0), .int (so 0 1), .ref (qh 1), .ref (qh 2), .ref (qh 3), .ref (qh 4), .int (so 0 6), .int (so 0 7), .int (so 0 8), .int (-9), .int (sh 0 10), .int (sh 0 11), .int (sh 0 12), .ref (qh 5)])), (qh 1, .inl (k 0, 5, .inl g1)), (qh 2, .inl (k 0, 5, .inl g2)), (qh 3, .inl (k 0, 3, .inl g3)), (qh 4, .inl (k 0, 3, .inl g4)), cell2_ k qh sh, cell32_ qo so, cell0_ k qo so, cell1_ k qo so, cell4_ k qo so, cell3_ k qo so, cell2_ k qo so] := hD
      have hlit98 : ((-9) : Int32).toInt = -9 := by decide
      refine lv_aload_n hx hb dX4_copy_126 rfl (lv_at hl 0 rfl) ?_
      refine lv_iload_n hx hb dX4_copy_127 rfl (lv_at hl 2 rfl) ?_
      refine lv_iconst (v := 4) hx hb dX4_copy_128 (by decide) ?_
      refine lv_iand hx hb dX4_copy_129 (lv_topi (fun v99 e99 => ?_))
      have t99 : 0 ≤ v99.toInt ∧ v99.toInt ≤ 4 := by rw [e99]; exact and_r (by decide) (by omega)
      refine lv_if_eq (tgt := 138) hx hb dX4_copy_130 (by decide) (fun c100 => ?_) (fun c100 => ?_)
      · have f100 : v99.toInt = 0 := f_eq rfl (by decide) c100
        refine lv_aload_n hx hb dX4_copy_138 rfl (lv_at hl 1 rfl) ?_
        refine g_get cx hP iw_X4_copy_X4 6 rfl rfl 10 (by decide) rfl fw_X4_copy_57 rfl dX4_copy_139 ?_
        refine g_pt cx hP hD hS iw_X4_copy_X4 tyX4 tyX4_ok nmX4 0 rfl rfl 10 (by decide) rfl fw_X4_copy_57 (ty := .int) rfl rfl rfl (Nat.le_of_ble_eq_true rfl) dX4_copy_142 (fun H locs hP hD hS => ?_)
        have hP : va_P D vwCl [(qh 0, .inr (2, [.int (so 0 0), .int (so 0 1), .ref (qh 1), .ref (qh 2), .ref (qh 3), .ref (qh 4), .int (so 0 6), .int (so 0 7), .int (so 0 8), .int (-9), .int (so 0 10), .int (sh 0 11), .int (sh 0 12), .ref (qh 5)])), (qh 1, .inl (k 0, 5, .inl g1)), (qh 2, .inl (k 0, 5, .inl g2)), (qh 3, .inl (k 0, 3, .inl g3)), (qh 4, .inl (k 0, 3, .inl g4)), cell2_ k qh sh, cell32_ qo so, cell0_ k qo so, cell1_ k qo so, cell4_ k qo so, cell3_ k qo so, cell2_ k qo so] H := hP
        have hD : va_D A [(qh 0, .inr (2, [.int (so 0 0), .int (so 0 1), .ref (qh 1), .ref (qh 2), .ref (qh 3), .ref (qh 4), .int (so 0 6), .int (so 0 7), .int (so 0 8), .int (-9), .int (so 0 10), .int (sh 0 11), .int (sh 0 12), .ref (qh 5)])), (qh 1, .inl (k 0, 5, .inl g1)), (qh 2, .inl (k 0, 5, .inl g2)), (qh 3, .inl (k 0, 3, .inl g3)), (qh 4, .inl (k 0, 3, .inl g4)), cell2_ k qh sh, cell32_ qo so, cell0_ k qo so, cell1_ k qo so, cell4_ k qo so, cell3_ k qo so, cell2_ k qo so] := hD
        refine lv_aload_n hx hb dX4_copy_145 rfl (lv_at hl 0 rfl) ?_
        refine lv_iload_n hx hb dX4_copy_146 rfl (lv_at hl 2 rfl) ?_
        refine lv_bipush (v := 8) hx hb dX4_copy_147 (by decide) ?_
        refine lv_iand hx hb dX4_copy_149 (lv_topi (fun v101 e101 => ?_))
        have t101 : 0 ≤ v101.toInt ∧ v101.toInt ≤ 8 := by rw [e101]; exact and_r (by decide) (by omega)
        refine lv_if_eq (tgt := 158) hx hb dX4_copy_150 (by decide) (fun c102 => ?_) (fun c102 => ?_)
        · have f102 : v101.toInt = 0 := f_eq rfl (by decide) c102
          refine lv_aload_n hx hb dX4_copy_158 rfl (lv_at hl 1 rfl) ?_
          refine g_get cx hP iw_X4_copy_X4 6 rfl rfl 11 (by decide) rfl fw_X4_copy_60 rfl dX4_copy_159 ?_
          refine g_pt cx hP hD hS iw_X4_copy_X4 tyX4 tyX4_ok nmX4 0 rfl rfl 11 (by decide) rfl fw_X4_copy_60 (ty := .int) rfl rfl rfl (Nat.le_of_ble_eq_true rfl) dX4_copy_162 (fun H locs hP hD hS => ?_)
          have hP : va_P D vwCl [(qh 0, .inr (2, [.int (so 0 0), .int (so 0 1), .ref (qh 1), .ref (qh 2), .ref (qh 3), .ref (qh 4), .int (so 0 6), .int (so 0 7), .int (so 0 8), .int (-9), .int (so 0 10), .int (so 0 11), .int (sh 0 12), .ref (qh 5)])), (qh 1, .inl (k 0, 5, .inl g1)), (qh 2, .inl (k 0, 5, .inl g2)), (qh 3, .inl (k 0, 3, .inl g3)), (qh 4, .inl (k 0, 3, .inl g4)), cell2_ k qh sh, cell32_ qo so, cell0_ k qo so, cell1_ k qo so, cell4_ k qo so, cell3_ k qo so, cell2_ k qo so] H := hP
          have hD : va_D A [(qh 0, .inr (2, [.int (so 0 0), .int (so 0 1), .ref (qh 1), .ref (qh 2), .ref (qh 3), .ref (qh 4), .int (so 0 6), .int (so 0 7), .int (so 0 8), .int (-9), .int (so 0 10), .int (so 0 11), .int (sh 0 12), .ref (qh 5)])), (qh 1, .inl (k 0, 5, .inl g1)), (qh 2, .inl (k 0, 5, .inl g2)), (qh 3, .inl (k 0, 3, .inl g3)), (qh 4, .inl (k 0, 3, .inl g4)), cell2_ k qh sh, cell32_ qo so, cell0_ k qo so, cell1_ k qo so, cell4_ k qo so, cell3_ k qo so, cell2_ k qo so] := hD
          refine lv_aload_n hx hb dX4_copy_165 rfl (lv_at hl 0 rfl) ?_
          refine lv_iload_n hx hb dX4_copy_166 rfl (lv_at hl 2 rfl) ?_
          refine lv_bipush (v := 8) hx hb dX4_copy_167 (by decide) ?_
          refine lv_iand hx hb dX4_copy_169 (lv_topi (fun v103 e103 => ?_))
          have t103 : 0 ≤ v103.toInt ∧ v103.toInt ≤ 8 := by rw [e103]; exact and_r (by decide) (by omega)
          refine lv_if_eq (tgt := 177) hx hb dX4_copy_170 (by decide) (fun c104 => ?_) (fun c104 => ?_)
          · have f104 : v103.toInt = 0 := f_eq rfl (by decide) c104
            refine lv_aload_n hx hb dX4_copy_177 rfl (lv_at hl 1 rfl) ?_
            refine g_get cx hP iw_X4_copy_X4 6 rfl rfl 12 (by decide) rfl fw_X4_copy_63 rfl dX4_copy_178 ?_
            refine g_pt cx hP hD hS iw_X4_copy_X4 tyX4 tyX4_ok nmX4 0 rfl rfl 12 (by decide) rfl fw_X4_copy_63 (ty := .int) rfl rfl rfl (Nat.le_of_ble_eq_true rfl) dX4_copy_181 (fun H locs hP hD hS => ?_)
            have hP : va_P D vwCl [cell160_ qh so (-9), (qh 1, .inl (k 0, 5, .inl g1)), (qh 2, .inl (k 0, 5, .inl g2)), (qh 3, .inl (k 0, 3, .inl g3)), (qh 4, .inl (k 0, 3, .inl g4)), cell2_ k qh sh, cell32_ qo so, cell0_ k qo so, cell1_ k qo so, cell4_ k qo so, cell3_ k qo so, cell2_ k qo so] H := hP
            have hD : va_D A [cell160_ qh so (-9), (qh 1, .inl (k 0, 5, .inl g1)), (qh 2, .inl (k 0, 5, .inl g2)), (qh 3, .inl (k 0, 3, .inl g3)), (qh 4, .inl (k 0, 3, .inl g4)), cell2_ k qh sh, cell32_ qo so, cell0_ k qo so, cell1_ k qo so, cell4_ k qo so, cell3_ k qo so, cell2_ k qo so] := hD
            refine lv_aload_n hx hb dX4_copy_184 rfl (lv_at hl 0 rfl) ?_
            refine g_v (w1 := fun (u : (Nat → Int32)) => [cell160_ qh so (-9), (qh 1, .inl (k 0, 5, .inl g1)), (qh 2, .inl (k 0, 5, .inl g2)), (qh 3, .inl (k 0, 3, .inl g3)), (qh 4, .inl (k 0, 3, .inl g4)), (qh 5, .inl (k 0, 525, .inl u))]) (g_runV (wc := [cell160_ qh so (-9), (qh 1, .inl (k 0, 5, .inl g1)), (qh 2, .inl (k 0, 5, .inl g2)), (qh 3, .inl (k 0, 3, .inl g3)), (qh 4, .inl (k 0, 3, .inl g4)), cell2_ k qh sh]) (rest := []) cx hP hD hS [0, 1, 2, 3, 4, 5] rfl (by decide) [] (c_X4_settle l D k b qh (up2 (up2 (up2 (up2 (up2 sh 0 (upd (upd (upd (upd (upd (upd (upd (upd (upd (sh 0) 0 (so 0 0)) 1 (so 0 1)) 6 (so 0 6)) 7 (so 0 7)) 8 (so 0 8)) 9 (-9)) 10 (so 0 10)) 11 (so 0 11)) 12 (so 0 12))) 1 g1) 2 g2) 3 g3) 4 g4) H.size (show 0 ≤ (so 0 12).toInt ∧ (so 0 12).toInt ≤ 5 from by first | decide | omega) ag3) gX4_copy_X4_settle rfl rfl rfl nd_X4_settle ⟨Nat.le_of_ble_eq_true rfl, Nat.le_of_ble_eq_true rfl⟩ (ci := 2) (q0 := 0) rfl rfl rfl hl.1 rfl (Nat.le_of_ble_eq_true rfl) ⟨Nat.zero_le _, Nat.zero_le _⟩ dX4_copy_185) cx.2.2.1 hP hD hS [0, 1, 2, 3, 4, 5] rfl (fun _ => rfl) (fun u106 H locs hw105 hP hD hS => ?_)
            obtain ⟨m107, rfl⟩ : ∃ z, z = u106 := ⟨_, rfl⟩
            have hP : va_P D vwCl [cell160_ qh so (-9), (qh 1, .inl (k 0, 5, .inl g1)), (qh 2, .inl (k 0, 5, .inl g2)), (qh 3, .inl (k 0, 3, .inl g3)), (qh 4, .inl (k 0, 3, .inl g4)), (qh 5, .inl (k 0, 525, .inl m107)), cell32_ qo so, cell0_ k qo so, cell1_ k qo so, cell4_ k qo so, cell3_ k qo so, cell2_ k qo so] H := hP
            have hD : va_D A [cell160_ qh so (-9), (qh 1, .inl (k 0, 5, .inl g1)), (qh 2, .inl (k 0, 5, .inl g2)), (qh 3, .inl (k 0, 3, .inl g3)), (qh 4, .inl (k 0, 3, .inl g4)), (qh 5, .inl (k 0, 525, .inl m107)), cell32_ qo so, cell0_ k qo so, cell1_ k qo so, cell4_ k qo so, cell3_ k qo so, cell2_ k qo so] := hD
            replace hw105 : (SUok m107) ∧ (m107 = J_X4_settle (up2 (up2 (up2 (up2 (up2 sh 0 (upd (upd (upd (upd (upd (upd (upd (upd (upd (sh 0) 0 (so 0 0)) 1 (so 0 1)) 6 (so 0 6)) 7 (so 0 7)) 8 (so 0 8)) 9 (-9)) 10 (so 0 10)) 11 (so 0 11)) 12 (so 0 12))) 1 g1) 2 g2) 3 g3) 4 g4)) := hw105
            obtain ⟨w108, w109⟩ := hw105
            have k111 : m107 = (J_X4_settle (up2 (up2 (up2 (up2 (up2 sh 0 (upd (upd (upd (upd (upd (upd (upd (upd (upd (sh 0) 0 (so 0 0)) 1 (so 0 1)) 6 (so 0 6)) 7 (so 0 7)) 8 (so 0 8)) 9 (-9)) 10 (so 0 10)) 11 (so 0 11)) 12 (so 0 12))) 1 g1) 2 g2) 3 g3) 4 g4)) := congrArg (fun z => z) w109
            have hlit112 : ((-9) : Int32).toInt = -9 := by decide
            rw [hQ]
            exact x_v cx hr ((so 0 0), (so 0 1), g1, g2, g3, g4, (so 0 6), (so 0 7), (so 0 8), (-9), (so 0 10), (so 0 11), (so 0 12), m107) hP hD hS ⟨(show 0 ≤ (so 0 0).toInt ∧ (so 0 0).toInt ≤ 5 from by omega), (show 0 ≤ (so 0 1).toInt ∧ (so 0 1).toInt ≤ 4 from by omega), (show 0 ≤ (so 0 12).toInt ∧ (so 0 12).toInt ≤ 5 from by omega), ag2, ag3, (show SUok m107 from by assumption), (show (so 0 0).toInt = (so 0 0).toInt from by omega), (show ((so 0 0), (so 0 1), g1, g2, g3, g4, (so 0 6), (so 0 7), (so 0 8), ((-9) : Int32), (so 0 10), (so 0 11), (so 0 12), m107) = J_X4_copy sh so p0 from by subst eg1 eg2 eg3 eg4 e5 e7 e99 e101 e103 k111; first | (refine Eq.symm ?_; refine Eq.trans (if_pos c6) ?_; refine Eq.trans (if_neg c8) ?_; refine Eq.trans (if_pos c100) ?_; refine Eq.trans (if_pos c102) ?_; refine Eq.trans (if_pos c104) ?_; rfl) | (unfold J_X4_copy; try dsimp only; rw [if_pos c6, if_neg c8, if_pos c100, if_pos c102, if_pos c104]))⟩ dX4_copy_188
          · have f104 : ¬ v103.toInt = 0 := f_ne rfl (by decide) c104
            refine lv_iconst (v := 0) hx hb dX4_copy_173 (by decide) ?_
            refine lv_goto (tgt := 181) hx hb dX4_copy_174 (by decide) ?_
            refine g_pt cx hP hD hS iw_X4_copy_X4 tyX4 tyX4_ok nmX4 0 rfl rfl 12 (by decide) rfl fw_X4_copy_63 (ty := .int) rfl rfl rfl (Nat.le_of_ble_eq_true rfl) dX4_copy_181 (fun H locs hP hD hS => ?_)
            have hP : va_P D vwCl [cell173_ qh so (-9) 0, (qh 1, .inl (k 0, 5, .inl g1)), (qh 2, .inl (k 0, 5, .inl g2)), (qh 3, .inl (k 0, 3, .inl g3)), (qh 4, .inl (k 0, 3, .inl g4)), cell2_ k qh sh, cell32_ qo so, cell0_ k qo so, cell1_ k qo so, cell4_ k qo so, cell3_ k qo so, cell2_ k qo so] H := hP
            have hD : va_D A [cell173_ qh so (-9) 0, (qh 1, .inl (k 0, 5, .inl g1)), (qh 2, .inl (k 0, 5, .inl g2)), (qh 3, .inl (k 0, 3, .inl g3)), (qh 4, .inl (k 0, 3, .inl g4)), cell2_ k qh sh, cell32_ qo so, cell0_ k qo so, cell1_ k qo so, cell4_ k qo so, cell3_ k qo so, cell2_ k qo so] := hD
            have hlit113 : (0 : Int32).toInt = 0 := by decide
            refine lv_aload_n hx hb dX4_copy_184 rfl (lv_at hl 0 rfl) ?_
            refine g_v (w1 := fun (u : (Nat → Int32)) => [cell173_ qh so (-9) 0, (qh 1, .inl (k 0, 5, .inl g1)), (qh 2, .inl (k 0, 5, .inl g2)), (qh 3, .inl (k 0, 3, .inl g3)), (qh 4, .inl (k 0, 3, .inl g4)), (qh 5, .inl (k 0, 525, .inl u))]) (g_runV (wc := [cell173_ qh so (-9) 0, (qh 1, .inl (k 0, 5, .inl g1)), (qh 2, .inl (k 0, 5, .inl g2)), (qh 3, .inl (k 0, 3, .inl g3)), (qh 4, .inl (k 0, 3, .inl g4)), cell2_ k qh sh]) (rest := []) cx hP hD hS [0, 1, 2, 3, 4, 5] rfl (by decide) [] (c_X4_settle l D k b qh (up2 (up2 (up2 (up2 (up2 sh 0 (upd (upd (upd (upd (upd (upd (upd (upd (upd (sh 0) 0 (so 0 0)) 1 (so 0 1)) 6 (so 0 6)) 7 (so 0 7)) 8 (so 0 8)) 9 (-9)) 10 (so 0 10)) 11 (so 0 11)) 12 0)) 1 g1) 2 g2) 3 g3) 4 g4) H.size (show 0 ≤ (0 : Int32).toInt ∧ (0 : Int32).toInt ≤ 5 from by first | decide | omega) ag3) gX4_copy_X4_settle rfl rfl rfl nd_X4_settle ⟨Nat.le_of_ble_eq_true rfl, Nat.le_of_ble_eq_true rfl⟩ (ci := 2) (q0 := 0) rfl rfl rfl hl.1 rfl (Nat.le_of_ble_eq_true rfl) ⟨Nat.zero_le _, Nat.zero_le _⟩ dX4_copy_185) cx.2.2.1 hP hD hS [0, 1, 2, 3, 4, 5] rfl (fun _ => rfl) (fun u115 H locs hw114 hP hD hS => ?_)
            obtain ⟨m116, rfl⟩ : ∃ z, z = u115 := ⟨_, rfl⟩
            have hP : va_P D vwCl [cell173_ qh so (-9) 0, (qh 1, .inl (k 0, 5, .inl g1)), (qh 2, .inl (k 0, 5, .inl g2)), (qh 3, .inl (k 0, 3, .inl g3)), (qh 4, .inl (k 0, 3, .inl g4)), (qh 5, .inl (k 0, 525, .inl m116)), cell32_ qo so, cell0_ k qo so, cell1_ k qo so, cell4_ k qo so, cell3_ k qo so, cell2_ k qo so] H := hP
            have hD : va_D A [cell173_ qh so (-9) 0, (qh 1, .inl (k 0, 5, .inl g1)), (qh 2, .inl (k 0, 5, .inl g2)), (qh 3, .inl (k 0, 3, .inl g3)), (qh 4, .inl (k 0, 3, .inl g4)), (qh 5, .inl (k 0, 525, .inl m116)), cell32_ qo so, cell0_ k qo so, cell1_ k qo so, cell4_ k qo so, cell3_ k qo so, cell2_ k qo so] := hD
            replace hw114 : (SUok m116) ∧ (m116 = J_X4_settle (up2 (up2 (up2 (up2 (up2 sh 0 (upd (upd (upd (upd (upd (upd (upd (upd (upd (sh 0) 0 (so 0 0)) 1 (so 0 1)) 6 (so 0 6)) 7 (so 0 7)) 8 (so 0 8)) 9 (-9)) 10 (so 0 10)) 11 (so 0 11)) 12 0)) 1 g1) 2 g2) 3 g3) 4 g4)) := hw114
            obtain ⟨w117, w118⟩ := hw114
            have k120 : m116 = (J_X4_settle (up2 (up2 (up2 (up2 (up2 sh 0 (upd (upd (upd (upd (upd (upd (upd (upd (upd (sh 0) 0 (so 0 0)) 1 (so 0 1)) 6 (so 0 6)) 7 (so 0 7)) 8 (so 0 8)) 9 (-9)) 10 (so 0 10)) 11 (so 0 11)) 12 0)) 1 g1) 2 g2) 3 g3) 4 g4)) := congrArg (fun z => z) w118
            have hlit121 : ((-9) : Int32).toInt = -9 := by decide
            have hlit122 : (0 : Int32).toInt = 0 := by decide
            rw [hQ]
            exact x_v cx hr ((so 0 0), (so 0 1), g1, g2, g3, g4, (so 0 6), (so 0 7), (so 0 8), (-9), (so 0 10), (so 0 11), 0, m116) hP hD hS ⟨(show 0 ≤ (so 0 0).toInt ∧ (so 0 0).toInt ≤ 5 from by omega), (show 0 ≤ (so 0 1).toInt ∧ (so 0 1).toInt ≤ 4 from by omega), (show 0 ≤ (0 : Int32).toInt ∧ (0 : Int32).toInt ≤ 5 from by omega), ag2, ag3, (show SUok m116 from by assumption), (show (so 0 0).toInt = (so 0 0).toInt from by omega), (show ((so 0 0), (so 0 1), g1, g2, g3, g4, (so 0 6), (so 0 7), (so 0 8), ((-9) : Int32), (so 0 10), (so 0 11), (0 : Int32), m116) = J_X4_copy sh so p0 from by subst eg1 eg2 eg3 eg4 e5 e7 e99 e101 e103 k120; first | (refine Eq.symm ?_; refine Eq.trans (if_pos c6) ?_; refine Eq.trans (if_neg c8) ?_; refine Eq.trans (if_pos c100) ?_; refine Eq.trans (if_pos c102) ?_; refine Eq.trans (if_neg c104) ?_; rfl) | (unfold J_X4_copy; try dsimp only; rw [if_pos c6, if_neg c8, if_pos c100, if_pos c102, if_neg c104]))⟩ dX4_copy_188
        · have f102 : ¬ v101.toInt = 0 := f_ne rfl (by decide) c102
          refine lv_bipush (v := (-9)) hx hb dX4_copy_153 (by decide) ?_
          refine lv_goto (tgt := 162) hx hb dX4_copy_155 (by decide) ?_
          refine g_pt cx hP hD hS iw_X4_copy_X4 tyX4 tyX4_ok nmX4 0 rfl rfl 11 (by decide) rfl fw_X4_copy_60 (ty := .int) rfl rfl rfl (Nat.le_of_ble_eq_true rfl) dX4_copy_162 (fun H locs hP hD hS => ?_)
          have hP : va_P D vwCl [(qh 0, .inr (2, [.int (so 0 0), .int (so 0 1), .ref (qh 1), .ref (qh 2), .ref (qh 3), .ref (qh 4), .int (so 0 6), .int (so 0 7), .int (so 0 8), .int (-9), .int (so 0 10), .int (-9), .int (sh 0 12), .ref (qh 5)])), (qh 1, .inl (k 0, 5, .inl g1)), (qh 2, .inl (k 0, 5, .inl g2)), (qh 3, .inl (k 0, 3, .inl g3)), (qh 4, .inl (k 0, 3, .inl g4)), cell2_ k qh sh, cell32_ qo so, cell0_ k qo so, cell1_ k qo so, cell4_ k qo so, cell3_ k qo so, cell2_ k qo so] H := hP
          have hD : va_D A [(qh 0, .inr (2, [.int (so 0 0), .int (so 0 1), .ref (qh 1), .ref (qh 2), .ref (qh 3), .ref (qh 4), .int (so 0 6), .int (so 0 7), .int (so 0 8), .int (-9), .int (so 0 10), .int (-9), .int (sh 0 12), .ref (qh 5)])), (qh 1, .inl (k 0, 5, .inl g1)), (qh 2, .inl (k 0, 5, .inl g2)), (qh 3, .inl (k 0, 3, .inl g3)), (qh 4, .inl (k 0, 3, .inl g4)), cell2_ k qh sh, cell32_ qo so, cell0_ k qo so, cell1_ k qo so, cell4_ k qo so, cell3_ k qo so, cell2_ k qo so] := hD
          have hlit123 : ((-9) : Int32).toInt = -9 := by decide
          refine lv_aload_n hx hb dX4_copy_165 rfl (lv_at hl 0 rfl) ?_
          refine lv_iload_n hx hb dX4_copy_166 rfl (lv_at hl 2 rfl) ?_
          refine lv_bipush (v := 8) hx hb dX4_copy_167 (by decide) ?_
          refine lv_iand hx hb dX4_copy_169 (lv_topi (fun v124 e124 => ?_))
          have t124 : 0 ≤ v124.toInt ∧ v124.toInt ≤ 8 := by rw [e124]; exact and_r (by decide) (by omega)
          refine lv_if_eq (tgt := 177) hx hb dX4_copy_170 (by decide) (fun c125 => ?_) (fun c125 => ?_)
          · have f125 : v124.toInt = 0 := f_eq rfl (by decide) c125
            refine lv_aload_n hx hb dX4_copy_177 rfl (lv_at hl 1 rfl) ?_
            refine g_get cx hP iw_X4_copy_X4 6 rfl rfl 12 (by decide) rfl fw_X4_copy_63 rfl dX4_copy_178 ?_
            refine g_pt cx hP hD hS iw_X4_copy_X4 tyX4 tyX4_ok nmX4 0 rfl rfl 12 (by decide) rfl fw_X4_copy_63 (ty := .int) rfl rfl rfl (Nat.le_of_ble_eq_true rfl) dX4_copy_181 (fun H locs hP hD hS => ?_)
            have hP : va_P D vwCl [cell174_ qh so (-9) (-9), (qh 1, .inl (k 0, 5, .inl g1)), (qh 2, .inl (k 0, 5, .inl g2)), (qh 3, .inl (k 0, 3, .inl g3)), (qh 4, .inl (k 0, 3, .inl g4)), cell2_ k qh sh, cell32_ qo so, cell0_ k qo so, cell1_ k qo so, cell4_ k qo so, cell3_ k qo so, cell2_ k qo so] H := hP
            have hD : va_D A [cell174_ qh so (-9) (-9), (qh 1, .inl (k 0, 5, .inl g1)), (qh 2, .inl (k 0, 5, .inl g2)), (qh 3, .inl (k 0, 3, .inl g3)), (qh 4, .inl (k 0, 3, .inl g4)), cell2_ k qh sh, cell32_ qo so, cell0_ k qo so, cell1_ k qo so, cell4_ k qo so, cell3_ k qo so, cell2_ k qo so] := hD
            refine lv_aload_n hx hb dX4_copy_184 rfl (lv_at hl 0 rfl) ?_
            refine g_v (w1 := fun (u : (Nat → Int32)) => [cell174_ qh so (-9) (-9), (qh 1, .inl (k 0, 5, .inl g1)), (qh 2, .inl (k 0, 5, .inl g2)), (qh 3, .inl (k 0, 3, .inl g3)), (qh 4, .inl (k 0, 3, .inl g4)), (qh 5, .inl (k 0, 525, .inl u))]) (g_runV (wc := [cell174_ qh so (-9) (-9), (qh 1, .inl (k 0, 5, .inl g1)), (qh 2, .inl (k 0, 5, .inl g2)), (qh 3, .inl (k 0, 3, .inl g3)), (qh 4, .inl (k 0, 3, .inl g4)), cell2_ k qh sh]) (rest := []) cx hP hD hS [0, 1, 2, 3, 4, 5] rfl (by decide) [] (c_X4_settle l D k b qh (up2 (up2 (up2 (up2 (up2 sh 0 (upd (upd (upd (upd (upd (upd (upd (upd (upd (sh 0) 0 (so 0 0)) 1 (so 0 1)) 6 (so 0 6)) 7 (so 0 7)) 8 (so 0 8)) 9 (-9)) 10 (so 0 10)) 11 (-9)) 12 (so 0 12))) 1 g1) 2 g2) 3 g3) 4 g4) H.size (show 0 ≤ (so 0 12).toInt ∧ (so 0 12).toInt ≤ 5 from by first | decide | omega) ag3) gX4_copy_X4_settle rfl rfl rfl nd_X4_settle ⟨Nat.le_of_ble_eq_true rfl, Nat.le_of_ble_eq_true rfl⟩ (ci := 2) (q0 := 0) rfl rfl rfl hl.1 rfl (Nat.le_of_ble_eq_true rfl) ⟨Nat.zero_le _, Nat.zero_le _⟩ dX4_copy_185) cx.2.2.1 hP hD hS [0, 1, 2, 3, 4, 5] rfl (fun _ => rfl) (fun u127 H locs hw126 hP hD hS => ?_)
            obtain ⟨m128, rfl⟩ : ∃ z, z = u127 := ⟨_, rfl⟩
            have hP : va_P D vwCl [cell174_ qh so (-9) (-9), (qh 1, .inl (k 0, 5, .inl g1)), (qh 2, .inl (k 0, 5, .inl g2)), (qh 3, .inl (k 0, 3, .inl g3)), (qh 4, .inl (k 0, 3, .inl g4)), (qh 5, .inl (k 0, 525, .inl m128)), cell32_ qo so, cell0_ k qo so, cell1_ k qo so, cell4_ k qo so, cell3_ k qo so, cell2_ k qo so] H := hP
            have hD : va_D A [cell174_ qh so (-9) (-9), (qh 1, .inl (k 0, 5, .inl g1)), (qh 2, .inl (k 0, 5, .inl g2)), (qh 3, .inl (k 0, 3, .inl g3)), (qh 4, .inl (k 0, 3, .inl g4)), (qh 5, .inl (k 0, 525, .inl m128)), cell32_ qo so, cell0_ k qo so, cell1_ k qo so, cell4_ k qo so, cell3_ k qo so, cell2_ k qo so] := hD
            replace hw126 : (SUok m128) ∧ (m128 = J_X4_settle (up2 (up2 (up2 (up2 (up2 sh 0 (upd (upd (upd (upd (upd (upd (upd (upd (upd (sh 0) 0 (so 0 0)) 1 (so 0 1)) 6 (so 0 6)) 7 (so 0 7)) 8 (so 0 8)) 9 (-9)) 10 (so 0 10)) 11 (-9)) 12 (so 0 12))) 1 g1) 2 g2) 3 g3) 4 g4)) := hw126
            obtain ⟨w129, w130⟩ := hw126
            have k132 : m128 = (J_X4_settle (up2 (up2 (up2 (up2 (up2 sh 0 (upd (upd (upd (upd (upd (upd (upd (upd (upd (sh 0) 0 (so 0 0)) 1 (so 0 1)) 6 (so 0 6)) 7 (so 0 7)) 8 (so 0 8)) 9 (-9)) 10 (so 0 10)) 11 (-9)) 12 (so 0 12))) 1 g1) 2 g2) 3 g3) 4 g4)) := congrArg (fun z => z) w130
            have hlit133 : ((-9) : Int32).toInt = -9 := by decide
            have hlit134 : ((-9) : Int32).toInt = -9 := by decide
            rw [hQ]
            exact x_v cx hr ((so 0 0), (so 0 1), g1, g2, g3, g4, (so 0 6), (so 0 7), (so 0 8), (-9), (so 0 10), (-9), (so 0 12), m128) hP hD hS ⟨(show 0 ≤ (so 0 0).toInt ∧ (so 0 0).toInt ≤ 5 from by omega), (show 0 ≤ (so 0 1).toInt ∧ (so 0 1).toInt ≤ 4 from by omega), (show 0 ≤ (so 0 12).toInt ∧ (so 0 12).toInt ≤ 5 from by omega), ag2, ag3, (show SUok m128 from by assumption), (show (so 0 0).toInt = (so 0 0).toInt from by omega), (show ((so 0 0), (so 0 1), g1, g2, g3, g4, (so 0 6), (so 0 7), (so 0 8), ((-9) : Int32), (so 0 10), ((-9) : Int32), (so 0 12), m128) = J_X4_copy sh so p0 from by subst eg1 eg2 eg3 eg4 e5 e7 e99 e101 e124 k132; first | (refine Eq.symm ?_; refine Eq.trans (if_pos c6) ?_; refine Eq.trans (if_neg c8) ?_; refine Eq.trans (if_pos c100) ?_; refine Eq.trans (if_neg c102) ?_; refine Eq.trans (if_pos c125) ?_; rfl) | (unfold J_X4_copy; try dsimp only; rw [if_pos c6, if_neg c8, if_pos c100, if_neg c102, if_pos c125]))⟩ dX4_copy_188
          · have f125 : ¬ v124.toInt = 0 := f_ne rfl (by decide) c125
            refine lv_iconst (v := 0) hx hb dX4_copy_173 (by decide) ?_
            refine lv_goto (tgt := 181) hx hb dX4_copy_174 (by decide) ?_
            refine g_pt cx hP hD hS iw_X4_copy_X4 tyX4 tyX4_ok nmX4 0 rfl rfl 12 (by decide) rfl fw_X4_copy_63 (ty := .int) rfl rfl rfl (Nat.le_of_ble_eq_true rfl) dX4_copy_181 (fun H locs hP hD hS => ?_)
            have hP : va_P D vwCl [cell175_ qh so (-9) (-9) 0, (qh 1, .inl (k 0, 5, .inl g1)), (qh 2, .inl (k 0, 5, .inl g2)), (qh 3, .inl (k 0, 3, .inl g3)), (qh 4, .inl (k 0, 3, .inl g4)), cell2_ k qh sh, cell32_ qo so, cell0_ k qo so, cell1_ k qo so, cell4_ k qo so, cell3_ k qo so, cell2_ k qo so] H := hP
            have hD : va_D A [cell175_ qh so (-9) (-9) 0, (qh 1, .inl (k 0, 5, .inl g1)), (qh 2, .inl (k 0, 5, .inl g2)), (qh 3, .inl (k 0, 3, .inl g3)), (qh 4, .inl (k 0, 3, .inl g4)), cell2_ k qh sh, cell32_ qo so, cell0_ k qo so, cell1_ k qo so, cell4_ k qo so, cell3_ k qo so, cell2_ k qo so] := hD
            have hlit135 : (0 : Int32).toInt = 0 := by decide
            refine lv_aload_n hx hb dX4_copy_184 rfl (lv_at hl 0 rfl) ?_
            refine g_v (w1 := fun (u : (Nat → Int32)) => [cell175_ qh so (-9) (-9) 0, (qh 1, .inl (k 0, 5, .inl g1)), (qh 2, .inl (k 0, 5, .inl g2)), (qh 3, .inl (k 0, 3, .inl g3)), (qh 4, .inl (k 0, 3, .inl g4)), (qh 5, .inl (k 0, 525, .inl u))]) (g_runV (wc := [cell175_ qh so (-9) (-9) 0, (qh 1, .inl (k 0, 5, .inl g1)), (qh 2, .inl (k 0, 5, .inl g2)), (qh 3, .inl (k 0, 3, .inl g3)), (qh 4, .inl (k 0, 3, .inl g4)), cell2_ k qh sh]) (rest := []) cx hP hD hS [0, 1, 2, 3, 4, 5] rfl (by decide) [] (c_X4_settle l D k b qh (up2 (up2 (up2 (up2 (up2 sh 0 (upd (upd (upd (upd (upd (upd (upd (upd (upd (sh 0) 0 (so 0 0)) 1 (so 0 1)) 6 (so 0 6)) 7 (so 0 7)) 8 (so 0 8)) 9 (-9)) 10 (so 0 10)) 11 (-9)) 12 0)) 1 g1) 2 g2) 3 g3) 4 g4) H.size (show 0 ≤ (0 : Int32).toInt ∧ (0 : Int32).toInt ≤ 5 from by first | decide | omega) ag3) gX4_copy_X4_settle rfl rfl rfl nd_X4_settle ⟨Nat.le_of_ble_eq_true rfl, Nat.le_of_ble_eq_true rfl⟩ (ci := 2) (q0 := 0) rfl rfl rfl hl.1 rfl (Nat.le_of_ble_eq_true rfl) ⟨Nat.zero_le _, Nat.zero_le _⟩ dX4_copy_185) cx.2.2.1 hP hD hS [0, 1, 2, 3, 4, 5] rfl (fun _ => rfl) (fun u137 H locs hw136 hP hD hS => ?_)
            obtain ⟨m138, rfl⟩ : ∃ z, z = u137 := ⟨_, rfl⟩
            have hP : va_P D vwCl [cell175_ qh so (-9) (-9) 0, (qh 1, .inl (k 0, 5, .inl g1)), (qh 2, .inl (k 0, 5, .inl g2)), (qh 3, .inl (k 0, 3, .inl g3)), (qh 4, .inl (k 0, 3, .inl g4)), (qh 5, .inl (k 0, 525, .inl m138)), cell32_ qo so, cell0_ k qo so, cell1_ k qo so, cell4_ k qo so, cell3_ k qo so, cell2_ k qo so] H := hP
            have hD : va_D A [cell175_ qh so (-9) (-9) 0, (qh 1, .inl (k 0, 5, .inl g1)), (qh 2, .inl (k 0, 5, .inl g2)), (qh 3, .inl (k 0, 3, .inl g3)), (qh 4, .inl (k 0, 3, .inl g4)), (qh 5, .inl (k 0, 525, .inl m138)), cell32_ qo so, cell0_ k qo so, cell1_ k qo so, cell4_ k qo so, cell3_ k qo so, cell2_ k qo so] := hD
            replace hw136 : (SUok m138) ∧ (m138 = J_X4_settle (up2 (up2 (up2 (up2 (up2 sh 0 (upd (upd (upd (upd (upd (upd (upd (upd (upd (sh 0) 0 (so 0 0)) 1 (so 0 1)) 6 (so 0 6)) 7 (so 0 7)) 8 (so 0 8)) 9 (-9)) 10 (so 0 10)) 11 (-9)) 12 0)) 1 g1) 2 g2) 3 g3) 4 g4)) := hw136
            obtain ⟨w139, w140⟩ := hw136
            have k142 : m138 = (J_X4_settle (up2 (up2 (up2 (up2 (up2 sh 0 (upd (upd (upd (upd (upd (upd (upd (upd (upd (sh 0) 0 (so 0 0)) 1 (so 0 1)) 6 (so 0 6)) 7 (so 0 7)) 8 (so 0 8)) 9 (-9)) 10 (so 0 10)) 11 (-9)) 12 0)) 1 g1) 2 g2) 3 g3) 4 g4)) := congrArg (fun z => z) w140
            have hlit143 : ((-9) : Int32).toInt = -9 := by decide
            have hlit144 : ((-9) : Int32).toInt = -9 := by decide
            have hlit145 : (0 : Int32).toInt = 0 := by decide
            rw [hQ]
            exact x_v cx hr ((so 0 0), (so 0 1), g1, g2, g3, g4, (so 0 6), (so 0 7), (so 0 8), (-9), (so 0 10), (-9), 0, m138) hP hD hS ⟨(show 0 ≤ (so 0 0).toInt ∧ (so 0 0).toInt ≤ 5 from by omega), (show 0 ≤ (so 0 1).toInt ∧ (so 0 1).toInt ≤ 4 from by omega), (show 0 ≤ (0 : Int32).toInt ∧ (0 : Int32).toInt ≤ 5 from by omega), ag2, ag3, (show SUok m138 from by assumption), (show (so 0 0).toInt = (so 0 0).toInt from by omega), (show ((so 0 0), (so 0 1), g1, g2, g3, g4, (so 0 6), (so 0 7), (so 0 8), ((-9) : Int32), (so 0 10), ((-9) : Int32), (0 : Int32), m138) = J_X4_copy sh so p0 from by subst eg1 eg2 eg3 eg4 e5 e7 e99 e101 e124 k142; first | (refine Eq.symm ?_; refine Eq.trans (if_pos c6) ?_; refine Eq.trans (if_neg c8) ?_; refine Eq.trans (if_pos c100) ?_; refine Eq.trans (if_neg c102) ?_; refine Eq.trans (if_neg c125) ?_; rfl) | (unfold J_X4_copy; try dsimp only; rw [if_pos c6, if_neg c8, if_pos c100, if_neg c102, if_neg c125]))⟩ dX4_copy_188
      · have f100 : ¬ v99.toInt = 0 := f_ne rfl (by decide) c100
        refine lv_bipush (v := (-9)) hx hb dX4_copy_133 (by decide) ?_
        refine lv_goto (tgt := 142) hx hb dX4_copy_135 (by decide) ?_
        refine g_pt cx hP hD hS iw_X4_copy_X4 tyX4 tyX4_ok nmX4 0 rfl rfl 10 (by decide) rfl fw_X4_copy_57 (ty := .int) rfl rfl rfl (Nat.le_of_ble_eq_true rfl) dX4_copy_142 (fun H locs hP hD hS => ?_)
        have hP : va_P D vwCl [(qh 0, .inr (2, [.int (so 0 0), .int (so 0 1), .ref (qh 1), .ref (qh 2), .ref (qh 3), .ref (qh 4), .int (so 0 6), .int (so 0 7), .int (so 0 8), .int (-9), .int (-9), .int (sh 0 11), .int (sh 0 12), .ref (qh 5)])), (qh 1, .inl (k 0, 5, .inl g1)), (qh 2, .inl (k 0, 5, .inl g2)), (qh 3, .inl (k 0, 3, .inl g3)), (qh 4, .inl (k 0, 3, .inl g4)), cell2_ k qh sh, cell32_ qo so, cell0_ k qo so, cell1_ k qo so, cell4_ k qo so, cell3_ k qo so, cell2_ k qo so] H := hP
        have hD : va_D A [(qh 0, .inr (2, [.int (so 0 0), .int (so 0 1), .ref (qh 1), .ref (qh 2), .ref (qh 3), .ref (qh 4), .int (so 0 6), .int (so 0 7), .int (so 0 8), .int (-9), .int (-9), .int (sh 0 11), .int (sh 0 12), .ref (qh 5)])), (qh 1, .inl (k 0, 5, .inl g1)), (qh 2, .inl (k 0, 5, .inl g2)), (qh 3, .inl (k 0, 3, .inl g3)), (qh 4, .inl (k 0, 3, .inl g4)), cell2_ k qh sh, cell32_ qo so, cell0_ k qo so, cell1_ k qo so, cell4_ k qo so, cell3_ k qo so, cell2_ k qo so] := hD
        have hlit146 : ((-9) : Int32).toInt = -9 := by decide
        refine lv_aload_n hx hb dX4_copy_145 rfl (lv_at hl 0 rfl) ?_
        refine lv_iload_n hx hb dX4_copy_146 rfl (lv_at hl 2 rfl) ?_
        refine lv_bipush (v := 8) hx hb dX4_copy_147 (by decide) ?_
        refine lv_iand hx hb dX4_copy_149 (lv_topi (fun v147 e147 => ?_))
        have t147 : 0 ≤ v147.toInt ∧ v147.toInt ≤ 8 := by rw [e147]; exact and_r (by decide) (by omega)
        refine lv_if_eq (tgt := 158) hx hb dX4_copy_150 (by decide) (fun c148 => ?_) (fun c148 => ?_)
        · have f148 : v147.toInt = 0 := f_eq rfl (by decide) c148
          refine lv_aload_n hx hb dX4_copy_158 rfl (lv_at hl 1 rfl) ?_
          refine g_get cx hP iw_X4_copy_X4 6 rfl rfl 11 (by decide) rfl fw_X4_copy_60 rfl dX4_copy_159 ?_
          refine g_pt cx hP hD hS iw_X4_copy_X4 tyX4 tyX4_ok nmX4 0 rfl rfl 11 (by decide) rfl fw_X4_copy_60 (ty := .int) rfl rfl rfl (Nat.le_of_ble_eq_true rfl) dX4_copy_162 (fun H locs hP hD hS => ?_)
          have hP : va_P D vwCl [(qh 0, .inr (2, [.int (so 0 0), .int (so 0 1), .ref (qh 1), .ref (qh 2), .ref (qh 3), .ref (qh 4), .int (so 0 6), .int (so 0 7), .int (so 0 8), .int (-9), .int (-9), .int (so 0 11), .int (sh 0 12), .ref (qh 5)])), (qh 1, .inl (k 0, 5, .inl g1)), (qh 2, .inl (k 0, 5, .inl g2)), (qh 3, .inl (k 0, 3, .inl g3)), (qh 4, .inl (k 0, 3, .inl g4)), cell2_ k qh sh, cell32_ qo so, cell0_ k qo so, cell1_ k qo so, cell4_ k qo so, cell3_ k qo so, cell2_ k qo so] H := hP
          have hD : va_D A [(qh 0, .inr (2, [.int (so 0 0), .int (so 0 1), .ref (qh 1), .ref (qh 2), .ref (qh 3), .ref (qh 4), .int (so 0 6), .int (so 0 7), .int (so 0 8), .int (-9), .int (-9), .int (so 0 11), .int (sh 0 12), .ref (qh 5)])), (qh 1, .inl (k 0, 5, .inl g1)), (qh 2, .inl (k 0, 5, .inl g2)), (qh 3, .inl (k 0, 3, .inl g3)), (qh 4, .inl (k 0, 3, .inl g4)), cell2_ k qh sh, cell32_ qo so, cell0_ k qo so, cell1_ k qo so, cell4_ k qo so, cell3_ k qo so, cell2_ k qo so] := hD
          refine lv_aload_n hx hb dX4_copy_165 rfl (lv_at hl 0 rfl) ?_
          refine lv_iload_n hx hb dX4_copy_166 rfl (lv_at hl 2 rfl) ?_
          refine lv_bipush (v := 8) hx hb dX4_copy_167 (by decide) ?_
          refine lv_iand hx hb dX4_copy_169 (lv_topi (fun v149 e149 => ?_))
          have t149 : 0 ≤ v149.toInt ∧ v149.toInt ≤ 8 := by rw [e149]; exact and_r (by decide) (by omega)
          refine lv_if_eq (tgt := 177) hx hb dX4_copy_170 (by decide) (fun c150 => ?_) (fun c150 => ?_)
          · have f150 : v149.toInt = 0 := f_eq rfl (by decide) c150
            refine lv_aload_n hx hb dX4_copy_177 rfl (lv_at hl 1 rfl) ?_
            refine g_get cx hP iw_X4_copy_X4 6 rfl rfl 12 (by decide) rfl fw_X4_copy_63 rfl dX4_copy_178 ?_
            refine g_pt cx hP hD hS iw_X4_copy_X4 tyX4 tyX4_ok nmX4 0 rfl rfl 12 (by decide) rfl fw_X4_copy_63 (ty := .int) rfl rfl rfl (Nat.le_of_ble_eq_true rfl) dX4_copy_181 (fun H locs hP hD hS => ?_)
            have hP : va_P D vwCl [cell176_ qh so (-9) (-9), (qh 1, .inl (k 0, 5, .inl g1)), (qh 2, .inl (k 0, 5, .inl g2)), (qh 3, .inl (k 0, 3, .inl g3)), (qh 4, .inl (k 0, 3, .inl g4)), cell2_ k qh sh, cell32_ qo so, cell0_ k qo so, cell1_ k qo so, cell4_ k qo so, cell3_ k qo so, cell2_ k qo so] H := hP
            have hD : va_D A [cell176_ qh so (-9) (-9), (qh 1, .inl (k 0, 5, .inl g1)), (qh 2, .inl (k 0, 5, .inl g2)), (qh 3, .inl (k 0, 3, .inl g3)), (qh 4, .inl (k 0, 3, .inl g4)), cell2_ k qh sh, cell32_ qo so, cell0_ k qo so, cell1_ k qo so, cell4_ k qo so, cell3_ k qo so, cell2_ k qo so] := hD
            refine lv_aload_n hx hb dX4_copy_184 rfl (lv_at hl 0 rfl) ?_
            refine g_v (w1 := fun (u : (Nat → Int32)) => [cell176_ qh so (-9) (-9), (qh 1, .inl (k 0, 5, .inl g1)), (qh 2, .inl (k 0, 5, .inl g2)), (qh 3, .inl (k 0, 3, .inl g3)), (qh 4, .inl (k 0, 3, .inl g4)), (qh 5, .inl (k 0, 525, .inl u))]) (g_runV (wc := [cell176_ qh so (-9) (-9), (qh 1, .inl (k 0, 5, .inl g1)), (qh 2, .inl (k 0, 5, .inl g2)), (qh 3, .inl (k 0, 3, .inl g3)), (qh 4, .inl (k 0, 3, .inl g4)), cell2_ k qh sh]) (rest := []) cx hP hD hS [0, 1, 2, 3, 4, 5] rfl (by decide) [] (c_X4_settle l D k b qh (up2 (up2 (up2 (up2 (up2 sh 0 (upd (upd (upd (upd (upd (upd (upd (upd (upd (sh 0) 0 (so 0 0)) 1 (so 0 1)) 6 (so 0 6)) 7 (so 0 7)) 8 (so 0 8)) 9 (-9)) 10 (-9)) 11 (so 0 11)) 12 (so 0 12))) 1 g1) 2 g2) 3 g3) 4 g4) H.size (show 0 ≤ (so 0 12).toInt ∧ (so 0 12).toInt ≤ 5 from by first | decide | omega) ag3) gX4_copy_X4_settle rfl rfl rfl nd_X4_settle ⟨Nat.le_of_ble_eq_true rfl, Nat.le_of_ble_eq_true rfl⟩ (ci := 2) (q0 := 0) rfl rfl rfl hl.1 rfl (Nat.le_of_ble_eq_true rfl) ⟨Nat.zero_le _, Nat.zero_le _⟩ dX4_copy_185) cx.2.2.1 hP hD hS [0, 1, 2, 3, 4, 5] rfl (fun _ => rfl) (fun u152 H locs hw151 hP hD hS => ?_)
            obtain ⟨m153, rfl⟩ : ∃ z, z = u152 := ⟨_, rfl⟩
            have hP : va_P D vwCl [cell176_ qh so (-9) (-9), (qh 1, .inl (k 0, 5, .inl g1)), (qh 2, .inl (k 0, 5, .inl g2)), (qh 3, .inl (k 0, 3, .inl g3)), (qh 4, .inl (k 0, 3, .inl g4)), (qh 5, .inl (k 0, 525, .inl m153)), cell32_ qo so, cell0_ k qo so, cell1_ k qo so, cell4_ k qo so, cell3_ k qo so, cell2_ k qo so] H := hP
            have hD : va_D A [cell176_ qh so (-9) (-9), (qh 1, .inl (k 0, 5, .inl g1)), (qh 2, .inl (k 0, 5, .inl g2)), (qh 3, .inl (k 0, 3, .inl g3)), (qh 4, .inl (k 0, 3, .inl g4)), (qh 5, .inl (k 0, 525, .inl m153)), cell32_ qo so, cell0_ k qo so, cell1_ k qo so, cell4_ k qo so, cell3_ k qo so, cell2_ k qo so] := hD
            replace hw151 : (SUok m153) ∧ (m153 = J_X4_settle (up2 (up2 (up2 (up2 (up2 sh 0 (upd (upd (upd (upd (upd (upd (upd (upd (upd (sh 0) 0 (so 0 0)) 1 (so 0 1)) 6 (so 0 6)) 7 (so 0 7)) 8 (so 0 8)) 9 (-9)) 10 (-9)) 11 (so 0 11)) 12 (so 0 12))) 1 g1) 2 g2) 3 g3) 4 g4)) := hw151
            obtain ⟨w154, w155⟩ := hw151
            have k157 : m153 = (J_X4_settle (up2 (up2 (up2 (up2 (up2 sh 0 (upd (upd (upd (upd (upd (upd (upd (upd (upd (sh 0) 0 (so 0 0)) 1 (so 0 1)) 6 (so 0 6)) 7 (so 0 7)) 8 (so 0 8)) 9 (-9)) 10 (-9)) 11 (so 0 11)) 12 (so 0 12))) 1 g1) 2 g2) 3 g3) 4 g4)) := congrArg (fun z => z) w155
            have hlit158 : ((-9) : Int32).toInt = -9 := by decide
            have hlit159 : ((-9) : Int32).toInt = -9 := by decide
            rw [hQ]
            exact x_v cx hr ((so 0 0), (so 0 1), g1, g2, g3, g4, (so 0 6), (so 0 7), (so 0 8), (-9), (-9), (so 0 11), (so 0 12), m153) hP hD hS ⟨(show 0 ≤ (so 0 0).toInt ∧ (so 0 0).toInt ≤ 5 from by omega), (show 0 ≤ (so 0 1).toInt ∧ (so 0 1).toInt ≤ 4 from by omega), (show 0 ≤ (so 0 12).toInt ∧ (so 0 12).toInt ≤ 5 from by omega), ag2, ag3, (show SUok m153 from by assumption), (show (so 0 0).toInt = (so 0 0).toInt from by omega), (show ((so 0 0), (so 0 1), g1, g2, g3, g4, (so 0 6), (so 0 7), (so 0 8), ((-9) : Int32), ((-9) : Int32), (so 0 11), (so 0 12), m153) = J_X4_copy sh so p0 from by subst eg1 eg2 eg3 eg4 e5 e7 e99 e147 e149 k157; first | (refine Eq.symm ?_; refine Eq.trans (if_pos c6) ?_; refine Eq.trans (if_neg c8) ?_; refine Eq.trans (if_neg c100) ?_; refine Eq.trans (if_pos c148) ?_; refine Eq.trans (if_pos c150) ?_; rfl) | (unfold J_X4_copy; try dsimp only; rw [if_pos c6, if_neg c8, if_neg c100, if_pos c148, if_pos c150]))⟩ dX4_copy_188
          · have f150 : ¬ v149.toInt = 0 := f_ne rfl (by decide) c150
            refine lv_iconst (v := 0) hx hb dX4_copy_173 (by decide) ?_
            refine lv_goto (tgt := 181) hx hb dX4_copy_174 (by decide) ?_
            refine g_pt cx hP hD hS iw_X4_copy_X4 tyX4 tyX4_ok nmX4 0 rfl rfl 12 (by decide) rfl fw_X4_copy_63 (ty := .int) rfl rfl rfl (Nat.le_of_ble_eq_true rfl) dX4_copy_181 (fun H locs hP hD hS => ?_)
            have hP : va_P D vwCl [cell177_ qh so (-9) (-9) 0, (qh 1, .inl (k 0, 5, .inl g1)), (qh 2, .inl (k 0, 5, .inl g2)), (qh 3, .inl (k 0, 3, .inl g3)), (qh 4, .inl (k 0, 3, .inl g4)), cell2_ k qh sh, cell32_ qo so, cell0_ k qo so, cell1_ k qo so, cell4_ k qo so, cell3_ k qo so, cell2_ k qo so] H := hP
            have hD : va_D A [cell177_ qh so (-9) (-9) 0, (qh 1, .inl (k 0, 5, .inl g1)), (qh 2, .inl (k 0, 5, .inl g2)), (qh 3, .inl (k 0, 3, .inl g3)), (qh 4, .inl (k 0, 3, .inl g4)), cell2_ k qh sh, cell32_ qo so, cell0_ k qo so, cell1_ k qo so, cell4_ k qo so, cell3_ k qo so, cell2_ k qo so] := hD
            have hlit160 : (0 : Int32).toInt = 0 := by decide
            refine lv_aload_n hx hb dX4_copy_184 rfl (lv_at hl 0 rfl) ?_
            refine g_v (w1 := fun (u : (Nat → Int32)) => [cell177_ qh so (-9) (-9) 0, (qh 1, .inl (k 0, 5, .inl g1)), (qh 2, .inl (k 0, 5, .inl g2)), (qh 3, .inl (k 0, 3, .inl g3)), (qh 4, .inl (k 0, 3, .inl g4)), (qh 5, .inl (k 0, 525, .inl u))]) (g_runV (wc := [cell177_ qh so (-9) (-9) 0, (qh 1, .inl (k 0, 5, .inl g1)), (qh 2, .inl (k 0, 5, .inl g2)), (qh 3, .inl (k 0, 3, .inl g3)), (qh 4, .inl (k 0, 3, .inl g4)), cell2_ k qh sh]) (rest := []) cx hP hD hS [0, 1, 2, 3, 4, 5] rfl (by decide) [] (c_X4_settle l D k b qh (up2 (up2 (up2 (up2 (up2 sh 0 (upd (upd (upd (upd (upd (upd (upd (upd (upd (sh 0) 0 (so 0 0)) 1 (so 0 1)) 6 (so 0 6)) 7 (so 0 7)) 8 (so 0 8)) 9 (-9)) 10 (-9)) 11 (so 0 11)) 12 0)) 1 g1) 2 g2) 3 g3) 4 g4) H.size (show 0 ≤ (0 : Int32).toInt ∧ (0 : Int32).toInt ≤ 5 from by first | decide | omega) ag3) gX4_copy_X4_settle rfl rfl rfl nd_X4_settle ⟨Nat.le_of_ble_eq_true rfl, Nat.le_of_ble_eq_true rfl⟩ (ci := 2) (q0 := 0) rfl rfl rfl hl.1 rfl (Nat.le_of_ble_eq_true rfl) ⟨Nat.zero_le _, Nat.zero_le _⟩ dX4_copy_185) cx.2.2.1 hP hD hS [0, 1, 2, 3, 4, 5] rfl (fun _ => rfl) (fun u162 H locs hw161 hP hD hS => ?_)
            obtain ⟨m163, rfl⟩ : ∃ z, z = u162 := ⟨_, rfl⟩
            have hP : va_P D vwCl [cell177_ qh so (-9) (-9) 0, (qh 1, .inl (k 0, 5, .inl g1)), (qh 2, .inl (k 0, 5, .inl g2)), (qh 3, .inl (k 0, 3, .inl g3)), (qh 4, .inl (k 0, 3, .inl g4)), (qh 5, .inl (k 0, 525, .inl m163)), cell32_ qo so, cell0_ k qo so, cell1_ k qo so, cell4_ k qo so, cell3_ k qo so, cell2_ k qo so] H := hP
            have hD : va_D A [cell177_ qh so (-9) (-9) 0, (qh 1, .inl (k 0, 5, .inl g1)), (qh 2, .inl (k 0, 5, .inl g2)), (qh 3, .inl (k 0, 3, .inl g3)), (qh 4, .inl (k 0, 3, .inl g4)), (qh 5, .inl (k 0, 525, .inl m163)), cell32_ qo so, cell0_ k qo so, cell1_ k qo so, cell4_ k qo so, cell3_ k qo so, cell2_ k qo so] := hD
            replace hw161 : (SUok m163) ∧ (m163 = J_X4_settle (up2 (up2 (up2 (up2 (up2 sh 0 (upd (upd (upd (upd (upd (upd (upd (upd (upd (sh 0) 0 (so 0 0)) 1 (so 0 1)) 6 (so 0 6)) 7 (so 0 7)) 8 (so 0 8)) 9 (-9)) 10 (-9)) 11 (so 0 11)) 12 0)) 1 g1) 2 g2) 3 g3) 4 g4)) := hw161
            obtain ⟨w164, w165⟩ := hw161
            have k167 : m163 = (J_X4_settle (up2 (up2 (up2 (up2 (up2 sh 0 (upd (upd (upd (upd (upd (upd (upd (upd (upd (sh 0) 0 (so 0 0)) 1 (so 0 1)) 6 (so 0 6)) 7 (so 0 7)) 8 (so 0 8)) 9 (-9)) 10 (-9)) 11 (so 0 11)) 12 0)) 1 g1) 2 g2) 3 g3) 4 g4)) := congrArg (fun z => z) w165
            have hlit168 : ((-9) : Int32).toInt = -9 := by decide
            have hlit169 : ((-9) : Int32).toInt = -9 := by decide
            have hlit170 : (0 : Int32).toInt = 0 := by decide
            rw [hQ]
            exact x_v cx hr ((so 0 0), (so 0 1), g1, g2, g3, g4, (so 0 6), (so 0 7), (so 0 8), (-9), (-9), (so 0 11), 0, m163) hP hD hS ⟨(show 0 ≤ (so 0 0).toInt ∧ (so 0 0).toInt ≤ 5 from by omega), (show 0 ≤ (so 0 1).toInt ∧ (so 0 1).toInt ≤ 4 from by omega), (show 0 ≤ (0 : Int32).toInt ∧ (0 : Int32).toInt ≤ 5 from by omega), ag2, ag3, (show SUok m163 from by assumption), (show (so 0 0).toInt = (so 0 0).toInt from by omega), (show ((so 0 0), (so 0 1), g1, g2, g3, g4, (so 0 6), (so 0 7), (so 0 8), ((-9) : Int32), ((-9) : Int32), (so 0 11), (0 : Int32), m163) = J_X4_copy sh so p0 from by subst eg1 eg2 eg3 eg4 e5 e7 e99 e147 e149 k167; first | (refine Eq.symm ?_; refine Eq.trans (if_pos c6) ?_; refine Eq.trans (if_neg c8) ?_; refine Eq.trans (if_neg c100) ?_; refine Eq.trans (if_pos c148) ?_; refine Eq.trans (if_neg c150) ?_; rfl) | (unfold J_X4_copy; try dsimp only; rw [if_pos c6, if_neg c8, if_neg c100, if_pos c148, if_neg c150]))⟩ dX4_copy_188
        · have f148 : ¬ v147.toInt = 0 := f_ne rfl (by decide) c148
          refine lv_bipush (v := (-9)) hx hb dX4_copy_153 (by decide) ?_
          refine lv_goto (tgt := 162) hx hb dX4_copy_155 (by decide) ?_
          refine g_pt cx hP hD hS iw_X4_copy_X4 tyX4 tyX4_ok nmX4 0 rfl rfl 11 (by decide) rfl fw_X4_copy_60 (ty := .int) rfl rfl rfl (Nat.le_of_ble_eq_true rfl) dX4_copy_162 (fun H locs hP hD hS => ?_)
          have hP : va_P D vwCl [(qh 0, .inr (2, [.int (so 0 0), .int (so 0 1), .ref (qh 1), .ref (qh 2), .ref (qh 3), .ref (qh 4), .int (so 0 6), .int (so 0 7), .int (so 0 8), .int (-9), .int (-9), .int (-9), .int (sh 0 12), .ref (qh 5)])), (qh 1, .inl (k 0, 5, .inl g1)), (qh 2, .inl (k 0, 5, .inl g2)), (qh 3, .inl (k 0, 3, .inl g3)), (qh 4, .inl (k 0, 3, .inl g4)), cell2_ k qh sh, cell32_ qo so, cell0_ k qo so, cell1_ k qo so, cell4_ k qo so, cell3_ k qo so, cell2_ k qo so] H := hP
          have hD : va_D A [(qh 0, .inr (2, [.int (so 0 0), .int (so 0 1), .ref (qh 1), .ref (qh 2), .ref (qh 3), .ref (qh 4), .int (so 0 6), .int (so 0 7), .int (so 0 8), .int (-9), .int (-9), .int (-9), .int (sh 0 12), .ref (qh 5)])), (qh 1, .inl (k 0, 5, .inl g1)), (qh 2, .inl (k 0, 5, .inl g2)), (qh 3, .inl (k 0, 3, .inl g3)), (qh 4, .inl (k 0, 3, .inl g4)), cell2_ k qh sh, cell32_ qo so, cell0_ k qo so, cell1_ k qo so, cell4_ k qo so, cell3_ k qo so, cell2_ k qo so] := hD
          have hlit171 : ((-9) : Int32).toInt = -9 := by decide
          refine lv_aload_n hx hb dX4_copy_165 rfl (lv_at hl 0 rfl) ?_
          refine lv_iload_n hx hb dX4_copy_166 rfl (lv_at hl 2 rfl) ?_
          refine lv_bipush (v := 8) hx hb dX4_copy_167 (by decide) ?_
          refine lv_iand hx hb dX4_copy_169 (lv_topi (fun v172 e172 => ?_))
          have t172 : 0 ≤ v172.toInt ∧ v172.toInt ≤ 8 := by rw [e172]; exact and_r (by decide) (by omega)
          refine lv_if_eq (tgt := 177) hx hb dX4_copy_170 (by decide) (fun c173 => ?_) (fun c173 => ?_)
          · have f173 : v172.toInt = 0 := f_eq rfl (by decide) c173
            refine lv_aload_n hx hb dX4_copy_177 rfl (lv_at hl 1 rfl) ?_
            refine g_get cx hP iw_X4_copy_X4 6 rfl rfl 12 (by decide) rfl fw_X4_copy_63 rfl dX4_copy_178 ?_
            refine g_pt cx hP hD hS iw_X4_copy_X4 tyX4 tyX4_ok nmX4 0 rfl rfl 12 (by decide) rfl fw_X4_copy_63 (ty := .int) rfl rfl rfl (Nat.le_of_ble_eq_true rfl) dX4_copy_181 (fun H locs hP hD hS => ?_)
            have hP : va_P D vwCl [cell178_ qh so (-9) (-9) (-9), (qh 1, .inl (k 0, 5, .inl g1)), (qh 2, .inl (k 0, 5, .inl g2)), (qh 3, .inl (k 0, 3, .inl g3)), (qh 4, .inl (k 0, 3, .inl g4)), cell2_ k qh sh, cell32_ qo so, cell0_ k qo so, cell1_ k qo so, cell4_ k qo so, cell3_ k qo so, cell2_ k qo so] H := hP
            have hD : va_D A [cell178_ qh so (-9) (-9) (-9), (qh 1, .inl (k 0, 5, .inl g1)), (qh 2, .inl (k 0, 5, .inl g2)), (qh 3, .inl (k 0, 3, .inl g3)), (qh 4, .inl (k 0, 3, .inl g4)), cell2_ k qh sh, cell32_ qo so, cell0_ k qo so, cell1_ k qo so, cell4_ k qo so, cell3_ k qo so, cell2_ k qo so] := hD
            refine lv_aload_n hx hb dX4_copy_184 rfl (lv_at hl 0 rfl) ?_
            refine g_v (w1 := fun (u : (Nat → Int32)) => [cell178_ qh so (-9) (-9) (-9), (qh 1, .inl (k 0, 5, .inl g1)), (qh 2, .inl (k 0, 5, .inl g2)), (qh 3, .inl (k 0, 3, .inl g3)), (qh 4, .inl (k 0, 3, .inl g4)), (qh 5, .inl (k 0, 525, .inl u))]) (g_runV (wc := [cell178_ qh so (-9) (-9) (-9), (qh 1, .inl (k 0, 5, .inl g1)), (qh 2, .inl (k 0, 5, .inl g2)), (qh 3, .inl (k 0, 3, .inl g3)), (qh 4, .inl (k 0, 3, .inl g4)), cell2_ k qh sh]) (rest := []) cx hP hD hS [0, 1, 2, 3, 4, 5] rfl (by decide) [] (c_X4_settle l D k b qh (up2 (up2 (up2 (up2 (up2 sh 0 (upd (upd (upd (upd (upd (upd (upd (upd (upd (sh 0) 0 (so 0 0)) 1 (so 0 1)) 6 (so 0 6)) 7 (so 0 7)) 8 (so 0 8)) 9 (-9)) 10 (-9)) 11 (-9)) 12 (so 0 12))) 1 g1) 2 g2) 3 g3) 4 g4) H.size (show 0 ≤ (so 0 12).toInt ∧ (so 0 12).toInt ≤ 5 from by first | decide | omega) ag3) gX4_copy_X4_settle rfl rfl rfl nd_X4_settle ⟨Nat.le_of_ble_eq_true rfl, Nat.le_of_ble_eq_true rfl⟩ (ci := 2) (q0 := 0) rfl rfl rfl hl.1 rfl (Nat.le_of_ble_eq_true rfl) ⟨Nat.zero_le _, Nat.zero_le _⟩ dX4_copy_185) cx.2.2.1 hP hD hS [0, 1, 2, 3, 4, 5] rfl (fun _ => rfl) (fun u175 H locs hw174 hP hD hS => ?_)
            obtain ⟨m176, rfl⟩ : ∃ z, z = u175 := ⟨_, rfl⟩
            have hP : va_P D vwCl [cell178_ qh so (-9) (-9) (-9), (qh 1, .inl (k 0, 5, .inl g1)), (qh 2, .inl (k 0, 5, .inl g2)), (qh 3, .inl (k 0, 3, .inl g3)), (qh 4, .inl (k 0, 3, .inl g4)), (qh 5, .inl (k 0, 525, .inl m176)), cell32_ qo so, cell0_ k qo so, cell1_ k qo so, cell4_ k qo so, cell3_ k qo so, cell2_ k qo so] H := hP
            have hD : va_D A [cell178_ qh so (-9) (-9) (-9), (qh 1, .inl (k 0, 5, .inl g1)), (qh 2, .inl (k 0, 5, .inl g2)), (qh 3, .inl (k 0, 3, .inl g3)), (qh 4, .inl (k 0, 3, .inl g4)), (qh 5, .inl (k 0, 525, .inl m176)), cell32_ qo so, cell0_ k qo so, cell1_ k qo so, cell4_ k qo so, cell3_ k qo so, cell2_ k qo so] := hD
            replace hw174 : (SUok m176) ∧ (m176 = J_X4_settle (up2 (up2 (up2 (up2 (up2 sh 0 (upd (upd (upd (upd (upd (upd (upd (upd (upd (sh 0) 0 (so 0 0)) 1 (so 0 1)) 6 (so 0 6)) 7 (so 0 7)) 8 (so 0 8)) 9 (-9)) 10 (-9)) 11 (-9)) 12 (so 0 12))) 1 g1) 2 g2) 3 g3) 4 g4)) := hw174
            obtain ⟨w177, w178⟩ := hw174
            have k180 : m176 = (J_X4_settle (up2 (up2 (up2 (up2 (up2 sh 0 (upd (upd (upd (upd (upd (upd (upd (upd (upd (sh 0) 0 (so 0 0)) 1 (so 0 1)) 6 (so 0 6)) 7 (so 0 7)) 8 (so 0 8)) 9 (-9)) 10 (-9)) 11 (-9)) 12 (so 0 12))) 1 g1) 2 g2) 3 g3) 4 g4)) := congrArg (fun z => z) w178
            have hlit181 : ((-9) : Int32).toInt = -9 := by decide
            have hlit182 : ((-9) : Int32).toInt = -9 := by decide
            have hlit183 : ((-9) : Int32).toInt = -9 := by decide
            rw [hQ]
            exact x_v cx hr ((so 0 0), (so 0 1), g1, g2, g3, g4, (so 0 6), (so 0 7), (so 0 8), (-9), (-9), (-9), (so 0 12), m176) hP hD hS ⟨(show 0 ≤ (so 0 0).toInt ∧ (so 0 0).toInt ≤ 5 from by omega), (show 0 ≤ (so 0 1).toInt ∧ (so 0 1).toInt ≤ 4 from by omega), (show 0 ≤ (so 0 12).toInt ∧ (so 0 12).toInt ≤ 5 from by omega), ag2, ag3, (show SUok m176 from by assumption), (show (so 0 0).toInt = (so 0 0).toInt from by omega), (show ((so 0 0), (so 0 1), g1, g2, g3, g4, (so 0 6), (so 0 7), (so 0 8), ((-9) : Int32), ((-9) : Int32), ((-9) : Int32), (so 0 12), m176) = J_X4_copy sh so p0 from by subst eg1 eg2 eg3 eg4 e5 e7 e99 e147 e172 k180; first | (refine Eq.symm ?_; refine Eq.trans (if_pos c6) ?_; refine Eq.trans (if_neg c8) ?_; refine Eq.trans (if_neg c100) ?_; refine Eq.trans (if_neg c148) ?_; refine Eq.trans (if_pos c173) ?_; rfl) | (unfold J_X4_copy; try dsimp only; rw [if_pos c6, if_neg c8, if_neg c100, if_neg c148, if_pos c173]))⟩ dX4_copy_188
          · have f173 : ¬ v172.toInt = 0 := f_ne rfl (by decide) c173
            refine lv_iconst (v := 0) hx hb dX4_copy_173 (by decide) ?_
            refine lv_goto (tgt := 181) hx hb dX4_copy_174 (by decide) ?_
            refine g_pt cx hP hD hS iw_X4_copy_X4 tyX4 tyX4_ok nmX4 0 rfl rfl 12 (by decide) rfl fw_X4_copy_63 (ty := .int) rfl rfl rfl (Nat.le_of_ble_eq_true rfl) dX4_copy_181 (fun H locs hP hD hS => ?_)
            have hP : va_P D vwCl [cell179_ qh so (-9) (-9) (-9) 0, (qh 1, .inl (k 0, 5, .inl g1)), (qh 2, .inl (k 0, 5, .inl g2)), (qh 3, .inl (k 0, 3, .inl g3)), (qh 4, .inl (k 0, 3, .inl g4)), cell2_ k qh sh, cell32_ qo so, cell0_ k qo so, cell1_ k qo so, cell4_ k qo so, cell3_ k qo so, cell2_ k qo so] H := hP
            have hD : va_D A [cell179_ qh so (-9) (-9) (-9) 0, (qh 1, .inl (k 0, 5, .inl g1)), (qh 2, .inl (k 0, 5, .inl g2)), (qh 3, .inl (k 0, 3, .inl g3)), (qh 4, .inl (k 0, 3, .inl g4)), cell2_ k qh sh, cell32_ qo so, cell0_ k qo so, cell1_ k qo so, cell4_ k qo so, cell3_ k qo so, cell2_ k qo so] := hD
            have hlit184 : (0 : Int32).toInt = 0 := by decide
            refine lv_aload_n hx hb dX4_copy_184 rfl (lv_at hl 0 rfl) ?_
            refine g_v (w1 := fun (u : (Nat → Int32)) => [cell179_ qh so (-9) (-9) (-9) 0, (qh 1, .inl (k 0, 5, .inl g1)), (qh 2, .inl (k 0, 5, .inl g2)), (qh 3, .inl (k 0, 3, .inl g3)), (qh 4, .inl (k 0, 3, .inl g4)), (qh 5, .inl (k 0, 525, .inl u))]) (g_runV (wc := [cell179_ qh so (-9) (-9) (-9) 0, (qh 1, .inl (k 0, 5, .inl g1)), (qh 2, .inl (k 0, 5, .inl g2)), (qh 3, .inl (k 0, 3, .inl g3)), (qh 4, .inl (k 0, 3, .inl g4)), cell2_ k qh sh]) (rest := []) cx hP hD hS [0, 1, 2, 3, 4, 5] rfl (by decide) [] (c_X4_settle l D k b qh (up2 (up2 (up2 (up2 (up2 sh 0 (upd (upd (upd (upd (upd (upd (upd (upd (upd (sh 0) 0 (so 0 0)) 1 (so 0 1)) 6 (so 0 6)) 7 (so 0 7)) 8 (so 0 8)) 9 (-9)) 10 (-9)) 11 (-9)) 12 0)) 1 g1) 2 g2) 3 g3) 4 g4) H.size (show 0 ≤ (0 : Int32).toInt ∧ (0 : Int32).toInt ≤ 5 from by first | decide | omega) ag3) gX4_copy_X4_settle rfl rfl rfl nd_X4_settle ⟨Nat.le_of_ble_eq_true rfl, Nat.le_of_ble_eq_true rfl⟩ (ci := 2) (q0 := 0) rfl rfl rfl hl.1 rfl (Nat.le_of_ble_eq_true rfl) ⟨Nat.zero_le _, Nat.zero_le _⟩ dX4_copy_185) cx.2.2.1 hP hD hS [0, 1, 2, 3, 4, 5] rfl (fun _ => rfl) (fun u186 H locs hw185 hP hD hS => ?_)
            obtain ⟨m187, rfl⟩ : ∃ z, z = u186 := ⟨_, rfl⟩
            have hP : va_P D vwCl [cell179_ qh so (-9) (-9) (-9) 0, (qh 1, .inl (k 0, 5, .inl g1)), (qh 2, .inl (k 0, 5, .inl g2)), (qh 3, .inl (k 0, 3, .inl g3)), (qh 4, .inl (k 0, 3, .inl g4)), (qh 5, .inl (k 0, 525, .inl m187)), cell32_ qo so, cell0_ k qo so, cell1_ k qo so, cell4_ k qo so, cell3_ k qo so, cell2_ k qo so] H := hP
            have hD : va_D A [cell179_ qh so (-9) (-9) (-9) 0, (qh 1, .inl (k 0, 5, .inl g1)), (qh 2, .inl (k 0, 5, .inl g2)), (qh 3, .inl (k 0, 3, .inl g3)), (qh 4, .inl (k 0, 3, .inl g4)), (qh 5, .inl (k 0, 525, .inl m187)), cell32_ qo so, cell0_ k qo so, cell1_ k qo so, cell4_ k qo so, cell3_ k qo so, cell2_ k qo so] := hD
            replace hw185 : (SUok m187) ∧ (m187 = J_X4_settle (up2 (up2 (up2 (up2 (up2 sh 0 (upd (upd (upd (upd (upd (upd (upd (upd (upd (sh 0) 0 (so 0 0)) 1 (so 0 1)) 6 (so 0 6)) 7 (so 0 7)) 8 (so 0 8)) 9 (-9)) 10 (-9)) 11 (-9)) 12 0)) 1 g1) 2 g2) 3 g3) 4 g4)) := hw185
            obtain ⟨w188, w189⟩ := hw185
            have k191 : m187 = (J_X4_settle (up2 (up2 (up2 (up2 (up2 sh 0 (upd (upd (upd (upd (upd (upd (upd (upd (upd (sh 0) 0 (so 0 0)) 1 (so 0 1)) 6 (so 0 6)) 7 (so 0 7)) 8 (so 0 8)) 9 (-9)) 10 (-9)) 11 (-9)) 12 0)) 1 g1) 2 g2) 3 g3) 4 g4)) := congrArg (fun z => z) w189
            have hlit192 : ((-9) : Int32).toInt = -9 := by decide
            have hlit193 : ((-9) : Int32).toInt = -9 := by decide
            have hlit194 : ((-9) : Int32).toInt = -9 := by decide
            have hlit195 : (0 : Int32).toInt = 0 := by decide
            rw [hQ]
            exact x_v cx hr ((so 0 0), (so 0 1), g1, g2, g3, g4, (so 0 6), (so 0 7), (so 0 8), (-9), (-9), (-9), 0, m187) hP hD hS ⟨(show 0 ≤ (so 0 0).toInt ∧ (so 0 0).toInt ≤ 5 from by omega), (show 0 ≤ (so 0 1).toInt ∧ (so 0 1).toInt ≤ 4 from by omega), (show 0 ≤ (0 : Int32).toInt ∧ (0 : Int32).toInt ≤ 5 from by omega), ag2, ag3, (show SUok m187 from by assumption), (show (so 0 0).toInt = (so 0 0).toInt from by omega), (show ((so 0 0), (so 0 1), g1, g2, g3, g4, (so 0 6), (so 0 7), (so 0 8), ((-9) : Int32), ((-9) : Int32), ((-9) : Int32), (0 : Int32), m187) = J_X4_copy sh so p0 from by subst eg1 eg2 eg3 eg4 e5 e7 e99 e147 e172 k191; first | (refine Eq.symm ?_; refine Eq.trans (if_pos c6) ?_; refine Eq.trans (if_neg c8) ?_; refine Eq.trans (if_neg c100) ?_; refine Eq.trans (if_neg c148) ?_; refine Eq.trans (if_neg c173) ?_; rfl) | (unfold J_X4_copy; try dsimp only; rw [if_pos c6, if_neg c8, if_neg c100, if_neg c148, if_neg c173]))⟩ dX4_copy_188
  · have f6 : ¬ v5.toInt = 0 := f_ne rfl (by decide) c6
    refine lv_bipush (v := (-9)) hx hb dX4_copy_95 (by decide) ?_
    refine lv_goto (tgt := 104) hx hb dX4_copy_97 (by decide) ?_
    refine g_pt cx hP hD hS iw_X4_copy_X4 tyX4 tyX4_ok nmX4 0 rfl rfl 8 (by decide) rfl fw_X4_copy_51 (ty := .int) rfl rfl rfl (Nat.le_of_ble_eq_true rfl) dX4_copy_104 (fun H locs hP hD hS => ?_)
    have hP : va_P D vwCl [(qh 0, .inr (2, [.int (so 0 0), .int (so 0 1), .ref (qh 1), .ref (qh 2), .ref (qh 3), .ref (qh 4), .int (so 0 6), .int (so 0 7), .int (-9), .int (sh 0 9), .int (sh 0 10), .int (sh 0 11), .int (sh 0 12), .ref (qh 5)])), (qh 1, .inl (k 0, 5, .inl g1)), (qh 2, .inl (k 0, 5, .inl g2)), (qh 3, .inl (k 0, 3, .inl g3)), (qh 4, .inl (k 0, 3, .inl g4)), cell2_ k qh sh, cell32_ qo so, cell0_ k qo so, cell1_ k qo so, cell4_ k qo so, cell3_ k qo so, cell2_ k qo so] H := hP
    have hD : va_D A [(qh 0, .inr (2, [.int (so 0 0), .int (so 0 1), .ref (qh 1), .ref (qh 2), .ref (qh 3), .ref (qh 4), .int (so 0 6), .int (so 0 7), .int (-9), .int (sh 0 9), .int (sh 0 10), .int (sh 0 11), .int (sh 0 12), .ref (qh 5)])), (qh 1, .inl (k 0, 5, .inl g1)), (qh 2, .inl (k 0, 5, .inl g2)), (qh 3, .inl (k 0, 3, .inl g3)), (qh 4, .inl (k 0, 3, .inl g4)), cell2_ k qh sh, cell32_ qo so, cell0_ k qo so, cell1_ k qo so, cell4_ k qo so, cell3_ k qo so, cell2_ k qo so] := hD
    have hlit196 : ((-9) : Int32).toInt = -9 := by decide
    refine lv_aload_n hx hb dX4_copy_107 rfl (lv_at hl 0 rfl) ?_
    refine lv_iload_n hx hb dX4_copy_108 rfl (lv_at hl 2 rfl) ?_
    refine lv_iconst (v := 2) hx hb dX4_copy_109 (by decide) ?_
    refine lv_iand hx hb dX4_copy_110 (lv_topi (fun v197 e197 => ?_))
    have t197 : 0 ≤ v197.toInt ∧ v197.toInt ≤ 2 := by rw [e197]; exact and_r (by decide) (by omega)
    refine lv_if_eq (tgt := 119) hx hb dX4_copy_111 (by decide) (fun c198 => ?_) (fun c198 => ?_)
    · have f198 : v197.toInt = 0 := f_eq rfl (by decide) c198
      refine lv_aload_n hx hb dX4_copy_119 rfl (lv_at hl 1 rfl) ?_
      refine g_get cx hP iw_X4_copy_X4 6 rfl rfl 9 (by decide) rfl fw_X4_copy_54 rfl dX4_copy_120 ?_
      refine g_pt cx hP hD hS iw_X4_copy_X4 tyX4 tyX4_ok nmX4 0 rfl rfl 9 (by decide) rfl fw_X4_copy_54 (ty := .int) rfl rfl rfl (Nat.le_of_ble_eq_true rfl) dX4_copy_123 (fun H locs hP hD hS => ?_)
      have hP : va_P D vwCl [(qh 0, .inr (2, [.int (so 0 0), .int (so 0 1), .ref (qh 1), .ref (qh 2), .ref (qh 3), .ref (qh 4), .int (so 0 6), .int (so 0 7), .int (-9), .int (so 0 9), .int (sh 0 10), .int (sh 0 11), .int (sh 0 12), .ref (qh 5)])), (qh 1, .inl (k 0, 5, .inl g1)), (qh 2, .inl (k 0, 5, .inl g2)), (qh 3, .inl (k 0, 3, .inl g3)), (qh 4, .inl (k 0, 3, .inl g4)), cell2_ k qh sh, cell32_ qo so, cell0_ k qo so, cell1_ k qo so, cell4_ k qo so, cell3_ k qo so, cell2_ k qo so] H := hP
      have hD : va_D A [(qh 0, .inr (2, [.int (so 0 0), .int (so 0 1), .ref (qh 1), .ref (qh 2), .ref (qh 3), .ref (qh 4), .int (so 0 6), .int (so 0 7), .int (-9), .int (so 0 9), .int (sh 0 10), .int (sh 0 11), .int (sh 0 12), .ref (qh 5)])), (qh 1, .inl (k 0, 5, .inl g1)), (qh 2, .inl (k 0, 5, .inl g2)), (qh 3, .inl (k 0, 3, .inl g3)), (qh 4, .inl (k 0, 3, .inl g4)), cell2_ k qh sh, cell32_ qo so, cell0_ k qo so, cell1_ k qo so, cell4_ k qo so, cell3_ k qo so, cell2_ k qo so] := hD
      refine lv_aload_n hx hb dX4_copy_126 rfl (lv_at hl 0 rfl) ?_
      refine lv_iload_n hx hb dX4_copy_127 rfl (lv_at hl 2 rfl) ?_
      refine lv_iconst (v := 4) hx hb dX4_copy_128 (by decide) ?_
      refine lv_iand hx hb dX4_copy_129 (lv_topi (fun v199 e199 => ?_))
      have t199 : 0 ≤ v199.toInt ∧ v199.toInt ≤ 4 := by rw [e199]; exact and_r (by decide) (by omega)
      refine lv_if_eq (tgt := 138) hx hb dX4_copy_130 (by decide) (fun c200 => ?_) (fun c200 => ?_)
      · have f200 : v199.toInt = 0 := f_eq rfl (by decide) c200
        refine lv_aload_n hx hb dX4_copy_138 rfl (lv_at hl 1 rfl) ?_
        refine g_get cx hP iw_X4_copy_X4 6 rfl rfl 10 (by decide) rfl fw_X4_copy_57 rfl dX4_copy_139 ?_
        refine g_pt cx hP hD hS iw_X4_copy_X4 tyX4 tyX4_ok nmX4 0 rfl rfl 10 (by decide) rfl fw_X4_copy_57 (ty := .int) rfl rfl rfl (Nat.le_of_ble_eq_true rfl) dX4_copy_142 (fun H locs hP hD hS => ?_)
        have hP : va_P D vwCl [(qh 0, .inr (2, [.int (so 0 0), .int (so 0 1), .ref (qh 1), .ref (qh 2), .ref (qh 3), .ref (qh 4), .int (so 0 6), .int (so 0 7), .int (-9), .int (so 0 9), .int (so 0 10), .int (sh 0 11), .int (sh 0 12), .ref (qh 5)])), (qh 1, .inl (k 0, 5, .inl g1)), (qh 2, .inl (k 0, 5, .inl g2)), (qh 3, .inl (k 0, 3, .inl g3)), (qh 4, .inl (k 0, 3, .inl g4)), cell2_ k qh sh, cell32_ qo so, cell0_ k qo so, cell1_ k qo so, cell4_ k qo so, cell3_ k qo so, cell2_ k qo so] H := hP
        have hD : va_D A [(qh 0, .inr (2, [.int (so 0 0), .int (so 0 1), .ref (qh 1), .ref (qh 2), .ref (qh 3), .ref (qh 4), .int (so 0 6), .int (so 0 7), .int (-9), .int (so 0 9), .int (so 0 10), .int (sh 0 11), .int (sh 0 12), .ref (qh 5)])), (qh 1, .inl (k 0, 5, .inl g1)), (qh 2, .inl (k 0, 5, .inl g2)), (qh 3, .inl (k 0, 3, .inl g3)), (qh 4, .inl (k 0, 3, .inl g4)), cell2_ k qh sh, cell32_ qo so, cell0_ k qo so, cell1_ k qo so, cell4_ k qo so, cell3_ k qo so, cell2_ k qo so] := hD
        refine lv_aload_n hx hb dX4_copy_145 rfl (lv_at hl 0 rfl) ?_
        refine lv_iload_n hx hb dX4_copy_146 rfl (lv_at hl 2 rfl) ?_
        refine lv_bipush (v := 8) hx hb dX4_copy_147 (by decide) ?_
        refine lv_iand hx hb dX4_copy_149 (lv_topi (fun v201 e201 => ?_))
        have t201 : 0 ≤ v201.toInt ∧ v201.toInt ≤ 8 := by rw [e201]; exact and_r (by decide) (by omega)
        refine lv_if_eq (tgt := 158) hx hb dX4_copy_150 (by decide) (fun c202 => ?_) (fun c202 => ?_)
        · have f202 : v201.toInt = 0 := f_eq rfl (by decide) c202
          refine lv_aload_n hx hb dX4_copy_158 rfl (lv_at hl 1 rfl) ?_
          refine g_get cx hP iw_X4_copy_X4 6 rfl rfl 11 (by decide) rfl fw_X4_copy_60 rfl dX4_copy_159 ?_
          refine g_pt cx hP hD hS iw_X4_copy_X4 tyX4 tyX4_ok nmX4 0 rfl rfl 11 (by decide) rfl fw_X4_copy_60 (ty := .int) rfl rfl rfl (Nat.le_of_ble_eq_true rfl) dX4_copy_162 (fun H locs hP hD hS => ?_)
          have hP : va_P D vwCl [(qh 0, .inr (2, [.int (so 0 0), .int (so 0 1), .ref (qh 1), .ref (qh 2), .ref (qh 3), .ref (qh 4), .int (so 0 6), .int (so 0 7), .int (-9), .int (so 0 9), .int (so 0 10), .int (so 0 11), .int (sh 0 12), .ref (qh 5)])), (qh 1, .inl (k 0, 5, .inl g1)), (qh 2, .inl (k 0, 5, .inl g2)), (qh 3, .inl (k 0, 3, .inl g3)), (qh 4, .inl (k 0, 3, .inl g4)), cell2_ k qh sh, cell32_ qo so, cell0_ k qo so, cell1_ k qo so, cell4_ k qo so, cell3_ k qo so, cell2_ k qo so] H := hP
          have hD : va_D A [(qh 0, .inr (2, [.int (so 0 0), .int (so 0 1), .ref (qh 1), .ref (qh 2), .ref (qh 3), .ref (qh 4), .int (so 0 6), .int (so 0 7), .int (-9), .int (so 0 9), .int (so 0 10), .int (so 0 11), .int (sh 0 12), .ref (qh 5)])), (qh 1, .inl (k 0, 5, .inl g1)), (qh 2, .inl (k 0, 5, .inl g2)), (qh 3, .inl (k 0, 3, .inl g3)), (qh 4, .inl (k 0, 3, .inl g4)), cell2_ k qh sh, cell32_ qo so, cell0_ k qo so, cell1_ k qo so, cell4_ k qo so, cell3_ k qo so, cell2_ k qo so] := hD
          refine lv_aload_n hx hb dX4_copy_165 rfl (lv_at hl 0 rfl) ?_
          refine lv_iload_n hx hb dX4_copy_166 rfl (lv_at hl 2 rfl) ?_
          refine lv_bipush (v := 8) hx hb dX4_copy_167 (by decide) ?_
          refine lv_iand hx hb dX4_copy_169 (lv_topi (fun v203 e203 => ?_))
          have t203 : 0 ≤ v203.toInt ∧ v203.toInt ≤ 8 := by rw [e203]; exact and_r (by decide) (by omega)
          refine lv_if_eq (tgt := 177) hx hb dX4_copy_170 (by decide) (fun c204 => ?_) (fun c204 => ?_)
          · have f204 : v203.toInt = 0 := f_eq rfl (by decide) c204
            refine lv_aload_n hx hb dX4_copy_177 rfl (lv_at hl 1 rfl) ?_
            refine g_get cx hP iw_X4_copy_X4 6 rfl rfl 12 (by decide) rfl fw_X4_copy_63 rfl dX4_copy_178 ?_
            refine g_pt cx hP hD hS iw_X4_copy_X4 tyX4 tyX4_ok nmX4 0 rfl rfl 12 (by decide) rfl fw_X4_copy_63 (ty := .int) rfl rfl rfl (Nat.le_of_ble_eq_true rfl) dX4_copy_181 (fun H locs hP hD hS => ?_)
            have hP : va_P D vwCl [cell159_ qh so (-9), (qh 1, .inl (k 0, 5, .inl g1)), (qh 2, .inl (k 0, 5, .inl g2)), (qh 3, .inl (k 0, 3, .inl g3)), (qh 4, .inl (k 0, 3, .inl g4)), cell2_ k qh sh, cell32_ qo so, cell0_ k qo so, cell1_ k qo so, cell4_ k qo so, cell3_ k qo so, cell2_ k qo so] H := hP
            have hD : va_D A [cell159_ qh so (-9), (qh 1, .inl (k 0, 5, .inl g1)), (qh 2, .inl (k 0, 5, .inl g2)), (qh 3, .inl (k 0, 3, .inl g3)), (qh 4, .inl (k 0, 3, .inl g4)), cell2_ k qh sh, cell32_ qo so, cell0_ k qo so, cell1_ k qo so, cell4_ k qo so, cell3_ k qo so, cell2_ k qo so] := hD
            refine lv_aload_n hx hb dX4_copy_184 rfl (lv_at hl 0 rfl) ?_
            refine g_v (w1 := fun (u : (Nat → Int32)) => [cell159_ qh so (-9), (qh 1, .inl (k 0, 5, .inl g1)), (qh 2, .inl (k 0, 5, .inl g2)), (qh 3, .inl (k 0, 3, .inl g3)), (qh 4, .inl (k 0, 3, .inl g4)), (qh 5, .inl (k 0, 525, .inl u))]) (g_runV (wc := [cell159_ qh so (-9), (qh 1, .inl (k 0, 5, .inl g1)), (qh 2, .inl (k 0, 5, .inl g2)), (qh 3, .inl (k 0, 3, .inl g3)), (qh 4, .inl (k 0, 3, .inl g4)), cell2_ k qh sh]) (rest := []) cx hP hD hS [0, 1, 2, 3, 4, 5] rfl (by decide) [] (c_X4_settle l D k b qh (up2 (up2 (up2 (up2 (up2 sh 0 (upd (upd (upd (upd (upd (upd (upd (upd (upd (sh 0) 0 (so 0 0)) 1 (so 0 1)) 6 (so 0 6)) 7 (so 0 7)) 8 (-9)) 9 (so 0 9)) 10 (so 0 10)) 11 (so 0 11)) 12 (so 0 12))) 1 g1) 2 g2) 3 g3) 4 g4) H.size (show 0 ≤ (so 0 12).toInt ∧ (so 0 12).toInt ≤ 5 from by first | decide | omega) ag3) gX4_copy_X4_settle rfl rfl rfl nd_X4_settle ⟨Nat.le_of_ble_eq_true rfl, Nat.le_of_ble_eq_true rfl⟩ (ci := 2) (q0 := 0) rfl rfl rfl hl.1 rfl (Nat.le_of_ble_eq_true rfl) ⟨Nat.zero_le _, Nat.zero_le _⟩ dX4_copy_185) cx.2.2.1 hP hD hS [0, 1, 2, 3, 4, 5] rfl (fun _ => rfl) (fun u206 H locs hw205 hP hD hS => ?_)
            obtain ⟨m207, rfl⟩ : ∃ z, z = u206 := ⟨_, rfl⟩
            have hP : va_P D vwCl [cell159_ qh so (-9), (qh 1, .inl (k 0, 5, .inl g1)), (qh 2, .inl (k 0, 5, .inl g2)), (qh 3, .inl (k 0, 3, .inl g3)), (qh 4, .inl (k 0, 3, .inl g4)), (qh 5, .inl (k 0, 525, .inl m207)), cell32_ qo so, cell0_ k qo so, cell1_ k qo so, cell4_ k qo so, cell3_ k qo so, cell2_ k qo so] H := hP
            have hD : va_D A [cell159_ qh so (-9), (qh 1, .inl (k 0, 5, .inl g1)), (qh 2, .inl (k 0, 5, .inl g2)), (qh 3, .inl (k 0, 3, .inl g3)), (qh 4, .inl (k 0, 3, .inl g4)), (qh 5, .inl (k 0, 525, .inl m207)), cell32_ qo so, cell0_ k qo so, cell1_ k qo so, cell4_ k qo so, cell3_ k qo so, cell2_ k qo so] := hD
            replace hw205 : (SUok m207) ∧ (m207 = J_X4_settle (up2 (up2 (up2 (up2 (up2 sh 0 (upd (upd (upd (upd (upd (upd (upd (upd (upd (sh 0) 0 (so 0 0)) 1 (so 0 1)) 6 (so 0 6)) 7 (so 0 7)) 8 (-9)) 9 (so 0 9)) 10 (so 0 10)) 11 (so 0 11)) 12 (so 0 12))) 1 g1) 2 g2) 3 g3) 4 g4)) := hw205
            obtain ⟨w208, w209⟩ := hw205
            have k211 : m207 = (J_X4_settle (up2 (up2 (up2 (up2 (up2 sh 0 (upd (upd (upd (upd (upd (upd (upd (upd (upd (sh 0) 0 (so 0 0)) 1 (so 0 1)) 6 (so 0 6)) 7 (so 0 7)) 8 (-9)) 9 (so 0 9)) 10 (so 0 10)) 11 (so 0 11)) 12 (so 0 12))) 1 g1) 2 g2) 3 g3) 4 g4)) := congrArg (fun z => z) w209
            have hlit212 : ((-9) : Int32).toInt = -9 := by decide
            rw [hQ]
            exact x_v cx hr ((so 0 0), (so 0 1), g1, g2, g3, g4, (so 0 6), (so 0 7), (-9), (so 0 9), (so 0 10), (so 0 11), (so 0 12), m207) hP hD hS ⟨(show 0 ≤ (so 0 0).toInt ∧ (so 0 0).toInt ≤ 5 from by omega), (show 0 ≤ (so 0 1).toInt ∧ (so 0 1).toInt ≤ 4 from by omega), (show 0 ≤ (so 0 12).toInt ∧ (so 0 12).toInt ≤ 5 from by omega), ag2, ag3, (show SUok m207 from by assumption), (show (so 0 0).toInt = (so 0 0).toInt from by omega), (show ((so 0 0), (so 0 1), g1, g2, g3, g4, (so 0 6), (so 0 7), ((-9) : Int32), (so 0 9), (so 0 10), (so 0 11), (so 0 12), m207) = J_X4_copy sh so p0 from by subst eg1 eg2 eg3 eg4 e5 e197 e199 e201 e203 k211; first | (refine Eq.symm ?_; refine Eq.trans (if_neg c6) ?_; refine Eq.trans (if_pos c198) ?_; refine Eq.trans (if_pos c200) ?_; refine Eq.trans (if_pos c202) ?_; refine Eq.trans (if_pos c204) ?_; rfl) | (unfold J_X4_copy; try dsimp only; rw [if_neg c6, if_pos c198, if_pos c200, if_pos c202, if_pos c204]))⟩ dX4_copy_188
          · have f204 : ¬ v203.toInt = 0 := f_ne rfl (by decide) c204
            refine lv_iconst (v := 0) hx hb dX4_copy_173 (by decide) ?_
            refine lv_goto (tgt := 181) hx hb dX4_copy_174 (by decide) ?_
            refine g_pt cx hP hD hS iw_X4_copy_X4 tyX4 tyX4_ok nmX4 0 rfl rfl 12 (by decide) rfl fw_X4_copy_63 (ty := .int) rfl rfl rfl (Nat.le_of_ble_eq_true rfl) dX4_copy_181 (fun H locs hP hD hS => ?_)
            have hP : va_P D vwCl [cell180_ qh so (-9) 0, (qh 1, .inl (k 0, 5, .inl g1)), (qh 2, .inl (k 0, 5, .inl g2)), (qh 3, .inl (k 0, 3, .inl g3)), (qh 4, .inl (k 0, 3, .inl g4)), cell2_ k qh sh, cell32_ qo so, cell0_ k qo so, cell1_ k qo so, cell4_ k qo so, cell3_ k qo so, cell2_ k qo so] H := hP
            have hD : va_D A [cell180_ qh so (-9) 0, (qh 1, .inl (k 0, 5, .inl g1)), (qh 2, .inl (k 0, 5, .inl g2)), (qh 3, .inl (k 0, 3, .inl g3)), (qh 4, .inl (k 0, 3, .inl g4)), cell2_ k qh sh, cell32_ qo so, cell0_ k qo so, cell1_ k qo so, cell4_ k qo so, cell3_ k qo so, cell2_ k qo so] := hD
            have hlit213 : (0 : Int32).toInt = 0 := by decide
            refine lv_aload_n hx hb dX4_copy_184 rfl (lv_at hl 0 rfl) ?_
            refine g_v (w1 := fun (u : (Nat → Int32)) => [cell180_ qh so (-9) 0, (qh 1, .inl (k 0, 5, .inl g1)), (qh 2, .inl (k 0, 5, .inl g2)), (qh 3, .inl (k 0, 3, .inl g3)), (qh 4, .inl (k 0, 3, .inl g4)), (qh 5, .inl (k 0, 525, .inl u))]) (g_runV (wc := [cell180_ qh so (-9) 0, (qh 1, .inl (k 0, 5, .inl g1)), (qh 2, .inl (k 0, 5, .inl g2)), (qh 3, .inl (k 0, 3, .inl g3)), (qh 4, .inl (k 0, 3, .inl g4)), cell2_ k qh sh]) (rest := []) cx hP hD hS [0, 1, 2, 3, 4, 5] rfl (by decide) [] (c_X4_settle l D k b qh (up2 (up2 (up2 (up2 (up2 sh 0 (upd (upd (upd (upd (upd (upd (upd (upd (upd (sh 0) 0 (so 0 0)) 1 (so 0 1)) 6 (so 0 6)) 7 (so 0 7)) 8 (-9)) 9 (so 0 9)) 10 (so 0 10)) 11 (so 0 11)) 12 0)) 1 g1) 2 g2) 3 g3) 4 g4) H.size (show 0 ≤ (0 : Int32).toInt ∧ (0 : Int32).toInt ≤ 5 from by first | decide | omega) ag3) gX4_copy_X4_settle rfl rfl rfl nd_X4_settle ⟨Nat.le_of_ble_eq_true rfl, Nat.le_of_ble_eq_true rfl⟩ (ci := 2) (q0 := 0) rfl rfl rfl hl.1 rfl (Nat.le_of_ble_eq_true rfl) ⟨Nat.zero_le _, Nat.zero_le _⟩ dX4_copy_185) cx.2.2.1 hP hD hS [0, 1, 2, 3, 4, 5] rfl (fun _ => rfl) (fun u215 H locs hw214 hP hD hS => ?_)
            obtain ⟨m216, rfl⟩ : ∃ z, z = u215 := ⟨_, rfl⟩
            have hP : va_P D vwCl [cell180_ qh so (-9) 0, (qh 1, .inl (k 0, 5, .inl g1)), (qh 2, .inl (k 0, 5, .inl g2)), (qh 3, .inl (k 0, 3, .inl g3)), (qh 4, .inl (k 0, 3, .inl g4)), (qh 5, .inl (k 0, 525, .inl m216)), cell32_ qo so, cell0_ k qo so, cell1_ k qo so, cell4_ k qo so, cell3_ k qo so, cell2_ k qo so] H := hP
            have hD : va_D A [cell180_ qh so (-9) 0, (qh 1, .inl (k 0, 5, .inl g1)), (qh 2, .inl (k 0, 5, .inl g2)), (qh 3, .inl (k 0, 3, .inl g3)), (qh 4, .inl (k 0, 3, .inl g4)), (qh 5, .inl (k 0, 525, .inl m216)), cell32_ qo so, cell0_ k qo so, cell1_ k qo so, cell4_ k qo so, cell3_ k qo so, cell2_ k qo so] := hD
            replace hw214 : (SUok m216) ∧ (m216 = J_X4_settle (up2 (up2 (up2 (up2 (up2 sh 0 (upd (upd (upd (upd (upd (upd (upd (upd (upd (sh 0) 0 (so 0 0)) 1 (so 0 1)) 6 (so 0 6)) 7 (so 0 7)) 8 (-9)) 9 (so 0 9)) 10 (so 0 10)) 11 (so 0 11)) 12 0)) 1 g1) 2 g2) 3 g3) 4 g4)) := hw214
            obtain ⟨w217, w218⟩ := hw214
            have k220 : m216 = (J_X4_settle (up2 (up2 (up2 (up2 (up2 sh 0 (upd (upd (upd (upd (upd (upd (upd (upd (upd (sh 0) 0 (so 0 0)) 1 (so 0 1)) 6 (so 0 6)) 7 (so 0 7)) 8 (-9)) 9 (so 0 9)) 10 (so 0 10)) 11 (so 0 11)) 12 0)) 1 g1) 2 g2) 3 g3) 4 g4)) := congrArg (fun z => z) w218
            have hlit221 : ((-9) : Int32).toInt = -9 := by decide
            have hlit222 : (0 : Int32).toInt = 0 := by decide
            rw [hQ]
            exact x_v cx hr ((so 0 0), (so 0 1), g1, g2, g3, g4, (so 0 6), (so 0 7), (-9), (so 0 9), (so 0 10), (so 0 11), 0, m216) hP hD hS ⟨(show 0 ≤ (so 0 0).toInt ∧ (so 0 0).toInt ≤ 5 from by omega), (show 0 ≤ (so 0 1).toInt ∧ (so 0 1).toInt ≤ 4 from by omega), (show 0 ≤ (0 : Int32).toInt ∧ (0 : Int32).toInt ≤ 5 from by omega), ag2, ag3, (show SUok m216 from by assumption), (show (so 0 0).toInt = (so 0 0).toInt from by omega), (show ((so 0 0), (so 0 1), g1, g2, g3, g4, (so 0 6), (so 0 7), ((-9) : Int32), (so 0 9), (so 0 10), (so 0 11), (0 : Int32), m216) = J_X4_copy sh so p0 from by subst eg1 eg2 eg3 eg4 e5 e197 e199 e201 e203 k220; first | (refine Eq.symm ?_; refine Eq.trans (if_neg c6) ?_; refine Eq.trans (if_pos c198) ?_; refine Eq.trans (if_pos c200) ?_; refine Eq.trans (if_pos c202) ?_; refine Eq.trans (if_neg c204) ?_; rfl) | (unfold J_X4_copy; try dsimp only; rw [if_neg c6, if_pos c198, if_pos c200, if_pos c202, if_neg c204]))⟩ dX4_copy_188
        · have f202 : ¬ v201.toInt = 0 := f_ne rfl (by decide) c202
          refine lv_bipush (v := (-9)) hx hb dX4_copy_153 (by decide) ?_
          refine lv_goto (tgt := 162) hx hb dX4_copy_155 (by decide) ?_
          refine g_pt cx hP hD hS iw_X4_copy_X4 tyX4 tyX4_ok nmX4 0 rfl rfl 11 (by decide) rfl fw_X4_copy_60 (ty := .int) rfl rfl rfl (Nat.le_of_ble_eq_true rfl) dX4_copy_162 (fun H locs hP hD hS => ?_)
          have hP : va_P D vwCl [(qh 0, .inr (2, [.int (so 0 0), .int (so 0 1), .ref (qh 1), .ref (qh 2), .ref (qh 3), .ref (qh 4), .int (so 0 6), .int (so 0 7), .int (-9), .int (so 0 9), .int (so 0 10), .int (-9), .int (sh 0 12), .ref (qh 5)])), (qh 1, .inl (k 0, 5, .inl g1)), (qh 2, .inl (k 0, 5, .inl g2)), (qh 3, .inl (k 0, 3, .inl g3)), (qh 4, .inl (k 0, 3, .inl g4)), cell2_ k qh sh, cell32_ qo so, cell0_ k qo so, cell1_ k qo so, cell4_ k qo so, cell3_ k qo so, cell2_ k qo so] H := hP
          have hD : va_D A [(qh 0, .inr (2, [.int (so 0 0), .int (so 0 1), .ref (qh 1), .ref (qh 2), .ref (qh 3), .ref (qh 4), .int (so 0 6), .int (so 0 7), .int (-9), .int (so 0 9), .int (so 0 10), .int (-9), .int (sh 0 12), .ref (qh 5)])), (qh 1, .inl (k 0, 5, .inl g1)), (qh 2, .inl (k 0, 5, .inl g2)), (qh 3, .inl (k 0, 3, .inl g3)), (qh 4, .inl (k 0, 3, .inl g4)), cell2_ k qh sh, cell32_ qo so, cell0_ k qo so, cell1_ k qo so, cell4_ k qo so, cell3_ k qo so, cell2_ k qo so] := hD
          have hlit223 : ((-9) : Int32).toInt = -9 := by decide
          refine lv_aload_n hx hb dX4_copy_165 rfl (lv_at hl 0 rfl) ?_
          refine lv_iload_n hx hb dX4_copy_166 rfl (lv_at hl 2 rfl) ?_
          refine lv_bipush (v := 8) hx hb dX4_copy_167 (by decide) ?_
          refine lv_iand hx hb dX4_copy_169 (lv_topi (fun v224 e224 => ?_))
          have t224 : 0 ≤ v224.toInt ∧ v224.toInt ≤ 8 := by rw [e224]; exact and_r (by decide) (by omega)
          refine lv_if_eq (tgt := 177) hx hb dX4_copy_170 (by decide) (fun c225 => ?_) (fun c225 => ?_)
          · have f225 : v224.toInt = 0 := f_eq rfl (by decide) c225
            refine lv_aload_n hx hb dX4_copy_177 rfl (lv_at hl 1 rfl) ?_
            refine g_get cx hP iw_X4_copy_X4 6 rfl rfl 12 (by decide) rfl fw_X4_copy_63 rfl dX4_copy_178 ?_
            refine g_pt cx hP hD hS iw_X4_copy_X4 tyX4 tyX4_ok nmX4 0 rfl rfl 12 (by decide) rfl fw_X4_copy_63 (ty := .int) rfl rfl rfl (Nat.le_of_ble_eq_true rfl) dX4_copy_181 (fun H locs hP hD hS => ?_)
            have hP : va_P D vwCl [cell181_ qh so (-9) (-9), (qh 1, .inl (k 0, 5, .inl g1)), (qh 2, .inl (k 0, 5, .inl g2)), (qh 3, .inl (k 0, 3, .inl g3)), (qh 4, .inl (k 0, 3, .inl g4)), cell2_ k qh sh, cell32_ qo so, cell0_ k qo so, cell1_ k qo so, cell4_ k qo so, cell3_ k qo so, cell2_ k qo so] H := hP
            have hD : va_D A [cell181_ qh so (-9) (-9), (qh 1, .inl (k 0, 5, .inl g1)), (qh 2, .inl (k 0, 5, .inl g2)), (qh 3, .inl (k 0, 3, .inl g3)), (qh 4, .inl (k 0, 3, .inl g4)), cell2_ k qh sh, cell32_ qo so, cell0_ k qo so, cell1_ k qo so, cell4_ k qo so, cell3_ k qo so, cell2_ k qo so] := hD
            refine lv_aload_n hx hb dX4_copy_184 rfl (lv_at hl 0 rfl) ?_
            refine g_v (w1 := fun (u : (Nat → Int32)) => [cell181_ qh so (-9) (-9), (qh 1, .inl (k 0, 5, .inl g1)), (qh 2, .inl (k 0, 5, .inl g2)), (qh 3, .inl (k 0, 3, .inl g3)), (qh 4, .inl (k 0, 3, .inl g4)), (qh 5, .inl (k 0, 525, .inl u))]) (g_runV (wc := [cell181_ qh so (-9) (-9), (qh 1, .inl (k 0, 5, .inl g1)), (qh 2, .inl (k 0, 5, .inl g2)), (qh 3, .inl (k 0, 3, .inl g3)), (qh 4, .inl (k 0, 3, .inl g4)), cell2_ k qh sh]) (rest := []) cx hP hD hS [0, 1, 2, 3, 4, 5] rfl (by decide) [] (c_X4_settle l D k b qh (up2 (up2 (up2 (up2 (up2 sh 0 (upd (upd (upd (upd (upd (upd (upd (upd (upd (sh 0) 0 (so 0 0)) 1 (so 0 1)) 6 (so 0 6)) 7 (so 0 7)) 8 (-9)) 9 (so 0 9)) 10 (so 0 10)) 11 (-9)) 12 (so 0 12))) 1 g1) 2 g2) 3 g3) 4 g4) H.size (show 0 ≤ (so 0 12).toInt ∧ (so 0 12).toInt ≤ 5 from by first | decide | omega) ag3) gX4_copy_X4_settle rfl rfl rfl nd_X4_settle ⟨Nat.le_of_ble_eq_true rfl, Nat.le_of_ble_eq_true rfl⟩ (ci := 2) (q0 := 0) rfl rfl rfl hl.1 rfl (Nat.le_of_ble_eq_true rfl) ⟨Nat.zero_le _, Nat.zero_le _⟩ dX4_copy_185) cx.2.2.1 hP hD hS [0, 1, 2, 3, 4, 5] rfl (fun _ => rfl) (fun u227 H locs hw226 hP hD hS => ?_)
            obtain ⟨m228, rfl⟩ : ∃ z, z = u227 := ⟨_, rfl⟩
            have hP : va_P D vwCl [cell181_ qh so (-9) (-9), (qh 1, .inl (k 0, 5, .inl g1)), (qh 2, .inl (k 0, 5, .inl g2)), (qh 3, .inl (k 0, 3, .inl g3)), (qh 4, .inl (k 0, 3, .inl g4)), (qh 5, .inl (k 0, 525, .inl m228)), cell32_ qo so, cell0_ k qo so, cell1_ k qo so, cell4_ k qo so, cell3_ k qo so, cell2_ k qo so] H := hP
            have hD : va_D A [cell181_ qh so (-9) (-9), (qh 1, .inl (k 0, 5, .inl g1)), (qh 2, .inl (k 0, 5, .inl g2)), (qh 3, .inl (k 0, 3, .inl g3)), (qh 4, .inl (k 0, 3, .inl g4)), (qh 5, .inl (k 0, 525, .inl m228)), cell32_ qo so, cell0_ k qo so, cell1_ k qo so, cell4_ k qo so, cell3_ k qo so, cell2_ k qo so] := hD
            replace hw226 : (SUok m228) ∧ (m228 = J_X4_settle (up2 (up2 (up2 (up2 (up2 sh 0 (upd (upd (upd (upd (upd (upd (upd (upd (upd (sh 0) 0 (so 0 0)) 1 (so 0 1)) 6 (so 0 6)) 7 (so 0 7)) 8 (-9)) 9 (so 0 9)) 10 (so 0 10)) 11 (-9)) 12 (so 0 12))) 1 g1) 2 g2) 3 g3) 4 g4)) := hw226
            obtain ⟨w229, w230⟩ := hw226
            have k232 : m228 = (J_X4_settle (up2 (up2 (up2 (up2 (up2 sh 0 (upd (upd (upd (upd (upd (upd (upd (upd (upd (sh 0) 0 (so 0 0)) 1 (so 0 1)) 6 (so 0 6)) 7 (so 0 7)) 8 (-9)) 9 (so 0 9)) 10 (so 0 10)) 11 (-9)) 12 (so 0 12))) 1 g1) 2 g2) 3 g3) 4 g4)) := congrArg (fun z => z) w230
            have hlit233 : ((-9) : Int32).toInt = -9 := by decide
            have hlit234 : ((-9) : Int32).toInt = -9 := by decide
            rw [hQ]
            exact x_v cx hr ((so 0 0), (so 0 1), g1, g2, g3, g4, (so 0 6), (so 0 7), (-9), (so 0 9), (so 0 10), (-9), (so 0 12), m228) hP hD hS ⟨(show 0 ≤ (so 0 0).toInt ∧ (so 0 0).toInt ≤ 5 from by omega), (show 0 ≤ (so 0 1).toInt ∧ (so 0 1).toInt ≤ 4 from by omega), (show 0 ≤ (so 0 12).toInt ∧ (so 0 12).toInt ≤ 5 from by omega), ag2, ag3, (show SUok m228 from by assumption), (show (so 0 0).toInt = (so 0 0).toInt from by omega), (show ((so 0 0), (so 0 1), g1, g2, g3, g4, (so 0 6), (so 0 7), ((-9) : Int32), (so 0 9), (so 0 10), ((-9) : Int32), (so 0 12), m228) = J_X4_copy sh so p0 from by subst eg1 eg2 eg3 eg4 e5 e197 e199 e201 e224 k232; first | (refine Eq.symm ?_; refine Eq.trans (if_neg c6) ?_; refine Eq.trans (if_pos c198) ?_; refine Eq.trans (if_pos c200) ?_; refine Eq.trans (if_neg c202) ?_; refine Eq.trans (if_pos c225) ?_; rfl) | (unfold J_X4_copy; try dsimp only; rw [if_neg c6, if_pos c198, if_pos c200, if_neg c202, if_pos c225]))⟩ dX4_copy_188
          · have f225 : ¬ v224.toInt = 0 := f_ne rfl (by decide) c225
            refine lv_iconst (v := 0) hx hb dX4_copy_173 (by decide) ?_
            refine lv_goto (tgt := 181) hx hb dX4_copy_174 (by decide) ?_
            refine g_pt cx hP hD hS iw_X4_copy_X4 tyX4 tyX4_ok nmX4 0 rfl rfl 12 (by decide) rfl fw_X4_copy_63 (ty := .int) rfl rfl rfl (Nat.le_of_ble_eq_true rfl) dX4_copy_181 (fun H locs hP hD hS => ?_)
            have hP : va_P D vwCl [cell182_ qh so (-9) (-9) 0, (qh 1, .inl (k 0, 5, .inl g1)), (qh 2, .inl (k 0, 5, .inl g2)), (qh 3, .inl (k 0, 3, .inl g3)), (qh 4, .inl (k 0, 3, .inl g4)), cell2_ k qh sh, cell32_ qo so, cell0_ k qo so, cell1_ k qo so, cell4_ k qo so, cell3_ k qo so, cell2_ k qo so] H := hP
            have hD : va_D A [cell182_ qh so (-9) (-9) 0, (qh 1, .inl (k 0, 5, .inl g1)), (qh 2, .inl (k 0, 5, .inl g2)), (qh 3, .inl (k 0, 3, .inl g3)), (qh 4, .inl (k 0, 3, .inl g4)), cell2_ k qh sh, cell32_ qo so, cell0_ k qo so, cell1_ k qo so, cell4_ k qo so, cell3_ k qo so, cell2_ k qo so] := hD
            have hlit235 : (0 : Int32).toInt = 0 := by decide
            refine lv_aload_n hx hb dX4_copy_184 rfl (lv_at hl 0 rfl) ?_
            refine g_v (w1 := fun (u : (Nat → Int32)) => [cell182_ qh so (-9) (-9) 0, (qh 1, .inl (k 0, 5, .inl g1)), (qh 2, .inl (k 0, 5, .inl g2)), (qh 3, .inl (k 0, 3, .inl g3)), (qh 4, .inl (k 0, 3, .inl g4)), (qh 5, .inl (k 0, 525, .inl u))]) (g_runV (wc := [cell182_ qh so (-9) (-9) 0, (qh 1, .inl (k 0, 5, .inl g1)), (qh 2, .inl (k 0, 5, .inl g2)), (qh 3, .inl (k 0, 3, .inl g3)), (qh 4, .inl (k 0, 3, .inl g4)), cell2_ k qh sh]) (rest := []) cx hP hD hS [0, 1, 2, 3, 4, 5] rfl (by decide) [] (c_X4_settle l D k b qh (up2 (up2 (up2 (up2 (up2 sh 0 (upd (upd (upd (upd (upd (upd (upd (upd (upd (sh 0) 0 (so 0 0)) 1 (so 0 1)) 6 (so 0 6)) 7 (so 0 7)) 8 (-9)) 9 (so 0 9)) 10 (so 0 10)) 11 (-9)) 12 0)) 1 g1) 2 g2) 3 g3) 4 g4) H.size (show 0 ≤ (0 : Int32).toInt ∧ (0 : Int32).toInt ≤ 5 from by first | decide | omega) ag3) gX4_copy_X4_settle rfl rfl rfl nd_X4_settle ⟨Nat.le_of_ble_eq_true rfl, Nat.le_of_ble_eq_true rfl⟩ (ci := 2) (q0 := 0) rfl rfl rfl hl.1 rfl (Nat.le_of_ble_eq_true rfl) ⟨Nat.zero_le _, Nat.zero_le _⟩ dX4_copy_185) cx.2.2.1 hP hD hS [0, 1, 2, 3, 4, 5] rfl (fun _ => rfl) (fun u237 H locs hw236 hP hD hS => ?_)
            obtain ⟨m238, rfl⟩ : ∃ z, z = u237 := ⟨_, rfl⟩
            have hP : va_P D vwCl [cell182_ qh so (-9) (-9) 0, (qh 1, .inl (k 0, 5, .inl g1)), (qh 2, .inl (k 0, 5, .inl g2)), (qh 3, .inl (k 0, 3, .inl g3)), (qh 4, .inl (k 0, 3, .inl g4)), (qh 5, .inl (k 0, 525, .inl m238)), cell32_ qo so, cell0_ k qo so, cell1_ k qo so, cell4_ k qo so, cell3_ k qo so, cell2_ k qo so] H := hP
            have hD : va_D A [cell182_ qh so (-9) (-9) 0, (qh 1, .inl (k 0, 5, .inl g1)), (qh 2, .inl (k 0, 5, .inl g2)), (qh 3, .inl (k 0, 3, .inl g3)), (qh 4, .inl (k 0, 3, .inl g4)), (qh 5, .inl (k 0, 525, .inl m238)), cell32_ qo so, cell0_ k qo so, cell1_ k qo so, cell4_ k qo so, cell3_ k qo so, cell2_ k qo so] := hD
            replace hw236 : (SUok m238) ∧ (m238 = J_X4_settle (up2 (up2 (up2 (up2 (up2 sh 0 (upd (upd (upd (upd (upd (upd (upd (upd (upd (sh 0) 0 (so 0 0)) 1 (so 0 1)) 6 (so 0 6)) 7 (so 0 7)) 8 (-9)) 9 (so 0 9)) 10 (so 0 10)) 11 (-9)) 12 0)) 1 g1) 2 g2) 3 g3) 4 g4)) := hw236
            obtain ⟨w239, w240⟩ := hw236
            have k242 : m238 = (J_X4_settle (up2 (up2 (up2 (up2 (up2 sh 0 (upd (upd (upd (upd (upd (upd (upd (upd (upd (sh 0) 0 (so 0 0)) 1 (so 0 1)) 6 (so 0 6)) 7 (so 0 7)) 8 (-9)) 9 (so 0 9)) 10 (so 0 10)) 11 (-9)) 12 0)) 1 g1) 2 g2) 3 g3) 4 g4)) := congrArg (fun z => z) w240
            have hlit243 : ((-9) : Int32).toInt = -9 := by decide
            have hlit244 : ((-9) : Int32).toInt = -9 := by decide
            have hlit245 : (0 : Int32).toInt = 0 := by decide
            rw [hQ]
            exact x_v cx hr ((so 0 0), (so 0 1), g1, g2, g3, g4, (so 0 6), (so 0 7), (-9), (so 0 9), (so 0 10), (-9), 0, m238) hP hD hS ⟨(show 0 ≤ (so 0 0).toInt ∧ (so 0 0).toInt ≤ 5 from by omega), (show 0 ≤ (so 0 1).toInt ∧ (so 0 1).toInt ≤ 4 from by omega), (show 0 ≤ (0 : Int32).toInt ∧ (0 : Int32).toInt ≤ 5 from by omega), ag2, ag3, (show SUok m238 from by assumption), (show (so 0 0).toInt = (so 0 0).toInt from by omega), (show ((so 0 0), (so 0 1), g1, g2, g3, g4, (so 0 6), (so 0 7), ((-9) : Int32), (so 0 9), (so 0 10), ((-9) : Int32), (0 : Int32), m238) = J_X4_copy sh so p0 from by subst eg1 eg2 eg3 eg4 e5 e197 e199 e201 e224 k242; first | (refine Eq.symm ?_; refine Eq.trans (if_neg c6) ?_; refine Eq.trans (if_pos c198) ?_; refine Eq.trans (if_pos c200) ?_; refine Eq.trans (if_neg c202) ?_; refine Eq.trans (if_neg c225) ?_; rfl) | (unfold J_X4_copy; try dsimp only; rw [if_neg c6, if_pos c198, if_pos c200, if_neg c202, if_neg c225]))⟩ dX4_copy_188
      · have f200 : ¬ v199.toInt = 0 := f_ne rfl (by decide) c200
        refine lv_bipush (v := (-9)) hx hb dX4_copy_133 (by decide) ?_
        refine lv_goto (tgt := 142) hx hb dX4_copy_135 (by decide) ?_
        refine g_pt cx hP hD hS iw_X4_copy_X4 tyX4 tyX4_ok nmX4 0 rfl rfl 10 (by decide) rfl fw_X4_copy_57 (ty := .int) rfl rfl rfl (Nat.le_of_ble_eq_true rfl) dX4_copy_142 (fun H locs hP hD hS => ?_)
        have hP : va_P D vwCl [(qh 0, .inr (2, [.int (so 0 0), .int (so 0 1), .ref (qh 1), .ref (qh 2), .ref (qh 3), .ref (qh 4), .int (so 0 6), .int (so 0 7), .int (-9), .int (so 0 9), .int (-9), .int (sh 0 11), .int (sh 0 12), .ref (qh 5)])), (qh 1, .inl (k 0, 5, .inl g1)), (qh 2, .inl (k 0, 5, .inl g2)), (qh 3, .inl (k 0, 3, .inl g3)), (qh 4, .inl (k 0, 3, .inl g4)), cell2_ k qh sh, cell32_ qo so, cell0_ k qo so, cell1_ k qo so, cell4_ k qo so, cell3_ k qo so, cell2_ k qo so] H := hP
        have hD : va_D A [(qh 0, .inr (2, [.int (so 0 0), .int (so 0 1), .ref (qh 1), .ref (qh 2), .ref (qh 3), .ref (qh 4), .int (so 0 6), .int (so 0 7), .int (-9), .int (so 0 9), .int (-9), .int (sh 0 11), .int (sh 0 12), .ref (qh 5)])), (qh 1, .inl (k 0, 5, .inl g1)), (qh 2, .inl (k 0, 5, .inl g2)), (qh 3, .inl (k 0, 3, .inl g3)), (qh 4, .inl (k 0, 3, .inl g4)), cell2_ k qh sh, cell32_ qo so, cell0_ k qo so, cell1_ k qo so, cell4_ k qo so, cell3_ k qo so, cell2_ k qo so] := hD
        have hlit246 : ((-9) : Int32).toInt = -9 := by decide
        refine lv_aload_n hx hb dX4_copy_145 rfl (lv_at hl 0 rfl) ?_
        refine lv_iload_n hx hb dX4_copy_146 rfl (lv_at hl 2 rfl) ?_
        refine lv_bipush (v := 8) hx hb dX4_copy_147 (by decide) ?_
        refine lv_iand hx hb dX4_copy_149 (lv_topi (fun v247 e247 => ?_))
        have t247 : 0 ≤ v247.toInt ∧ v247.toInt ≤ 8 := by rw [e247]; exact and_r (by decide) (by omega)
        refine lv_if_eq (tgt := 158) hx hb dX4_copy_150 (by decide) (fun c248 => ?_) (fun c248 => ?_)
        · have f248 : v247.toInt = 0 := f_eq rfl (by decide) c248
          refine lv_aload_n hx hb dX4_copy_158 rfl (lv_at hl 1 rfl) ?_
          refine g_get cx hP iw_X4_copy_X4 6 rfl rfl 11 (by decide) rfl fw_X4_copy_60 rfl dX4_copy_159 ?_
          refine g_pt cx hP hD hS iw_X4_copy_X4 tyX4 tyX4_ok nmX4 0 rfl rfl 11 (by decide) rfl fw_X4_copy_60 (ty := .int) rfl rfl rfl (Nat.le_of_ble_eq_true rfl) dX4_copy_162 (fun H locs hP hD hS => ?_)
          have hP : va_P D vwCl [(qh 0, .inr (2, [.int (so 0 0), .int (so 0 1), .ref (qh 1), .ref (qh 2), .ref (qh 3), .ref (qh 4), .int (so 0 6), .int (so 0 7), .int (-9), .int (so 0 9), .int (-9), .int (so 0 11), .int (sh 0 12), .ref (qh 5)])), (qh 1, .inl (k 0, 5, .inl g1)), (qh 2, .inl (k 0, 5, .inl g2)), (qh 3, .inl (k 0, 3, .inl g3)), (qh 4, .inl (k 0, 3, .inl g4)), cell2_ k qh sh, cell32_ qo so, cell0_ k qo so, cell1_ k qo so, cell4_ k qo so, cell3_ k qo so, cell2_ k qo so] H := hP
          have hD : va_D A [(qh 0, .inr (2, [.int (so 0 0), .int (so 0 1), .ref (qh 1), .ref (qh 2), .ref (qh 3), .ref (qh 4), .int (so 0 6), .int (so 0 7), .int (-9), .int (so 0 9), .int (-9), .int (so 0 11), .int (sh 0 12), .ref (qh 5)])), (qh 1, .inl (k 0, 5, .inl g1)), (qh 2, .inl (k 0, 5, .inl g2)), (qh 3, .inl (k 0, 3, .inl g3)), (qh 4, .inl (k 0, 3, .inl g4)), cell2_ k qh sh, cell32_ qo so, cell0_ k qo so, cell1_ k qo so, cell4_ k qo so, cell3_ k qo so, cell2_ k qo so] := hD
          refine lv_aload_n hx hb dX4_copy_165 rfl (lv_at hl 0 rfl) ?_
          refine lv_iload_n hx hb dX4_copy_166 rfl (lv_at hl 2 rfl) ?_
          refine lv_bipush (v := 8) hx hb dX4_copy_167 (by decide) ?_
          refine lv_iand hx hb dX4_copy_169 (lv_topi (fun v249 e249 => ?_))
          have t249 : 0 ≤ v249.toInt ∧ v249.toInt ≤ 8 := by rw [e249]; exact and_r (by decide) (by omega)
          refine lv_if_eq (tgt := 177) hx hb dX4_copy_170 (by decide) (fun c250 => ?_) (fun c250 => ?_)
          · have f250 : v249.toInt = 0 := f_eq rfl (by decide) c250
            refine lv_aload_n hx hb dX4_copy_177 rfl (lv_at hl 1 rfl) ?_
            refine g_get cx hP iw_X4_copy_X4 6 rfl rfl 12 (by decide) rfl fw_X4_copy_63 rfl dX4_copy_178 ?_
            refine g_pt cx hP hD hS iw_X4_copy_X4 tyX4 tyX4_ok nmX4 0 rfl rfl 12 (by decide) rfl fw_X4_copy_63 (ty := .int) rfl rfl rfl (Nat.le_of_ble_eq_true rfl) dX4_copy_181 (fun H locs hP hD hS => ?_)
            have hP : va_P D vwCl [cell183_ qh so (-9) (-9), (qh 1, .inl (k 0, 5, .inl g1)), (qh 2, .inl (k 0, 5, .inl g2)), (qh 3, .inl (k 0, 3, .inl g3)), (qh 4, .inl (k 0, 3, .inl g4)), cell2_ k qh sh, cell32_ qo so, cell0_ k qo so, cell1_ k qo so, cell4_ k qo so, cell3_ k qo so, cell2_ k qo so] H := hP
            have hD : va_D A [cell183_ qh so (-9) (-9), (qh 1, .inl (k 0, 5, .inl g1)), (qh 2, .inl (k 0, 5, .inl g2)), (qh 3, .inl (k 0, 3, .inl g3)), (qh 4, .inl (k 0, 3, .inl g4)), cell2_ k qh sh, cell32_ qo so, cell0_ k qo so, cell1_ k qo so, cell4_ k qo so, cell3_ k qo so, cell2_ k qo so] := hD
            refine lv_aload_n hx hb dX4_copy_184 rfl (lv_at hl 0 rfl) ?_
            refine g_v (w1 := fun (u : (Nat → Int32)) => [cell183_ qh so (-9) (-9), (qh 1, .inl (k 0, 5, .inl g1)), (qh 2, .inl (k 0, 5, .inl g2)), (qh 3, .inl (k 0, 3, .inl g3)), (qh 4, .inl (k 0, 3, .inl g4)), (qh 5, .inl (k 0, 525, .inl u))]) (g_runV (wc := [cell183_ qh so (-9) (-9), (qh 1, .inl (k 0, 5, .inl g1)), (qh 2, .inl (k 0, 5, .inl g2)), (qh 3, .inl (k 0, 3, .inl g3)), (qh 4, .inl (k 0, 3, .inl g4)), cell2_ k qh sh]) (rest := []) cx hP hD hS [0, 1, 2, 3, 4, 5] rfl (by decide) [] (c_X4_settle l D k b qh (up2 (up2 (up2 (up2 (up2 sh 0 (upd (upd (upd (upd (upd (upd (upd (upd (upd (sh 0) 0 (so 0 0)) 1 (so 0 1)) 6 (so 0 6)) 7 (so 0 7)) 8 (-9)) 9 (so 0 9)) 10 (-9)) 11 (so 0 11)) 12 (so 0 12))) 1 g1) 2 g2) 3 g3) 4 g4) H.size (show 0 ≤ (so 0 12).toInt ∧ (so 0 12).toInt ≤ 5 from by first | decide | omega) ag3) gX4_copy_X4_settle rfl rfl rfl nd_X4_settle ⟨Nat.le_of_ble_eq_true rfl, Nat.le_of_ble_eq_true rfl⟩ (ci := 2) (q0 := 0) rfl rfl rfl hl.1 rfl (Nat.le_of_ble_eq_true rfl) ⟨Nat.zero_le _, Nat.zero_le _⟩ dX4_copy_185) cx.2.2.1 hP hD hS [0, 1, 2, 3, 4, 5] rfl (fun _ => rfl) (fun u252 H locs hw251 hP hD hS => ?_)
            obtain ⟨m253, rfl⟩ : ∃ z, z = u252 := ⟨_, rfl⟩
            have hP : va_P D vwCl [cell183_ qh so (-9) (-9), (qh 1, .inl (k 0, 5, .inl g1)), (qh 2, .inl (k 0, 5, .inl g2)), (qh 3, .inl (k 0, 3, .inl g3)), (qh 4, .inl (k 0, 3, .inl g4)), (qh 5, .inl (k 0, 525, .inl m253)), cell32_ qo so, cell0_ k qo so, cell1_ k qo so, cell4_ k qo so, cell3_ k qo so, cell2_ k qo so] H := hP
            have hD : va_D A [cell183_ qh so (-9) (-9), (qh 1, .inl (k 0, 5, .inl g1)), (qh 2, .inl (k 0, 5, .inl g2)), (qh 3, .inl (k 0, 3, .inl g3)), (qh 4, .inl (k 0, 3, .inl g4)), (qh 5, .inl (k 0, 525, .inl m253)), cell32_ qo so, cell0_ k qo so, cell1_ k qo so, cell4_ k qo so, cell3_ k qo so, cell2_ k qo so] := hD
            replace hw251 : (SUok m253) ∧ (m253 = J_X4_settle (up2 (up2 (up2 (up2 (up2 sh 0 (upd (upd (upd (upd (upd (upd (upd (upd (upd (sh 0) 0 (so 0 0)) 1 (so 0 1)) 6 (so 0 6)) 7 (so 0 7)) 8 (-9)) 9 (so 0 9)) 10 (-9)) 11 (so 0 11)) 12 (so 0 12))) 1 g1) 2 g2) 3 g3) 4 g4)) := hw251
            obtain ⟨w254, w255⟩ := hw251
            have k257 : m253 = (J_X4_settle (up2 (up2 (up2 (up2 (up2 sh 0 (upd (upd (upd (upd (upd (upd (upd (upd (upd (sh 0) 0 (so 0 0)) 1 (so 0 1)) 6 (so 0 6)) 7 (so 0 7)) 8 (-9)) 9 (so 0 9)) 10 (-9)) 11 (so 0 11)) 12 (so 0 12))) 1 g1) 2 g2) 3 g3) 4 g4)) := congrArg (fun z => z) w255
            have hlit258 : ((-9) : Int32).toInt = -9 := by decide
            have hlit259 : ((-9) : Int32).toInt = -9 := by decide
            rw [hQ]
            exact x_v cx hr ((so 0 0), (so 0 1), g1, g2, g3, g4, (so 0 6), (so 0 7), (-9), (so 0 9), (-9), (so 0 11), (so 0 12), m253) hP hD hS ⟨(show 0 ≤ (so 0 0).toInt ∧ (so 0 0).toInt ≤ 5 from by omega), (show 0 ≤ (so 0 1).toInt ∧ (so 0 1).toInt ≤ 4 from by omega), (show 0 ≤ (so 0 12).toInt ∧ (so 0 12).toInt ≤ 5 from by omega), ag2, ag3, (show SUok m253 from by assumption), (show (so 0 0).toInt = (so 0 0).toInt from by omega), (show ((so 0 0), (so 0 1), g1, g2, g3, g4, (so 0 6), (so 0 7), ((-9) : Int32), (so 0 9), ((-9) : Int32), (so 0 11), (so 0 12), m253) = J_X4_copy sh so p0 from by subst eg1 eg2 eg3 eg4 e5 e197 e199 e247 e249 k257; first | (refine Eq.symm ?_; refine Eq.trans (if_neg c6) ?_; refine Eq.trans (if_pos c198) ?_; refine Eq.trans (if_neg c200) ?_; refine Eq.trans (if_pos c248) ?_; refine Eq.trans (if_pos c250) ?_; rfl) | (unfold J_X4_copy; try dsimp only; rw [if_neg c6, if_pos c198, if_neg c200, if_pos c248, if_pos c250]))⟩ dX4_copy_188
          · have f250 : ¬ v249.toInt = 0 := f_ne rfl (by decide) c250
            refine lv_iconst (v := 0) hx hb dX4_copy_173 (by decide) ?_
            refine lv_goto (tgt := 181) hx hb dX4_copy_174 (by decide) ?_
            refine g_pt cx hP hD hS iw_X4_copy_X4 tyX4 tyX4_ok nmX4 0 rfl rfl 12 (by decide) rfl fw_X4_copy_63 (ty := .int) rfl rfl rfl (Nat.le_of_ble_eq_true rfl) dX4_copy_181 (fun H locs hP hD hS => ?_)
            have hP : va_P D vwCl [cell184_ qh so (-9) (-9) 0, (qh 1, .inl (k 0, 5, .inl g1)), (qh 2, .inl (k 0, 5, .inl g2)), (qh 3, .inl (k 0, 3, .inl g3)), (qh 4, .inl (k 0, 3, .inl g4)), cell2_ k qh sh, cell32_ qo so, cell0_ k qo so, cell1_ k qo so, cell4_ k qo so, cell3_ k qo so, cell2_ k qo so] H := hP
            have hD : va_D A [cell184_ qh so (-9) (-9) 0, (qh 1, .inl (k 0, 5, .inl g1)), (qh 2, .inl (k 0, 5, .inl g2)), (qh 3, .inl (k 0, 3, .inl g3)), (qh 4, .inl (k 0, 3, .inl g4)), cell2_ k qh sh, cell32_ qo so, cell0_ k qo so, cell1_ k qo so, cell4_ k qo so, cell3_ k qo so, cell2_ k qo so] := hD
            have hlit260 : (0 : Int32).toInt = 0 := by decide
            refine lv_aload_n hx hb dX4_copy_184 rfl (lv_at hl 0 rfl) ?_
            refine g_v (w1 := fun (u : (Nat → Int32)) => [cell184_ qh so (-9) (-9) 0, (qh 1, .inl (k 0, 5, .inl g1)), (qh 2, .inl (k 0, 5, .inl g2)), (qh 3, .inl (k 0, 3, .inl g3)), (qh 4, .inl (k 0, 3, .inl g4)), (qh 5, .inl (k 0, 525, .inl u))]) (g_runV (wc := [cell184_ qh so (-9) (-9) 0, (qh 1, .inl (k 0, 5, .inl g1)), (qh 2, .inl (k 0, 5, .inl g2)), (qh 3, .inl (k 0, 3, .inl g3)), (qh 4, .inl (k 0, 3, .inl g4)), cell2_ k qh sh]) (rest := []) cx hP hD hS [0, 1, 2, 3, 4, 5] rfl (by decide) [] (c_X4_settle l D k b qh (up2 (up2 (up2 (up2 (up2 sh 0 (upd (upd (upd (upd (upd (upd (upd (upd (upd (sh 0) 0 (so 0 0)) 1 (so 0 1)) 6 (so 0 6)) 7 (so 0 7)) 8 (-9)) 9 (so 0 9)) 10 (-9)) 11 (so 0 11)) 12 0)) 1 g1) 2 g2) 3 g3) 4 g4) H.size (show 0 ≤ (0 : Int32).toInt ∧ (0 : Int32).toInt ≤ 5 from by first | decide | omega) ag3) gX4_copy_X4_settle rfl rfl rfl nd_X4_settle ⟨Nat.le_of_ble_eq_true rfl, Nat.le_of_ble_eq_true rfl⟩ (ci := 2) (q0 := 0) rfl rfl rfl hl.1 rfl (Nat.le_of_ble_eq_true rfl) ⟨Nat.zero_le _, Nat.zero_le _⟩ dX4_copy_185) cx.2.2.1 hP hD hS [0, 1, 2, 3, 4, 5] rfl (fun _ => rfl) (fun u262 H locs hw261 hP hD hS => ?_)
            obtain ⟨m263, rfl⟩ : ∃ z, z = u262 := ⟨_, rfl⟩
            have hP : va_P D vwCl [cell184_ qh so (-9) (-9) 0, (qh 1, .inl (k 0, 5, .inl g1)), (qh 2, .inl (k 0, 5, .inl g2)), (qh 3, .inl (k 0, 3, .inl g3)), (qh 4, .inl (k 0, 3, .inl g4)), (qh 5, .inl (k 0, 525, .inl m263)), cell32_ qo so, cell0_ k qo so, cell1_ k qo so, cell4_ k qo so, cell3_ k qo so, cell2_ k qo so] H := hP
            have hD : va_D A [cell184_ qh so (-9) (-9) 0, (qh 1, .inl (k 0, 5, .inl g1)), (qh 2, .inl (k 0, 5, .inl g2)), (qh 3, .inl (k 0, 3, .inl g3)), (qh 4, .inl (k 0, 3, .inl g4)), (qh 5, .inl (k 0, 525, .inl m263)), cell32_ qo so, cell0_ k qo so, cell1_ k qo so, cell4_ k qo so, cell3_ k qo so, cell2_ k qo so] := hD
            replace hw261 : (SUok m263) ∧ (m263 = J_X4_settle (up2 (up2 (up2 (up2 (up2 sh 0 (upd (upd (upd (upd (upd (upd (upd (upd (upd (sh 0) 0 (so 0 0)) 1 (so 0 1)) 6 (so 0 6)) 7 (so 0 7)) 8 (-9)) 9 (so 0 9)) 10 (-9)) 11 (so 0 11)) 12 0)) 1 g1) 2 g2) 3 g3) 4 g4)) := hw261
            obtain ⟨w264, w265⟩ := hw261
            have k267 : m263 = (J_X4_settle (up2 (up2 (up2 (up2 (up2 sh 0 (upd (upd (upd (upd (upd (upd (upd (upd (upd (sh 0) 0 (so 0 0)) 1 (so 0 1)) 6 (so 0 6)) 7 (so 0 7)) 8 (-9)) 9 (so 0 9)) 10 (-9)) 11 (so 0 11)) 12 0)) 1 g1) 2 g2) 3 g3) 4 g4)) := congrArg (fun z => z) w265
            have hlit268 : ((-9) : Int32).toInt = -9 := by decide
            have hlit269 : ((-9) : Int32).toInt = -9 := by decide
            have hlit270 : (0 : Int32).toInt = 0 := by decide
            rw [hQ]
            exact x_v cx hr ((so 0 0), (so 0 1), g1, g2, g3, g4, (so 0 6), (so 0 7), (-9), (so 0 9), (-9), (so 0 11), 0, m263) hP hD hS ⟨(show 0 ≤ (so 0 0).toInt ∧ (so 0 0).toInt ≤ 5 from by omega), (show 0 ≤ (so 0 1).toInt ∧ (so 0 1).toInt ≤ 4 from by omega), (show 0 ≤ (0 : Int32).toInt ∧ (0 : Int32).toInt ≤ 5 from by omega), ag2, ag3, (show SUok m263 from by assumption), (show (so 0 0).toInt = (so 0 0).toInt from by omega), (show ((so 0 0), (so 0 1), g1, g2, g3, g4, (so 0 6), (so 0 7), ((-9) : Int32), (so 0 9), ((-9) : Int32), (so 0 11), (0 : Int32), m263) = J_X4_copy sh so p0 from by subst eg1 eg2 eg3 eg4 e5 e197 e199 e247 e249 k267; first | (refine Eq.symm ?_; refine Eq.trans (if_neg c6) ?_; refine Eq.trans (if_pos c198) ?_; refine Eq.trans (if_neg c200) ?_; refine Eq.trans (if_pos c248) ?_; refine Eq.trans (if_neg c250) ?_; rfl) | (unfold J_X4_copy; try dsimp only; rw [if_neg c6, if_pos c198, if_neg c200, if_pos c248, if_neg c250]))⟩ dX4_copy_188
        · have f248 : ¬ v247.toInt = 0 := f_ne rfl (by decide) c248
          refine lv_bipush (v := (-9)) hx hb dX4_copy_153 (by decide) ?_
          refine lv_goto (tgt := 162) hx hb dX4_copy_155 (by decide) ?_
          refine g_pt cx hP hD hS iw_X4_copy_X4 tyX4 tyX4_ok nmX4 0 rfl rfl 11 (by decide) rfl fw_X4_copy_60 (ty := .int) rfl rfl rfl (Nat.le_of_ble_eq_true rfl) dX4_copy_162 (fun H locs hP hD hS => ?_)
          have hP : va_P D vwCl [(qh 0, .inr (2, [.int (so 0 0), .int (so 0 1), .ref (qh 1), .ref (qh 2), .ref (qh 3), .ref (qh 4), .int (so 0 6), .int (so 0 7), .int (-9), .int (so 0 9), .int (-9), .int (-9), .int (sh 0 12), .ref (qh 5)])), (qh 1, .inl (k 0, 5, .inl g1)), (qh 2, .inl (k 0, 5, .inl g2)), (qh 3, .inl (k 0, 3, .inl g3)), (qh 4, .inl (k 0, 3, .inl g4)), cell2_ k qh sh, cell32_ qo so, cell0_ k qo so, cell1_ k qo so, cell4_ k qo so, cell3_ k qo so, cell2_ k qo so] H := hP
          have hD : va_D A [(qh 0, .inr (2, [.int (so 0 0), .int (so 0 1), .ref (qh 1), .ref (qh 2), .ref (qh 3), .ref (qh 4), .int (so 0 6), .int (so 0 7), .int (-9), .int (so 0 9), .int (-9), .int (-9), .int (sh 0 12), .ref (qh 5)])), (qh 1, .inl (k 0, 5, .inl g1)), (qh 2, .inl (k 0, 5, .inl g2)), (qh 3, .inl (k 0, 3, .inl g3)), (qh 4, .inl (k 0, 3, .inl g4)), cell2_ k qh sh, cell32_ qo so, cell0_ k qo so, cell1_ k qo so, cell4_ k qo so, cell3_ k qo so, cell2_ k qo so] := hD
          have hlit271 : ((-9) : Int32).toInt = -9 := by decide
          refine lv_aload_n hx hb dX4_copy_165 rfl (lv_at hl 0 rfl) ?_
          refine lv_iload_n hx hb dX4_copy_166 rfl (lv_at hl 2 rfl) ?_
          refine lv_bipush (v := 8) hx hb dX4_copy_167 (by decide) ?_
          refine lv_iand hx hb dX4_copy_169 (lv_topi (fun v272 e272 => ?_))
          have t272 : 0 ≤ v272.toInt ∧ v272.toInt ≤ 8 := by rw [e272]; exact and_r (by decide) (by omega)
          refine lv_if_eq (tgt := 177) hx hb dX4_copy_170 (by decide) (fun c273 => ?_) (fun c273 => ?_)
          · have f273 : v272.toInt = 0 := f_eq rfl (by decide) c273
            refine lv_aload_n hx hb dX4_copy_177 rfl (lv_at hl 1 rfl) ?_
            refine g_get cx hP iw_X4_copy_X4 6 rfl rfl 12 (by decide) rfl fw_X4_copy_63 rfl dX4_copy_178 ?_
            refine g_pt cx hP hD hS iw_X4_copy_X4 tyX4 tyX4_ok nmX4 0 rfl rfl 12 (by decide) rfl fw_X4_copy_63 (ty := .int) rfl rfl rfl (Nat.le_of_ble_eq_true rfl) dX4_copy_181 (fun H locs hP hD hS => ?_)
            have hP : va_P D vwCl [cell185_ qh so (-9) (-9) (-9), (qh 1, .inl (k 0, 5, .inl g1)), (qh 2, .inl (k 0, 5, .inl g2)), (qh 3, .inl (k 0, 3, .inl g3)), (qh 4, .inl (k 0, 3, .inl g4)), cell2_ k qh sh, cell32_ qo so, cell0_ k qo so, cell1_ k qo so, cell4_ k qo so, cell3_ k qo so, cell2_ k qo so] H := hP
            have hD : va_D A [cell185_ qh so (-9) (-9) (-9), (qh 1, .inl (k 0, 5, .inl g1)), (qh 2, .inl (k 0, 5, .inl g2)), (qh 3, .inl (k 0, 3, .inl g3)), (qh 4, .inl (k 0, 3, .inl g4)), cell2_ k qh sh, cell32_ qo so, cell0_ k qo so, cell1_ k qo so, cell4_ k qo so, cell3_ k qo so, cell2_ k qo so] := hD
            refine lv_aload_n hx hb dX4_copy_184 rfl (lv_at hl 0 rfl) ?_
            refine g_v (w1 := fun (u : (Nat → Int32)) => [cell185_ qh so (-9) (-9) (-9), (qh 1, .inl (k 0, 5, .inl g1)), (qh 2, .inl (k 0, 5, .inl g2)), (qh 3, .inl (k 0, 3, .inl g3)), (qh 4, .inl (k 0, 3, .inl g4)), (qh 5, .inl (k 0, 525, .inl u))]) (g_runV (wc := [cell185_ qh so (-9) (-9) (-9), (qh 1, .inl (k 0, 5, .inl g1)), (qh 2, .inl (k 0, 5, .inl g2)), (qh 3, .inl (k 0, 3, .inl g3)), (qh 4, .inl (k 0, 3, .inl g4)), cell2_ k qh sh]) (rest := []) cx hP hD hS [0, 1, 2, 3, 4, 5] rfl (by decide) [] (c_X4_settle l D k b qh (up2 (up2 (up2 (up2 (up2 sh 0 (upd (upd (upd (upd (upd (upd (upd (upd (upd (sh 0) 0 (so 0 0)) 1 (so 0 1)) 6 (so 0 6)) 7 (so 0 7)) 8 (-9)) 9 (so 0 9)) 10 (-9)) 11 (-9)) 12 (so 0 12))) 1 g1) 2 g2) 3 g3) 4 g4) H.size (show 0 ≤ (so 0 12).toInt ∧ (so 0 12).toInt ≤ 5 from by first | decide | omega) ag3) gX4_copy_X4_settle rfl rfl rfl nd_X4_settle ⟨Nat.le_of_ble_eq_true rfl, Nat.le_of_ble_eq_true rfl⟩ (ci := 2) (q0 := 0) rfl rfl rfl hl.1 rfl (Nat.le_of_ble_eq_true rfl) ⟨Nat.zero_le _, Nat.zero_le _⟩ dX4_copy_185) cx.2.2.1 hP hD hS [0, 1, 2, 3, 4, 5] rfl (fun _ => rfl) (fun u275 H locs hw274 hP hD hS => ?_)
            obtain ⟨m276, rfl⟩ : ∃ z, z = u275 := ⟨_, rfl⟩
            have hP : va_P D vwCl [cell185_ qh so (-9) (-9) (-9), (qh 1, .inl (k 0, 5, .inl g1)), (qh 2, .inl (k 0, 5, .inl g2)), (qh 3, .inl (k 0, 3, .inl g3)), (qh 4, .inl (k 0, 3, .inl g4)), (qh 5, .inl (k 0, 525, .inl m276)), cell32_ qo so, cell0_ k qo so, cell1_ k qo so, cell4_ k qo so, cell3_ k qo so, cell2_ k qo so] H := hP
            have hD : va_D A [cell185_ qh so (-9) (-9) (-9), (qh 1, .inl (k 0, 5, .inl g1)), (qh 2, .inl (k 0, 5, .inl g2)), (qh 3, .inl (k 0, 3, .inl g3)), (qh 4, .inl (k 0, 3, .inl g4)), (qh 5, .inl (k 0, 525, .inl m276)), cell32_ qo so, cell0_ k qo so, cell1_ k qo so, cell4_ k qo so, cell3_ k qo so, cell2_ k qo so] := hD
            replace hw274 : (SUok m276) ∧ (m276 = J_X4_settle (up2 (up2 (up2 (up2 (up2 sh 0 (upd (upd (upd (upd (upd (upd (upd (upd (upd (sh 0) 0 (so 0 0)) 1 (so 0 1)) 6 (so 0 6)) 7 (so 0 7)) 8 (-9)) 9 (so 0 9)) 10 (-9)) 11 (-9)) 12 (so 0 12))) 1 g1) 2 g2) 3 g3) 4 g4)) := hw274
            obtain ⟨w277, w278⟩ := hw274
            have k280 : m276 = (J_X4_settle (up2 (up2 (up2 (up2 (up2 sh 0 (upd (upd (upd (upd (upd (upd (upd (upd (upd (sh 0) 0 (so 0 0)) 1 (so 0 1)) 6 (so 0 6)) 7 (so 0 7)) 8 (-9)) 9 (so 0 9)) 10 (-9)) 11 (-9)) 12 (so 0 12))) 1 g1) 2 g2) 3 g3) 4 g4)) := congrArg (fun z => z) w278
            have hlit281 : ((-9) : Int32).toInt = -9 := by decide
            have hlit282 : ((-9) : Int32).toInt = -9 := by decide
            have hlit283 : ((-9) : Int32).toInt = -9 := by decide
            rw [hQ]
            exact x_v cx hr ((so 0 0), (so 0 1), g1, g2, g3, g4, (so 0 6), (so 0 7), (-9), (so 0 9), (-9), (-9), (so 0 12), m276) hP hD hS ⟨(show 0 ≤ (so 0 0).toInt ∧ (so 0 0).toInt ≤ 5 from by omega), (show 0 ≤ (so 0 1).toInt ∧ (so 0 1).toInt ≤ 4 from by omega), (show 0 ≤ (so 0 12).toInt ∧ (so 0 12).toInt ≤ 5 from by omega), ag2, ag3, (show SUok m276 from by assumption), (show (so 0 0).toInt = (so 0 0).toInt from by omega), (show ((so 0 0), (so 0 1), g1, g2, g3, g4, (so 0 6), (so 0 7), ((-9) : Int32), (so 0 9), ((-9) : Int32), ((-9) : Int32), (so 0 12), m276) = J_X4_copy sh so p0 from by subst eg1 eg2 eg3 eg4 e5 e197 e199 e247 e272 k280; first | (refine Eq.symm ?_; refine Eq.trans (if_neg c6) ?_; refine Eq.trans (if_pos c198) ?_; refine Eq.trans (if_neg c200) ?_; refine Eq.trans (if_neg c248) ?_; refine Eq.trans (if_pos c273) ?_; rfl) | (unfold J_X4_copy; try dsimp only; rw [if_neg c6, if_pos c198, if_neg c200, if_neg c248, if_pos c273]))⟩ dX4_copy_188
          · have f273 : ¬ v272.toInt = 0 := f_ne rfl (by decide) c273
            refine lv_iconst (v := 0) hx hb dX4_copy_173 (by decide) ?_
            refine lv_goto (tgt := 181) hx hb dX4_copy_174 (by decide) ?_
            refine g_pt cx hP hD hS iw_X4_copy_X4 tyX4 tyX4_ok nmX4 0 rfl rfl 12 (by decide) rfl fw_X4_copy_63 (ty := .int) rfl rfl rfl (Nat.le_of_ble_eq_true rfl) dX4_copy_181 (fun H locs hP hD hS => ?_)
            have hP : va_P D vwCl [cell186_ qh so (-9) (-9) (-9) 0, (qh 1, .inl (k 0, 5, .inl g1)), (qh 2, .inl (k 0, 5, .inl g2)), (qh 3, .inl (k 0, 3, .inl g3)), (qh 4, .inl (k 0, 3, .inl g4)), cell2_ k qh sh, cell32_ qo so, cell0_ k qo so, cell1_ k qo so, cell4_ k qo so, cell3_ k qo so, cell2_ k qo so] H := hP
            have hD : va_D A [cell186_ qh so (-9) (-9) (-9) 0, (qh 1, .inl (k 0, 5, .inl g1)), (qh 2, .inl (k 0, 5, .inl g2)), (qh 3, .inl (k 0, 3, .inl g3)), (qh 4, .inl (k 0, 3, .inl g4)), cell2_ k qh sh, cell32_ qo so, cell0_ k qo so, cell1_ k qo so, cell4_ k qo so, cell3_ k qo so, cell2_ k qo so] := hD
            have hlit284 : (0 : Int32).toInt = 0 := by decide
            refine lv_aload_n hx hb dX4_copy_184 rfl (lv_at hl 0 rfl) ?_
            refine g_v (w1 := fun (u : (Nat → Int32)) => [cell186_ qh so (-9) (-9) (-9) 0, (qh 1, .inl (k 0, 5, .inl g1)), (qh 2, .inl (k 0, 5, .inl g2)), (qh 3, .inl (k 0, 3, .inl g3)), (qh 4, .inl (k 0, 3, .inl g4)), (qh 5, .inl (k 0, 525, .inl u))]) (g_runV (wc := [cell186_ qh so (-9) (-9) (-9) 0, (qh 1, .inl (k 0, 5, .inl g1)), (qh 2, .inl (k 0, 5, .inl g2)), (qh 3, .inl (k 0, 3, .inl g3)), (qh 4, .inl (k 0, 3, .inl g4)), cell2_ k qh sh]) (rest := []) cx hP hD hS [0, 1, 2, 3, 4, 5] rfl (by decide) [] (c_X4_settle l D k b qh (up2 (up2 (up2 (up2 (up2 sh 0 (upd (upd (upd (upd (upd (upd (upd (upd (upd (sh 0) 0 (so 0 0)) 1 (so 0 1)) 6 (so 0 6)) 7 (so 0 7)) 8 (-9)) 9 (so 0 9)) 10 (-9)) 11 (-9)) 12 0)) 1 g1) 2 g2) 3 g3) 4 g4) H.size (show 0 ≤ (0 : Int32).toInt ∧ (0 : Int32).toInt ≤ 5 from by first | decide | omega) ag3) gX4_copy_X4_settle rfl rfl rfl nd_X4_settle ⟨Nat.le_of_ble_eq_true rfl, Nat.le_of_ble_eq_true rfl⟩ (ci := 2) (q0 := 0) rfl rfl rfl hl.1 rfl (Nat.le_of_ble_eq_true rfl) ⟨Nat.zero_le _, Nat.zero_le _⟩ dX4_copy_185) cx.2.2.1 hP hD hS [0, 1, 2, 3, 4, 5] rfl (fun _ => rfl) (fun u286 H locs hw285 hP hD hS => ?_)
            obtain ⟨m287, rfl⟩ : ∃ z, z = u286 := ⟨_, rfl⟩
            have hP : va_P D vwCl [cell186_ qh so (-9) (-9) (-9) 0, (qh 1, .inl (k 0, 5, .inl g1)), (qh 2, .inl (k 0, 5, .inl g2)), (qh 3, .inl (k 0, 3, .inl g3)), (qh 4, .inl (k 0, 3, .inl g4)), (qh 5, .inl (k 0, 525, .inl m287)), cell32_ qo so, cell0_ k qo so, cell1_ k qo so, cell4_ k qo so, cell3_ k qo so, cell2_ k qo so] H := hP
            have hD : va_D A [cell186_ qh so (-9) (-9) (-9) 0, (qh 1, .inl (k 0, 5, .inl g1)), (qh 2, .inl (k 0, 5, .inl g2)), (qh 3, .inl (k 0, 3, .inl g3)), (qh 4, .inl (k 0, 3, .inl g4)), (qh 5, .inl (k 0, 525, .inl m287)), cell32_ qo so, cell0_ k qo so, cell1_ k qo so, cell4_ k qo so, cell3_ k qo so, cell2_ k qo so] := hD
            replace hw285 : (SUok m287) ∧ (m287 = J_X4_settle (up2 (up2 (up2 (up2 (up2 sh 0 (upd (upd (upd (upd (upd (upd (upd (upd (upd (sh 0) 0 (so 0 0)) 1 (so 0 1)) 6 (so 0 6)) 7 (so 0 7)) 8 (-9)) 9 (so 0 9)) 10 (-9)) 11 (-9)) 12 0)) 1 g1) 2 g2) 3 g3) 4 g4)) := hw285
            obtain ⟨w288, w289⟩ := hw285
            have k291 : m287 = (J_X4_settle (up2 (up2 (up2 (up2 (up2 sh 0 (upd (upd (upd (upd (upd (upd (upd (upd (upd (sh 0) 0 (so 0 0)) 1 (so 0 1)) 6 (so 0 6)) 7 (so 0 7)) 8 (-9)) 9 (so 0 9)) 10 (-9)) 11 (-9)) 12 0)) 1 g1) 2 g2) 3 g3) 4 g4)) := congrArg (fun z => z) w289
            have hlit292 : ((-9) : Int32).toInt = -9 := by decide
            have hlit293 : ((-9) : Int32).toInt = -9 := by decide
            have hlit294 : ((-9) : Int32).toInt = -9 := by decide
            have hlit295 : (0 : Int32).toInt = 0 := by decide
            rw [hQ]
            exact x_v cx hr ((so 0 0), (so 0 1), g1, g2, g3, g4, (so 0 6), (so 0 7), (-9), (so 0 9), (-9), (-9), 0, m287) hP hD hS ⟨(show 0 ≤ (so 0 0).toInt ∧ (so 0 0).toInt ≤ 5 from by omega), (show 0 ≤ (so 0 1).toInt ∧ (so 0 1).toInt ≤ 4 from by omega), (show 0 ≤ (0 : Int32).toInt ∧ (0 : Int32).toInt ≤ 5 from by omega), ag2, ag3, (show SUok m287 from by assumption), (show (so 0 0).toInt = (so 0 0).toInt from by omega), (show ((so 0 0), (so 0 1), g1, g2, g3, g4, (so 0 6), (so 0 7), ((-9) : Int32), (so 0 9), ((-9) : Int32), ((-9) : Int32), (0 : Int32), m287) = J_X4_copy sh so p0 from by subst eg1 eg2 eg3 eg4 e5 e197 e199 e247 e272 k291; first | (refine Eq.symm ?_; refine Eq.trans (if_neg c6) ?_; refine Eq.trans (if_pos c198) ?_; refine Eq.trans (if_neg c200) ?_; refine Eq.trans (if_neg c248) ?_; refine Eq.trans (if_neg c273) ?_; rfl) | (unfold J_X4_copy; try dsimp only; rw [if_neg c6, if_pos c198, if_neg c200, if_neg c248, if_neg c273]))⟩ dX4_copy_188
    · have f198 : ¬ v197.toInt = 0 := f_ne rfl (by decide) c198
      refine lv_bipush (v := (-9)) hx hb dX4_copy_114 (by decide) ?_
      refine lv_goto (tgt := 123) hx hb dX4_copy_116 (by decide) ?_
      refine g_pt cx hP hD hS iw_X4_copy_X4 tyX4 tyX4_ok nmX4 0 rfl rfl 9 (by decide) rfl fw_X4_copy_54 (ty := .int) rfl rfl rfl (Nat.le_of_ble_eq_true rfl) dX4_copy_123 (fun H locs hP hD hS => ?_)
      have hP : va_P D vwCl [(qh 0, .inr (2, [.int (so 0 0), .int (so 0 1), .ref (qh 1), .ref (qh 2), .ref (qh 3), .ref (qh 4), .int (so 0 6), .int (so 0 7), .int (-9), .int (-9), .int (sh 0 10), .int (sh 0 11), .int (sh 0 12), .ref (qh 5)])), (qh 1, .inl (k 0, 5, .inl g1)), (qh 2, .inl (k 0, 5, .inl g2)), (qh 3, .inl (k 0, 3, .inl g3)), (qh 4, .inl (k 0, 3, .inl g4)), cell2_ k qh sh, cell32_ qo so, cell0_ k qo so, cell1_ k qo so, cell4_ k qo so, cell3_ k qo so, cell2_ k qo so] H := hP
      have hD : va_D A [(qh 0, .inr (2, [.int (so 0 0), .int (so 0 1), .ref (qh 1), .ref (qh 2), .ref (qh 3), .ref (qh 4), .int (so 0 6), .int (so 0 7), .int (-9), .int (-9), .int (sh 0 10), .int (sh 0 11), .int (sh 0 12), .ref (qh 5)])), (qh 1, .inl (k 0, 5, .inl g1)), (qh 2, .inl (k 0, 5, .inl g2)), (qh 3, .inl (k 0, 3, .inl g3)), (qh 4, .inl (k 0, 3, .inl g4)), cell2_ k qh sh, cell32_ qo so, cell0_ k qo so, cell1_ k qo so, cell4_ k qo so, cell3_ k qo so, cell2_ k qo so] := hD
      have hlit296 : ((-9) : Int32).toInt = -9 := by decide
      refine lv_aload_n hx hb dX4_copy_126 rfl (lv_at hl 0 rfl) ?_
      refine lv_iload_n hx hb dX4_copy_127 rfl (lv_at hl 2 rfl) ?_
      refine lv_iconst (v := 4) hx hb dX4_copy_128 (by decide) ?_
      refine lv_iand hx hb dX4_copy_129 (lv_topi (fun v297 e297 => ?_))
      have t297 : 0 ≤ v297.toInt ∧ v297.toInt ≤ 4 := by rw [e297]; exact and_r (by decide) (by omega)
      refine lv_if_eq (tgt := 138) hx hb dX4_copy_130 (by decide) (fun c298 => ?_) (fun c298 => ?_)
      · have f298 : v297.toInt = 0 := f_eq rfl (by decide) c298
        refine lv_aload_n hx hb dX4_copy_138 rfl (lv_at hl 1 rfl) ?_
        refine g_get cx hP iw_X4_copy_X4 6 rfl rfl 10 (by decide) rfl fw_X4_copy_57 rfl dX4_copy_139 ?_
        refine g_pt cx hP hD hS iw_X4_copy_X4 tyX4 tyX4_ok nmX4 0 rfl rfl 10 (by decide) rfl fw_X4_copy_57 (ty := .int) rfl rfl rfl (Nat.le_of_ble_eq_true rfl) dX4_copy_142 (fun H locs hP hD hS => ?_)
        have hP : va_P D vwCl [(qh 0, .inr (2, [.int (so 0 0), .int (so 0 1), .ref (qh 1), .ref (qh 2), .ref (qh 3), .ref (qh 4), .int (so 0 6), .int (so 0 7), .int (-9), .int (-9), .int (so 0 10), .int (sh 0 11), .int (sh 0 12), .ref (qh 5)])), (qh 1, .inl (k 0, 5, .inl g1)), (qh 2, .inl (k 0, 5, .inl g2)), (qh 3, .inl (k 0, 3, .inl g3)), (qh 4, .inl (k 0, 3, .inl g4)), cell2_ k qh sh, cell32_ qo so, cell0_ k qo so, cell1_ k qo so, cell4_ k qo so, cell3_ k qo so, cell2_ k qo so] H := hP
        have hD : va_D A [(qh 0, .inr (2, [.int (so 0 0), .int (so 0 1), .ref (qh 1), .ref (qh 2), .ref (qh 3), .ref (qh 4), .int (so 0 6), .int (so 0 7), .int (-9), .int (-9), .int (so 0 10), .int (sh 0 11), .int (sh 0 12), .ref (qh 5)])), (qh 1, .inl (k 0, 5, .inl g1)), (qh 2, .inl (k 0, 5, .inl g2)), (qh 3, .inl (k 0, 3, .inl g3)), (qh 4, .inl (k 0, 3, .inl g4)), cell2_ k qh sh, cell32_ qo so, cell0_ k qo so, cell1_ k qo so, cell4_ k qo so, cell3_ k qo so, cell2_ k qo so] := hD
        refine lv_aload_n hx hb dX4_copy_145 rfl (lv_at hl 0 rfl) ?_
        refine lv_iload_n hx hb dX4_copy_146 rfl (lv_at hl 2 rfl) ?_
        refine lv_bipush (v := 8) hx hb dX4_copy_147 (by decide) ?_
        refine lv_iand hx hb dX4_copy_149 (lv_topi (fun v299 e299 => ?_))
        have t299 : 0 ≤ v299.toInt ∧ v299.toInt ≤ 8 := by rw [e299]; exact and_r (by decide) (by omega)
        refine lv_if_eq (tgt := 158) hx hb dX4_copy_150 (by decide) (fun c300 => ?_) (fun c300 => ?_)
        · have f300 : v299.toInt = 0 := f_eq rfl (by decide) c300
          refine lv_aload_n hx hb dX4_copy_158 rfl (lv_at hl 1 rfl) ?_
          refine g_get cx hP iw_X4_copy_X4 6 rfl rfl 11 (by decide) rfl fw_X4_copy_60 rfl dX4_copy_159 ?_
          refine g_pt cx hP hD hS iw_X4_copy_X4 tyX4 tyX4_ok nmX4 0 rfl rfl 11 (by decide) rfl fw_X4_copy_60 (ty := .int) rfl rfl rfl (Nat.le_of_ble_eq_true rfl) dX4_copy_162 (fun H locs hP hD hS => ?_)
          have hP : va_P D vwCl [(qh 0, .inr (2, [.int (so 0 0), .int (so 0 1), .ref (qh 1), .ref (qh 2), .ref (qh 3), .ref (qh 4), .int (so 0 6), .int (so 0 7), .int (-9), .int (-9), .int (so 0 10), .int (so 0 11), .int (sh 0 12), .ref (qh 5)])), (qh 1, .inl (k 0, 5, .inl g1)), (qh 2, .inl (k 0, 5, .inl g2)), (qh 3, .inl (k 0, 3, .inl g3)), (qh 4, .inl (k 0, 3, .inl g4)), cell2_ k qh sh, cell32_ qo so, cell0_ k qo so, cell1_ k qo so, cell4_ k qo so, cell3_ k qo so, cell2_ k qo so] H := hP
          have hD : va_D A [(qh 0, .inr (2, [.int (so 0 0), .int (so 0 1), .ref (qh 1), .ref (qh 2), .ref (qh 3), .ref (qh 4), .int (so 0 6), .int (so 0 7), .int (-9), .int (-9), .int (so 0 10), .int (so 0 11), .int (sh 0 12), .ref (qh 5)])), (qh 1, .inl (k 0, 5, .inl g1)), (qh 2, .inl (k 0, 5, .inl g2)), (qh 3, .inl (k 0, 3, .inl g3)), (qh 4, .inl (k 0, 3, .inl g4)), cell2_ k qh sh, cell32_ qo so, cell0_ k qo so, cell1_ k qo so, cell4_ k qo so, cell3_ k qo so, cell2_ k qo so] := hD
          refine lv_aload_n hx hb dX4_copy_165 rfl (lv_at hl 0 rfl) ?_
          refine lv_iload_n hx hb dX4_copy_166 rfl (lv_at hl 2 rfl) ?_
          refine lv_bipush (v := 8) hx hb dX4_copy_167 (by decide) ?_
          refine lv_iand hx hb dX4_copy_169 (lv_topi (fun v301 e301 => ?_))
          have t301 : 0 ≤ v301.toInt ∧ v301.toInt ≤ 8 := by rw [e301]; exact and_r (by decide) (by omega)
          refine lv_if_eq (tgt := 177) hx hb dX4_copy_170 (by decide) (fun c302 => ?_) (fun c302 => ?_)
          · have f302 : v301.toInt = 0 := f_eq rfl (by decide) c302
            refine lv_aload_n hx hb dX4_copy_177 rfl (lv_at hl 1 rfl) ?_
            refine g_get cx hP iw_X4_copy_X4 6 rfl rfl 12 (by decide) rfl fw_X4_copy_63 rfl dX4_copy_178 ?_
            refine g_pt cx hP hD hS iw_X4_copy_X4 tyX4 tyX4_ok nmX4 0 rfl rfl 12 (by decide) rfl fw_X4_copy_63 (ty := .int) rfl rfl rfl (Nat.le_of_ble_eq_true rfl) dX4_copy_181 (fun H locs hP hD hS => ?_)
            have hP : va_P D vwCl [cell187_ qh so (-9) (-9), (qh 1, .inl (k 0, 5, .inl g1)), (qh 2, .inl (k 0, 5, .inl g2)), (qh 3, .inl (k 0, 3, .inl g3)), (qh 4, .inl (k 0, 3, .inl g4)), cell2_ k qh sh, cell32_ qo so, cell0_ k qo so, cell1_ k qo so, cell4_ k qo so, cell3_ k qo so, cell2_ k qo so] H := hP
            have hD : va_D A [cell187_ qh so (-9) (-9), (qh 1, .inl (k 0, 5, .inl g1)), (qh 2, .inl (k 0, 5, .inl g2)), (qh 3, .inl (k 0, 3, .inl g3)), (qh 4, .inl (k 0, 3, .inl g4)), cell2_ k qh sh, cell32_ qo so, cell0_ k qo so, cell1_ k qo so, cell4_ k qo so, cell3_ k qo so, cell2_ k qo so] := hD
            refine lv_aload_n hx hb dX4_copy_184 rfl (lv_at hl 0 rfl) ?_
            refine g_v (w1 := fun (u : (Nat → Int32)) => [cell187_ qh so (-9) (-9), (qh 1, .inl (k 0, 5, .inl g1)), (qh 2, .inl (k 0, 5, .inl g2)), (qh 3, .inl (k 0, 3, .inl g3)), (qh 4, .inl (k 0, 3, .inl g4)), (qh 5, .inl (k 0, 525, .inl u))]) (g_runV (wc := [cell187_ qh so (-9) (-9), (qh 1, .inl (k 0, 5, .inl g1)), (qh 2, .inl (k 0, 5, .inl g2)), (qh 3, .inl (k 0, 3, .inl g3)), (qh 4, .inl (k 0, 3, .inl g4)), cell2_ k qh sh]) (rest := []) cx hP hD hS [0, 1, 2, 3, 4, 5] rfl (by decide) [] (c_X4_settle l D k b qh (up2 (up2 (up2 (up2 (up2 sh 0 (upd (upd (upd (upd (upd (upd (upd (upd (upd (sh 0) 0 (so 0 0)) 1 (so 0 1)) 6 (so 0 6)) 7 (so 0 7)) 8 (-9)) 9 (-9)) 10 (so 0 10)) 11 (so 0 11)) 12 (so 0 12))) 1 g1) 2 g2) 3 g3) 4 g4) H.size (show 0 ≤ (so 0 12).toInt ∧ (so 0 12).toInt ≤ 5 from by first | decide | omega) ag3) gX4_copy_X4_settle rfl rfl rfl nd_X4_settle ⟨Nat.le_of_ble_eq_true rfl, Nat.le_of_ble_eq_true rfl⟩ (ci := 2) (q0 := 0) rfl rfl rfl hl.1 rfl (Nat.le_of_ble_eq_true rfl) ⟨Nat.zero_le _, Nat.zero_le _⟩ dX4_copy_185) cx.2.2.1 hP hD hS [0, 1, 2, 3, 4, 5] rfl (fun _ => rfl) (fun u304 H locs hw303 hP hD hS => ?_)
            obtain ⟨m305, rfl⟩ : ∃ z, z = u304 := ⟨_, rfl⟩
            have hP : va_P D vwCl [cell187_ qh so (-9) (-9), (qh 1, .inl (k 0, 5, .inl g1)), (qh 2, .inl (k 0, 5, .inl g2)), (qh 3, .inl (k 0, 3, .inl g3)), (qh 4, .inl (k 0, 3, .inl g4)), (qh 5, .inl (k 0, 525, .inl m305)), cell32_ qo so, cell0_ k qo so, cell1_ k qo so, cell4_ k qo so, cell3_ k qo so, cell2_ k qo so] H := hP
            have hD : va_D A [cell187_ qh so (-9) (-9), (qh 1, .inl (k 0, 5, .inl g1)), (qh 2, .inl (k 0, 5, .inl g2)), (qh 3, .inl (k 0, 3, .inl g3)), (qh 4, .inl (k 0, 3, .inl g4)), (qh 5, .inl (k 0, 525, .inl m305)), cell32_ qo so, cell0_ k qo so, cell1_ k qo so, cell4_ k qo so, cell3_ k qo so, cell2_ k qo so] := hD
            replace hw303 : (SUok m305) ∧ (m305 = J_X4_settle (up2 (up2 (up2 (up2 (up2 sh 0 (upd (upd (upd (upd (upd (upd (upd (upd (upd (sh 0) 0 (so 0 0)) 1 (so 0 1)) 6 (so 0 6)) 7 (so 0 7)) 8 (-9)) 9 (-9)) 10 (so 0 10)) 11 (so 0 11)) 12 (so 0 12))) 1 g1) 2 g2) 3 g3) 4 g4)) := hw303
            obtain ⟨w306, w307⟩ := hw303
            have k309 : m305 = (J_X4_settle (up2 (up2 (up2 (up2 (up2 sh 0 (upd (upd (upd (upd (upd (upd (upd (upd (upd (sh 0) 0 (so 0 0)) 1 (so 0 1)) 6 (so 0 6)) 7 (so 0 7)) 8 (-9)) 9 (-9)) 10 (so 0 10)) 11 (so 0 11)) 12 (so 0 12))) 1 g1) 2 g2) 3 g3) 4 g4)) := congrArg (fun z => z) w307
            have hlit310 : ((-9) : Int32).toInt = -9 := by decide
            have hlit311 : ((-9) : Int32).toInt = -9 := by decide
            rw [hQ]
            exact x_v cx hr ((so 0 0), (so 0 1), g1, g2, g3, g4, (so 0 6), (so 0 7), (-9), (-9), (so 0 10), (so 0 11), (so 0 12), m305) hP hD hS ⟨(show 0 ≤ (so 0 0).toInt ∧ (so 0 0).toInt ≤ 5 from by omega), (show 0 ≤ (so 0 1).toInt ∧ (so 0 1).toInt ≤ 4 from by omega), (show 0 ≤ (so 0 12).toInt ∧ (so 0 12).toInt ≤ 5 from by omega), ag2, ag3, (show SUok m305 from by assumption), (show (so 0 0).toInt = (so 0 0).toInt from by omega), (show ((so 0 0), (so 0 1), g1, g2, g3, g4, (so 0 6), (so 0 7), ((-9) : Int32), ((-9) : Int32), (so 0 10), (so 0 11), (so 0 12), m305) = J_X4_copy sh so p0 from by subst eg1 eg2 eg3 eg4 e5 e197 e297 e299 e301 k309; first | (refine Eq.symm ?_; refine Eq.trans (if_neg c6) ?_; refine Eq.trans (if_neg c198) ?_; refine Eq.trans (if_pos c298) ?_; refine Eq.trans (if_pos c300) ?_; refine Eq.trans (if_pos c302) ?_; rfl) | (unfold J_X4_copy; try dsimp only; rw [if_neg c6, if_neg c198, if_pos c298, if_pos c300, if_pos c302]))⟩ dX4_copy_188
          · have f302 : ¬ v301.toInt = 0 := f_ne rfl (by decide) c302
            refine lv_iconst (v := 0) hx hb dX4_copy_173 (by decide) ?_
            refine lv_goto (tgt := 181) hx hb dX4_copy_174 (by decide) ?_
            refine g_pt cx hP hD hS iw_X4_copy_X4 tyX4 tyX4_ok nmX4 0 rfl rfl 12 (by decide) rfl fw_X4_copy_63 (ty := .int) rfl rfl rfl (Nat.le_of_ble_eq_true rfl) dX4_copy_181 (fun H locs hP hD hS => ?_)
            have hP : va_P D vwCl [cell188_ qh so (-9) (-9) 0, (qh 1, .inl (k 0, 5, .inl g1)), (qh 2, .inl (k 0, 5, .inl g2)), (qh 3, .inl (k 0, 3, .inl g3)), (qh 4, .inl (k 0, 3, .inl g4)), cell2_ k qh sh, cell32_ qo so, cell0_ k qo so, cell1_ k qo so, cell4_ k qo so, cell3_ k qo so, cell2_ k qo so] H := hP
            have hD : va_D A [cell188_ qh so (-9) (-9) 0, (qh 1, .inl (k 0, 5, .inl g1)), (qh 2, .inl (k 0, 5, .inl g2)), (qh 3, .inl (k 0, 3, .inl g3)), (qh 4, .inl (k 0, 3, .inl g4)), cell2_ k qh sh, cell32_ qo so, cell0_ k qo so, cell1_ k qo so, cell4_ k qo so, cell3_ k qo so, cell2_ k qo so] := hD
            have hlit312 : (0 : Int32).toInt = 0 := by decide
            refine lv_aload_n hx hb dX4_copy_184 rfl (lv_at hl 0 rfl) ?_
            refine g_v (w1 := fun (u : (Nat → Int32)) => [cell188_ qh so (-9) (-9) 0, (qh 1, .inl (k 0, 5, .inl g1)), (qh 2, .inl (k 0, 5, .inl g2)), (qh 3, .inl (k 0, 3, .inl g3)), (qh 4, .inl (k 0, 3, .inl g4)), (qh 5, .inl (k 0, 525, .inl u))]) (g_runV (wc := [cell188_ qh so (-9) (-9) 0, (qh 1, .inl (k 0, 5, .inl g1)), (qh 2, .inl (k 0, 5, .inl g2)), (qh 3, .inl (k 0, 3, .inl g3)), (qh 4, .inl (k 0, 3, .inl g4)), cell2_ k qh sh]) (rest := []) cx hP hD hS [0, 1, 2, 3, 4, 5] rfl (by decide) [] (c_X4_settle l D k b qh (up2 (up2 (up2 (up2 (up2 sh 0 (upd (upd (upd (upd (upd (upd (upd (upd (upd (sh 0) 0 (so 0 0)) 1 (so 0 1)) 6 (so 0 6)) 7 (so 0 7)) 8 (-9)) 9 (-9)) 10 (so 0 10)) 11 (so 0 11)) 12 0)) 1 g1) 2 g2) 3 g3) 4 g4) H.size (show 0 ≤ (0 : Int32).toInt ∧ (0 : Int32).toInt ≤ 5 from by first | decide | omega) ag3) gX4_copy_X4_settle rfl rfl rfl nd_X4_settle ⟨Nat.le_of_ble_eq_true rfl, Nat.le_of_ble_eq_true rfl⟩ (ci := 2) (q0 := 0) rfl rfl rfl hl.1 rfl (Nat.le_of_ble_eq_true rfl) ⟨Nat.zero_le _, Nat.zero_le _⟩ dX4_copy_185) cx.2.2.1 hP hD hS [0, 1, 2, 3, 4, 5] rfl (fun _ => rfl) (fun u314 H locs hw313 hP hD hS => ?_)
            obtain ⟨m315, rfl⟩ : ∃ z, z = u314 := ⟨_, rfl⟩
            have hP : va_P D vwCl [cell188_ qh so (-9) (-9) 0, (qh 1, .inl (k 0, 5, .inl g1)), (qh 2, .inl (k 0, 5, .inl g2)), (qh 3, .inl (k 0, 3, .inl g3)), (qh 4, .inl (k 0, 3, .inl g4)), (qh 5, .inl (k 0, 525, .inl m315)), cell32_ qo so, cell0_ k qo so, cell1_ k qo so, cell4_ k qo so, cell3_ k qo so, cell2_ k qo so] H := hP
            have hD : va_D A [cell188_ qh so (-9) (-9) 0, (qh 1, .inl (k 0, 5, .inl g1)), (qh 2, .inl (k 0, 5, .inl g2)), (qh 3, .inl (k 0, 3, .inl g3)), (qh 4, .inl (k 0, 3, .inl g4)), (qh 5, .inl (k 0, 525, .inl m315)), cell32_ qo so, cell0_ k qo so, cell1_ k qo so, cell4_ k qo so, cell3_ k qo so, cell2_ k qo so] := hD
            replace hw313 : (SUok m315) ∧ (m315 = J_X4_settle (up2 (up2 (up2 (up2 (up2 sh 0 (upd (upd (upd (upd (upd (upd (upd (upd (upd (sh 0) 0 (so 0 0)) 1 (so 0 1)) 6 (so 0 6)) 7 (so 0 7)) 8 (-9)) 9 (-9)) 10 (so 0 10)) 11 (so 0 11)) 12 0)) 1 g1) 2 g2) 3 g3) 4 g4)) := hw313
            obtain ⟨w316, w317⟩ := hw313
            have k319 : m315 = (J_X4_settle (up2 (up2 (up2 (up2 (up2 sh 0 (upd (upd (upd (upd (upd (upd (upd (upd (upd (sh 0) 0 (so 0 0)) 1 (so 0 1)) 6 (so 0 6)) 7 (so 0 7)) 8 (-9)) 9 (-9)) 10 (so 0 10)) 11 (so 0 11)) 12 0)) 1 g1) 2 g2) 3 g3) 4 g4)) := congrArg (fun z => z) w317
            have hlit320 : ((-9) : Int32).toInt = -9 := by decide
            have hlit321 : ((-9) : Int32).toInt = -9 := by decide
            have hlit322 : (0 : Int32).toInt = 0 := by decide
            rw [hQ]
            exact x_v cx hr ((so 0 0), (so 0 1), g1, g2, g3, g4, (so 0 6), (so 0 7), (-9), (-9), (so 0 10), (so 0 11), 0, m315) hP hD hS ⟨(show 0 ≤ (so 0 0).toInt ∧ (so 0 0).toInt ≤ 5 from by omega), (show 0 ≤ (so 0 1).toInt ∧ (so 0 1).toInt ≤ 4 from by omega), (show 0 ≤ (0 : Int32).toInt ∧ (0 : Int32).toInt ≤ 5 from by omega), ag2, ag3, (show SUok m315 from by assumption), (show (so 0 0).toInt = (so 0 0).toInt from by omega), (show ((so 0 0), (so 0 1), g1, g2, g3, g4, (so 0 6), (so 0 7), ((-9) : Int32), ((-9) : Int32), (so 0 10), (so 0 11), (0 : Int32), m315) = J_X4_copy sh so p0 from by subst eg1 eg2 eg3 eg4 e5 e197 e297 e299 e301 k319; first | (refine Eq.symm ?_; refine Eq.trans (if_neg c6) ?_; refine Eq.trans (if_neg c198) ?_; refine Eq.trans (if_pos c298) ?_; refine Eq.trans (if_pos c300) ?_; refine Eq.trans (if_neg c302) ?_; rfl) | (unfold J_X4_copy; try dsimp only; rw [if_neg c6, if_neg c198, if_pos c298, if_pos c300, if_neg c302]))⟩ dX4_copy_188
        · have f300 : ¬ v299.toInt = 0 := f_ne rfl (by decide) c300
          refine lv_bipush (v := (-9)) hx hb dX4_copy_153 (by decide) ?_
          refine lv_goto (tgt := 162) hx hb dX4_copy_155 (by decide) ?_
          refine g_pt cx hP hD hS iw_X4_copy_X4 tyX4 tyX4_ok nmX4 0 rfl rfl 11 (by decide) rfl fw_X4_copy_60 (ty := .int) rfl rfl rfl (Nat.le_of_ble_eq_true rfl) dX4_copy_162 (fun H locs hP hD hS => ?_)
          have hP : va_P D vwCl [(qh 0, .inr (2, [.int (so 0 0), .int (so 0 1), .ref (qh 1), .ref (qh 2), .ref (qh 3), .ref (qh 4), .int (so 0 6), .int (so 0 7), .int (-9), .int (-9), .int (so 0 10), .int (-9), .int (sh 0 12), .ref (qh 5)])), (qh 1, .inl (k 0, 5, .inl g1)), (qh 2, .inl (k 0, 5, .inl g2)), (qh 3, .inl (k 0, 3, .inl g3)), (qh 4, .inl (k 0, 3, .inl g4)), cell2_ k qh sh, cell32_ qo so, cell0_ k qo so, cell1_ k qo so, cell4_ k qo so, cell3_ k qo so, cell2_ k qo so] H := hP
          have hD : va_D A [(qh 0, .inr (2, [.int (so 0 0), .int (so 0 1), .ref (qh 1), .ref (qh 2), .ref (qh 3), .ref (qh 4), .int (so 0 6), .int (so 0 7), .int (-9), .int (-9), .int (so 0 10), .int (-9), .int (sh 0 12), .ref (qh 5)])), (qh 1, .inl (k 0, 5, .inl g1)), (qh 2, .inl (k 0, 5, .inl g2)), (qh 3, .inl (k 0, 3, .inl g3)), (qh 4, .inl (k 0, 3, .inl g4)), cell2_ k qh sh, cell32_ qo so, cell0_ k qo so, cell1_ k qo so, cell4_ k qo so, cell3_ k qo so, cell2_ k qo so] := hD
          have hlit323 : ((-9) : Int32).toInt = -9 := by decide
          refine lv_aload_n hx hb dX4_copy_165 rfl (lv_at hl 0 rfl) ?_
          refine lv_iload_n hx hb dX4_copy_166 rfl (lv_at hl 2 rfl) ?_
          refine lv_bipush (v := 8) hx hb dX4_copy_167 (by decide) ?_
          refine lv_iand hx hb dX4_copy_169 (lv_topi (fun v324 e324 => ?_))
          have t324 : 0 ≤ v324.toInt ∧ v324.toInt ≤ 8 := by rw [e324]; exact and_r (by decide) (by omega)
          refine lv_if_eq (tgt := 177) hx hb dX4_copy_170 (by decide) (fun c325 => ?_) (fun c325 => ?_)
          · have f325 : v324.toInt = 0 := f_eq rfl (by decide) c325
            refine lv_aload_n hx hb dX4_copy_177 rfl (lv_at hl 1 rfl) ?_
            refine g_get cx hP iw_X4_copy_X4 6 rfl rfl 12 (by decide) rfl fw_X4_copy_63 rfl dX4_copy_178 ?_
            refine g_pt cx hP hD hS iw_X4_copy_X4 tyX4 tyX4_ok nmX4 0 rfl rfl 12 (by decide) rfl fw_X4_copy_63 (ty := .int) rfl rfl rfl (Nat.le_of_ble_eq_true rfl) dX4_copy_181 (fun H locs hP hD hS => ?_)
            have hP : va_P D vwCl [cell189_ qh so (-9) (-9) (-9), (qh 1, .inl (k 0, 5, .inl g1)), (qh 2, .inl (k 0, 5, .inl g2)), (qh 3, .inl (k 0, 3, .inl g3)), (qh 4, .inl (k 0, 3, .inl g4)), cell2_ k qh sh, cell32_ qo so, cell0_ k qo so, cell1_ k qo so, cell4_ k qo so, cell3_ k qo so, cell2_ k qo so] H := hP
            have hD : va_D A [cell189_ qh so (-9) (-9) (-9), (qh 1, .inl (k 0, 5, .inl g1)), (qh 2, .inl (k 0, 5, .inl g2)), (qh 3, .inl (k 0, 3, .inl g3)), (qh 4, .inl (k 0, 3, .inl g4)), cell2_ k qh sh, cell32_ qo so, cell0_ k qo so, cell1_ k qo so, cell4_ k qo so, cell3_ k qo so, cell2_ k qo so] := hD
            refine lv_aload_n hx hb dX4_copy_184 rfl (lv_at hl 0 rfl) ?_
            refine g_v (w1 := fun (u : (Nat → Int32)) => [cell189_ qh so (-9) (-9) (-9), (qh 1, .inl (k 0, 5, .inl g1)), (qh 2, .inl (k 0, 5, .inl g2)), (qh 3, .inl (k 0, 3, .inl g3)), (qh 4, .inl (k 0, 3, .inl g4)), (qh 5, .inl (k 0, 525, .inl u))]) (g_runV (wc := [cell189_ qh so (-9) (-9) (-9), (qh 1, .inl (k 0, 5, .inl g1)), (qh 2, .inl (k 0, 5, .inl g2)), (qh 3, .inl (k 0, 3, .inl g3)), (qh 4, .inl (k 0, 3, .inl g4)), cell2_ k qh sh]) (rest := []) cx hP hD hS [0, 1, 2, 3, 4, 5] rfl (by decide) [] (c_X4_settle l D k b qh (up2 (up2 (up2 (up2 (up2 sh 0 (upd (upd (upd (upd (upd (upd (upd (upd (upd (sh 0) 0 (so 0 0)) 1 (so 0 1)) 6 (so 0 6)) 7 (so 0 7)) 8 (-9)) 9 (-9)) 10 (so 0 10)) 11 (-9)) 12 (so 0 12))) 1 g1) 2 g2) 3 g3) 4 g4) H.size (show 0 ≤ (so 0 12).toInt ∧ (so 0 12).toInt ≤ 5 from by first | decide | omega) ag3) gX4_copy_X4_settle rfl rfl rfl nd_X4_settle ⟨Nat.le_of_ble_eq_true rfl, Nat.le_of_ble_eq_true rfl⟩ (ci := 2) (q0 := 0) rfl rfl rfl hl.1 rfl (Nat.le_of_ble_eq_true rfl) ⟨Nat.zero_le _, Nat.zero_le _⟩ dX4_copy_185) cx.2.2.1 hP hD hS [0, 1, 2, 3, 4, 5] rfl (fun _ => rfl) (fun u327 H locs hw326 hP hD hS => ?_)
            obtain ⟨m328, rfl⟩ : ∃ z, z = u327 := ⟨_, rfl⟩
            have hP : va_P D vwCl [cell189_ qh so (-9) (-9) (-9), (qh 1, .inl (k 0, 5, .inl g1)), (qh 2, .inl (k 0, 5, .inl g2)), (qh 3, .inl (k 0, 3, .inl g3)), (qh 4, .inl (k 0, 3, .inl g4)), (qh 5, .inl (k 0, 525, .inl m328)), cell32_ qo so, cell0_ k qo so, cell1_ k qo so, cell4_ k qo so, cell3_ k qo so, cell2_ k qo so] H := hP
            have hD : va_D A [cell189_ qh so (-9) (-9) (-9), (qh 1, .inl (k 0, 5, .inl g1)), (qh 2, .inl (k 0, 5, .inl g2)), (qh 3, .inl (k 0, 3, .inl g3)), (qh 4, .inl (k 0, 3, .inl g4)), (qh 5, .inl (k 0, 525, .inl m328)), cell32_ qo so, cell0_ k qo so, cell1_ k qo so, cell4_ k qo so, cell3_ k qo so, cell2_ k qo so] := hD
            replace hw326 : (SUok m328) ∧ (m328 = J_X4_settle (up2 (up2 (up2 (up2 (up2 sh 0 (upd (upd (upd (upd (upd (upd (upd (upd (upd (sh 0) 0 (so 0 0)) 1 (so 0 1)) 6 (so 0 6)) 7 (so 0 7)) 8 (-9)) 9 (-9)) 10 (so 0 10)) 11 (-9)) 12 (so 0 12))) 1 g1) 2 g2) 3 g3) 4 g4)) := hw326
            obtain ⟨w329, w330⟩ := hw326
            have k332 : m328 = (J_X4_settle (up2 (up2 (up2 (up2 (up2 sh 0 (upd (upd (upd (upd (upd (upd (upd (upd (upd (sh 0) 0 (so 0 0)) 1 (so 0 1)) 6 (so 0 6)) 7 (so 0 7)) 8 (-9)) 9 (-9)) 10 (so 0 10)) 11 (-9)) 12 (so 0 12))) 1 g1) 2 g2) 3 g3) 4 g4)) := congrArg (fun z => z) w330
            have hlit333 : ((-9) : Int32).toInt = -9 := by decide
            have hlit334 : ((-9) : Int32).toInt = -9 := by decide
            have hlit335 : ((-9) : Int32).toInt = -9 := by decide
            rw [hQ]
            exact x_v cx hr ((so 0 0), (so 0 1), g1, g2, g3, g4, (so 0 6), (so 0 7), (-9), (-9), (so 0 10), (-9), (so 0 12), m328) hP hD hS ⟨(show 0 ≤ (so 0 0).toInt ∧ (so 0 0).toInt ≤ 5 from by omega), (show 0 ≤ (so 0 1).toInt ∧ (so 0 1).toInt ≤ 4 from by omega), (show 0 ≤ (so 0 12).toInt ∧ (so 0 12).toInt ≤ 5 from by omega), ag2, ag3, (show SUok m328 from by assumption), (show (so 0 0).toInt = (so 0 0).toInt from by omega), (show ((so 0 0), (so 0 1), g1, g2, g3, g4, (so 0 6), (so 0 7), ((-9) : Int32), ((-9) : Int32), (so 0 10), ((-9) : Int32), (so 0 12), m328) = J_X4_copy sh so p0 from by subst eg1 eg2 eg3 eg4 e5 e197 e297 e299 e324 k332; first | (refine Eq.symm ?_; refine Eq.trans (if_neg c6) ?_; refine Eq.trans (if_neg c198) ?_; refine Eq.trans (if_pos c298) ?_; refine Eq.trans (if_neg c300) ?_; refine Eq.trans (if_pos c325) ?_; rfl) | (unfold J_X4_copy; try dsimp only; rw [if_neg c6, if_neg c198, if_pos c298, if_neg c300, if_pos c325]))⟩ dX4_copy_188
          · have f325 : ¬ v324.toInt = 0 := f_ne rfl (by decide) c325
            refine lv_iconst (v := 0) hx hb dX4_copy_173 (by decide) ?_
            refine lv_goto (tgt := 181) hx hb dX4_copy_174 (by decide) ?_
            refine g_pt cx hP hD hS iw_X4_copy_X4 tyX4 tyX4_ok nmX4 0 rfl rfl 12 (by decide) rfl fw_X4_copy_63 (ty := .int) rfl rfl rfl (Nat.le_of_ble_eq_true rfl) dX4_copy_181 (fun H locs hP hD hS => ?_)
            have hP : va_P D vwCl [cell190_ qh so (-9) (-9) (-9) 0, (qh 1, .inl (k 0, 5, .inl g1)), (qh 2, .inl (k 0, 5, .inl g2)), (qh 3, .inl (k 0, 3, .inl g3)), (qh 4, .inl (k 0, 3, .inl g4)), cell2_ k qh sh, cell32_ qo so, cell0_ k qo so, cell1_ k qo so, cell4_ k qo so, cell3_ k qo so, cell2_ k qo so] H := hP
            have hD : va_D A [cell190_ qh so (-9) (-9) (-9) 0, (qh 1, .inl (k 0, 5, .inl g1)), (qh 2, .inl (k 0, 5, .inl g2)), (qh 3, .inl (k 0, 3, .inl g3)), (qh 4, .inl (k 0, 3, .inl g4)), cell2_ k qh sh, cell32_ qo so, cell0_ k qo so, cell1_ k qo so, cell4_ k qo so, cell3_ k qo so, cell2_ k qo so] := hD
            have hlit336 : (0 : Int32).toInt = 0 := by decide
            refine lv_aload_n hx hb dX4_copy_184 rfl (lv_at hl 0 rfl) ?_
            refine g_v (w1 := fun (u : (Nat → Int32)) => [cell190_ qh so (-9) (-9) (-9) 0, (qh 1, .inl (k 0, 5, .inl g1)), (qh 2, .inl (k 0, 5, .inl g2)), (qh 3, .inl (k 0, 3, .inl g3)), (qh 4, .inl (k 0, 3, .inl g4)), (qh 5, .inl (k 0, 525, .inl u))]) (g_runV (wc := [cell190_ qh so (-9) (-9) (-9) 0, (qh 1, .inl (k 0, 5, .inl g1)), (qh 2, .inl (k 0, 5, .inl g2)), (qh 3, .inl (k 0, 3, .inl g3)), (qh 4, .inl (k 0, 3, .inl g4)), cell2_ k qh sh]) (rest := []) cx hP hD hS [0, 1, 2, 3, 4, 5] rfl (by decide) [] (c_X4_settle l D k b qh (up2 (up2 (up2 (up2 (up2 sh 0 (upd (upd (upd (upd (upd (upd (upd (upd (upd (sh 0) 0 (so 0 0)) 1 (so 0 1)) 6 (so 0 6)) 7 (so 0 7)) 8 (-9)) 9 (-9)) 10 (so 0 10)) 11 (-9)) 12 0)) 1 g1) 2 g2) 3 g3) 4 g4) H.size (show 0 ≤ (0 : Int32).toInt ∧ (0 : Int32).toInt ≤ 5 from by first | decide | omega) ag3) gX4_copy_X4_settle rfl rfl rfl nd_X4_settle ⟨Nat.le_of_ble_eq_true rfl, Nat.le_of_ble_eq_true rfl⟩ (ci := 2) (q0 := 0) rfl rfl rfl hl.1 rfl (Nat.le_of_ble_eq_true rfl) ⟨Nat.zero_le _, Nat.zero_le _⟩ dX4_copy_185) cx.2.2.1 hP hD hS [0, 1, 2, 3, 4, 5] rfl (fun _ => rfl) (fun u338 H locs hw337 hP hD hS => ?_)
            obtain ⟨m339, rfl⟩ : ∃ z, z = u338 := ⟨_, rfl⟩
            have hP : va_P D vwCl [cell190_ qh so (-9) (-9) (-9) 0, (qh 1, .inl (k 0, 5, .inl g1)), (qh 2, .inl (k 0, 5, .inl g2)), (qh 3, .inl (k 0, 3, .inl g3)), (qh 4, .inl (k 0, 3, .inl g4)), (qh 5, .inl (k 0, 525, .inl m339)), cell32_ qo so, cell0_ k qo so, cell1_ k qo so, cell4_ k qo so, cell3_ k qo so, cell2_ k qo so] H := hP
            have hD : va_D A [cell190_ qh so (-9) (-9) (-9) 0, (qh 1, .inl (k 0, 5, .inl g1)), (qh 2, .inl (k 0, 5, .inl g2)), (qh 3, .inl (k 0, 3, .inl g3)), (qh 4, .inl (k 0, 3, .inl g4)), (qh 5, .inl (k 0, 525, .inl m339)), cell32_ qo so, cell0_ k qo so, cell1_ k qo so, cell4_ k qo so, cell3_ k qo so, cell2_ k qo so] := hD
            replace hw337 : (SUok m339) ∧ (m339 = J_X4_settle (up2 (up2 (up2 (up2 (up2 sh 0 (upd (upd (upd (upd (upd (upd (upd (upd (upd (sh 0) 0 (so 0 0)) 1 (so 0 1)) 6 (so 0 6)) 7 (so 0 7)) 8 (-9)) 9 (-9)) 10 (so 0 10)) 11 (-9)) 12 0)) 1 g1) 2 g2) 3 g3) 4 g4)) := hw337
            obtain ⟨w340, w341⟩ := hw337
            have k343 : m339 = (J_X4_settle (up2 (up2 (up2 (up2 (up2 sh 0 (upd (upd (upd (upd (upd (upd (upd (upd (upd (sh 0) 0 (so 0 0)) 1 (so 0 1)) 6 (so 0 6)) 7 (so 0 7)) 8 (-9)) 9 (-9)) 10 (so 0 10)) 11 (-9)) 12 0)) 1 g1) 2 g2) 3 g3) 4 g4)) := congrArg (fun z => z) w341
            have hlit344 : ((-9) : Int32).toInt = -9 := by decide
            have hlit345 : ((-9) : Int32).toInt = -9 := by decide
            have hlit346 : ((-9) : Int32).toInt = -9 := by decide
            have hlit347 : (0 : Int32).toInt = 0 := by decide
            rw [hQ]
            exact x_v cx hr ((so 0 0), (so 0 1), g1, g2, g3, g4, (so 0 6), (so 0 7), (-9), (-9), (so 0 10), (-9), 0, m339) hP hD hS ⟨(show 0 ≤ (so 0 0).toInt ∧ (so 0 0).toInt ≤ 5 from by omega), (show 0 ≤ (so 0 1).toInt ∧ (so 0 1).toInt ≤ 4 from by omega), (show 0 ≤ (0 : Int32).toInt ∧ (0 : Int32).toInt ≤ 5 from by omega), ag2, ag3, (show SUok m339 from by assumption), (show (so 0 0).toInt = (so 0 0).toInt from by omega), (show ((so 0 0), (so 0 1), g1, g2, g3, g4, (so 0 6), (so 0 7), ((-9) : Int32), ((-9) : Int32), (so 0 10), ((-9) : Int32), (0 : Int32), m339) = J_X4_copy sh so p0 from by subst eg1 eg2 eg3 eg4 e5 e197 e297 e299 e324 k343; first | (refine Eq.symm ?_; refine Eq.trans (if_neg c6) ?_; refine Eq.trans (if_neg c198) ?_; refine Eq.trans (if_pos c298) ?_; refine Eq.trans (if_neg c300) ?_; refine Eq.trans (if_neg c325) ?_; rfl) | (unfold J_X4_copy; try dsimp only; rw [if_neg c6, if_neg c198, if_pos c298, if_neg c300, if_neg c325]))⟩ dX4_copy_188
      · have f298 : ¬ v297.toInt = 0 := f_ne rfl (by decide) c298
        refine lv_bipush (v := (-9)) hx hb dX4_copy_133 (by decide) ?_
        refine lv_goto (tgt := 142) hx hb dX4_copy_135 (by decide) ?_
        refine g_pt cx hP hD hS iw_X4_copy_X4 tyX4 tyX4_ok nmX4 0 rfl rfl 10 (by decide) rfl fw_X4_copy_57 (ty := .int) rfl rfl rfl (Nat.le_of_ble_eq_true rfl) dX4_copy_142 (fun H locs hP hD hS => ?_)
        have hP : va_P D vwCl [(qh 0, .inr (2, [.int (so 0 0), .int (so 0 1), .ref (qh 1), .ref (qh 2), .ref (qh 3), .ref (qh 4), .int (so 0 6), .int (so 0 7), .int (-9), .int (-9), .int (-9), .int (sh 0 11), .int (sh 0 12), .ref (qh 5)])), (qh 1, .inl (k 0, 5, .inl g1)), (qh 2, .inl (k 0, 5, .inl g2)), (qh 3, .inl (k 0, 3, .inl g3)), (qh 4, .inl (k 0, 3, .inl g4)), cell2_ k qh sh, cell32_ qo so, cell0_ k qo so, cell1_ k qo so, cell4_ k qo so, cell3_ k qo so, cell2_ k qo so] H := hP
        have hD : va_D A [(qh 0, .inr (2, [.int (so 0 0), .int (so 0 1), .ref (qh 1), .ref (qh 2), .ref (qh 3), .ref (qh 4), .int (so 0 6), .int (so 0 7), .int (-9), .int (-9), .int (-9), .int (sh 0 11), .int (sh 0 12), .ref (qh 5)])), (qh 1, .inl (k 0, 5, .inl g1)), (qh 2, .inl (k 0, 5, .inl g2)), (qh 3, .inl (k 0, 3, .inl g3)), (qh 4, .inl (k 0, 3, .inl g4)), cell2_ k qh sh, cell32_ qo so, cell0_ k qo so, cell1_ k qo so, cell4_ k qo so, cell3_ k qo so, cell2_ k qo so] := hD
        have hlit348 : ((-9) : Int32).toInt = -9 := by decide
        refine lv_aload_n hx hb dX4_copy_145 rfl (lv_at hl 0 rfl) ?_
        refine lv_iload_n hx hb dX4_copy_146 rfl (lv_at hl 2 rfl) ?_
        refine lv_bipush (v := 8) hx hb dX4_copy_147 (by decide) ?_
        refine lv_iand hx hb dX4_copy_149 (lv_topi (fun v349 e349 => ?_))
        have t349 : 0 ≤ v349.toInt ∧ v349.toInt ≤ 8 := by rw [e349]; exact and_r (by decide) (by omega)
        refine lv_if_eq (tgt := 158) hx hb dX4_copy_150 (by decide) (fun c350 => ?_) (fun c350 => ?_)
        · have f350 : v349.toInt = 0 := f_eq rfl (by decide) c350
          refine lv_aload_n hx hb dX4_copy_158 rfl (lv_at hl 1 rfl) ?_
          refine g_get cx hP iw_X4_copy_X4 6 rfl rfl 11 (by decide) rfl fw_X4_copy_60 rfl dX4_copy_159 ?_
          refine g_pt cx hP hD hS iw_X4_copy_X4 tyX4 tyX4_ok nmX4 0 rfl rfl 11 (by decide) rfl fw_X4_copy_60 (ty := .int) rfl rfl rfl (Nat.le_of_ble_eq_true rfl) dX4_copy_162 (fun H locs hP hD hS => ?_)
          have hP : va_P D vwCl [(qh 0, .inr (2, [.int (so 0 0), .int (so 0 1), .ref (qh 1), .ref (qh 2), .ref (qh 3), .ref (qh 4), .int (so 0 6), .int (so 0 7), .int (-9), .int (-9), .int (-9), .int (so 0 11), .int (sh 0 12), .ref (qh 5)])), (qh 1, .inl (k 0, 5, .inl g1)), (qh 2, .inl (k 0, 5, .inl g2)), (qh 3, .inl (k 0, 3, .inl g3)), (qh 4, .inl (k 0, 3, .inl g4)), cell2_ k qh sh, cell32_ qo so, cell0_ k qo so, cell1_ k qo so, cell4_ k qo so, cell3_ k qo so, cell2_ k qo so] H := hP
          have hD : va_D A [(qh 0, .inr (2, [.int (so 0 0), .int (so 0 1), .ref (qh 1), .ref (qh 2), .ref (qh 3), .ref (qh 4), .int (so 0 6), .int (so 0 7), .int (-9), .int (-9), .int (-9), .int (so 0 11), .int (sh 0 12), .ref (qh 5)])), (qh 1, .inl (k 0, 5, .inl g1)), (qh 2, .inl (k 0, 5, .inl g2)), (qh 3, .inl (k 0, 3, .inl g3)), (qh 4, .inl (k 0, 3, .inl g4)), cell2_ k qh sh, cell32_ qo so, cell0_ k qo so, cell1_ k qo so, cell4_ k qo so, cell3_ k qo so, cell2_ k qo so] := hD
          refine lv_aload_n hx hb dX4_copy_165 rfl (lv_at hl 0 rfl) ?_
          refine lv_iload_n hx hb dX4_copy_166 rfl (lv_at hl 2 rfl) ?_
          refine lv_bipush (v := 8) hx hb dX4_copy_167 (by decide) ?_
          refine lv_iand hx hb dX4_copy_169 (lv_topi (fun v351 e351 => ?_))
          have t351 : 0 ≤ v351.toInt ∧ v351.toInt ≤ 8 := by rw [e351]; exact and_r (by decide) (by omega)
          refine lv_if_eq (tgt := 177) hx hb dX4_copy_170 (by decide) (fun c352 => ?_) (fun c352 => ?_)
          · have f352 : v351.toInt = 0 := f_eq rfl (by decide) c352
            refine lv_aload_n hx hb dX4_copy_177 rfl (lv_at hl 1 rfl) ?_
            refine g_get cx hP iw_X4_copy_X4 6 rfl rfl 12 (by decide) rfl fw_X4_copy_63 rfl dX4_copy_178 ?_
            refine g_pt cx hP hD hS iw_X4_copy_X4 tyX4 tyX4_ok nmX4 0 rfl rfl 12 (by decide) rfl fw_X4_copy_63 (ty := .int) rfl rfl rfl (Nat.le_of_ble_eq_true rfl) dX4_copy_181 (fun H locs hP hD hS => ?_)
            have hP : va_P D vwCl [cell191_ qh so (-9) (-9) (-9), (qh 1, .inl (k 0, 5, .inl g1)), (qh 2, .inl (k 0, 5, .inl g2)), (qh 3, .inl (k 0, 3, .inl g3)), (qh 4, .inl (k 0, 3, .inl g4)), cell2_ k qh sh, cell32_ qo so, cell0_ k qo so, cell1_ k qo so, cell4_ k qo so, cell3_ k qo so, cell2_ k qo so] H := hP
            have hD : va_D A [cell191_ qh so (-9) (-9) (-9), (qh 1, .inl (k 0, 5, .inl g1)), (qh 2, .inl (k 0, 5, .inl g2)), (qh 3, .inl (k 0, 3, .inl g3)), (qh 4, .inl (k 0, 3, .inl g4)), cell2_ k qh sh, cell32_ qo so, cell0_ k qo so, cell1_ k qo so, cell4_ k qo so, cell3_ k qo so, cell2_ k qo so] := hD
            refine lv_aload_n hx hb dX4_copy_184 rfl (lv_at hl 0 rfl) ?_
            refine g_v (w1 := fun (u : (Nat → Int32)) => [cell191_ qh so (-9) (-9) (-9), (qh 1, .inl (k 0, 5, .inl g1)), (qh 2, .inl (k 0, 5, .inl g2)), (qh 3, .inl (k 0, 3, .inl g3)), (qh 4, .inl (k 0, 3, .inl g4)), (qh 5, .inl (k 0, 525, .inl u))]) (g_runV (wc := [cell191_ qh so (-9) (-9) (-9), (qh 1, .inl (k 0, 5, .inl g1)), (qh 2, .inl (k 0, 5, .inl g2)), (qh 3, .inl (k 0, 3, .inl g3)), (qh 4, .inl (k 0, 3, .inl g4)), cell2_ k qh sh]) (rest := []) cx hP hD hS [0, 1, 2, 3, 4, 5] rfl (by decide) [] (c_X4_settle l D k b qh (up2 (up2 (up2 (up2 (up2 sh 0 (upd (upd (upd (upd (upd (upd (upd (upd (upd (sh 0) 0 (so 0 0)) 1 (so 0 1)) 6 (so 0 6)) 7 (so 0 7)) 8 (-9)) 9 (-9)) 10 (-9)) 11 (so 0 11)) 12 (so 0 12))) 1 g1) 2 g2) 3 g3) 4 g4) H.size (show 0 ≤ (so 0 12).toInt ∧ (so 0 12).toInt ≤ 5 from by first | decide | omega) ag3) gX4_copy_X4_settle rfl rfl rfl nd_X4_settle ⟨Nat.le_of_ble_eq_true rfl, Nat.le_of_ble_eq_true rfl⟩ (ci := 2) (q0 := 0) rfl rfl rfl hl.1 rfl (Nat.le_of_ble_eq_true rfl) ⟨Nat.zero_le _, Nat.zero_le _⟩ dX4_copy_185) cx.2.2.1 hP hD hS [0, 1, 2, 3, 4, 5] rfl (fun _ => rfl) (fun u354 H locs hw353 hP hD hS => ?_)
            obtain ⟨m355, rfl⟩ : ∃ z, z = u354 := ⟨_, rfl⟩
            have hP : va_P D vwCl [cell191_ qh so (-9) (-9) (-9), (qh 1, .inl (k 0, 5, .inl g1)), (qh 2, .inl (k 0, 5, .inl g2)), (qh 3, .inl (k 0, 3, .inl g3)), (qh 4, .inl (k 0, 3, .inl g4)), (qh 5, .inl (k 0, 525, .inl m355)), cell32_ qo so, cell0_ k qo so, cell1_ k qo so, cell4_ k qo so, cell3_ k qo so, cell2_ k qo so] H := hP
            have hD : va_D A [cell191_ qh so (-9) (-9) (-9), (qh 1, .inl (k 0, 5, .inl g1)), (qh 2, .inl (k 0, 5, .inl g2)), (qh 3, .inl (k 0, 3, .inl g3)), (qh 4, .inl (k 0, 3, .inl g4)), (qh 5, .inl (k 0, 525, .inl m355)), cell32_ qo so, cell0_ k qo so, cell1_ k qo so, cell4_ k qo so, cell3_ k qo so, cell2_ k qo so] := hD
            replace hw353 : (SUok m355) ∧ (m355 = J_X4_settle (up2 (up2 (up2 (up2 (up2 sh 0 (upd (upd (upd (upd (upd (upd (upd (upd (upd (sh 0) 0 (so 0 0)) 1 (so 0 1)) 6 (so 0 6)) 7 (so 0 7)) 8 (-9)) 9 (-9)) 10 (-9)) 11 (so 0 11)) 12 (so 0 12))) 1 g1) 2 g2) 3 g3) 4 g4)) := hw353
            obtain ⟨w356, w357⟩ := hw353
            have k359 : m355 = (J_X4_settle (up2 (up2 (up2 (up2 (up2 sh 0 (upd (upd (upd (upd (upd (upd (upd (upd (upd (sh 0) 0 (so 0 0)) 1 (so 0 1)) 6 (so 0 6)) 7 (so 0 7)) 8 (-9)) 9 (-9)) 10 (-9)) 11 (so 0 11)) 12 (so 0 12))) 1 g1) 2 g2) 3 g3) 4 g4)) := congrArg (fun z => z) w357
            have hlit360 : ((-9) : Int32).toInt = -9 := by decide
            have hlit361 : ((-9) : Int32).toInt = -9 := by decide
            have hlit362 : ((-9) : Int32).toInt = -9 := by decide
            rw [hQ]
            exact x_v cx hr ((so 0 0), (so 0 1), g1, g2, g3, g4, (so 0 6), (so 0 7), (-9), (-9), (-9), (so 0 11), (so 0 12), m355) hP hD hS ⟨(show 0 ≤ (so 0 0).toInt ∧ (so 0 0).toInt ≤ 5 from by omega), (show 0 ≤ (so 0 1).toInt ∧ (so 0 1).toInt ≤ 4 from by omega), (show 0 ≤ (so 0 12).toInt ∧ (so 0 12).toInt ≤ 5 from by omega), ag2, ag3, (show SUok m355 from by assumption), (show (so 0 0).toInt = (so 0 0).toInt from by omega), (show ((so 0 0), (so 0 1), g1, g2, g3, g4, (so 0 6), (so 0 7), ((-9) : Int32), ((-9) : Int32), ((-9) : Int32), (so 0 11), (so 0 12), m355) = J_X4_copy sh so p0 from by subst eg1 eg2 eg3 eg4 e5 e197 e297 e349 e351 k359; first | (refine Eq.symm ?_; refine Eq.trans (if_neg c6) ?_; refine Eq.trans (if_neg c198) ?_; refine Eq.trans (if_neg c298) ?_; refine Eq.trans (if_pos c350) ?_; refine Eq.trans (if_pos c352) ?_; rfl) | (unfold J_X4_copy; try dsimp only; rw [if_neg c6, if_neg c198, if_neg c298, if_pos c350, if_pos c352]))⟩ dX4_copy_188
          · have f352 : ¬ v351.toInt = 0 := f_ne rfl (by decide) c352
            refine lv_iconst (v := 0) hx hb dX4_copy_173 (by decide) ?_
            refine lv_goto (tgt := 181) hx hb dX4_copy_174 (by decide) ?_
            refine g_pt cx hP hD hS iw_X4_copy_X4 tyX4 tyX4_ok nmX4 0 rfl rfl 12 (by decide) rfl fw_X4_copy_63 (ty := .int) rfl rfl rfl (Nat.le_of_ble_eq_true rfl) dX4_copy_181 (fun H locs hP hD hS => ?_)
            have hP : va_P D vwCl [cell192_ qh so (-9) (-9) (-9) 0, (qh 1, .inl (k 0, 5, .inl g1)), (qh 2, .inl (k 0, 5, .inl g2)), (qh 3, .inl (k 0, 3, .inl g3)), (qh 4, .inl (k 0, 3, .inl g4)), cell2_ k qh sh, cell32_ qo so, cell0_ k qo so, cell1_ k qo so, cell4_ k qo so, cell3_ k qo so, cell2_ k qo so] H := hP
            have hD : va_D A [cell192_ qh so (-9) (-9) (-9) 0, (qh 1, .inl (k 0, 5, .inl g1)), (qh 2, .inl (k 0, 5, .inl g2)), (qh 3, .inl (k 0, 3, .inl g3)), (qh 4, .inl (k 0, 3, .inl g4)), cell2_ k qh sh, cell32_ qo so, cell0_ k qo so, cell1_ k qo so, cell4_ k qo so, cell3_ k qo so, cell2_ k qo so] := hD
            have hlit363 : (0 : Int32).toInt = 0 := by decide
            refine lv_aload_n hx hb dX4_copy_184 rfl (lv_at hl 0 rfl) ?_
            refine g_v (w1 := fun (u : (Nat → Int32)) => [cell192_ qh so (-9) (-9) (-9) 0, (qh 1, .inl (k 0, 5, .inl g1)), (qh 2, .inl (k 0, 5, .inl g2)), (qh 3, .inl (k 0, 3, .inl g3)), (qh 4, .inl (k 0, 3, .inl g4)), (qh 5, .inl (k 0, 525, .inl u))]) (g_runV (wc := [cell192_ qh so (-9) (-9) (-9) 0, (qh 1, .inl (k 0, 5, .inl g1)), (qh 2, .inl (k 0, 5, .inl g2)), (qh 3, .inl (k 0, 3, .inl g3)), (qh 4, .inl (k 0, 3, .inl g4)), cell2_ k qh sh]) (rest := []) cx hP hD hS [0, 1, 2, 3, 4, 5] rfl (by decide) [] (c_X4_settle l D k b qh (up2 (up2 (up2 (up2 (up2 sh 0 (upd (upd (upd (upd (upd (upd (upd (upd (upd (sh 0) 0 (so 0 0)) 1 (so 0 1)) 6 (so 0 6)) 7 (so 0 7)) 8 (-9)) 9 (-9)) 10 (-9)) 11 (so 0 11)) 12 0)) 1 g1) 2 g2) 3 g3) 4 g4) H.size (show 0 ≤ (0 : Int32).toInt ∧ (0 : Int32).toInt ≤ 5 from by first | decide | omega) ag3) gX4_copy_X4_settle rfl rfl rfl nd_X4_settle ⟨Nat.le_of_ble_eq_true rfl, Nat.le_of_ble_eq_true rfl⟩ (ci := 2) (q0 := 0) rfl rfl rfl hl.1 rfl (Nat.le_of_ble_eq_true rfl) ⟨Nat.zero_le _, Nat.zero_le _⟩ dX4_copy_185) cx.2.2.1 hP hD hS [0, 1, 2, 3, 4, 5] rfl (fun _ => rfl) (fun u365 H locs hw364 hP hD hS => ?_)
            obtain ⟨m366, rfl⟩ : ∃ z, z = u365 := ⟨_, rfl⟩
            have hP : va_P D vwCl [cell192_ qh so (-9) (-9) (-9) 0, (qh 1, .inl (k 0, 5, .inl g1)), (qh 2, .inl (k 0, 5, .inl g2)), (qh 3, .inl (k 0, 3, .inl g3)), (qh 4, .inl (k 0, 3, .inl g4)), (qh 5, .inl (k 0, 525, .inl m366)), cell32_ qo so, cell0_ k qo so, cell1_ k qo so, cell4_ k qo so, cell3_ k qo so, cell2_ k qo so] H := hP
            have hD : va_D A [cell192_ qh so (-9) (-9) (-9) 0, (qh 1, .inl (k 0, 5, .inl g1)), (qh 2, .inl (k 0, 5, .inl g2)), (qh 3, .inl (k 0, 3, .inl g3)), (qh 4, .inl (k 0, 3, .inl g4)), (qh 5, .inl (k 0, 525, .inl m366)), cell32_ qo so, cell0_ k qo so, cell1_ k qo so, cell4_ k qo so, cell3_ k qo so, cell2_ k qo so] := hD
            replace hw364 : (SUok m366) ∧ (m366 = J_X4_settle (up2 (up2 (up2 (up2 (up2 sh 0 (upd (upd (upd (upd (upd (upd (upd (upd (upd (sh 0) 0 (so 0 0)) 1 (so 0 1)) 6 (so 0 6)) 7 (so 0 7)) 8 (-9)) 9 (-9)) 10 (-9)) 11 (so 0 11)) 12 0)) 1 g1) 2 g2) 3 g3) 4 g4)) := hw364
            obtain ⟨w367, w368⟩ := hw364
            have k370 : m366 = (J_X4_settle (up2 (up2 (up2 (up2 (up2 sh 0 (upd (upd (upd (upd (upd (upd (upd (upd (upd (sh 0) 0 (so 0 0)) 1 (so 0 1)) 6 (so 0 6)) 7 (so 0 7)) 8 (-9)) 9 (-9)) 10 (-9)) 11 (so 0 11)) 12 0)) 1 g1) 2 g2) 3 g3) 4 g4)) := congrArg (fun z => z) w368
            have hlit371 : ((-9) : Int32).toInt = -9 := by decide
            have hlit372 : ((-9) : Int32).toInt = -9 := by decide
            have hlit373 : ((-9) : Int32).toInt = -9 := by decide
            have hlit374 : (0 : Int32).toInt = 0 := by decide
            rw [hQ]
            exact x_v cx hr ((so 0 0), (so 0 1), g1, g2, g3, g4, (so 0 6), (so 0 7), (-9), (-9), (-9), (so 0 11), 0, m366) hP hD hS ⟨(show 0 ≤ (so 0 0).toInt ∧ (so 0 0).toInt ≤ 5 from by omega), (show 0 ≤ (so 0 1).toInt ∧ (so 0 1).toInt ≤ 4 from by omega), (show 0 ≤ (0 : Int32).toInt ∧ (0 : Int32).toInt ≤ 5 from by omega), ag2, ag3, (show SUok m366 from by assumption), (show (so 0 0).toInt = (so 0 0).toInt from by omega), (show ((so 0 0), (so 0 1), g1, g2, g3, g4, (so 0 6), (so 0 7), ((-9) : Int32), ((-9) : Int32), ((-9) : Int32), (so 0 11), (0 : Int32), m366) = J_X4_copy sh so p0 from by subst eg1 eg2 eg3 eg4 e5 e197 e297 e349 e351 k370; first | (refine Eq.symm ?_; refine Eq.trans (if_neg c6) ?_; refine Eq.trans (if_neg c198) ?_; refine Eq.trans (if_neg c298) ?_; refine Eq.trans (if_pos c350) ?_; refine Eq.trans (if_neg c352) ?_; rfl) | (unfold J_X4_copy; try dsimp only; rw [if_neg c6, if_neg c198, if_neg c298, if_pos c350, if_neg c352]))⟩ dX4_copy_188
        · have f350 : ¬ v349.toInt = 0 := f_ne rfl (by decide) c350
          refine lv_bipush (v := (-9)) hx hb dX4_copy_153 (by decide) ?_
          refine lv_goto (tgt := 162) hx hb dX4_copy_155 (by decide) ?_
          refine g_pt cx hP hD hS iw_X4_copy_X4 tyX4 tyX4_ok nmX4 0 rfl rfl 11 (by decide) rfl fw_X4_copy_60 (ty := .int) rfl rfl rfl (Nat.le_of_ble_eq_true rfl) dX4_copy_162 (fun H locs hP hD hS => ?_)
          have hP : va_P D vwCl [(qh 0, .inr (2, [.int (so 0 0), .int (so 0 1), .ref (qh 1), .ref (qh 2), .ref (qh 3), .ref (qh 4), .int (so 0 6), .int (so 0 7), .int (-9), .int (-9), .int (-9), .int (-9), .int (sh 0 12), .ref (qh 5)])), (qh 1, .inl (k 0, 5, .inl g1)), (qh 2, .inl (k 0, 5, .inl g2)), (qh 3, .inl (k 0, 3, .inl g3)), (qh 4, .inl (k 0, 3, .inl g4)), cell2_ k qh sh, cell32_ qo so, cell0_ k qo so, cell1_ k qo so, cell4_ k qo so, cell3_ k qo so, cell2_ k qo so] H := hP
          have hD : va_D A [(qh 0, .inr (2, [.int (so 0 0), .int (so 0 1), .ref (qh 1), .ref (qh 2), .ref (qh 3), .ref (qh 4), .int (so 0 6), .int (so 0 7), .int (-9), .int (-9), .int (-9), .int (-9), .int (sh 0 12), .ref (qh 5)])), (qh 1, .inl (k 0, 5, .inl g1)), (qh 2, .inl (k 0, 5, .inl g2)), (qh 3, .inl (k 0, 3, .inl g3)), (qh 4, .inl (k 0, 3, .inl g4)), cell2_ k qh sh, cell32_ qo so, cell0_ k qo so, cell1_ k qo so, cell4_ k qo so, cell3_ k qo so, cell2_ k qo so] := hD
          have hlit375 : ((-9) : Int32).toInt = -9 := by decide
          refine lv_aload_n hx hb dX4_copy_165 rfl (lv_at hl 0 rfl) ?_
          refine lv_iload_n hx hb dX4_copy_166 rfl (lv_at hl 2 rfl) ?_
          refine lv_bipush (v := 8) hx hb dX4_copy_167 (by decide) ?_
          refine lv_iand hx hb dX4_copy_169 (lv_topi (fun v376 e376 => ?_))
          have t376 : 0 ≤ v376.toInt ∧ v376.toInt ≤ 8 := by rw [e376]; exact and_r (by decide) (by omega)
          refine lv_if_eq (tgt := 177) hx hb dX4_copy_170 (by decide) (fun c377 => ?_) (fun c377 => ?_)
          · have f377 : v376.toInt = 0 := f_eq rfl (by decide) c377
            refine lv_aload_n hx hb dX4_copy_177 rfl (lv_at hl 1 rfl) ?_
            refine g_get cx hP iw_X4_copy_X4 6 rfl rfl 12 (by decide) rfl fw_X4_copy_63 rfl dX4_copy_178 ?_
            refine g_pt cx hP hD hS iw_X4_copy_X4 tyX4 tyX4_ok nmX4 0 rfl rfl 12 (by decide) rfl fw_X4_copy_63 (ty := .int) rfl rfl rfl (Nat.le_of_ble_eq_true rfl) dX4_copy_181 (fun H locs hP hD hS => ?_)
            have hP : va_P D vwCl [cell193_ qh so (-9) (-9) (-9) (-9), (qh 1, .inl (k 0, 5, .inl g1)), (qh 2, .inl (k 0, 5, .inl g2)), (qh 3, .inl (k 0, 3, .inl g3)), (qh 4, .inl (k 0, 3, .inl g4)), cell2_ k qh sh, cell32_ qo so, cell0_ k qo so, cell1_ k qo so, cell4_ k qo so, cell3_ k qo so, cell2_ k qo so] H := hP
            have hD : va_D A [cell193_ qh so (-9) (-9) (-9) (-9), (qh 1, .inl (k 0, 5, .inl g1)), (qh 2, .inl (k 0, 5, .inl g2)), (qh 3, .inl (k 0, 3, .inl g3)), (qh 4, .inl (k 0, 3, .inl g4)), cell2_ k qh sh, cell32_ qo so, cell0_ k qo so, cell1_ k qo so, cell4_ k qo so, cell3_ k qo so, cell2_ k qo so] := hD
            refine lv_aload_n hx hb dX4_copy_184 rfl (lv_at hl 0 rfl) ?_
            refine g_v (w1 := fun (u : (Nat → Int32)) => [cell193_ qh so (-9) (-9) (-9) (-9), (qh 1, .inl (k 0, 5, .inl g1)), (qh 2, .inl (k 0, 5, .inl g2)), (qh 3, .inl (k 0, 3, .inl g3)), (qh 4, .inl (k 0, 3, .inl g4)), (qh 5, .inl (k 0, 525, .inl u))]) (g_runV (wc := [cell193_ qh so (-9) (-9) (-9) (-9), (qh 1, .inl (k 0, 5, .inl g1)), (qh 2, .inl (k 0, 5, .inl g2)), (qh 3, .inl (k 0, 3, .inl g3)), (qh 4, .inl (k 0, 3, .inl g4)), cell2_ k qh sh]) (rest := []) cx hP hD hS [0, 1, 2, 3, 4, 5] rfl (by decide) [] (c_X4_settle l D k b qh (up2 (up2 (up2 (up2 (up2 sh 0 (upd (upd (upd (upd (upd (upd (upd (upd (upd (sh 0) 0 (so 0 0)) 1 (so 0 1)) 6 (so 0 6)) 7 (so 0 7)) 8 (-9)) 9 (-9)) 10 (-9)) 11 (-9)) 12 (so 0 12))) 1 g1) 2 g2) 3 g3) 4 g4) H.size (show 0 ≤ (so 0 12).toInt ∧ (so 0 12).toInt ≤ 5 from by first | decide | omega) ag3) gX4_copy_X4_settle rfl rfl rfl nd_X4_settle ⟨Nat.le_of_ble_eq_true rfl, Nat.le_of_ble_eq_true rfl⟩ (ci := 2) (q0 := 0) rfl rfl rfl hl.1 rfl (Nat.le_of_ble_eq_true rfl) ⟨Nat.zero_le _, Nat.zero_le _⟩ dX4_copy_185) cx.2.2.1 hP hD hS [0, 1, 2, 3, 4, 5] rfl (fun _ => rfl) (fun u379 H locs hw378 hP hD hS => ?_)
            obtain ⟨m380, rfl⟩ : ∃ z, z = u379 := ⟨_, rfl⟩
            have hP : va_P D vwCl [cell193_ qh so (-9) (-9) (-9) (-9), (qh 1, .inl (k 0, 5, .inl g1)), (qh 2, .inl (k 0, 5, .inl g2)), (qh 3, .inl (k 0, 3, .inl g3)), (qh 4, .inl (k 0, 3, .inl g4)), (qh 5, .inl (k 0, 525, .inl m380)), cell32_ qo so, cell0_ k qo so, cell1_ k qo so, cell4_ k qo so, cell3_ k qo so, cell2_ k qo so] H := hP
            have hD : va_D A [cell193_ qh so (-9) (-9) (-9) (-9), (qh 1, .inl (k 0, 5, .inl g1)), (qh 2, .inl (k 0, 5, .inl g2)), (qh 3, .inl (k 0, 3, .inl g3)), (qh 4, .inl (k 0, 3, .inl g4)), (qh 5, .inl (k 0, 525, .inl m380)), cell32_ qo so, cell0_ k qo so, cell1_ k qo so, cell4_ k qo so, cell3_ k qo so, cell2_ k qo so] := hD
            replace hw378 : (SUok m380) ∧ (m380 = J_X4_settle (up2 (up2 (up2 (up2 (up2 sh 0 (upd (upd (upd (upd (upd (upd (upd (upd (upd (sh 0) 0 (so 0 0)) 1 (so 0 1)) 6 (so 0 6)) 7 (so 0 7)) 8 (-9)) 9 (-9)) 10 (-9)) 11 (-9)) 12 (so 0 12))) 1 g1) 2 g2) 3 g3) 4 g4)) := hw378
            obtain ⟨w381, w382⟩ := hw378
            have k384 : m380 = (J_X4_settle (up2 (up2 (up2 (up2 (up2 sh 0 (upd (upd (upd (upd (upd (upd (upd (upd (upd (sh 0) 0 (so 0 0)) 1 (so 0 1)) 6 (so 0 6)) 7 (so 0 7)) 8 (-9)) 9 (-9)) 10 (-9)) 11 (-9)) 12 (so 0 12))) 1 g1) 2 g2) 3 g3) 4 g4)) := congrArg (fun z => z) w382
            have hlit385 : ((-9) : Int32).toInt = -9 := by decide
            have hlit386 : ((-9) : Int32).toInt = -9 := by decide
            have hlit387 : ((-9) : Int32).toInt = -9 := by decide
            have hlit388 : ((-9) : Int32).toInt = -9 := by decide
            rw [hQ]
            exact x_v cx hr ((so 0 0), (so 0 1), g1, g2, g3, g4, (so 0 6), (so 0 7), (-9), (-9), (-9), (-9), (so 0 12), m380) hP hD hS ⟨(show 0 ≤ (so 0 0).toInt ∧ (so 0 0).toInt ≤ 5 from by omega), (show 0 ≤ (so 0 1).toInt ∧ (so 0 1).toInt ≤ 4 from by omega), (show 0 ≤ (so 0 12).toInt ∧ (so 0 12).toInt ≤ 5 from by omega), ag2, ag3, (show SUok m380 from by assumption), (show (so 0 0).toInt = (so 0 0).toInt from by omega), (show ((so 0 0), (so 0 1), g1, g2, g3, g4, (so 0 6), (so 0 7), ((-9) : Int32), ((-9) : Int32), ((-9) : Int32), ((-9) : Int32), (so 0 12), m380) = J_X4_copy sh so p0 from by subst eg1 eg2 eg3 eg4 e5 e197 e297 e349 e376 k384; first | (refine Eq.symm ?_; refine Eq.trans (if_neg c6) ?_; refine Eq.trans (if_neg c198) ?_; refine Eq.trans (if_neg c298) ?_; refine Eq.trans (if_neg c350) ?_; refine Eq.trans (if_pos c377) ?_; rfl) | (unfold J_X4_copy; try dsimp only; rw [if_neg c6, if_neg c198, if_neg c298, if_neg c350, if_pos c377]))⟩ dX4_copy_188
          · have f377 : ¬ v376.toInt = 0 := f_ne rfl (by decide) c377
            refine lv_iconst (v := 0) hx hb dX4_copy_173 (by decide) ?_
            refine lv_goto (tgt := 181) hx hb dX4_copy_174 (by decide) ?_
            refine g_pt cx hP hD hS iw_X4_copy_X4 tyX4 tyX4_ok nmX4 0 rfl rfl 12 (by decide) rfl fw_X4_copy_63 (ty := .int) rfl rfl rfl (Nat.le_of_ble_eq_true rfl) dX4_copy_181 (fun H locs hP hD hS => ?_)
            have hP : va_P D vwCl [cell82_ qh so (-9) (-9) (-9) (-9) 0, (qh 1, .inl (k 0, 5, .inl g1)), (qh 2, .inl (k 0, 5, .inl g2)), (qh 3, .inl (k 0, 3, .inl g3)), (qh 4, .inl (k 0, 3, .inl g4)), cell2_ k qh sh, cell32_ qo so, cell0_ k qo so, cell1_ k qo so, cell4_ k qo so, cell3_ k qo so, cell2_ k qo so] H := hP
            have hD : va_D A [cell82_ qh so (-9) (-9) (-9) (-9) 0, (qh 1, .inl (k 0, 5, .inl g1)), (qh 2, .inl (k 0, 5, .inl g2)), (qh 3, .inl (k 0, 3, .inl g3)), (qh 4, .inl (k 0, 3, .inl g4)), cell2_ k qh sh, cell32_ qo so, cell0_ k qo so, cell1_ k qo so, cell4_ k qo so, cell3_ k qo so, cell2_ k qo so] := hD
            have hlit389 : (0 : Int32).toInt = 0 := by decide
            refine lv_aload_n hx hb dX4_copy_184 rfl (lv_at hl 0 rfl) ?_
            refine g_v (w1 := fun (u : (Nat → Int32)) => [cell82_ qh so (-9) (-9) (-9) (-9) 0, (qh 1, .inl (k 0, 5, .inl g1)), (qh 2, .inl (k 0, 5, .inl g2)), (qh 3, .inl (k 0, 3, .inl g3)), (qh 4, .inl (k 0, 3, .inl g4)), (qh 5, .inl (k 0, 525, .inl u))]) (g_runV (wc := [cell82_ qh so (-9) (-9) (-9) (-9) 0, (qh 1, .inl (k 0, 5, .inl g1)), (qh 2, .inl (k 0, 5, .inl g2)), (qh 3, .inl (k 0, 3, .inl g3)), (qh 4, .inl (k 0, 3, .inl g4)), cell2_ k qh sh]) (rest := []) cx hP hD hS [0, 1, 2, 3, 4, 5] rfl (by decide) [] (c_X4_settle l D k b qh (up2 (up2 (up2 (up2 (up2 sh 0 (upd (upd (upd (upd (upd (upd (upd (upd (upd (sh 0) 0 (so 0 0)) 1 (so 0 1)) 6 (so 0 6)) 7 (so 0 7)) 8 (-9)) 9 (-9)) 10 (-9)) 11 (-9)) 12 0)) 1 g1) 2 g2) 3 g3) 4 g4) H.size (show 0 ≤ (0 : Int32).toInt ∧ (0 : Int32).toInt ≤ 5 from by first | decide | omega) ag3) gX4_copy_X4_settle rfl rfl rfl nd_X4_settle ⟨Nat.le_of_ble_eq_true rfl, Nat.le_of_ble_eq_true rfl⟩ (ci := 2) (q0 := 0) rfl rfl rfl hl.1 rfl (Nat.le_of_ble_eq_true rfl) ⟨Nat.zero_le _, Nat.zero_le _⟩ dX4_copy_185) cx.2.2.1 hP hD hS [0, 1, 2, 3, 4, 5] rfl (fun _ => rfl) (fun u391 H locs hw390 hP hD hS => ?_)
            obtain ⟨m392, rfl⟩ : ∃ z, z = u391 := ⟨_, rfl⟩
            have hP : va_P D vwCl [cell82_ qh so (-9) (-9) (-9) (-9) 0, (qh 1, .inl (k 0, 5, .inl g1)), (qh 2, .inl (k 0, 5, .inl g2)), (qh 3, .inl (k 0, 3, .inl g3)), (qh 4, .inl (k 0, 3, .inl g4)), (qh 5, .inl (k 0, 525, .inl m392)), cell32_ qo so, cell0_ k qo so, cell1_ k qo so, cell4_ k qo so, cell3_ k qo so, cell2_ k qo so] H := hP
            have hD : va_D A [cell82_ qh so (-9) (-9) (-9) (-9) 0, (qh 1, .inl (k 0, 5, .inl g1)), (qh 2, .inl (k 0, 5, .inl g2)), (qh 3, .inl (k 0, 3, .inl g3)), (qh 4, .inl (k 0, 3, .inl g4)), (qh 5, .inl (k 0, 525, .inl m392)), cell32_ qo so, cell0_ k qo so, cell1_ k qo so, cell4_ k qo so, cell3_ k qo so, cell2_ k qo so] := hD
            replace hw390 : (SUok m392) ∧ (m392 = J_X4_settle (up2 (up2 (up2 (up2 (up2 sh 0 (upd (upd (upd (upd (upd (upd (upd (upd (upd (sh 0) 0 (so 0 0)) 1 (so 0 1)) 6 (so 0 6)) 7 (so 0 7)) 8 (-9)) 9 (-9)) 10 (-9)) 11 (-9)) 12 0)) 1 g1) 2 g2) 3 g3) 4 g4)) := hw390
            obtain ⟨w393, w394⟩ := hw390
            have k396 : m392 = (J_X4_settle (up2 (up2 (up2 (up2 (up2 sh 0 (upd (upd (upd (upd (upd (upd (upd (upd (upd (sh 0) 0 (so 0 0)) 1 (so 0 1)) 6 (so 0 6)) 7 (so 0 7)) 8 (-9)) 9 (-9)) 10 (-9)) 11 (-9)) 12 0)) 1 g1) 2 g2) 3 g3) 4 g4)) := congrArg (fun z => z) w394
            have hlit397 : ((-9) : Int32).toInt = -9 := by decide
            have hlit398 : ((-9) : Int32).toInt = -9 := by decide
            have hlit399 : ((-9) : Int32).toInt = -9 := by decide
            have hlit400 : ((-9) : Int32).toInt = -9 := by decide
            have hlit401 : (0 : Int32).toInt = 0 := by decide
            rw [hQ]
            exact x_v cx hr ((so 0 0), (so 0 1), g1, g2, g3, g4, (so 0 6), (so 0 7), (-9), (-9), (-9), (-9), 0, m392) hP hD hS ⟨(show 0 ≤ (so 0 0).toInt ∧ (so 0 0).toInt ≤ 5 from by omega), (show 0 ≤ (so 0 1).toInt ∧ (so 0 1).toInt ≤ 4 from by omega), (show 0 ≤ (0 : Int32).toInt ∧ (0 : Int32).toInt ≤ 5 from by omega), ag2, ag3, (show SUok m392 from by assumption), (show (so 0 0).toInt = (so 0 0).toInt from by omega), (show ((so 0 0), (so 0 1), g1, g2, g3, g4, (so 0 6), (so 0 7), ((-9) : Int32), ((-9) : Int32), ((-9) : Int32), ((-9) : Int32), (0 : Int32), m392) = J_X4_copy sh so p0 from by subst eg1 eg2 eg3 eg4 e5 e197 e297 e349 e376 k396; first | (refine Eq.symm ?_; refine Eq.trans (if_neg c6) ?_; refine Eq.trans (if_neg c198) ?_; refine Eq.trans (if_neg c298) ?_; refine Eq.trans (if_neg c350) ?_; refine Eq.trans (if_neg c377) ?_; rfl) | (unfold J_X4_copy; try dsimp only; rw [if_neg c6, if_neg c198, if_neg c298, if_neg c350, if_neg c377]))⟩ dX4_copy_188
theorem fw_X4_partsTo_26 : Cond.fieldLink RX4 26 "StillInAugust$House" "sundays" "[I" ∈ wsX4_partsTo := by decide +kernel
theorem iw_X4_partsTo_X4 : ∀ w ∈ u_ws RX4 TX4 14, w ∈ wsX4_partsTo := fun _ h => List.mem_cons_of_mem _ (List.mem_append_right _ h)
def J_X4_partsTo (sh : Nat → Nat → Int32) (p0 : Int32) (p1 : Int32) : Int32 := ((sh 5) (((p0 * (15 : Int32)) + p1)).toNatClampNeg)
theorem exl_X4_partsTo_0 {sh : Nat → Nat → Int32} {p0 : Int32} {p1 : Int32} {v4 : Int32} {v1 : Int32} {v2 : Int32} (e1 : v1 = (p0 * (15 : Int32))) (e2 : v2 = (v1 + p1)) (e4 : v4 = ((sh 5) (v2).toNatClampNeg)) : v4 = J_X4_partsTo sh p0 p1 := by subst e1 e2 e4; refine Eq.symm ?_; unfold J_X4_partsTo; rfl
set_option maxHeartbeats 4000000 in
set_option maxRecDepth 100000 in
theorem c_X4_partsTo (l : Launch) (D : va_G) (k : Nat → ClassId) (b : Nat → Nat) (qh : Nat → Nat) (sh : Nat → Nat → Int32) (sz : Nat) (p0 : Int32) (p1 : Int32) (h_su : SUok (sh 5)) (hp0 : 0 ≤ p0.toInt ∧ p0.toInt ≤ 34) (hp1 : 0 ≤ p1.toInt ∧ p1.toInt ≤ 14) : MetI l D k b yX4_partsTo wsX4_partsTo ({ frames := 0, cells := 0, slots := 0, locals := 0 } : Room) [cell32_ qh sh, cell0_ k qh sh, cell1_ k qh sh, cell4_ k qh sh, cell3_ k qh sh, cell2_ k qh sh] sz [.ref (qh 0), .int p0, .int p1] (fun (r : Int32) (u : Unit) => (r = 0 ∨ totN p1.toNatClampNeg ≤ totN p0.toNatClampNeg) ∧ (r = J_X4_partsTo sh p0 p1)) (fun u => [cell32_ qh sh, cell0_ k qh sh, cell1_ k qh sh, cell4_ k qh sh, cell3_ k qh sh, cell2_ k qh sh]) := by
  refine g_enter (cc := cX4_partsTo) (maxL := 3) (ret := (some .int)) (by decide) rfl (Nat.le_of_ble_eq_true rfl) ?_
  intro p e s m below meth c A hsz hAe cx hr hP hD hS ls hl
  rw [hAe]
  refine g_q (fun Q hQ => ?_)
  have hx := cx.1.1
  have hb := cx.1.2.1
  have bp0 := i_rng p0
  have bp1 := i_rng p1
  have hl : lv_has ls 3 [(0, .ref (qh 0)), (1, .int p0), (2, .int p1)] := hl
  obtain ⟨H, eH⟩ : ∃ H : Heap, H = s.heap := ⟨_, rfl⟩
  obtain ⟨locs, el⟩ : ∃ L : List Loc, L = [] := ⟨_, rfl⟩
  have hP : va_P D vwCl [cell32_ qh sh, cell0_ k qh sh, cell1_ k qh sh, cell4_ k qh sh, cell3_ k qh sh, cell2_ k qh sh] H := by rw [eH]; exact hP
  have hD : va_D A [cell32_ qh sh, cell0_ k qh sh, cell1_ k qh sh, cell4_ k qh sh, cell3_ k qh sh, cell2_ k qh sh] := hD
  have hS : va_S A s.heap H locs := by rw [eH, el]; exact hS
  suffices goal : W p l e ({ frames := 0, cells := 0, slots := 0, locals := 0 } : Room) s m ([.ref (qh 0), .int p0, .int p1] : List Value).toArray below meth c H locs 0 0 Q (F0 m 0 ls []) by rw [eH, el] at goal; exact goal
  refine lv_aload_n hx hb dX4_partsTo_0 rfl (lv_at hl 0 rfl) ?_
  refine g_get cx hP iw_X4_partsTo_X4 0 rfl rfl 13 (by decide) rfl fw_X4_partsTo_26 rfl dX4_partsTo_1 ?_
  refine lv_iload_n hx hb dX4_partsTo_4 rfl (lv_at hl 1 rfl) ?_
  refine lv_bipush (v := 15) hx hb dX4_partsTo_5 (by decide) ?_
  refine lv_imul hx hb dX4_partsTo_7 (lv_topi (fun v1 e1 => ?_))
  have t1 : v1.toInt = p0.toInt * 15 := by rw [e1]; exact i_mul rfl (by decide) (by omega) (by omega)
  refine lv_iload_n hx hb dX4_partsTo_8 rfl (lv_at hl 2 rfl) ?_
  refine lv_iadd hx hb dX4_partsTo_9 (lv_topi (fun v2 e2 => ?_))
  have t2 : v2.toInt = v1.toInt + p1.toInt := by rw [e2]; exact i_add rfl rfl (by omega) (by omega)
  have hn3 : vp_in v2 525 := f_in (a := v2.toInt) rfl (by omega) (by omega)
  refine va_iald hx hb cx.2.1 hP 5 0 rfl rfl hn3 dX4_partsTo_10 (lv_topi (fun v4 e4 => ?_))
  have su0 := SU_get (k := p0) (b := p1) e4 h_su (by omega) ⟨by omega, by omega⟩ ⟨by omega, by omega⟩
  rw [hQ]
  exact x_i cx hr () hP hD hS ⟨(show v4 = 0 ∨ totN p1.toNatClampNeg ≤ totN p0.toNatClampNeg from su0), (show v4 = J_X4_partsTo sh p0 p1 from (exl_X4_partsTo_0 e1 e2 e4))⟩ dX4_partsTo_11
theorem nd_X3_areAtMost : yX3_areAtMost.cls ≠ "java/lang/invoke/MethodHandle" ∧ yX3_areAtMost.cls ≠ "java/lang/invoke/VarHandle" ∧ (parseMethodDescriptor yX3_areAtMost.desc).map (fun d => d.parameters.length) = some 2 := by decide +kernel
theorem nd_X4_partsTo : yX4_partsTo.cls = RX4 ∧ yX4_partsTo.cls ≠ "java/lang/invoke/MethodHandle" ∧ yX4_partsTo.cls ≠ "java/lang/invoke/VarHandle" ∧ (parseMethodDescriptor yX4_partsTo.desc).map (fun d => d.parameters.length) = some 2 := by decide +kernel
def J_X4_becomes (sh : Nat → Nat → Int32) (p0 : Int32) (p1 : Int32) : Int32 := if (J_X3_areAtMost p1 4) = 0 then (0 : Int32) else if p1 < 100 then LetF (J_X4_partsTo sh (J_X3_kind p0) (J_X3_kind p1)) (fun y18 => y18) else (0 : Int32)
theorem exl_X4_becomes_0 {sh : Nat → Nat → Int32} {p0 : Int32} {p1 : Int32} {r3 : Int32} (w4 : r3 = J_X3_areAtMost p1 (4 : Int32)) (c5 : r3 = (0 : Int32)) : (0 : Int32) = J_X4_becomes sh p0 p1 := by subst w4; refine Eq.symm ?_; unfold J_X4_becomes; refine Eq.trans (if_pos c5) ?_; rfl
theorem exl_X4_becomes_1 {sh : Nat → Nat → Int32} {p0 : Int32} {p1 : Int32} {r15 : Int32} {r3 : Int32} {r9 : Int32} {r12 : Int32} (w4 : r3 = J_X3_areAtMost p1 (4 : Int32)) (w10 : r9 = J_X3_kind p0) (w13 : r12 = J_X3_kind p1) (c5 : ¬ (r3 = (0 : Int32))) (c7 : p1 < (100 : Int32)) (w17 : r15 = J_X4_partsTo sh r9 r12) : r15 = J_X4_becomes sh p0 p1 := by subst w4 w10 w13; refine Eq.symm ?_; unfold J_X4_becomes; refine Eq.trans (if_neg c5) ?_; refine Eq.trans (if_pos c7) ?_; refine lt_e w17 ?_; rfl
theorem exl_X4_becomes_2 {sh : Nat → Nat → Int32} {p0 : Int32} {p1 : Int32} {r3 : Int32} (w4 : r3 = J_X3_areAtMost p1 (4 : Int32)) (c5 : ¬ (r3 = (0 : Int32))) (c7 : ¬ (p1 < (100 : Int32))) : (0 : Int32) = J_X4_becomes sh p0 p1 := by subst w4; refine Eq.symm ?_; unfold J_X4_becomes; refine Eq.trans (if_neg c5) ?_; refine Eq.trans (if_neg c7) ?_; rfl
set_option maxHeartbeats 4000000 in
set_option maxRecDepth 100000 in
theorem c_X4_becomes (l : Launch) (D : va_G) (k : Nat → ClassId) (b : Nat → Nat) (qh : Nat → Nat) (sh : Nat → Nat → Int32) (sz : Nat) (p0 : Int32) (p1 : Int32) (h_su : SUok (sh 5)) (hv : 0 ≤ p0.toInt ∧ p0.toInt ≤ 400 ∧ tot p0 ≤ 4) : MetI l D k b yX4_becomes wsX4_becomes ({ frames := 2, cells := 0, slots := 0, locals := 41 } : Room) [cell32_ qh sh, cell0_ k qh sh, cell1_ k qh sh, cell4_ k qh sh, cell3_ k qh sh, cell2_ k qh sh] sz [.ref (qh 0), .int p0, .int p1] (fun (r : Int32) (u : Unit) => r = J_X4_becomes sh p0 p1) (fun u => [cell32_ qh sh, cell0_ k qh sh, cell1_ k qh sh, cell4_ k qh sh, cell3_ k qh sh, cell2_ k qh sh]) := by
  refine g_enter (cc := cX4_becomes) (maxL := 3) (ret := (some .int)) (by decide) rfl (Nat.le_of_ble_eq_true rfl) ?_
  intro p e s m below meth c A hsz hAe cx hr hP hD hS ls hl
  rw [hAe]
  refine g_q (fun Q hQ => ?_)
  have hx := cx.1.1
  have hb := cx.1.2.1
  have bp0 := i_rng p0
  have bp1 := i_rng p1
  have hl : lv_has ls 3 [(0, .ref (qh 0)), (1, .int p0), (2, .int p1)] := hl
  obtain ⟨H, eH⟩ : ∃ H : Heap, H = s.heap := ⟨_, rfl⟩
  obtain ⟨locs, el⟩ : ∃ L : List Loc, L = [] := ⟨_, rfl⟩
  have hP : va_P D vwCl [cell32_ qh sh, cell0_ k qh sh, cell1_ k qh sh, cell4_ k qh sh, cell3_ k qh sh, cell2_ k qh sh] H := by rw [eH]; exact hP
  have hD : va_D A [cell32_ qh sh, cell0_ k qh sh, cell1_ k qh sh, cell4_ k qh sh, cell3_ k qh sh, cell2_ k qh sh] := hD
  have hS : va_S A s.heap H locs := by rw [eH, el]; exact hS
  suffices goal : W p l e ({ frames := 2, cells := 0, slots := 0, locals := 41 } : Room) s m ([.ref (qh 0), .int p0, .int p1] : List Value).toArray below meth c H locs 0 0 Q (F0 m 0 ls []) by rw [eH, el] at goal; exact goal
  refine lv_iload_n hx hb dX4_becomes_0 rfl (lv_at hl 2 rfl) ?_
  refine lv_iconst (v := 4) hx hb dX4_becomes_1 (by decide) ?_
  have hlit1 : (4 : Int32).toInt = 4 := by decide
  refine g_ir (g_runS (wc := []) (rest := []) cx hP hD hS [] rfl (by decide) [.int p1, .int 4] (c_X3_areAtMost l D k b H.size p1 4) gX4_becomes_X3_areAtMost rfl rfl rfl nd_X3_areAtMost ⟨Nat.le_of_ble_eq_true rfl, Nat.le_of_ble_eq_true rfl⟩ rfl hl.1 rfl (Nat.le_of_ble_eq_true rfl) ⟨Nat.zero_le _, Nat.zero_le _⟩ dX4_becomes_2) cx.2.2.1 hP hD hS [] rfl rfl (fun r3 H locs hw2 hP hS => ?_)
  have w4 : r3 = J_X3_areAtMost p1 (4 : Int32) := hw2
  clear hw2
  have hq4_ : (4 : Int32).toInt = 4 := by decide
  have zr3 := atm_b w4
  refine lv_if_eq (tgt := 14) hx hb dX4_becomes_5 (by decide) (fun c5 => ?_) (fun c5 => ?_)
  · have f5 : r3.toInt = 0 := f_eq rfl (by decide) c5
    refine lv_iconst (v := 0) hx hb dX4_becomes_14 (by decide) ?_
    have hlit6 : (0 : Int32).toInt = 0 := by decide
    rw [hQ]
    exact x_i cx hr () hP hD hS (show (0 : Int32) = J_X4_becomes sh p0 p1 from (exl_X4_becomes_0 w4 c5)) dX4_becomes_15
  · have f5 : ¬ r3.toInt = 0 := f_ne rfl (by decide) c5
    have k5 : (0 ≤ p1.toInt ∧ p1.toInt ≤ 400 ∧ tot p1 ≤ 4) ∧ tot p1 ≤ (4 : Int32).toInt := atm_v w4 c5 (by decide)
    refine lv_iload_n hx hb dX4_becomes_8 rfl (lv_at hl 2 rfl) ?_
    refine lv_bipush (v := 100) hx hb dX4_becomes_9 (by decide) ?_
    refine lv_icmp_lt (tgt := 16) hx hb dX4_becomes_11 (by decide) (fun c7 => ?_) (fun c7 => ?_)
    · have f7 : p1.toInt < 100 := f_lt rfl (by decide) c7
      refine lv_aload_n hx hb dX4_becomes_16 rfl (lv_at hl 0 rfl) ?_
      refine lv_iload_n hx hb dX4_becomes_17 rfl (lv_at hl 1 rfl) ?_
      refine g_ir (g_runS (wc := []) (rest := [.ref (qh 0)]) cx hP hD hS [] rfl (by decide) [.int p0] (c_X3_kind l D k b H.size p0 ⟨by first | decide | omega, by first | decide | omega, (show tot p0 ≤ 4 from by first | decide | omega)⟩) gX4_becomes_X3_kind rfl rfl rfl nd_X3_kind ⟨Nat.le_of_ble_eq_true rfl, Nat.le_of_ble_eq_true rfl⟩ rfl hl.1 rfl (Nat.le_of_ble_eq_true rfl) ⟨Nat.zero_le _, Nat.zero_le _⟩ dX4_becomes_18) cx.2.2.1 hP hD hS [] rfl rfl (fun r9 H locs hw8 hP hS => ?_)
      have w10 : r9 = J_X3_kind p0 := hw8
      clear hw8
      have zr9 := kind_t w10 ⟨by first | decide | omega, by first | decide | omega, (show tot p0 ≤ 4 from by first | decide | omega)⟩
      refine lv_iload_n hx hb dX4_becomes_21 rfl (lv_at hl 2 rfl) ?_
      refine g_ir (g_runS (wc := []) (rest := [.int r9, .ref (qh 0)]) cx hP hD hS [] rfl (by decide) [.int p1] (c_X3_kind l D k b H.size p1 ⟨by first | decide | omega, by first | decide | omega, (show tot p1 ≤ 4 from by first | decide | omega)⟩) gX4_becomes_X3_kind rfl rfl rfl nd_X3_kind ⟨Nat.le_of_ble_eq_true rfl, Nat.le_of_ble_eq_true rfl⟩ rfl hl.1 rfl (Nat.le_of_ble_eq_true rfl) ⟨Nat.zero_le _, Nat.zero_le _⟩ dX4_becomes_22) cx.2.2.1 hP hD hS [] rfl rfl (fun r12 H locs hw11 hP hS => ?_)
      have w13 : r12 = J_X3_kind p1 := hw11
      clear hw11
      have zr12 := kind_t w13 ⟨by first | decide | omega, by first | decide | omega, (show tot p1 ≤ 4 from by first | decide | omega)⟩
      refine g_iF (w1 := fun (_ : Unit) => [cell32_ qh sh, cell0_ k qh sh, cell1_ k qh sh, cell4_ k qh sh, cell3_ k qh sh, cell2_ k qh sh]) (g_runVF (ws := [cell32_ qh sh, cell0_ k qh sh, cell1_ k qh sh, cell4_ k qh sh, cell3_ k qh sh, cell2_ k qh sh]) (rest := []) cx hP hD hS [.int r9, .int r12] (c_X4_partsTo l D k b qh sh H.size r9 r12 (show SUok (sh 5) from by assumption) (show 0 ≤ r9.toInt ∧ r9.toInt ≤ 34 from by first | decide | omega) (show 0 ≤ r12.toInt ∧ r12.toInt ≤ 14 from by first | decide | omega)) gX4_becomes_X4_partsTo rfl rfl rfl nd_X4_partsTo ⟨Nat.le_of_ble_eq_true rfl, Nat.le_of_ble_eq_true rfl⟩ (ci := 2) (q0 := 0) rfl rfl rfl hl.1 rfl (Nat.le_of_ble_eq_true rfl) ⟨Nat.zero_le _, Nat.zero_le _⟩ dX4_becomes_25) cx.2.2.1 hD hS (fun r15 _ H locs hw14 hP hD hS => ?_)
      replace hw14 : (r15 = 0 ∨ totN r12.toNatClampNeg ≤ totN r9.toNatClampNeg) ∧ (r15 = J_X4_partsTo sh r9 r12) := hw14
      obtain ⟨w16, w17⟩ := hw14
      rw [hQ]
      exact x_i cx hr () hP hD hS (show r15 = J_X4_becomes sh p0 p1 from (exl_X4_becomes_1 w4 w10 w13 c5 c7 w17)) dX4_becomes_28
    · have f7 : 100 ≤ p1.toInt := f_nlt rfl (by decide) c7
      refine lv_iconst (v := 0) hx hb dX4_becomes_14 (by decide) ?_
      have hlit19 : (0 : Int32).toInt = 0 := by decide
      rw [hQ]
      exact x_i cx hr () hP hD hS (show (0 : Int32) = J_X4_becomes sh p0 p1 from (exl_X4_becomes_2 w4 c5 c7)) dX4_becomes_15
theorem fw_X4_mostComing_57 : Cond.fieldLink RX4 57 "StillInAugust$House" "agencyPrice" "I" ∈ wsX4_mostComing := by decide +kernel
theorem iw_X4_mostComing_X4 : ∀ w ∈ u_ws RX4 TX4 14, w ∈ wsX4_mostComing := fun _ h => List.mem_cons_of_mem _ (List.mem_append_right _ h)
def J_X4_mostComing (sh : Nat → Nat → Int32) : Int32 := if (sh 0 10) = (-9) then (0 : Int32) else (2 : Int32)
set_option maxHeartbeats 4000000 in
set_option maxRecDepth 100000 in
theorem c_X4_mostComing (l : Launch) (D : va_G) (k : Nat → ClassId) (b : Nat → Nat) (qh : Nat → Nat) (sh : Nat → Nat → Int32) (sz : Nat) : MetI l D k b yX4_mostComing wsX4_mostComing ({ frames := 0, cells := 0, slots := 0, locals := 0 } : Room) [cell32_ qh sh, cell0_ k qh sh, cell1_ k qh sh, cell4_ k qh sh, cell3_ k qh sh, cell2_ k qh sh] sz [.ref (qh 0)] (fun (r : Int32) (u : Unit) => (r.toInt = 0 ∨ r.toInt = 2) ∧ (r = J_X4_mostComing sh)) (fun u => [cell32_ qh sh, cell0_ k qh sh, cell1_ k qh sh, cell4_ k qh sh, cell3_ k qh sh, cell2_ k qh sh]) := by
  refine g_enter (cc := cX4_mostComing) (maxL := 1) (ret := (some .int)) (by decide) rfl (Nat.le_of_ble_eq_true rfl) ?_
  intro p e s m below meth c A hsz hAe cx hr hP hD hS ls hl
  rw [hAe]
  refine g_q (fun Q hQ => ?_)
  have hx := cx.1.1
  have hb := cx.1.2.1
  have hl : lv_has ls 1 [(0, .ref (qh 0))] := hl
  obtain ⟨H, eH⟩ : ∃ H : Heap, H = s.heap := ⟨_, rfl⟩
  obtain ⟨locs, el⟩ : ∃ L : List Loc, L = [] := ⟨_, rfl⟩
  have hP : va_P D vwCl [cell32_ qh sh, cell0_ k qh sh, cell1_ k qh sh, cell4_ k qh sh, cell3_ k qh sh, cell2_ k qh sh] H := by rw [eH]; exact hP
  have hD : va_D A [cell32_ qh sh, cell0_ k qh sh, cell1_ k qh sh, cell4_ k qh sh, cell3_ k qh sh, cell2_ k qh sh] := hD
  have hS : va_S A s.heap H locs := by rw [eH, el]; exact hS
  suffices goal : W p l e ({ frames := 0, cells := 0, slots := 0, locals := 0 } : Room) s m ([.ref (qh 0)] : List Value).toArray below meth c H locs 0 0 Q (F0 m 0 ls []) by rw [eH, el] at goal; exact goal
  refine lv_aload_n hx hb dX4_mostComing_0 rfl (lv_at hl 0 rfl) ?_
  refine g_get cx hP iw_X4_mostComing_X4 0 rfl rfl 10 (by decide) rfl fw_X4_mostComing_57 rfl dX4_mostComing_1 ?_
  refine lv_bipush (v := (-9)) hx hb dX4_mostComing_4 (by decide) ?_
  refine lv_icmp_ne (tgt := 13) hx hb dX4_mostComing_6 (by decide) (fun c1 => ?_) (fun c1 => ?_)
  · have f1 : ¬ (sh 0 10).toInt = (-9) := f_ne rfl (by decide) c1
    refine lv_iconst (v := 2) hx hb dX4_mostComing_13 (by decide) ?_
    have hlit2 : (2 : Int32).toInt = 2 := by decide
    rw [hQ]
    exact x_i cx hr () hP hD hS ⟨(show (2 : Int32).toInt = 0 ∨ (2 : Int32).toInt = 2 from by omega), (show (2 : Int32) = J_X4_mostComing sh from by first | (refine Eq.symm ?_; refine Eq.trans (if_neg c1) ?_; rfl) | (unfold J_X4_mostComing; try dsimp only; rw [if_neg c1]))⟩ dX4_mostComing_14
  · have f1 : (sh 0 10).toInt = (-9) := f_eq rfl (by decide) c1
    refine lv_iconst (v := 0) hx hb dX4_mostComing_9 (by decide) ?_
    refine lv_goto (tgt := 14) hx hb dX4_mostComing_10 (by decide) ?_
    have hlit3 : (0 : Int32).toInt = 0 := by decide
    rw [hQ]
    exact x_i cx hr () hP hD hS ⟨(show (0 : Int32).toInt = 0 ∨ (0 : Int32).toInt = 2 from by omega), (show (0 : Int32) = J_X4_mostComing sh from by first | (refine Eq.symm ?_; refine Eq.trans (if_pos c1) ?_; rfl) | (unfold J_X4_mostComing; try dsimp only; rw [if_pos c1]))⟩ dX4_mostComing_14
theorem fw_X4_mostOrdered_32 : Cond.fieldLink RX4 32 "StillInAugust$House" "weeks" "I" ∈ wsX4_mostOrdered := by decide +kernel
theorem nd_X4_mostComing : yX4_mostComing.cls = RX4 ∧ yX4_mostComing.cls ≠ "java/lang/invoke/MethodHandle" ∧ yX4_mostComing.cls ≠ "java/lang/invoke/VarHandle" ∧ (parseMethodDescriptor yX4_mostComing.desc).map (fun d => d.parameters.length) = some 0 := by decide +kernel
theorem iw_X4_mostOrdered_X4 : ∀ w ∈ u_ws RX4 TX4 14, w ∈ wsX4_mostOrdered := fun _ h => List.mem_cons_of_mem _ (List.mem_append_right _ h)
def J_X4_mostOrdered (sh : Nat → Nat → Int32) (p0 : Int32) : Int32 := if p0 = ((sh 0 0) - (1 : Int32)) then (0 : Int32) else let y7 := J_X4_mostComing sh; y7
set_option maxHeartbeats 4000000 in
set_option maxRecDepth 100000 in
theorem c_X4_mostOrdered (l : Launch) (D : va_G) (k : Nat → ClassId) (b : Nat → Nat) (qh : Nat → Nat) (sh : Nat → Nat → Int32) (sz : Nat) (p0 : Int32) (h_wk : 0 ≤ (sh 0 0).toInt ∧ (sh 0 0).toInt ≤ 5) : MetI l D k b yX4_mostOrdered wsX4_mostOrdered ({ frames := 1, cells := 0, slots := 0, locals := 20 } : Room) [cell32_ qh sh, cell0_ k qh sh, cell1_ k qh sh, cell4_ k qh sh, cell3_ k qh sh, cell2_ k qh sh] sz [.ref (qh 0), .int p0] (fun (r : Int32) (u : Unit) => (0 ≤ r.toInt ∧ r.toInt ≤ 2) ∧ (r = J_X4_mostOrdered sh p0)) (fun u => [cell32_ qh sh, cell0_ k qh sh, cell1_ k qh sh, cell4_ k qh sh, cell3_ k qh sh, cell2_ k qh sh]) := by
  refine g_enter (cc := cX4_mostOrdered) (maxL := 2) (ret := (some .int)) (by decide) rfl (Nat.le_of_ble_eq_true rfl) ?_
  intro p e s m below meth c A hsz hAe cx hr hP hD hS ls hl
  rw [hAe]
  refine g_q (fun Q hQ => ?_)
  have hx := cx.1.1
  have hb := cx.1.2.1
  have bp0 := i_rng p0
  have hl : lv_has ls 2 [(0, .ref (qh 0)), (1, .int p0)] := hl
  obtain ⟨H, eH⟩ : ∃ H : Heap, H = s.heap := ⟨_, rfl⟩
  obtain ⟨locs, el⟩ : ∃ L : List Loc, L = [] := ⟨_, rfl⟩
  have hP : va_P D vwCl [cell32_ qh sh, cell0_ k qh sh, cell1_ k qh sh, cell4_ k qh sh, cell3_ k qh sh, cell2_ k qh sh] H := by rw [eH]; exact hP
  have hD : va_D A [cell32_ qh sh, cell0_ k qh sh, cell1_ k qh sh, cell4_ k qh sh, cell3_ k qh sh, cell2_ k qh sh] := hD
  have hS : va_S A s.heap H locs := by rw [eH, el]; exact hS
  suffices goal : W p l e ({ frames := 1, cells := 0, slots := 0, locals := 20 } : Room) s m ([.ref (qh 0), .int p0] : List Value).toArray below meth c H locs 0 0 Q (F0 m 0 ls []) by rw [eH, el] at goal; exact goal
  refine lv_iload_n hx hb dX4_mostOrdered_0 rfl (lv_at hl 1 rfl) ?_
  refine lv_aload_n hx hb dX4_mostOrdered_1 rfl (lv_at hl 0 rfl) ?_
  refine g_get cx hP iw_X4_mostOrdered_X4 0 rfl rfl 0 (by decide) rfl fw_X4_mostOrdered_32 rfl dX4_mostOrdered_2 ?_
  refine lv_iconst (v := 1) hx hb dX4_mostOrdered_5 (by decide) ?_
  refine lv_isub hx hb dX4_mostOrdered_6 (lv_topi (fun v1 e1 => ?_))
  have t1 : v1.toInt = (sh 0 0).toInt - 1 := by rw [e1]; exact i_sub rfl (by decide) (by omega) (by omega)
  refine lv_icmp_ne (tgt := 14) hx hb dX4_mostOrdered_7 (by decide) (fun c2 => ?_) (fun c2 => ?_)
  · have f2 : ¬ p0.toInt = v1.toInt := f_ne rfl rfl c2
    refine lv_aload_n hx hb dX4_mostOrdered_14 rfl (lv_at hl 0 rfl) ?_
    refine g_iF (w1 := fun (_ : Unit) => [cell32_ qh sh, cell0_ k qh sh, cell1_ k qh sh, cell4_ k qh sh, cell3_ k qh sh, cell2_ k qh sh]) (g_runVF (ws := [cell32_ qh sh, cell0_ k qh sh, cell1_ k qh sh, cell4_ k qh sh, cell3_ k qh sh, cell2_ k qh sh]) (rest := []) cx hP hD hS [] (c_X4_mostComing l D k b qh sh H.size) gX4_mostOrdered_X4_mostComing rfl rfl rfl nd_X4_mostComing ⟨Nat.le_of_ble_eq_true rfl, Nat.le_of_ble_eq_true rfl⟩ (ci := 2) (q0 := 0) rfl rfl rfl hl.1 rfl (Nat.le_of_ble_eq_true rfl) ⟨Nat.zero_le _, Nat.zero_le _⟩ dX4_mostOrdered_15) cx.2.2.1 hD hS (fun r4 _ H locs hw3 hP hD hS => ?_)
    replace hw3 : (r4.toInt = 0 ∨ r4.toInt = 2) ∧ (r4 = J_X4_mostComing sh) := hw3
    obtain ⟨w5, w6⟩ := hw3
    have k8 : r4 = (J_X4_mostComing sh) := congrArg (fun z => z) w6
    rw [hQ]
    exact x_i cx hr () hP hD hS ⟨(show 0 ≤ r4.toInt ∧ r4.toInt ≤ 2 from by omega), (show r4 = J_X4_mostOrdered sh p0 from by subst e1 k8; first | (refine Eq.symm ?_; refine Eq.trans (if_neg c2) ?_; rfl) | (unfold J_X4_mostOrdered; try dsimp only; rw [if_neg c2]))⟩ dX4_mostOrdered_18
  · have f2 : p0.toInt = v1.toInt := f_eq rfl rfl c2
    refine lv_iconst (v := 0) hx hb dX4_mostOrdered_10 (by decide) ?_
    refine lv_goto (tgt := 18) hx hb dX4_mostOrdered_11 (by decide) ?_
    have hlit9 : (0 : Int32).toInt = 0 := by decide
    rw [hQ]
    exact x_i cx hr () hP hD hS ⟨(show 0 ≤ (0 : Int32).toInt ∧ (0 : Int32).toInt ≤ 2 from by omega), (show (0 : Int32) = J_X4_mostOrdered sh p0 from by subst e1; first | (refine Eq.symm ?_; refine Eq.trans (if_pos c2) ?_; rfl) | (unfold J_X4_mostOrdered; try dsimp only; rw [if_pos c2]))⟩ dX4_mostOrdered_18
theorem fw_X4_mostLetGo_51 : Cond.fieldLink RX4 51 "StillInAugust$House" "letGoPrice" "I" ∈ wsX4_mostLetGo := by decide +kernel
theorem iw_X4_mostLetGo_X4 : ∀ w ∈ u_ws RX4 TX4 14, w ∈ wsX4_mostLetGo := fun _ h => List.mem_cons_of_mem _ (List.mem_append_right _ h)
def J_X4_mostLetGo (sh : Nat → Nat → Int32) (p0 : Int32) : Int32 := if (sh 0 8) = (-9) then (0 : Int32) else (J_X3_total p0)
set_option maxHeartbeats 4000000 in
set_option maxRecDepth 100000 in
theorem c_X4_mostLetGo (l : Launch) (D : va_G) (k : Nat → ClassId) (b : Nat → Nat) (qh : Nat → Nat) (sh : Nat → Nat → Int32) (sz : Nat) (p0 : Int32) (hv : 0 ≤ p0.toInt ∧ p0.toInt ≤ 400 ∧ tot p0 ≤ 4) : MetI l D k b yX4_mostLetGo wsX4_mostLetGo ({ frames := 1, cells := 0, slots := 0, locals := 20 } : Room) [cell32_ qh sh, cell0_ k qh sh, cell1_ k qh sh, cell4_ k qh sh, cell3_ k qh sh, cell2_ k qh sh] sz [.ref (qh 0), .int p0] (fun (r : Int32) (u : Unit) => (0 ≤ r.toInt ∧ r.toInt ≤ tot p0) ∧ (r = J_X4_mostLetGo sh p0)) (fun u => [cell32_ qh sh, cell0_ k qh sh, cell1_ k qh sh, cell4_ k qh sh, cell3_ k qh sh, cell2_ k qh sh]) := by
  refine g_enter (cc := cX4_mostLetGo) (maxL := 2) (ret := (some .int)) (by decide) rfl (Nat.le_of_ble_eq_true rfl) ?_
  intro p e s m below meth c A hsz hAe cx hr hP hD hS ls hl
  rw [hAe]
  refine g_q (fun Q hQ => ?_)
  have hx := cx.1.1
  have hb := cx.1.2.1
  have bp0 := i_rng p0
  have hl : lv_has ls 2 [(0, .ref (qh 0)), (1, .int p0)] := hl
  obtain ⟨H, eH⟩ : ∃ H : Heap, H = s.heap := ⟨_, rfl⟩
  obtain ⟨locs, el⟩ : ∃ L : List Loc, L = [] := ⟨_, rfl⟩
  have hP : va_P D vwCl [cell32_ qh sh, cell0_ k qh sh, cell1_ k qh sh, cell4_ k qh sh, cell3_ k qh sh, cell2_ k qh sh] H := by rw [eH]; exact hP
  have hD : va_D A [cell32_ qh sh, cell0_ k qh sh, cell1_ k qh sh, cell4_ k qh sh, cell3_ k qh sh, cell2_ k qh sh] := hD
  have hS : va_S A s.heap H locs := by rw [eH, el]; exact hS
  suffices goal : W p l e ({ frames := 1, cells := 0, slots := 0, locals := 20 } : Room) s m ([.ref (qh 0), .int p0] : List Value).toArray below meth c H locs 0 0 Q (F0 m 0 ls []) by rw [eH, el] at goal; exact goal
  have y0 := tot_0 (x := p0) hv.1
  refine lv_aload_n hx hb dX4_mostLetGo_0 rfl (lv_at hl 0 rfl) ?_
  refine g_get cx hP iw_X4_mostLetGo_X4 0 rfl rfl 8 (by decide) rfl fw_X4_mostLetGo_51 rfl dX4_mostLetGo_1 ?_
  refine lv_bipush (v := (-9)) hx hb dX4_mostLetGo_4 (by decide) ?_
  refine lv_icmp_ne (tgt := 13) hx hb dX4_mostLetGo_6 (by decide) (fun c1 => ?_) (fun c1 => ?_)
  · have f1 : ¬ (sh 0 8).toInt = (-9) := f_ne rfl (by decide) c1
    refine lv_iload_n hx hb dX4_mostLetGo_13 rfl (lv_at hl 1 rfl) ?_
    refine g_ir (g_runS (wc := []) (rest := []) cx hP hD hS [] rfl (by decide) [.int p0] (c_X3_total l D k b H.size p0) gX4_mostLetGo_X3_total rfl rfl rfl nd_X3_total ⟨Nat.le_of_ble_eq_true rfl, Nat.le_of_ble_eq_true rfl⟩ rfl hl.1 rfl (Nat.le_of_ble_eq_true rfl) ⟨Nat.zero_le _, Nat.zero_le _⟩ dX4_mostLetGo_14) cx.2.2.1 hP hD hS [] rfl rfl (fun r3 H locs hw2 hP hS => ?_)
    have w4 : r3 = J_X3_total p0 := hw2
    clear hw2
    have zr3 : r3.toInt = tot p0 := tot3 w4 (show 0 ≤ p0.toInt from by first | decide | omega)
    have yr3 := tot_0 (x := p0) (by first | decide | omega)
    rw [hQ]
    exact x_i cx hr () hP hD hS ⟨(show 0 ≤ r3.toInt ∧ r3.toInt ≤ tot p0 from by omega), (show r3 = J_X4_mostLetGo sh p0 from by subst w4; first | (refine Eq.symm ?_; refine Eq.trans (if_neg c1) ?_; rfl) | (unfold J_X4_mostLetGo; try dsimp only; rw [if_neg c1]))⟩ dX4_mostLetGo_17
  · have f1 : (sh 0 8).toInt = (-9) := f_eq rfl (by decide) c1
    refine lv_iconst (v := 0) hx hb dX4_mostLetGo_9 (by decide) ?_
    refine lv_goto (tgt := 17) hx hb dX4_mostLetGo_10 (by decide) ?_
    have hlit5 : (0 : Int32).toInt = 0 := by decide
    rw [hQ]
    exact x_i cx hr () hP hD hS ⟨(show 0 ≤ (0 : Int32).toInt ∧ (0 : Int32).toInt ≤ tot p0 from by omega), (show (0 : Int32) = J_X4_mostLetGo sh p0 from by first | (refine Eq.symm ?_; refine Eq.trans (if_pos c1) ?_; rfl) | (unfold J_X4_mostLetGo; try dsimp only; rw [if_pos c1]))⟩ dX4_mostLetGo_17
theorem mw_X4_mostTaken_minL127 : Cond.methodLink RX4 127 Lib.Math.min.name ∈ wsX4_mostTaken := by decide +kernel
theorem mw_X4_mostTaken_minS : Cond.static Lib.Math.min.name ∈ wsX4_mostTaken := by decide +kernel
theorem mw_X4_mostTaken_minI : Cond.initialized "java/lang/Math" ∈ wsX4_mostTaken := by decide +kernel
theorem mw_X4_mostTaken_minC : Cond.code Lib.Math.min.name Lib.Math.min.code 2 (some .int) ∈ wsX4_mostTaken := by decide +kernel
theorem fw_X4_mostTaken_15 : Cond.fieldLink RX4 15 "StillInAugust$House" "offers" "[I" ∈ wsX4_mostTaken := by decide +kernel
theorem fw_X4_mostTaken_36 : Cond.fieldLink RX4 36 "StillInAugust$House" "hooks" "I" ∈ wsX4_mostTaken := by decide +kernel
theorem iw_X4_mostTaken_X4 : ∀ w ∈ u_ws RX4 TX4 14, w ∈ wsX4_mostTaken := fun _ h => List.mem_cons_of_mem _ (List.mem_append_right _ h)
def J_X4_mostTaken (sh : Nat → Nat → Int32) (p0 : Int32) (p1 : Int32) : Int32 := (if ((sh 0 1) - (J_X3_total p1)) < ((sh 2) (p0).toNatClampNeg) then ((sh 0 1) - (J_X3_total p1)) else ((sh 2) (p0).toNatClampNeg))
set_option maxHeartbeats 4000000 in
set_option maxRecDepth 100000 in
theorem c_X4_mostTaken (l : Launch) (D : va_G) (k : Nat → ClassId) (b : Nat → Nat) (qh : Nat → Nat) (sh : Nat → Nat → Int32) (sz : Nat) (p0 : Int32) (p1 : Int32) (h_hk : 0 ≤ (sh 0 1).toInt ∧ (sh 0 1).toInt ≤ 4) (h_of : ∀ j, 0 ≤ (sh 2 j).toInt ∧ (sh 2 j).toInt ≤ 4) (hv : 0 ≤ p1.toInt ∧ p1.toInt ≤ 400 ∧ tot p1 ≤ 4) (hp0 : 0 ≤ p0.toInt ∧ p0.toInt ≤ 4) : MetI l D k b yX4_mostTaken wsX4_mostTaken ({ frames := 1, cells := 0, slots := 0, locals := 21 } : Room) [cell32_ qh sh, cell0_ k qh sh, cell1_ k qh sh, cell4_ k qh sh, cell3_ k qh sh, cell2_ k qh sh] sz [.ref (qh 0), .int p0, .int p1] (fun (r : Int32) (u : Unit) => (-4 ≤ r.toInt ∧ r.toInt ≤ 4 ∧ r.toInt ≤ (sh 0 1).toInt - (tot p1)) ∧ ((sh 0 1).toInt < tot p1 ∨ 0 ≤ r.toInt) ∧ (r = J_X4_mostTaken sh p0 p1)) (fun u => [cell32_ qh sh, cell0_ k qh sh, cell1_ k qh sh, cell4_ k qh sh, cell3_ k qh sh, cell2_ k qh sh]) := by
  refine g_enter (cc := cX4_mostTaken) (maxL := 3) (ret := (some .int)) (by decide) rfl (Nat.le_of_ble_eq_true rfl) ?_
  intro p e s m below meth c A hsz hAe cx hr hP hD hS ls hl
  rw [hAe]
  refine g_q (fun Q hQ => ?_)
  have hx := cx.1.1
  have hb := cx.1.2.1
  have bp0 := i_rng p0
  have bp1 := i_rng p1
  have hl : lv_has ls 3 [(0, .ref (qh 0)), (1, .int p0), (2, .int p1)] := hl
  obtain ⟨H, eH⟩ : ∃ H : Heap, H = s.heap := ⟨_, rfl⟩
  obtain ⟨locs, el⟩ : ∃ L : List Loc, L = [] := ⟨_, rfl⟩
  have hP : va_P D vwCl [cell32_ qh sh, cell0_ k qh sh, cell1_ k qh sh, cell4_ k qh sh, cell3_ k qh sh, cell2_ k qh sh] H := by rw [eH]; exact hP
  have hD : va_D A [cell32_ qh sh, cell0_ k qh sh, cell1_ k qh sh, cell4_ k qh sh, cell3_ k qh sh, cell2_ k qh sh] := hD
  have hS : va_S A s.heap H locs := by rw [eH, el]; exact hS
  suffices goal : W p l e ({ frames := 1, cells := 0, slots := 0, locals := 21 } : Room) s m ([.ref (qh 0), .int p0, .int p1] : List Value).toArray below meth c H locs 0 0 Q (F0 m 0 ls []) by rw [eH, el] at goal; exact goal
  refine lv_aload_n hx hb dX4_mostTaken_0 rfl (lv_at hl 0 rfl) ?_
  refine g_get cx hP iw_X4_mostTaken_X4 0 rfl rfl 3 (by decide) rfl fw_X4_mostTaken_15 rfl dX4_mostTaken_1 ?_
  refine lv_iload_n hx hb dX4_mostTaken_4 rfl (lv_at hl 1 rfl) ?_
  have hn1 : vp_in p0 5 := f_in (a := p0.toInt) rfl (by omega) (by omega)
  refine va_iald hx hb cx.2.1 hP 2 0 rfl rfl hn1 dX4_mostTaken_5 (lv_topi (fun v2 e2 => ?_))
  have t2 : 0 ≤ v2.toInt ∧ v2.toInt ≤ 4 := by rw [e2]; exact h_of _
  refine lv_aload_n hx hb dX4_mostTaken_6 rfl (lv_at hl 0 rfl) ?_
  refine g_get cx hP iw_X4_mostTaken_X4 0 rfl rfl 1 (by decide) rfl fw_X4_mostTaken_36 rfl dX4_mostTaken_7 ?_
  refine lv_iload_n hx hb dX4_mostTaken_10 rfl (lv_at hl 2 rfl) ?_
  refine g_ir (g_runS (wc := []) (rest := [.int (sh 0 1), .int v2]) cx hP hD hS [] rfl (by decide) [.int p1] (c_X3_total l D k b H.size p1) gX4_mostTaken_X3_total rfl rfl rfl nd_X3_total ⟨Nat.le_of_ble_eq_true rfl, Nat.le_of_ble_eq_true rfl⟩ rfl hl.1 rfl (Nat.le_of_ble_eq_true rfl) ⟨Nat.zero_le _, Nat.zero_le _⟩ dX4_mostTaken_11) cx.2.2.1 hP hD hS [] rfl rfl (fun r4 H locs hw3 hP hS => ?_)
  have w5 : r4 = J_X3_total p1 := hw3
  clear hw3
  have zr4 : r4.toInt = tot p1 := tot3 w5 (show 0 ≤ p1.toInt from by first | decide | omega)
  have yr4 := tot_0 (x := p1) (by first | decide | omega)
  refine lv_isub hx hb dX4_mostTaken_14 (lv_topi (fun v6 e6 => ?_))
  have t6 : v6.toInt = (sh 0 1).toInt - r4.toInt := by rw [e6]; exact i_sub rfl rfl (by omega) (by omega)
  refine va_mmin hx hb (cx.1.2.2.1.trans hl.1.symm) cx.1.2.2.2.1 (cx.1.2.2.2.2 _ mw_X4_mostTaken_minL127) (cx.1.2.2.2.2 _ mw_X4_mostTaken_minS) (cx.1.2.2.2.2 _ mw_X4_mostTaken_minI) (cx.1.2.2.2.2 _ mw_X4_mostTaken_minC) (Nat.le_of_ble_eq_true rfl) (Nat.le_of_ble_eq_true rfl) (Nat.zero_le _) (Nat.zero_le _) dX4_mostTaken_15 (lv_topi (fun v7 e7 => ?_))
  have t7 := i_min rfl rfl (a := v2.toInt) (b := v6.toInt) e7
  rw [hQ]
  exact x_i cx hr () hP hD hS ⟨(show -4 ≤ v7.toInt ∧ v7.toInt ≤ 4 ∧ v7.toInt ≤ (sh 0 1).toInt - (tot p1) from by omega), (show (sh 0 1).toInt < tot p1 ∨ 0 ≤ v7.toInt from by omega), (show v7 = J_X4_mostTaken sh p0 p1 from by subst e2 w5 e6 e7; rfl)⟩ dX4_mostTaken_18
theorem fw_X4_mostTaught_54 : Cond.fieldLink RX4 54 "StillInAugust$House" "teachPrice" "I" ∈ wsX4_mostTaught := by decide +kernel
theorem iw_X4_mostTaught_X4 : ∀ w ∈ u_ws RX4 TX4 14, w ∈ wsX4_mostTaught := fun _ h => List.mem_cons_of_mem _ (List.mem_append_right _ h)
def J_X4_mostTaught (sh : Nat → Nat → Int32) (p0 : Int32) : Int32 := if (sh 0 9) = (-9) then (0 : Int32) else if (J_X3_ofAge p0 0) ≤ 0 then (0 : Int32) else if (J_X3_ofAge p0 2) ≤ 0 then (0 : Int32) else (1 : Int32)
set_option maxHeartbeats 4000000 in
set_option maxRecDepth 100000 in
theorem c_X4_mostTaught (l : Launch) (D : va_G) (k : Nat → ClassId) (b : Nat → Nat) (qh : Nat → Nat) (sh : Nat → Nat → Int32) (sz : Nat) (p0 : Int32) (hp0 : 0 ≤ p0.toInt ∧ p0.toInt ≤ 9999) : MetI l D k b yX4_mostTaught wsX4_mostTaught ({ frames := 1, cells := 0, slots := 0, locals := 21 } : Room) [cell32_ qh sh, cell0_ k qh sh, cell1_ k qh sh, cell4_ k qh sh, cell3_ k qh sh, cell2_ k qh sh] sz [.ref (qh 0), .int p0] (fun (r : Int32) (u : Unit) => (r.toInt = 0 ∨ (r.toInt = 1 ∧ 0 < p0.toInt / 100)) ∧ (r = J_X4_mostTaught sh p0)) (fun u => [cell32_ qh sh, cell0_ k qh sh, cell1_ k qh sh, cell4_ k qh sh, cell3_ k qh sh, cell2_ k qh sh]) := by
  refine g_enter (cc := cX4_mostTaught) (maxL := 2) (ret := (some .int)) (by decide) rfl (Nat.le_of_ble_eq_true rfl) ?_
  intro p e s m below meth c A hsz hAe cx hr hP hD hS ls hl
  rw [hAe]
  refine g_q (fun Q hQ => ?_)
  have hx := cx.1.1
  have hb := cx.1.2.1
  have bp0 := i_rng p0
  have hl : lv_has ls 2 [(0, .ref (qh 0)), (1, .int p0)] := hl
  obtain ⟨H, eH⟩ : ∃ H : Heap, H = s.heap := ⟨_, rfl⟩
  obtain ⟨locs, el⟩ : ∃ L : List Loc, L = [] := ⟨_, rfl⟩
  have hP : va_P D vwCl [cell32_ qh sh, cell0_ k qh sh, cell1_ k qh sh, cell4_ k qh sh, cell3_ k qh sh, cell2_ k qh sh] H := by rw [eH]; exact hP
  have hD : va_D A [cell32_ qh sh, cell0_ k qh sh, cell1_ k qh sh, cell4_ k qh sh, cell3_ k qh sh, cell2_ k qh sh] := hD
  have hS : va_S A s.heap H locs := by rw [eH, el]; exact hS
  suffices goal : W p l e ({ frames := 1, cells := 0, slots := 0, locals := 21 } : Room) s m ([.ref (qh 0), .int p0] : List Value).toArray below meth c H locs 0 0 Q (F0 m 0 ls []) by rw [eH, el] at goal; exact goal
  refine lv_aload_n hx hb dX4_mostTaught_0 rfl (lv_at hl 0 rfl) ?_
  refine g_get cx hP iw_X4_mostTaught_X4 0 rfl rfl 9 (by decide) rfl fw_X4_mostTaught_54 rfl dX4_mostTaught_1 ?_
  refine lv_bipush (v := (-9)) hx hb dX4_mostTaught_4 (by decide) ?_
  refine lv_icmp_eq (tgt := 29) hx hb dX4_mostTaught_6 (by decide) (fun c1 => ?_) (fun c1 => ?_)
  · have f1 : (sh 0 9).toInt = (-9) := f_eq rfl (by decide) c1
    refine lv_iconst (v := 0) hx hb dX4_mostTaught_29 (by decide) ?_
    have hlit2 : (0 : Int32).toInt = 0 := by decide
    rw [hQ]
    exact x_i cx hr () hP hD hS ⟨(show (0 : Int32).toInt = 0 ∨ ((0 : Int32).toInt = 1 ∧ 0 < p0.toInt / 100) from by omega), (show (0 : Int32) = J_X4_mostTaught sh p0 from by first | (refine Eq.symm ?_; refine Eq.trans (if_pos c1) ?_; rfl) | (unfold J_X4_mostTaught; try dsimp only; rw [if_pos c1]))⟩ dX4_mostTaught_30
  · have f1 : ¬ (sh 0 9).toInt = (-9) := f_ne rfl (by decide) c1
    refine lv_iload_n hx hb dX4_mostTaught_9 rfl (lv_at hl 1 rfl) ?_
    refine lv_iconst (v := 0) hx hb dX4_mostTaught_10 (by decide) ?_
    have hlit3 : (0 : Int32).toInt = 0 := by decide
    refine g_ir (g_runS (wc := []) (rest := []) cx hP hD hS [] rfl (by decide) [.int p0, .int 0] (c_X3_ofAge l D k b H.size p0 0) gX4_mostTaught_X3_ofAge rfl rfl rfl nd_X3_ofAge ⟨Nat.le_of_ble_eq_true rfl, Nat.le_of_ble_eq_true rfl⟩ rfl hl.1 rfl (Nat.le_of_ble_eq_true rfl) ⟨Nat.zero_le _, Nat.zero_le _⟩ dX4_mostTaught_11) cx.2.2.1 hP hD hS [] rfl rfl (fun r5 H locs hw4 hP hS => ?_)
    have w6 : r5 = J_X3_ofAge p0 (0 : Int32) := hw4
    clear hw4
    have zr5 : r5.toInt = p0.toInt / 100 := (agep w6 (by omega)).1 (by decide)
    refine lv_if_le (tgt := 29) hx hb dX4_mostTaught_14 (by decide) (fun c7 => ?_) (fun c7 => ?_)
    · have f7 : r5.toInt ≤ 0 := f_le rfl (by decide) c7
      refine lv_iconst (v := 0) hx hb dX4_mostTaught_29 (by decide) ?_
      have hlit8 : (0 : Int32).toInt = 0 := by decide
      rw [hQ]
      exact x_i cx hr () hP hD hS ⟨(show (0 : Int32).toInt = 0 ∨ ((0 : Int32).toInt = 1 ∧ 0 < p0.toInt / 100) from by omega), (show (0 : Int32) = J_X4_mostTaught sh p0 from by subst w6; first | (refine Eq.symm ?_; refine Eq.trans (if_neg c1) ?_; refine Eq.trans (if_pos c7) ?_; rfl) | (unfold J_X4_mostTaught; try dsimp only; rw [if_neg c1, if_pos c7]))⟩ dX4_mostTaught_30
    · have f7 : 0 < r5.toInt := f_nle rfl (by decide) c7
      refine lv_iload_n hx hb dX4_mostTaught_17 rfl (lv_at hl 1 rfl) ?_
      refine lv_iconst (v := 2) hx hb dX4_mostTaught_18 (by decide) ?_
      have hlit9 : (2 : Int32).toInt = 2 := by decide
      refine g_ir (g_runS (wc := []) (rest := []) cx hP hD hS [] rfl (by decide) [.int p0, .int 2] (c_X3_ofAge l D k b H.size p0 2) gX4_mostTaught_X3_ofAge rfl rfl rfl nd_X3_ofAge ⟨Nat.le_of_ble_eq_true rfl, Nat.le_of_ble_eq_true rfl⟩ rfl hl.1 rfl (Nat.le_of_ble_eq_true rfl) ⟨Nat.zero_le _, Nat.zero_le _⟩ dX4_mostTaught_19) cx.2.2.1 hP hD hS [] rfl rfl (fun r11 H locs hw10 hP hS => ?_)
      have w12 : r11 = J_X3_ofAge p0 (2 : Int32) := hw10
      clear hw10
      refine lv_if_le (tgt := 29) hx hb dX4_mostTaught_22 (by decide) (fun c13 => ?_) (fun c13 => ?_)
      · have f13 : r11.toInt ≤ 0 := f_le rfl (by decide) c13
        refine lv_iconst (v := 0) hx hb dX4_mostTaught_29 (by decide) ?_
        have hlit14 : (0 : Int32).toInt = 0 := by decide
        rw [hQ]
        exact x_i cx hr () hP hD hS ⟨(show (0 : Int32).toInt = 0 ∨ ((0 : Int32).toInt = 1 ∧ 0 < p0.toInt / 100) from by omega), (show (0 : Int32) = J_X4_mostTaught sh p0 from by subst w6 w12; first | (refine Eq.symm ?_; refine Eq.trans (if_neg c1) ?_; refine Eq.trans (if_neg c7) ?_; refine Eq.trans (if_pos c13) ?_; rfl) | (unfold J_X4_mostTaught; try dsimp only; rw [if_neg c1, if_neg c7, if_pos c13]))⟩ dX4_mostTaught_30
      · have f13 : 0 < r11.toInt := f_nle rfl (by decide) c13
        refine lv_iconst (v := 1) hx hb dX4_mostTaught_25 (by decide) ?_
        refine lv_goto (tgt := 30) hx hb dX4_mostTaught_26 (by decide) ?_
        have hlit15 : (1 : Int32).toInt = 1 := by decide
        rw [hQ]
        exact x_i cx hr () hP hD hS ⟨(show (1 : Int32).toInt = 0 ∨ ((1 : Int32).toInt = 1 ∧ 0 < p0.toInt / 100) from by omega), (show (1 : Int32) = J_X4_mostTaught sh p0 from by subst w6 w12; first | (refine Eq.symm ?_; refine Eq.trans (if_neg c1) ?_; refine Eq.trans (if_neg c7) ?_; refine Eq.trans (if_neg c13) ?_; rfl) | (unfold J_X4_mostTaught; try dsimp only; rw [if_neg c1, if_neg c7, if_neg c13]))⟩ dX4_mostTaught_30
theorem nd_X0_ordered : yX0_ordered.cls ≠ "java/lang/invoke/MethodHandle" ∧ yX0_ordered.cls ≠ "java/lang/invoke/VarHandle" ∧ (parseMethodDescriptor yX0_ordered.desc).map (fun d => d.parameters.length) = some 1 := by decide +kernel
theorem nd_X4_mostLetGo : yX4_mostLetGo.cls = RX4 ∧ yX4_mostLetGo.cls ≠ "java/lang/invoke/MethodHandle" ∧ yX4_mostLetGo.cls ≠ "java/lang/invoke/VarHandle" ∧ (parseMethodDescriptor yX4_mostLetGo.desc).map (fun d => d.parameters.length) = some 1 := by decide +kernel
theorem nd_X4_mostOrdered : yX4_mostOrdered.cls = RX4 ∧ yX4_mostOrdered.cls ≠ "java/lang/invoke/MethodHandle" ∧ yX4_mostOrdered.cls ≠ "java/lang/invoke/VarHandle" ∧ (parseMethodDescriptor yX4_mostOrdered.desc).map (fun d => d.parameters.length) = some 1 := by decide +kernel
theorem nd_X4_mostTaken : yX4_mostTaken.cls = RX4 ∧ yX4_mostTaken.cls ≠ "java/lang/invoke/MethodHandle" ∧ yX4_mostTaken.cls ≠ "java/lang/invoke/VarHandle" ∧ (parseMethodDescriptor yX4_mostTaken.desc).map (fun d => d.parameters.length) = some 2 := by decide +kernel
theorem nd_X4_mostTaught : yX4_mostTaught.cls = RX4 ∧ yX4_mostTaught.cls ≠ "java/lang/invoke/MethodHandle" ∧ yX4_mostTaught.cls ≠ "java/lang/invoke/VarHandle" ∧ (parseMethodDescriptor yX4_mostTaught.desc).map (fun d => d.parameters.length) = some 1 := by decide +kernel
def J_X4_allows (sh : Nat → Nat → Int32) (p0 : Int32) (p1 : Int32) (p2 : Int32) : Int32 := let y8 := J_X4_mostLetGo sh p1; if (J_X0_letGo p2) ≤ y8 then let y25 := J_X4_mostTaken sh p0 (J_X3_lessYoungestFirst p1 (J_X0_letGo p2)); if (J_X0_taken p2) ≤ y25 then let y40 := J_X4_mostTaught sh (((J_X3_lessYoungestFirst p1 (J_X0_letGo p2)) + ((100 : Int32) * (J_X0_taken p2)))); if y40 < (J_X0_taught p2) then (0 : Int32) else let y51 := J_X4_mostOrdered sh p0; if y51 < (J_X0_ordered p2) then (0 : Int32) else (1 : Int32) else (0 : Int32) else (0 : Int32)
set_option maxHeartbeats 4000000 in
set_option maxRecDepth 100000 in
theorem c_X4_allows (l : Launch) (D : va_G) (k : Nat → ClassId) (b : Nat → Nat) (qh : Nat → Nat) (sh : Nat → Nat → Int32) (sz : Nat) (p0 : Int32) (p1 : Int32) (p2 : Int32) (h_wk : 0 ≤ (sh 0 0).toInt ∧ (sh 0 0).toInt ≤ 5) (h_hk : 0 ≤ (sh 0 1).toInt ∧ (sh 0 1).toInt ≤ 4) (h_fl : 0 ≤ (sh 0 12).toInt ∧ (sh 0 12).toInt ≤ 5) (h_of : ∀ j, 0 ≤ (sh 2 j).toInt ∧ (sh 2 j).toInt ≤ 4) (h_go : ∀ j, 0 ≤ (sh 3 j).toInt ∧ (sh 3 j).toInt ≤ 5) (hv : 0 ≤ p1.toInt ∧ p1.toInt ≤ 400 ∧ tot p1 ≤ 4) (ha : 0 ≤ p2.toInt) (hp0 : 0 ≤ p0.toInt ∧ p0.toInt ≤ 4) : MetI l D k b yX4_allows wsX4_allows ({ frames := 2, cells := 0, slots := 0, locals := 44 } : Room) [cell32_ qh sh, cell0_ k qh sh, cell1_ k qh sh, cell4_ k qh sh, cell3_ k qh sh, cell2_ k qh sh] sz [.ref (qh 0), .int p0, .int p1, .int p2] (fun (r : Int32) (u : Unit) => (0 ≤ r.toInt ∧ r.toInt ≤ 1) ∧ (Imp (r.toInt = 1) (0 ≤ (J_X0_done p1 p2).toInt ∧ (J_X0_done p1 p2).toInt ≤ 400 ∧ tot (J_X0_done p1 p2) ≤ 4)) ∧ (r = J_X4_allows sh p0 p1 p2)) (fun u => [cell32_ qh sh, cell0_ k qh sh, cell1_ k qh sh, cell4_ k qh sh, cell3_ k qh sh, cell2_ k qh sh]) := by
  refine g_enter (cc := cX4_allows) (maxL := 5) (ret := (some .boolean)) (by decide) rfl (Nat.le_of_ble_eq_true rfl) ?_
  intro p e s m below meth c A hsz hAe cx hr hP hD hS ls hl
  rw [hAe]
  refine g_q (fun Q hQ => ?_)
  have hx := cx.1.1
  have hb := cx.1.2.1
  have bp0 := i_rng p0
  have bp1 := i_rng p1
  have bp2 := i_rng p2
  have hl : lv_has ls 5 [(0, .ref (qh 0)), (1, .int p0), (2, .int p1), (3, .int p2)] := hl
  obtain ⟨H, eH⟩ : ∃ H : Heap, H = s.heap := ⟨_, rfl⟩
  obtain ⟨locs, el⟩ : ∃ L : List Loc, L = [] := ⟨_, rfl⟩
  have hP : va_P D vwCl [cell32_ qh sh, cell0_ k qh sh, cell1_ k qh sh, cell4_ k qh sh, cell3_ k qh sh, cell2_ k qh sh] H := by rw [eH]; exact hP
  have hD : va_D A [cell32_ qh sh, cell0_ k qh sh, cell1_ k qh sh, cell4_ k qh sh, cell3_ k qh sh, cell2_ k qh sh] := hD
  have hS : va_S A s.heap H locs := by rw [eH, el]; exact hS
  suffices goal : W p l e ({ frames := 2, cells := 0, slots := 0, locals := 44 } : Room) s m ([.ref (qh 0), .int p0, .int p1, .int p2] : List Value).toArray below meth c H locs 0 0 Q (F0 m 0 ls []) by rw [eH, el] at goal; exact goal
  refine lv_iload_n hx hb dX4_allows_0 rfl (lv_at hl 3 rfl) ?_
  refine g_ir (g_runS (wc := []) (rest := []) cx hP hD hS [] rfl (by decide) [.int p2] (c_X0_letGo l D k b H.size p2) gX4_allows_X0_letGo rfl rfl rfl nd_X0_letGo ⟨Nat.le_of_ble_eq_true rfl, Nat.le_of_ble_eq_true rfl⟩ rfl hl.1 rfl (Nat.le_of_ble_eq_true rfl) ⟨Nat.zero_le _, Nat.zero_le _⟩ dX4_allows_1) cx.2.2.1 hP hD hS [] rfl rfl (fun r2 H locs hw1 hP hS => ?_)
  have w3 : r2 = J_X0_letGo p2 := hw1
  clear hw1
  have zr2 := lg_b w3 (show 0 ≤ p2.toInt from by omega)
  have g1w := w3
  refine lv_aload_n hx hb dX4_allows_4 rfl (lv_at hl 0 rfl) ?_
  refine lv_iload_n hx hb dX4_allows_5 rfl (lv_at hl 2 rfl) ?_
  refine g_iF (w1 := fun (_ : Unit) => [cell32_ qh sh, cell0_ k qh sh, cell1_ k qh sh, cell4_ k qh sh, cell3_ k qh sh, cell2_ k qh sh]) (g_runVF (ws := [cell32_ qh sh, cell0_ k qh sh, cell1_ k qh sh, cell4_ k qh sh, cell3_ k qh sh, cell2_ k qh sh]) (rest := [.int r2]) cx hP hD hS [.int p1] (c_X4_mostLetGo l D k b qh sh H.size p1 (show 0 ≤ p1.toInt ∧ p1.toInt ≤ 400 ∧ tot p1 ≤ 4 from by first | decide | omega)) gX4_allows_X4_mostLetGo rfl rfl rfl nd_X4_mostLetGo ⟨Nat.le_of_ble_eq_true rfl, Nat.le_of_ble_eq_true rfl⟩ (ci := 2) (q0 := 0) rfl rfl rfl hl.1 rfl (Nat.le_of_ble_eq_true rfl) ⟨Nat.zero_le _, Nat.zero_le _⟩ dX4_allows_6) cx.2.2.1 hD hS (fun r5 _ H locs hw4 hP hD hS => ?_)
  replace hw4 : (0 ≤ r5.toInt ∧ r5.toInt ≤ tot p1) ∧ (r5 = J_X4_mostLetGo sh p1) := hw4
  obtain ⟨w6, w7⟩ := hw4
  have k9 : r5 = (J_X4_mostLetGo sh p1) := congrArg (fun z => z) w7
  refine lv_icmp_le (tgt := 14) hx hb dX4_allows_9 (by decide) (fun c10 => ?_) (fun c10 => ?_)
  · have f10 : r2.toInt ≤ r5.toInt := f_le rfl rfl c10
    refine lv_iload_n hx hb dX4_allows_14 rfl (lv_at hl 2 rfl) ?_
    refine lv_iload_n hx hb dX4_allows_15 rfl (lv_at hl 3 rfl) ?_
    refine g_ir (g_runS (wc := []) (rest := [.int p1]) cx hP hD hS [] rfl (by decide) [.int p2] (c_X0_letGo l D k b H.size p2) gX4_allows_X0_letGo rfl rfl rfl nd_X0_letGo ⟨Nat.le_of_ble_eq_true rfl, Nat.le_of_ble_eq_true rfl⟩ rfl hl.1 rfl (Nat.le_of_ble_eq_true rfl) ⟨Nat.zero_le _, Nat.zero_le _⟩ dX4_allows_16) cx.2.2.1 hP hD hS [] rfl rfl (fun r12 H locs hw11 hP hS => ?_)
    have w13 : r12 = J_X0_letGo p2 := hw11
    clear hw11
    have zr12 := lg_b w13 (show 0 ≤ p2.toInt from by omega)
    have g2w := w13
    have g2e : r12.toInt = r2.toInt := by rw [g1w, g2w]
    refine g_ir (g_runS (wc := []) (rest := []) cx hP hD hS [] rfl (by decide) [.int p1, .int r12] (c_X3_lessYoungestFirst l D k b H.size p1 r12) gX4_allows_X3_lessYoungestFirst rfl rfl rfl nd_X3_lessYoungestFirst ⟨Nat.le_of_ble_eq_true rfl, Nat.le_of_ble_eq_true rfl⟩ rfl hl.1 rfl (Nat.le_of_ble_eq_true rfl) ⟨Nat.zero_le _, Nat.zero_le _⟩ dX4_allows_19) cx.2.2.1 hP hD hS [] rfl rfl (fun r15 H locs hw14 hP hS => ?_)
    have w16 : r15 = J_X3_lessYoungestFirst p1 r12 := hw14
    clear hw14
    have lw := w16
    have lt := less_t w16 hv ⟨by omega, by omega⟩
    refine lv_istore (lv' := [(4, .int r15), (0, .ref (qh 0)), (1, .int p0), (2, .int p1), (3, .int p2)]) hx hb dX4_allows_22 hl (by decide) rfl (fun ls hl => ?_)
    refine lv_iload_n hx hb dX4_allows_24 rfl (lv_at hl 4 rfl) ?_
    refine g_ir (g_runS (wc := []) (rest := []) cx hP hD hS [] rfl (by decide) [.int p2] (c_X0_taken l D k b H.size p2) gX4_allows_X0_taken rfl rfl rfl nd_X0_taken ⟨Nat.le_of_ble_eq_true rfl, Nat.le_of_ble_eq_true rfl⟩ rfl hl.1 rfl (Nat.le_of_ble_eq_true rfl) ⟨Nat.zero_le _, Nat.zero_le _⟩ dX4_allows_25) cx.2.2.1 hP hD hS [] rfl rfl (fun r18 H locs hw17 hP hS => ?_)
    have w19 : r18 = J_X0_taken p2 := hw17
    clear hw17
    have zr18 := tk_b w19 (show 0 ≤ p2.toInt from by omega)
    have t1w := w19
    refine lv_aload_n hx hb dX4_allows_28 rfl (lv_at hl 1 rfl) ?_
    refine lv_iload_n hx hb dX4_allows_29 rfl (lv_at hl 2 rfl) ?_
    refine lv_iload hx hb dX4_allows_30 (lv_at hl 0 rfl) ?_
    refine g_iF (w1 := fun (_ : Unit) => [cell32_ qh sh, cell0_ k qh sh, cell1_ k qh sh, cell4_ k qh sh, cell3_ k qh sh, cell2_ k qh sh]) (g_runVF (ws := [cell32_ qh sh, cell0_ k qh sh, cell1_ k qh sh, cell4_ k qh sh, cell3_ k qh sh, cell2_ k qh sh]) (rest := [.int r18]) cx hP hD hS [.int p0, .int r15] (c_X4_mostTaken l D k b qh sh H.size p0 r15 (show 0 ≤ (sh 0 1).toInt ∧ (sh 0 1).toInt ≤ 4 from by first | decide | omega) h_of (show 0 ≤ r15.toInt ∧ r15.toInt ≤ 400 ∧ tot r15 ≤ 4 from by first | decide | omega) (show 0 ≤ p0.toInt ∧ p0.toInt ≤ 4 from by first | decide | omega)) gX4_allows_X4_mostTaken rfl rfl rfl nd_X4_mostTaken ⟨Nat.le_of_ble_eq_true rfl, Nat.le_of_ble_eq_true rfl⟩ (ci := 2) (q0 := 0) rfl rfl rfl hl.1 rfl (Nat.le_of_ble_eq_true rfl) ⟨Nat.zero_le _, Nat.zero_le _⟩ dX4_allows_32) cx.2.2.1 hD hS (fun r21 _ H locs hw20 hP hD hS => ?_)
    replace hw20 : (-4 ≤ r21.toInt ∧ r21.toInt ≤ 4 ∧ r21.toInt ≤ (sh 0 1).toInt - (tot r15)) ∧ ((sh 0 1).toInt < tot r15 ∨ 0 ≤ r21.toInt) ∧ (r21 = J_X4_mostTaken sh p0 r15) := hw20
    obtain ⟨w22, w23, w24⟩ := hw20
    have k26 : r21 = (J_X4_mostTaken sh p0 r15) := congrArg (fun z => z) w24
    refine lv_icmp_le (tgt := 40) hx hb dX4_allows_35 (by decide) (fun c27 => ?_) (fun c27 => ?_)
    · have f27 : r18.toInt ≤ r21.toInt := f_le rfl rfl c27
      refine lv_iload_n hx hb dX4_allows_40 rfl (lv_at hl 4 rfl) ?_
      refine g_ir (g_runS (wc := []) (rest := []) cx hP hD hS [] rfl (by decide) [.int p2] (c_X0_taught l D k b H.size p2) gX4_allows_X0_taught rfl rfl rfl nd_X0_taught ⟨Nat.le_of_ble_eq_true rfl, Nat.le_of_ble_eq_true rfl⟩ rfl hl.1 rfl (Nat.le_of_ble_eq_true rfl) ⟨Nat.zero_le _, Nat.zero_le _⟩ dX4_allows_41) cx.2.2.1 hP hD hS [] rfl rfl (fun r29 H locs hw28 hP hS => ?_)
      have w30 : r29 = J_X0_taught p2 := hw28
      clear hw28
      have zr29 := tg_b w30 (show 0 ≤ p2.toInt from by omega)
      have tgw := w30
      refine lv_aload_n hx hb dX4_allows_44 rfl (lv_at hl 1 rfl) ?_
      refine lv_iload hx hb dX4_allows_45 (lv_at hl 0 rfl) ?_
      refine lv_bipush (v := 100) hx hb dX4_allows_47 (by decide) ?_
      refine lv_iload_n hx hb dX4_allows_49 rfl (lv_at hl 4 rfl) ?_
      refine g_ir (g_runS (wc := []) (rest := [.int 100, .int r15, .ref (qh 0), .int r29]) cx hP hD hS [] rfl (by decide) [.int p2] (c_X0_taken l D k b H.size p2) gX4_allows_X0_taken rfl rfl rfl nd_X0_taken ⟨Nat.le_of_ble_eq_true rfl, Nat.le_of_ble_eq_true rfl⟩ rfl hl.1 rfl (Nat.le_of_ble_eq_true rfl) ⟨Nat.zero_le _, Nat.zero_le _⟩ dX4_allows_50) cx.2.2.1 hP hD hS [] rfl rfl (fun r32 H locs hw31 hP hS => ?_)
      have w33 : r32 = J_X0_taken p2 := hw31
      clear hw31
      have zr32 := tk_b w33 (show 0 ≤ p2.toInt from by omega)
      have t2e : r32.toInt = r18.toInt := by rw [t1w, w33]
      refine lv_imul hx hb dX4_allows_53 (lv_topi (fun v34 e34 => ?_))
      have t34 : v34.toInt = 100 * r32.toInt := by rw [e34]; exact i_mul (by decide) rfl (by omega) (by omega)
      refine lv_iadd hx hb dX4_allows_54 (lv_topi (fun v35 e35 => ?_))
      have t35 : v35.toInt = r15.toInt + v34.toInt := by rw [e35]; exact i_add rfl rfl (by omega) (by omega)
      refine g_iF (w1 := fun (_ : Unit) => [cell32_ qh sh, cell0_ k qh sh, cell1_ k qh sh, cell4_ k qh sh, cell3_ k qh sh, cell2_ k qh sh]) (g_runVF (ws := [cell32_ qh sh, cell0_ k qh sh, cell1_ k qh sh, cell4_ k qh sh, cell3_ k qh sh, cell2_ k qh sh]) (rest := [.int r29]) cx hP hD hS [.int v35] (c_X4_mostTaught l D k b qh sh H.size v35 (show 0 ≤ v35.toInt ∧ v35.toInt ≤ 9999 from by first | decide | omega)) gX4_allows_X4_mostTaught rfl rfl rfl nd_X4_mostTaught ⟨Nat.le_of_ble_eq_true rfl, Nat.le_of_ble_eq_true rfl⟩ (ci := 2) (q0 := 0) rfl rfl rfl hl.1 rfl (Nat.le_of_ble_eq_true rfl) ⟨Nat.zero_le _, Nat.zero_le _⟩ dX4_allows_55) cx.2.2.1 hD hS (fun r37 _ H locs hw36 hP hD hS => ?_)
      replace hw36 : (r37.toInt = 0 ∨ (r37.toInt = 1 ∧ 0 < v35.toInt / 100)) ∧ (r37 = J_X4_mostTaught sh v35) := hw36
      obtain ⟨w38, w39⟩ := hw36
      have k41 : r37 = (J_X4_mostTaught sh v35) := congrArg (fun z => z) w39
      refine lv_icmp_gt (tgt := 77) hx hb dX4_allows_58 (by decide) (fun c42 => ?_) (fun c42 => ?_)
      · have f42 : r37.toInt < r29.toInt := f_lt rfl rfl c42
        refine lv_iconst (v := 0) hx hb dX4_allows_77 (by decide) ?_
        have hlit43 : (0 : Int32).toInt = 0 := by decide
        rw [hQ]
        exact x_z cx hr (by decide) () hP hD hS ⟨(show 0 ≤ (0 : Int32).toInt ∧ (0 : Int32).toInt ≤ 1 from by omega), (show Imp ((0 : Int32).toInt = 1) (0 ≤ (J_X0_done p1 p2).toInt ∧ (J_X0_done p1 p2).toInt ≤ 400 ∧ tot (J_X0_done p1 p2) ≤ 4) from fun h => by first | exact absurd h (by decide) | exact dn.1), (show (0 : Int32) = J_X4_allows sh p0 p1 p2 from by subst w3 k9 w13 w16 w19 k26 w30 w33 e34 e35 k41; first | (refine Eq.symm ?_; refine Eq.trans (if_pos c10) ?_; refine Eq.trans (if_pos c27) ?_; refine Eq.trans (if_pos c42) ?_; rfl) | (unfold J_X4_allows; try dsimp only; rw [if_pos c10, if_pos c27, if_pos c42]))⟩ dX4_allows_78
      · have f42 : r29.toInt ≤ r37.toInt := f_nlt rfl rfl c42
        refine lv_iload_n hx hb dX4_allows_61 rfl (lv_at hl 4 rfl) ?_
        refine g_ir (g_runS (wc := []) (rest := []) cx hP hD hS [] rfl (by decide) [.int p2] (c_X0_ordered l D k b H.size p2) gX4_allows_X0_ordered rfl rfl rfl nd_X0_ordered ⟨Nat.le_of_ble_eq_true rfl, Nat.le_of_ble_eq_true rfl⟩ rfl hl.1 rfl (Nat.le_of_ble_eq_true rfl) ⟨Nat.zero_le _, Nat.zero_le _⟩ dX4_allows_62) cx.2.2.1 hP hD hS [] rfl rfl (fun r45 H locs hw44 hP hS => ?_)
        have w46 : r45 = J_X0_ordered p2 := hw44
        clear hw44
        have zr45 := or_b w46 (show 0 ≤ p2.toInt from by omega)
        refine lv_aload_n hx hb dX4_allows_65 rfl (lv_at hl 1 rfl) ?_
        refine lv_iload_n hx hb dX4_allows_66 rfl (lv_at hl 2 rfl) ?_
        refine g_iF (w1 := fun (_ : Unit) => [cell32_ qh sh, cell0_ k qh sh, cell1_ k qh sh, cell4_ k qh sh, cell3_ k qh sh, cell2_ k qh sh]) (g_runVF (ws := [cell32_ qh sh, cell0_ k qh sh, cell1_ k qh sh, cell4_ k qh sh, cell3_ k qh sh, cell2_ k qh sh]) (rest := [.int r45]) cx hP hD hS [.int p0] (c_X4_mostOrdered l D k b qh sh H.size p0 (show 0 ≤ (sh 0 0).toInt ∧ (sh 0 0).toInt ≤ 5 from by first | decide | omega)) gX4_allows_X4_mostOrdered rfl rfl rfl nd_X4_mostOrdered ⟨Nat.le_of_ble_eq_true rfl, Nat.le_of_ble_eq_true rfl⟩ (ci := 2) (q0 := 0) rfl rfl rfl hl.1 rfl (Nat.le_of_ble_eq_true rfl) ⟨Nat.zero_le _, Nat.zero_le _⟩ dX4_allows_67) cx.2.2.1 hD hS (fun r48 _ H locs hw47 hP hD hS => ?_)
        replace hw47 : (0 ≤ r48.toInt ∧ r48.toInt ≤ 2) ∧ (r48 = J_X4_mostOrdered sh p0) := hw47
        obtain ⟨w49, w50⟩ := hw47
        have k52 : r48 = (J_X4_mostOrdered sh p0) := congrArg (fun z => z) w50
        refine lv_icmp_gt (tgt := 77) hx hb dX4_allows_70 (by decide) (fun c53 => ?_) (fun c53 => ?_)
        · have f53 : r48.toInt < r45.toInt := f_lt rfl rfl c53
          refine lv_iconst (v := 0) hx hb dX4_allows_77 (by decide) ?_
          have hlit54 : (0 : Int32).toInt = 0 := by decide
          rw [hQ]
          exact x_z cx hr (by decide) () hP hD hS ⟨(show 0 ≤ (0 : Int32).toInt ∧ (0 : Int32).toInt ≤ 1 from by omega), (show Imp ((0 : Int32).toInt = 1) (0 ≤ (J_X0_done p1 p2).toInt ∧ (J_X0_done p1 p2).toInt ≤ 400 ∧ tot (J_X0_done p1 p2) ≤ 4) from fun h => by first | exact absurd h (by decide) | exact dn.1), (show (0 : Int32) = J_X4_allows sh p0 p1 p2 from by subst w3 k9 w13 w16 w19 k26 w30 w33 e34 e35 k41 w46 k52; first | (refine Eq.symm ?_; refine Eq.trans (if_pos c10) ?_; refine Eq.trans (if_pos c27) ?_; refine Eq.trans (if_neg c42) ?_; refine Eq.trans (if_pos c53) ?_; rfl) | (unfold J_X4_allows; try dsimp only; rw [if_pos c10, if_pos c27, if_neg c42, if_pos c53]))⟩ dX4_allows_78
        · have f53 : r45.toInt ≤ r48.toInt := f_nlt rfl rfl c53
          have dn := done_t (X := v35.toInt) (hook := (sh 0 1).toInt) hv g2w t1w tgw lw (by omega) (by omega) (by omega) (by omega) (by omega) (by omega) (by omega) (Eq.refl (J_X0_done p1 p2))
          refine lv_iconst (v := 1) hx hb dX4_allows_73 (by decide) ?_
          refine lv_goto (tgt := 78) hx hb dX4_allows_74 (by decide) ?_
          have hlit55 : (1 : Int32).toInt = 1 := by decide
          rw [hQ]
          exact x_z cx hr (by decide) () hP hD hS ⟨(show 0 ≤ (1 : Int32).toInt ∧ (1 : Int32).toInt ≤ 1 from by omega), (show Imp ((1 : Int32).toInt = 1) (0 ≤ (J_X0_done p1 p2).toInt ∧ (J_X0_done p1 p2).toInt ≤ 400 ∧ tot (J_X0_done p1 p2) ≤ 4) from fun h => by first | exact absurd h (by decide) | exact dn.1), (show (1 : Int32) = J_X4_allows sh p0 p1 p2 from by subst w3 k9 w13 w16 w19 k26 w30 w33 e34 e35 k41 w46 k52; first | (refine Eq.symm ?_; refine Eq.trans (if_pos c10) ?_; refine Eq.trans (if_pos c27) ?_; refine Eq.trans (if_neg c42) ?_; refine Eq.trans (if_neg c53) ?_; rfl) | (unfold J_X4_allows; try dsimp only; rw [if_pos c10, if_pos c27, if_neg c42, if_neg c53]))⟩ dX4_allows_78
    · have f27 : r21.toInt < r18.toInt := f_nle rfl rfl c27
      refine lv_iconst (v := 0) hx hb dX4_allows_38 (by decide) ?_
      have hlit56 : (0 : Int32).toInt = 0 := by decide
      rw [hQ]
      exact x_z cx hr (by decide) () hP hD hS ⟨(show 0 ≤ (0 : Int32).toInt ∧ (0 : Int32).toInt ≤ 1 from by omega), (show Imp ((0 : Int32).toInt = 1) (0 ≤ (J_X0_done p1 p2).toInt ∧ (J_X0_done p1 p2).toInt ≤ 400 ∧ tot (J_X0_done p1 p2) ≤ 4) from fun h => absurd h (by decide)), (show (0 : Int32) = J_X4_allows sh p0 p1 p2 from by subst w3 k9 w13 w16 w19 k26; first | (refine Eq.symm ?_; refine Eq.trans (if_pos c10) ?_; refine Eq.trans (if_neg c27) ?_; rfl) | (unfold J_X4_allows; try dsimp only; rw [if_pos c10, if_neg c27]))⟩ dX4_allows_39
  · have f10 : r5.toInt < r2.toInt := f_nle rfl rfl c10
    refine lv_iconst (v := 0) hx hb dX4_allows_12 (by decide) ?_
    have hlit57 : (0 : Int32).toInt = 0 := by decide
    rw [hQ]
    exact x_z cx hr (by decide) () hP hD hS ⟨(show 0 ≤ (0 : Int32).toInt ∧ (0 : Int32).toInt ≤ 1 from by omega), (show Imp ((0 : Int32).toInt = 1) (0 ≤ (J_X0_done p1 p2).toInt ∧ (J_X0_done p1 p2).toInt ≤ 400 ∧ tot (J_X0_done p1 p2) ≤ 4) from fun h => absurd h (by decide)), (show (0 : Int32) = J_X4_allows sh p0 p1 p2 from by subst w3 k9; first | (refine Eq.symm ?_; refine Eq.trans (if_neg c10) ?_; rfl) | (unfold J_X4_allows; try dsimp only; rw [if_neg c10]))⟩ dX4_allows_13
theorem mw_X4_takenByLevel_maxL97 : Cond.methodLink RX4 97 Lib.Math.max.name ∈ wsX4_takenByLevel := by decide +kernel
theorem mw_X4_takenByLevel_maxS : Cond.static Lib.Math.max.name ∈ wsX4_takenByLevel := by decide +kernel
theorem mw_X4_takenByLevel_maxI : Cond.initialized "java/lang/Math" ∈ wsX4_takenByLevel := by decide +kernel
theorem mw_X4_takenByLevel_maxC : Cond.code Lib.Math.max.name Lib.Math.max.code 2 (some .int) ∈ wsX4_takenByLevel := by decide +kernel
theorem mw_X4_takenByLevel_minL127 : Cond.methodLink RX4 127 Lib.Math.min.name ∈ wsX4_takenByLevel := by decide +kernel
theorem mw_X4_takenByLevel_minS : Cond.static Lib.Math.min.name ∈ wsX4_takenByLevel := by decide +kernel
theorem mw_X4_takenByLevel_minI : Cond.initialized "java/lang/Math" ∈ wsX4_takenByLevel := by decide +kernel
theorem mw_X4_takenByLevel_minC : Cond.code Lib.Math.min.name Lib.Math.min.code 2 (some .int) ∈ wsX4_takenByLevel := by decide +kernel
def J_X4_takenByLevel (sh : Nat → Nat → Int32) (p0 : Int32) (p1 : Int32) (p2 : Int32) : Int32 := let y6 := J_X4_mostTaken sh p0 p1; (if (if 0 < (p2 - (J_X3_total p1)) then (p2 - (J_X3_total p1)) else 0) < y6 then (if 0 < (p2 - (J_X3_total p1)) then (p2 - (J_X3_total p1)) else 0) else y6)
set_option maxHeartbeats 4000000 in
set_option maxRecDepth 100000 in
theorem c_X4_takenByLevel (l : Launch) (D : va_G) (k : Nat → ClassId) (b : Nat → Nat) (qh : Nat → Nat) (sh : Nat → Nat → Int32) (sz : Nat) (p0 : Int32) (p1 : Int32) (p2 : Int32) (h_hk : 0 ≤ (sh 0 1).toInt ∧ (sh 0 1).toInt ≤ 4) (h_of : ∀ j, 0 ≤ (sh 2 j).toInt ∧ (sh 2 j).toInt ≤ 4) (hv : 0 ≤ p1.toInt ∧ p1.toInt ≤ 400 ∧ tot p1 ≤ 4) (ht : tot p1 ≤ (sh 0 1).toInt) (hp0 : 0 ≤ p0.toInt ∧ p0.toInt ≤ 4) : MetI l D k b yX4_takenByLevel wsX4_takenByLevel ({ frames := 2, cells := 0, slots := 0, locals := 43 } : Room) [cell32_ qh sh, cell0_ k qh sh, cell1_ k qh sh, cell4_ k qh sh, cell3_ k qh sh, cell2_ k qh sh] sz [.ref (qh 0), .int p0, .int p1, .int p2] (fun (r : Int32) (u : Unit) => (0 ≤ r.toInt ∧ r.toInt ≤ 4 ∧ r.toInt ≤ (sh 0 1).toInt - (tot p1)) ∧ (r = J_X4_takenByLevel sh p0 p1 p2)) (fun u => [cell32_ qh sh, cell0_ k qh sh, cell1_ k qh sh, cell4_ k qh sh, cell3_ k qh sh, cell2_ k qh sh]) := by
  refine g_enter (cc := cX4_takenByLevel) (maxL := 4) (ret := (some .int)) (by decide) rfl (Nat.le_of_ble_eq_true rfl) ?_
  intro p e s m below meth c A hsz hAe cx hr hP hD hS ls hl
  rw [hAe]
  refine g_q (fun Q hQ => ?_)
  have hx := cx.1.1
  have hb := cx.1.2.1
  have bp0 := i_rng p0
  have bp1 := i_rng p1
  have bp2 := i_rng p2
  have hl : lv_has ls 4 [(0, .ref (qh 0)), (1, .int p0), (2, .int p1), (3, .int p2)] := hl
  obtain ⟨H, eH⟩ : ∃ H : Heap, H = s.heap := ⟨_, rfl⟩
  obtain ⟨locs, el⟩ : ∃ L : List Loc, L = [] := ⟨_, rfl⟩
  have hP : va_P D vwCl [cell32_ qh sh, cell0_ k qh sh, cell1_ k qh sh, cell4_ k qh sh, cell3_ k qh sh, cell2_ k qh sh] H := by rw [eH]; exact hP
  have hD : va_D A [cell32_ qh sh, cell0_ k qh sh, cell1_ k qh sh, cell4_ k qh sh, cell3_ k qh sh, cell2_ k qh sh] := hD
  have hS : va_S A s.heap H locs := by rw [eH, el]; exact hS
  suffices goal : W p l e ({ frames := 2, cells := 0, slots := 0, locals := 43 } : Room) s m ([.ref (qh 0), .int p0, .int p1, .int p2] : List Value).toArray below meth c H locs 0 0 Q (F0 m 0 ls []) by rw [eH, el] at goal; exact goal
  refine lv_aload_n hx hb dX4_takenByLevel_0 rfl (lv_at hl 0 rfl) ?_
  refine lv_iload_n hx hb dX4_takenByLevel_1 rfl (lv_at hl 1 rfl) ?_
  refine lv_iload_n hx hb dX4_takenByLevel_2 rfl (lv_at hl 2 rfl) ?_
  refine g_iF (w1 := fun (_ : Unit) => [cell32_ qh sh, cell0_ k qh sh, cell1_ k qh sh, cell4_ k qh sh, cell3_ k qh sh, cell2_ k qh sh]) (g_runVF (ws := [cell32_ qh sh, cell0_ k qh sh, cell1_ k qh sh, cell4_ k qh sh, cell3_ k qh sh, cell2_ k qh sh]) (rest := []) cx hP hD hS [.int p0, .int p1] (c_X4_mostTaken l D k b qh sh H.size p0 p1 (show 0 ≤ (sh 0 1).toInt ∧ (sh 0 1).toInt ≤ 4 from by first | decide | omega) h_of (show 0 ≤ p1.toInt ∧ p1.toInt ≤ 400 ∧ tot p1 ≤ 4 from by first | decide | omega) (show 0 ≤ p0.toInt ∧ p0.toInt ≤ 4 from by first | decide | omega)) gX4_takenByLevel_X4_mostTaken rfl rfl rfl nd_X4_mostTaken ⟨Nat.le_of_ble_eq_true rfl, Nat.le_of_ble_eq_true rfl⟩ (ci := 2) (q0 := 0) rfl rfl rfl hl.1 rfl (Nat.le_of_ble_eq_true rfl) ⟨Nat.zero_le _, Nat.zero_le _⟩ dX4_takenByLevel_3) cx.2.2.1 hD hS (fun r2 _ H locs hw1 hP hD hS => ?_)
  replace hw1 : (-4 ≤ r2.toInt ∧ r2.toInt ≤ 4 ∧ r2.toInt ≤ (sh 0 1).toInt - (tot p1)) ∧ ((sh 0 1).toInt < tot p1 ∨ 0 ≤ r2.toInt) ∧ (r2 = J_X4_mostTaken sh p0 p1) := hw1
  obtain ⟨w3, w4, w5⟩ := hw1
  have k7 : r2 = (J_X4_mostTaken sh p0 p1) := congrArg (fun z => z) w5
  refine lv_iconst (v := 0) hx hb dX4_takenByLevel_6 (by decide) ?_
  refine lv_iload_n hx hb dX4_takenByLevel_7 rfl (lv_at hl 3 rfl) ?_
  refine lv_iload_n hx hb dX4_takenByLevel_8 rfl (lv_at hl 2 rfl) ?_
  refine g_ir (g_runS (wc := []) (rest := [.int p2, .int 0, .int r2]) cx hP hD hS [] rfl (by decide) [.int p1] (c_X3_total l D k b H.size p1) gX4_takenByLevel_X3_total rfl rfl rfl nd_X3_total ⟨Nat.le_of_ble_eq_true rfl, Nat.le_of_ble_eq_true rfl⟩ rfl hl.1 rfl (Nat.le_of_ble_eq_true rfl) ⟨Nat.zero_le _, Nat.zero_le _⟩ dX4_takenByLevel_9) cx.2.2.1 hP hD hS [] rfl rfl (fun r9 H locs hw8 hP hS => ?_)
  have w10 : r9 = J_X3_total p1 := hw8
  clear hw8
  have zr9 : r9.toInt = tot p1 := tot3 w10 (show 0 ≤ p1.toInt from by first | decide | omega)
  have yr9 := tot_0 (x := p1) (by first | decide | omega)
  refine lv_isub hx hb dX4_takenByLevel_12 (lv_topi (fun v11 e11 => ?_))
  refine va_mmax hx hb (cx.1.2.2.1.trans hl.1.symm) cx.1.2.2.2.1 (cx.1.2.2.2.2 _ mw_X4_takenByLevel_maxL97) (cx.1.2.2.2.2 _ mw_X4_takenByLevel_maxS) (cx.1.2.2.2.2 _ mw_X4_takenByLevel_maxI) (cx.1.2.2.2.2 _ mw_X4_takenByLevel_maxC) (Nat.le_of_ble_eq_true rfl) (Nat.le_of_ble_eq_true rfl) (Nat.zero_le _) (Nat.zero_le _) dX4_takenByLevel_13 (lv_topi (fun v12 e12 => ?_))
  have t12 := i_max (by decide) rfl (a := 0) (b := v11.toInt) e12
  refine va_mmin hx hb (cx.1.2.2.1.trans hl.1.symm) cx.1.2.2.2.1 (cx.1.2.2.2.2 _ mw_X4_takenByLevel_minL127) (cx.1.2.2.2.2 _ mw_X4_takenByLevel_minS) (cx.1.2.2.2.2 _ mw_X4_takenByLevel_minI) (cx.1.2.2.2.2 _ mw_X4_takenByLevel_minC) (Nat.le_of_ble_eq_true rfl) (Nat.le_of_ble_eq_true rfl) (Nat.zero_le _) (Nat.zero_le _) dX4_takenByLevel_16 (lv_topi (fun v13 e13 => ?_))
  have t13 := i_min rfl rfl (a := r2.toInt) (b := v12.toInt) e13
  rw [hQ]
  exact x_i cx hr () hP hD hS ⟨(show 0 ≤ v13.toInt ∧ v13.toInt ≤ 4 ∧ v13.toInt ≤ (sh 0 1).toInt - (tot p1) from by omega), (show v13 = J_X4_takenByLevel sh p0 p1 p2 from by subst k7 w10 e11 e12 e13; rfl)⟩ dX4_takenByLevel_19
theorem fw_X4_lack_21 : Cond.fieldLink RX4 21 "StillInAugust$House" "does" "[I" ∈ wsX4_lack := by decide +kernel
theorem fw_X4_lack_9 : Cond.fieldLink RX4 9 "StillInAugust$House" "wants" "[I" ∈ wsX4_lack := by decide +kernel
theorem iw_X4_lack_X4 : ∀ w ∈ u_ws RX4 TX4 14, w ∈ wsX4_lack := fun _ h => List.mem_cons_of_mem _ (List.mem_append_right _ h)
def J_X4_lack (sh : Nat → Nat → Int32) (p0 : Int32) (p1 : Int32) (p2 : Int32) (p3 : Int32) : Int32 := (((((sh 1) (p0).toNatClampNeg) - (((sh 4) (0 : Int32).toNatClampNeg) * (p1 / (100 : Int32)))) - (((sh 4) (1 : Int32).toNatClampNeg) * ((p1 / (10 : Int32)) - (p1 / (10 : Int32)) / (10 : Int32) * (10 : Int32)))) - (((sh 4) (2 : Int32).toNatClampNeg) * (((p1 - p1 / (10 : Int32) * (10 : Int32)) + p2) - p3)))
set_option maxHeartbeats 4000000 in
set_option maxRecDepth 100000 in
theorem c_X4_lack (l : Launch) (D : va_G) (k : Nat → ClassId) (b : Nat → Nat) (qh : Nat → Nat) (sh : Nat → Nat → Int32) (sz : Nat) (p0 : Int32) (p1 : Int32) (p2 : Int32) (p3 : Int32) (hp0 : 0 ≤ p0.toInt ∧ p0.toInt ≤ 4) : MetI l D k b yX4_lack wsX4_lack ({ frames := 0, cells := 0, slots := 0, locals := 0 } : Room) [cell32_ qh sh, cell0_ k qh sh, cell1_ k qh sh, cell4_ k qh sh, cell3_ k qh sh, cell2_ k qh sh] sz [.ref (qh 0), .int p0, .int p1, .int p2, .int p3] (fun (r : Int32) (u : Unit) => r = J_X4_lack sh p0 p1 p2 p3) (fun u => [cell32_ qh sh, cell0_ k qh sh, cell1_ k qh sh, cell4_ k qh sh, cell3_ k qh sh, cell2_ k qh sh]) := by
  refine g_enter (cc := cX4_lack) (maxL := 6) (ret := (some .int)) (by decide) rfl (Nat.le_of_ble_eq_true rfl) ?_
  intro p e s m below meth c A hsz hAe cx hr hP hD hS ls hl
  rw [hAe]
  refine g_q (fun Q hQ => ?_)
  have hx := cx.1.1
  have hb := cx.1.2.1
  have bp0 := i_rng p0
  have bp1 := i_rng p1
  have bp2 := i_rng p2
  have bp3 := i_rng p3
  have hl : lv_has ls 6 [(0, .ref (qh 0)), (1, .int p0), (2, .int p1), (3, .int p2), (4, .int p3)] := hl
  obtain ⟨H, eH⟩ : ∃ H : Heap, H = s.heap := ⟨_, rfl⟩
  obtain ⟨locs, el⟩ : ∃ L : List Loc, L = [] := ⟨_, rfl⟩
  have hP : va_P D vwCl [cell32_ qh sh, cell0_ k qh sh, cell1_ k qh sh, cell4_ k qh sh, cell3_ k qh sh, cell2_ k qh sh] H := by rw [eH]; exact hP
  have hD : va_D A [cell32_ qh sh, cell0_ k qh sh, cell1_ k qh sh, cell4_ k qh sh, cell3_ k qh sh, cell2_ k qh sh] := hD
  have hS : va_S A s.heap H locs := by rw [eH, el]; exact hS
  suffices goal : W p l e ({ frames := 0, cells := 0, slots := 0, locals := 0 } : Room) s m ([.ref (qh 0), .int p0, .int p1, .int p2, .int p3] : List Value).toArray below meth c H locs 0 0 Q (F0 m 0 ls []) by rw [eH, el] at goal; exact goal
  refine lv_iload_n hx hb dX4_lack_0 rfl (lv_at hl 2 rfl) ?_
  refine lv_bipush (v := 10) hx hb dX4_lack_1 (by decide) ?_
  refine lv_irem hx hb dX4_lack_3 (by decide) (lv_topi (fun v1 e1 => ?_))
  have t1 : -10 < v1.toInt ∧ v1.toInt < 10 := by rw [e1]; exact i_remb (by decide) (by decide)
  refine lv_iload_n hx hb dX4_lack_4 rfl (lv_at hl 3 rfl) ?_
  refine lv_iadd hx hb dX4_lack_5 (lv_topi (fun v2 e2 => ?_))
  refine lv_iload hx hb dX4_lack_6 (lv_at hl 4 rfl) ?_
  refine lv_isub hx hb dX4_lack_8 (lv_topi (fun v3 e3 => ?_))
  refine lv_istore (lv' := [(5, .int v3), (0, .ref (qh 0)), (1, .int p0), (2, .int p1), (3, .int p2), (4, .int p3)]) hx hb dX4_lack_9 hl (by decide) rfl (fun ls hl => ?_)
  refine lv_aload_n hx hb dX4_lack_11 rfl (lv_at hl 1 rfl) ?_
  refine g_get cx hP iw_X4_lack_X4 0 rfl rfl 2 (by decide) rfl fw_X4_lack_9 rfl dX4_lack_12 ?_
  refine lv_iload_n hx hb dX4_lack_15 rfl (lv_at hl 2 rfl) ?_
  have hn4 : vp_in p0 5 := f_in (a := p0.toInt) rfl (by omega) (by omega)
  refine va_iald hx hb cx.2.1 hP 1 0 rfl rfl hn4 dX4_lack_16 (lv_topi (fun v5 e5 => ?_))
  refine lv_aload_n hx hb dX4_lack_17 rfl (lv_at hl 1 rfl) ?_
  refine g_get cx hP iw_X4_lack_X4 0 rfl rfl 5 (by decide) rfl fw_X4_lack_21 rfl dX4_lack_18 ?_
  refine lv_iconst (v := 0) hx hb dX4_lack_21 (by decide) ?_
  have hn6 : vp_in 0 3 := f_in (a := 0) (by decide) (by omega) (by omega)
  refine va_iald hx hb cx.2.1 hP 4 0 rfl rfl hn6 dX4_lack_22 (lv_topi (fun v7 e7 => ?_))
  have uv7 : v7.toInt = ((sh 4) 0).toInt := congrArg Int32.toInt e7
  refine lv_iload_n hx hb dX4_lack_23 rfl (lv_at hl 3 rfl) ?_
  refine lv_bipush (v := 100) hx hb dX4_lack_24 (by decide) ?_
  refine lv_idiv hx hb dX4_lack_26 (by decide) (lv_topi (fun v8 e8 => ?_))
  refine lv_imul hx hb dX4_lack_27 (lv_topi (fun v9 e9 => ?_))
  refine lv_isub hx hb dX4_lack_28 (lv_topi (fun v10 e10 => ?_))
  refine lv_aload_n hx hb dX4_lack_29 rfl (lv_at hl 1 rfl) ?_
  refine g_get cx hP iw_X4_lack_X4 0 rfl rfl 5 (by decide) rfl fw_X4_lack_21 rfl dX4_lack_30 ?_
  refine lv_iconst (v := 1) hx hb dX4_lack_33 (by decide) ?_
  have hn11 : vp_in 1 3 := f_in (a := 1) (by decide) (by omega) (by omega)
  refine va_iald hx hb cx.2.1 hP 4 0 rfl rfl hn11 dX4_lack_34 (lv_topi (fun v12 e12 => ?_))
  have uv12 : v12.toInt = ((sh 4) 1).toInt := congrArg Int32.toInt e12
  refine lv_iload_n hx hb dX4_lack_35 rfl (lv_at hl 3 rfl) ?_
  refine lv_bipush (v := 10) hx hb dX4_lack_36 (by decide) ?_
  refine lv_idiv hx hb dX4_lack_38 (by decide) (lv_topi (fun v13 e13 => ?_))
  refine lv_bipush (v := 10) hx hb dX4_lack_39 (by decide) ?_
  refine lv_irem hx hb dX4_lack_41 (by decide) (lv_topi (fun v14 e14 => ?_))
  have t14 : -10 < v14.toInt ∧ v14.toInt < 10 := by rw [e14]; exact i_remb (by decide) (by decide)
  refine lv_imul hx hb dX4_lack_42 (lv_topi (fun v15 e15 => ?_))
  refine lv_isub hx hb dX4_lack_43 (lv_topi (fun v16 e16 => ?_))
  refine lv_aload_n hx hb dX4_lack_44 rfl (lv_at hl 1 rfl) ?_
  refine g_get cx hP iw_X4_lack_X4 0 rfl rfl 5 (by decide) rfl fw_X4_lack_21 rfl dX4_lack_45 ?_
  refine lv_iconst (v := 2) hx hb dX4_lack_48 (by decide) ?_
  have hn17 : vp_in 2 3 := f_in (a := 2) (by decide) (by omega) (by omega)
  refine va_iald hx hb cx.2.1 hP 4 0 rfl rfl hn17 dX4_lack_49 (lv_topi (fun v18 e18 => ?_))
  have uv18 : v18.toInt = ((sh 4) 2).toInt := congrArg Int32.toInt e18
  refine lv_iload hx hb dX4_lack_50 (lv_at hl 0 rfl) ?_
  refine lv_imul hx hb dX4_lack_52 (lv_topi (fun v19 e19 => ?_))
  refine lv_isub hx hb dX4_lack_53 (lv_topi (fun v20 e20 => ?_))
  rw [hQ]
  exact x_i cx hr () hP hD hS (show v20 = J_X4_lack sh p0 p1 p2 p3 from by subst e1 e2 e3 e5 e7 e8 e9 e10 e12 e13 e14 e15 e16 e18 e19 e20; rfl) dX4_lack_54
theorem mw_X4_weekCost_maxL97 : Cond.methodLink RX4 97 Lib.Math.max.name ∈ wsX4_weekCost := by decide +kernel
theorem mw_X4_weekCost_maxS : Cond.static Lib.Math.max.name ∈ wsX4_weekCost := by decide +kernel
theorem mw_X4_weekCost_maxI : Cond.initialized "java/lang/Math" ∈ wsX4_weekCost := by decide +kernel
theorem mw_X4_weekCost_maxC : Cond.code Lib.Math.max.name Lib.Math.max.code 2 (some .int) ∈ wsX4_weekCost := by decide +kernel
theorem fw_X4_weekCost_45 : Cond.fieldLink RX4 45 "StillInAugust$House" "pay" "I" ∈ wsX4_weekCost := by decide +kernel
theorem fw_X4_weekCost_48 : Cond.fieldLink RX4 48 "StillInAugust$House" "shortPrice" "I" ∈ wsX4_weekCost := by decide +kernel
theorem fw_X4_weekCost_51 : Cond.fieldLink RX4 51 "StillInAugust$House" "letGoPrice" "I" ∈ wsX4_weekCost := by decide +kernel
theorem fw_X4_weekCost_54 : Cond.fieldLink RX4 54 "StillInAugust$House" "teachPrice" "I" ∈ wsX4_weekCost := by decide +kernel
theorem fw_X4_weekCost_57 : Cond.fieldLink RX4 57 "StillInAugust$House" "agencyPrice" "I" ∈ wsX4_weekCost := by decide +kernel
theorem nd_X4_lack : yX4_lack.cls = RX4 ∧ yX4_lack.cls ≠ "java/lang/invoke/MethodHandle" ∧ yX4_lack.cls ≠ "java/lang/invoke/VarHandle" ∧ (parseMethodDescriptor yX4_lack.desc).map (fun d => d.parameters.length) = some 4 := by decide +kernel
theorem iw_X4_weekCost_X4 : ∀ w ∈ u_ws RX4 TX4 14, w ∈ wsX4_weekCost := fun _ h => List.mem_cons_of_mem _ (List.mem_append_right _ h)
def J_X4_weekCost (sh : Nat → Nat → Int32) (p0 : Int32) (p1 : Int32) (p2 : Int32) (p3 : Int32) : Int32 := let y11 := J_X4_lack sh p0 p1 p2 (J_X0_taught p3); if (sh 0 8) = (-9) then if (sh 0 9) = (-9) then if (sh 0 10) = (-9) then (((sh 0 6) * (J_X3_total p1)) + ((sh 0 7) * (if 0 < y11 then y11 else 0))) else ((((sh 0 6) * (J_X3_total p1)) + ((sh 0 7) * (if 0 < y11 then y11 else 0))) + ((sh 0 10) * p2)) else if (sh 0 10) = (-9) then ((((sh 0 6) * (J_X3_total p1)) + ((sh 0 7) * (if 0 < y11 then y11 else 0))) + ((sh 0 9) * (J_X0_taught p3))) else (((((sh 0 6) * (J_X3_total p1)) + ((sh 0 7) * (if 0 < y11 then y11 else 0))) + ((sh 0 9) * (J_X0_taught p3))) + ((sh 0 10) * p2)) else if (sh 0 9) = (-9) then if (sh 0 10) = (-9) then ((((sh 0 6) * (J_X3_total p1)) + ((sh 0 7) * (if 0 < y11 then y11 else 0))) + ((sh 0 8) * (J_X0_letGo p3))) else (((((sh 0 6) * (J_X3_total p1)) + ((sh 0 7) * (if 0 < y11 then y11 else 0))) + ((sh 0 8) * (J_X0_letGo p3))) + ((sh 0 10) * p2)) else if (sh 0 10) = (-9) then (((((sh 0 6) * (J_X3_total p1)) + ((sh 0 7) * (if 0 < y11 then y11 else 0))) + ((sh 0 8) * (J_X0_letGo p3))) + ((sh 0 9) * (J_X0_taught p3))) else ((((((sh 0 6) * (J_X3_total p1)) + ((sh 0 7) * (if 0 < y11 then y11 else 0))) + ((sh 0 8) * (J_X0_letGo p3))) + ((sh 0 9) * (J_X0_taught p3))) + ((sh 0 10) * p2))
set_option maxHeartbeats 4000000 in
set_option maxRecDepth 100000 in
theorem c_X4_weekCost (l : Launch) (D : va_G) (k : Nat → ClassId) (b : Nat → Nat) (qh : Nat → Nat) (sh : Nat → Nat → Int32) (sz : Nat) (p0 : Int32) (p1 : Int32) (p2 : Int32) (p3 : Int32) (hp0 : 0 ≤ p0.toInt ∧ p0.toInt ≤ 4) : MetI l D k b yX4_weekCost wsX4_weekCost ({ frames := 1, cells := 0, slots := 0, locals := 25 } : Room) [cell32_ qh sh, cell0_ k qh sh, cell1_ k qh sh, cell4_ k qh sh, cell3_ k qh sh, cell2_ k qh sh] sz [.ref (qh 0), .int p0, .int p1, .int p2, .int p3] (fun (r : Int32) (u : Unit) => r = J_X4_weekCost sh p0 p1 p2 p3) (fun u => [cell32_ qh sh, cell0_ k qh sh, cell1_ k qh sh, cell4_ k qh sh, cell3_ k qh sh, cell2_ k qh sh]) := by
  refine g_enter (cc := cX4_weekCost) (maxL := 7) (ret := (some .int)) (by decide) rfl (Nat.le_of_ble_eq_true rfl) ?_
  intro p e s m below meth c A hsz hAe cx hr hP hD hS ls hl
  rw [hAe]
  refine g_q (fun Q hQ => ?_)
  have hx := cx.1.1
  have hb := cx.1.2.1
  have bp0 := i_rng p0
  have bp1 := i_rng p1
  have bp2 := i_rng p2
  have bp3 := i_rng p3
  have hl : lv_has ls 7 [(0, .ref (qh 0)), (1, .int p0), (2, .int p1), (3, .int p2), (4, .int p3)] := hl
  obtain ⟨H, eH⟩ : ∃ H : Heap, H = s.heap := ⟨_, rfl⟩
  obtain ⟨locs, el⟩ : ∃ L : List Loc, L = [] := ⟨_, rfl⟩
  have hP : va_P D vwCl [cell32_ qh sh, cell0_ k qh sh, cell1_ k qh sh, cell4_ k qh sh, cell3_ k qh sh, cell2_ k qh sh] H := by rw [eH]; exact hP
  have hD : va_D A [cell32_ qh sh, cell0_ k qh sh, cell1_ k qh sh, cell4_ k qh sh, cell3_ k qh sh, cell2_ k qh sh] := hD
  have hS : va_S A s.heap H locs := by rw [eH, el]; exact hS
  suffices goal : W p l e ({ frames := 1, cells := 0, slots := 0, locals := 25 } : Room) s m ([.ref (qh 0), .int p0, .int p1, .int p2, .int p3] : List Value).toArray below meth c H locs 0 0 Q (F0 m 0 ls []) by rw [eH, el] at goal; exact goal
  refine lv_iload hx hb dX4_weekCost_0 (lv_at hl 4 rfl) ?_
  refine g_ir (g_runS (wc := []) (rest := []) cx hP hD hS [] rfl (by decide) [.int p3] (c_X0_taught l D k b H.size p3) gX4_weekCost_X0_taught rfl rfl rfl nd_X0_taught ⟨Nat.le_of_ble_eq_true rfl, Nat.le_of_ble_eq_true rfl⟩ rfl hl.1 rfl (Nat.le_of_ble_eq_true rfl) ⟨Nat.zero_le _, Nat.zero_le _⟩ dX4_weekCost_2) cx.2.2.1 hP hD hS [] rfl rfl (fun r2 H locs hw1 hP hS => ?_)
  have w3 : r2 = J_X0_taught p3 := hw1
  clear hw1
  refine lv_istore (lv' := [(5, .int r2), (0, .ref (qh 0)), (1, .int p0), (2, .int p1), (3, .int p2), (4, .int p3)]) hx hb dX4_weekCost_5 hl (by decide) rfl (fun ls hl => ?_)
  refine lv_aload_n hx hb dX4_weekCost_7 rfl (lv_at hl 1 rfl) ?_
  refine g_get cx hP iw_X4_weekCost_X4 0 rfl rfl 6 (by decide) rfl fw_X4_weekCost_45 rfl dX4_weekCost_8 ?_
  refine lv_iload_n hx hb dX4_weekCost_11 rfl (lv_at hl 3 rfl) ?_
  refine g_ir (g_runS (wc := []) (rest := [.int (sh 0 6)]) cx hP hD hS [] rfl (by decide) [.int p1] (c_X3_total l D k b H.size p1) gX4_weekCost_X3_total rfl rfl rfl nd_X3_total ⟨Nat.le_of_ble_eq_true rfl, Nat.le_of_ble_eq_true rfl⟩ rfl hl.1 rfl (Nat.le_of_ble_eq_true rfl) ⟨Nat.zero_le _, Nat.zero_le _⟩ dX4_weekCost_12) cx.2.2.1 hP hD hS [] rfl rfl (fun r5 H locs hw4 hP hS => ?_)
  have w6 : r5 = J_X3_total p1 := hw4
  clear hw4
  refine lv_imul hx hb dX4_weekCost_15 (lv_topi (fun v7 e7 => ?_))
  refine lv_aload_n hx hb dX4_weekCost_16 rfl (lv_at hl 1 rfl) ?_
  refine g_get cx hP iw_X4_weekCost_X4 0 rfl rfl 7 (by decide) rfl fw_X4_weekCost_48 rfl dX4_weekCost_17 ?_
  refine lv_iconst (v := 0) hx hb dX4_weekCost_20 (by decide) ?_
  refine lv_aload_n hx hb dX4_weekCost_21 rfl (lv_at hl 1 rfl) ?_
  refine lv_iload_n hx hb dX4_weekCost_22 rfl (lv_at hl 2 rfl) ?_
  refine lv_iload_n hx hb dX4_weekCost_23 rfl (lv_at hl 3 rfl) ?_
  refine lv_iload_n hx hb dX4_weekCost_24 rfl (lv_at hl 4 rfl) ?_
  refine lv_iload hx hb dX4_weekCost_25 (lv_at hl 0 rfl) ?_
  refine g_iF (w1 := fun (_ : Unit) => [cell32_ qh sh, cell0_ k qh sh, cell1_ k qh sh, cell4_ k qh sh, cell3_ k qh sh, cell2_ k qh sh]) (g_runVF (ws := [cell32_ qh sh, cell0_ k qh sh, cell1_ k qh sh, cell4_ k qh sh, cell3_ k qh sh, cell2_ k qh sh]) (rest := [.int 0, .int (sh 0 7), .int v7]) cx hP hD hS [.int p0, .int p1, .int p2, .int r2] (c_X4_lack l D k b qh sh H.size p0 p1 p2 r2 (show 0 ≤ p0.toInt ∧ p0.toInt ≤ 4 from by first | decide | omega)) gX4_weekCost_X4_lack rfl rfl rfl nd_X4_lack ⟨Nat.le_of_ble_eq_true rfl, Nat.le_of_ble_eq_true rfl⟩ (ci := 2) (q0 := 0) rfl rfl rfl hl.1 rfl (Nat.le_of_ble_eq_true rfl) ⟨Nat.zero_le _, Nat.zero_le _⟩ dX4_weekCost_27) cx.2.2.1 hD hS (fun r9 _ H locs hw8 hP hD hS => ?_)
  have w10 : r9 = J_X4_lack sh p0 p1 p2 r2 := hw8
  clear hw8
  have k12 : r9 = (J_X4_lack sh p0 p1 p2 r2) := congrArg (fun z => z) w10
  have rzr9 := i_rng r9
  refine va_mmax hx hb (cx.1.2.2.1.trans hl.1.symm) cx.1.2.2.2.1 (cx.1.2.2.2.2 _ mw_X4_weekCost_maxL97) (cx.1.2.2.2.2 _ mw_X4_weekCost_maxS) (cx.1.2.2.2.2 _ mw_X4_weekCost_maxI) (cx.1.2.2.2.2 _ mw_X4_weekCost_maxC) (Nat.le_of_ble_eq_true rfl) (Nat.le_of_ble_eq_true rfl) (Nat.zero_le _) (Nat.zero_le _) dX4_weekCost_30 (lv_topi (fun v13 e13 => ?_))
  have t13 := i_max (by decide) rfl (a := 0) (b := r9.toInt) e13
  refine lv_imul hx hb dX4_weekCost_33 (lv_topi (fun v14 e14 => ?_))
  refine lv_iadd hx hb dX4_weekCost_34 (lv_topi (fun v15 e15 => ?_))
  refine lv_istore (lv' := [(6, .int v15), (5, .int r2), (0, .ref (qh 0)), (1, .int p0), (2, .int p1), (3, .int p2), (4, .int p3)]) hx hb dX4_weekCost_35 hl (by decide) rfl (fun ls hl => ?_)
  refine lv_aload_n hx hb dX4_weekCost_37 rfl (lv_at hl 2 rfl) ?_
  refine g_get cx hP iw_X4_weekCost_X4 0 rfl rfl 8 (by decide) rfl fw_X4_weekCost_51 rfl dX4_weekCost_38 ?_
  refine lv_bipush (v := (-9)) hx hb dX4_weekCost_41 (by decide) ?_
  refine lv_icmp_eq (tgt := 61) hx hb dX4_weekCost_43 (by decide) (fun c16 => ?_) (fun c16 => ?_)
  · have f16 : (sh 0 8).toInt = (-9) := f_eq rfl (by decide) c16
    refine lv_aload_n hx hb dX4_weekCost_61 rfl (lv_at hl 2 rfl) ?_
    refine g_get cx hP iw_X4_weekCost_X4 0 rfl rfl 9 (by decide) rfl fw_X4_weekCost_54 rfl dX4_weekCost_62 ?_
    refine lv_bipush (v := (-9)) hx hb dX4_weekCost_65 (by decide) ?_
    refine lv_icmp_eq (tgt := 82) hx hb dX4_weekCost_67 (by decide) (fun c17 => ?_) (fun c17 => ?_)
    · have f17 : (sh 0 9).toInt = (-9) := f_eq rfl (by decide) c17
      refine lv_aload_n hx hb dX4_weekCost_82 rfl (lv_at hl 2 rfl) ?_
      refine g_get cx hP iw_X4_weekCost_X4 0 rfl rfl 10 (by decide) rfl fw_X4_weekCost_57 rfl dX4_weekCost_83 ?_
      refine lv_bipush (v := (-9)) hx hb dX4_weekCost_86 (by decide) ?_
      refine lv_icmp_eq (tgt := 102) hx hb dX4_weekCost_88 (by decide) (fun c18 => ?_) (fun c18 => ?_)
      · have f18 : (sh 0 10).toInt = (-9) := f_eq rfl (by decide) c18
        refine lv_iload hx hb dX4_weekCost_102 (lv_at hl 0 rfl) ?_
        rw [hQ]
        exact x_i cx hr () hP hD hS (show v15 = J_X4_weekCost sh p0 p1 p2 p3 from by subst w3 w6 e7 k12 e13 e14 e15; first | (refine Eq.symm ?_; refine Eq.trans (if_pos c16) ?_; refine Eq.trans (if_pos c17) ?_; refine Eq.trans (if_pos c18) ?_; rfl) | (unfold J_X4_weekCost; try dsimp only; rw [if_pos c16, if_pos c17, if_pos c18])) dX4_weekCost_104
      · have f18 : ¬ (sh 0 10).toInt = (-9) := f_ne rfl (by decide) c18
        refine lv_iload hx hb dX4_weekCost_91 (lv_at hl 0 rfl) ?_
        refine lv_aload_n hx hb dX4_weekCost_93 rfl (lv_at hl 2 rfl) ?_
        refine g_get cx hP iw_X4_weekCost_X4 0 rfl rfl 10 (by decide) rfl fw_X4_weekCost_57 rfl dX4_weekCost_94 ?_
        refine lv_iload_n hx hb dX4_weekCost_97 rfl (lv_at hl 5 rfl) ?_
        refine lv_imul hx hb dX4_weekCost_98 (lv_topi (fun v19 e19 => ?_))
        refine lv_iadd hx hb dX4_weekCost_99 (lv_topi (fun v20 e20 => ?_))
        refine lv_istore (lv' := [(6, .int v20), (5, .int r2), (0, .ref (qh 0)), (1, .int p0), (2, .int p1), (3, .int p2), (4, .int p3)]) hx hb dX4_weekCost_100 hl (by decide) rfl (fun ls hl => ?_)
        refine lv_iload hx hb dX4_weekCost_102 (lv_at hl 0 rfl) ?_
        rw [hQ]
        exact x_i cx hr () hP hD hS (show v20 = J_X4_weekCost sh p0 p1 p2 p3 from by subst w3 w6 e7 k12 e13 e14 e15 e19 e20; first | (refine Eq.symm ?_; refine Eq.trans (if_pos c16) ?_; refine Eq.trans (if_pos c17) ?_; refine Eq.trans (if_neg c18) ?_; rfl) | (unfold J_X4_weekCost; try dsimp only; rw [if_pos c16, if_pos c17, if_neg c18])) dX4_weekCost_104
    · have f17 : ¬ (sh 0 9).toInt = (-9) := f_ne rfl (by decide) c17
      refine lv_iload hx hb dX4_weekCost_70 (lv_at hl 0 rfl) ?_
      refine lv_aload_n hx hb dX4_weekCost_72 rfl (lv_at hl 2 rfl) ?_
      refine g_get cx hP iw_X4_weekCost_X4 0 rfl rfl 9 (by decide) rfl fw_X4_weekCost_54 rfl dX4_weekCost_73 ?_
      refine lv_iload hx hb dX4_weekCost_76 (lv_at hl 1 rfl) ?_
      refine lv_imul hx hb dX4_weekCost_78 (lv_topi (fun v21 e21 => ?_))
      refine lv_iadd hx hb dX4_weekCost_79 (lv_topi (fun v22 e22 => ?_))
      refine lv_istore (lv' := [(6, .int v22), (5, .int r2), (0, .ref (qh 0)), (1, .int p0), (2, .int p1), (3, .int p2), (4, .int p3)]) hx hb dX4_weekCost_80 hl (by decide) rfl (fun ls hl => ?_)
      refine lv_aload_n hx hb dX4_weekCost_82 rfl (lv_at hl 2 rfl) ?_
      refine g_get cx hP iw_X4_weekCost_X4 0 rfl rfl 10 (by decide) rfl fw_X4_weekCost_57 rfl dX4_weekCost_83 ?_
      refine lv_bipush (v := (-9)) hx hb dX4_weekCost_86 (by decide) ?_
      refine lv_icmp_eq (tgt := 102) hx hb dX4_weekCost_88 (by decide) (fun c23 => ?_) (fun c23 => ?_)
      · have f23 : (sh 0 10).toInt = (-9) := f_eq rfl (by decide) c23
        refine lv_iload hx hb dX4_weekCost_102 (lv_at hl 0 rfl) ?_
        rw [hQ]
        exact x_i cx hr () hP hD hS (show v22 = J_X4_weekCost sh p0 p1 p2 p3 from by subst w3 w6 e7 k12 e13 e14 e15 e21 e22; first | (refine Eq.symm ?_; refine Eq.trans (if_pos c16) ?_; refine Eq.trans (if_neg c17) ?_; refine Eq.trans (if_pos c23) ?_; rfl) | (unfold J_X4_weekCost; try dsimp only; rw [if_pos c16, if_neg c17, if_pos c23])) dX4_weekCost_104
      · have f23 : ¬ (sh 0 10).toInt = (-9) := f_ne rfl (by decide) c23
        refine lv_iload hx hb dX4_weekCost_91 (lv_at hl 0 rfl) ?_
        refine lv_aload_n hx hb dX4_weekCost_93 rfl (lv_at hl 2 rfl) ?_
        refine g_get cx hP iw_X4_weekCost_X4 0 rfl rfl 10 (by decide) rfl fw_X4_weekCost_57 rfl dX4_weekCost_94 ?_
        refine lv_iload_n hx hb dX4_weekCost_97 rfl (lv_at hl 5 rfl) ?_
        refine lv_imul hx hb dX4_weekCost_98 (lv_topi (fun v24 e24 => ?_))
        refine lv_iadd hx hb dX4_weekCost_99 (lv_topi (fun v25 e25 => ?_))
        refine lv_istore (lv' := [(6, .int v25), (5, .int r2), (0, .ref (qh 0)), (1, .int p0), (2, .int p1), (3, .int p2), (4, .int p3)]) hx hb dX4_weekCost_100 hl (by decide) rfl (fun ls hl => ?_)
        refine lv_iload hx hb dX4_weekCost_102 (lv_at hl 0 rfl) ?_
        rw [hQ]
        exact x_i cx hr () hP hD hS (show v25 = J_X4_weekCost sh p0 p1 p2 p3 from by subst w3 w6 e7 k12 e13 e14 e15 e21 e22 e24 e25; first | (refine Eq.symm ?_; refine Eq.trans (if_pos c16) ?_; refine Eq.trans (if_neg c17) ?_; refine Eq.trans (if_neg c23) ?_; rfl) | (unfold J_X4_weekCost; try dsimp only; rw [if_pos c16, if_neg c17, if_neg c23])) dX4_weekCost_104
  · have f16 : ¬ (sh 0 8).toInt = (-9) := f_ne rfl (by decide) c16
    refine lv_iload hx hb dX4_weekCost_46 (lv_at hl 0 rfl) ?_
    refine lv_aload_n hx hb dX4_weekCost_48 rfl (lv_at hl 2 rfl) ?_
    refine g_get cx hP iw_X4_weekCost_X4 0 rfl rfl 8 (by decide) rfl fw_X4_weekCost_51 rfl dX4_weekCost_49 ?_
    refine lv_iload hx hb dX4_weekCost_52 (lv_at hl 6 rfl) ?_
    refine g_ir (g_runS (wc := []) (rest := [.int (sh 0 8), .int v15]) cx hP hD hS [] rfl (by decide) [.int p3] (c_X0_letGo l D k b H.size p3) gX4_weekCost_X0_letGo rfl rfl rfl nd_X0_letGo ⟨Nat.le_of_ble_eq_true rfl, Nat.le_of_ble_eq_true rfl⟩ rfl hl.1 rfl (Nat.le_of_ble_eq_true rfl) ⟨Nat.zero_le _, Nat.zero_le _⟩ dX4_weekCost_54) cx.2.2.1 hP hD hS [] rfl rfl (fun r27 H locs hw26 hP hS => ?_)
    have w28 : r27 = J_X0_letGo p3 := hw26
    clear hw26
    refine lv_imul hx hb dX4_weekCost_57 (lv_topi (fun v29 e29 => ?_))
    refine lv_iadd hx hb dX4_weekCost_58 (lv_topi (fun v30 e30 => ?_))
    refine lv_istore (lv' := [(6, .int v30), (5, .int r2), (0, .ref (qh 0)), (1, .int p0), (2, .int p1), (3, .int p2), (4, .int p3)]) hx hb dX4_weekCost_59 hl (by decide) rfl (fun ls hl => ?_)
    refine lv_aload_n hx hb dX4_weekCost_61 rfl (lv_at hl 2 rfl) ?_
    refine g_get cx hP iw_X4_weekCost_X4 0 rfl rfl 9 (by decide) rfl fw_X4_weekCost_54 rfl dX4_weekCost_62 ?_
    refine lv_bipush (v := (-9)) hx hb dX4_weekCost_65 (by decide) ?_
    refine lv_icmp_eq (tgt := 82) hx hb dX4_weekCost_67 (by decide) (fun c31 => ?_) (fun c31 => ?_)
    · have f31 : (sh 0 9).toInt = (-9) := f_eq rfl (by decide) c31
      refine lv_aload_n hx hb dX4_weekCost_82 rfl (lv_at hl 2 rfl) ?_
      refine g_get cx hP iw_X4_weekCost_X4 0 rfl rfl 10 (by decide) rfl fw_X4_weekCost_57 rfl dX4_weekCost_83 ?_
      refine lv_bipush (v := (-9)) hx hb dX4_weekCost_86 (by decide) ?_
      refine lv_icmp_eq (tgt := 102) hx hb dX4_weekCost_88 (by decide) (fun c32 => ?_) (fun c32 => ?_)
      · have f32 : (sh 0 10).toInt = (-9) := f_eq rfl (by decide) c32
        refine lv_iload hx hb dX4_weekCost_102 (lv_at hl 0 rfl) ?_
        rw [hQ]
        exact x_i cx hr () hP hD hS (show v30 = J_X4_weekCost sh p0 p1 p2 p3 from by subst w3 w6 e7 k12 e13 e14 e15 w28 e29 e30; first | (refine Eq.symm ?_; refine Eq.trans (if_neg c16) ?_; refine Eq.trans (if_pos c31) ?_; refine Eq.trans (if_pos c32) ?_; rfl) | (unfold J_X4_weekCost; try dsimp only; rw [if_neg c16, if_pos c31, if_pos c32])) dX4_weekCost_104
      · have f32 : ¬ (sh 0 10).toInt = (-9) := f_ne rfl (by decide) c32
        refine lv_iload hx hb dX4_weekCost_91 (lv_at hl 0 rfl) ?_
        refine lv_aload_n hx hb dX4_weekCost_93 rfl (lv_at hl 2 rfl) ?_
        refine g_get cx hP iw_X4_weekCost_X4 0 rfl rfl 10 (by decide) rfl fw_X4_weekCost_57 rfl dX4_weekCost_94 ?_
        refine lv_iload_n hx hb dX4_weekCost_97 rfl (lv_at hl 5 rfl) ?_
        refine lv_imul hx hb dX4_weekCost_98 (lv_topi (fun v33 e33 => ?_))
        refine lv_iadd hx hb dX4_weekCost_99 (lv_topi (fun v34 e34 => ?_))
        refine lv_istore (lv' := [(6, .int v34), (5, .int r2), (0, .ref (qh 0)), (1, .int p0), (2, .int p1), (3, .int p2), (4, .int p3)]) hx hb dX4_weekCost_100 hl (by decide) rfl (fun ls hl => ?_)
        refine lv_iload hx hb dX4_weekCost_102 (lv_at hl 0 rfl) ?_
        rw [hQ]
        exact x_i cx hr () hP hD hS (show v34 = J_X4_weekCost sh p0 p1 p2 p3 from by subst w3 w6 e7 k12 e13 e14 e15 w28 e29 e30 e33 e34; first | (refine Eq.symm ?_; refine Eq.trans (if_neg c16) ?_; refine Eq.trans (if_pos c31) ?_; refine Eq.trans (if_neg c32) ?_; rfl) | (unfold J_X4_weekCost; try dsimp only; rw [if_neg c16, if_pos c31, if_neg c32])) dX4_weekCost_104
    · have f31 : ¬ (sh 0 9).toInt = (-9) := f_ne rfl (by decide) c31
      refine lv_iload hx hb dX4_weekCost_70 (lv_at hl 0 rfl) ?_
      refine lv_aload_n hx hb dX4_weekCost_72 rfl (lv_at hl 2 rfl) ?_
      refine g_get cx hP iw_X4_weekCost_X4 0 rfl rfl 9 (by decide) rfl fw_X4_weekCost_54 rfl dX4_weekCost_73 ?_
      refine lv_iload hx hb dX4_weekCost_76 (lv_at hl 1 rfl) ?_
      refine lv_imul hx hb dX4_weekCost_78 (lv_topi (fun v35 e35 => ?_))
      refine lv_iadd hx hb dX4_weekCost_79 (lv_topi (fun v36 e36 => ?_))
      refine lv_istore (lv' := [(6, .int v36), (5, .int r2), (0, .ref (qh 0)), (1, .int p0), (2, .int p1), (3, .int p2), (4, .int p3)]) hx hb dX4_weekCost_80 hl (by decide) rfl (fun ls hl => ?_)
      refine lv_aload_n hx hb dX4_weekCost_82 rfl (lv_at hl 2 rfl) ?_
      refine g_get cx hP iw_X4_weekCost_X4 0 rfl rfl 10 (by decide) rfl fw_X4_weekCost_57 rfl dX4_weekCost_83 ?_
      refine lv_bipush (v := (-9)) hx hb dX4_weekCost_86 (by decide) ?_
      refine lv_icmp_eq (tgt := 102) hx hb dX4_weekCost_88 (by decide) (fun c37 => ?_) (fun c37 => ?_)
      · have f37 : (sh 0 10).toInt = (-9) := f_eq rfl (by decide) c37
        refine lv_iload hx hb dX4_weekCost_102 (lv_at hl 0 rfl) ?_
        rw [hQ]
        exact x_i cx hr () hP hD hS (show v36 = J_X4_weekCost sh p0 p1 p2 p3 from by subst w3 w6 e7 k12 e13 e14 e15 w28 e29 e30 e35 e36; first | (refine Eq.symm ?_; refine Eq.trans (if_neg c16) ?_; refine Eq.trans (if_neg c31) ?_; refine Eq.trans (if_pos c37) ?_; rfl) | (unfold J_X4_weekCost; try dsimp only; rw [if_neg c16, if_neg c31, if_pos c37])) dX4_weekCost_104
      · have f37 : ¬ (sh 0 10).toInt = (-9) := f_ne rfl (by decide) c37
        refine lv_iload hx hb dX4_weekCost_91 (lv_at hl 0 rfl) ?_
        refine lv_aload_n hx hb dX4_weekCost_93 rfl (lv_at hl 2 rfl) ?_
        refine g_get cx hP iw_X4_weekCost_X4 0 rfl rfl 10 (by decide) rfl fw_X4_weekCost_57 rfl dX4_weekCost_94 ?_
        refine lv_iload_n hx hb dX4_weekCost_97 rfl (lv_at hl 5 rfl) ?_
        refine lv_imul hx hb dX4_weekCost_98 (lv_topi (fun v38 e38 => ?_))
        refine lv_iadd hx hb dX4_weekCost_99 (lv_topi (fun v39 e39 => ?_))
        refine lv_istore (lv' := [(6, .int v39), (5, .int r2), (0, .ref (qh 0)), (1, .int p0), (2, .int p1), (3, .int p2), (4, .int p3)]) hx hb dX4_weekCost_100 hl (by decide) rfl (fun ls hl => ?_)
        refine lv_iload hx hb dX4_weekCost_102 (lv_at hl 0 rfl) ?_
        rw [hQ]
        exact x_i cx hr () hP hD hS (show v39 = J_X4_weekCost sh p0 p1 p2 p3 from by subst w3 w6 e7 k12 e13 e14 e15 w28 e29 e30 e35 e36 e38 e39; first | (refine Eq.symm ?_; refine Eq.trans (if_neg c16) ?_; refine Eq.trans (if_neg c31) ?_; refine Eq.trans (if_neg c37) ?_; rfl) | (unfold J_X4_weekCost; try dsimp only; rw [if_neg c16, if_neg c31, if_neg c37])) dX4_weekCost_104
theorem fw_X4_bonusFor_60 : Cond.fieldLink RX4 60 "StillInAugust$House" "bonus" "I" ∈ wsX4_bonusFor := by decide +kernel
theorem iw_X4_bonusFor_X4 : ∀ w ∈ u_ws RX4 TX4 14, w ∈ wsX4_bonusFor := fun _ h => List.mem_cons_of_mem _ (List.mem_append_right _ h)
def J_X4_bonusFor (sh : Nat → Nat → Int32) (p0 : Int32) : Int32 := if (sh 0 11) = (-9) then (0 : Int32) else ((sh 0 11) * (J_X3_total p0))
set_option maxHeartbeats 4000000 in
set_option maxRecDepth 100000 in
theorem c_X4_bonusFor (l : Launch) (D : va_G) (k : Nat → ClassId) (b : Nat → Nat) (qh : Nat → Nat) (sh : Nat → Nat → Int32) (sz : Nat) (p0 : Int32) : MetI l D k b yX4_bonusFor wsX4_bonusFor ({ frames := 1, cells := 0, slots := 0, locals := 20 } : Room) [cell32_ qh sh, cell0_ k qh sh, cell1_ k qh sh, cell4_ k qh sh, cell3_ k qh sh, cell2_ k qh sh] sz [.ref (qh 0), .int p0] (fun (r : Int32) (u : Unit) => r = J_X4_bonusFor sh p0) (fun u => [cell32_ qh sh, cell0_ k qh sh, cell1_ k qh sh, cell4_ k qh sh, cell3_ k qh sh, cell2_ k qh sh]) := by
  refine g_enter (cc := cX4_bonusFor) (maxL := 2) (ret := (some .int)) (by decide) rfl (Nat.le_of_ble_eq_true rfl) ?_
  intro p e s m below meth c A hsz hAe cx hr hP hD hS ls hl
  rw [hAe]
  refine g_q (fun Q hQ => ?_)
  have hx := cx.1.1
  have hb := cx.1.2.1
  have bp0 := i_rng p0
  have hl : lv_has ls 2 [(0, .ref (qh 0)), (1, .int p0)] := hl
  obtain ⟨H, eH⟩ : ∃ H : Heap, H = s.heap := ⟨_, rfl⟩
  obtain ⟨locs, el⟩ : ∃ L : List Loc, L = [] := ⟨_, rfl⟩
  have hP : va_P D vwCl [cell32_ qh sh, cell0_ k qh sh, cell1_ k qh sh, cell4_ k qh sh, cell3_ k qh sh, cell2_ k qh sh] H := by rw [eH]; exact hP
  have hD : va_D A [cell32_ qh sh, cell0_ k qh sh, cell1_ k qh sh, cell4_ k qh sh, cell3_ k qh sh, cell2_ k qh sh] := hD
  have hS : va_S A s.heap H locs := by rw [eH, el]; exact hS
  suffices goal : W p l e ({ frames := 1, cells := 0, slots := 0, locals := 20 } : Room) s m ([.ref (qh 0), .int p0] : List Value).toArray below meth c H locs 0 0 Q (F0 m 0 ls []) by rw [eH, el] at goal; exact goal
  refine lv_aload_n hx hb dX4_bonusFor_0 rfl (lv_at hl 0 rfl) ?_
  refine g_get cx hP iw_X4_bonusFor_X4 0 rfl rfl 11 (by decide) rfl fw_X4_bonusFor_60 rfl dX4_bonusFor_1 ?_
  refine lv_bipush (v := (-9)) hx hb dX4_bonusFor_4 (by decide) ?_
  refine lv_icmp_ne (tgt := 13) hx hb dX4_bonusFor_6 (by decide) (fun c1 => ?_) (fun c1 => ?_)
  · have f1 : ¬ (sh 0 11).toInt = (-9) := f_ne rfl (by decide) c1
    refine lv_aload_n hx hb dX4_bonusFor_13 rfl (lv_at hl 0 rfl) ?_
    refine g_get cx hP iw_X4_bonusFor_X4 0 rfl rfl 11 (by decide) rfl fw_X4_bonusFor_60 rfl dX4_bonusFor_14 ?_
    refine lv_iload_n hx hb dX4_bonusFor_17 rfl (lv_at hl 1 rfl) ?_
    refine g_ir (g_runS (wc := []) (rest := [.int (sh 0 11)]) cx hP hD hS [] rfl (by decide) [.int p0] (c_X3_total l D k b H.size p0) gX4_bonusFor_X3_total rfl rfl rfl nd_X3_total ⟨Nat.le_of_ble_eq_true rfl, Nat.le_of_ble_eq_true rfl⟩ rfl hl.1 rfl (Nat.le_of_ble_eq_true rfl) ⟨Nat.zero_le _, Nat.zero_le _⟩ dX4_bonusFor_18) cx.2.2.1 hP hD hS [] rfl rfl (fun r3 H locs hw2 hP hS => ?_)
    have w4 : r3 = J_X3_total p0 := hw2
    clear hw2
    refine lv_imul hx hb dX4_bonusFor_21 (lv_topi (fun v5 e5 => ?_))
    rw [hQ]
    exact x_i cx hr () hP hD hS (show v5 = J_X4_bonusFor sh p0 from by subst w4 e5; first | (refine Eq.symm ?_; refine Eq.trans (if_neg c1) ?_; rfl) | (unfold J_X4_bonusFor; try dsimp only; rw [if_neg c1])) dX4_bonusFor_22
  · have f1 : (sh 0 11).toInt = (-9) := f_eq rfl (by decide) c1
    refine lv_iconst (v := 0) hx hb dX4_bonusFor_9 (by decide) ?_
    refine lv_goto (tgt := 22) hx hb dX4_bonusFor_10 (by decide) ?_
    have hlit6 : (0 : Int32).toInt = 0 := by decide
    rw [hQ]
    exact x_i cx hr () hP hD hS (show (0 : Int32) = J_X4_bonusFor sh p0 from by first | (refine Eq.symm ?_; refine Eq.trans (if_pos c1) ?_; rfl) | (unfold J_X4_bonusFor; try dsimp only; rw [if_pos c1])) dX4_bonusFor_22
theorem fw_X4_sumOf_1_32 : Cond.fieldLink RX4 32 "StillInAugust$House" "weeks" "I" ∈ wsX4_sumOf := by decide +kernel
theorem iw_X4_sumOf_1_X4 : ∀ w ∈ u_ws RX4 TX4 14, w ∈ wsX4_sumOf := fun _ h => List.mem_cons_of_mem _ (List.mem_append_right _ h)
def J_X4_sumOf_1 (sh : Nat → Nat → Int32) : Int32 := (SF (sh 1) (Int.toNat (sh 0 0).toInt))
set_option maxHeartbeats 4000000 in
set_option maxRecDepth 100000 in
theorem c_X4_sumOf_1 (l : Launch) (D : va_G) (k : Nat → ClassId) (b : Nat → Nat) (qh : Nat → Nat) (sh : Nat → Nat → Int32) (sz : Nat) (h_wk : 0 ≤ (sh 0 0).toInt ∧ (sh 0 0).toInt ≤ 5) : MetI l D k b yX4_sumOf wsX4_sumOf ({ frames := 0, cells := 0, slots := 0, locals := 0 } : Room) [cell32_ qh sh, cell0_ k qh sh, cell1_ k qh sh, cell4_ k qh sh, cell3_ k qh sh, cell2_ k qh sh] sz [.ref (qh 0), .ref (qh 1)] (fun (r : Int32) (u : Unit) => r = J_X4_sumOf_1 sh) (fun u => [cell32_ qh sh, cell0_ k qh sh, cell1_ k qh sh, cell4_ k qh sh, cell3_ k qh sh, cell2_ k qh sh]) := by
  refine g_enter (cc := cX4_sumOf) (maxL := 4) (ret := (some .int)) (by decide) rfl (Nat.le_of_ble_eq_true rfl) ?_
  intro p e s m below meth c A hsz hAe cx hr hP hD hS ls hl
  rw [hAe]
  refine g_q (fun Q hQ => ?_)
  have hx := cx.1.1
  have hb := cx.1.2.1
  have hl : lv_has ls 4 [(0, .ref (qh 0)), (1, .ref (qh 1))] := hl
  obtain ⟨H, eH⟩ : ∃ H : Heap, H = s.heap := ⟨_, rfl⟩
  obtain ⟨locs, el⟩ : ∃ L : List Loc, L = [] := ⟨_, rfl⟩
  have hP : va_P D vwCl [cell32_ qh sh, cell0_ k qh sh, cell1_ k qh sh, cell4_ k qh sh, cell3_ k qh sh, cell2_ k qh sh] H := by rw [eH]; exact hP
  have hD : va_D A [cell32_ qh sh, cell0_ k qh sh, cell1_ k qh sh, cell4_ k qh sh, cell3_ k qh sh, cell2_ k qh sh] := hD
  have hS : va_S A s.heap H locs := by rw [eH, el]; exact hS
  suffices goal : W p l e ({ frames := 0, cells := 0, slots := 0, locals := 0 } : Room) s m ([.ref (qh 0), .ref (qh 1)] : List Value).toArray below meth c H locs 0 0 Q (F0 m 0 ls []) by rw [eH, el] at goal; exact goal
  refine lv_iconst (v := 0) hx hb dX4_sumOf_0 (by decide) ?_
  refine lv_istore_n (lv' := [(2, .int 0), (0, .ref (qh 0)), (1, .ref (qh 1))]) hx hb dX4_sumOf_1 rfl hl (by decide) rfl (fun ls hl => ?_)
  refine lv_iconst (v := 0) hx hb dX4_sumOf_2 (by decide) ?_
  refine lv_istore_n (lv' := [(3, .int 0), (2, .int 0), (0, .ref (qh 0)), (1, .ref (qh 1))]) hx hb dX4_sumOf_3 rfl hl (by decide) rfl (fun ls hl => ?_)
  have hL4 : ∀ (n7 : Nat) (v5 : Int32) (v6 : Int32) (H : Heap) (locs : List Loc) (ls : Array Slot), 5 - v5.toInt < (n7 : Int) → (0 ≤ v5.toInt ∧ v5.toInt ≤ 5) → (v5.toInt ≤ (sh 0 0).toInt) → (v6 = SF (sh 1) (Int.toNat v5.toInt)) → va_P D vwCl [cell32_ qh sh, cell0_ k qh sh, cell1_ k qh sh, cell4_ k qh sh, cell3_ k qh sh, cell2_ k qh sh] H → va_D A [cell32_ qh sh, cell0_ k qh sh, cell1_ k qh sh, cell4_ k qh sh, cell3_ k qh sh, cell2_ k qh sh] → va_S A s.heap H locs → lv_has ls 4 [(3, .int v5), (2, .int v6), (0, .ref (qh 0)), (1, .ref (qh 1))] → W p l e ({ frames := 0, cells := 0, slots := 0, locals := 0 } : Room) s m ([.ref (qh 0), .ref (qh 1)] : List Value).toArray below meth c H locs 0 0 Q (F0 m 4 ls []) := by
    intro n7
    induction n7 with
    | zero => intro v5 v6 H locs ls hmn7 bv5 q3 qs1 hP hD hS hl; exact absurd hmn7 (by omega)
    | succ n7 ih4 =>
      intro v5 v6 H locs ls hmn7 bv5 q3 qs1 hP hD hS hl
      refine lv_iload_n hx hb dX4_sumOf_4 rfl (lv_at hl 0 rfl) ?_
      refine lv_aload_n hx hb dX4_sumOf_5 rfl (lv_at hl 2 rfl) ?_
      refine g_get cx hP iw_X4_sumOf_1_X4 0 rfl rfl 0 (by decide) rfl fw_X4_sumOf_1_32 rfl dX4_sumOf_6 ?_
      refine lv_icmp_ge (tgt := 30) hx hb dX4_sumOf_9 (by decide) (fun c8 => ?_) (fun c8 => ?_)
      · have f8 : (sh 0 0).toInt ≤ v5.toInt := f_le rfl rfl c8
        have qs1_e : v6 = (SF (sh 1) (Int.toNat (sh 0 0).toInt)) := by have q : Int.toNat v5.toInt = (Int.toNat (sh 0 0).toInt) := (by omega); rw [q] at qs1; exact qs1
        refine lv_iload_n hx hb dX4_sumOf_30 rfl (lv_at hl 1 rfl) ?_
        rw [hQ]
        exact x_i cx hr () hP hD hS (show v6 = J_X4_sumOf_1 sh from by subst qs1_e; rfl) dX4_sumOf_31
      · have f8 : v5.toInt < (sh 0 0).toInt := f_nle rfl rfl c8
        refine lv_iload_n hx hb dX4_sumOf_12 rfl (lv_at hl 0 rfl) ?_
        refine lv_aload_n hx hb dX4_sumOf_13 rfl (lv_at hl 3 rfl) ?_
        refine va_alen hx hb cx.2.1 hP 1 0 rfl rfl (v := 5) (show Int32.ofNat 5 = 5 from by decide) dX4_sumOf_14 ?_
        refine lv_icmp_ge (tgt := 30) hx hb dX4_sumOf_15 (by decide) (fun c9 => ?_) (fun c9 => ?_)
        · have f9 : 5 ≤ v5.toInt := f_le (by decide) rfl c9
          exact absurd f9 (by omega)
        · have f9 : v5.toInt < 5 := f_nle (by decide) rfl c9
          refine lv_iload_n hx hb dX4_sumOf_18 rfl (lv_at hl 1 rfl) ?_
          refine lv_aload_n hx hb dX4_sumOf_19 rfl (lv_at hl 3 rfl) ?_
          refine lv_iload_n hx hb dX4_sumOf_20 rfl (lv_at hl 0 rfl) ?_
          have hn10 : vp_in v5 5 := f_in (a := v5.toInt) rfl (by omega) (by omega)
          refine va_iald hx hb cx.2.1 hP 1 0 rfl rfl hn10 dX4_sumOf_21 (lv_topi (fun v11 e11 => ?_))
          have hv1_ : v11 = sh 1 (Int.toNat v5.toInt) := e11.trans (congrArg (sh 1) (cN_of (show v5.toInt = ((Int.toNat (v5.toInt) : Nat) : Int) from by omega)))
          refine lv_iadd hx hb dX4_sumOf_22 (lv_topi (fun v12 e12 => ?_))
          have hs1_ := e12
          refine lv_istore_n (lv' := [(2, .int v12), (3, .int v5), (0, .ref (qh 0)), (1, .ref (qh 1))]) hx hb dX4_sumOf_23 rfl hl (by decide) rfl (fun ls hl => ?_)
          obtain ⟨v13, e13⟩ : ∃ z : Int32, z = v5 + 1 := ⟨_, rfl⟩
          refine lv_iinc (v := v13) (lv' := [(3, .int v13), (2, .int v12), (0, .ref (qh 0)), (1, .ref (qh 1))]) hx hb dX4_sumOf_24 hl (k := 1) rfl (by rw [e13]; rfl) (by decide) rfl (fun ls hl => ?_)
          have t13 : v13.toInt = v5.toInt + 1 := by rw [e13]; exact i_add rfl (by decide) (by omega) (by omega)
          refine lv_goto (tgt := 4) hx hb dX4_sumOf_27 (by decide) ?_
          exact ih4 v13 v12 _ _ _ (by omega) (by first | decide | omega) (by first | decide | omega) (SF_st qs1 hv1_ hs1_ (by omega)) hP hD hS (lv_sub hl [0, 1, 2, 3] rfl)
  have hlit14 : (0 : Int32).toInt = 0 := by decide
  have hlit15 : (0 : Int32).toInt = 0 := by decide
  exact hL4 (Int.toNat (5 - 0) + 1) 0 0 _ _ _ (by omega) (by first | decide | omega) (by first | decide | omega) rfl hP hD hS (lv_sub hl [0, 1, 2, 3] rfl)
theorem fw_X4_sumOf_2_32 : Cond.fieldLink RX4 32 "StillInAugust$House" "weeks" "I" ∈ wsX4_sumOf := by decide +kernel
theorem iw_X4_sumOf_2_X4 : ∀ w ∈ u_ws RX4 TX4 14, w ∈ wsX4_sumOf := fun _ h => List.mem_cons_of_mem _ (List.mem_append_right _ h)
def J_X4_sumOf_2 (sh : Nat → Nat → Int32) : Int32 := (SF (sh 2) (Int.toNat (sh 0 0).toInt))
set_option maxHeartbeats 4000000 in
set_option maxRecDepth 100000 in
theorem c_X4_sumOf_2 (l : Launch) (D : va_G) (k : Nat → ClassId) (b : Nat → Nat) (qh : Nat → Nat) (sh : Nat → Nat → Int32) (sz : Nat) (h_wk : 0 ≤ (sh 0 0).toInt ∧ (sh 0 0).toInt ≤ 5) : MetI l D k b yX4_sumOf wsX4_sumOf ({ frames := 0, cells := 0, slots := 0, locals := 0 } : Room) [cell32_ qh sh, cell0_ k qh sh, cell1_ k qh sh, cell4_ k qh sh, cell3_ k qh sh, cell2_ k qh sh] sz [.ref (qh 0), .ref (qh 2)] (fun (r : Int32) (u : Unit) => r = J_X4_sumOf_2 sh) (fun u => [cell32_ qh sh, cell0_ k qh sh, cell1_ k qh sh, cell4_ k qh sh, cell3_ k qh sh, cell2_ k qh sh]) := by
  refine g_enter (cc := cX4_sumOf) (maxL := 4) (ret := (some .int)) (by decide) rfl (Nat.le_of_ble_eq_true rfl) ?_
  intro p e s m below meth c A hsz hAe cx hr hP hD hS ls hl
  rw [hAe]
  refine g_q (fun Q hQ => ?_)
  have hx := cx.1.1
  have hb := cx.1.2.1
  have hl : lv_has ls 4 [(0, .ref (qh 0)), (1, .ref (qh 2))] := hl
  obtain ⟨H, eH⟩ : ∃ H : Heap, H = s.heap := ⟨_, rfl⟩
  obtain ⟨locs, el⟩ : ∃ L : List Loc, L = [] := ⟨_, rfl⟩
  have hP : va_P D vwCl [cell32_ qh sh, cell0_ k qh sh, cell1_ k qh sh, cell4_ k qh sh, cell3_ k qh sh, cell2_ k qh sh] H := by rw [eH]; exact hP
  have hD : va_D A [cell32_ qh sh, cell0_ k qh sh, cell1_ k qh sh, cell4_ k qh sh, cell3_ k qh sh, cell2_ k qh sh] := hD
  have hS : va_S A s.heap H locs := by rw [eH, el]; exact hS
  suffices goal : W p l e ({ frames := 0, cells := 0, slots := 0, locals := 0 } : Room) s m ([.ref (qh 0), .ref (qh 2)] : List Value).toArray below meth c H locs 0 0 Q (F0 m 0 ls []) by rw [eH, el] at goal; exact goal
  refine lv_iconst (v := 0) hx hb dX4_sumOf_0 (by decide) ?_
  refine lv_istore_n (lv' := [(2, .int 0), (0, .ref (qh 0)), (1, .ref (qh 2))]) hx hb dX4_sumOf_1 rfl hl (by decide) rfl (fun ls hl => ?_)
  refine lv_iconst (v := 0) hx hb dX4_sumOf_2 (by decide) ?_
  refine lv_istore_n (lv' := [(3, .int 0), (2, .int 0), (0, .ref (qh 0)), (1, .ref (qh 2))]) hx hb dX4_sumOf_3 rfl hl (by decide) rfl (fun ls hl => ?_)
  have hL4 : ∀ (n7 : Nat) (v5 : Int32) (v6 : Int32) (H : Heap) (locs : List Loc) (ls : Array Slot), 5 - v5.toInt < (n7 : Int) → (0 ≤ v5.toInt ∧ v5.toInt ≤ 5) → (v5.toInt ≤ (sh 0 0).toInt) → (v6 = SF (sh 2) (Int.toNat v5.toInt)) → va_P D vwCl [cell32_ qh sh, cell0_ k qh sh, cell1_ k qh sh, cell4_ k qh sh, cell3_ k qh sh, cell2_ k qh sh] H → va_D A [cell32_ qh sh, cell0_ k qh sh, cell1_ k qh sh, cell4_ k qh sh, cell3_ k qh sh, cell2_ k qh sh] → va_S A s.heap H locs → lv_has ls 4 [(3, .int v5), (2, .int v6), (0, .ref (qh 0)), (1, .ref (qh 2))] → W p l e ({ frames := 0, cells := 0, slots := 0, locals := 0 } : Room) s m ([.ref (qh 0), .ref (qh 2)] : List Value).toArray below meth c H locs 0 0 Q (F0 m 4 ls []) := by
    intro n7
    induction n7 with
    | zero => intro v5 v6 H locs ls hmn7 bv5 q3 qs1 hP hD hS hl; exact absurd hmn7 (by omega)
    | succ n7 ih4 =>
      intro v5 v6 H locs ls hmn7 bv5 q3 qs1 hP hD hS hl
      refine lv_iload_n hx hb dX4_sumOf_4 rfl (lv_at hl 0 rfl) ?_
      refine lv_aload_n hx hb dX4_sumOf_5 rfl (lv_at hl 2 rfl) ?_
      refine g_get cx hP iw_X4_sumOf_2_X4 0 rfl rfl 0 (by decide) rfl fw_X4_sumOf_2_32 rfl dX4_sumOf_6 ?_
      refine lv_icmp_ge (tgt := 30) hx hb dX4_sumOf_9 (by decide) (fun c8 => ?_) (fun c8 => ?_)
      · have f8 : (sh 0 0).toInt ≤ v5.toInt := f_le rfl rfl c8
        have qs1_e : v6 = (SF (sh 2) (Int.toNat (sh 0 0).toInt)) := by have q : Int.toNat v5.toInt = (Int.toNat (sh 0 0).toInt) := (by omega); rw [q] at qs1; exact qs1
        refine lv_iload_n hx hb dX4_sumOf_30 rfl (lv_at hl 1 rfl) ?_
        rw [hQ]
        exact x_i cx hr () hP hD hS (show v6 = J_X4_sumOf_2 sh from by subst qs1_e; rfl) dX4_sumOf_31
      · have f8 : v5.toInt < (sh 0 0).toInt := f_nle rfl rfl c8
        refine lv_iload_n hx hb dX4_sumOf_12 rfl (lv_at hl 0 rfl) ?_
        refine lv_aload_n hx hb dX4_sumOf_13 rfl (lv_at hl 3 rfl) ?_
        refine va_alen hx hb cx.2.1 hP 2 0 rfl rfl (v := 5) (show Int32.ofNat 5 = 5 from by decide) dX4_sumOf_14 ?_
        refine lv_icmp_ge (tgt := 30) hx hb dX4_sumOf_15 (by decide) (fun c9 => ?_) (fun c9 => ?_)
        · have f9 : 5 ≤ v5.toInt := f_le (by decide) rfl c9
          exact absurd f9 (by omega)
        · have f9 : v5.toInt < 5 := f_nle (by decide) rfl c9
          refine lv_iload_n hx hb dX4_sumOf_18 rfl (lv_at hl 1 rfl) ?_
          refine lv_aload_n hx hb dX4_sumOf_19 rfl (lv_at hl 3 rfl) ?_
          refine lv_iload_n hx hb dX4_sumOf_20 rfl (lv_at hl 0 rfl) ?_
          have hn10 : vp_in v5 5 := f_in (a := v5.toInt) rfl (by omega) (by omega)
          refine va_iald hx hb cx.2.1 hP 2 0 rfl rfl hn10 dX4_sumOf_21 (lv_topi (fun v11 e11 => ?_))
          have hv1_ : v11 = sh 2 (Int.toNat v5.toInt) := e11.trans (congrArg (sh 2) (cN_of (show v5.toInt = ((Int.toNat (v5.toInt) : Nat) : Int) from by omega)))
          refine lv_iadd hx hb dX4_sumOf_22 (lv_topi (fun v12 e12 => ?_))
          have hs1_ := e12
          refine lv_istore_n (lv' := [(2, .int v12), (3, .int v5), (0, .ref (qh 0)), (1, .ref (qh 2))]) hx hb dX4_sumOf_23 rfl hl (by decide) rfl (fun ls hl => ?_)
          obtain ⟨v13, e13⟩ : ∃ z : Int32, z = v5 + 1 := ⟨_, rfl⟩
          refine lv_iinc (v := v13) (lv' := [(3, .int v13), (2, .int v12), (0, .ref (qh 0)), (1, .ref (qh 2))]) hx hb dX4_sumOf_24 hl (k := 1) rfl (by rw [e13]; rfl) (by decide) rfl (fun ls hl => ?_)
          have t13 : v13.toInt = v5.toInt + 1 := by rw [e13]; exact i_add rfl (by decide) (by omega) (by omega)
          refine lv_goto (tgt := 4) hx hb dX4_sumOf_27 (by decide) ?_
          exact ih4 v13 v12 _ _ _ (by omega) (by first | decide | omega) (by first | decide | omega) (SF_st qs1 hv1_ hs1_ (by omega)) hP hD hS (lv_sub hl [0, 1, 2, 3] rfl)
  have hlit14 : (0 : Int32).toInt = 0 := by decide
  have hlit15 : (0 : Int32).toInt = 0 := by decide
  exact hL4 (Int.toNat (5 - 0) + 1) 0 0 _ _ _ (by omega) (by first | decide | omega) (by first | decide | omega) rfl hP hD hS (lv_sub hl [0, 1, 2, 3] rfl)
