theorem lk_v {sm : Nat → Nat → Int32} {tm : Nat → Nat → Int64} {p0 : Int32} {W : Nat} (hW : W ≤ 5) : ∃ l L T : Nat → Int64, J_X12_layLikely sm tm p0 (Int32.ofNat W) = (L, T) ∧ (∀ x, x < 50 → l x = if x = 0 then 1 else 0) ∧ LKR sm tm p0 W 0 l L := lk_i hW 50 0 (tm 8) rfl (fun x hx => by omega)

