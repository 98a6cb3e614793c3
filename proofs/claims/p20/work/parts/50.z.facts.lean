/-! what omega needn't see -/
def Hd (p : Prop) : Prop := p
theorem hd_i {p : Prop} (h : Hd p) : p := h
theorem hd_l {a b c : Prop} (h : Hd (¬ (a ∨ b) ∨ c)) : ¬ a ∨ c := Or.imp_left (fun h q => h (Or.inl q)) (hd_i h)
theorem hd_r {a b c : Prop} (h : Hd (¬ (a ∨ b) ∨ c)) : ¬ b ∨ c := Or.imp_left (fun h q => h (Or.inr q)) (hd_i h)
