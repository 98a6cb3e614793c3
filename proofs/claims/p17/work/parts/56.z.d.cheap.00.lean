/-! nothing here looks at longs -/
theorem after_tm {sm : Nat → Nat → Int32} {t1 t2 : Nat → Nat → Int64} {w h a : Int32} : J_X12_after sm t1 w h a = J_X12_after sm t2 w h a := rfl
theorem ract_tm {sm : Nat → Nat → Int32} {t1 t2 : Nat → Nat → Int64} {r w h : Int32} : J_X12_ruleAct sm t1 r w h = J_X12_ruleAct sm t2 r w h := rfl
theorem ih_tm {sm : Nat → Nat → Int32} {t1 t2 : Nat → Nat → Int64} {h : Int32} : J_X12_isHands sm t1 h = J_X12_isHands sm t2 h := rfl
theorem sun_tm {sm : Nat → Nat → Int32} {t1 t2 : Nat → Nat → Int64} {h o : Int32} : J_X12_sundayOf sm t1 h o = J_X12_sundayOf sm t2 h o := rfl
theorem bon_tm {sm : Nat → Nat → Int32} {t1 t2 : Nat → Nat → Int64} {h : Int32} : J_X12_bonus sm t1 h = J_X12_bonus sm t2 h := rfl
theorem thR_tm {sm : Nat → Nat → Int32} {t1 t2 : Nat → Nat → Int64} {r w : Int32} {x : Nat} : thR sm t1 r w x = thR sm t2 r w x := by
  unfold thR
  rw [after_tm (t2 := t2), ract_tm (t2 := t2)]
theorem onT_tm {sm : Nat → Nat → Int32} {t1 t2 : Nat → Nat → Int64} {V : Nat → Int64} {th : Int32} : onT sm t1 V th = onT sm t2 V th := funext (fun x => by
  unfold onT
  rw [ih_tm (t2 := t2), sun_tm (t2 := t2)])
theorem mnT_tm {sm : Nat → Nat → Int32} {t1 t2 : Nat → Nat → Int64} {r w c : Int32} {V : Nat → Int64} {x : Nat} : mnT sm t1 r w c V x = mnT sm t2 r w c V x := by
  unfold mnT
  rw [cost_tm (t2 := t2), thR_tm (t2 := t2), ract_tm (t2 := t2), onT_tm (t2 := t2)]
