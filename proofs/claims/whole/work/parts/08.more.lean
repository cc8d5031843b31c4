section FXT
variable {g : fx_G} {M : fx_M} {d lo : Nat} {K : Option Value → fx_H → Prop} {KX : String → fx_H → Prop} {pc : Nat} {lv lv' : List (Nat × Value)} {st : List Value} {h : fx_H} {cu su : Nat}
/-- at a loop's head: the locals that it wants -/
theorem fx_to (k : fx_Y g M d lo K KX pc lv' st h cu su) (hl : fx_le lv' lv) : fx_Y g M d lo K KX pc lv st h cu su := fx_sub lv' hl k
end FXT
