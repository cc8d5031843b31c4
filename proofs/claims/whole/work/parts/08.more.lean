section FXT
variable {g : fx_G} {M : fx_M} {d lo : Nat} {K : Option Value → fx_H → Prop} {KX : String → fx_H → Prop} {pc : Nat} {lv lv' : List (Nat × Value)} {st : List Value} {h : fx_H} {cu su : Nat}
/-- at a loop's head: the locals that it wants -/
theorem fx_to (k : fx_Y g M d lo K KX pc lv' st h cu su) (hl : fx_le lv' lv) : fx_Y g M d lo K KX pc lv st h cu su := fx_sub lv' hl k
theorem fx_st0 {st' : List Value} (e : st = st') (k : fx_Y g M d lo K KX pc lv st' h cu su) : fx_Y g M d lo K KX pc lv st h cu su := e ▸ k
/-- a truth as an int -/
noncomputable def bI (p : Prop) : Int32 := @ite Int32 p (Classical.propDecidable p) (nI 1) (nI 0)
theorem bI_t {p : Prop} (h : p) : bI p = nI 1 := if_pos h
theorem bI_f {p : Prop} (h : ¬ p) : bI p = nI 0 := if_neg h
theorem bI_nar (p : Prop) : narrow .boolean (.int (bI p)) = .int (bI p) := by
  by_cases h : p
  · rw [bI_t h]; rfl
  · rw [bI_f h]; rfl
theorem bI_0 {p : Prop} : bI p = 0 ↔ ¬ p := by
  by_cases h : p
  · rw [bI_t h]; exact ⟨fun e => absurd e (by decide), fun q => absurd h q⟩
  · rw [bI_f h]; exact ⟨fun _ => h, fun _ => rfl⟩
theorem bI_n0 {p : Prop} : ¬ bI p = 0 ↔ p := by
  rw [bI_0]
  exact Classical.not_not
theorem bI_c {p q : Prop} (h : p ↔ q) : bI p = bI q := by rw [propext h]
theorem nI_eq0 {n : Nat} (h : n < 2 ^ 32) : nI n = 0 ↔ n = 0 := by
  constructor
  · intro e
    have h1 := congrArg (fun x : Int32 => x.toBitVec.toNat) e
    simp only [pk_tn h] at h1
    simpa using h1
  · intro e
    rw [e]
    rfl
theorem nI_le0 {n : Nat} (h : n < 2 ^ 31) : nI n ≤ 0 ↔ n = 0 := by
  constructor
  · intro e
    exact Nat.eq_zero_of_not_pos (fun q => nI_nle q h e)
  · intro e
    rw [e]
    decide
theorem fx_if_eqB {p : Prop} {off : Int} (tgt : Nat) (hd : decode M.2.1 pc = .ok (.ifCond .eq off, 3)) (ht : (pc : Int) + off = (tgt : Int)) (kt : ¬ p → fx_Y g M d lo K KX tgt lv st h cu su) (kf : p → fx_Y g M d lo K KX (pc + 3) lv st h cu su) : fx_Y g M d lo K KX pc lv (.int (bI p) :: st) h cu su :=
  fx_if_eq tgt hd ht (fun q => kt (bI_0.mp q)) (fun q => kf (bI_n0.mp q))
theorem fx_if_neB {p : Prop} {off : Int} (tgt : Nat) (hd : decode M.2.1 pc = .ok (.ifCond .ne off, 3)) (ht : (pc : Int) + off = (tgt : Int)) (kt : p → fx_Y g M d lo K KX tgt lv st h cu su) (kf : ¬ p → fx_Y g M d lo K KX (pc + 3) lv st h cu su) : fx_Y g M d lo K KX pc lv (.int (bI p) :: st) h cu su :=
  fx_if_ne tgt hd ht (fun q => kt (bI_n0.mp q)) (fun q => kf (bI_0.mp q))
theorem fx_icn_eq {x y : Nat} {off : Int} (tgt : Nat) (hd : decode M.2.1 pc = .ok (.if_icmp .eq off, 3)) (ht : (pc : Int) + off = (tgt : Int)) (hx : x < 2 ^ 31) (hy : y < 2 ^ 31) (kt : x = y → fx_Y g M d lo K KX tgt lv st h cu su) (kf : x ≠ y → fx_Y g M d lo K KX (pc + 3) lv st h cu su) : fx_Y g M d lo K KX pc lv (.int (nI y) :: .int (nI x) :: st) h cu su :=
  fx_icmp_eq tgt hd ht (fun q => kt ((nI_eq hx hy).mp q)) (fun q => kf (fun e => q ((nI_eq hx hy).mpr e)))
theorem fx_icn_ne {x y : Nat} {off : Int} (tgt : Nat) (hd : decode M.2.1 pc = .ok (.if_icmp .ne off, 3)) (ht : (pc : Int) + off = (tgt : Int)) (hx : x < 2 ^ 31) (hy : y < 2 ^ 31) (kt : x ≠ y → fx_Y g M d lo K KX tgt lv st h cu su) (kf : x = y → fx_Y g M d lo K KX (pc + 3) lv st h cu su) : fx_Y g M d lo K KX pc lv (.int (nI y) :: .int (nI x) :: st) h cu su :=
  fx_icmp_ne tgt hd ht (fun q => kt (fun e => q ((nI_eq hx hy).mpr e))) (fun q => kf ((nI_eq hx hy).mp q))
theorem fx_icn_lt {x y : Nat} {off : Int} (tgt : Nat) (hd : decode M.2.1 pc = .ok (.if_icmp .lt off, 3)) (ht : (pc : Int) + off = (tgt : Int)) (hx : x < 2 ^ 31) (hy : y < 2 ^ 31) (kt : x < y → fx_Y g M d lo K KX tgt lv st h cu su) (kf : y ≤ x → fx_Y g M d lo K KX (pc + 3) lv st h cu su) : fx_Y g M d lo K KX pc lv (.int (nI y) :: .int (nI x) :: st) h cu su :=
  fx_icmp_lt tgt hd ht (fun q => kt ((nI_ltI hx hy).mp q)) (fun q => kf (Nat.le_of_not_lt (fun e => q ((nI_ltI hx hy).mpr e))))
theorem fx_icn_ge {x y : Nat} {off : Int} (tgt : Nat) (hd : decode M.2.1 pc = .ok (.if_icmp .ge off, 3)) (ht : (pc : Int) + off = (tgt : Int)) (hx : x < 2 ^ 31) (hy : y < 2 ^ 31) (kt : y ≤ x → fx_Y g M d lo K KX tgt lv st h cu su) (kf : x < y → fx_Y g M d lo K KX (pc + 3) lv st h cu su) : fx_Y g M d lo K KX pc lv (.int (nI y) :: .int (nI x) :: st) h cu su :=
  fx_icmp_ge tgt hd ht (fun q => kt ((nI_leI hy hx).mp q)) (fun q => kf (Nat.lt_of_not_le (fun e => q ((nI_leI hy hx).mpr e))))
theorem fx_icn_gt {x y : Nat} {off : Int} (tgt : Nat) (hd : decode M.2.1 pc = .ok (.if_icmp .gt off, 3)) (ht : (pc : Int) + off = (tgt : Int)) (hx : x < 2 ^ 31) (hy : y < 2 ^ 31) (kt : y < x → fx_Y g M d lo K KX tgt lv st h cu su) (kf : x ≤ y → fx_Y g M d lo K KX (pc + 3) lv st h cu su) : fx_Y g M d lo K KX pc lv (.int (nI y) :: .int (nI x) :: st) h cu su :=
  fx_icmp_gt tgt hd ht (fun q => kt ((nI_ltI hy hx).mp q)) (fun q => kf (Nat.le_of_not_lt (fun e => q ((nI_ltI hy hx).mpr e))))
theorem fx_icn_le {x y : Nat} {off : Int} (tgt : Nat) (hd : decode M.2.1 pc = .ok (.if_icmp .le off, 3)) (ht : (pc : Int) + off = (tgt : Int)) (hx : x < 2 ^ 31) (hy : y < 2 ^ 31) (kt : x ≤ y → fx_Y g M d lo K KX tgt lv st h cu su) (kf : y < x → fx_Y g M d lo K KX (pc + 3) lv st h cu su) : fx_Y g M d lo K KX pc lv (.int (nI y) :: .int (nI x) :: st) h cu su :=
  fx_icmp_le tgt hd ht (fun q => kt ((nI_leI hx hy).mp q)) (fun q => kf (Nat.lt_of_not_le (fun e => q ((nI_leI hx hy).mpr e))))
theorem fx_ifn_eq {x : Nat} {off : Int} (tgt : Nat) (hd : decode M.2.1 pc = .ok (.ifCond .eq off, 3)) (ht : (pc : Int) + off = (tgt : Int)) (hx : x < 2 ^ 31) (kt : x = 0 → fx_Y g M d lo K KX tgt lv st h cu su) (kf : x ≠ 0 → fx_Y g M d lo K KX (pc + 3) lv st h cu su) : fx_Y g M d lo K KX pc lv (.int (nI x) :: st) h cu su :=
  fx_if_eq tgt hd ht (fun q => kt ((nI_eq0 (by omega)).mp q)) (fun q => kf (fun e => q ((nI_eq0 (by omega)).mpr e)))
theorem fx_ifn_ne {x : Nat} {off : Int} (tgt : Nat) (hd : decode M.2.1 pc = .ok (.ifCond .ne off, 3)) (ht : (pc : Int) + off = (tgt : Int)) (hx : x < 2 ^ 31) (kt : x ≠ 0 → fx_Y g M d lo K KX tgt lv st h cu su) (kf : x = 0 → fx_Y g M d lo K KX (pc + 3) lv st h cu su) : fx_Y g M d lo K KX pc lv (.int (nI x) :: st) h cu su :=
  fx_if_ne tgt hd ht (fun q => kt (fun e => q ((nI_eq0 (by omega)).mpr e))) (fun q => kf ((nI_eq0 (by omega)).mp q))
theorem fx_ifn_le {x : Nat} {off : Int} (tgt : Nat) (hd : decode M.2.1 pc = .ok (.ifCond .le off, 3)) (ht : (pc : Int) + off = (tgt : Int)) (hx : x < 2 ^ 31) (kt : x = 0 → fx_Y g M d lo K KX tgt lv st h cu su) (kf : x ≠ 0 → fx_Y g M d lo K KX (pc + 3) lv st h cu su) : fx_Y g M d lo K KX pc lv (.int (nI x) :: st) h cu su :=
  fx_if_le tgt hd ht (fun q => kt ((nI_le0 hx).mp q)) (fun q => kf (fun e => q ((nI_le0 hx).mpr e)))
theorem fx_ifn_gt {x : Nat} {off : Int} (tgt : Nat) (hd : decode M.2.1 pc = .ok (.ifCond .gt off, 3)) (ht : (pc : Int) + off = (tgt : Int)) (hx : x < 2 ^ 31) (kt : x ≠ 0 → fx_Y g M d lo K KX tgt lv st h cu su) (kf : x = 0 → fx_Y g M d lo K KX (pc + 3) lv st h cu su) : fx_Y g M d lo K KX pc lv (.int (nI x) :: st) h cu su :=
  fx_if_gt tgt hd ht (fun q => kt (fun e => by rw [e] at q; exact absurd q (by decide))) (fun q => kf (Nat.eq_zero_of_not_pos (fun e => q (nI_lt e hx))))
theorem fx_ifn_lt {x : Nat} {off : Int} (tgt : Nat) (hd : decode M.2.1 pc = .ok (.ifCond .lt off, 3)) (ht : (pc : Int) + off = (tgt : Int)) (hx : x < 2 ^ 31) (kt : False → fx_Y g M d lo K KX tgt lv st h cu su) (kf : True → fx_Y g M d lo K KX (pc + 3) lv st h cu su) : fx_Y g M d lo K KX pc lv (.int (nI x) :: st) h cu su :=
  fx_if_lt tgt hd ht (fun q => kt (nI_pos hx q)) (fun q => kf (trivial))
theorem fx_ifn_ge {x : Nat} {off : Int} (tgt : Nat) (hd : decode M.2.1 pc = .ok (.ifCond .ge off, 3)) (ht : (pc : Int) + off = (tgt : Int)) (hx : x < 2 ^ 31) (kt : True → fx_Y g M d lo K KX tgt lv st h cu su) (kf : False → fx_Y g M d lo K KX (pc + 3) lv st h cu su) : fx_Y g M d lo K KX pc lv (.int (nI x) :: st) h cu su :=
  fx_if_ge tgt hd ht (fun q => kt (trivial)) (fun q => kf (q (nI_pos' hx)))
end FXT
