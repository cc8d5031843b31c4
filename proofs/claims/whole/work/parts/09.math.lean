/-! The file, as numbers. b: its bytes. -/
def ml_H (b : Nat → Nat) (k : Nat) : Nat := 256 * b (2 * k) + b (2 * k + 1)
def ml_W (b : Nat → Nat) (k : Nat) : Nat := 65536 * ml_H b (2 * k) + ml_H b (2 * k + 1)
/-- how many words row r has, where it begins -/
def ml_rl (b : Nat → Nat) (r : Nat) : Nat := if r = 0 then ml_H b 1 else if r = 1 then ml_H b 3 + 1 - ml_H b 2 else ml_H b (r + 2)
def ml_st (b : Nat → Nat) : Nat → Nat
  | 0 => 6
  | r + 1 => ml_st b r + ml_rl b r
/-- word k of row r, 0 if there is none -/
def ml_e (b : Nat → Nat) (r k : Nat) : Nat := if k < ml_rl b r then ml_W b (ml_st b r + k) else 0
def ml_eI (b : Nat → Nat) (r : Nat) (x : Int32) : Nat := if x < 0 then 0 else ml_e b r x.toNatClampNeg
/-- the info of a character that is there, else 0 -/
def ml_i (b : Nat → Nat) (c : Nat) : Nat := if ml_H b 2 ≤ c ∧ 16777216 ≤ ml_e b 1 (c - ml_H b 2) then ml_e b 1 (c - ml_H b 2) else 0
def ml_iI (b : Nat → Nat) (x : Int32) : Nat := if x < 0 then 0 else ml_i b x.toNatClampNeg
/-- fault 1 is wanting -/
def ml_f1 (b : Nat → Nat) (nb : Nat) : Prop := 24 ≤ nb ∧ nb = 4 * ml_H b 0 ∧ (∀ k, k < 12 → ml_H b k < 32768) ∧ 2 ≤ ml_H b 1 ∧ (∀ k, 4 ≤ k → k < 8 → 1 ≤ ml_H b k) ∧ ml_H b 2 ≤ ml_H b 3 + 1 ∧ ml_H b 3 ≤ 255 ∧ ml_H b 10 ≤ 256 ∧ ml_st b 10 = ml_H b 0
def ml_v (b : Nat → Nat) (nw : Nat) : Prop := (∀ i, b i < 256) ∧ ml_f1 b (4 * nw)
theorem ml_H_lt {b : Nat → Nat} (hb : ∀ i, b i < 256) (k : Nat) : ml_H b k < 65536 := by
  have h1 := hb (2 * k)
  have h2 := hb (2 * k + 1)
  unfold ml_H
  omega
theorem ml_W_lt {b : Nat → Nat} (hb : ∀ i, b i < 256) (k : Nat) : ml_W b k < 2 ^ 32 := by
  have h1 := ml_H_lt hb (2 * k)
  have h2 := ml_H_lt hb (2 * k + 1)
  unfold ml_W
  omega
theorem ml_e_lt {b : Nat → Nat} (hb : ∀ i, b i < 256) (r k : Nat) : ml_e b r k < 2 ^ 32 := by
  unfold ml_e
  split
  · exact ml_W_lt hb _
  · decide
theorem ml_eI_lt {b : Nat → Nat} (hb : ∀ i, b i < 256) (r : Nat) (x : Int32) : ml_eI b r x < 2 ^ 32 := by
  unfold ml_eI
  split
  · decide
  · exact ml_e_lt hb _ _
theorem ml_i_lt {b : Nat → Nat} (hb : ∀ i, b i < 256) (c : Nat) : ml_i b c < 2 ^ 32 := by
  unfold ml_i
  split
  · exact ml_e_lt hb _ _
  · decide
theorem ml_iI_lt {b : Nat → Nat} (hb : ∀ i, b i < 256) (x : Int32) : ml_iI b x < 2 ^ 32 := by
  unfold ml_iI
  split
  · decide
  · exact ml_i_lt hb _
theorem ml_eI_n {b : Nat → Nat} (r : Nat) {j : Nat} (hj : j < 2 ^ 31) : ml_eI b r (nI j) = ml_e b r j := by
  unfold ml_eI
  rw [if_neg (nI_pos hj), nI_clamp hj]
theorem ml_eI_m {b : Nat → Nat} (r : Nat) {x : Int32} (hx : x < 0) : ml_eI b r x = 0 := by
  unfold ml_eI
  rw [if_pos hx]
theorem ml_iI_n {b : Nat → Nat} {j : Nat} (hj : j < 2 ^ 31) : ml_iI b (nI j) = ml_i b j := by
  unfold ml_iI
  rw [if_neg (nI_pos hj), nI_clamp hj]
theorem ml_iI_m {b : Nat → Nat} {x : Int32} (hx : x < 0) : ml_iI b x = 0 := by
  unfold ml_iI
  rw [if_pos hx]
theorem ml_st_mono {b : Nat → Nat} {r t : Nat} (h : r ≤ t) : ml_st b r ≤ ml_st b t := by
  induction h with
  | refl => exact Nat.le_refl _
  | step _ ih => exact Nat.le_trans ih (Nat.le_add_right _ _)
theorem ml_st_6 {b : Nat → Nat} (r : Nat) : 6 ≤ ml_st b r := ml_st_mono (Nat.zero_le r)
theorem ml_v.row {b : Nat → Nat} {nw : Nat} (V : ml_v b nw) {r : Nat} (hr : r < 10) : ml_st b r + ml_rl b r ≤ nw := by
  have h1 : ml_st b (r + 1) ≤ ml_st b 10 := ml_st_mono (by omega)
  obtain ⟨-, -, h2, -, -, -, -, -, -, h3⟩ := V
  have h4 : ml_st b (r + 1) = ml_st b r + ml_rl b r := rfl
  omega
theorem ml_v.nw {b : Nat → Nat} {nw : Nat} (V : ml_v b nw) : nw < 32768 ∧ nw = ml_H b 0 := by
  obtain ⟨-, -, h2, h3, -⟩ := V
  have := h3 0 (by decide)
  omega
theorem ml_v.rl {b : Nat → Nat} {nw : Nat} (V : ml_v b nw) {r : Nat} (hr : r < 10) : ml_rl b r < 32768 := by
  have h1 := V.row hr
  have h2 := V.nw
  omega
theorem ml_v.st {b : Nat → Nat} {nw : Nat} (V : ml_v b nw) {r : Nat} (hr : r < 10) : ml_st b r < 32768 := by
  have h1 := V.row hr
  have h2 := V.nw
  omega
/-- no character beyond 255 -/
theorem ml_v.i0 {b : Nat → Nat} {nw : Nat} (V : ml_v b nw) {c : Nat} (hc : 256 ≤ c) : ml_i b c = 0 := by
  have h5 : ml_H b 3 ≤ 255 := V.2.2.2.2.2.2.2.1
  have e1 : ml_rl b 1 = ml_H b 3 + 1 - ml_H b 2 := rfl
  unfold ml_i
  split
  · rename_i q
    exfalso
    by_cases q1 : c - ml_H b 2 < ml_rl b 1
    · omega
    · have q2 := q.2
      unfold ml_e at q2
      rw [if_neg q1] at q2
      omega
  · rfl
