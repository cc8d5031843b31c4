/-! The endings, as numbers. -/
/-- the step of x's program that is for y; -1 without -/
def ml_tt (b : Nat → Nat) (x y : Nat) : Int32 := ml_seek b (nI y) (ml_rl b 6) (ml_ps b x)
/-- the sign that the machine stands behind when it has come behind y, and one; 0 if n looks don't tell -/
def ml_An (b : Nat → Nat) : Nat → Nat → Nat → Nat
  | 0, x, y => if ml_tt b x y = -1 then y + 1 else 0
  | n + 1, x, y => if ml_tt b x y = -1 then y + 1 else
      if 128 ≤ ml_o b (ml_tt b x y) ∨ ml_o b (ml_tt b x y) = 5 ∨ ml_o b (ml_tt b x y) = 11 then y + 1 else
      if ml_o b (ml_tt b x y) = 0 ∨ ml_o b (ml_tt b x y) = 6 then ml_r b (ml_tt b x y) + 1 else
      if ml_o b (ml_tt b x y) = 1 ∨ ml_o b (ml_tt b x y) = 7 then ml_An b n (ml_r b (ml_tt b x y)) y else
      if ml_o b (ml_tt b x y) = 2 then ml_An b n x (ml_r b (ml_tt b x y)) else
      if ml_An b n x (ml_r b (ml_tt b x y)) = 0 then 0 else ml_An b n (ml_An b n x (ml_r b (ml_tt b x y)) - 1) y
/-- fault 7 is wanting -/
def ml_f7 (b : Nat → Nat) : Prop := ∀ x y, x ≤ 256 → y < 256 → ∃ n, ml_An b n x y ≠ 0
theorem an_mono {b : Nat → Nat} : ∀ (n x y : Nat), ml_An b n x y ≠ 0 → ml_An b (n + 1) x y = ml_An b n x y := by
  intro n
  induction n with
  | zero =>
    intro x y h
    unfold ml_An at h ⊢
    by_cases e : ml_tt b x y = -1
    · rw [if_pos e, if_pos e]
    · rw [if_neg e] at h
      exact absurd rfl h
  | succ n ih =>
    intro x y h
    conv => lhs; unfold ml_An
    conv => rhs; unfold ml_An
    unfold ml_An at h
    by_cases e : ml_tt b x y = -1
    · rw [if_pos e, if_pos e]
    · rw [if_neg e] at h ⊢
      rw [if_neg e]
      by_cases e1 : 128 ≤ ml_o b (ml_tt b x y) ∨ ml_o b (ml_tt b x y) = 5 ∨ ml_o b (ml_tt b x y) = 11
      · rw [if_pos e1, if_pos e1]
      · rw [if_neg e1] at h ⊢
        rw [if_neg e1]
        by_cases e2 : ml_o b (ml_tt b x y) = 0 ∨ ml_o b (ml_tt b x y) = 6
        · rw [if_pos e2, if_pos e2]
        · rw [if_neg e2] at h ⊢
          rw [if_neg e2]
          by_cases e3 : ml_o b (ml_tt b x y) = 1 ∨ ml_o b (ml_tt b x y) = 7
          · rw [if_pos e3] at h ⊢
            rw [if_pos e3]
            exact ih _ _ h
          · rw [if_neg e3] at h ⊢
            rw [if_neg e3]
            by_cases e4 : ml_o b (ml_tt b x y) = 2
            · rw [if_pos e4] at h ⊢
              rw [if_pos e4]
              exact ih _ _ h
            · rw [if_neg e4] at h ⊢
              rw [if_neg e4]
              by_cases e5 : ml_An b n x (ml_r b (ml_tt b x y)) = 0
              · rw [if_pos e5] at h
                exact absurd rfl h
              · rw [if_neg e5] at h ⊢
                rw [ih _ _ e5, if_neg e5]
                exact ih _ _ h
theorem an_le {b : Nat → Nat} {n m x y : Nat} (hnm : n ≤ m) (h : ml_An b n x y ≠ 0) : ml_An b m x y = ml_An b n x y := by
  induction hnm with
  | refl => rfl
  | step _ ih => exact (an_mono _ _ _ (by rw [ih]; exact h)).trans ih
theorem an_det {b : Nat → Nat} {n m x y : Nat} (h1 : ml_An b n x y ≠ 0) (h2 : ml_An b m x y ≠ 0) : ml_An b n x y = ml_An b m x y := by
  rcases Nat.le_total n m with e | e
  · exact (an_le e h1).symm
  · exact an_le e h2
theorem an_t {b : Nat → Nat} {x y : Nat} (e : ml_tt b x y = -1) (n : Nat) : ml_An b n x y = y + 1 := by
  cases n with
  | zero => unfold ml_An; rw [if_pos e]
  | succ n => unfold ml_An; rw [if_pos e]
theorem an_lt {b : Nat → Nat} : ∀ (n x y : Nat), y < 256 → ml_An b n x y ≤ 256 := by
  intro n
  induction n with
  | zero =>
    intro x y h
    unfold ml_An
    split <;> omega
  | succ n ih =>
    intro x y h
    have hr := ml_r_lt (b := b) (ml_tt b x y)
    unfold ml_An
    split
    · omega
    · split
      · omega
      · split
        · omega
        · split
          · exact ih _ _ h
          · split
            · exact ih _ _ hr
            · split
              · omega
              · exact ih _ _ h
/-- the answer of q is needed for that of p -/
def ml_nd (b : Nat → Nat) (x y x' y' : Nat) : Prop := ∀ n, ml_An b n x y ≠ 0 → ∃ m, m < n ∧ ml_An b m x' y' ≠ 0
theorem ml_nd.tr {b : Nat → Nat} {x y x' y' x'' y'' : Nat} (h1 : ml_nd b x y x' y') (h2 : ml_nd b x' y' x'' y'') : ml_nd b x y x'' y'' := fun n hn => by
  obtain ⟨m, hm, h3⟩ := h1 n hn
  obtain ⟨k, hk, h4⟩ := h2 m h3
  exact ⟨k, Nat.lt_trans hk hm, h4⟩
theorem ml_nd.cyc {b : Nat → Nat} {x y : Nat} (h : ml_nd b x y x y) : ∀ n, ml_An b n x y = 0 := by
  intro n
  induction n using Nat.strongRecOn with
  | ind n ih =>
    by_cases e : ml_An b n x y = 0
    · exact e
    · obtain ⟨m, hm, h1⟩ := h n e
      exact absurd (ih m hm) h1
/-- how many of the signs below x have a program -/
def ml_rk (b : Nat → Nat) : Nat → Nat
  | 0 => 0
  | x + 1 => ml_rk b x + if ml_ps b x = -1 then 0 else 1
theorem rk_le (b : Nat → Nat) (x : Nat) : ml_rk b x ≤ x := by
  induction x with
  | zero => exact Nat.le_refl _
  | succ x ih =>
    unfold ml_rk
    split <;> omega
theorem rk_mono {b : Nat → Nat} {x x' : Nat} (h : x ≤ x') : ml_rk b x ≤ ml_rk b x' := by
  induction h with
  | refl => exact Nat.le_refl _
  | step _ ih => exact Nat.le_trans ih (Nat.le_add_right _ _)
theorem rk_lt {b : Nat → Nat} {x x' : Nat} (h : x < x') (hp : ml_ps b x ≠ -1) : ml_rk b x < ml_rk b x' := by
  have h1 := rk_mono (b := b) (show x + 1 ≤ x' from h)
  have h2 : ml_rk b (x + 1) = ml_rk b x + 1 := by
    show ml_rk b x + (if ml_ps b x = -1 then 0 else 1) = _
    rw [if_neg hp]
  omega
theorem rk_inj {b : Nat → Nat} {x x' : Nat} (hp : ml_ps b x ≠ -1) (hp' : ml_ps b x' ≠ -1) (h : ml_rk b x = ml_rk b x') : x = x' := by
  rcases Nat.lt_trichotomy x x' with e | e | e
  · have := rk_lt e hp
    omega
  · exact e
  · have := rk_lt e hp'
    omega
theorem rk_ex {b : Nat → Nat} : ∀ (n q : Nat), q < ml_rk b n → ∃ x, x < n ∧ ml_ps b x ≠ -1 ∧ ml_rk b x = q := by
  intro n
  induction n with
  | zero => intro q h; exact absurd h (Nat.not_lt_zero _)
  | succ n ih =>
    intro q h
    by_cases e : q < ml_rk b n
    · obtain ⟨x, h1, h2⟩ := ih q e
      exact ⟨x, by omega, h2⟩
    · have h2 : ml_rk b (n + 1) = ml_rk b n + if ml_ps b n = -1 then 0 else 1 := rfl
      by_cases e2 : ml_ps b n = -1
      · rw [h2, if_pos e2] at h
        omega
      · rw [h2, if_neg e2] at h
        exact ⟨n, by omega, e2, by omega⟩
/-- the place of a pair in the class's tables -/
def ml_P (b : Nat → Nat) (x y : Nat) : Nat := 256 * ml_rk b x + y
theorem mP_lt {b : Nat → Nat} {x y : Nat} (hx : x ≤ 256) (hp : ml_ps b x ≠ -1) (hy : y < 256) : ml_P b x y < 256 * ml_rk b 257 := by
  have := rk_lt (b := b) (show x < 257 by omega) hp
  unfold ml_P
  omega
theorem mP_inj {b : Nat → Nat} {x y x' y' : Nat} (hp : ml_ps b x ≠ -1) (hp' : ml_ps b x' ≠ -1) (hy : y < 256) (hy' : y' < 256) (h : ml_P b x y = ml_P b x' y') : x = x' ∧ y = y' := by
  unfold ml_P at h
  have h1 : ml_rk b x = ml_rk b x' := by omega
  exact ⟨rk_inj hp hp' h1, by omega⟩
theorem mP_ex {b : Nat → Nat} {p : Nat} (h : p < 256 * ml_rk b 257) : ∃ x y, x ≤ 256 ∧ y < 256 ∧ ml_ps b x ≠ -1 ∧ p = ml_P b x y := by
  obtain ⟨x, h1, h2, h3⟩ := rk_ex (b := b) 257 (p / 256) (by omega)
  exact ⟨x, p % 256, by omega, Nat.mod_lt _ (by decide), h2, by unfold ml_P; omega⟩
theorem seek_m1 {b : Nat → Nat} (y : Int32) (n : Nat) : ml_seek b y n (-1) = -1 := by
  cases n with
  | zero => rfl
  | succ n => unfold ml_seek; rw [if_pos rfl]
theorem tt_nops {b : Nat → Nat} {x y : Nat} (h : ml_ps b x = -1) : ml_tt b x y = -1 := by
  unfold ml_tt
  rw [h, seek_m1]
/-- valid programs: every step that is come to is there -/
def ml_ok (b : Nat → Nat) (i : Int32) : Prop := i = -1 ∨ ∃ j, j < ml_rl b 6 ∧ i = nI j
def ml_F3a (b : Nat → Nat) : Prop := ∀ c, c < 256 → ml_tag b (nI c) = 1 → ml_rest b (nI c) < ml_rl b 6
theorem ok_ju {b : Nat → Nat} (F5 : ml_f5 b) {i : Int32} (h : ml_ok b i) : ml_ok b (ml_ju b i) := by
  unfold ml_ju
  split
  · split
    · exact Or.inl rfl
    · rename_i h1 h2
      rcases h with rfl | ⟨j, hj, rfl⟩
      · exfalso
        revert h1
        unfold ml_s
        rw [ml_eI_m 6 (by decide)]
        decide
      · have h3 := F5 j hj
        unfold ml_stp at h3
        rw [if_pos h1] at h3
        exact Or.inr ⟨_, h3, rfl⟩
  · exact h
theorem ok_ps {b : Nat → Nat} {nw : Nat} (V : ml_v b nw) (F3 : ml_F3a b) (F5 : ml_f5 b) {x : Nat} (hx : x ≤ 256) : ml_ok b (ml_ps b x) := by
  refine ok_ju F5 ?_
  unfold ml_pb
  split
  · split
    · rename_i h1 h2
      by_cases e : ml_rl b 6 = 0
      · exfalso
        rw [e] at h2
        revert h2
        unfold ml_s
        rw [ml_eI_m 6 (by decide)]
        decide
      · exact Or.inr ⟨ml_rl b 6 - 1, by omega, pk_sub (by omega)⟩
    · exact Or.inl rfl
  · split
    · rename_i h1 h2
      exact Or.inr ⟨_, F3 x (by omega) h2, rfl⟩
    · exact Or.inl rfl
theorem ps_nj {b : Nat → Nat} {nw : Nat} (V : ml_v b nw) {x : Nat} : ¬ 128 < ml_s b (ml_ps b x) := by
  unfold ml_ps ml_ju
  split
  · split
    · unfold ml_s
      rw [ml_eI_m 6 (by decide)]
      decide
    · assumption
  · assumption
theorem ok_nx {b : Nat → Nat} {nw : Nat} (V : ml_v b nw) (F5 : ml_f5 b) {j : Nat} (hj : j < ml_rl b 6) (hs : ¬ 128 < ml_s b (nI j)) : ml_nx b (nI j) = -1 ∨ ∃ k, j < k ∧ k < ml_rl b 6 ∧ ml_nx b (nI j) = nI k := by
  unfold ml_nx
  split
  · exact Or.inl rfl
  · rename_i h1
    have h3 := F5 j hj
    unfold ml_stp at h3
    rw [if_neg hs] at h3
    have h4 := h3.2.1
    exact Or.inr ⟨j + ml_s b (nI j) + 1, by omega, by omega, by rw [nI_add, nI_add]⟩
