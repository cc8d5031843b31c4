/-! FontDeskModel: its reads of the file -/
/-- the reference at a: from its base on stand the bytes b, lim of them -/
def rd (h : fx_H) (a : Nat) (b : Nat → Nat) (lim : Nat) : Prop := ∃ (F : List Value) (pb ba : Nat) (f : Nat → Int32), h a = some (.inr (5, F)) ∧ F[1]? = some (.ref pb) ∧ F[7]? = some (.int (nI ba)) ∧ h pb = some (.inl (0, 40000, .inl f)) ∧ ba + lim ≤ 40000 ∧ ∀ i, i < lim → f (ba + i) = nI (b i)
theorem rd.at {h : fx_H} {a : Nat} {b : Nat → Nat} {lim : Nat} (D : rd h a b lim) : ∃ fs : List Value, h a = some (.inr (5, fs)) := by
  obtain ⟨F, pb, ba, f, h1, -⟩ := D
  exact ⟨_, h1⟩
/-- what holds as soon as the halves are small -/
def ml_w (b : Nat → Nat) : Prop := (∀ i, b i < 256) ∧ (∀ k, k < 12 → ml_H b k < 32768) ∧ ml_H b 2 ≤ ml_H b 3 + 1
theorem ml_v.w {b : Nat → Nat} {nw : Nat} (V : ml_v b nw) : ml_w b := ⟨V.1, V.2.2.2.1, V.2.2.2.2.2.2.1⟩
theorem ml_v.six {b : Nat → Nat} {nw : Nat} (V : ml_v b nw) : 6 ≤ nw := by
  have := V.2.1
  omega
theorem nI_chars {x y : Nat} (h : y ≤ x + 1) : nI x - nI y + nI 1 = nI (x + 1 - y) := by
  have e : nI x - nI y + nI 1 = nI (x + 1) - nI y := by
    rw [← nI_add]
    rw [Int32.sub_eq_add_neg, Int32.sub_eq_add_neg, Int32.add_assoc, Int32.add_comm (-nI y), Int32.add_assoc]
  rw [e, pk_sub h]
theorem ml_rl_lt {b : Nat → Nat} (V : ml_w b) {r : Nat} (hr : r < 10) : ml_rl b r < 32769 := by
  unfold ml_rl
  have h1 := V.2.1 1 (by decide)
  have h3 := V.2.1 3 (by decide)
  have h4 := V.2.1 (r + 2) (by omega)
  split
  · omega
  · split <;> omega
theorem ml_st_lt {b : Nat → Nat} (V : ml_w b) {r : Nat} (hr : r ≤ 10) : ml_st b r ≤ 6 + 32769 * r := by
  induction r with
  | zero => exact Nat.le_refl _
  | succ r ih =>
    have h1 := ih (by omega)
    have h2 := ml_rl_lt V (show r < 10 by omega)
    unfold ml_st
    omega
theorem ml_b0 {b : Nat → Nat} (hb : ∀ i, b i < 256) (n : Nat) : ml_W b n / 16777216 = b (4 * n) := by
  have h0 := hb (4 * n)
  have h1 := hb (4 * n + 1)
  have h2 := hb (4 * n + 2)
  have h3 := hb (4 * n + 3)
  unfold ml_W ml_H
  rw [show 2 * (2 * n) = 4 * n by omega, show 2 * (2 * n + 1) = 4 * n + 2 by omega, show 4 * n + 2 + 1 = 4 * n + 3 by omega]
  omega
theorem ml_b1 {b : Nat → Nat} (hb : ∀ i, b i < 256) (n : Nat) : ml_W b n / 65536 % 256 = b (4 * n + 1) := by
  have h0 := hb (4 * n)
  have h1 := hb (4 * n + 1)
  have h2 := hb (4 * n + 2)
  have h3 := hb (4 * n + 3)
  unfold ml_W ml_H
  rw [show 2 * (2 * n) = 4 * n by omega, show 2 * (2 * n + 1) = 4 * n + 2 by omega, show 4 * n + 2 + 1 = 4 * n + 3 by omega]
  omega
theorem ml_b2 {b : Nat → Nat} (hb : ∀ i, b i < 256) (n : Nat) : ml_W b n / 256 % 256 = b (4 * n + 2) := by
  have h0 := hb (4 * n)
  have h1 := hb (4 * n + 1)
  have h2 := hb (4 * n + 2)
  have h3 := hb (4 * n + 3)
  unfold ml_W ml_H
  rw [show 2 * (2 * n) = 4 * n by omega, show 2 * (2 * n + 1) = 4 * n + 2 by omega, show 4 * n + 2 + 1 = 4 * n + 3 by omega]
  omega
theorem ml_b3 {b : Nat → Nat} (hb : ∀ i, b i < 256) (n : Nat) : ml_W b n % 256 = b (4 * n + 3) := by
  have h0 := hb (4 * n)
  have h1 := hb (4 * n + 1)
  have h2 := hb (4 * n + 2)
  have h3 := hb (4 * n + 3)
  unfold ml_W ml_H
  rw [show 2 * (2 * n) = 4 * n by omega, show 2 * (2 * n + 1) = 4 * n + 2 by omega, show 4 * n + 2 + 1 = 4 * n + 3 by omega]
  omega
theorem ml_W_b {b : Nat → Nat} (n : Nat) : ml_W b n = 16777216 * b (4 * n) + 65536 * b (4 * n + 1) + 256 * b (4 * n + 2) + b (4 * n + 3) := by
  unfold ml_W ml_H
  rw [show 2 * (2 * n) = 4 * n by omega, show 2 * (2 * n + 1) = 4 * n + 2 by omega, show 4 * n + 2 + 1 = 4 * n + 3 by omega]
  omega

theorem p_rf_byteAt {g : fx_G} {h : fx_H} {a lim : Nat} {b : Nat → Nat} (D : rd h a b lim) (i : Nat) (hi : i < lim) : fx_P g mX6_byteAt 0 0 [.ref a, .int (nI i)] h (.int (nI (b i))) := by
  obtain ⟨F, pb, ba, f, h1, h2, h3, h4, h5, h6⟩ := D
  refine fx_Met.of rfl (Nat.le_of_ble_eq_true rfl) ?_
  refine fx_aloadn dX6_byteAt_0 rfl ?_
  refine fx_get dX6_byteAt_1 ffX6_8 (by assumption) (by assumption) ?_
  refine fx_aloadn dX6_byteAt_4 rfl ?_
  refine fx_get dX6_byteAt_5 ffX6_50 (by assumption) (by assumption) ?_
  refine fx_iloadn dX6_byteAt_8 rfl ?_
  refine fx_iadd dX6_byteAt_9 ?_
  rw [nI_add]
  refine fx_iald dX6_byteAt_10 (by assumption) (vp_in_nI (by omega) (by decide)) ?_
  refine fx_iret dX6_byteAt_11 rfl ?_
  exact ⟨by rw [nI_clamp (by omega), h6 i hi], rfl⟩
theorem p_rf_half {g : fx_G} {h : fx_H} {a lim : Nat} {b : Nat → Nat} (D : rd h a b lim) (k : Nat) (hk : 2 * k + 1 < lim) : fx_P g mX6_half 1 21 [.ref a, .int (nI k)] h (.int (nI (ml_H b k))) := by
  obtain ⟨fs, h1⟩ := D.at
  refine fx_Met.of rfl (Nat.le_of_ble_eq_true rfl) ?_
  refine fx_sipush (nI 256) dX6_half_0 (by decide) ?_
  refine fx_aloadn dX6_half_3 rfl ?_
  refine fx_iconst (nI 2) dX6_half_4 (by decide) ?_
  refine fx_iloadn dX6_half_5 rfl ?_
  refine fx_imul dX6_half_6 ?_
  rw [pk_mul]
  refine fx_callVp dX6_half_7 vX6_byteAt kkX6_53 rfl rfl (by assumption) (p_rf_byteAt D _ (by omega)) rfl (by decide) (by decide) rfl (Nat.le_of_ble_eq_true rfl) ?_
  refine fx_imul dX6_half_10 ?_
  refine fx_aloadn dX6_half_11 rfl ?_
  refine fx_iconst (nI 2) dX6_half_12 (by decide) ?_
  refine fx_iloadn dX6_half_13 rfl ?_
  refine fx_imul dX6_half_14 ?_
  refine fx_iconst (nI 1) dX6_half_15 (by decide) ?_
  refine fx_iadd dX6_half_16 ?_
  rw [pk_mul 2, nI_add]
  refine fx_callVp dX6_half_17 vX6_byteAt kkX6_53 rfl rfl (by assumption) (p_rf_byteAt D _ (by omega)) rfl (by decide) (by decide) rfl (Nat.le_of_ble_eq_true rfl) ?_
  refine fx_iadd dX6_half_20 ?_
  refine fx_iret dX6_half_21 rfl ?_
  exact ⟨by rw [pk_mul, nI_add]; rfl, rfl⟩
theorem p_rf_word {g : fx_G} {h : fx_H} {a lim : Nat} {b : Nat → Nat} (D : rd h a b lim) (hb : ∀ i, b i < 256) (k : Nat) (hk : 4 * k + 3 < lim) : fx_P g mX6_word 1 21 [.ref a, .int (nI k)] h (.int (nI (ml_W b k))) := by
  obtain ⟨fs, h1⟩ := D.at
  refine fx_Met.of rfl (Nat.le_of_ble_eq_true rfl) ?_
  refine fx_aloadn dX6_word_0 rfl ?_
  refine fx_iconst (nI 4) dX6_word_1 (by decide) ?_
  refine fx_iloadn dX6_word_2 rfl ?_
  refine fx_imul dX6_word_3 ?_
  rw [pk_mul]
  refine fx_callVp dX6_word_4 vX6_byteAt kkX6_53 rfl rfl (by assumption) (p_rf_byteAt D _ (by omega)) rfl (by decide) (by decide) rfl (Nat.le_of_ble_eq_true rfl) ?_
  refine fx_bipush (nI 24) dX6_word_7 (by decide) ?_
  refine fx_ishl dX6_word_9 ?_
  refine fx_aloadn dX6_word_10 rfl ?_
  refine fx_iconst (nI 4) dX6_word_11 (by decide) ?_
  refine fx_iloadn dX6_word_12 rfl ?_
  refine fx_imul dX6_word_13 ?_
  refine fx_iconst (nI 1) dX6_word_14 (by decide) ?_
  refine fx_iadd dX6_word_15 ?_
  rw [pk_mul, nI_add]
  refine fx_callVp dX6_word_16 vX6_byteAt kkX6_53 rfl rfl (by assumption) (p_rf_byteAt D _ (by omega)) rfl (by decide) (by decide) rfl (Nat.le_of_ble_eq_true rfl) ?_
  refine fx_bipush (nI 16) dX6_word_19 (by decide) ?_
  refine fx_ishl dX6_word_21 ?_
  refine fx_ior dX6_word_22 ?_
  refine fx_aloadn dX6_word_23 rfl ?_
  refine fx_iconst (nI 4) dX6_word_24 (by decide) ?_
  refine fx_iloadn dX6_word_25 rfl ?_
  refine fx_imul dX6_word_26 ?_
  refine fx_iconst (nI 2) dX6_word_27 (by decide) ?_
  refine fx_iadd dX6_word_28 ?_
  rw [pk_mul, nI_add]
  refine fx_callVp dX6_word_29 vX6_byteAt kkX6_53 rfl rfl (by assumption) (p_rf_byteAt D _ (by omega)) rfl (by decide) (by decide) rfl (Nat.le_of_ble_eq_true rfl) ?_
  refine fx_bipush (nI 8) dX6_word_32 (by decide) ?_
  refine fx_ishl dX6_word_34 ?_
  refine fx_ior dX6_word_35 ?_
  refine fx_aloadn dX6_word_36 rfl ?_
  refine fx_iconst (nI 4) dX6_word_37 (by decide) ?_
  refine fx_iloadn dX6_word_38 rfl ?_
  refine fx_imul dX6_word_39 ?_
  refine fx_iconst (nI 3) dX6_word_40 (by decide) ?_
  refine fx_iadd dX6_word_41 ?_
  rw [pk_mul, nI_add]
  refine fx_callVp dX6_word_42 vX6_byteAt kkX6_53 rfl rfl (by assumption) (p_rf_byteAt D _ (by omega)) rfl (by decide) (by decide) rfl (Nat.le_of_ble_eq_true rfl) ?_
  refine fx_ior dX6_word_45 ?_
  refine fx_iret dX6_word_46 rfl ?_
  refine ⟨?_, rfl⟩
  have q0 := hb (4 * k)
  have q1 := hb (4 * k + 1)
  have q2 := hb (4 * k + 2)
  have q3 := hb (4 * k + 3)
  rw [pk_shlN (nI 24 &&& 31) 24 (by decide) (by omega), pk_shlN (nI 16 &&& 31) 16 (by decide) (by omega), pk_shlN (nI 8 &&& 31) 8 (by decide) (by omega), nI_or (by omega) (by omega), show b (4 * k) * 2 ^ 24 + b (4 * k + 1) * 2 ^ 16 = (b (4 * k) * 2 ^ 8 + b (4 * k + 1)) * 2 ^ 16 by omega, nI_or (by omega) (by omega), show (b (4 * k) * 2 ^ 8 + b (4 * k + 1)) * 2 ^ 16 + b (4 * k + 2) * 2 ^ 8 = ((b (4 * k) * 2 ^ 8 + b (4 * k + 1)) * 2 ^ 8 + b (4 * k + 2)) * 2 ^ 8 by omega, nI_or (by omega) (by omega), ml_W_b]
  congr 3
  omega
theorem p_rf_characters {g : fx_G} {h : fx_H} {a lim : Nat} {b : Nat → Nat} (D : rd h a b lim) (V : ml_w b) (hl : 24 ≤ lim) : fx_P g mX6_characters 2 42 [.ref a] h (.int (nI (ml_rl b 1))) := by
  obtain ⟨fs, h1⟩ := D.at
  refine fx_Met.of rfl (Nat.le_of_ble_eq_true rfl) ?_
  refine fx_aloadn dX6_characters_0 rfl ?_
  refine fx_iconst (nI 3) dX6_characters_1 (by decide) ?_
  refine fx_callVp dX6_characters_2 vX6_half kkX6_57 rfl rfl (by assumption) (p_rf_half D 3 (by omega)) rfl (by decide) (by decide) rfl (Nat.le_of_ble_eq_true rfl) ?_
  refine fx_aloadn dX6_characters_5 rfl ?_
  refine fx_iconst (nI 2) dX6_characters_6 (by decide) ?_
  refine fx_callVp dX6_characters_7 vX6_half kkX6_57 rfl rfl (by assumption) (p_rf_half D 2 (by omega)) rfl (by decide) (by decide) rfl (Nat.le_of_ble_eq_true rfl) ?_
  refine fx_isub dX6_characters_10 ?_
  refine fx_iconst (nI 1) dX6_characters_11 (by decide) ?_
  refine fx_iadd dX6_characters_12 ?_
  refine fx_iret dX6_characters_13 rfl ?_
  exact ⟨by rw [nI_chars V.2.2]; rfl, rfl⟩
theorem l_rf_start {g : fx_G} {h : fx_H} {a lim : Nat} {b : Nat → Nat} (D : rd h a b lim) (V : ml_w b) (hl : 24 ≤ lim) (r : Nat) (hr : r ≤ 10) : ∀ n k : Nat, k + n = r → fx_Y g mX6_start 3 62 (fun q h' => q = some (.int (nI (ml_st b r))) ∧ h' = h) (fun _ _ => False) 5 [(0, .ref a), (1, .int (nI r)), (2, .int (nI (ml_st b k))), (3, .int (nI k))] [] h 0 0 := by
  obtain ⟨fs, h1⟩ := D.at
  intro n
  induction n using Nat.strongRecOn with
  | ind n ih =>
  intro k hn
  refine fx_iloadn dX6_start_5 rfl ?_
  refine fx_iloadn dX6_start_6 rfl ?_
  refine fx_icmp_ge 50 dX6_start_7 (by decide) (fun c7 => ?_) (fun c7 => ?_)
  · skip
    refine fx_iloadn dX6_start_50 rfl ?_
    refine fx_iret dX6_start_51 rfl ?_
    have : k = r := by
      by_cases q : k < r
      · exact absurd c7 (nI_ge q (by omega))
      · omega
    subst this
    exact ⟨rfl, rfl⟩
  · skip
    refine fx_iloadn dX6_start_10 rfl ?_
    refine fx_iloadn dX6_start_11 rfl ?_
    refine fx_if_ne 23 dX6_start_12 (by decide) (fun c12 => ?_) (fun c12 => ?_)
    · skip
      refine fx_iloadn dX6_start_23 rfl ?_
      refine fx_iconst (nI 1) dX6_start_24 (by decide) ?_
      refine fx_icmp_ne 35 dX6_start_25 (by decide) (fun c25 => ?_) (fun c25 => ?_)
      · skip
        refine fx_aloadn dX6_start_35 rfl ?_
        refine fx_iloadn dX6_start_36 rfl ?_
        refine fx_iconst (nI 2) dX6_start_37 (by decide) ?_
        refine fx_iadd dX6_start_38 ?_
        rw [nI_add]
        refine fx_callVp dX6_start_39 vX6_half kkX6_57 rfl rfl (by assumption) (p_rf_half D (k + 2) (by have : k < r := Nat.lt_of_not_le (fun q => c7 (nI_le q (by omega))); omega)) rfl (by decide) (by decide) rfl (Nat.le_of_ble_eq_true rfl) ?_
        refine fx_iadd dX6_start_42 ?_
        refine fx_istoren dX6_start_43 (by decide) ?_
        refine fx_iinc (nI 1) dX6_start_44 rfl (by decide) (by decide) ?_
        refine fx_goto 5 dX6_start_47 (by decide) ?_
        have hkr : k < r := Nat.lt_of_not_le (fun q => c7 (nI_le q (by omega)))
        have e0 : k ≠ 0 := fun e => c12 (by rw [e]; rfl)
        have e1 : k ≠ 1 := fun e => c25 (by rw [e])
        simp only [nI_add]
        refine fx_to (ih (n - 1) (by omega) _ (by omega)) ⟨rfl, rfl, by show some (Value.int (nI (ml_st b k + ml_H b (k + 2)))) = some (Value.int (nI (ml_st b k + ml_rl b k))); unfold ml_rl; rw [if_neg e0, if_neg e1], rfl, trivial⟩
      · skip
        refine fx_aloadn dX6_start_28 rfl ?_
        refine fx_callVp dX6_start_29 vX6_characters kkX6_60 rfl rfl (by assumption) (p_rf_characters D V hl) rfl (by decide) (by decide) rfl (Nat.le_of_ble_eq_true rfl) ?_
        refine fx_goto 42 dX6_start_32 (by decide) ?_
        refine fx_iadd dX6_start_42 ?_
        refine fx_istoren dX6_start_43 (by decide) ?_
        refine fx_iinc (nI 1) dX6_start_44 rfl (by decide) (by decide) ?_
        refine fx_goto 5 dX6_start_47 (by decide) ?_
        have hkr : k < r := Nat.lt_of_not_le (fun q => c7 (nI_le q (by omega)))
        have e : k = 1 := (nI_eq (by omega) (by decide)).mp c25
        subst e
        simp only [nI_add]
        refine fx_to (ih (n - 1) (by omega) _ (by omega)) ⟨rfl, rfl, rfl, rfl, trivial⟩
    · skip
      refine fx_aloadn dX6_start_15 rfl ?_
      refine fx_iconst (nI 1) dX6_start_16 (by decide) ?_
      refine fx_callVp dX6_start_17 vX6_half kkX6_57 rfl rfl (by assumption) (p_rf_half D 1 (by omega)) rfl (by decide) (by decide) rfl (Nat.le_of_ble_eq_true rfl) ?_
      refine fx_goto 42 dX6_start_20 (by decide) ?_
      refine fx_iadd dX6_start_42 ?_
      refine fx_istoren dX6_start_43 (by decide) ?_
      refine fx_iinc (nI 1) dX6_start_44 rfl (by decide) (by decide) ?_
      refine fx_goto 5 dX6_start_47 (by decide) ?_
      have hkr : k < r := Nat.lt_of_not_le (fun q => c7 (nI_le q (by omega)))
      have e : k = 0 := (nI_eq (by omega) (by decide)).mp c12
      subst e
      simp only [nI_add]
      refine fx_to (ih (n - 1) (by omega) _ (by omega)) ⟨rfl, rfl, rfl, rfl, trivial⟩
theorem p_rf_start {g : fx_G} {h : fx_H} {a lim : Nat} {b : Nat → Nat} (D : rd h a b lim) (V : ml_w b) (hl : 24 ≤ lim) (r : Nat) (hr : r ≤ 10) : fx_P g mX6_start 3 62 [.ref a, .int (nI r)] h (.int (nI (ml_st b r))) := by
  obtain ⟨fs, h1⟩ := D.at
  refine fx_Met.of rfl (Nat.le_of_ble_eq_true rfl) ?_
  refine fx_bipush (nI 6) dX6_start_0 (by decide) ?_
  refine fx_istoren dX6_start_2 (by decide) ?_
  refine fx_iconst (nI 0) dX6_start_3 (by decide) ?_
  refine fx_istoren dX6_start_4 (by decide) ?_
  exact fx_to (l_rf_start D V hl r hr r 0 (by omega)) ⟨rfl, rfl, rfl, rfl, trivial⟩
theorem p_rf_piece {g : fx_G} {h : fx_H} {a lim : Nat} {b : Nat → Nat} (D : rd h a b lim) (V : ml_w b) (hl : 24 ≤ lim) (r : Nat) (hr : r ≤ 10) (i k : Nat) (hk : 4 * (ml_st b r + i) + k < lim) : fx_P g mX6_piece 4 85 [.ref a, .int (nI r), .int (nI i), .int (nI k)] h (.int (nI (b (4 * (ml_st b r + i) + k)))) := by
  obtain ⟨fs, h1⟩ := D.at
  refine fx_Met.of rfl (Nat.le_of_ble_eq_true rfl) ?_
  refine fx_aloadn dX6_piece_0 rfl ?_
  refine fx_iconst (nI 4) dX6_piece_1 (by decide) ?_
  refine fx_aloadn dX6_piece_2 rfl ?_
  refine fx_iloadn dX6_piece_3 rfl ?_
  refine fx_callVp dX6_piece_4 vX6_start kkX6_64 rfl rfl (by assumption) (p_rf_start D V hl r hr) rfl (by decide) (by decide) rfl (Nat.le_of_ble_eq_true rfl) ?_
  refine fx_iloadn dX6_piece_7 rfl ?_
  refine fx_iadd dX6_piece_8 ?_
  refine fx_imul dX6_piece_9 ?_
  refine fx_iloadn dX6_piece_10 rfl ?_
  refine fx_iadd dX6_piece_11 ?_
  rw [nI_add, pk_mul, nI_add]
  refine fx_callVp dX6_piece_12 vX6_byteAt kkX6_53 rfl rfl (by assumption) (p_rf_byteAt D _ hk) rfl (by decide) (by decide) rfl (Nat.le_of_ble_eq_true rfl) ?_
  refine fx_iret dX6_piece_15 rfl ?_
  exact ⟨rfl, rfl⟩
theorem p_rf_info {g : fx_G} {h : fx_H} {a lim nw : Nat} {b : Nat → Nat} (D : rd h a b lim) (V : ml_v b nw) (hl : 4 * nw ≤ lim) (c k : Nat) (h2 : ml_H b 2 ≤ c) (h3 : c ≤ ml_H b 3) (hk : k < 4) : fx_P g mX6_info 5 108 [.ref a, .int (nI c), .int (nI k)] h (.int (nI (b (4 * (ml_st b 1 + (c - ml_H b 2)) + k)))) := by
  have e1 : ml_rl b 1 = ml_H b 3 + 1 - ml_H b 2 := rfl
  obtain ⟨fs, h1⟩ := D.at
  refine fx_Met.of rfl (Nat.le_of_ble_eq_true rfl) ?_
  refine fx_aloadn dX6_info_0 rfl ?_
  refine fx_iconst (nI 1) dX6_info_1 (by decide) ?_
  refine fx_iloadn dX6_info_2 rfl ?_
  refine fx_aloadn dX6_info_3 rfl ?_
  refine fx_iconst (nI 2) dX6_info_4 (by decide) ?_
  refine fx_callVp dX6_info_5 vX6_half kkX6_57 rfl rfl (by assumption) (p_rf_half D 2 (by have := V.six; omega)) rfl (by decide) (by decide) rfl (Nat.le_of_ble_eq_true rfl) ?_
  refine fx_isub dX6_info_8 ?_
  rw [pk_sub h2]
  refine fx_iloadn dX6_info_9 rfl ?_
  refine fx_callVp dX6_info_10 vX6_piece kkX6_67 rfl rfl (by assumption) (p_rf_piece D V.w (by have := V.six; omega) 1 (by decide) (c - ml_H b 2) k (by have := V.row (r := 1) (by decide); omega)) rfl (by decide) (by decide) rfl (Nat.le_of_ble_eq_true rfl) ?_
  refine fx_iret dX6_info_13 rfl ?_
  exact ⟨rfl, rfl⟩
theorem ml_i_in {b : Nat → Nat} {nw c : Nat} (V : ml_v b nw) (h2 : ml_H b 2 ≤ c) (h3 : c ≤ ml_H b 3) : ml_i b c = if b (4 * (ml_st b 1 + (c - ml_H b 2))) = 0 then 0 else ml_W b (ml_st b 1 + (c - ml_H b 2)) := by
  have e1 : ml_rl b 1 = ml_H b 3 + 1 - ml_H b 2 := rfl
  have e2 : ml_e b 1 (c - ml_H b 2) = ml_W b (ml_st b 1 + (c - ml_H b 2)) := if_pos (by omega)
  have e3 := ml_b0 V.1 (ml_st b 1 + (c - ml_H b 2))
  unfold ml_i
  rw [e2]
  split
  · rename_i q
    rw [if_neg (by omega)]
  · rename_i q
    rw [if_pos (by omega)]
theorem ml_i_out {b : Nat → Nat} {c : Nat} (h : c < ml_H b 2 ∨ ml_H b 3 < c) : ml_i b c = 0 := by
  have e1 : ml_rl b 1 = ml_H b 3 + 1 - ml_H b 2 := rfl
  unfold ml_i
  rw [if_neg]
  intro q
  have e2 : ml_e b 1 (c - ml_H b 2) = 0 := if_neg (by omega)
  rw [e2] at q
  omega
theorem ml_i_ran {b : Nat → Nat} {c : Nat} (h : ml_i b c ≠ 0) : ml_H b 2 ≤ c ∧ c ≤ ml_H b 3 := by
  by_cases h2 : ml_H b 2 ≤ c
  · by_cases h3 : c ≤ ml_H b 3
    · exact ⟨h2, h3⟩
    · exact absurd (ml_i_out (Or.inr (by omega))) h
  · exact absurd (ml_i_out (Or.inl (by omega))) h
theorem ml_i_W {b : Nat → Nat} {nw c : Nat} (V : ml_v b nw) (h : ml_i b c ≠ 0) : ml_i b c = ml_W b (ml_st b 1 + (c - ml_H b 2)) := by
  have h1 := ml_i_ran h
  have h2 := ml_i_in V h1.1 h1.2
  rw [h2] at h ⊢
  split
  · rename_i q
    rw [if_pos q] at h
    exact absurd rfl h
  · rfl

theorem i_neg {x : Int32} {n : Nat} (hx : x < 0) (hn : n < 2 ^ 31) : x < nI n := by
  have h1 := nI_toInt hn
  have h2 := Int32.lt_iff_toInt_lt.mp hx
  refine Int32.lt_iff_toInt_lt.mpr ?_
  rw [h1]
  have h3 : (0 : Int32).toInt = 0 := rfl
  omega
theorem p_rf_isThere {g : fx_G} {h : fx_H} {a lim nw : Nat} {b : Nat → Nat} (D : rd h a b lim) (V : ml_v b nw) (hl : 4 * nw ≤ lim) (x : Int32) : fx_P g mX6_isThere 6 130 [.ref a, .int x] h (.int (bI (ml_iI b x ≠ 0))) := by
  obtain ⟨fs, h1⟩ := D.at
  refine fx_Met.of rfl (Nat.le_of_ble_eq_true rfl) ?_
  have hs := V.six
  have w2 := V.w.2.1 2 (by decide)
  have w3 := V.w.2.1 3 (by decide)
  by_cases hx : x < 0
  · skip
    refine fx_iloadn dX6_isThere_0 rfl ?_
    refine fx_aloadn dX6_isThere_1 rfl ?_
    refine fx_iconst (nI 2) dX6_isThere_2 (by decide) ?_
    refine fx_callVp dX6_isThere_3 vX6_half kkX6_57 rfl rfl (by assumption) (p_rf_half D 2 (by omega)) rfl (by decide) (by decide) rfl (Nat.le_of_ble_eq_true rfl) ?_
    refine fx_icmp_lt 57 dX6_isThere_6 (by decide) (fun c6 => ?_) (fun c6 => absurd (i_neg hx (by omega)) c6)
    refine fx_iconst (nI 0) dX6_isThere_57 (by decide) ?_
    refine fx_zret dX6_isThere_58 rfl rfl ?_
    exact ⟨by rw [bI_f (fun q => q (ml_iI_m hx))], rfl⟩
  · obtain ⟨j, hj, rfl⟩ := nI_of hx
    refine fx_iloadn dX6_isThere_0 rfl ?_
    refine fx_aloadn dX6_isThere_1 rfl ?_
    refine fx_iconst (nI 2) dX6_isThere_2 (by decide) ?_
    refine fx_callVp dX6_isThere_3 vX6_half kkX6_57 rfl rfl (by assumption) (p_rf_half D 2 (by omega)) rfl (by decide) (by decide) rfl (Nat.le_of_ble_eq_true rfl) ?_
    refine fx_icmp_lt 57 dX6_isThere_6 (by decide) (fun c6 => ?_) (fun c6 => ?_)
    · skip
      refine fx_iconst (nI 0) dX6_isThere_57 (by decide) ?_
      refine fx_zret dX6_isThere_58 rfl rfl ?_
      exact ⟨by rw [bI_f (fun q => q (by rw [ml_iI_n hj]; exact ml_i_out (Or.inl (Nat.lt_of_not_le (fun e => nI_nlt e (by omega) c6)))))], rfl⟩
    · skip
      refine fx_iloadn dX6_isThere_9 rfl ?_
      refine fx_aloadn dX6_isThere_10 rfl ?_
      refine fx_iconst (nI 3) dX6_isThere_11 (by decide) ?_
      refine fx_callVp dX6_isThere_12 vX6_half kkX6_57 rfl rfl (by assumption) (p_rf_half D 3 (by omega)) rfl (by decide) (by decide) rfl (Nat.le_of_ble_eq_true rfl) ?_
      refine fx_icmp_gt 57 dX6_isThere_15 (by decide) (fun c15 => ?_) (fun c15 => ?_)
      · skip
        refine fx_iconst (nI 0) dX6_isThere_57 (by decide) ?_
        refine fx_zret dX6_isThere_58 rfl rfl ?_
        exact ⟨by rw [bI_f (fun q => q (by rw [ml_iI_n hj]; exact ml_i_out (Or.inr (Nat.lt_of_not_le (fun e => nI_nlt e (by omega) c15)))))], rfl⟩
      · skip
        have h2 : ml_H b 2 ≤ j := Nat.le_of_not_lt (fun e => c6 (nI_lt e (by omega)))
        have h3 : j ≤ ml_H b 3 := Nat.le_of_not_lt (fun e => c15 (nI_lt e hj))
        refine fx_aloadn dX6_isThere_18 rfl ?_
        refine fx_iloadn dX6_isThere_19 rfl ?_
        refine fx_aloadn dX6_isThere_20 rfl ?_
        refine fx_iconst (nI 2) dX6_isThere_21 (by decide) ?_
        refine fx_callVp dX6_isThere_22 vX6_half kkX6_57 rfl rfl (by assumption) (p_rf_half D 2 (by omega)) rfl (by decide) (by decide) rfl (Nat.le_of_ble_eq_true rfl) ?_
        refine fx_icmp_lt 37 dX6_isThere_25 (by decide) (fun c25 => absurd c25 (c6)) (fun c25 => ?_)
        refine fx_iloadn dX6_isThere_28 rfl ?_
        refine fx_aloadn dX6_isThere_29 rfl ?_
        refine fx_iconst (nI 3) dX6_isThere_30 (by decide) ?_
        refine fx_callVp dX6_isThere_31 vX6_half kkX6_57 rfl rfl (by assumption) (p_rf_half D 3 (by omega)) rfl (by decide) (by decide) rfl (Nat.le_of_ble_eq_true rfl) ?_
        refine fx_icmp_le 45 dX6_isThere_34 (by decide) (fun c34 => ?_) (fun c34 => absurd (nI_le h3 (by omega)) c34)
        refine fx_iloadn dX6_isThere_45 rfl ?_
        refine fx_iconst (nI 0) dX6_isThere_46 (by decide) ?_
        refine fx_callVp dX6_isThere_47 vX6_info kkX6_71 rfl rfl (by assumption) (p_rf_info D V hl j 0 h2 h3 (by decide)) rfl (by decide) (by decide) rfl (Nat.le_of_ble_eq_true rfl) ?_
        refine fx_if_le 57 dX6_isThere_50 (by decide) (fun c50 => ?_) (fun c50 => ?_)
        · skip
          refine fx_iconst (nI 0) dX6_isThere_57 (by decide) ?_
          refine fx_zret dX6_isThere_58 rfl rfl ?_
          have q1 := V.1 (4 * (ml_st b 1 + (j - ml_H b 2)))
          have e : ml_iI b (nI j) = 0 := by
            rw [ml_iI_n hj, ml_i_in V h2 h3]
            exact if_pos (Nat.eq_zero_of_not_pos (fun e => nI_nle (n := b (4 * (ml_st b 1 + (j - ml_H b 2)))) e (by omega) c50))
          exact ⟨by rw [bI_f (fun q => q e)], rfl⟩
        · skip
          refine fx_iconst (nI 1) dX6_isThere_53 (by decide) ?_
          refine fx_goto 58 dX6_isThere_54 (by decide) ?_
          refine fx_zret dX6_isThere_58 rfl rfl ?_
          refine ⟨?_, rfl⟩
          refine congrArg (fun x => some (Value.int x)) (bI_t (fun q => ?_)).symm
          rw [ml_iI_n hj, ml_i_in V h2 h3] at q
          have q1 := ml_b0 V.1 (ml_st b 1 + (j - ml_H b 2))
          by_cases q2 : b (4 * (ml_st b 1 + (j - ml_H b 2))) = 0
          · exact c50 (by show nI (b (4 * (ml_st b 1 + (j - ml_H b 2)))) ≤ 0; rw [q2]; decide)
          · rw [if_neg q2] at q
            omega
theorem p_rf_step {g : fx_G} {h : fx_H} {a lim nw : Nat} {b : Nat → Nat} (D : rd h a b lim) (V : ml_v b nw) (hl : 4 * nw ≤ lim) (i k : Nat) (hi : i < ml_rl b 6) (hk : k < 4) : fx_P g mX6_step 5 108 [.ref a, .int (nI i), .int (nI k)] h (.int (nI (b (4 * (ml_st b 6 + i) + k)))) := by
  obtain ⟨fs, h1⟩ := D.at
  refine fx_Met.of rfl (Nat.le_of_ble_eq_true rfl) ?_
  refine fx_aloadn dX6_step_0 rfl ?_
  refine fx_bipush (nI 6) dX6_step_1 (by decide) ?_
  refine fx_iloadn dX6_step_3 rfl ?_
  refine fx_iloadn dX6_step_4 rfl ?_
  refine fx_callVp dX6_step_5 vX6_piece kkX6_67 rfl rfl (by assumption) (p_rf_piece D V.w (by have := V.six; omega) 6 (by decide) i k (by have := V.row (r := 6) (by decide); omega)) rfl (by decide) (by decide) rfl (Nat.le_of_ble_eq_true rfl) ?_
  refine fx_iret dX6_step_8 rfl ?_
  exact ⟨rfl, rfl⟩
theorem ml_s_b {b : Nat → Nat} {nw : Nat} (V : ml_v b nw) {i : Nat} (hi : i < ml_rl b 6) : b (4 * (ml_st b 6 + i)) = ml_s b (nI i) := by
  have h1 := V.rl (r := 6) (by decide)
  unfold ml_s
  rw [ml_eI_n 6 (by omega), show ml_e b 6 i = ml_W b (ml_st b 6 + i) from if_pos hi, ml_b0 V.1]
theorem p_rf_step0 {g : fx_G} {h : fx_H} {a lim nw : Nat} {b : Nat → Nat} (D : rd h a b lim) (V : ml_v b nw) (hl : 4 * nw ≤ lim) (i : Nat) (hi : i < ml_rl b 6) : fx_P g mX6_step 5 108 [.ref a, .int (nI i), .int (nI 0)] h (.int (nI (ml_s b (nI i)))) := by
  rw [← ml_s_b V hi]
  exact p_rf_step D V hl i 0 hi (by decide)
theorem ml_n_b {b : Nat → Nat} {nw : Nat} (V : ml_v b nw) {i : Nat} (hi : i < ml_rl b 6) : b (4 * (ml_st b 6 + i) + 1) = ml_n b (nI i) := by
  have h1 := V.rl (r := 6) (by decide)
  unfold ml_n
  rw [ml_eI_n 6 (by omega), show ml_e b 6 i = ml_W b (ml_st b 6 + i) from if_pos hi, ml_b1 V.1]
theorem p_rf_step1 {g : fx_G} {h : fx_H} {a lim nw : Nat} {b : Nat → Nat} (D : rd h a b lim) (V : ml_v b nw) (hl : 4 * nw ≤ lim) (i : Nat) (hi : i < ml_rl b 6) : fx_P g mX6_step 5 108 [.ref a, .int (nI i), .int (nI 1)] h (.int (nI (ml_n b (nI i)))) := by
  rw [← ml_n_b V hi]
  exact p_rf_step D V hl i 1 hi (by decide)
theorem ml_o_b {b : Nat → Nat} {nw : Nat} (V : ml_v b nw) {i : Nat} (hi : i < ml_rl b 6) : b (4 * (ml_st b 6 + i) + 2) = ml_o b (nI i) := by
  have h1 := V.rl (r := 6) (by decide)
  unfold ml_o
  rw [ml_eI_n 6 (by omega), show ml_e b 6 i = ml_W b (ml_st b 6 + i) from if_pos hi, ml_b2 V.1]
theorem p_rf_step2 {g : fx_G} {h : fx_H} {a lim nw : Nat} {b : Nat → Nat} (D : rd h a b lim) (V : ml_v b nw) (hl : 4 * nw ≤ lim) (i : Nat) (hi : i < ml_rl b 6) : fx_P g mX6_step 5 108 [.ref a, .int (nI i), .int (nI 2)] h (.int (nI (ml_o b (nI i)))) := by
  rw [← ml_o_b V hi]
  exact p_rf_step D V hl i 2 hi (by decide)
theorem ml_r_b {b : Nat → Nat} {nw : Nat} (V : ml_v b nw) {i : Nat} (hi : i < ml_rl b 6) : b (4 * (ml_st b 6 + i) + 3) = ml_r b (nI i) := by
  have h1 := V.rl (r := 6) (by decide)
  unfold ml_r
  rw [ml_eI_n 6 (by omega), show ml_e b 6 i = ml_W b (ml_st b 6 + i) from if_pos hi, ml_b3 V.1]
theorem p_rf_step3 {g : fx_G} {h : fx_H} {a lim nw : Nat} {b : Nat → Nat} (D : rd h a b lim) (V : ml_v b nw) (hl : 4 * nw ≤ lim) (i : Nat) (hi : i < ml_rl b 6) : fx_P g mX6_step 5 108 [.ref a, .int (nI i), .int (nI 3)] h (.int (nI (ml_r b (nI i)))) := by
  rw [← ml_r_b V hi]
  exact p_rf_step D V hl i 3 hi (by decide)
theorem p_rf_info0 {g : fx_G} {h : fx_H} {a lim nw : Nat} {b : Nat → Nat} (D : rd h a b lim) (V : ml_v b nw) (hl : 4 * nw ≤ lim) (c : Nat) (hc : ml_i b c ≠ 0) : fx_P g mX6_info 5 108 [.ref a, .int (nI c), .int (nI 0)] h (.int (nI (ml_i b c / 16777216))) := by
  have h1 := ml_i_ran hc
  rw [ml_i_W V hc, ml_b0 V.1]
  exact p_rf_info D V hl c 0 h1.1 h1.2 (by decide)
theorem p_rf_info1 {g : fx_G} {h : fx_H} {a lim nw : Nat} {b : Nat → Nat} (D : rd h a b lim) (V : ml_v b nw) (hl : 4 * nw ≤ lim) (c : Nat) (hc : ml_i b c ≠ 0) : fx_P g mX6_info 5 108 [.ref a, .int (nI c), .int (nI 1)] h (.int (nI (ml_i b c / 65536 % 256))) := by
  have h1 := ml_i_ran hc
  rw [ml_i_W V hc, ml_b1 V.1]
  exact p_rf_info D V hl c 1 h1.1 h1.2 (by decide)
theorem p_rf_info2 {g : fx_G} {h : fx_H} {a lim nw : Nat} {b : Nat → Nat} (D : rd h a b lim) (V : ml_v b nw) (hl : 4 * nw ≤ lim) (c : Nat) (hc : ml_i b c ≠ 0) : fx_P g mX6_info 5 108 [.ref a, .int (nI c), .int (nI 2)] h (.int (nI (ml_i b c / 256 % 256))) := by
  have h1 := ml_i_ran hc
  rw [ml_i_W V hc, ml_b2 V.1]
  exact p_rf_info D V hl c 2 h1.1 h1.2 (by decide)
theorem p_rf_info3 {g : fx_G} {h : fx_H} {a lim nw : Nat} {b : Nat → Nat} (D : rd h a b lim) (V : ml_v b nw) (hl : 4 * nw ≤ lim) (c : Nat) (hc : ml_i b c ≠ 0) : fx_P g mX6_info 5 108 [.ref a, .int (nI c), .int (nI 3)] h (.int (nI (ml_i b c % 256))) := by
  have h1 := ml_i_ran hc
  rw [ml_i_W V hc, ml_b3 V.1]
  exact p_rf_info D V hl c 3 h1.1 h1.2 (by decide)
theorem p_rf_boundary {g : fx_G} {h : fx_H} {a lim nw : Nat} {b : Nat → Nat} (D : rd h a b lim) (V : ml_v b nw) (hl : 4 * nw ≤ lim) : fx_P g mX6_boundary 6 130 [.ref a] h (.int (ml_bd b)) := by
  obtain ⟨fs, h1⟩ := D.at
  refine fx_Met.of rfl (Nat.le_of_ble_eq_true rfl) ?_
  refine fx_aloadn dX6_boundary_0 rfl ?_
  refine fx_bipush (nI 8) dX6_boundary_1 (by decide) ?_
  refine fx_callVp dX6_boundary_3 vX6_half kkX6_57 rfl rfl (by assumption) (p_rf_half D 8 (by have := V.six; omega)) rfl (by decide) (by decide) rfl (Nat.le_of_ble_eq_true rfl) ?_
  refine fx_if_le 30 dX6_boundary_6 (by decide) (fun c6 => ?_) (fun c6 => ?_)
  · skip
    refine fx_iconst (-1) dX6_boundary_30 (by decide) ?_
    refine fx_iret dX6_boundary_31 rfl ?_
    refine ⟨?_, rfl⟩
    have e : ml_rl b 6 = 0 := Nat.eq_zero_of_not_pos (fun e => nI_nle e (by have := V.rl (r := 6) (by decide); omega) c6)
    have e2 : ml_s b (nI 0) = 0 := by
      unfold ml_s
      rw [ml_eI_n 6 (by decide), show ml_e b 6 0 = 0 from if_neg (by omega)]
    unfold ml_bd
    rw [e2, if_neg (by decide)]
  · skip
    have hp : 0 < ml_rl b 6 := Nat.pos_of_ne_zero (fun e => c6 (by show nI (ml_rl b 6) ≤ 0; rw [e]; decide))
    refine fx_aloadn dX6_boundary_9 rfl ?_
    refine fx_iconst (nI 0) dX6_boundary_10 (by decide) ?_
    refine fx_iconst (nI 0) dX6_boundary_11 (by decide) ?_
    refine fx_callVp dX6_boundary_12 vX6_step kkX6_88 rfl rfl (by assumption) (p_rf_step0 D V hl 0 hp) rfl (by decide) (by decide) rfl (Nat.le_of_ble_eq_true rfl) ?_
    refine fx_sipush (nI 255) dX6_boundary_15 (by decide) ?_
    refine fx_icmp_ne 30 dX6_boundary_18 (by decide) (fun c18 => ?_) (fun c18 => ?_)
    · skip
      refine fx_iconst (-1) dX6_boundary_30 (by decide) ?_
      refine fx_iret dX6_boundary_31 rfl ?_
      exact ⟨by unfold ml_bd; rw [if_neg (fun e => c18 (by rw [e]))], rfl⟩
    · skip
      refine fx_aloadn dX6_boundary_21 rfl ?_
      refine fx_iconst (nI 0) dX6_boundary_22 (by decide) ?_
      refine fx_iconst (nI 1) dX6_boundary_23 (by decide) ?_
      refine fx_callVp dX6_boundary_24 vX6_step kkX6_88 rfl rfl (by assumption) (p_rf_step1 D V hl 0 hp) rfl (by decide) (by decide) rfl (Nat.le_of_ble_eq_true rfl) ?_
      refine fx_goto 31 dX6_boundary_27 (by decide) ?_
      refine fx_iret dX6_boundary_31 rfl ?_
      exact ⟨by unfold ml_bd; rw [if_pos ((nI_eq (by have := ml_s_lt V.1 (nI 0); omega) (by decide)).mp c18)], rfl⟩
