/-! FontDesk$Draft -/
/-- a draft at a: its row of bytes at b (of length n), len of them drafted: B -/
def dr (h : fx_H) (a b n len : Nat) (B : Nat → Nat) : Prop := h a = some (.inr (0, [.ref b, .int (nI len)])) ∧ len ≤ n ∧ n ≤ 131072 ∧ ∃ f : Nat → Int32, h b = some (.inl (1, n, .inl f)) ∧ (∀ j, j < len → f j &&& nI 255 = nI (B j) ∧ B j < 256) ∧ ∀ j, fits .byte (.int (f j)) = true
def by_ (B : Nat → Nat) (len j : Nat) : Nat := if j < len then B j else 0
def hf (B : Nat → Nat) (len k : Nat) : Nat := 256 * by_ B len (2 * k) + by_ B len (2 * k + 1)
def wd (B : Nat → Nat) (len k : Nat) : Nat := 65536 * hf B len (2 * k) + hf B len (2 * k + 1)
theorem dr.by_lt {h : fx_H} {a b n len : Nat} {B : Nat → Nat} (H : dr h a b n len B) (j : Nat) : by_ B len j < 256 := by
  unfold by_
  split
  · rename_i hl
    obtain ⟨-, -, -, f, -, h5, -⟩ := H
    exact (h5 j hl).2
  · decide
theorem dr.hf_lt {h : fx_H} {a b n len : Nat} {B : Nat → Nat} (H : dr h a b n len B) (k : Nat) : hf B len k < 65536 := by
  have h1 := H.by_lt (2 * k)
  have h2 := H.by_lt (2 * k + 1)
  unfold hf
  omega
theorem dr.wd_lt {h : fx_H} {a b n len : Nat} {B : Nat → Nat} (H : dr h a b n len B) (k : Nat) : wd B len k < 4294967296 := by
  have h1 := H.hf_lt (2 * k)
  have h2 := H.hf_lt (2 * k + 1)
  unfold wd
  omega
/-- 'or' of numbers whose bits don't meet -/
theorem nI_or {x y k : Nat} (hy : y < 2 ^ k) (hx : x * 2 ^ k < 2 ^ 32) : nI (x * 2 ^ k) ||| nI y = nI (x * 2 ^ k + y) := by
  have e : x * 2 ^ k ||| y = x * 2 ^ k + y := by
    rw [Nat.mul_comm, Nat.two_pow_add_eq_or_of_lt hy]
  rw [← e]
  refine Int32.toBitVec_inj.mp ?_
  show (BitVec.ofNat 32 (x * 2 ^ k) ||| BitVec.ofNat 32 y) = BitVec.ofNat 32 (x * 2 ^ k ||| y)
  apply BitVec.eq_of_toNat_eq
  simp [Nat.or_mod_two_pow]

theorem p_dr_byteAt {g : fx_G} {h : fx_H} {a b n len : Nat} {B : Nat → Nat} (H : dr h a b n len B) (j : Nat) (hj : j < 2 ^ 31) : fx_P g mX0_byteAt 0 0 [.ref a, .int (nI j)] h (.int (nI (by_ B len j))) := by
  obtain ⟨h1, h2, h3, f, h4, h5, -⟩ := H
  refine fx_Met.of rfl (Nat.le_of_ble_eq_true rfl) ?_
  by_cases hl : j < len
  · skip
    refine fx_iloadn dX0_byteAt_0 rfl ?_
    refine fx_if_lt 34 dX0_byteAt_1 (by decide) (fun c1 => absurd c1 (nI_pos hj)) (fun c1 => ?_)
    refine fx_iloadn dX0_byteAt_4 rfl ?_
    refine fx_aloadn dX0_byteAt_5 rfl ?_
    refine fx_get dX0_byteAt_6 ffX0_13 (by assumption) rfl ?_
    refine fx_icmp_ge 34 dX0_byteAt_9 (by decide) (fun c9 => absurd c9 (nI_ge hl (by omega))) (fun c9 => ?_)
    refine fx_iloadn dX0_byteAt_12 rfl ?_
    refine fx_aloadn dX0_byteAt_13 rfl ?_
    refine fx_get dX0_byteAt_14 ffX0_7 (by assumption) rfl ?_
    refine fx_alenI dX0_byteAt_17 (by assumption) (by decide) ?_
    refine fx_icmp_ge 34 dX0_byteAt_18 (by decide) (fun c18 => absurd c18 (nI_ge (Nat.lt_of_lt_of_le hl h2) (by omega))) (fun c18 => ?_)
    refine fx_aloadn dX0_byteAt_21 rfl ?_
    refine fx_get dX0_byteAt_22 ffX0_7 (by assumption) rfl ?_
    refine fx_iloadn dX0_byteAt_25 rfl ?_
    refine fx_bald dX0_byteAt_26 (by assumption) (vp_in_nI (Nat.lt_of_lt_of_le hl h2) (by omega)) ?_
    refine fx_sipush (nI 255) dX0_byteAt_27 (by decide) ?_
    refine fx_iand dX0_byteAt_30 ?_
    refine fx_goto 35 dX0_byteAt_31 (by decide) ?_
    refine fx_iret dX0_byteAt_35 rfl ?_
    refine ⟨?_, rfl⟩
    rw [nI_clamp hj, (h5 j hl).1]
    unfold by_
    rw [if_pos hl]
  · skip
    refine fx_iloadn dX0_byteAt_0 rfl ?_
    refine fx_if_lt 34 dX0_byteAt_1 (by decide) (fun c1 => absurd c1 (nI_pos hj)) (fun c1 => ?_)
    refine fx_iloadn dX0_byteAt_4 rfl ?_
    refine fx_aloadn dX0_byteAt_5 rfl ?_
    refine fx_get dX0_byteAt_6 ffX0_13 (by assumption) rfl ?_
    refine fx_icmp_ge 34 dX0_byteAt_9 (by decide) (fun c9 => ?_) (fun c9 => absurd (nI_le (by omega) hj) c9)
    refine fx_iconst (nI 0) dX0_byteAt_34 (by decide) ?_
    refine fx_iret dX0_byteAt_35 rfl ?_
    refine ⟨?_, rfl⟩
    unfold by_
    rw [if_neg hl]
theorem p_dr_halfAt {g : fx_G} {h : fx_H} {a b n len : Nat} {B : Nat → Nat} (H : dr h a b n len B) (k : Nat) (hk : k < 2 ^ 29) : fx_P g mX0_halfAt 1 21 [.ref a, .int (nI k)] h (.int (nI (hf B len k))) := by
  refine fx_Met.of rfl (Nat.le_of_ble_eq_true rfl) ?_
  have h1 := H.1
  refine fx_aloadn dX0_halfAt_0 rfl ?_
  refine fx_iconst (nI 2) dX0_halfAt_1 (by decide) ?_
  refine fx_iloadn dX0_halfAt_2 rfl ?_
  refine fx_imul dX0_halfAt_3 ?_
  rw [pk_mul]
  refine fx_callVp dX0_halfAt_4 vX0_byteAt kkX0_37 rfl rfl (by assumption) (p_dr_byteAt H _ (by omega)) rfl (by decide) (by decide) rfl (Nat.le_of_ble_eq_true rfl) ?_
  refine fx_bipush (nI 8) dX0_halfAt_7 (by decide) ?_
  refine fx_ishl dX0_halfAt_9 ?_
  refine fx_aloadn dX0_halfAt_10 rfl ?_
  refine fx_iconst (nI 2) dX0_halfAt_11 (by decide) ?_
  refine fx_iloadn dX0_halfAt_12 rfl ?_
  refine fx_imul dX0_halfAt_13 ?_
  refine fx_iconst (nI 1) dX0_halfAt_14 (by decide) ?_
  refine fx_iadd dX0_halfAt_15 ?_
  rw [pk_mul, nI_add]
  refine fx_callVp dX0_halfAt_16 vX0_byteAt kkX0_37 rfl rfl (by assumption) (p_dr_byteAt H _ (by omega)) rfl (by decide) (by decide) rfl (Nat.le_of_ble_eq_true rfl) ?_
  refine fx_ior dX0_halfAt_19 ?_
  refine fx_iret dX0_halfAt_20 rfl ?_
  refine ⟨?_, rfl⟩
  have q1 := H.by_lt (2 * k)
  have q2 := H.by_lt (2 * k + 1)
  rw [pk_shlN (nI 8 &&& 31) 8 (by decide) (by omega), nI_or (by omega) (by omega)]
  unfold hf
  congr 3
  omega
theorem p_dr_wordAt {g : fx_G} {h : fx_H} {a b n len : Nat} {B : Nat → Nat} (H : dr h a b n len B) (k : Nat) (hk : k < 2 ^ 27) : fx_P g mX0_wordAt 2 42 [.ref a, .int (nI k)] h (.int (nI (wd B len k))) := by
  refine fx_Met.of rfl (Nat.le_of_ble_eq_true rfl) ?_
  have h1 := H.1
  refine fx_aloadn dX0_wordAt_0 rfl ?_
  refine fx_iconst (nI 2) dX0_wordAt_1 (by decide) ?_
  refine fx_iloadn dX0_wordAt_2 rfl ?_
  refine fx_imul dX0_wordAt_3 ?_
  rw [pk_mul]
  refine fx_callVp dX0_wordAt_4 vX0_halfAt kkX0_41 rfl rfl (by assumption) (p_dr_halfAt H _ (by omega)) rfl (by decide) (by decide) rfl (Nat.le_of_ble_eq_true rfl) ?_
  refine fx_bipush (nI 16) dX0_wordAt_7 (by decide) ?_
  refine fx_ishl dX0_wordAt_9 ?_
  refine fx_aloadn dX0_wordAt_10 rfl ?_
  refine fx_iconst (nI 2) dX0_wordAt_11 (by decide) ?_
  refine fx_iloadn dX0_wordAt_12 rfl ?_
  refine fx_imul dX0_wordAt_13 ?_
  refine fx_iconst (nI 1) dX0_wordAt_14 (by decide) ?_
  refine fx_iadd dX0_wordAt_15 ?_
  rw [pk_mul, nI_add]
  refine fx_callVp dX0_wordAt_16 vX0_halfAt kkX0_41 rfl rfl (by assumption) (p_dr_halfAt H _ (by omega)) rfl (by decide) (by decide) rfl (Nat.le_of_ble_eq_true rfl) ?_
  refine fx_ior dX0_wordAt_19 ?_
  refine fx_iret dX0_wordAt_20 rfl ?_
  refine ⟨?_, rfl⟩
  have q1 := H.hf_lt (2 * k)
  have q2 := H.hf_lt (2 * k + 1)
  rw [pk_shlN (nI 16 &&& 31) 16 (by decide) (by omega), nI_or (by omega) (by omega)]
  unfold wd
  congr 3
  omega
theorem p_dr_size {g : fx_G} {h : fx_H} {a b n len : Nat} {B : Nat → Nat} (H : dr h a b n len B) : fx_P g mX0_size 0 0 [.ref a] h (.int (nI len)) := by
  refine fx_Met.of rfl (Nat.le_of_ble_eq_true rfl) ?_
  have h1 := H.1
  refine fx_aloadn dX0_size_0 rfl ?_
  refine fx_get dX0_size_1 ffX0_13 (by assumption) rfl ?_
  refine fx_iret dX0_size_4 rfl ?_
  exact ⟨rfl, rfl⟩
