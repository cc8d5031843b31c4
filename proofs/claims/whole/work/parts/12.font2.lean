/-! FontDesk$Font: the rest of its reads -/
def ml_pl (b : Nat → Nat) (x : Int32) (q : Nat) : Nat := if q = 0 then ml_iI b x / 16777216 else if q = 1 then ml_iI b x / 1048576 % 16 else if q = 2 then ml_iI b x / 65536 % 16 else ml_iI b x / 1024 % 64
def ml_sc (z x : Int32) : Int32 := ((x.toInt64 * z.toInt64) >>> ((nI 20).toInt64 &&& 63)).toInt32
def ml_ms (b : Nat → Nat) (z x : Int32) (q : Nat) : Int32 := if q = 4 then nI (ml_tag b x) else if q = 5 then (if ml_tag b x = 0 then nI 0 else nI (ml_rest b x)) else ml_sc z (nI (ml_e b (2 + q) (ml_pl b x q)))
/-- where the program of x begins: the step ahead of a jump, and behind it -/
def ml_pb (b : Nat → Nat) (x : Nat) : Int32 := if x = 256 then (if ml_s b (nI (ml_rl b 6) - nI 1) = 255 then nI (ml_rl b 6) - nI 1 else (-1)) else if ml_tag b (nI x) = 1 then nI (ml_rest b (nI x)) else (-1)
def ml_ju (b : Nat → Nat) (i : Int32) : Int32 := if 128 < ml_s b i then (if 128 < ml_s b (nI (256 * ml_o b i + ml_r b i)) then (-1) else nI (256 * ml_o b i + ml_r b i)) else i
def ml_ps (b : Nat → Nat) (x : Nat) : Int32 := ml_ju b (ml_pb b x)
def ml_nx (b : Nat → Nat) (i : Int32) : Int32 := if 128 ≤ ml_s b i then (-1) else i + nI (ml_s b i) + nI 1
def ml_seek (b : Nat → Nat) (y : Int32) : Nat → Int32 → Int32
  | 0, _ => -1
  | n + 1, i => if i = -1 then -1 else if ¬ 128 < ml_s b i ∧ nI (ml_n b i) = y then i else ml_seek b y n (ml_nx b i)
def ml_bd (b : Nat → Nat) : Int32 := if ml_s b (nI 0) = 255 then nI (ml_n b (nI 0)) else (-1)
def ml_cc (b : Nat → Nat) : Nat → Nat
  | 0 => 0
  | c + 1 => ml_cc b c + if ml_i b c = 0 then 0 else 1
theorem ml_cc_le (b : Nat → Nat) (c : Nat) : ml_cc b c ≤ c := by
  induction c with
  | zero => exact Nat.le_refl _
  | succ c ih =>
    unfold ml_cc
    split <;> omega
theorem ml_pl_lt {b : Nat → Nat} (hb : ∀ i, b i < 256) (x : Int32) (q : Nat) : ml_pl b x q < 256 := by
  have := ml_iI_lt hb x
  unfold ml_pl
  split
  · omega
  · split
    · omega
    · split <;> omega

theorem p_fo_placeOf {g : fx_G} {S : Nat → Prop} {h : fx_H} {a nw : Nat} {b : Nat → Nat} {z : Int32} (H : fo S h a b nw z) (V : ml_v b nw) (x : Int32) (q : Nat) (hq : q < 4) : fx_P g mX3_placeOf 1 21 [.ref a, .int x, .int (nI q)] h (.int (nI (ml_pl b x q))) := by
  obtain ⟨fs, h1⟩ := H.at
  refine fx_Met.of rfl (Nat.le_of_ble_eq_true rfl) ?_
  rcases (show q = 0 ∨ q = 1 ∨ q = 2 ∨ q = 3 by omega) with rfl | rfl | rfl | rfl
  · skip
    refine fx_aloadn dX3_placeOf_0 rfl ?_
    refine fx_iloadn dX3_placeOf_1 rfl ?_
    refine fx_callVp dX3_placeOf_2 vX3_infoOf kkX3_46 rfl rfl (by assumption) (p_fo_infoOf H V _) rfl (by decide) (by decide) rfl (Nat.le_of_ble_eq_true rfl) ?_
    refine fx_istoren dX3_placeOf_5 (by decide) ?_
    refine fx_iloadn dX3_placeOf_6 rfl ?_
    refine fx_tswIn 25 32 dX3_placeOf_7 (by decide) (by decide) rfl (by decide) ?_
    refine fx_iloadn dX3_placeOf_32 rfl ?_
    refine fx_bipush (nI 24) dX3_placeOf_33 (by decide) ?_
    refine fx_iushr dX3_placeOf_35 ?_
    refine fx_iret dX3_placeOf_36 rfl ?_
    refine ⟨?_, rfl⟩
    rw [pk_ushrN (ml_iI_lt V.1 x) (nI 24) 24 (by decide)]
    rfl
  · skip
    refine fx_aloadn dX3_placeOf_0 rfl ?_
    refine fx_iloadn dX3_placeOf_1 rfl ?_
    refine fx_callVp dX3_placeOf_2 vX3_infoOf kkX3_46 rfl rfl (by assumption) (p_fo_infoOf H V _) rfl (by decide) (by decide) rfl (Nat.le_of_ble_eq_true rfl) ?_
    refine fx_istoren dX3_placeOf_5 (by decide) ?_
    refine fx_iloadn dX3_placeOf_6 rfl ?_
    refine fx_tswIn 30 37 dX3_placeOf_7 (by decide) (by decide) rfl (by decide) ?_
    refine fx_iloadn dX3_placeOf_37 rfl ?_
    refine fx_bipush (nI 20) dX3_placeOf_38 (by decide) ?_
    refine fx_iushr dX3_placeOf_40 ?_
    refine fx_bipush (nI 15) dX3_placeOf_41 (by decide) ?_
    refine fx_iand dX3_placeOf_43 ?_
    refine fx_iret dX3_placeOf_44 rfl ?_
    refine ⟨?_, rfl⟩
    have q9 := ml_iI_lt V.1 x
    rw [pk_ushrN (ml_iI_lt V.1 x) (nI 20) 20 (by decide), pk_andN (m := nI 15) (by omega) 4 (by decide)]
    rfl
  · skip
    refine fx_aloadn dX3_placeOf_0 rfl ?_
    refine fx_iloadn dX3_placeOf_1 rfl ?_
    refine fx_callVp dX3_placeOf_2 vX3_infoOf kkX3_46 rfl rfl (by assumption) (p_fo_infoOf H V _) rfl (by decide) (by decide) rfl (Nat.le_of_ble_eq_true rfl) ?_
    refine fx_istoren dX3_placeOf_5 (by decide) ?_
    refine fx_iloadn dX3_placeOf_6 rfl ?_
    refine fx_tswIn 38 45 dX3_placeOf_7 (by decide) (by decide) rfl (by decide) ?_
    refine fx_iloadn dX3_placeOf_45 rfl ?_
    refine fx_bipush (nI 16) dX3_placeOf_46 (by decide) ?_
    refine fx_iushr dX3_placeOf_48 ?_
    refine fx_bipush (nI 15) dX3_placeOf_49 (by decide) ?_
    refine fx_iand dX3_placeOf_51 ?_
    refine fx_iret dX3_placeOf_52 rfl ?_
    refine ⟨?_, rfl⟩
    have q9 := ml_iI_lt V.1 x
    rw [pk_ushrN (ml_iI_lt V.1 x) (nI 16) 16 (by decide), pk_andN (m := nI 15) (by omega) 4 (by decide)]
    rfl
  · skip
    refine fx_aloadn dX3_placeOf_0 rfl ?_
    refine fx_iloadn dX3_placeOf_1 rfl ?_
    refine fx_callVp dX3_placeOf_2 vX3_infoOf kkX3_46 rfl rfl (by assumption) (p_fo_infoOf H V _) rfl (by decide) (by decide) rfl (Nat.le_of_ble_eq_true rfl) ?_
    refine fx_istoren dX3_placeOf_5 (by decide) ?_
    refine fx_iloadn dX3_placeOf_6 rfl ?_
    refine fx_tswOut 53 dX3_placeOf_7 (by decide) (by decide) ?_
    refine fx_iloadn dX3_placeOf_53 rfl ?_
    refine fx_bipush (nI 10) dX3_placeOf_54 (by decide) ?_
    refine fx_iushr dX3_placeOf_56 ?_
    refine fx_bipush (nI 63) dX3_placeOf_57 (by decide) ?_
    refine fx_iand dX3_placeOf_59 ?_
    refine fx_iret dX3_placeOf_60 rfl ?_
    refine ⟨?_, rfl⟩
    have q9 := ml_iI_lt V.1 x
    rw [pk_ushrN (ml_iI_lt V.1 x) (nI 10) 10 (by decide), pk_andN (m := nI 63) (by omega) 6 (by decide)]
    rfl

theorem p_fo_scaled {g : fx_G} {S : Nat → Prop} {h : fx_H} {a nw : Nat} {b : Nat → Nat} {z : Int32} (H : fo S h a b nw z) (V : ml_v b nw) (x : Int32) : fx_P g mX3_scaled 0 0 [.ref a, .int x] h (.int (ml_sc z x)) := by
  obtain ⟨pw, ps, pl, pi, fw, fs, fl, fi, h1, h2, h3, h4, h5, h6, h7, h8, -⟩ := id H
  refine fx_Met.of rfl (Nat.le_of_ble_eq_true rfl) ?_
  refine fx_iloadn dX3_scaled_0 rfl ?_
  refine fx_i2l dX3_scaled_1 ?_
  refine fx_aloadn dX3_scaled_2 rfl ?_
  refine fx_get dX3_scaled_3 ffX3_21 (by assumption) rfl ?_
  refine fx_i2l dX3_scaled_6 ?_
  refine fx_lmul dX3_scaled_7 ?_
  refine fx_bipush (nI 20) dX3_scaled_8 (by decide) ?_
  refine fx_lshr dX3_scaled_10 ?_
  refine fx_l2i dX3_scaled_11 ?_
  refine fx_iret dX3_scaled_12 rfl ?_
  exact ⟨rfl, rfl⟩
theorem p_fo_measure {g : fx_G} {S : Nat → Prop} {h : fx_H} {a nw : Nat} {b : Nat → Nat} {z : Int32} (H : fo S h a b nw z) (V : ml_v b nw) (x : Int32) (q : Nat) (hq : q < 6) : fx_P g mX3_measure 2 44 [.ref a, .int x, .int (nI q)] h (.int (ml_ms b z x q)) := by
  obtain ⟨fs, h1⟩ := H.at
  refine fx_Met.of rfl (Nat.le_of_ble_eq_true rfl) ?_
  rcases (show q = 4 ∨ q = 5 ∨ q < 4 by omega) with rfl | rfl | hq
  · skip
    refine fx_iloadn dX3_measure_0 rfl ?_
    refine fx_iconst (nI 4) dX3_measure_1 (by decide) ?_
    refine fx_icmp_ne 11 dX3_measure_2 (by decide) (fun c2 => absurd (rfl) c2) (fun c2 => ?_)
    refine fx_aloadn dX3_measure_5 rfl ?_
    refine fx_iloadn dX3_measure_6 rfl ?_
    refine fx_callVp dX3_measure_7 vX3_tagOf kkX3_49 rfl rfl (by assumption) (p_fo_tagOf H V _) rfl (by decide) (by decide) rfl (Nat.le_of_ble_eq_true rfl) ?_
    refine fx_iret dX3_measure_10 rfl ?_
    exact ⟨rfl, rfl⟩
  · skip
    refine fx_iloadn dX3_measure_0 rfl ?_
    refine fx_iconst (nI 4) dX3_measure_1 (by decide) ?_
    refine fx_icmp_ne 11 dX3_measure_2 (by decide) (fun c2 => ?_) (fun c2 => absurd c2 (by decide))
    refine fx_iloadn dX3_measure_11 rfl ?_
    refine fx_iconst (nI 5) dX3_measure_12 (by decide) ?_
    refine fx_icmp_ne 34 dX3_measure_13 (by decide) (fun c13 => absurd (rfl) c13) (fun c13 => ?_)
    refine fx_aloadn dX3_measure_16 rfl ?_
    refine fx_iloadn dX3_measure_17 rfl ?_
    refine fx_callVp dX3_measure_18 vX3_tagOf kkX3_49 rfl rfl (by assumption) (p_fo_tagOf H V _) rfl (by decide) (by decide) rfl (Nat.le_of_ble_eq_true rfl) ?_
    refine fx_if_ne 28 dX3_measure_21 (by decide) (fun c21 => ?_) (fun c21 => ?_)
    · skip
      refine fx_aloadn dX3_measure_28 rfl ?_
      refine fx_iloadn dX3_measure_29 rfl ?_
      refine fx_callVp dX3_measure_30 vX3_restOf kkX3_52 rfl rfl (by assumption) (p_fo_restOf H V _) rfl (by decide) (by decide) rfl (Nat.le_of_ble_eq_true rfl) ?_
      refine fx_iret dX3_measure_33 rfl ?_
      refine ⟨?_, rfl⟩
      unfold ml_ms
      rw [if_neg (by decide), if_pos rfl, if_neg (fun e => c21 (by rw [e]; rfl))]
    · skip
      refine fx_iconst (nI 0) dX3_measure_24 (by decide) ?_
      refine fx_goto 33 dX3_measure_25 (by decide) ?_
      refine fx_iret dX3_measure_33 rfl ?_
      refine ⟨?_, rfl⟩
      unfold ml_ms
      rw [if_neg (by decide), if_pos rfl, if_pos ((nI_eq0 (by have := ml_tag_lt (b := b) x; omega)).mp c21)]
  · skip
    refine fx_iloadn dX3_measure_0 rfl ?_
    refine fx_iconst (nI 4) dX3_measure_1 (by decide) ?_
    refine fx_icmp_ne 11 dX3_measure_2 (by decide) (fun c2 => ?_) (fun c2 => absurd c2 (fun e => absurd ((nI_eq (by omega) (by decide)).mp e) (by omega)))
    refine fx_iloadn dX3_measure_11 rfl ?_
    refine fx_iconst (nI 5) dX3_measure_12 (by decide) ?_
    refine fx_icmp_ne 34 dX3_measure_13 (by decide) (fun c13 => ?_) (fun c13 => absurd c13 (fun e => absurd ((nI_eq (by omega) (by decide)).mp e) (by omega)))
    refine fx_aloadn dX3_measure_34 rfl ?_
    refine fx_aloadn dX3_measure_35 rfl ?_
    refine fx_iconst (nI 2) dX3_measure_36 (by decide) ?_
    refine fx_iloadn dX3_measure_37 rfl ?_
    refine fx_iadd dX3_measure_38 ?_
    rw [nI_add]
    refine fx_aloadn dX3_measure_39 rfl ?_
    refine fx_iloadn dX3_measure_40 rfl ?_
    refine fx_iloadn dX3_measure_41 rfl ?_
    refine fx_callVp dX3_measure_42 vX3_placeOf kkX3_55 rfl rfl (by assumption) (p_fo_placeOf H V _ q (by omega)) rfl (by decide) (by decide) rfl (Nat.le_of_ble_eq_true rfl) ?_
    refine fx_callVp dX3_measure_45 vX3_wordAt kkX3_40 rfl rfl (by assumption) (p_fo_wordAt H V (2 + q) (by omega) _) rfl (by decide) (by decide) rfl (Nat.le_of_ble_eq_true rfl) ?_
    refine fx_callVp dX3_measure_48 vX3_scaled kkX3_58 rfl rfl (by assumption) (p_fo_scaled H V _) rfl (by decide) (by decide) rfl (Nat.le_of_ble_eq_true rfl) ?_
    refine fx_iret dX3_measure_51 rfl ?_
    refine ⟨?_, rfl⟩
    unfold ml_ms
    have q9 := ml_pl_lt V.1 x q
    rw [if_neg (by omega), if_neg (by omega), ml_eI_n _ (by omega)]
theorem p_fo_scaledParameter {g : fx_G} {S : Nat → Prop} {h : fx_H} {a nw : Nat} {b : Nat → Nat} {z : Int32} (H : fo S h a b nw z) (V : ml_v b nw) (x : Int32) : fx_P g mX3_scaledParameter 1 23 [.ref a, .int x] h (.int (if x = nI 1 then nI (ml_eI b 9 (x - nI 1)) >>> (nI 4 &&& 31) else ml_sc z (nI (ml_eI b 9 (x - nI 1))))) := by
  obtain ⟨fs, h1⟩ := H.at
  refine fx_Met.of rfl (Nat.le_of_ble_eq_true rfl) ?_
  refine fx_aloadn dX3_scaledParameter_0 rfl ?_
  refine fx_bipush (nI 9) dX3_scaledParameter_1 (by decide) ?_
  refine fx_iloadn dX3_scaledParameter_3 rfl ?_
  refine fx_iconst (nI 1) dX3_scaledParameter_4 (by decide) ?_
  refine fx_isub dX3_scaledParameter_5 ?_
  refine fx_callVp dX3_scaledParameter_6 vX3_wordAt kkX3_40 rfl rfl (by assumption) (p_fo_wordAt H V 9 (by decide) _) rfl (by decide) (by decide) rfl (Nat.le_of_ble_eq_true rfl) ?_
  refine fx_istoren dX3_scaledParameter_9 (by decide) ?_
  refine fx_iloadn dX3_scaledParameter_10 rfl ?_
  refine fx_iconst (nI 1) dX3_scaledParameter_11 (by decide) ?_
  refine fx_icmp_ne 21 dX3_scaledParameter_12 (by decide) (fun c12 => ?_) (fun c12 => ?_)
  · skip
    refine fx_aloadn dX3_scaledParameter_21 rfl ?_
    refine fx_iloadn dX3_scaledParameter_22 rfl ?_
    refine fx_callVp dX3_scaledParameter_23 vX3_scaled kkX3_58 rfl rfl (by assumption) (p_fo_scaled H V _) rfl (by decide) (by decide) rfl (Nat.le_of_ble_eq_true rfl) ?_
    refine fx_iret dX3_scaledParameter_26 rfl ?_
    exact ⟨by rw [if_neg c12], rfl⟩
  · skip
    refine fx_iloadn dX3_scaledParameter_15 rfl ?_
    refine fx_iconst (nI 4) dX3_scaledParameter_16 (by decide) ?_
    refine fx_ishr dX3_scaledParameter_17 ?_
    refine fx_goto 26 dX3_scaledParameter_18 (by decide) ?_
    refine fx_iret dX3_scaledParameter_26 rfl ?_
    exact ⟨by rw [if_pos c12], rfl⟩
theorem p_fo_scaledKern {g : fx_G} {S : Nat → Prop} {h : fx_H} {a nw : Nat} {b : Nat → Nat} {z : Int32} (H : fo S h a b nw z) (V : ml_v b nw) (x : Int32) (hx : 128 ≤ ml_o b x) : fx_P g mX3_scaledKern 3 65 [.ref a, .int x] h (.int (ml_sc z (nI (ml_e b 7 (256 * (ml_o b x - 128) + ml_r b x))))) := by
  obtain ⟨fs, h1⟩ := H.at
  refine fx_Met.of rfl (Nat.le_of_ble_eq_true rfl) ?_
  refine fx_aloadn dX3_scaledKern_0 rfl ?_
  refine fx_aloadn dX3_scaledKern_1 rfl ?_
  refine fx_bipush (nI 7) dX3_scaledKern_2 (by decide) ?_
  refine fx_aloadn dX3_scaledKern_4 rfl ?_
  refine fx_iloadn dX3_scaledKern_5 rfl ?_
  refine fx_callVp dX3_scaledKern_6 vX3_kernPlaceOf kkX3_70 rfl rfl (by assumption) (p_fo_kernPlaceOf H V _ hx) rfl (by decide) (by decide) rfl (Nat.le_of_ble_eq_true rfl) ?_
  refine fx_callVp dX3_scaledKern_9 vX3_wordAt kkX3_40 rfl rfl (by assumption) (p_fo_wordAt H V 7 (by decide) _) rfl (by decide) (by decide) rfl (Nat.le_of_ble_eq_true rfl) ?_
  refine fx_callVp dX3_scaledKern_12 vX3_scaled kkX3_58 rfl rfl (by assumption) (p_fo_scaled H V _) rfl (by decide) (by decide) rfl (Nat.le_of_ble_eq_true rfl) ?_
  refine fx_iret dX3_scaledKern_15 rfl ?_
  refine ⟨?_, rfl⟩
  have q1 := ml_o_lt (b := b) x
  have q2 := ml_r_lt (b := b) x
  rw [ml_eI_n 7 (by omega)]
theorem p_fo_boundary {g : fx_G} {S : Nat → Prop} {h : fx_H} {a nw : Nat} {b : Nat → Nat} {z : Int32} (H : fo S h a b nw z) (V : ml_v b nw) : fx_P g mX3_boundary 2 44 [.ref a] h (.int (ml_bd b)) := by
  obtain ⟨fs, h1⟩ := H.at
  refine fx_Met.of rfl (Nat.le_of_ble_eq_true rfl) ?_
  refine fx_aloadn dX3_boundary_0 rfl ?_
  refine fx_iconst (nI 0) dX3_boundary_1 (by decide) ?_
  refine fx_callVp dX3_boundary_2 vX3_skipOf kkX3_61 rfl rfl (by assumption) (p_fo_skipOf H V _) rfl (by decide) (by decide) rfl (Nat.le_of_ble_eq_true rfl) ?_
  refine fx_sipush (nI 255) dX3_boundary_5 (by decide) ?_
  refine fx_icmp_ne 19 dX3_boundary_8 (by decide) (fun c8 => ?_) (fun c8 => ?_)
  · skip
    refine fx_iconst (-1) dX3_boundary_19 (by decide) ?_
    refine fx_iret dX3_boundary_20 rfl ?_
    refine ⟨?_, rfl⟩
    unfold ml_bd
    rw [if_neg (fun e => c8 (by rw [e]))]
  · skip
    refine fx_aloadn dX3_boundary_11 rfl ?_
    refine fx_iconst (nI 0) dX3_boundary_12 (by decide) ?_
    refine fx_callVp dX3_boundary_13 vX3_signOf kkX3_73 rfl rfl (by assumption) (p_fo_signOf H V _) rfl (by decide) (by decide) rfl (Nat.le_of_ble_eq_true rfl) ?_
    refine fx_goto 20 dX3_boundary_16 (by decide) ?_
    refine fx_iret dX3_boundary_20 rfl ?_
    refine ⟨?_, rfl⟩
    unfold ml_bd
    rw [if_pos ((nI_eq (by have := ml_s_lt V.1 (nI 0); omega) (by decide)).mp c8)]
theorem p_fo_nextStep {g : fx_G} {S : Nat → Prop} {h : fx_H} {a nw : Nat} {b : Nat → Nat} {z : Int32} (H : fo S h a b nw z) (V : ml_v b nw) (x : Int32) : fx_P g mX3_nextStep 2 44 [.ref a, .int x] h (.int (ml_nx b x)) := by
  obtain ⟨fs, h1⟩ := H.at
  refine fx_Met.of rfl (Nat.le_of_ble_eq_true rfl) ?_
  refine fx_aloadn dX3_nextStep_0 rfl ?_
  refine fx_iloadn dX3_nextStep_1 rfl ?_
  refine fx_callVp dX3_nextStep_2 vX3_skipOf kkX3_61 rfl rfl (by assumption) (p_fo_skipOf H V _) rfl (by decide) (by decide) rfl (Nat.le_of_ble_eq_true rfl) ?_
  refine fx_istoren dX3_nextStep_5 (by decide) ?_
  refine fx_iloadn dX3_nextStep_6 rfl ?_
  refine fx_sipush (nI 128) dX3_nextStep_7 (by decide) ?_
  refine fx_icmp_lt 17 dX3_nextStep_10 (by decide) (fun c10 => ?_) (fun c10 => ?_)
  · skip
    refine fx_iloadn dX3_nextStep_17 rfl ?_
    refine fx_iloadn dX3_nextStep_18 rfl ?_
    refine fx_iadd dX3_nextStep_19 ?_
    refine fx_iconst (nI 1) dX3_nextStep_20 (by decide) ?_
    refine fx_iadd dX3_nextStep_21 ?_
    refine fx_iret dX3_nextStep_22 rfl ?_
    refine ⟨?_, rfl⟩
    unfold ml_nx
    rw [if_neg (fun e => nI_nlt e (by have := ml_s_lt V.1 x; omega) c10)]
  · skip
    refine fx_iconst (-1) dX3_nextStep_13 (by decide) ?_
    refine fx_goto 22 dX3_nextStep_14 (by decide) ?_
    refine fx_iret dX3_nextStep_22 rfl ?_
    refine ⟨?_, rfl⟩
    unfold ml_nx
    rw [if_pos (Nat.le_of_not_lt (fun e => c10 (nI_lt e (by decide))))]
theorem p_fo_ps2 {g : fx_G} {S : Nat → Prop} {h : fx_H} {a nw : Nat} {b : Nat → Nat} {z : Int32} (H : fo S h a b nw z) (V : ml_v b nw) (x i : Int32) (lv : List (Nat × Value)) (hl : fx_le [(0, .ref a), (2, .int i)] lv) : fx_Y g mX3_programStart 3 65 (fun r h' => r = some (.int (ml_ju b i)) ∧ h' = h) (fun _ _ => False) 53 lv [] h 0 0 := by
  obtain ⟨fs, h1⟩ := H.at
  refine fx_sub _ hl ?_
  refine fx_aloadn dX3_programStart_53 rfl ?_
  refine fx_iloadn dX3_programStart_54 rfl ?_
  refine fx_callVp dX3_programStart_55 vX3_isJump kkX3_79 rfl rfl (by assumption) (p_fo_isJump H V _) rfl (by decide) (by decide) rfl (Nat.le_of_ble_eq_true rfl) ?_
  refine fx_if_ne 63 dX3_programStart_58 (by decide) (fun c58 => ?_) (fun c58 => ?_)
  · skip
    refine fx_aloadn dX3_programStart_63 rfl ?_
    refine fx_iloadn dX3_programStart_64 rfl ?_
    refine fx_callVp dX3_programStart_65 vX3_targetOf kkX3_83 rfl rfl (by assumption) (p_fo_targetOf H V _) rfl (by decide) (by decide) rfl (Nat.le_of_ble_eq_true rfl) ?_
    refine fx_istoren dX3_programStart_68 (by decide) ?_
    refine fx_aloadn dX3_programStart_69 rfl ?_
    refine fx_iloadn dX3_programStart_70 rfl ?_
    refine fx_callVp dX3_programStart_71 vX3_isJump kkX3_79 rfl rfl (by assumption) (p_fo_isJump H V _) rfl (by decide) (by decide) rfl (Nat.le_of_ble_eq_true rfl) ?_
    refine fx_if_eq 81 dX3_programStart_74 (by decide) (fun c74 => ?_) (fun c74 => ?_)
    · skip
      refine fx_iloadn dX3_programStart_81 rfl ?_
      refine fx_iret dX3_programStart_82 rfl ?_
      refine ⟨?_, rfl⟩
      unfold ml_ju
      rw [if_pos (bI_n0.mp c58), if_neg (bI_0.mp c74)]
    · skip
      refine fx_iconst (-1) dX3_programStart_77 (by decide) ?_
      refine fx_goto 82 dX3_programStart_78 (by decide) ?_
      refine fx_iret dX3_programStart_82 rfl ?_
      refine ⟨?_, rfl⟩
      unfold ml_ju
      rw [if_pos (bI_n0.mp c58), if_pos (bI_n0.mp c74)]
  · skip
    refine fx_iloadn dX3_programStart_61 rfl ?_
    refine fx_iret dX3_programStart_62 rfl ?_
    refine ⟨?_, rfl⟩
    unfold ml_ju
    rw [if_neg (bI_0.mp c58)]
theorem p_fo_programStart {g : fx_G} {S : Nat → Prop} {h : fx_H} {a nw : Nat} {b : Nat → Nat} {z : Int32} (H : fo S h a b nw z) (V : ml_v b nw) (x : Nat) (hx : x ≤ 256) : fx_P g mX3_programStart 3 65 [.ref a, .int (nI x)] h (.int (ml_ps b x)) := by
  obtain ⟨fs, h1⟩ := H.at
  refine fx_Met.of rfl (Nat.le_of_ble_eq_true rfl) ?_
  refine fx_iconst (-1) dX3_programStart_0 (by decide) ?_
  refine fx_istoren dX3_programStart_1 (by decide) ?_
  refine fx_iloadn dX3_programStart_2 rfl ?_
  refine fx_sipush (nI 256) dX3_programStart_3 (by decide) ?_
  refine fx_icmp_ne 38 dX3_programStart_6 (by decide) (fun c6 => ?_) (fun c6 => ?_)
  · skip
    refine fx_aloadn dX3_programStart_38 rfl ?_
    refine fx_iloadn dX3_programStart_39 rfl ?_
    refine fx_callVp dX3_programStart_40 vX3_tagOf kkX3_49 rfl rfl (by assumption) (p_fo_tagOf H V _) rfl (by decide) (by decide) rfl (Nat.le_of_ble_eq_true rfl) ?_
    refine fx_iconst (nI 1) dX3_programStart_43 (by decide) ?_
    refine fx_icmp_ne 53 dX3_programStart_44 (by decide) (fun c44 => ?_) (fun c44 => ?_)
    · skip
      have e1 : ml_pb b x = (-1) := by
        unfold ml_pb
        rw [if_neg (fun e => c6 (by rw [e])), if_neg (fun e => c44 (by rw [e]))]
      show fx_Y g mX3_programStart 3 65 (fun r h' => r = some (.int (ml_ju b (ml_pb b x))) ∧ h' = h) (fun _ _ => False) 53 _ [] h 0 0
      rw [e1]
      exact p_fo_ps2 H V (nI x) _ _ ⟨rfl, rfl, trivial⟩
    · skip
      refine fx_aloadn dX3_programStart_47 rfl ?_
      refine fx_iloadn dX3_programStart_48 rfl ?_
      refine fx_callVp dX3_programStart_49 vX3_restOf kkX3_52 rfl rfl (by assumption) (p_fo_restOf H V _) rfl (by decide) (by decide) rfl (Nat.le_of_ble_eq_true rfl) ?_
      refine fx_istoren dX3_programStart_52 (by decide) ?_
      have e1 : ml_pb b x = nI (ml_rest b (nI x)) := by
        unfold ml_pb
        rw [if_neg (fun e => c6 (by rw [e])), if_pos ((nI_eq (by have := ml_tag_lt (b := b) (nI x); omega) (by decide)).mp c44)]
      show fx_Y g mX3_programStart 3 65 (fun r h' => r = some (.int (ml_ju b (ml_pb b x))) ∧ h' = h) (fun _ _ => False) 53 _ [] h 0 0
      rw [e1]
      exact p_fo_ps2 H V (nI x) _ _ ⟨rfl, rfl, trivial⟩
  · skip
    refine fx_aloadn dX3_programStart_9 rfl ?_
    refine fx_bipush (nI 6) dX3_programStart_10 (by decide) ?_
    refine fx_callVp dX3_programStart_12 vX3_rowLength kkX3_76 rfl rfl (by assumption) (p_fo_rowLength H V 6 (by decide)) rfl (by decide) (by decide) rfl (Nat.le_of_ble_eq_true rfl) ?_
    refine fx_iconst (nI 1) dX3_programStart_15 (by decide) ?_
    refine fx_isub dX3_programStart_16 ?_
    refine fx_istoren dX3_programStart_17 (by decide) ?_
    refine fx_aloadn dX3_programStart_18 rfl ?_
    refine fx_iloadn dX3_programStart_19 rfl ?_
    refine fx_callVp dX3_programStart_20 vX3_skipOf kkX3_61 rfl rfl (by assumption) (p_fo_skipOf H V _) rfl (by decide) (by decide) rfl (Nat.le_of_ble_eq_true rfl) ?_
    refine fx_sipush (nI 255) dX3_programStart_23 (by decide) ?_
    refine fx_icmp_ne 33 dX3_programStart_26 (by decide) (fun c26 => ?_) (fun c26 => ?_)
    · skip
      refine fx_iconst (-1) dX3_programStart_33 (by decide) ?_
      refine fx_istoren dX3_programStart_34 (by decide) ?_
      refine fx_goto 53 dX3_programStart_35 (by decide) ?_
      have e1 : ml_pb b x = (-1) := by
        unfold ml_pb
        rw [if_pos ((nI_eq (by omega) (by decide)).mp c6), if_neg (fun e => c26 (by rw [e]))]
      show fx_Y g mX3_programStart 3 65 (fun r h' => r = some (.int (ml_ju b (ml_pb b x))) ∧ h' = h) (fun _ _ => False) 53 _ [] h 0 0
      rw [e1]
      exact p_fo_ps2 H V (nI x) _ _ ⟨rfl, rfl, trivial⟩
    · skip
      refine fx_iloadn dX3_programStart_29 rfl ?_
      refine fx_goto 34 dX3_programStart_30 (by decide) ?_
      refine fx_istoren dX3_programStart_34 (by decide) ?_
      refine fx_goto 53 dX3_programStart_35 (by decide) ?_
      have e1 : ml_pb b x = nI (ml_rl b 6) - nI 1 := by
        unfold ml_pb
        rw [if_pos ((nI_eq (by omega) (by decide)).mp c6), if_pos ((nI_eq (by have := ml_s_lt V.1 (nI (ml_rl b 6) - nI 1); omega) (by decide)).mp c26)]
      show fx_Y g mX3_programStart 3 65 (fun r h' => r = some (.int (ml_ju b (ml_pb b x))) ∧ h' = h) (fun _ _ => False) 53 _ [] h 0 0
      rw [e1]
      exact p_fo_ps2 H V (nI x) _ _ ⟨rfl, rfl, trivial⟩
theorem l_fo_stepFor {g : fx_G} {S : Nat → Prop} {h : fx_H} {a nw : Nat} {b : Nat → Nat} {z : Int32} (H : fo S h a b nw z) (V : ml_v b nw) (x y v : Int32) : ∀ (n k : Nat) (i : Int32), k + n = ml_rl b 6 → ml_seek b y n i = v → fx_Y g mX3_stepFor 4 88 (fun r h' => r = some (.int v) ∧ h' = h) (fun _ _ => False) 9 [(0, .ref a), (1, .int x), (2, .int y), (3, .int i), (4, .int (nI k))] [] h 0 0 := by
  obtain ⟨fs, h1⟩ := H.at
  intro n
  induction n using Nat.strongRecOn with
  | ind n ih =>
  intro k i hk hv
  refine fx_iload dX3_stepFor_9 rfl ?_
  refine fx_aloadn dX3_stepFor_11 rfl ?_
  refine fx_bipush (nI 6) dX3_stepFor_12 (by decide) ?_
  refine fx_callVp dX3_stepFor_14 vX3_rowLength kkX3_76 rfl rfl (by assumption) (p_fo_rowLength H V 6 (by decide)) rfl (by decide) (by decide) rfl (Nat.le_of_ble_eq_true rfl) ?_
  refine fx_icmp_ge 56 dX3_stepFor_17 (by decide) (fun c17 => ?_) (fun c17 => ?_)
  · skip
    refine fx_iconst (-1) dX3_stepFor_56 (by decide) ?_
    refine fx_iret dX3_stepFor_57 rfl ?_
    refine ⟨?_, rfl⟩
    rw [← hv]
    have : n = 0 := by
      have q1 := V.rl (r := 6) (by decide)
      by_cases q : n = 0
      · exact q
      · exact absurd c17 (nI_ge (show k < ml_rl b 6 by omega) (by omega))
    subst this
    rfl
  · skip
    refine fx_iloadn dX3_stepFor_20 rfl ?_
    refine fx_iconst (-1) dX3_stepFor_21 (by decide) ?_
    refine fx_icmp_eq 56 dX3_stepFor_22 (by decide) (fun c22 => ?_) (fun c22 => ?_)
    · skip
      refine fx_iconst (-1) dX3_stepFor_56 (by decide) ?_
      refine fx_iret dX3_stepFor_57 rfl ?_
      refine ⟨?_, rfl⟩
      rw [← hv]
      cases n with
      | zero => rfl
      | succ n => exact congrArg (fun x => some (Value.int x)) (if_pos c22).symm
    · skip
      refine fx_aloadn dX3_stepFor_25 rfl ?_
      refine fx_iloadn dX3_stepFor_26 rfl ?_
      refine fx_callVp dX3_stepFor_27 vX3_isJump kkX3_79 rfl rfl (by assumption) (p_fo_isJump H V _) rfl (by decide) (by decide) rfl (Nat.le_of_ble_eq_true rfl) ?_
      refine fx_if_ne 44 dX3_stepFor_30 (by decide) (fun c30 => ?_) (fun c30 => ?_)
      · skip
        refine fx_aloadn dX3_stepFor_44 rfl ?_
        refine fx_iloadn dX3_stepFor_45 rfl ?_
        refine fx_callVp dX3_stepFor_46 vX3_nextStep kkX3_89 rfl rfl (by assumption) (p_fo_nextStep H V _) rfl (by decide) (by decide) rfl (Nat.le_of_ble_eq_true rfl) ?_
        refine fx_istoren dX3_stepFor_49 (by decide) ?_
        refine fx_iinc (nI 1) dX3_stepFor_50 rfl (by decide) (by decide) ?_
        refine fx_goto 9 dX3_stepFor_53 (by decide) ?_
        cases n with
        | zero => exact absurd (nI_le (by omega) (by have := V.rl (r := 6) (by decide); omega)) c17
        | succ n =>
          simp only [nI_add]
          refine fx_to (ih n (by omega) (k + 1) _ (by omega) ?_) ⟨rfl, rfl, rfl, rfl, rfl, trivial⟩
          rw [← hv]
          show _ = ml_seek b y (n + 1) i
          conv => rhs; unfold ml_seek
          rw [if_neg c22, if_neg (fun e => e.1 (bI_n0.mp c30))]
      · skip
        refine fx_aloadn dX3_stepFor_33 rfl ?_
        refine fx_iloadn dX3_stepFor_34 rfl ?_
        refine fx_callVp dX3_stepFor_35 vX3_signOf kkX3_73 rfl rfl (by assumption) (p_fo_signOf H V _) rfl (by decide) (by decide) rfl (Nat.le_of_ble_eq_true rfl) ?_
        refine fx_iloadn dX3_stepFor_38 rfl ?_
        refine fx_icmp_ne 44 dX3_stepFor_39 (by decide) (fun c39 => ?_) (fun c39 => ?_)
        · skip
          refine fx_aloadn dX3_stepFor_44 rfl ?_
          refine fx_iloadn dX3_stepFor_45 rfl ?_
          refine fx_callVp dX3_stepFor_46 vX3_nextStep kkX3_89 rfl rfl (by assumption) (p_fo_nextStep H V _) rfl (by decide) (by decide) rfl (Nat.le_of_ble_eq_true rfl) ?_
          refine fx_istoren dX3_stepFor_49 (by decide) ?_
          refine fx_iinc (nI 1) dX3_stepFor_50 rfl (by decide) (by decide) ?_
          refine fx_goto 9 dX3_stepFor_53 (by decide) ?_
          cases n with
          | zero => exact absurd (nI_le (by omega) (by have := V.rl (r := 6) (by decide); omega)) c17
          | succ n =>
            simp only [nI_add]
            refine fx_to (ih n (by omega) (k + 1) _ (by omega) ?_) ⟨rfl, rfl, rfl, rfl, rfl, trivial⟩
            rw [← hv]
            show _ = ml_seek b y (n + 1) i
            conv => rhs; unfold ml_seek
            rw [if_neg c22, if_neg (fun e => c39 e.2)]
        · skip
          refine fx_iloadn dX3_stepFor_42 rfl ?_
          refine fx_iret dX3_stepFor_43 rfl ?_
          refine ⟨?_, rfl⟩
          rw [← hv]
          cases n with
          | zero => exact absurd (nI_le (by omega) (by have := V.rl (r := 6) (by decide); omega)) c17
          | succ n =>
            unfold ml_seek
            rw [if_neg c22, if_pos ⟨bI_0.mp c30, c39⟩]
theorem p_fo_stepFor {g : fx_G} {S : Nat → Prop} {h : fx_H} {a nw : Nat} {b : Nat → Nat} {z : Int32} (H : fo S h a b nw z) (V : ml_v b nw) (x : Nat) (hx : x ≤ 256) (y : Int32) : fx_P g mX3_stepFor 4 88 [.ref a, .int (nI x), .int y] h (.int (ml_seek b y (ml_rl b 6) (ml_ps b x))) := by
  obtain ⟨fs, h1⟩ := H.at
  refine fx_Met.of rfl (Nat.le_of_ble_eq_true rfl) ?_
  refine fx_aloadn dX3_stepFor_0 rfl ?_
  refine fx_iloadn dX3_stepFor_1 rfl ?_
  refine fx_callVp dX3_stepFor_2 vX3_programStart kkX3_86 rfl rfl (by assumption) (p_fo_programStart H V x hx) rfl (by decide) (by decide) rfl (Nat.le_of_ble_eq_true rfl) ?_
  refine fx_istoren dX3_stepFor_5 (by decide) ?_
  refine fx_iconst (nI 0) dX3_stepFor_6 (by decide) ?_
  refine fx_istore dX3_stepFor_7 (by decide) ?_
  exact fx_to (l_fo_stepFor H V (nI x) y _ (ml_rl b 6) 0 _ (by omega) rfl) ⟨rfl, rfl, rfl, rfl, rfl, trivial⟩
theorem l_fo_cc {g : fx_G} {S : Nat → Prop} {h : fx_H} {a nw : Nat} {b : Nat → Nat} {z : Int32} (H : fo S h a b nw z) (V : ml_v b nw) : ∀ (n c : Nat), c + n = 256 → fx_Y g mX3_characterCount 0 0 (fun r h' => r = some (.int (nI (ml_cc b 256))) ∧ h' = h) (fun _ _ => False) 4 [(0, .ref a), (1, .int (nI (ml_cc b c))), (2, .int (nI c))] [] h 0 0 := by
  obtain ⟨pw, ps, pl, pi, fw, fs, fl, fi, h1, h2, h3, h4, h5, h6, h7, h8, -⟩ := id H
  intro n
  induction n using Nat.strongRecOn with
  | ind n ih =>
  intro c hn
  refine fx_iloadn dX3_characterCount_4 rfl ?_
  refine fx_sipush (nI 256) dX3_characterCount_5 (by decide) ?_
  refine fx_icmp_ge 29 dX3_characterCount_8 (by decide) (fun c8 => ?_) (fun c8 => ?_)
  · skip
    refine fx_iloadn dX3_characterCount_29 rfl ?_
    refine fx_iret dX3_characterCount_30 rfl ?_
    refine ⟨?_, rfl⟩
    have : n = 0 := by
      by_cases q : n = 0
      · exact q
      · exact absurd c8 (nI_ge (show c < 256 by omega) (by decide))
    rw [show c = 256 by omega]
  · skip
    refine fx_aloadn dX3_characterCount_11 rfl ?_
    refine fx_get dX3_characterCount_12 ffX3_18 (by assumption) rfl ?_
    refine fx_iloadn dX3_characterCount_15 rfl ?_
    have hc : c < 256 := Nat.lt_of_not_le (fun q => c8 (nI_le q (by omega)))
    refine fx_iald dX3_characterCount_16 (by assumption) (vp_in_nI hc (by decide)) ?_
    rw [nI_clamp (by omega), h8 c hc]
    refine fx_if_eq 23 dX3_characterCount_17 (by decide) (fun c17 => ?_) (fun c17 => ?_)
    · skip
      refine fx_iinc (nI 1) dX3_characterCount_23 rfl (by decide) (by decide) ?_
      refine fx_goto 4 dX3_characterCount_26 (by decide) ?_
      simp only [nI_add]
      refine fx_sub [(0, .ref a), (1, .int (nI (ml_cc b (c + 1)))), (2, .int (nI (c + 1)))] ⟨rfl, by show _ = some (Value.int (nI (ml_cc b c + if ml_i b c = 0 then 0 else 1))); rw [if_pos ((nI_eq0 (ml_i_lt V.1 c)).mp c17)]; rfl, rfl, trivial⟩ (ih (n - 1) (by omega) (c + 1) (by omega))
    · skip
      refine fx_iinc (nI 1) dX3_characterCount_20 rfl (by decide) (by decide) ?_
      refine fx_iinc (nI 1) dX3_characterCount_23 rfl (by decide) (by decide) ?_
      refine fx_goto 4 dX3_characterCount_26 (by decide) ?_
      simp only [nI_add]
      refine fx_sub [(0, .ref a), (1, .int (nI (ml_cc b (c + 1)))), (2, .int (nI (c + 1)))] ⟨rfl, by show some (Value.int (nI (ml_cc b c + 1))) = some (Value.int (nI (ml_cc b c + if ml_i b c = 0 then 0 else 1))); rw [if_neg (fun e => c17 (by rw [e]; rfl))], rfl, trivial⟩ (ih (n - 1) (by omega) (c + 1) (by omega))
theorem p_fo_characterCount {g : fx_G} {S : Nat → Prop} {h : fx_H} {a nw : Nat} {b : Nat → Nat} {z : Int32} (H : fo S h a b nw z) (V : ml_v b nw) : fx_P g mX3_characterCount 0 0 [.ref a] h (.int (nI (ml_cc b 256))) := by
  obtain ⟨fs, h1⟩ := H.at
  refine fx_Met.of rfl (Nat.le_of_ble_eq_true rfl) ?_
  refine fx_iconst (nI 0) dX3_characterCount_0 (by decide) ?_
  refine fx_istoren dX3_characterCount_1 (by decide) ?_
  refine fx_iconst (nI 0) dX3_characterCount_2 (by decide) ?_
  refine fx_istoren dX3_characterCount_3 (by decide) ?_
  exact fx_to (l_fo_cc H V 256 0 rfl) ⟨rfl, rfl, rfl, trivial⟩
def ml_ty (b : Nat → Nat) (nw : Nat) (z : Int32) (q : Nat) : Int32 := if q = 2 then nI nw else if q = 3 then nI (ml_cc b 256) else if q = 4 then z else ml_bd b
theorem p_fo_tally {g : fx_G} {S : Nat → Prop} {h : fx_H} {a nw : Nat} {b : Nat → Nat} {z : Int32} (H : fo S h a b nw z) (V : ml_v b nw) (q : Nat) (h2q : 2 ≤ q) (hq : q ≤ 5) : fx_P g mX3_tally 3 64 [.ref a, .int (nI q)] h (.int (ml_ty b nw z q)) := by
  obtain ⟨pw, ps, pl, pi, fw, fs, fl, fi, h1, h2, h3, h4, h5, h6, h7, h8, -⟩ := id H
  refine fx_Met.of rfl (Nat.le_of_ble_eq_true rfl) ?_
  rcases (show q = 2 ∨ q = 3 ∨ q = 4 ∨ q = 5 by omega) with rfl | rfl | rfl | rfl
  · skip
    refine fx_iloadn dX3_tally_0 rfl ?_
    refine fx_tswIn 27 28 dX3_tally_1 (by decide) (by decide) rfl (by decide) ?_
    refine fx_aloadn dX3_tally_28 rfl ?_
    refine fx_get dX3_tally_29 ffX3_30 (by assumption) rfl ?_
    refine fx_alenI dX3_tally_32 (by assumption) (by decide) ?_
    refine fx_iret dX3_tally_33 rfl ?_
    exact ⟨rfl, rfl⟩
  · skip
    refine fx_iloadn dX3_tally_0 rfl ?_
    refine fx_tswIn 33 34 dX3_tally_1 (by decide) (by decide) rfl (by decide) ?_
    refine fx_aloadn dX3_tally_34 rfl ?_
    refine fx_callVp dX3_tally_35 vX3_characterCount kkX3_92 rfl rfl (by assumption) (p_fo_characterCount H V) rfl (by decide) (by decide) rfl (Nat.le_of_ble_eq_true rfl) ?_
    refine fx_iret dX3_tally_38 rfl ?_
    exact ⟨rfl, rfl⟩
  · skip
    refine fx_iloadn dX3_tally_0 rfl ?_
    refine fx_tswIn 38 39 dX3_tally_1 (by decide) (by decide) rfl (by decide) ?_
    refine fx_aloadn dX3_tally_39 rfl ?_
    refine fx_get dX3_tally_40 ffX3_21 (by assumption) rfl ?_
    refine fx_iret dX3_tally_43 rfl ?_
    exact ⟨rfl, rfl⟩
  · skip
    refine fx_iloadn dX3_tally_0 rfl ?_
    refine fx_tswOut 44 dX3_tally_1 (by decide) (by decide) ?_
    refine fx_aloadn dX3_tally_44 rfl ?_
    refine fx_callVp dX3_tally_45 vX3_boundary kkX3_95 rfl rfl (by assumption) (p_fo_boundary H V) rfl (by decide) (by decide) rfl (Nat.le_of_ble_eq_true rfl) ?_
    refine fx_iret dX3_tally_48 rfl ?_
    exact ⟨rfl, rfl⟩

