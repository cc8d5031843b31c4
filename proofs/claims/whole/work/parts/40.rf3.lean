/-! FontDeskModel: metric, parameter, count -/
theorem p_rs_scaled {g : fx_G} {h : fx_H} {m pb pf pz pt pp ph pk pc N len E : Nat} {F : Nat → (Nat → Nat) × Nat × Int32} {B : Nat → Nat} {I : List sg} {T : Int64} {th : Int32} {k : Nat} (H : rsb h m pb pf pz pt pp ph pk pc F N B len E I T th k) (hk : k < N) (r i : Nat) (hr : r < 10) (hi : i < ml_rl (F k).1 r) : fx_P g mX6_scaled 4 85 [.ref m, .int (nI k), .int (nI r), .int (nI i)] h (.int (ml_sc (F k).2.2 (nI (ml_e (F k).1 r i)))) := by
  have D := H.D hk
  obtain ⟨fb, ff, fz, ft, fp, fh, fk, fc, E0, hv, hI, hN, hro, hI9, hfk⟩ := id H
  obtain ⟨e0, ⟨e1, e2, e3, e4, e5, e6, e7, e8⟩, -⟩ := id E0
  have V := (hfk k hk).1
  have hs9 := V.six
  have hnw := V.nw
  have hrow := V.row hr
  have he : ml_e (F k).1 r i = ml_W (F k).1 (ml_st (F k).1 r + i) := if_pos hi
  rw [he]
  refine fx_Met.of rfl (Nat.le_of_ble_eq_true rfl) ?_
  refine fx_aloadn dX6_scaled_0 rfl ?_
  refine fx_aloadn dX6_scaled_1 rfl ?_
  refine fx_iloadn dX6_scaled_2 rfl ?_
  refine fx_callVp dX6_scaled_3 vX6_start kkX6_64 rfl rfl (by assumption) (p_rf_start D V.w (by omega) r (by omega)) rfl (by decide) (by decide) rfl (Nat.le_of_ble_eq_true rfl) ?_
  refine fx_iloadn dX6_scaled_6 rfl ?_
  refine fx_iadd dX6_scaled_7 ?_
  rw [nI_add]
  refine fx_callVp dX6_scaled_8 vX6_word kkX6_83 rfl rfl e0 (p_rf_word D V.1 _ (by omega)) rfl (by decide) (by decide) rfl (Nat.le_of_ble_eq_true rfl) ?_
  refine fx_i2l dX6_scaled_11 ?_
  refine fx_aloadn dX6_scaled_12 rfl ?_
  refine fx_get dX6_scaled_13 ffX6_17 (by assumption) rfl ?_
  refine fx_iloadn dX6_scaled_16 rfl ?_
  refine fx_iald dX6_scaled_17 e3 (vp_in_nI (show k < 32 by omega) (by decide)) ?_
  rw [nI_clamp (by omega), (hv.2.1 k hk).1]
  refine fx_i2l dX6_scaled_18 ?_
  refine fx_lmul dX6_scaled_19 ?_
  refine fx_bipush (nI 20) dX6_scaled_20 (by decide) ?_
  refine fx_lshr dX6_scaled_22 ?_
  refine fx_l2i dX6_scaled_23 ?_
  refine fx_iret dX6_scaled_24 rfl ?_
  exact ⟨rfl, rfl⟩
theorem pl_n {b : Nat → Nat} {c : Nat} (hc : c < 2 ^ 31) (q : Nat) : ml_pl b (nI c) q = if q = 0 then ml_i b c / 16777216 else if q = 1 then ml_i b c / 1048576 % 16 else if q = 2 then ml_i b c / 65536 % 16 else ml_i b c / 1024 % 64 := by
  unfold ml_pl
  rw [ml_iI_n hc]
theorem p_rs_metricOf {g : fx_G} {h : fx_H} {m pb pf pz pt pp ph pk pc N len E : Nat} {F : Nat → (Nat → Nat) × Nat × Int32} {B : Nat → Nat} {I : List sg} {T : Int64} {th : Int32} {k : Nat} (H : rsb h m pb pf pz pt pp ph pk pc F N B len E I T th k) (hk : k < N) (c q : Nat) (hc0 : ml_i (F k).1 c ≠ 0) (hq : q < 6) : fx_P g mX6_metricOf 6 130 [.ref m, .int (nI k), .int (nI c), .int (nI q)] h (.int (ml_ms (F k).1 (F k).2.2 (nI c) q)) := by
  have D := H.D hk
  obtain ⟨fb, ff, fz, ft, fp, fh, fk, fc, E0, hv, hI, hN, hro, hI9, hfk⟩ := id H
  obtain ⟨e0, ⟨e1, e2, e3, e4, e5, e6, e7, e8⟩, -⟩ := id E0
  have V := (hfk k hk).1
  have hs9 := V.six
  have hnw := V.nw
  have hl : 4 * (F k).2.1 ≤ 4 * (F k).2.1 := Nat.le_refl _
  have hc : c < 256 := Classical.byContradiction fun z => hc0 (V.i0 (by omega))
  have hp := ((hfk k hk).2.1 c hc hc0).1
  have hil := ml_i_lt V.1 c
  refine fx_Met.of rfl (Nat.le_of_ble_eq_true rfl) ?_
  have h9 : q = 0 ∨ q = 1 ∨ q = 2 ∨ q = 3 ∨ q = 4 ∨ q = 5 := by omega
  rcases h9 with rfl | rfl | rfl | rfl | rfl | rfl
  · skip
    refine fx_aloadn dX6_metricOf_0 rfl ?_
    refine fx_iloadn dX6_metricOf_1 rfl ?_
    refine fx_iconst (nI 1) dX6_metricOf_2 (by decide) ?_
    refine fx_callVp dX6_metricOf_3 vX6_info kkX6_71 rfl rfl (by assumption) (p_rf_info1 D V hl c hc0) rfl (by decide) (by decide) rfl (Nat.le_of_ble_eq_true rfl) ?_
    refine fx_istore dX6_metricOf_6 (by decide) ?_
    refine fx_aloadn dX6_metricOf_8 rfl ?_
    refine fx_iloadn dX6_metricOf_9 rfl ?_
    refine fx_iconst (nI 2) dX6_metricOf_10 (by decide) ?_
    refine fx_callVp dX6_metricOf_11 vX6_info kkX6_71 rfl rfl (by assumption) (p_rf_info2 D V hl c hc0) rfl (by decide) (by decide) rfl (Nat.le_of_ble_eq_true rfl) ?_
    refine fx_istore dX6_metricOf_14 (by decide) ?_
    refine fx_iloadn dX6_metricOf_16 rfl ?_
    refine fx_if_ne 35 dX6_metricOf_17 (by decide) (fun c17 => absurd (rfl) c17) (fun c17 => ?_)
    refine fx_aloadn dX6_metricOf_20 rfl ?_
    refine fx_iloadn dX6_metricOf_21 rfl ?_
    refine fx_iconst (nI 2) dX6_metricOf_22 (by decide) ?_
    refine fx_aloadn dX6_metricOf_23 rfl ?_
    refine fx_iloadn dX6_metricOf_24 rfl ?_
    refine fx_iconst (nI 0) dX6_metricOf_25 (by decide) ?_
    refine fx_callVp dX6_metricOf_26 vX6_info kkX6_71 rfl rfl (by assumption) (p_rf_info0 D V hl c hc0) rfl (by decide) (by decide) rfl (Nat.le_of_ble_eq_true rfl) ?_
    refine fx_callVp dX6_metricOf_29 vX6_scaled kkX6_136 rfl rfl e0 (p_rs_scaled H hk 2 _ (by decide) (by have := hp 0 (by decide); rw [pl_n (by omega)] at this; exact this)) rfl (by decide) (by decide) rfl (Nat.le_of_ble_eq_true rfl) ?_
    refine fx_goto 120 dX6_metricOf_32 (by decide) ?_
    refine fx_iret dX6_metricOf_120 rfl ?_
    exact ⟨by unfold ml_ms; rw [pl_n (by omega)]; rfl, rfl⟩
  · skip
    refine fx_aloadn dX6_metricOf_0 rfl ?_
    refine fx_iloadn dX6_metricOf_1 rfl ?_
    refine fx_iconst (nI 1) dX6_metricOf_2 (by decide) ?_
    refine fx_callVp dX6_metricOf_3 vX6_info kkX6_71 rfl rfl (by assumption) (p_rf_info1 D V hl c hc0) rfl (by decide) (by decide) rfl (Nat.le_of_ble_eq_true rfl) ?_
    refine fx_istore dX6_metricOf_6 (by decide) ?_
    refine fx_aloadn dX6_metricOf_8 rfl ?_
    refine fx_iloadn dX6_metricOf_9 rfl ?_
    refine fx_iconst (nI 2) dX6_metricOf_10 (by decide) ?_
    refine fx_callVp dX6_metricOf_11 vX6_info kkX6_71 rfl rfl (by assumption) (p_rf_info2 D V hl c hc0) rfl (by decide) (by decide) rfl (Nat.le_of_ble_eq_true rfl) ?_
    refine fx_istore dX6_metricOf_14 (by decide) ?_
    refine fx_iloadn dX6_metricOf_16 rfl ?_
    refine fx_if_ne 35 dX6_metricOf_17 (by decide) (fun c17 => ?_) (fun c17 => absurd c17 (by decide))
    refine fx_iloadn dX6_metricOf_35 rfl ?_
    refine fx_iconst (nI 1) dX6_metricOf_36 (by decide) ?_
    refine fx_icmp_ne 54 dX6_metricOf_37 (by decide) (fun c37 => absurd (rfl) c37) (fun c37 => ?_)
    refine fx_aloadn dX6_metricOf_40 rfl ?_
    refine fx_iloadn dX6_metricOf_41 rfl ?_
    refine fx_iconst (nI 3) dX6_metricOf_42 (by decide) ?_
    refine fx_iload dX6_metricOf_43 rfl ?_
    refine fx_bipush (nI 16) dX6_metricOf_45 (by decide) ?_
    refine fx_idiv dX6_metricOf_47 (by decide) ?_
    rw [pk_div (by omega) (by decide) (by decide), show ml_i (F k).1 c / 65536 % 256 / 16 = ml_i (F k).1 c / 1048576 % 16 by omega]
    refine fx_callVp dX6_metricOf_48 vX6_scaled kkX6_136 rfl rfl e0 (p_rs_scaled H hk 3 _ (by decide) (by have := hp 1 (by decide); rw [pl_n (by omega)] at this; simpa using this)) rfl (by decide) (by decide) rfl (Nat.le_of_ble_eq_true rfl) ?_
    refine fx_goto 120 dX6_metricOf_51 (by decide) ?_
    refine fx_iret dX6_metricOf_120 rfl ?_
    exact ⟨by unfold ml_ms; rw [pl_n (by omega)]; rfl, rfl⟩
  · skip
    refine fx_aloadn dX6_metricOf_0 rfl ?_
    refine fx_iloadn dX6_metricOf_1 rfl ?_
    refine fx_iconst (nI 1) dX6_metricOf_2 (by decide) ?_
    refine fx_callVp dX6_metricOf_3 vX6_info kkX6_71 rfl rfl (by assumption) (p_rf_info1 D V hl c hc0) rfl (by decide) (by decide) rfl (Nat.le_of_ble_eq_true rfl) ?_
    refine fx_istore dX6_metricOf_6 (by decide) ?_
    refine fx_aloadn dX6_metricOf_8 rfl ?_
    refine fx_iloadn dX6_metricOf_9 rfl ?_
    refine fx_iconst (nI 2) dX6_metricOf_10 (by decide) ?_
    refine fx_callVp dX6_metricOf_11 vX6_info kkX6_71 rfl rfl (by assumption) (p_rf_info2 D V hl c hc0) rfl (by decide) (by decide) rfl (Nat.le_of_ble_eq_true rfl) ?_
    refine fx_istore dX6_metricOf_14 (by decide) ?_
    refine fx_iloadn dX6_metricOf_16 rfl ?_
    refine fx_if_ne 35 dX6_metricOf_17 (by decide) (fun c17 => ?_) (fun c17 => absurd c17 (by decide))
    refine fx_iloadn dX6_metricOf_35 rfl ?_
    refine fx_iconst (nI 1) dX6_metricOf_36 (by decide) ?_
    refine fx_icmp_ne 54 dX6_metricOf_37 (by decide) (fun c37 => ?_) (fun c37 => absurd c37 (by decide))
    refine fx_iloadn dX6_metricOf_54 rfl ?_
    refine fx_iconst (nI 2) dX6_metricOf_55 (by decide) ?_
    refine fx_icmp_ne 73 dX6_metricOf_56 (by decide) (fun c56 => absurd (rfl) c56) (fun c56 => ?_)
    refine fx_aloadn dX6_metricOf_59 rfl ?_
    refine fx_iloadn dX6_metricOf_60 rfl ?_
    refine fx_iconst (nI 4) dX6_metricOf_61 (by decide) ?_
    refine fx_iload dX6_metricOf_62 rfl ?_
    refine fx_bipush (nI 16) dX6_metricOf_64 (by decide) ?_
    refine fx_irem dX6_metricOf_66 (by decide) ?_
    rw [pk_rem (by omega) (by decide) (by decide), show ml_i (F k).1 c / 65536 % 256 % 16 = ml_i (F k).1 c / 65536 % 16 by omega]
    refine fx_callVp dX6_metricOf_67 vX6_scaled kkX6_136 rfl rfl e0 (p_rs_scaled H hk 4 _ (by decide) (by have := hp 2 (by decide); rw [pl_n (by omega)] at this; simpa using this)) rfl (by decide) (by decide) rfl (Nat.le_of_ble_eq_true rfl) ?_
    refine fx_goto 120 dX6_metricOf_70 (by decide) ?_
    refine fx_iret dX6_metricOf_120 rfl ?_
    exact ⟨by unfold ml_ms; rw [pl_n (by omega)]; rfl, rfl⟩
  · skip
    refine fx_aloadn dX6_metricOf_0 rfl ?_
    refine fx_iloadn dX6_metricOf_1 rfl ?_
    refine fx_iconst (nI 1) dX6_metricOf_2 (by decide) ?_
    refine fx_callVp dX6_metricOf_3 vX6_info kkX6_71 rfl rfl (by assumption) (p_rf_info1 D V hl c hc0) rfl (by decide) (by decide) rfl (Nat.le_of_ble_eq_true rfl) ?_
    refine fx_istore dX6_metricOf_6 (by decide) ?_
    refine fx_aloadn dX6_metricOf_8 rfl ?_
    refine fx_iloadn dX6_metricOf_9 rfl ?_
    refine fx_iconst (nI 2) dX6_metricOf_10 (by decide) ?_
    refine fx_callVp dX6_metricOf_11 vX6_info kkX6_71 rfl rfl (by assumption) (p_rf_info2 D V hl c hc0) rfl (by decide) (by decide) rfl (Nat.le_of_ble_eq_true rfl) ?_
    refine fx_istore dX6_metricOf_14 (by decide) ?_
    refine fx_iloadn dX6_metricOf_16 rfl ?_
    refine fx_if_ne 35 dX6_metricOf_17 (by decide) (fun c17 => ?_) (fun c17 => absurd c17 (by decide))
    refine fx_iloadn dX6_metricOf_35 rfl ?_
    refine fx_iconst (nI 1) dX6_metricOf_36 (by decide) ?_
    refine fx_icmp_ne 54 dX6_metricOf_37 (by decide) (fun c37 => ?_) (fun c37 => absurd c37 (by decide))
    refine fx_iloadn dX6_metricOf_54 rfl ?_
    refine fx_iconst (nI 2) dX6_metricOf_55 (by decide) ?_
    refine fx_icmp_ne 73 dX6_metricOf_56 (by decide) (fun c56 => ?_) (fun c56 => absurd c56 (by decide))
    refine fx_iloadn dX6_metricOf_73 rfl ?_
    refine fx_iconst (nI 3) dX6_metricOf_74 (by decide) ?_
    refine fx_icmp_ne 91 dX6_metricOf_75 (by decide) (fun c75 => absurd (rfl) c75) (fun c75 => ?_)
    refine fx_aloadn dX6_metricOf_78 rfl ?_
    refine fx_iloadn dX6_metricOf_79 rfl ?_
    refine fx_iconst (nI 5) dX6_metricOf_80 (by decide) ?_
    refine fx_iload dX6_metricOf_81 rfl ?_
    refine fx_iconst (nI 4) dX6_metricOf_83 (by decide) ?_
    refine fx_idiv dX6_metricOf_84 (by decide) ?_
    rw [pk_div (by omega) (by decide) (by decide), show ml_i (F k).1 c / 256 % 256 / 4 = ml_i (F k).1 c / 1024 % 64 by omega]
    refine fx_callVp dX6_metricOf_85 vX6_scaled kkX6_136 rfl rfl e0 (p_rs_scaled H hk 5 _ (by decide) (by have := hp 3 (by decide); rw [pl_n (by omega)] at this; simpa using this)) rfl (by decide) (by decide) rfl (Nat.le_of_ble_eq_true rfl) ?_
    refine fx_goto 120 dX6_metricOf_88 (by decide) ?_
    refine fx_iret dX6_metricOf_120 rfl ?_
    exact ⟨by unfold ml_ms; rw [pl_n (by omega)]; rfl, rfl⟩
  · skip
    refine fx_aloadn dX6_metricOf_0 rfl ?_
    refine fx_iloadn dX6_metricOf_1 rfl ?_
    refine fx_iconst (nI 1) dX6_metricOf_2 (by decide) ?_
    refine fx_callVp dX6_metricOf_3 vX6_info kkX6_71 rfl rfl (by assumption) (p_rf_info1 D V hl c hc0) rfl (by decide) (by decide) rfl (Nat.le_of_ble_eq_true rfl) ?_
    refine fx_istore dX6_metricOf_6 (by decide) ?_
    refine fx_aloadn dX6_metricOf_8 rfl ?_
    refine fx_iloadn dX6_metricOf_9 rfl ?_
    refine fx_iconst (nI 2) dX6_metricOf_10 (by decide) ?_
    refine fx_callVp dX6_metricOf_11 vX6_info kkX6_71 rfl rfl (by assumption) (p_rf_info2 D V hl c hc0) rfl (by decide) (by decide) rfl (Nat.le_of_ble_eq_true rfl) ?_
    refine fx_istore dX6_metricOf_14 (by decide) ?_
    refine fx_iloadn dX6_metricOf_16 rfl ?_
    refine fx_if_ne 35 dX6_metricOf_17 (by decide) (fun c17 => ?_) (fun c17 => absurd c17 (by decide))
    refine fx_iloadn dX6_metricOf_35 rfl ?_
    refine fx_iconst (nI 1) dX6_metricOf_36 (by decide) ?_
    refine fx_icmp_ne 54 dX6_metricOf_37 (by decide) (fun c37 => ?_) (fun c37 => absurd c37 (by decide))
    refine fx_iloadn dX6_metricOf_54 rfl ?_
    refine fx_iconst (nI 2) dX6_metricOf_55 (by decide) ?_
    refine fx_icmp_ne 73 dX6_metricOf_56 (by decide) (fun c56 => ?_) (fun c56 => absurd c56 (by decide))
    refine fx_iloadn dX6_metricOf_73 rfl ?_
    refine fx_iconst (nI 3) dX6_metricOf_74 (by decide) ?_
    refine fx_icmp_ne 91 dX6_metricOf_75 (by decide) (fun c75 => ?_) (fun c75 => absurd c75 (by decide))
    refine fx_iloadn dX6_metricOf_91 rfl ?_
    refine fx_iconst (nI 4) dX6_metricOf_92 (by decide) ?_
    refine fx_icmp_ne 103 dX6_metricOf_93 (by decide) (fun c93 => absurd (rfl) c93) (fun c93 => ?_)
    refine fx_iload dX6_metricOf_96 rfl ?_
    refine fx_iconst (nI 4) dX6_metricOf_98 (by decide) ?_
    refine fx_irem dX6_metricOf_99 (by decide) ?_
    refine fx_goto 120 dX6_metricOf_100 (by decide) ?_
    refine fx_iret dX6_metricOf_120 rfl ?_
    refine ⟨?_, rfl⟩
    rw [pk_rem (by omega) (by decide) (by decide)]
    show _ = some (Value.int (nI (ml_tag (F k).1 (nI c))))
    rw [ml_tagN (by omega), show ml_i (F k).1 c / 256 % 256 % 4 = ml_i (F k).1 c / 256 % 4 by omega]
  · skip
    refine fx_aloadn dX6_metricOf_0 rfl ?_
    refine fx_iloadn dX6_metricOf_1 rfl ?_
    refine fx_iconst (nI 1) dX6_metricOf_2 (by decide) ?_
    refine fx_callVp dX6_metricOf_3 vX6_info kkX6_71 rfl rfl (by assumption) (p_rf_info1 D V hl c hc0) rfl (by decide) (by decide) rfl (Nat.le_of_ble_eq_true rfl) ?_
    refine fx_istore dX6_metricOf_6 (by decide) ?_
    refine fx_aloadn dX6_metricOf_8 rfl ?_
    refine fx_iloadn dX6_metricOf_9 rfl ?_
    refine fx_iconst (nI 2) dX6_metricOf_10 (by decide) ?_
    refine fx_callVp dX6_metricOf_11 vX6_info kkX6_71 rfl rfl (by assumption) (p_rf_info2 D V hl c hc0) rfl (by decide) (by decide) rfl (Nat.le_of_ble_eq_true rfl) ?_
    refine fx_istore dX6_metricOf_14 (by decide) ?_
    refine fx_iloadn dX6_metricOf_16 rfl ?_
    refine fx_if_ne 35 dX6_metricOf_17 (by decide) (fun c17 => ?_) (fun c17 => absurd c17 (by decide))
    refine fx_iloadn dX6_metricOf_35 rfl ?_
    refine fx_iconst (nI 1) dX6_metricOf_36 (by decide) ?_
    refine fx_icmp_ne 54 dX6_metricOf_37 (by decide) (fun c37 => ?_) (fun c37 => absurd c37 (by decide))
    refine fx_iloadn dX6_metricOf_54 rfl ?_
    refine fx_iconst (nI 2) dX6_metricOf_55 (by decide) ?_
    refine fx_icmp_ne 73 dX6_metricOf_56 (by decide) (fun c56 => ?_) (fun c56 => absurd c56 (by decide))
    refine fx_iloadn dX6_metricOf_73 rfl ?_
    refine fx_iconst (nI 3) dX6_metricOf_74 (by decide) ?_
    refine fx_icmp_ne 91 dX6_metricOf_75 (by decide) (fun c75 => ?_) (fun c75 => absurd c75 (by decide))
    refine fx_iloadn dX6_metricOf_91 rfl ?_
    refine fx_iconst (nI 4) dX6_metricOf_92 (by decide) ?_
    refine fx_icmp_ne 103 dX6_metricOf_93 (by decide) (fun c93 => ?_) (fun c93 => absurd c93 (by decide))
    refine fx_iload dX6_metricOf_103 rfl ?_
    refine fx_iconst (nI 4) dX6_metricOf_105 (by decide) ?_
    refine fx_irem dX6_metricOf_106 (by decide) ?_
    rw [pk_rem (by omega) (by decide) (by decide), show ml_i (F k).1 c / 256 % 256 % 4 = ml_i (F k).1 c / 256 % 4 by omega]
    refine fx_ifn_ne 114 dX6_metricOf_107 (by decide) (by omega) (fun c107 => ?_) (fun c107 => ?_)
    · skip
      refine fx_aloadn dX6_metricOf_114 rfl ?_
      refine fx_iloadn dX6_metricOf_115 rfl ?_
      refine fx_iconst (nI 3) dX6_metricOf_116 (by decide) ?_
      refine fx_callVp dX6_metricOf_117 vX6_info kkX6_71 rfl rfl (by assumption) (p_rf_info3 D V hl c hc0) rfl (by decide) (by decide) rfl (Nat.le_of_ble_eq_true rfl) ?_
      refine fx_iret dX6_metricOf_120 rfl ?_
      refine ⟨?_, rfl⟩
      show _ = some (Value.int (if ml_tag (F k).1 (nI c) = 0 then nI 0 else nI (ml_rest (F k).1 (nI c))))
      rw [ml_tagN (by omega), ml_restN (by omega), if_neg c107]
    · skip
      refine fx_iconst (nI 0) dX6_metricOf_110 (by decide) ?_
      refine fx_goto 120 dX6_metricOf_111 (by decide) ?_
      refine fx_iret dX6_metricOf_120 rfl ?_
      refine ⟨?_, rfl⟩
      show _ = some (Value.int (if ml_tag (F k).1 (nI c) = 0 then nI 0 else nI (ml_rest (F k).1 (nI c))))
      rw [ml_tagN (by omega), ml_restN (by omega), if_pos c107]
theorem c_rs_metricY {g : fx_G} {h : fx_H} {m pb pf pz pt pp ph pk pc N len E : Nat} {F : Nat → (Nat → Nat) × Nat × Int32} {B : Nat → Nat} {I : List sg} {T : Int64} {th : Int32} (H : rs h m pb pf pz pt pp ph pk pc F N B len E I T th) (k c q : Nat) (hk : k < N) (hc0 : ml_i (F k).1 c ≠ 0) (hq : q < 6) : fx_Met g mX6_metric 7 155 [.ref m, .int (nI k), .int (nI c), .int (nI q)] h 0 0 (fun r h' => r = some (.int (ml_ms (F k).1 (F k).2.2 (nI c) q)) ∧ rs h' m pb pf pz pt pp ph pk pc F N B len E I T 0 ∧ kp (rC m pb pf pz pt pp ph pk pc) h h') := by
  obtain ⟨fb9, ff9, fz9, ft9, fp9, fh9, fk9, fc9, bs9, E9, hv9, hI9x, hN9, hro9, hI99, hfk9⟩ := id H
  have V := (hfk9 k hk).1
  have hc : c < 256 := Classical.byContradiction fun z => hc0 (V.i0 (by omega))
  refine fx_Met.of rfl (Nat.le_of_ble_eq_true rfl) ?_
  refine fx_aloadn dX6_metric_0 rfl ?_
  refine fx_iloadn dX6_metric_1 rfl ?_
  obtain ⟨fs1, at1⟩ := H.at
  refine fx_callV dX6_metric_2 vX6_choose kkX6_139 rfl rfl at1 (c_rs_chooseY H k hk) rfl (by decide) (by decide) (Nat.zero_le _) (Nat.zero_le _) rfl (Nat.le_of_ble_eq_true rfl) (fun r1 h1 hk1 => ?_)
  obtain ⟨rfl, H1, k1⟩ := hk1
  obtain ⟨gs1, e0⟩ := H1.at
  have D1 := H1.D hk
  refine fx_istore dX6_metric_5 (by decide) ?_
  refine fx_iload dX6_metric_7 rfl ?_
  refine fx_if_eq 21 dX6_metric_9 (by decide) (fun c9 => absurd c9 (by decide)) (fun c9 => ?_)
  refine fx_iloadn dX6_metric_12 rfl ?_
  refine fx_if_lt 21 dX6_metric_13 (by decide) (fun c13 => absurd c13 (nI_pos (by omega))) (fun c13 => ?_)
  refine fx_iloadn dX6_metric_16 rfl ?_
  refine fx_iconst (nI 5) dX6_metric_17 (by decide) ?_
  refine fx_icmp_le 27 dX6_metric_18 (by decide) (fun c18 => ?_) (fun c18 => absurd (nI_le (show q ≤ 5 by omega) (by decide)) c18)
  refine fx_aloadn dX6_metric_27 rfl ?_
  refine fx_iloadn dX6_metric_28 rfl ?_
  refine fx_callVp dX6_metric_29 vX6_isThere kkX6_76 rfl rfl (by assumption) (p_rf_isThere D1 V (Nat.le_refl _) _) rfl (by decide) (by decide) rfl (Nat.le_of_ble_eq_true rfl) ?_
  refine fx_if_ne 41 dX6_metric_32 (by decide) (fun c32 => ?_) (fun c32 => absurd c32 (bI_n0.mpr (by rw [ml_iI_n (by omega)]; exact hc0)))
  refine fx_aloadn dX6_metric_41 rfl ?_
  refine fx_iconst (nI 0) dX6_metric_42 (by decide) ?_
  obtain ⟨fb, ff, fz, ft, fp, fh, fk, fc, E0, hv, hI, hN, hro, hI9, hfk⟩ := id H1
  refine fx_putV dX6_metric_43 ffX6_37 E0.1 rfl rfl (Nat.le_of_ble_eq_true rfl) (fun h2 q2 o2 => ?_)
  have H2 : rsb h2 m pb pf pz pt pp ph pk pc F N B len E I T 0 k := ⟨fb, ff, fz, ft, fp, fh, fk, fc, E0.obj q2 o2, hv, hI, hN, hro, hI9, hfk⟩
  have k2 := kp.put (kp.rf (S := rC m pb pf pz pt pp ph pk pc)) o2 (Or.inl (Or.inl rfl))
  obtain ⟨gs2, e0⟩ := H2.at
  refine fx_aloadn dX6_metric_46 rfl ?_
  refine fx_iloadn dX6_metric_47 rfl ?_
  refine fx_iloadn dX6_metric_48 rfl ?_
  refine fx_iloadn dX6_metric_49 rfl ?_
  refine fx_callVp dX6_metric_50 vX6_metricOf kkX6_142 rfl rfl (by assumption) (p_rs_metricOf H2 hk c q hc0 hq) rfl (by decide) (by decide) rfl (Nat.le_of_ble_eq_true rfl) ?_
  refine fx_iret dX6_metric_53 rfl ?_
  exact ⟨rfl, H2.rs, k1.tr k2 (fun _ z _ => z)⟩
/-- no such metric -/
def noM (F : Nat → (Nat → Nat) × Nat × Int32) (N : Nat) (x c y : Int32) : Prop := noF N x ∨ ∃ k, k < N ∧ x = nI k ∧ ((y < 0 ∨ nI 6 ≤ y) ∨ ∃ q, q < 6 ∧ y = nI q ∧ ml_iI (F k).1 c = 0)
theorem noM.or (F : Nat → (Nat → Nat) × Nat × Int32) (N : Nat) (x c y : Int32) (hN : N < 2 ^ 31) (hf : foks F N) : noM F N x c y ∨ ∃ k c' q, k < N ∧ x = nI k ∧ q < 6 ∧ y = nI q ∧ c = nI c' ∧ c' < 256 ∧ ml_i (F k).1 c' ≠ 0 := by
  rcases noF.or N x hN with h | ⟨k, hk, hx⟩
  · exact Or.inl (Or.inl h)
  · rcases pk_ix y (show 6 < 2 ^ 31 by decide) with h | h | ⟨q, hq, hy⟩
    · exact Or.inl (Or.inr ⟨k, hk, hx, Or.inl (Or.inl h)⟩)
    · exact Or.inl (Or.inr ⟨k, hk, hx, Or.inl (Or.inr h)⟩)
    · by_cases h0 : ml_iI (F k).1 c = 0
      · exact Or.inl (Or.inr ⟨k, hk, hx, Or.inr ⟨q, hq, hy, h0⟩⟩)
      · have hc : ¬ c < 0 := fun z => h0 (ml_iI_m z)
        obtain ⟨c', hc1, hc2⟩ := nI_of hc
        rw [hc2, ml_iI_n hc1] at h0
        exact Or.inr ⟨k, c', q, hk, hx, hq, hy, hc2, Classical.byContradiction fun z => h0 ((hf k hk).1.i0 (by omega)), h0⟩
theorem c_rs_metricN {g : fx_G} {h : fx_H} {m pb pf pz pt pp ph pk pc N len E : Nat} {F : Nat → (Nat → Nat) × Nat × Int32} {B : Nat → Nat} {I : List sg} {T : Int64} {th : Int32} (H : rs h m pb pf pz pt pp ph pk pc F N B len E I T th) (x c y : Int32) (hx : noM F N x c y) : fx_Met g mX6_metric 7 155 [.ref m, .int x, .int c, .int y] h 0 0 (fun r h' => r = some (.int (nI 0)) ∧ rs h' m pb pf pz pt pp ph pk pc F N B len E I T (nI 1) ∧ kp (rC m pb pf pz pt pp ph pk pc) h h') := by
  obtain ⟨fb9, ff9, fz9, ft9, fp9, fh9, fk9, fc9, bs9, E9, hv9, hI9x, hN9, hro9, hI99, hfk9⟩ := id H
  refine fx_Met.of rfl (Nat.le_of_ble_eq_true rfl) ?_
  rcases hx with hx | ⟨k, hk, rfl, hx⟩
  · skip
    refine fx_aloadn dX6_metric_0 rfl ?_
    refine fx_iloadn dX6_metric_1 rfl ?_
    obtain ⟨fs1, at1⟩ := H.at
    refine fx_callV dX6_metric_2 vX6_choose kkX6_139 rfl rfl at1 (c_rs_chooseN H x hx) rfl (by decide) (by decide) (Nat.zero_le _) (Nat.zero_le _) rfl (Nat.le_of_ble_eq_true rfl) (fun r1 h1 hk1 => ?_)
    obtain ⟨rfl, H1, k1⟩ := hk1
    obtain ⟨gs1, e0⟩ := H1.at
    refine fx_istore dX6_metric_5 (by decide) ?_
    refine fx_iload dX6_metric_7 rfl ?_
    refine fx_if_eq 21 dX6_metric_9 (by decide) (fun c9 => ?_) (fun c9 => absurd (rfl) c9)
    refine fx_aloadn dX6_metric_21 rfl ?_
    refine fx_iconst (nI 1) dX6_metric_22 (by decide) ?_
    refine fx_callV dX6_metric_23 vX6_fails kkX6_127 rfl rfl e0 (c_rs_fails H1 (nI 1)) rfl (by decide) (by decide) (Nat.zero_le _) (Nat.zero_le _) rfl (Nat.le_of_ble_eq_true rfl) (fun r2 h2 hk2 => ?_)
    obtain ⟨rfl, H2, k2⟩ := hk2
    refine fx_iret dX6_metric_26 rfl ?_
    exact ⟨rfl, H2, k1.tr k2 (fun _ z _ => z)⟩
  · have V := (hfk9 k hk).1
    rcases hx with (hy | hy) | ⟨q, hq, rfl, hc⟩
    · skip
      refine fx_aloadn dX6_metric_0 rfl ?_
      refine fx_iloadn dX6_metric_1 rfl ?_
      obtain ⟨fs1, at1⟩ := H.at
      refine fx_callV dX6_metric_2 vX6_choose kkX6_139 rfl rfl at1 (c_rs_chooseY H k hk) rfl (by decide) (by decide) (Nat.zero_le _) (Nat.zero_le _) rfl (Nat.le_of_ble_eq_true rfl) (fun r1 h1 hk1 => ?_)
      obtain ⟨rfl, H1, k1⟩ := hk1
      obtain ⟨gs1, e0⟩ := H1.at
      refine fx_istore dX6_metric_5 (by decide) ?_
      refine fx_iload dX6_metric_7 rfl ?_
      refine fx_if_eq 21 dX6_metric_9 (by decide) (fun c9 => absurd c9 (by decide)) (fun c9 => ?_)
      refine fx_iloadn dX6_metric_12 rfl ?_
      refine fx_if_lt 21 dX6_metric_13 (by decide) (fun c13 => ?_) (fun c13 => absurd (hy) c13)
      refine fx_aloadn dX6_metric_21 rfl ?_
      refine fx_iconst (nI 1) dX6_metric_22 (by decide) ?_
      refine fx_callV dX6_metric_23 vX6_fails kkX6_127 rfl rfl e0 (c_rs_fails H1.rs (nI 1)) rfl (by decide) (by decide) (Nat.zero_le _) (Nat.zero_le _) rfl (Nat.le_of_ble_eq_true rfl) (fun r2 h2 hk2 => ?_)
      obtain ⟨rfl, H2, k2⟩ := hk2
      refine fx_iret dX6_metric_26 rfl ?_
      exact ⟨rfl, H2, k1.tr k2 (fun _ z _ => z)⟩
    · have hy5 : ¬ y ≤ nI 5 := fun z => absurd (Int32.le_trans hy z) (by decide)
      have hy0 : ¬ y < 0 := fun z => absurd (Int32.le_trans hy (Int32.le_of_lt z)) (by decide)
      refine fx_aloadn dX6_metric_0 rfl ?_
      refine fx_iloadn dX6_metric_1 rfl ?_
      obtain ⟨fs1, at1⟩ := H.at
      refine fx_callV dX6_metric_2 vX6_choose kkX6_139 rfl rfl at1 (c_rs_chooseY H k hk) rfl (by decide) (by decide) (Nat.zero_le _) (Nat.zero_le _) rfl (Nat.le_of_ble_eq_true rfl) (fun r1 h1 hk1 => ?_)
      obtain ⟨rfl, H1, k1⟩ := hk1
      obtain ⟨gs1, e0⟩ := H1.at
      refine fx_istore dX6_metric_5 (by decide) ?_
      refine fx_iload dX6_metric_7 rfl ?_
      refine fx_if_eq 21 dX6_metric_9 (by decide) (fun c9 => absurd c9 (by decide)) (fun c9 => ?_)
      refine fx_iloadn dX6_metric_12 rfl ?_
      refine fx_if_lt 21 dX6_metric_13 (by decide) (fun c13 => absurd c13 (hy0)) (fun c13 => ?_)
      refine fx_iloadn dX6_metric_16 rfl ?_
      refine fx_iconst (nI 5) dX6_metric_17 (by decide) ?_
      refine fx_icmp_le 27 dX6_metric_18 (by decide) (fun c18 => absurd c18 (hy5)) (fun c18 => ?_)
      refine fx_aloadn dX6_metric_21 rfl ?_
      refine fx_iconst (nI 1) dX6_metric_22 (by decide) ?_
      refine fx_callV dX6_metric_23 vX6_fails kkX6_127 rfl rfl e0 (c_rs_fails H1.rs (nI 1)) rfl (by decide) (by decide) (Nat.zero_le _) (Nat.zero_le _) rfl (Nat.le_of_ble_eq_true rfl) (fun r2 h2 hk2 => ?_)
      obtain ⟨rfl, H2, k2⟩ := hk2
      refine fx_iret dX6_metric_26 rfl ?_
      exact ⟨rfl, H2, k1.tr k2 (fun _ z _ => z)⟩
    · skip
      refine fx_aloadn dX6_metric_0 rfl ?_
      refine fx_iloadn dX6_metric_1 rfl ?_
      obtain ⟨fs1, at1⟩ := H.at
      refine fx_callV dX6_metric_2 vX6_choose kkX6_139 rfl rfl at1 (c_rs_chooseY H k hk) rfl (by decide) (by decide) (Nat.zero_le _) (Nat.zero_le _) rfl (Nat.le_of_ble_eq_true rfl) (fun r1 h1 hk1 => ?_)
      obtain ⟨rfl, H1, k1⟩ := hk1
      obtain ⟨gs1, e0⟩ := H1.at
      have D1 := H1.D hk
      refine fx_istore dX6_metric_5 (by decide) ?_
      refine fx_iload dX6_metric_7 rfl ?_
      refine fx_if_eq 21 dX6_metric_9 (by decide) (fun c9 => absurd c9 (by decide)) (fun c9 => ?_)
      refine fx_iloadn dX6_metric_12 rfl ?_
      refine fx_if_lt 21 dX6_metric_13 (by decide) (fun c13 => absurd c13 (nI_pos (by omega))) (fun c13 => ?_)
      refine fx_iloadn dX6_metric_16 rfl ?_
      refine fx_iconst (nI 5) dX6_metric_17 (by decide) ?_
      refine fx_icmp_le 27 dX6_metric_18 (by decide) (fun c18 => ?_) (fun c18 => absurd (nI_le (show q ≤ 5 by omega) (by decide)) c18)
      refine fx_aloadn dX6_metric_27 rfl ?_
      refine fx_iloadn dX6_metric_28 rfl ?_
      refine fx_callVp dX6_metric_29 vX6_isThere kkX6_76 rfl rfl (by assumption) (p_rf_isThere D1 V (Nat.le_refl _) c) rfl (by decide) (by decide) rfl (Nat.le_of_ble_eq_true rfl) ?_
      refine fx_if_ne 41 dX6_metric_32 (by decide) (fun c32 => absurd (bI_0.mpr (fun z => z hc)) c32) (fun c32 => ?_)
      refine fx_aloadn dX6_metric_35 rfl ?_
      refine fx_iconst (nI 1) dX6_metric_36 (by decide) ?_
      refine fx_callV dX6_metric_37 vX6_fails kkX6_127 rfl rfl e0 (c_rs_fails H1.rs (nI 1)) rfl (by decide) (by decide) (Nat.zero_le _) (Nat.zero_le _) rfl (Nat.le_of_ble_eq_true rfl) (fun r2 h2 hk2 => ?_)
      obtain ⟨rfl, H2, k2⟩ := hk2
      refine fx_iret dX6_metric_40 rfl ?_
      exact ⟨rfl, H2, k1.tr k2 (fun _ z _ => z)⟩
def noP (N : Nat) (x y : Int32) : Prop := noF N x ∨ ∃ k, k < N ∧ x = nI k ∧ y < nI 1
theorem noP.or (N : Nat) (x y : Int32) (hN : N < 2 ^ 31) : noP N x y ∨ ∃ k j, k < N ∧ x = nI k ∧ j + 1 < 2 ^ 31 ∧ y = nI (j + 1) := by
  rcases noF.or N x hN with h | ⟨k, hk, hx⟩
  · exact Or.inl (Or.inl h)
  · by_cases hy : y < nI 1
    · exact Or.inl (Or.inr ⟨k, hk, hx, hy⟩)
    · have h0 : ¬ y < 0 := fun z => hy (Int32.lt_trans z (by decide))
      obtain ⟨j, hj, rfl⟩ := nI_of h0
      have h1 : ¬ j < 1 := fun z => hy ((nI_ltI hj (by decide)).mpr z)
      exact Or.inr ⟨k, j - 1, hk, hx, by omega, by rw [show j - 1 + 1 = j by omega]⟩
theorem c_rs_parameterN {g : fx_G} {h : fx_H} {m pb pf pz pt pp ph pk pc N len E : Nat} {F : Nat → (Nat → Nat) × Nat × Int32} {B : Nat → Nat} {I : List sg} {T : Int64} {th : Int32} (H : rs h m pb pf pz pt pp ph pk pc F N B len E I T th) (x y : Int32) (hx : noP N x y) : fx_Met g mX6_parameter 5 108 [.ref m, .int x, .int y] h 0 0 (fun r h' => r = some (.int (nI 0)) ∧ rs h' m pb pf pz pt pp ph pk pc F N B len E I T (nI 1) ∧ kp (rC m pb pf pz pt pp ph pk pc) h h') := by
  obtain ⟨fb9, ff9, fz9, ft9, fp9, fh9, fk9, fc9, bs9, E9, hv9, hI9x, hN9, hro9, hI99, hfk9⟩ := id H
  refine fx_Met.of rfl (Nat.le_of_ble_eq_true rfl) ?_
  rcases hx with hx | ⟨k, hk, rfl, hy⟩
  · skip
    refine fx_aloadn dX6_parameter_0 rfl ?_
    refine fx_iloadn dX6_parameter_1 rfl ?_
    obtain ⟨fs1, at1⟩ := H.at
    refine fx_callV dX6_parameter_2 vX6_choose kkX6_139 rfl rfl at1 (c_rs_chooseN H x hx) rfl (by decide) (by decide) (Nat.zero_le _) (Nat.zero_le _) rfl (Nat.le_of_ble_eq_true rfl) (fun r1 h1 hk1 => ?_)
    obtain ⟨rfl, H1, k1⟩ := hk1
    obtain ⟨gs1, e0⟩ := H1.at
    refine fx_if_eq 13 dX6_parameter_5 (by decide) (fun c5 => ?_) (fun c5 => absurd (rfl) c5)
    refine fx_aloadn dX6_parameter_13 rfl ?_
    refine fx_iconst (nI 1) dX6_parameter_14 (by decide) ?_
    refine fx_callV dX6_parameter_15 vX6_fails kkX6_127 rfl rfl e0 (c_rs_fails H1 (nI 1)) rfl (by decide) (by decide) (Nat.zero_le _) (Nat.zero_le _) rfl (Nat.le_of_ble_eq_true rfl) (fun r2 h2 hk2 => ?_)
    obtain ⟨rfl, H2, k2⟩ := hk2
    refine fx_iret dX6_parameter_18 rfl ?_
    exact ⟨rfl, H2, k1.tr k2 (fun _ z _ => z)⟩
  · skip
    refine fx_aloadn dX6_parameter_0 rfl ?_
    refine fx_iloadn dX6_parameter_1 rfl ?_
    obtain ⟨fs1, at1⟩ := H.at
    refine fx_callV dX6_parameter_2 vX6_choose kkX6_139 rfl rfl at1 (c_rs_chooseY H k hk) rfl (by decide) (by decide) (Nat.zero_le _) (Nat.zero_le _) rfl (Nat.le_of_ble_eq_true rfl) (fun r1 h1 hk1 => ?_)
    obtain ⟨rfl, H1, k1⟩ := hk1
    obtain ⟨gs1, e0⟩ := H1.at
    refine fx_if_eq 13 dX6_parameter_5 (by decide) (fun c5 => absurd c5 (by decide)) (fun c5 => ?_)
    refine fx_iloadn dX6_parameter_8 rfl ?_
    refine fx_iconst (nI 1) dX6_parameter_9 (by decide) ?_
    refine fx_icmp_ge 19 dX6_parameter_10 (by decide) (fun c10 => absurd c10 (Int32.not_le.mpr hy)) (fun c10 => ?_)
    refine fx_aloadn dX6_parameter_13 rfl ?_
    refine fx_iconst (nI 1) dX6_parameter_14 (by decide) ?_
    refine fx_callV dX6_parameter_15 vX6_fails kkX6_127 rfl rfl e0 (c_rs_fails H1.rs (nI 1)) rfl (by decide) (by decide) (Nat.zero_le _) (Nat.zero_le _) rfl (Nat.le_of_ble_eq_true rfl) (fun r2 h2 hk2 => ?_)
    obtain ⟨rfl, H2, k2⟩ := hk2
    refine fx_iret dX6_parameter_18 rfl ?_
    exact ⟨rfl, H2, k1.tr k2 (fun _ z _ => z)⟩
def ml_pm (b : Nat → Nat) (z : Int32) (j : Nat) : Int32 := if j = 0 then nI (ml_e b 9 0) >>> (nI 4 &&& 31) else ml_sc z (nI (ml_e b 9 j))
theorem sc_0 (z : Int32) : ml_sc z (nI 0) = nI 0 := by
  unfold ml_sc
  rw [show (nI 0).toInt64 = 0 from rfl, Int64.zero_mul, Int64.zero_shiftRight]
  rfl
theorem c_rs_parameterY {g : fx_G} {h : fx_H} {m pb pf pz pt pp ph pk pc N len E : Nat} {F : Nat → (Nat → Nat) × Nat × Int32} {B : Nat → Nat} {I : List sg} {T : Int64} {th : Int32} (H : rs h m pb pf pz pt pp ph pk pc F N B len E I T th) (k j : Nat) (hk : k < N) (hj : j + 1 < 2 ^ 31) : fx_Met g mX6_parameter 5 108 [.ref m, .int (nI k), .int (nI (j + 1))] h 0 0 (fun r h' => r = some (.int (ml_pm (F k).1 (F k).2.2 j)) ∧ rs h' m pb pf pz pt pp ph pk pc F N B len E I T 0 ∧ kp (rC m pb pf pz pt pp ph pk pc) h h') := by
  obtain ⟨fb9, ff9, fz9, ft9, fp9, fh9, fk9, fc9, bs9, E9, hv9, hI9x, hN9, hro9, hI99, hfk9⟩ := id H
  have V := (hfk9 k hk).1
  have hs9 := V.six
  have hw11 := V.w.2.1 11 (by decide)
  have hrow := V.row (r := 9) (by decide)
  have e9r : ml_rl (F k).1 9 = ml_H (F k).1 11 := rfl
  refine fx_Met.of rfl (Nat.le_of_ble_eq_true rfl) ?_
  by_cases hj9 : ml_H (F k).1 11 ≤ j
  · skip
    refine fx_aloadn dX6_parameter_0 rfl ?_
    refine fx_iloadn dX6_parameter_1 rfl ?_
    obtain ⟨fs1, at1⟩ := H.at
    refine fx_callV dX6_parameter_2 vX6_choose kkX6_139 rfl rfl at1 (c_rs_chooseY H k hk) rfl (by decide) (by decide) (Nat.zero_le _) (Nat.zero_le _) rfl (Nat.le_of_ble_eq_true rfl) (fun r1 h1 hk1 => ?_)
    obtain ⟨rfl, H1, k1⟩ := hk1
    obtain ⟨gs1, e0⟩ := H1.at
    refine fx_if_eq 13 dX6_parameter_5 (by decide) (fun c5 => absurd c5 (by decide)) (fun c5 => ?_)
    refine fx_iloadn dX6_parameter_8 rfl ?_
    refine fx_iconst (nI 1) dX6_parameter_9 (by decide) ?_
    refine fx_icmp_ge 19 dX6_parameter_10 (by decide) (fun c10 => ?_) (fun c10 => absurd (nI_le (show 1 ≤ j + 1 by omega) (by omega)) c10)
    refine fx_aloadn dX6_parameter_19 rfl ?_
    refine fx_iconst (nI 0) dX6_parameter_20 (by decide) ?_
    obtain ⟨fb, ff, fz, ft, fp, fh, fk, fc, E0, hv, hI, hN, hro, hI9, hfk⟩ := id H1
    refine fx_putV dX6_parameter_21 ffX6_37 E0.1 rfl rfl (Nat.le_of_ble_eq_true rfl) (fun h2 q2 o2 => ?_)
    have H2 : rsb h2 m pb pf pz pt pp ph pk pc F N B len E I T 0 k := ⟨fb, ff, fz, ft, fp, fh, fk, fc, E0.obj q2 o2, hv, hI, hN, hro, hI9, hfk⟩
    have k2 := kp.put (kp.rf (S := rC m pb pf pz pt pp ph pk pc)) o2 (Or.inl (Or.inl rfl))
    obtain ⟨gs2, e0⟩ := H2.at
    have D := H2.D hk
    refine fx_iloadn dX6_parameter_24 rfl ?_
    refine fx_aloadn dX6_parameter_25 rfl ?_
    refine fx_bipush (nI 11) dX6_parameter_26 (by decide) ?_
    refine fx_callVp dX6_parameter_28 vX6_half kkX6_57 rfl rfl (by assumption) (p_rf_half D 11 (by omega)) rfl (by decide) (by decide) rfl (Nat.le_of_ble_eq_true rfl) ?_
    refine fx_icmp_le 38 dX6_parameter_31 (by decide) (fun c31 => absurd c31 (nI_ge (show ml_H (F k).1 11 < j + 1 by omega) (by omega))) (fun c31 => ?_)
    refine fx_iconst (nI 0) dX6_parameter_34 (by decide) ?_
    refine fx_goto 68 dX6_parameter_35 (by decide) ?_
    refine fx_iret dX6_parameter_68 rfl ?_
    refine ⟨?_, H2.rs, k1.tr k2 (fun _ z _ => z)⟩
    have he : ml_e (F k).1 9 j = 0 := if_neg (show ¬ j < ml_H (F k).1 11 by omega)
    unfold ml_pm
    split
    · rename_i q
      subst q
      rw [he]
      rfl
    · rw [he, sc_0]
  · by_cases hj0 : j = 0
    · skip
      refine fx_aloadn dX6_parameter_0 rfl ?_
      refine fx_iloadn dX6_parameter_1 rfl ?_
      obtain ⟨fs1, at1⟩ := H.at
      refine fx_callV dX6_parameter_2 vX6_choose kkX6_139 rfl rfl at1 (c_rs_chooseY H k hk) rfl (by decide) (by decide) (Nat.zero_le _) (Nat.zero_le _) rfl (Nat.le_of_ble_eq_true rfl) (fun r1 h1 hk1 => ?_)
      obtain ⟨rfl, H1, k1⟩ := hk1
      obtain ⟨gs1, e0⟩ := H1.at
      refine fx_if_eq 13 dX6_parameter_5 (by decide) (fun c5 => absurd c5 (by decide)) (fun c5 => ?_)
      refine fx_iloadn dX6_parameter_8 rfl ?_
      refine fx_iconst (nI 1) dX6_parameter_9 (by decide) ?_
      refine fx_icmp_ge 19 dX6_parameter_10 (by decide) (fun c10 => ?_) (fun c10 => absurd (nI_le (show 1 ≤ j + 1 by omega) (by omega)) c10)
      refine fx_aloadn dX6_parameter_19 rfl ?_
      refine fx_iconst (nI 0) dX6_parameter_20 (by decide) ?_
      obtain ⟨fb, ff, fz, ft, fp, fh, fk, fc, E0, hv, hI, hN, hro, hI9, hfk⟩ := id H1
      refine fx_putV dX6_parameter_21 ffX6_37 E0.1 rfl rfl (Nat.le_of_ble_eq_true rfl) (fun h2 q2 o2 => ?_)
      have H2 : rsb h2 m pb pf pz pt pp ph pk pc F N B len E I T 0 k := ⟨fb, ff, fz, ft, fp, fh, fk, fc, E0.obj q2 o2, hv, hI, hN, hro, hI9, hfk⟩
      have k2 := kp.put (kp.rf (S := rC m pb pf pz pt pp ph pk pc)) o2 (Or.inl (Or.inl rfl))
      obtain ⟨gs2, e0⟩ := H2.at
      have D := H2.D hk
      refine fx_iloadn dX6_parameter_24 rfl ?_
      refine fx_aloadn dX6_parameter_25 rfl ?_
      refine fx_bipush (nI 11) dX6_parameter_26 (by decide) ?_
      refine fx_callVp dX6_parameter_28 vX6_half kkX6_57 rfl rfl (by assumption) (p_rf_half D 11 (by omega)) rfl (by decide) (by decide) rfl (Nat.le_of_ble_eq_true rfl) ?_
      refine fx_icmp_le 38 dX6_parameter_31 (by decide) (fun c31 => ?_) (fun c31 => absurd (nI_le (show j + 1 ≤ ml_H (F k).1 11 by omega) (by omega)) c31)
      refine fx_iloadn dX6_parameter_38 rfl ?_
      refine fx_iconst (nI 1) dX6_parameter_39 (by decide) ?_
      refine fx_icmp_ne 58 dX6_parameter_40 (by decide) (fun c40 => absurd (by rw [hj0]) c40) (fun c40 => ?_)
      refine fx_aloadn dX6_parameter_43 rfl ?_
      refine fx_aloadn dX6_parameter_44 rfl ?_
      refine fx_bipush (nI 9) dX6_parameter_45 (by decide) ?_
      refine fx_callVp dX6_parameter_47 vX6_start kkX6_64 rfl rfl (by assumption) (p_rf_start D V.w (by omega) 9 (by decide)) rfl (by decide) (by decide) rfl (Nat.le_of_ble_eq_true rfl) ?_
      refine fx_callVp dX6_parameter_50 vX6_word kkX6_83 rfl rfl (by assumption) (p_rf_word D V.1 _ (by omega)) rfl (by decide) (by decide) rfl (Nat.le_of_ble_eq_true rfl) ?_
      refine fx_iconst (nI 4) dX6_parameter_53 (by decide) ?_
      refine fx_ishr dX6_parameter_54 ?_
      refine fx_goto 68 dX6_parameter_55 (by decide) ?_
      refine fx_iret dX6_parameter_68 rfl ?_
      refine ⟨?_, H2.rs, k1.tr k2 (fun _ z _ => z)⟩
      unfold ml_pm
      rw [if_pos hj0]
      have he : ml_e (F k).1 9 0 = ml_W (F k).1 (ml_st (F k).1 9) := if_pos (show 0 < ml_H (F k).1 11 by omega)
      rw [he]
    · skip
      refine fx_aloadn dX6_parameter_0 rfl ?_
      refine fx_iloadn dX6_parameter_1 rfl ?_
      obtain ⟨fs1, at1⟩ := H.at
      refine fx_callV dX6_parameter_2 vX6_choose kkX6_139 rfl rfl at1 (c_rs_chooseY H k hk) rfl (by decide) (by decide) (Nat.zero_le _) (Nat.zero_le _) rfl (Nat.le_of_ble_eq_true rfl) (fun r1 h1 hk1 => ?_)
      obtain ⟨rfl, H1, k1⟩ := hk1
      obtain ⟨gs1, e0⟩ := H1.at
      refine fx_if_eq 13 dX6_parameter_5 (by decide) (fun c5 => absurd c5 (by decide)) (fun c5 => ?_)
      refine fx_iloadn dX6_parameter_8 rfl ?_
      refine fx_iconst (nI 1) dX6_parameter_9 (by decide) ?_
      refine fx_icmp_ge 19 dX6_parameter_10 (by decide) (fun c10 => ?_) (fun c10 => absurd (nI_le (show 1 ≤ j + 1 by omega) (by omega)) c10)
      refine fx_aloadn dX6_parameter_19 rfl ?_
      refine fx_iconst (nI 0) dX6_parameter_20 (by decide) ?_
      obtain ⟨fb, ff, fz, ft, fp, fh, fk, fc, E0, hv, hI, hN, hro, hI9, hfk⟩ := id H1
      refine fx_putV dX6_parameter_21 ffX6_37 E0.1 rfl rfl (Nat.le_of_ble_eq_true rfl) (fun h2 q2 o2 => ?_)
      have H2 : rsb h2 m pb pf pz pt pp ph pk pc F N B len E I T 0 k := ⟨fb, ff, fz, ft, fp, fh, fk, fc, E0.obj q2 o2, hv, hI, hN, hro, hI9, hfk⟩
      have k2 := kp.put (kp.rf (S := rC m pb pf pz pt pp ph pk pc)) o2 (Or.inl (Or.inl rfl))
      obtain ⟨gs2, e0⟩ := H2.at
      have D := H2.D hk
      refine fx_iloadn dX6_parameter_24 rfl ?_
      refine fx_aloadn dX6_parameter_25 rfl ?_
      refine fx_bipush (nI 11) dX6_parameter_26 (by decide) ?_
      refine fx_callVp dX6_parameter_28 vX6_half kkX6_57 rfl rfl (by assumption) (p_rf_half D 11 (by omega)) rfl (by decide) (by decide) rfl (Nat.le_of_ble_eq_true rfl) ?_
      refine fx_icmp_le 38 dX6_parameter_31 (by decide) (fun c31 => ?_) (fun c31 => absurd (nI_le (show j + 1 ≤ ml_H (F k).1 11 by omega) (by omega)) c31)
      refine fx_iloadn dX6_parameter_38 rfl ?_
      refine fx_iconst (nI 1) dX6_parameter_39 (by decide) ?_
      refine fx_icmp_ne 58 dX6_parameter_40 (by decide) (fun c40 => ?_) (fun c40 => absurd c40 (fun z => hj0 (by have := (nI_eq (by omega) (by decide)).mp z; omega)))
      refine fx_aloadn dX6_parameter_58 rfl ?_
      refine fx_iloadn dX6_parameter_59 rfl ?_
      refine fx_bipush (nI 9) dX6_parameter_60 (by decide) ?_
      refine fx_iloadn dX6_parameter_62 rfl ?_
      refine fx_iconst (nI 1) dX6_parameter_63 (by decide) ?_
      refine fx_isub dX6_parameter_64 ?_
      rw [pk_sub (by omega), show j + 1 - 1 = j by omega]
      refine fx_callVp dX6_parameter_65 vX6_scaled kkX6_136 rfl rfl e0 (p_rs_scaled H2 hk 9 j (by decide) (show j < ml_H (F k).1 11 by omega)) rfl (by decide) (by decide) rfl (Nat.le_of_ble_eq_true rfl) ?_
      refine fx_iret dX6_parameter_68 rfl ?_
      refine ⟨?_, H2.rs, k1.tr k2 (fun _ z _ => z)⟩
      unfold ml_pm
      rw [if_neg hj0]
