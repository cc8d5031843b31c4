/-! FontDeskModel: setting a word -/
theorem p_rt_scaled {g : fx_G} {h : fx_H} {m pb pf pz pt pp ph pk pc N len E : Nat} {F : Nat → (Nat → Nat) × Nat × Int32} {B : Nat → Nat} {I : List sg} {T : Int64} {th : Int32} {k : Nat} (H : rt h m pb pf pz pt pp ph pk pc F N B len E I T th k) (hk : k < N) (r i : Nat) (hr : r < 10) (hi : i < ml_rl (F k).1 r) : fx_P g mX6_scaled 4 85 [.ref m, .int (nI k), .int (nI r), .int (nI i)] h (.int (ml_sc (F k).2.2 (nI (ml_e (F k).1 r i)))) := by
  have D := H.D hk
  obtain ⟨fb, ff, fz, ft, fp, fh, fk, fc, E0, hL, hv, hN, hro, hfk⟩ := id H
  obtain ⟨e0, ⟨e1, e2, e3, e4, e5, e6, e7, e8⟩, -⟩ := id E0
  have V := (hfk k hk).1
  have hs9 := V.six
  have hnw := V.nw
  have hrow := V.row hr
  have he : ml_e (F k).1 r i = ml_W (F k).1 (ml_st (F k).1 r + i) := if_pos hi
  rw [he]
  refine fx_Met.of rfl (Nat.le_of_ble_eq_true rfl) ?_
  refine fx_aloadn dX6_scaled_0 rfl ?_
  refine fx_aloadn dX6_scaled_1 rfl ?_
  refine fx_iloadn dX6_scaled_2 rfl ?_
  refine fx_callVp dX6_scaled_3 vX6_start kkX6_64 rfl rfl (by assumption) (p_rf_start D V.w (by omega) r (by omega)) rfl (by decide) (by decide) rfl (Nat.le_of_ble_eq_true rfl) ?_
  refine fx_iloadn dX6_scaled_6 rfl ?_
  refine fx_iadd dX6_scaled_7 ?_
  rw [nI_add]
  refine fx_callVp dX6_scaled_8 vX6_word kkX6_83 rfl rfl e0 (p_rf_word D V.1 _ (by omega)) rfl (by decide) (by decide) rfl (Nat.le_of_ble_eq_true rfl) ?_
  refine fx_i2l dX6_scaled_11 ?_
  refine fx_aloadn dX6_scaled_12 rfl ?_
  refine fx_get dX6_scaled_13 ffX6_17 (by assumption) rfl ?_
  refine fx_iloadn dX6_scaled_16 rfl ?_
  refine fx_iald dX6_scaled_17 e3 (vp_in_nI (show k < 32 by omega) (by decide)) ?_
  rw [nI_clamp (by omega), (hv.2.1 k hk).1]
  refine fx_i2l dX6_scaled_18 ?_
  refine fx_lmul dX6_scaled_19 ?_
  refine fx_bipush (nI 20) dX6_scaled_20 (by decide) ?_
  refine fx_lshr dX6_scaled_22 ?_
  refine fx_l2i dX6_scaled_23 ?_
  refine fx_iret dX6_scaled_24 rfl ?_
  exact ⟨rfl, rfl⟩
theorem p_rt_metricOf {g : fx_G} {h : fx_H} {m pb pf pz pt pp ph pk pc N len E : Nat} {F : Nat → (Nat → Nat) × Nat × Int32} {B : Nat → Nat} {I : List sg} {T : Int64} {th : Int32} {k : Nat} (H : rt h m pb pf pz pt pp ph pk pc F N B len E I T th k) (hk : k < N) (c q : Nat) (hc0 : ml_i (F k).1 c ≠ 0) (hq : q < 6) : fx_P g mX6_metricOf 6 130 [.ref m, .int (nI k), .int (nI c), .int (nI q)] h (.int (ml_ms (F k).1 (F k).2.2 (nI c) q)) := by
  have D := H.D hk
  obtain ⟨fb, ff, fz, ft, fp, fh, fk, fc, E0, hL, hv, hN, hro, hfk⟩ := id H
  obtain ⟨e0, ⟨e1, e2, e3, e4, e5, e6, e7, e8⟩, -⟩ := id E0
  have V := (hfk k hk).1
  have hs9 := V.six
  have hnw := V.nw
  have hl : 4 * (F k).2.1 ≤ 4 * (F k).2.1 := Nat.le_refl _
  have hc : c < 256 := Classical.byContradiction fun z => hc0 (V.i0 (by omega))
  have hp := ((hfk k hk).2.1 c hc hc0).1
  have hil := ml_i_lt V.1 c
  refine fx_Met.of rfl (Nat.le_of_ble_eq_true rfl) ?_
  have h9 : q = 0 ∨ q = 1 ∨ q = 2 ∨ q = 3 ∨ q = 4 ∨ q = 5 := by omega
  rcases h9 with rfl | rfl | rfl | rfl | rfl | rfl
  · skip
    refine fx_aloadn dX6_metricOf_0 rfl ?_
    refine fx_iloadn dX6_metricOf_1 rfl ?_
    refine fx_iconst (nI 1) dX6_metricOf_2 (by decide) ?_
    refine fx_callVp dX6_metricOf_3 vX6_info kkX6_71 rfl rfl (by assumption) (p_rf_info1 D V hl c hc0) rfl (by decide) (by decide) rfl (Nat.le_of_ble_eq_true rfl) ?_
    refine fx_istore dX6_metricOf_6 (by decide) ?_
    refine fx_aloadn dX6_metricOf_8 rfl ?_
    refine fx_iloadn dX6_metricOf_9 rfl ?_
    refine fx_iconst (nI 2) dX6_metricOf_10 (by decide) ?_
    refine fx_callVp dX6_metricOf_11 vX6_info kkX6_71 rfl rfl (by assumption) (p_rf_info2 D V hl c hc0) rfl (by decide) (by decide) rfl (Nat.le_of_ble_eq_true rfl) ?_
    refine fx_istore dX6_metricOf_14 (by decide) ?_
    refine fx_iloadn dX6_metricOf_16 rfl ?_
    refine fx_if_ne 35 dX6_metricOf_17 (by decide) (fun c17 => absurd (rfl) c17) (fun c17 => ?_)
    refine fx_aloadn dX6_metricOf_20 rfl ?_
    refine fx_iloadn dX6_metricOf_21 rfl ?_
    refine fx_iconst (nI 2) dX6_metricOf_22 (by decide) ?_
    refine fx_aloadn dX6_metricOf_23 rfl ?_
    refine fx_iloadn dX6_metricOf_24 rfl ?_
    refine fx_iconst (nI 0) dX6_metricOf_25 (by decide) ?_
    refine fx_callVp dX6_metricOf_26 vX6_info kkX6_71 rfl rfl (by assumption) (p_rf_info0 D V hl c hc0) rfl (by decide) (by decide) rfl (Nat.le_of_ble_eq_true rfl) ?_
    refine fx_callVp dX6_metricOf_29 vX6_scaled kkX6_136 rfl rfl e0 (p_rt_scaled H hk 2 _ (by decide) (by have := hp 0 (by decide); rw [pl_n (by omega)] at this; exact this)) rfl (by decide) (by decide) rfl (Nat.le_of_ble_eq_true rfl) ?_
    refine fx_goto 120 dX6_metricOf_32 (by decide) ?_
    refine fx_iret dX6_metricOf_120 rfl ?_
    exact ⟨by unfold ml_ms; rw [pl_n (by omega)]; rfl, rfl⟩
  · skip
    refine fx_aloadn dX6_metricOf_0 rfl ?_
    refine fx_iloadn dX6_metricOf_1 rfl ?_
    refine fx_iconst (nI 1) dX6_metricOf_2 (by decide) ?_
    refine fx_callVp dX6_metricOf_3 vX6_info kkX6_71 rfl rfl (by assumption) (p_rf_info1 D V hl c hc0) rfl (by decide) (by decide) rfl (Nat.le_of_ble_eq_true rfl) ?_
    refine fx_istore dX6_metricOf_6 (by decide) ?_
    refine fx_aloadn dX6_metricOf_8 rfl ?_
    refine fx_iloadn dX6_metricOf_9 rfl ?_
    refine fx_iconst (nI 2) dX6_metricOf_10 (by decide) ?_
    refine fx_callVp dX6_metricOf_11 vX6_info kkX6_71 rfl rfl (by assumption) (p_rf_info2 D V hl c hc0) rfl (by decide) (by decide) rfl (Nat.le_of_ble_eq_true rfl) ?_
    refine fx_istore dX6_metricOf_14 (by decide) ?_
    refine fx_iloadn dX6_metricOf_16 rfl ?_
    refine fx_if_ne 35 dX6_metricOf_17 (by decide) (fun c17 => ?_) (fun c17 => absurd c17 (by decide))
    refine fx_iloadn dX6_metricOf_35 rfl ?_
    refine fx_iconst (nI 1) dX6_metricOf_36 (by decide) ?_
    refine fx_icmp_ne 54 dX6_metricOf_37 (by decide) (fun c37 => absurd (rfl) c37) (fun c37 => ?_)
    refine fx_aloadn dX6_metricOf_40 rfl ?_
    refine fx_iloadn dX6_metricOf_41 rfl ?_
    refine fx_iconst (nI 3) dX6_metricOf_42 (by decide) ?_
    refine fx_iload dX6_metricOf_43 rfl ?_
    refine fx_bipush (nI 16) dX6_metricOf_45 (by decide) ?_
    refine fx_idiv dX6_metricOf_47 (by decide) ?_
    rw [pk_div (by omega) (by decide) (by decide), show ml_i (F k).1 c / 65536 % 256 / 16 = ml_i (F k).1 c / 1048576 % 16 by omega]
    refine fx_callVp dX6_metricOf_48 vX6_scaled kkX6_136 rfl rfl e0 (p_rt_scaled H hk 3 _ (by decide) (by have := hp 1 (by decide); rw [pl_n (by omega)] at this; simpa using this)) rfl (by decide) (by decide) rfl (Nat.le_of_ble_eq_true rfl) ?_
    refine fx_goto 120 dX6_metricOf_51 (by decide) ?_
    refine fx_iret dX6_metricOf_120 rfl ?_
    exact ⟨by unfold ml_ms; rw [pl_n (by omega)]; rfl, rfl⟩
  · skip
    refine fx_aloadn dX6_metricOf_0 rfl ?_
    refine fx_iloadn dX6_metricOf_1 rfl ?_
    refine fx_iconst (nI 1) dX6_metricOf_2 (by decide) ?_
    refine fx_callVp dX6_metricOf_3 vX6_info kkX6_71 rfl rfl (by assumption) (p_rf_info1 D V hl c hc0) rfl (by decide) (by decide) rfl (Nat.le_of_ble_eq_true rfl) ?_
    refine fx_istore dX6_metricOf_6 (by decide) ?_
    refine fx_aloadn dX6_metricOf_8 rfl ?_
    refine fx_iloadn dX6_metricOf_9 rfl ?_
    refine fx_iconst (nI 2) dX6_metricOf_10 (by decide) ?_
    refine fx_callVp dX6_metricOf_11 vX6_info kkX6_71 rfl rfl (by assumption) (p_rf_info2 D V hl c hc0) rfl (by decide) (by decide) rfl (Nat.le_of_ble_eq_true rfl) ?_
    refine fx_istore dX6_metricOf_14 (by decide) ?_
    refine fx_iloadn dX6_metricOf_16 rfl ?_
    refine fx_if_ne 35 dX6_metricOf_17 (by decide) (fun c17 => ?_) (fun c17 => absurd c17 (by decide))
    refine fx_iloadn dX6_metricOf_35 rfl ?_
    refine fx_iconst (nI 1) dX6_metricOf_36 (by decide) ?_
    refine fx_icmp_ne 54 dX6_metricOf_37 (by decide) (fun c37 => ?_) (fun c37 => absurd c37 (by decide))
    refine fx_iloadn dX6_metricOf_54 rfl ?_
    refine fx_iconst (nI 2) dX6_metricOf_55 (by decide) ?_
    refine fx_icmp_ne 73 dX6_metricOf_56 (by decide) (fun c56 => absurd (rfl) c56) (fun c56 => ?_)
    refine fx_aloadn dX6_metricOf_59 rfl ?_
    refine fx_iloadn dX6_metricOf_60 rfl ?_
    refine fx_iconst (nI 4) dX6_metricOf_61 (by decide) ?_
    refine fx_iload dX6_metricOf_62 rfl ?_
    refine fx_bipush (nI 16) dX6_metricOf_64 (by decide) ?_
    refine fx_irem dX6_metricOf_66 (by decide) ?_
    rw [pk_rem (by omega) (by decide) (by decide), show ml_i (F k).1 c / 65536 % 256 % 16 = ml_i (F k).1 c / 65536 % 16 by omega]
    refine fx_callVp dX6_metricOf_67 vX6_scaled kkX6_136 rfl rfl e0 (p_rt_scaled H hk 4 _ (by decide) (by have := hp 2 (by decide); rw [pl_n (by omega)] at this; simpa using this)) rfl (by decide) (by decide) rfl (Nat.le_of_ble_eq_true rfl) ?_
    refine fx_goto 120 dX6_metricOf_70 (by decide) ?_
    refine fx_iret dX6_metricOf_120 rfl ?_
    exact ⟨by unfold ml_ms; rw [pl_n (by omega)]; rfl, rfl⟩
  · skip
    refine fx_aloadn dX6_metricOf_0 rfl ?_
    refine fx_iloadn dX6_metricOf_1 rfl ?_
    refine fx_iconst (nI 1) dX6_metricOf_2 (by decide) ?_
    refine fx_callVp dX6_metricOf_3 vX6_info kkX6_71 rfl rfl (by assumption) (p_rf_info1 D V hl c hc0) rfl (by decide) (by decide) rfl (Nat.le_of_ble_eq_true rfl) ?_
    refine fx_istore dX6_metricOf_6 (by decide) ?_
    refine fx_aloadn dX6_metricOf_8 rfl ?_
    refine fx_iloadn dX6_metricOf_9 rfl ?_
    refine fx_iconst (nI 2) dX6_metricOf_10 (by decide) ?_
    refine fx_callVp dX6_metricOf_11 vX6_info kkX6_71 rfl rfl (by assumption) (p_rf_info2 D V hl c hc0) rfl (by decide) (by decide) rfl (Nat.le_of_ble_eq_true rfl) ?_
    refine fx_istore dX6_metricOf_14 (by decide) ?_
    refine fx_iloadn dX6_metricOf_16 rfl ?_
    refine fx_if_ne 35 dX6_metricOf_17 (by decide) (fun c17 => ?_) (fun c17 => absurd c17 (by decide))
    refine fx_iloadn dX6_metricOf_35 rfl ?_
    refine fx_iconst (nI 1) dX6_metricOf_36 (by decide) ?_
    refine fx_icmp_ne 54 dX6_metricOf_37 (by decide) (fun c37 => ?_) (fun c37 => absurd c37 (by decide))
    refine fx_iloadn dX6_metricOf_54 rfl ?_
    refine fx_iconst (nI 2) dX6_metricOf_55 (by decide) ?_
    refine fx_icmp_ne 73 dX6_metricOf_56 (by decide) (fun c56 => ?_) (fun c56 => absurd c56 (by decide))
    refine fx_iloadn dX6_metricOf_73 rfl ?_
    refine fx_iconst (nI 3) dX6_metricOf_74 (by decide) ?_
    refine fx_icmp_ne 91 dX6_metricOf_75 (by decide) (fun c75 => absurd (rfl) c75) (fun c75 => ?_)
    refine fx_aloadn dX6_metricOf_78 rfl ?_
    refine fx_iloadn dX6_metricOf_79 rfl ?_
    refine fx_iconst (nI 5) dX6_metricOf_80 (by decide) ?_
    refine fx_iload dX6_metricOf_81 rfl ?_
    refine fx_iconst (nI 4) dX6_metricOf_83 (by decide) ?_
    refine fx_idiv dX6_metricOf_84 (by decide) ?_
    rw [pk_div (by omega) (by decide) (by decide), show ml_i (F k).1 c / 256 % 256 / 4 = ml_i (F k).1 c / 1024 % 64 by omega]
    refine fx_callVp dX6_metricOf_85 vX6_scaled kkX6_136 rfl rfl e0 (p_rt_scaled H hk 5 _ (by decide) (by have := hp 3 (by decide); rw [pl_n (by omega)] at this; simpa using this)) rfl (by decide) (by decide) rfl (Nat.le_of_ble_eq_true rfl) ?_
    refine fx_goto 120 dX6_metricOf_88 (by decide) ?_
    refine fx_iret dX6_metricOf_120 rfl ?_
    exact ⟨by unfold ml_ms; rw [pl_n (by omega)]; rfl, rfl⟩
  · skip
    refine fx_aloadn dX6_metricOf_0 rfl ?_
    refine fx_iloadn dX6_metricOf_1 rfl ?_
    refine fx_iconst (nI 1) dX6_metricOf_2 (by decide) ?_
    refine fx_callVp dX6_metricOf_3 vX6_info kkX6_71 rfl rfl (by assumption) (p_rf_info1 D V hl c hc0) rfl (by decide) (by decide) rfl (Nat.le_of_ble_eq_true rfl) ?_
    refine fx_istore dX6_metricOf_6 (by decide) ?_
    refine fx_aloadn dX6_metricOf_8 rfl ?_
    refine fx_iloadn dX6_metricOf_9 rfl ?_
    refine fx_iconst (nI 2) dX6_metricOf_10 (by decide) ?_
    refine fx_callVp dX6_metricOf_11 vX6_info kkX6_71 rfl rfl (by assumption) (p_rf_info2 D V hl c hc0) rfl (by decide) (by decide) rfl (Nat.le_of_ble_eq_true rfl) ?_
    refine fx_istore dX6_metricOf_14 (by decide) ?_
    refine fx_iloadn dX6_metricOf_16 rfl ?_
    refine fx_if_ne 35 dX6_metricOf_17 (by decide) (fun c17 => ?_) (fun c17 => absurd c17 (by decide))
    refine fx_iloadn dX6_metricOf_35 rfl ?_
    refine fx_iconst (nI 1) dX6_metricOf_36 (by decide) ?_
    refine fx_icmp_ne 54 dX6_metricOf_37 (by decide) (fun c37 => ?_) (fun c37 => absurd c37 (by decide))
    refine fx_iloadn dX6_metricOf_54 rfl ?_
    refine fx_iconst (nI 2) dX6_metricOf_55 (by decide) ?_
    refine fx_icmp_ne 73 dX6_metricOf_56 (by decide) (fun c56 => ?_) (fun c56 => absurd c56 (by decide))
    refine fx_iloadn dX6_metricOf_73 rfl ?_
    refine fx_iconst (nI 3) dX6_metricOf_74 (by decide) ?_
    refine fx_icmp_ne 91 dX6_metricOf_75 (by decide) (fun c75 => ?_) (fun c75 => absurd c75 (by decide))
    refine fx_iloadn dX6_metricOf_91 rfl ?_
    refine fx_iconst (nI 4) dX6_metricOf_92 (by decide) ?_
    refine fx_icmp_ne 103 dX6_metricOf_93 (by decide) (fun c93 => absurd (rfl) c93) (fun c93 => ?_)
    refine fx_iload dX6_metricOf_96 rfl ?_
    refine fx_iconst (nI 4) dX6_metricOf_98 (by decide) ?_
    refine fx_irem dX6_metricOf_99 (by decide) ?_
    refine fx_goto 120 dX6_metricOf_100 (by decide) ?_
    refine fx_iret dX6_metricOf_120 rfl ?_
    refine ⟨?_, rfl⟩
    rw [pk_rem (by omega) (by decide) (by decide)]
    show _ = some (Value.int (nI (ml_tag (F k).1 (nI c))))
    rw [ml_tagN (by omega), show ml_i (F k).1 c / 256 % 256 % 4 = ml_i (F k).1 c / 256 % 4 by omega]
  · skip
    refine fx_aloadn dX6_metricOf_0 rfl ?_
    refine fx_iloadn dX6_metricOf_1 rfl ?_
    refine fx_iconst (nI 1) dX6_metricOf_2 (by decide) ?_
    refine fx_callVp dX6_metricOf_3 vX6_info kkX6_71 rfl rfl (by assumption) (p_rf_info1 D V hl c hc0) rfl (by decide) (by decide) rfl (Nat.le_of_ble_eq_true rfl) ?_
    refine fx_istore dX6_metricOf_6 (by decide) ?_
    refine fx_aloadn dX6_metricOf_8 rfl ?_
    refine fx_iloadn dX6_metricOf_9 rfl ?_
    refine fx_iconst (nI 2) dX6_metricOf_10 (by decide) ?_
    refine fx_callVp dX6_metricOf_11 vX6_info kkX6_71 rfl rfl (by assumption) (p_rf_info2 D V hl c hc0) rfl (by decide) (by decide) rfl (Nat.le_of_ble_eq_true rfl) ?_
    refine fx_istore dX6_metricOf_14 (by decide) ?_
    refine fx_iloadn dX6_metricOf_16 rfl ?_
    refine fx_if_ne 35 dX6_metricOf_17 (by decide) (fun c17 => ?_) (fun c17 => absurd c17 (by decide))
    refine fx_iloadn dX6_metricOf_35 rfl ?_
    refine fx_iconst (nI 1) dX6_metricOf_36 (by decide) ?_
    refine fx_icmp_ne 54 dX6_metricOf_37 (by decide) (fun c37 => ?_) (fun c37 => absurd c37 (by decide))
    refine fx_iloadn dX6_metricOf_54 rfl ?_
    refine fx_iconst (nI 2) dX6_metricOf_55 (by decide) ?_
    refine fx_icmp_ne 73 dX6_metricOf_56 (by decide) (fun c56 => ?_) (fun c56 => absurd c56 (by decide))
    refine fx_iloadn dX6_metricOf_73 rfl ?_
    refine fx_iconst (nI 3) dX6_metricOf_74 (by decide) ?_
    refine fx_icmp_ne 91 dX6_metricOf_75 (by decide) (fun c75 => ?_) (fun c75 => absurd c75 (by decide))
    refine fx_iloadn dX6_metricOf_91 rfl ?_
    refine fx_iconst (nI 4) dX6_metricOf_92 (by decide) ?_
    refine fx_icmp_ne 103 dX6_metricOf_93 (by decide) (fun c93 => ?_) (fun c93 => absurd c93 (by decide))
    refine fx_iload dX6_metricOf_103 rfl ?_
    refine fx_iconst (nI 4) dX6_metricOf_105 (by decide) ?_
    refine fx_irem dX6_metricOf_106 (by decide) ?_
    rw [pk_rem (by omega) (by decide) (by decide), show ml_i (F k).1 c / 256 % 256 % 4 = ml_i (F k).1 c / 256 % 4 by omega]
    refine fx_ifn_ne 114 dX6_metricOf_107 (by decide) (by omega) (fun c107 => ?_) (fun c107 => ?_)
    · skip
      refine fx_aloadn dX6_metricOf_114 rfl ?_
      refine fx_iloadn dX6_metricOf_115 rfl ?_
      refine fx_iconst (nI 3) dX6_metricOf_116 (by decide) ?_
      refine fx_callVp dX6_metricOf_117 vX6_info kkX6_71 rfl rfl (by assumption) (p_rf_info3 D V hl c hc0) rfl (by decide) (by decide) rfl (Nat.le_of_ble_eq_true rfl) ?_
      refine fx_iret dX6_metricOf_120 rfl ?_
      refine ⟨?_, rfl⟩
      show _ = some (Value.int (if ml_tag (F k).1 (nI c) = 0 then nI 0 else nI (ml_rest (F k).1 (nI c))))
      rw [ml_tagN (by omega), ml_restN (by omega), if_neg c107]
    · skip
      refine fx_iconst (nI 0) dX6_metricOf_110 (by decide) ?_
      refine fx_goto 120 dX6_metricOf_111 (by decide) ?_
      refine fx_iret dX6_metricOf_120 rfl ?_
      refine ⟨?_, rfl⟩
      show _ = some (Value.int (if ml_tag (F k).1 (nI c) = 0 then nI 0 else nI (ml_rest (F k).1 (nI c))))
      rw [ml_tagN (by omega), ml_restN (by omega), if_pos c107]
theorem wdf_snoc (B : Nat → Nat) : ∀ (n k : Nat), wdf B k (n + 1) = wdf B k n ++ [(0, nI (B (k + n)))] := by
  intro n
  induction n with
  | zero => intro k; rfl
  | succ n ih =>
    intro k
    show (0, nI (B k)) :: wdf B (k + 1) (n + 1) = ((0, nI (B k)) :: wdf B (k + 1) n) ++ [(0, nI (B (k + (n + 1))))]
    rw [ih (k + 1), show k + 1 + n = k + (n + 1) by omega]
    rfl
theorem mz_big {b : Nat → Nat} {z : Int32} (P : List sg) (x y : sg) (A : List sg) : mz_n (mz_s b z P x y A) ≤ P.length + 1 + (A.length + 1) + 1 := by
  have h1 : ∀ s : sg, (P ++ [s]).length = P.length + 1 := fun s => by rw [List.length_append]; rfl
  have h2 : ∀ s t : sg, (P ++ [s, t]).length = P.length + 2 := fun s t => by rw [List.length_append]; rfl
  have h3 : ∀ s : sg, (s :: A).length = A.length + 1 := fun s => rfl
  have h4 : ∀ s t : sg, (s :: t :: A).length = A.length + 2 := fun s t => rfl
  unfold mz_s
  repeat' split
  all_goals (unfold mz_n; simp only [h1, h2, h3, h4]; omega)
theorem l_rt_set {g : fx_G} {h0 : fx_H} {m pb pf pz pt pp ph pk pc N n9 E k : Nat} {F : Nat → (Nat → Nat) × Nat × Int32} {B : Nat → Nat} {T : Int64} {th : Int32} (hk : k < N) (V : ml_v (F k).1 (F k).2.1) (F3 : ml_F3a (F k).1) (F5 : ml_f5 (F k).1) (RR : Option (List sg)) : ∀ (n t9 : Nat) (P : List sg) (x : sg) (A : List sg) (h : fx_H), t9 + n = 10000 → P.length + 1 + A.length ≤ 1000 → rt h m pb pf pz pt pp ph pk pc F N B n9 E (P ++ x :: A) T th k → gst (F k).1 P x A → mz_run (F k).1 (F k).2.2 n P x A = RR → kp (rC m pb pf pz pt pp ph pk pc) h0 h → fx_Y g mX6_setting 9 199 (fun r h' => ((∃ L, RR = some L ∧ r = some (.int (nI 0)) ∧ rt h' m pb pf pz pt pp ph pk pc F N B n9 E L T th k ∧ (∀ s ∈ L, gsg (F k).1 s) ∧ L.length ≤ 1000) ∨ (RR = none ∧ r = some (.int (nI 3)) ∧ ∃ L, rt h' m pb pf pz pt pp ph pk pc F N B n9 E L T th k)) ∧ kp (rC m pb pf pz pt pp ph pk pc) h0 h') (fun _ _ => False) 68 [(0, .ref m), (1, .int (nI k)), (3, .int (nI P.length)), (4, .int (nI t9))] [] h 0 0 := by
  intro n
  induction n using Nat.strongRecOn with
  | ind n ih =>
  intro t9 P x A h hn hsz H hg hRR hk9
  have D := H.D hk
  obtain ⟨fb, ff, fz, ft, fp, fh, fk, fc, E0, hL, hv, hN, hro, hfk⟩ := id H
  obtain ⟨e0, ⟨e1, e2, e3, e4, e5, e6, e7, e8⟩, -⟩ := id E0
  cases A with
  | nil =>
    refine fx_iloadn dX6_setting_68 rfl ?_
    refine fx_iconst (nI 1) dX6_setting_69 (by decide) ?_
    refine fx_iadd dX6_setting_70 ?_
    refine fx_aloadn dX6_setting_71 rfl ?_
    refine fx_get dX6_setting_72 ffX6_145 (by assumption) rfl ?_
    rw [nI_add]
    refine fx_icmp_ge 226 dX6_setting_75 (by decide) (fun c75 => ?_) (fun c75 => absurd (by show nI (P ++ [x]).length ≤ _; rw [List.length_append]; exact nI_le (by show P.length + 1 ≤ P.length + 1; omega) (by omega)) c75)
    refine fx_iconst (nI 0) dX6_setting_226 (by decide) ?_
    refine fx_iret dX6_setting_227 rfl ?_
    refine ⟨Or.inl ⟨P ++ [x], ?_, rfl, H, gsts hg.1 [x] (fun s hs => by rw [List.mem_singleton.mp hs]; exact hg.2.1.g), by rw [List.length_append]; exact hsz⟩, hk9⟩
    rw [← hRR, mz_run_nil]
  | cons y A =>
    have hyA : (y :: A).length = A.length + 1 := rfl
    have hlx : (P ++ x :: y :: A).length = P.length + (A.length + 1 + 1) := by rw [List.length_append]; rfl
    by_cases hn0 : n = 0
    · skip
      refine fx_iloadn dX6_setting_68 rfl ?_
      refine fx_iconst (nI 1) dX6_setting_69 (by decide) ?_
      refine fx_iadd dX6_setting_70 ?_
      refine fx_aloadn dX6_setting_71 rfl ?_
      refine fx_get dX6_setting_72 ffX6_145 (by assumption) rfl ?_
      refine fx_icmp_ge 226 dX6_setting_75 (by decide) (fun c75 => absurd c75 (by rw [nI_add, hlx]; exact nI_ge (by omega) (by omega))) (fun c75 => ?_)
      refine fx_iinc (nI 1) dX6_setting_78 rfl (by decide) (by decide) ?_
      refine fx_iload dX6_setting_81 rfl ?_
      refine fx_sipush (nI 10000) dX6_setting_83 (by decide) ?_
      refine fx_icmp_le 91 dX6_setting_86 (by decide) (fun c86 => absurd c86 (by rw [nI_add]; exact nI_ge (show 10000 < t9 + 1 by omega) (by omega))) (fun c86 => ?_)
      refine fx_iconst (nI 3) dX6_setting_89 (by decide) ?_
      refine fx_iret dX6_setting_90 rfl ?_
      refine ⟨Or.inr ⟨?_, rfl, _, H⟩, hk9⟩
      rw [← hRR, show n = 0 by omega]
      rfl
    have hg9 := mz_g (z := (F k).2.2) V F3 F5 hg
    have fin : ∀ (h1 : fx_H) (lv : List (Nat × Value)) (t : List sg × sg × List sg), t = mz_s (F k).1 (F k).2.2 P x y A → rt h1 m pb pf pz pt pp ph pk pc F N B n9 E (t.1 ++ t.2.1 :: t.2.2) T th k → kp (rC m pb pf pz pt pp ph pk pc) h0 h1 → fx_le [(0, .ref m), (1, .int (nI k)), (3, .int (nI t.1.length)), (4, .int (nI (t9 + 1)))] lv → fx_Y g mX6_setting 9 199 (fun r h' => ((∃ L, RR = some L ∧ r = some (.int (nI 0)) ∧ rt h' m pb pf pz pt pp ph pk pc F N B n9 E L T th k ∧ (∀ s ∈ L, gsg (F k).1 s) ∧ L.length ≤ 1000) ∨ (RR = none ∧ r = some (.int (nI 3)) ∧ ∃ L, rt h' m pb pf pz pt pp ph pk pc F N B n9 E L T th k)) ∧ kp (rC m pb pf pz pt pp ph pk pc) h0 h') (fun _ _ => False) 211 lv [] h1 0 0 := fun h1 lv t ht H1 hk1 hlv => by
      obtain ⟨fb, ff, fz, ft, fp, fh, fk, fc, E0, hL, hv, hN, hro, hfk⟩ := id H1
      obtain ⟨e0, ⟨e1, e2, e3, e4, e5, e6, e7, e8⟩, -⟩ := id E0
      have hlt : (t.1 ++ t.2.1 :: t.2.2).length = mz_n t := by rw [List.length_append]; show t.1.length + (t.2.2.length + 1) = t.1.length + 1 + t.2.2.length; omega
      have hbig : mz_n t ≤ 1001 := by
        have hb9 := mz_big (b := (F k).1) (z := (F k).2.2) P x y A
        rw [← ht] at hb9
        omega
      refine fx_sub _ hlv ?_
      by_cases hov : mz_n t ≤ 1000
      · skip
        refine fx_aloadn dX6_setting_211 rfl ?_
        refine fx_get dX6_setting_212 ffX6_145 (by assumption) rfl ?_
        refine fx_sipush (nI 1000) dX6_setting_215 (by decide) ?_
        rw [hlt]
        refine fx_icmp_le 223 dX6_setting_218 (by decide) (fun c218 => ?_) (fun c218 => absurd (nI_le (show mz_n t ≤ 1000 by omega) (by decide)) c218)
        refine fx_goto 68 dX6_setting_223 (by decide) ?_
        refine fx_to (ih (n - 1) (by omega) (t9 + 1) t.1 t.2.1 t.2.2 h1 (by omega) hov H1 ?_ ?_ hk1) ⟨rfl, rfl, rfl, rfl, trivial⟩
        · rw [ht]
          exact hg9
        · rw [← hRR, show n = n - 1 + 1 by omega]
          conv => rhs; unfold mz_run
          rw [← ht, if_neg (by omega)]
          rfl
      · skip
        refine fx_aloadn dX6_setting_211 rfl ?_
        refine fx_get dX6_setting_212 ffX6_145 (by assumption) rfl ?_
        refine fx_sipush (nI 1000) dX6_setting_215 (by decide) ?_
        rw [hlt]
        refine fx_icmp_le 223 dX6_setting_218 (by decide) (fun c218 => absurd c218 (nI_ge (show 1000 < mz_n t by omega) (by omega))) (fun c218 => ?_)
        refine fx_iconst (nI 3) dX6_setting_221 (by decide) ?_
        refine fx_iret dX6_setting_222 rfl ?_
        refine ⟨Or.inr ⟨?_, rfl, _, H1⟩, hk1⟩
        rw [← hRR, show n = n - 1 + 1 by omega]
        unfold mz_run
        rw [← ht, if_pos (by omega)]
    have key : ∀ lv : List (Nat × Value), fx_le [(0, .ref m), (1, .int (nI k)), (3, .int (nI P.length)), (4, .int (nI (t9 + 1))), (6, .int (mz_i (F k).1 x y))] lv → fx_Y g mX6_setting 9 199 (fun r h' => ((∃ L, RR = some L ∧ r = some (.int (nI 0)) ∧ rt h' m pb pf pz pt pp ph pk pc F N B n9 E L T th k ∧ (∀ s ∈ L, gsg (F k).1 s) ∧ L.length ≤ 1000) ∨ (RR = none ∧ r = some (.int (nI 3)) ∧ ∃ L, rt h' m pb pf pz pt pp ph pk pc F N B n9 E L T th k)) ∧ kp (rC m pb pf pz pt pp ph pk pc) h0 h') (fun _ _ => False) 124 lv [] h 0 0 := fun lv hlv => by
      refine fx_sub _ hlv ?_
      by_cases hi0 : mz_i (F k).1 x y = -1
      · skip
        refine fx_iload dX6_setting_124 rfl ?_
        refine fx_if_ge 135 dX6_setting_126 (by decide) (fun c126 => absurd c126 (by rw [hi0]; decide)) (fun c126 => ?_)
        refine fx_iinc (nI 1) dX6_setting_129 rfl (by decide) (by decide) ?_
        refine fx_goto 211 dX6_setting_132 (by decide) ?_
        refine fin h _ (P ++ [x], y, A) ?_ (H.to (by show _ = (P ++ [x]) ++ y :: A; rw [List.append_assoc]; rfl)) hk9 ⟨rfl, rfl, ?_, rfl, trivial⟩
        · unfold mz_s
          rw [if_pos hi0]
        · show some (Value.int (nI P.length + nI 1)) = some (Value.int (nI (P ++ [x]).length))
          rw [nI_add, List.length_append]
          rfl
      · obtain ⟨j, hj, hij, hlg, hkr⟩ := mz_ok V F3 F5 hg.2.1 hi0
        have hNL := V.rl (r := 6) (by decide)
        have hol := ml_o_lt (b := (F k).1) (nI j)
        by_cases hkn : 128 ≤ ml_o (F k).1 (nI j)
        · skip
          refine fx_iload dX6_setting_124 rfl ?_
          rw [hij]
          refine fx_if_ge 135 dX6_setting_126 (by decide) (fun c126 => ?_) (fun c126 => absurd (nI_pos' (by omega)) c126)
          refine fx_aloadn dX6_setting_135 rfl ?_
          refine fx_iload dX6_setting_136 rfl ?_
          refine fx_iconst (nI 2) dX6_setting_138 (by decide) ?_
          refine fx_callVp dX6_setting_139 vX6_step kkX6_88 rfl rfl (by assumption) (p_rf_step2 D V (Nat.le_refl _) j hj) rfl (by decide) (by decide) rfl (Nat.le_of_ble_eq_true rfl) ?_
          refine fx_bipush (nI 127) dX6_setting_142 (by decide) ?_
          refine fx_icmp_le 191 dX6_setting_144 (by decide) (fun c144 => absurd c144 (by rw [nI_leI (by omega) (by decide)]; omega)) (fun c144 => ?_)
          refine fx_aloadn dX6_setting_147 rfl ?_
          refine fx_iloadn dX6_setting_148 rfl ?_
          refine fx_iconst (nI 1) dX6_setting_149 (by decide) ?_
          refine fx_iadd dX6_setting_150 ?_
          refine fx_iconst (nI 2) dX6_setting_151 (by decide) ?_
          refine fx_aloadn dX6_setting_152 rfl ?_
          refine fx_iloadn dX6_setting_153 rfl ?_
          refine fx_bipush (nI 7) dX6_setting_154 (by decide) ?_
          refine fx_sipush (nI 256) dX6_setting_156 (by decide) ?_
          refine fx_aloadn dX6_setting_159 rfl ?_
          refine fx_iload dX6_setting_160 rfl ?_
          refine fx_iconst (nI 2) dX6_setting_162 (by decide) ?_
          refine fx_callVp dX6_setting_163 vX6_step kkX6_88 rfl rfl (by assumption) (p_rf_step2 D V (Nat.le_refl _) j hj) rfl (by decide) (by decide) rfl (Nat.le_of_ble_eq_true rfl) ?_
          refine fx_sipush (nI 128) dX6_setting_166 (by decide) ?_
          refine fx_isub dX6_setting_169 ?_
          rw [pk_sub (by omega)]
          refine fx_imul dX6_setting_170 ?_
          rw [pk_mul]
          refine fx_aloadn dX6_setting_171 rfl ?_
          refine fx_iload dX6_setting_172 rfl ?_
          refine fx_iconst (nI 3) dX6_setting_174 (by decide) ?_
          refine fx_callVp dX6_setting_175 vX6_step kkX6_88 rfl rfl (by assumption) (p_rf_step3 D V (Nat.le_refl _) j hj) rfl (by decide) (by decide) rfl (Nat.le_of_ble_eq_true rfl) ?_
          refine fx_iadd dX6_setting_178 ?_
          rw [nI_add]
          refine fx_callVp dX6_setting_179 vX6_scaled kkX6_136 rfl rfl e0 (p_rt_scaled H hk 7 _ (by decide) (hkr hkn)) rfl (by decide) (by decide) rfl (Nat.le_of_ble_eq_true rfl) ?_
          rw [show ml_sc (F k).2.2 (nI (ml_e (F k).1 7 (256 * (ml_o (F k).1 (nI j) - 128) + ml_r (F k).1 (nI j)))) = mz_k (F k).1 (F k).2.2 (mz_i (F k).1 x y) by rw [hij]; rfl]
          rw [nI_add]
          have HA : rt h m pb pf pz pt pp ph pk pc F N B n9 E ((P ++ [x]) ++ (y :: A)) T th k := H.to (by rw [List.append_assoc]; rfl)
          obtain ⟨fs1, at1⟩ := HA.at
          have hc1 := c_rt_open (g := g) HA (2, mz_k (F k).1 (F k).2.2 (mz_i (F k).1 x y)) (by rw [List.length_append, List.length_append]; show P.length + 1 + (A.length + 1) < 1002; omega)
          rw [List.length_append (as := P)] at hc1
          refine fx_callV dX6_setting_182 vX6_open kkX6_156 rfl rfl at1 hc1 rfl (by decide) (by decide) (Nat.zero_le _) (Nat.zero_le _) rfl (Nat.le_of_ble_eq_true rfl) (fun r1 h1 hk1 => ?_)
          obtain ⟨rfl, H1, k1⟩ := hk1
          refine fx_iinc (nI 2) dX6_setting_185 rfl (by decide) (by decide) ?_
          refine fx_goto 211 dX6_setting_188 (by decide) ?_
          refine fin h1 _ (P ++ [x, (2, mz_k (F k).1 (F k).2.2 (mz_i (F k).1 x y))], y, A) ?_ (H1.to (by show _ = (P ++ [x, (2, mz_k (F k).1 (F k).2.2 (mz_i (F k).1 x y))]) ++ y :: A; rw [List.append_assoc, List.append_assoc]; rfl)) (hk9.tr k1 (fun _ z _ => z)) ⟨rfl, rfl, ?_, rfl, trivial⟩
          · unfold mz_s
            rw [if_neg hi0, if_pos (by rw [hij]; exact hkn)]
          · show some (Value.int (nI P.length + nI 2)) = some (Value.int (nI (P ++ [x, (2, mz_k (F k).1 (F k).2.2 (mz_i (F k).1 x y))]).length))
            rw [nI_add, List.length_append]
            rfl
        · skip
          refine fx_iload dX6_setting_124 rfl ?_
          rw [hij]
          refine fx_if_ge 135 dX6_setting_126 (by decide) (fun c126 => ?_) (fun c126 => absurd (nI_pos' (by omega)) c126)
          refine fx_aloadn dX6_setting_135 rfl ?_
          refine fx_iload dX6_setting_136 rfl ?_
          refine fx_iconst (nI 2) dX6_setting_138 (by decide) ?_
          refine fx_callVp dX6_setting_139 vX6_step kkX6_88 rfl rfl (by assumption) (p_rf_step2 D V (Nat.le_refl _) j hj) rfl (by decide) (by decide) rfl (Nat.le_of_ble_eq_true rfl) ?_
          refine fx_bipush (nI 127) dX6_setting_142 (by decide) ?_
          refine fx_icmp_le 191 dX6_setting_144 (by decide) (fun c144 => ?_) (fun c144 => absurd (nI_le (show ml_o (F k).1 (nI j) ≤ 127 by omega) (by decide)) c144)
          refine fx_aloadn dX6_setting_191 rfl ?_
          refine fx_iloadn dX6_setting_192 rfl ?_
          refine fx_aloadn dX6_setting_193 rfl ?_
          refine fx_iload dX6_setting_194 rfl ?_
          refine fx_iconst (nI 2) dX6_setting_196 (by decide) ?_
          refine fx_callVp dX6_setting_197 vX6_step kkX6_88 rfl rfl (by assumption) (p_rf_step2 D V (Nat.le_refl _) j hj) rfl (by decide) (by decide) rfl (Nat.le_of_ble_eq_true rfl) ?_
          refine fx_aloadn dX6_setting_200 rfl ?_
          refine fx_iload dX6_setting_201 rfl ?_
          refine fx_iconst (nI 3) dX6_setting_203 (by decide) ?_
          refine fx_callVp dX6_setting_204 vX6_step kkX6_88 rfl rfl (by assumption) (p_rf_step3 D V (Nat.le_refl _) j hj) rfl (by decide) (by decide) rfl (Nat.le_of_ble_eq_true rfl) ?_
          refine fx_callV dX6_setting_207 vX6_join kkX6_163 rfl rfl e0 (c_rt_join H (ml_o (F k).1 (nI j)) (hlg hkn).1 (nI (ml_r (F k).1 (nI j))) (by omega)) rfl (by decide) (by decide) (Nat.zero_le _) (Nat.zero_le _) rfl (Nat.le_of_ble_eq_true rfl) (fun r1 h1 hk1 => ?_)
          obtain ⟨rfl, H1, k1⟩ := hk1
          refine fx_istoren dX6_setting_210 (by decide) ?_
          refine fin h1 _ (mz_l (ml_o (F k).1 (nI j)) (nI (ml_r (F k).1 (nI j))) P x y A) ?_ H1 (hk9.tr k1 (fun _ z _ => z)) ⟨rfl, rfl, rfl, rfl, trivial⟩
          rw [mz_s_l hi0 (by rw [hij]; exact hkn), hij]
    obtain ⟨c, hc, hc2⟩ := hg.2.1.c
    have hi9 : mz_i (F k).1 x y = ml_seek (F k).1 y.2 (ml_rl (F k).1 6) (ml_ps (F k).1 c) := by
      unfold mz_i
      rw [hc2, nI_clamp (by omega)]
    by_cases hy : y.2 < 0
    · skip
      refine fx_iloadn dX6_setting_68 rfl ?_
      refine fx_iconst (nI 1) dX6_setting_69 (by decide) ?_
      refine fx_iadd dX6_setting_70 ?_
      refine fx_aloadn dX6_setting_71 rfl ?_
      refine fx_get dX6_setting_72 ffX6_145 (by assumption) rfl ?_
      refine fx_icmp_ge 226 dX6_setting_75 (by decide) (fun c75 => absurd c75 (by rw [nI_add, hlx]; exact nI_ge (by omega) (by omega))) (fun c75 => ?_)
      refine fx_iinc (nI 1) dX6_setting_78 rfl (by decide) (by decide) ?_
      refine fx_iload dX6_setting_81 rfl ?_
      refine fx_sipush (nI 10000) dX6_setting_83 (by decide) ?_
      refine fx_icmp_le 91 dX6_setting_86 (by decide) (fun c86 => ?_) (fun c86 => absurd (by rw [nI_add]; exact nI_le (show t9 + 1 ≤ 10000 by omega) (by decide)) c86)
      refine fx_aloadn dX6_setting_91 rfl ?_
      refine fx_get dX6_setting_92 ffX6_34 (by assumption) rfl ?_
      refine fx_iloadn dX6_setting_95 rfl ?_
      refine fx_iconst (nI 1) dX6_setting_96 (by decide) ?_
      refine fx_iadd dX6_setting_97 ?_
      rw [nI_add P.length 1]
      refine fx_iald dX6_setting_98 e8 (vp_in_nI (show P.length + 1 < 1002 by omega) (by decide)) ?_
      rw [nI_clamp (by omega), hL.next.2]
      refine fx_istore dX6_setting_99 (by decide) ?_
      refine fx_iload dX6_setting_101 rfl ?_
      refine fx_if_ge 110 dX6_setting_103 (by decide) (fun c103 => absurd c103 (Int32.not_le.mpr hy)) (fun c103 => ?_)
      refine fx_iconst (-1) dX6_setting_106 (by decide) ?_
      refine fx_goto 122 dX6_setting_107 (by decide) ?_
      refine fx_istore dX6_setting_122 (by decide) ?_
      exact key _ ⟨rfl, rfl, rfl, by rw [← nI_add]; rfl, by rw [show mz_i (F k).1 x y = -1 from seek_neg hy _ _]; rfl, trivial⟩
    · skip
      refine fx_iloadn dX6_setting_68 rfl ?_
      refine fx_iconst (nI 1) dX6_setting_69 (by decide) ?_
      refine fx_iadd dX6_setting_70 ?_
      refine fx_aloadn dX6_setting_71 rfl ?_
      refine fx_get dX6_setting_72 ffX6_145 (by assumption) rfl ?_
      refine fx_icmp_ge 226 dX6_setting_75 (by decide) (fun c75 => absurd c75 (by rw [nI_add, hlx]; exact nI_ge (by omega) (by omega))) (fun c75 => ?_)
      refine fx_iinc (nI 1) dX6_setting_78 rfl (by decide) (by decide) ?_
      refine fx_iload dX6_setting_81 rfl ?_
      refine fx_sipush (nI 10000) dX6_setting_83 (by decide) ?_
      refine fx_icmp_le 91 dX6_setting_86 (by decide) (fun c86 => ?_) (fun c86 => absurd (by rw [nI_add]; exact nI_le (show t9 + 1 ≤ 10000 by omega) (by decide)) c86)
      refine fx_aloadn dX6_setting_91 rfl ?_
      refine fx_get dX6_setting_92 ffX6_34 (by assumption) rfl ?_
      refine fx_iloadn dX6_setting_95 rfl ?_
      refine fx_iconst (nI 1) dX6_setting_96 (by decide) ?_
      refine fx_iadd dX6_setting_97 ?_
      rw [nI_add P.length 1]
      refine fx_iald dX6_setting_98 e8 (vp_in_nI (show P.length + 1 < 1002 by omega) (by decide)) ?_
      rw [nI_clamp (by omega), hL.next.2]
      refine fx_istore dX6_setting_99 (by decide) ?_
      refine fx_iload dX6_setting_101 rfl ?_
      refine fx_if_ge 110 dX6_setting_103 (by decide) (fun c103 => ?_) (fun c103 => absurd (Int32.not_lt.mp hy) c103)
      refine fx_aloadn dX6_setting_110 rfl ?_
      refine fx_aloadn dX6_setting_111 rfl ?_
      refine fx_get dX6_setting_112 ffX6_34 (by assumption) rfl ?_
      refine fx_iloadn dX6_setting_115 rfl ?_
      refine fx_iald dX6_setting_116 e8 (vp_in_nI (show P.length < 1002 by omega) (by decide)) ?_
      rw [nI_clamp (by omega), hL.here.2, hc2]
      refine fx_iload dX6_setting_117 rfl ?_
      refine fx_callVp dX6_setting_119 vX6_sought kkX6_160 rfl rfl (by assumption) (p_rf_sought D V (Nat.le_refl _) F3 F5 c hc y.2) rfl (by decide) (by decide) rfl (Nat.le_of_ble_eq_true rfl) ?_
      refine fx_istore dX6_setting_122 (by decide) ?_
      exact key _ ⟨rfl, rfl, rfl, by rw [← nI_add]; rfl, by rw [hi9]; rfl, trivial⟩
theorem l_rt_word {g : fx_G} {h0 : fx_H} {m pb pf pz pt pp ph pk pc N n9 E k : Nat} {F : Nat → (Nat → Nat) × Nat × Int32} {B : Nat → Nat} {T : Int64} {th : Int32} (hk : k < N) (V : ml_v (F k).1 (F k).2.1) (F3 : ml_F3a (F k).1) (F5 : ml_f5 (F k).1) (RR : Option (List sg)) (hn9 : n9 ≤ 200) (hB : ∀ j, j < n9 → B j < 256) (hgd : ∀ j, j < n9 → ml_i (F k).1 (B j) ≠ 0) (hRR : mz_run (F k).1 (F k).2.2 10000 [] (3, nI 256) (wdf B 0 n9 ++ [(3, ml_bd (F k).1)]) = RR) : ∀ (n j : Nat) (h : fx_H), j + n = n9 → rt h m pb pf pz pt pp ph pk pc F N B n9 E ((3, nI 256) :: wdf B 0 j) T th k → kp (rC m pb pf pz pt pp ph pk pc) h0 h → fx_Y g mX6_setting 9 199 (fun r h' => ((∃ L, RR = some L ∧ r = some (.int (nI 0)) ∧ rt h' m pb pf pz pt pp ph pk pc F N B n9 E L T th k ∧ (∀ s ∈ L, gsg (F k).1 s) ∧ L.length ≤ 1000) ∨ (RR = none ∧ r = some (.int (nI 3)) ∧ ∃ L, rt h' m pb pf pz pt pp ph pk pc F N B n9 E L T th k)) ∧ kp (rC m pb pf pz pt pp ph pk pc) h0 h') (fun _ _ => False) 16 [(0, .ref m), (1, .int (nI k)), (2, .int (nI n9)), (3, .int (nI j))] [] h 0 0 := by
  intro n
  induction n using Nat.strongRecOn with
  | ind n ih =>
  intro j h hn H hk9
  have D := H.D hk
  obtain ⟨fb, ff, fz, ft, fp, fh, fk, fc, E0, hL, hv, hN, hro, hfk⟩ := id H
  obtain ⟨e0, ⟨e1, e2, e3, e4, e5, e6, e7, e8⟩, -⟩ := id E0
  by_cases hn0 : n = 0
  · have hj : n9 = j := by omega
    subst hj
    refine fx_iloadn dX6_setting_16 rfl ?_
    refine fx_iloadn dX6_setting_17 rfl ?_
    refine fx_icmp_ge 51 dX6_setting_18 (by decide) (fun c18 => ?_) (fun c18 => absurd (nI_le (by omega) (by omega)) c18)
    refine fx_aloadn dX6_setting_51 rfl ?_
    refine fx_iloadn dX6_setting_52 rfl ?_
    refine fx_iconst (nI 1) dX6_setting_53 (by decide) ?_
    refine fx_iadd dX6_setting_54 ?_
    rw [nI_add]
    refine fx_iconst (nI 3) dX6_setting_55 (by decide) ?_
    refine fx_aloadn dX6_setting_56 rfl ?_
    refine fx_callVp dX6_setting_57 vX6_boundary kkX6_91 rfl rfl (by assumption) (p_rf_boundary D V (Nat.le_refl _)) rfl (by decide) (by decide) rfl (Nat.le_of_ble_eq_true rfl) ?_
    have hoc := c_rt_open (g := g) (P := (3, nI 256) :: wdf B 0 n9) (Q := []) (H.to (List.append_nil _).symm) (3, ml_bd (F k).1) (by rw [List.append_nil]; show (wdf B 0 n9).length + 1 < 1002; rw [wdf_len]; omega)
    rw [show ((3, nI 256) :: wdf B 0 n9 : List sg).length = n9 + 1 by show (wdf B 0 n9).length + 1 = _; rw [wdf_len]] at hoc
    refine fx_callV dX6_setting_60 vX6_open kkX6_156 rfl rfl e0 hoc rfl (by decide) (by decide) (Nat.zero_le _) (Nat.zero_le _) rfl (Nat.le_of_ble_eq_true rfl) (fun r1 h1 hk1 => ?_)
    obtain ⟨rfl, H1, k1⟩ := hk1
    refine fx_iconst (nI 0) dX6_setting_63 (by decide) ?_
    refine fx_istoren dX6_setting_64 (by decide) ?_
    refine fx_iconst (nI 0) dX6_setting_65 (by decide) ?_
    refine fx_istore dX6_setting_66 (by decide) ?_
    exact fx_to (l_rt_set hk V F3 F5 RR 10000 0 [] (3, nI 256) (wdf B 0 n9 ++ [(3, ml_bd (F k).1)]) h1 (by omega) (by rw [List.length_append, wdf_len]; show 0 + 1 + (n9 + 1) ≤ 1000; omega) (H1.to rfl) ⟨(fun s hs => nomatch hs), Or.inr (Or.inl rfl), wdf_g hB hgd n9 0 (by omega)⟩ hRR (hk9.tr k1 (fun _ z _ => z))) ⟨rfl, rfl, rfl, rfl, trivial⟩
  · have hj : j < n9 := by omega
    refine fx_iloadn dX6_setting_16 rfl ?_
    refine fx_iloadn dX6_setting_17 rfl ?_
    refine fx_icmp_ge 51 dX6_setting_18 (by decide) (fun c18 => absurd c18 (nI_ge hj (by omega))) (fun c18 => ?_)
    refine fx_aloadn dX6_setting_21 rfl ?_
    refine fx_iloadn dX6_setting_22 rfl ?_
    refine fx_iconst (nI 1) dX6_setting_23 (by decide) ?_
    refine fx_iadd dX6_setting_24 ?_
    rw [nI_add]
    refine fx_iconst (nI 0) dX6_setting_25 (by decide) ?_
    refine fx_aloadn dX6_setting_26 rfl ?_
    refine fx_get dX6_setting_27 ffX6_8 (by assumption) rfl ?_
    refine fx_aloadn dX6_setting_30 rfl ?_
    refine fx_get dX6_setting_31 ffX6_14 (by assumption) rfl ?_
    refine fx_aloadn dX6_setting_34 rfl ?_
    refine fx_get dX6_setting_35 ffX6_45 (by assumption) rfl ?_
    refine fx_iald dX6_setting_38 e2 (vp_in_nI (show N < 33 by omega) (by decide)) ?_
    rw [nI_clamp (by omega), hv.1 N (Nat.le_refl _)]
    refine fx_iloadn dX6_setting_39 rfl ?_
    refine fx_iadd dX6_setting_40 ?_
    rw [nI_add]
    refine fx_iald dX6_setting_41 e1 (vp_in_nI (show ro F N + j < 40000 by omega) (by decide)) ?_
    rw [nI_clamp (by omega), hv.2.2 j hj]
    have hoc := c_rt_open (g := g) (P := (3, nI 256) :: wdf B 0 j) (Q := []) (H.to (List.append_nil _).symm) (0, nI (B j)) (by rw [List.append_nil]; show (wdf B 0 j).length + 1 < 1002; rw [wdf_len]; omega)
    rw [show ((3, nI 256) :: wdf B 0 j : List sg).length = j + 1 by show (wdf B 0 j).length + 1 = _; rw [wdf_len]] at hoc
    refine fx_callV dX6_setting_42 vX6_open kkX6_156 rfl rfl e0 hoc rfl (by decide) (by decide) (Nat.zero_le _) (Nat.zero_le _) rfl (Nat.le_of_ble_eq_true rfl) (fun r1 h1 hk1 => ?_)
    obtain ⟨rfl, H1, k1⟩ := hk1
    refine fx_iinc (nI 1) dX6_setting_45 rfl (by decide) (by decide) ?_
    refine fx_goto 16 dX6_setting_48 (by decide) ?_
    simp only [nI_add]
    refine fx_to (ih (n - 1) (by omega) (j + 1) h1 (by omega) (H1.to ?_) (hk9.tr k1 (fun _ z _ => z))) ⟨rfl, rfl, rfl, rfl, trivial⟩
    rw [wdf_snoc, Nat.zero_add]
    rfl
theorem c_rt_setting {g : fx_G} {h : fx_H} {m pb pf pz pt pp ph pk pc N n9 E k : Nat} {F : Nat → (Nat → Nat) × Nat × Int32} {B : Nat → Nat} {T : Int64} {th : Int32} (hk : k < N) (V : ml_v (F k).1 (F k).2.1) (F3 : ml_F3a (F k).1) (F5 : ml_f5 (F k).1) (hn9 : n9 ≤ 200) (hB : ∀ j, j < n9 → B j < 256) (hgd : ∀ j, j < n9 → ml_i (F k).1 (B j) ≠ 0) {L : List sg} (H : rt h m pb pf pz pt pp ph pk pc F N B n9 E L T th k) : fx_Met g mX6_setting 9 199 [.ref m, .int (nI k), .int (nI n9)] h 0 0 (fun r h' => ((∃ L, mz_run (F k).1 (F k).2.2 10000 [] (3, nI 256) (wdf B 0 n9 ++ [(3, ml_bd (F k).1)]) = some L ∧ r = some (.int (nI 0)) ∧ rt h' m pb pf pz pt pp ph pk pc F N B n9 E L T th k ∧ (∀ s ∈ L, gsg (F k).1 s) ∧ L.length ≤ 1000) ∨ (mz_run (F k).1 (F k).2.2 10000 [] (3, nI 256) (wdf B 0 n9 ++ [(3, ml_bd (F k).1)]) = none ∧ r = some (.int (nI 3)) ∧ ∃ L, rt h' m pb pf pz pt pp ph pk pc F N B n9 E L T th k)) ∧ kp (rC m pb pf pz pt pp ph pk pc) h h') := by
  obtain ⟨fb, ff, fz, ft, fp, fh, fk, fc, E0, hL, hv, hN, hro, hfk⟩ := id H
  obtain ⟨e0, ⟨e1, e2, e3, e4, e5, e6, e7, e8⟩, -⟩ := id E0
  refine fx_Met.of rfl (Nat.le_of_ble_eq_true rfl) ?_
  refine fx_aloadn dX6_setting_0 rfl ?_
  refine fx_iconst (nI 0) dX6_setting_1 (by decide) ?_
  refine fx_putV dX6_setting_2 ffX6_145 e0 rfl rfl (Nat.le_of_ble_eq_true rfl) (fun h1 q1 o1 => ?_)
  have H1 : rt h1 m pb pf pz pt pp ph pk pc F N B n9 E [] T th k := ⟨fb, ff, fz, ft, fp, fh, fk, fc, E0.obj (it' := 0) q1 o1, sl.nil, hv, hN, hro, hfk⟩
  have k1 := kp.put (kp.rf (S := rC m pb pf pz pt pp ph pk pc)) o1 (Or.inl (Or.inl rfl))
  obtain ⟨fs1, at1⟩ := H1.at
  refine fx_aloadn dX6_setting_5 rfl ?_
  refine fx_iconst (nI 0) dX6_setting_6 (by decide) ?_
  refine fx_iconst (nI 3) dX6_setting_7 (by decide) ?_
  refine fx_sipush (nI 256) dX6_setting_8 (by decide) ?_
  refine fx_callV dX6_setting_11 vX6_open kkX6_156 rfl rfl at1 (c_rt_open (P := []) (Q := []) H1 (3, nI 256) (by decide)) rfl (by decide) (by decide) (Nat.zero_le _) (Nat.zero_le _) rfl (Nat.le_of_ble_eq_true rfl) (fun r2 h2 hk2 => ?_)
  obtain ⟨rfl, H2, k2⟩ := hk2
  refine fx_iconst (nI 0) dX6_setting_14 (by decide) ?_
  refine fx_istoren dX6_setting_15 (by decide) ?_
  exact fx_to (l_rt_word hk V F3 F5 _ hn9 hB hgd rfl n9 0 h2 (by omega) H2 (k1.tr k2 (fun _ z _ => z))) ⟨rfl, rfl, rfl, rfl, trivial⟩
