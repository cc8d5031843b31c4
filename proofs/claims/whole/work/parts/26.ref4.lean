/-! FontDeskModel: programs and steps -/
theorem seek_enough {b : Nat → Nat} {nw : Nat} (V : ml_v b nw) (F5 : ml_f5 b) (y : Int32) : ∀ (n m j : Nat), j < ml_rl b 6 → ml_rl b 6 - j ≤ n → ml_rl b 6 - j ≤ m → ml_seek b y n (nI j) = ml_seek b y m (nI j) := by
  have hNL := V.rl (r := 6) (by decide)
  intro n
  induction n with
  | zero => intro m j h1 h2; omega
  | succ n ih =>
    intro m j h1 h2 h3
    cases m with
    | zero => omega
    | succ m =>
      unfold ml_seek
      rw [if_neg (nI_m1 _ (by omega)), if_neg (nI_m1 _ (by omega))]
      by_cases e : ¬ 128 < ml_s b (nI j) ∧ nI (ml_n b (nI j)) = y
      · rw [if_pos e, if_pos e]
      · rw [if_neg e, if_neg e]
        by_cases e2 : 128 < ml_s b (nI j)
        · have e3 : ml_nx b (nI j) = -1 := if_pos (by omega)
          rw [e3, seek_m1, seek_m1]
        · rcases ok_nx V F5 h1 e2 with q | ⟨k, hk1, hk2, q⟩
          · rw [q, seek_m1, seek_m1]
          · rw [q]
            exact ih m k hk2 (by omega) (by omega)

theorem l_rf_prog {g : fx_G} {h : fx_H} {a lim nw : Nat} {b : Nat → Nat} (D : rd h a b lim) (V : ml_v b nw) (hl : 4 * nw ≤ lim) (x t : Nat) (ht : t < ml_rl b 6) (hv : ml_ps b x = if 128 < ml_s b (nI t) then -1 else nI t) (lv : List (Nat × Value)) (hlv : fx_le [(0, .ref a), (3, .int (nI t))] lv) : fx_Y g mX6_program 7 151 (fun r h' => r = some (.int (ml_ps b x)) ∧ h' = h) (fun _ _ => False) 123 lv [] h 0 0 := by
  obtain ⟨fs, h1⟩ := D.at
  have hs := V.six
  have q1 := ml_s_lt V.1 (nI t)
  refine fx_sub _ hlv ?_
  refine fx_aloadn dX6_program_123 rfl ?_
  refine fx_iloadn dX6_program_124 rfl ?_
  refine fx_iconst (nI 0) dX6_program_125 (by decide) ?_
  refine fx_callVp dX6_program_126 vX6_step kkX6_88 rfl rfl (by assumption) (p_rf_step0 D V hl t ht) rfl (by decide) (by decide) rfl (Nat.le_of_ble_eq_true rfl) ?_
  refine fx_sipush (nI 128) dX6_program_129 (by decide) ?_
  refine fx_icn_le 139 dX6_program_132 (by decide) (by omega) (by omega) (fun c132 => ?_) (fun c132 => ?_)
  · skip
    refine fx_iloadn dX6_program_139 rfl ?_
    refine fx_iret dX6_program_140 rfl ?_
    exact ⟨by rw [hv, if_neg (by omega)], rfl⟩
  · skip
    refine fx_iconst (-1) dX6_program_135 (by decide) ?_
    refine fx_goto 140 dX6_program_136 (by decide) ?_
    refine fx_iret dX6_program_140 rfl ?_
    exact ⟨by rw [hv, if_pos (by omega)], rfl⟩
theorem p_rf_program {g : fx_G} {h : fx_H} {a lim nw : Nat} {b : Nat → Nat} (D : rd h a b lim) (V : ml_v b nw) (hl : 4 * nw ≤ lim) (F3 : ml_F3a b) (F5 : ml_f5 b) (x : Nat) (hx : x ≤ 256) : fx_P g mX6_program 7 151 [.ref a, .int (nI x)] h (.int (ml_ps b x)) := by
  obtain ⟨fs, h1⟩ := D.at
  have hs := V.six
  have w8 := V.w.2.1 8 (by decide)
  have e6 : ml_rl b 6 = ml_H b 8 := rfl
  have qi := ml_i_lt V.1 x
  refine fx_Met.of rfl (Nat.le_of_ble_eq_true rfl) ?_
  by_cases hx6 : x = 256
  · subst hx6
    by_cases e8 : ml_H b 8 = 0
    · have hps : ml_ps b 256 = -1 := by
        unfold ml_ps ml_pb
        rw [if_pos rfl, e6, e8]
        have : ml_s b (nI 0 - nI 1) = 0 := by
          unfold ml_s
          rw [ml_eI_m 6 (by decide)]
        rw [this, if_neg (by decide)]
        unfold ml_ju ml_s
        rw [ml_eI_m 6 (by decide), if_neg (by decide)]
      refine fx_aloadn dX6_program_0 rfl ?_
      refine fx_bipush (nI 8) dX6_program_1 (by decide) ?_
      refine fx_callVp dX6_program_3 vX6_half kkX6_57 rfl rfl (by assumption) (p_rf_half D 8 (by omega)) rfl (by decide) (by decide) rfl (Nat.le_of_ble_eq_true rfl) ?_
      refine fx_iconst (nI 1) dX6_program_6 (by decide) ?_
      refine fx_isub dX6_program_7 ?_
      refine fx_istoren dX6_program_8 (by decide) ?_
      refine fx_iconst (-1) dX6_program_9 (by decide) ?_
      refine fx_istoren dX6_program_10 (by decide) ?_
      refine fx_iconst (nI 0) dX6_program_11 (by decide) ?_
      refine fx_istore dX6_program_12 (by decide) ?_
      refine fx_iloadn dX6_program_14 rfl ?_
      refine fx_sipush (nI 256) dX6_program_15 (by decide) ?_
      refine fx_icmp_ne 60 dX6_program_18 (by decide) (fun c18 => absurd (rfl) c18) (fun c18 => ?_)
      refine fx_iloadn dX6_program_21 rfl ?_
      refine fx_if_lt 37 dX6_program_22 (by decide) (fun c22 => ?_) (fun c22 => absurd (by rw [e8]; decide) c22)
      refine fx_iconst (-1) dX6_program_37 (by decide) ?_
      refine fx_iret dX6_program_38 rfl ?_
      exact ⟨by rw [hps], rfl⟩
    · have hlast : ml_H b 8 - 1 < ml_rl b 6 := by omega
      have hsl := ml_s_lt V.1 (nI (ml_H b 8 - 1))
      have hpb : ml_pb b 256 = if ml_s b (nI (ml_H b 8 - 1)) = 255 then nI (ml_H b 8 - 1) else -1 := by
        unfold ml_pb
        rw [if_pos rfl, e6, pk_sub (by omega)]
      by_cases h255 : ml_s b (nI (ml_H b 8 - 1)) = 255
      · have htg : 256 * ml_o b (nI (ml_H b 8 - 1)) + ml_r b (nI (ml_H b 8 - 1)) < ml_rl b 6 := by
          have h3 := F5 _ hlast
          unfold ml_stp at h3
          rw [if_pos (by omega)] at h3
          exact h3
        have hps : ml_ps b 256 = if 128 < ml_s b (nI (256 * ml_o b (nI (ml_H b 8 - 1)) + ml_r b (nI (ml_H b 8 - 1)))) then -1 else nI (256 * ml_o b (nI (ml_H b 8 - 1)) + ml_r b (nI (ml_H b 8 - 1))) := by
          unfold ml_ps
          rw [hpb, if_pos h255]
          unfold ml_ju
          rw [if_pos (by omega)]
        refine fx_aloadn dX6_program_0 rfl ?_
        refine fx_bipush (nI 8) dX6_program_1 (by decide) ?_
        refine fx_callVp dX6_program_3 vX6_half kkX6_57 rfl rfl (by assumption) (p_rf_half D 8 (by omega)) rfl (by decide) (by decide) rfl (Nat.le_of_ble_eq_true rfl) ?_
        refine fx_iconst (nI 1) dX6_program_6 (by decide) ?_
        refine fx_isub dX6_program_7 ?_
        rw [pk_sub (by omega)]
        refine fx_istoren dX6_program_8 (by decide) ?_
        refine fx_iconst (-1) dX6_program_9 (by decide) ?_
        refine fx_istoren dX6_program_10 (by decide) ?_
        refine fx_iconst (nI 0) dX6_program_11 (by decide) ?_
        refine fx_istore dX6_program_12 (by decide) ?_
        refine fx_iloadn dX6_program_14 rfl ?_
        refine fx_sipush (nI 256) dX6_program_15 (by decide) ?_
        refine fx_icmp_ne 60 dX6_program_18 (by decide) (fun c18 => absurd (rfl) c18) (fun c18 => ?_)
        refine fx_iloadn dX6_program_21 rfl ?_
        refine fx_if_lt 37 dX6_program_22 (by decide) (fun c22 => absurd c22 (nI_pos (by omega))) (fun c22 => ?_)
        refine fx_aloadn dX6_program_25 rfl ?_
        refine fx_iloadn dX6_program_26 rfl ?_
        refine fx_iconst (nI 0) dX6_program_27 (by decide) ?_
        refine fx_callVp dX6_program_28 vX6_step kkX6_88 rfl rfl (by assumption) (p_rf_step0 D V hl _ hlast) rfl (by decide) (by decide) rfl (Nat.le_of_ble_eq_true rfl) ?_
        refine fx_sipush (nI 255) dX6_program_31 (by decide) ?_
        refine fx_icmp_eq 39 dX6_program_34 (by decide) (fun c34 => ?_) (fun c34 => absurd (by rw [h255]) c34)
        refine fx_sipush (nI 256) dX6_program_39 (by decide) ?_
        refine fx_aloadn dX6_program_42 rfl ?_
        refine fx_iloadn dX6_program_43 rfl ?_
        refine fx_iconst (nI 2) dX6_program_44 (by decide) ?_
        refine fx_callVp dX6_program_45 vX6_step kkX6_88 rfl rfl (by assumption) (p_rf_step2 D V hl _ hlast) rfl (by decide) (by decide) rfl (Nat.le_of_ble_eq_true rfl) ?_
        refine fx_imul dX6_program_48 ?_
        refine fx_aloadn dX6_program_49 rfl ?_
        refine fx_iloadn dX6_program_50 rfl ?_
        refine fx_iconst (nI 3) dX6_program_51 (by decide) ?_
        refine fx_callVp dX6_program_52 vX6_step kkX6_88 rfl rfl (by assumption) (p_rf_step3 D V hl _ hlast) rfl (by decide) (by decide) rfl (Nat.le_of_ble_eq_true rfl) ?_
        refine fx_iadd dX6_program_55 ?_
        rw [pk_mul, nI_add]
        refine fx_istoren dX6_program_56 (by decide) ?_
        refine fx_goto 123 dX6_program_57 (by decide) ?_
        exact l_rf_prog D V hl 256 _ htg hps _ ⟨rfl, rfl, trivial⟩
      · have hps : ml_ps b 256 = -1 := by
          unfold ml_ps
          rw [hpb, if_neg h255]
          unfold ml_ju ml_s
          rw [ml_eI_m 6 (by decide), if_neg (by decide)]
        refine fx_aloadn dX6_program_0 rfl ?_
        refine fx_bipush (nI 8) dX6_program_1 (by decide) ?_
        refine fx_callVp dX6_program_3 vX6_half kkX6_57 rfl rfl (by assumption) (p_rf_half D 8 (by omega)) rfl (by decide) (by decide) rfl (Nat.le_of_ble_eq_true rfl) ?_
        refine fx_iconst (nI 1) dX6_program_6 (by decide) ?_
        refine fx_isub dX6_program_7 ?_
        rw [pk_sub (by omega)]
        refine fx_istoren dX6_program_8 (by decide) ?_
        refine fx_iconst (-1) dX6_program_9 (by decide) ?_
        refine fx_istoren dX6_program_10 (by decide) ?_
        refine fx_iconst (nI 0) dX6_program_11 (by decide) ?_
        refine fx_istore dX6_program_12 (by decide) ?_
        refine fx_iloadn dX6_program_14 rfl ?_
        refine fx_sipush (nI 256) dX6_program_15 (by decide) ?_
        refine fx_icmp_ne 60 dX6_program_18 (by decide) (fun c18 => absurd (rfl) c18) (fun c18 => ?_)
        refine fx_iloadn dX6_program_21 rfl ?_
        refine fx_if_lt 37 dX6_program_22 (by decide) (fun c22 => absurd c22 (nI_pos (by omega))) (fun c22 => ?_)
        refine fx_aloadn dX6_program_25 rfl ?_
        refine fx_iloadn dX6_program_26 rfl ?_
        refine fx_iconst (nI 0) dX6_program_27 (by decide) ?_
        refine fx_callVp dX6_program_28 vX6_step kkX6_88 rfl rfl (by assumption) (p_rf_step0 D V hl _ hlast) rfl (by decide) (by decide) rfl (Nat.le_of_ble_eq_true rfl) ?_
        refine fx_sipush (nI 255) dX6_program_31 (by decide) ?_
        refine fx_icmp_eq 39 dX6_program_34 (by decide) (fun c34 => absurd c34 (fun e => h255 ((nI_eq (by omega) (by decide)).mp e))) (fun c34 => ?_)
        refine fx_iconst (-1) dX6_program_37 (by decide) ?_
        refine fx_iret dX6_program_38 rfl ?_
        exact ⟨by rw [hps], rfl⟩
  · have hm1 : ml_ju b (-1) = -1 := by
      unfold ml_ju ml_s
      rw [ml_eI_m 6 (by decide), if_neg (by decide)]
    by_cases hx0 : ml_i b x = 0
    · have hps : ml_ps b x = -1 := by
        unfold ml_ps ml_pb
        rw [if_neg hx6, if_neg (by rw [ml_tagN (by omega), hx0]; decide), hm1]
      refine fx_aloadn dX6_program_0 rfl ?_
      refine fx_bipush (nI 8) dX6_program_1 (by decide) ?_
      refine fx_callVp dX6_program_3 vX6_half kkX6_57 rfl rfl (by assumption) (p_rf_half D 8 (by omega)) rfl (by decide) (by decide) rfl (Nat.le_of_ble_eq_true rfl) ?_
      refine fx_iconst (nI 1) dX6_program_6 (by decide) ?_
      refine fx_isub dX6_program_7 ?_
      refine fx_istoren dX6_program_8 (by decide) ?_
      refine fx_iconst (-1) dX6_program_9 (by decide) ?_
      refine fx_istoren dX6_program_10 (by decide) ?_
      refine fx_iconst (nI 0) dX6_program_11 (by decide) ?_
      refine fx_istore dX6_program_12 (by decide) ?_
      refine fx_iloadn dX6_program_14 rfl ?_
      refine fx_sipush (nI 256) dX6_program_15 (by decide) ?_
      refine fx_icmp_ne 60 dX6_program_18 (by decide) (fun c18 => ?_) (fun c18 => absurd c18 (fun e => absurd ((nI_eq (by omega) (by decide)).mp e) (by omega)))
      refine fx_aloadn dX6_program_60 rfl ?_
      refine fx_iloadn dX6_program_61 rfl ?_
      refine fx_callVp dX6_program_62 vX6_isThere kkX6_76 rfl rfl (by assumption) (p_rf_isThere D V hl _) rfl (by decide) (by decide) rfl (Nat.le_of_ble_eq_true rfl) ?_
      refine fx_if_eq 80 dX6_program_65 (by decide) (fun c65 => ?_) (fun c65 => absurd (bI_0.mpr (fun q => q (by rw [ml_iI_n (by omega)]; exact hx0))) c65)
      refine fx_iconst (-1) dX6_program_80 (by decide) ?_
      refine fx_iret dX6_program_81 rfl ?_
      exact ⟨by rw [hps], rfl⟩
    · by_cases htag : ml_i b x / 256 % 4 = 1
      · have hps : ml_ps b x = ml_ju b (nI (ml_i b x % 256)) := by
          unfold ml_ps ml_pb
          rw [if_neg hx6, if_pos (by rw [ml_tagN (by omega)]; exact htag), ml_restN (by omega)]
        have hrest : ml_i b x % 256 < ml_rl b 6 := by
          have := F3 x (by omega) (by rw [ml_tagN (by omega)]; exact htag)
          rw [ml_restN (by omega)] at this
          exact this
        have hsr := ml_s_lt V.1 (nI (ml_i b x % 256))
        refine fx_aloadn dX6_program_0 rfl ?_
        refine fx_bipush (nI 8) dX6_program_1 (by decide) ?_
        refine fx_callVp dX6_program_3 vX6_half kkX6_57 rfl rfl (by assumption) (p_rf_half D 8 (by omega)) rfl (by decide) (by decide) rfl (Nat.le_of_ble_eq_true rfl) ?_
        refine fx_iconst (nI 1) dX6_program_6 (by decide) ?_
        refine fx_isub dX6_program_7 ?_
        refine fx_istoren dX6_program_8 (by decide) ?_
        refine fx_iconst (-1) dX6_program_9 (by decide) ?_
        refine fx_istoren dX6_program_10 (by decide) ?_
        refine fx_iconst (nI 0) dX6_program_11 (by decide) ?_
        refine fx_istore dX6_program_12 (by decide) ?_
        refine fx_iloadn dX6_program_14 rfl ?_
        refine fx_sipush (nI 256) dX6_program_15 (by decide) ?_
        refine fx_icmp_ne 60 dX6_program_18 (by decide) (fun c18 => ?_) (fun c18 => absurd c18 (fun e => absurd ((nI_eq (by omega) (by decide)).mp e) (by omega)))
        refine fx_aloadn dX6_program_60 rfl ?_
        refine fx_iloadn dX6_program_61 rfl ?_
        refine fx_callVp dX6_program_62 vX6_isThere kkX6_76 rfl rfl (by assumption) (p_rf_isThere D V hl _) rfl (by decide) (by decide) rfl (Nat.le_of_ble_eq_true rfl) ?_
        refine fx_if_eq 80 dX6_program_65 (by decide) (fun c65 => absurd c65 (fun q => (bI_0.mp q) (by rw [ml_iI_n (by omega)]; exact hx0))) (fun c65 => ?_)
        refine fx_aloadn dX6_program_68 rfl ?_
        refine fx_iloadn dX6_program_69 rfl ?_
        refine fx_iconst (nI 2) dX6_program_70 (by decide) ?_
        refine fx_callVp dX6_program_71 vX6_info kkX6_71 rfl rfl (by assumption) (p_rf_info2 D V hl x hx0) rfl (by decide) (by decide) rfl (Nat.le_of_ble_eq_true rfl) ?_
        refine fx_iconst (nI 4) dX6_program_74 (by decide) ?_
        refine fx_irem dX6_program_75 (by decide) ?_
        rw [pk_rem (by omega) (by decide) (by decide)]
        refine fx_iconst (nI 1) dX6_program_76 (by decide) ?_
        refine fx_icmp_eq 82 dX6_program_77 (by decide) (fun c77 => ?_) (fun c77 => absurd (by rw [show ml_i b x / 256 % 256 % 4 = 1 by omega]) c77)
        refine fx_aloadn dX6_program_82 rfl ?_
        refine fx_iloadn dX6_program_83 rfl ?_
        refine fx_iconst (nI 3) dX6_program_84 (by decide) ?_
        refine fx_callVp dX6_program_85 vX6_info kkX6_71 rfl rfl (by assumption) (p_rf_info3 D V hl x hx0) rfl (by decide) (by decide) rfl (Nat.le_of_ble_eq_true rfl) ?_
        refine fx_istoren dX6_program_88 (by decide) ?_
        refine fx_aloadn dX6_program_89 rfl ?_
        refine fx_iloadn dX6_program_90 rfl ?_
        refine fx_iconst (nI 0) dX6_program_91 (by decide) ?_
        refine fx_callVp dX6_program_92 vX6_step kkX6_88 rfl rfl (by assumption) (p_rf_step0 D V hl _ hrest) rfl (by decide) (by decide) rfl (Nat.le_of_ble_eq_true rfl) ?_
        refine fx_sipush (nI 128) dX6_program_95 (by decide) ?_
        refine fx_icn_le 121 dX6_program_98 (by decide) (by omega) (by omega) (fun c98 => ?_) (fun c98 => ?_)
        · skip
          refine fx_iloadn dX6_program_121 rfl ?_
          refine fx_istoren dX6_program_122 (by decide) ?_
          exact l_rf_prog D V hl x _ hrest (by rw [hps]; unfold ml_ju; rw [if_neg (by omega), if_neg (by omega)]) _ ⟨rfl, rfl, trivial⟩
        · skip
          refine fx_sipush (nI 256) dX6_program_101 (by decide) ?_
          refine fx_aloadn dX6_program_104 rfl ?_
          refine fx_iloadn dX6_program_105 rfl ?_
          refine fx_iconst (nI 2) dX6_program_106 (by decide) ?_
          refine fx_callVp dX6_program_107 vX6_step kkX6_88 rfl rfl (by assumption) (p_rf_step2 D V hl _ hrest) rfl (by decide) (by decide) rfl (Nat.le_of_ble_eq_true rfl) ?_
          refine fx_imul dX6_program_110 ?_
          refine fx_aloadn dX6_program_111 rfl ?_
          refine fx_iloadn dX6_program_112 rfl ?_
          refine fx_iconst (nI 3) dX6_program_113 (by decide) ?_
          refine fx_callVp dX6_program_114 vX6_step kkX6_88 rfl rfl (by assumption) (p_rf_step3 D V hl _ hrest) rfl (by decide) (by decide) rfl (Nat.le_of_ble_eq_true rfl) ?_
          refine fx_iadd dX6_program_117 ?_
          refine fx_goto 122 dX6_program_118 (by decide) ?_
          rw [pk_mul, nI_add]
          refine fx_istoren dX6_program_122 (by decide) ?_
          exact l_rf_prog D V hl x _ (by have h3 := F5 _ hrest; unfold ml_stp at h3; rw [if_pos c98] at h3; exact h3) (by rw [hps]; unfold ml_ju; rw [if_pos c98]) _ ⟨rfl, rfl, trivial⟩
      · have hps : ml_ps b x = -1 := by
          unfold ml_ps ml_pb
          rw [if_neg hx6, if_neg (by rw [ml_tagN (by omega)]; exact htag), hm1]
        refine fx_aloadn dX6_program_0 rfl ?_
        refine fx_bipush (nI 8) dX6_program_1 (by decide) ?_
        refine fx_callVp dX6_program_3 vX6_half kkX6_57 rfl rfl (by assumption) (p_rf_half D 8 (by omega)) rfl (by decide) (by decide) rfl (Nat.le_of_ble_eq_true rfl) ?_
        refine fx_iconst (nI 1) dX6_program_6 (by decide) ?_
        refine fx_isub dX6_program_7 ?_
        refine fx_istoren dX6_program_8 (by decide) ?_
        refine fx_iconst (-1) dX6_program_9 (by decide) ?_
        refine fx_istoren dX6_program_10 (by decide) ?_
        refine fx_iconst (nI 0) dX6_program_11 (by decide) ?_
        refine fx_istore dX6_program_12 (by decide) ?_
        refine fx_iloadn dX6_program_14 rfl ?_
        refine fx_sipush (nI 256) dX6_program_15 (by decide) ?_
        refine fx_icmp_ne 60 dX6_program_18 (by decide) (fun c18 => ?_) (fun c18 => absurd c18 (fun e => absurd ((nI_eq (by omega) (by decide)).mp e) (by omega)))
        refine fx_aloadn dX6_program_60 rfl ?_
        refine fx_iloadn dX6_program_61 rfl ?_
        refine fx_callVp dX6_program_62 vX6_isThere kkX6_76 rfl rfl (by assumption) (p_rf_isThere D V hl _) rfl (by decide) (by decide) rfl (Nat.le_of_ble_eq_true rfl) ?_
        refine fx_if_eq 80 dX6_program_65 (by decide) (fun c65 => absurd c65 (fun q => (bI_0.mp q) (by rw [ml_iI_n (by omega)]; exact hx0))) (fun c65 => ?_)
        refine fx_aloadn dX6_program_68 rfl ?_
        refine fx_iloadn dX6_program_69 rfl ?_
        refine fx_iconst (nI 2) dX6_program_70 (by decide) ?_
        refine fx_callVp dX6_program_71 vX6_info kkX6_71 rfl rfl (by assumption) (p_rf_info2 D V hl x hx0) rfl (by decide) (by decide) rfl (Nat.le_of_ble_eq_true rfl) ?_
        refine fx_iconst (nI 4) dX6_program_74 (by decide) ?_
        refine fx_irem dX6_program_75 (by decide) ?_
        rw [pk_rem (by omega) (by decide) (by decide)]
        refine fx_iconst (nI 1) dX6_program_76 (by decide) ?_
        refine fx_icmp_eq 82 dX6_program_77 (by decide) (fun c77 => absurd c77 (fun e => htag (by have := (nI_eq (by omega) (by decide)).mp e; omega))) (fun c77 => ?_)
        refine fx_iconst (-1) dX6_program_80 (by decide) ?_
        refine fx_iret dX6_program_81 rfl ?_
        exact ⟨by rw [hps], rfl⟩
theorem l_rf_sought {g : fx_G} {h : fx_H} {a lim nw : Nat} {b : Nat → Nat} (D : rd h a b lim) (V : ml_v b nw) (hl : 4 * nw ≤ lim) (F5 : ml_f5 b) (y v : Int32) : ∀ (n : Nat) (i : Int32), (i = -1 ∧ n = 0 ∨ ∃ j, j < ml_rl b 6 ∧ i = nI j ∧ n = ml_rl b 6 - j) → ml_seek b y (ml_rl b 6) i = v → fx_Y g mX6_sought 8 175 (fun r h' => r = some (.int v) ∧ h' = h) (fun _ _ => False) 6 [(0, .ref a), (2, .int y), (3, .int i)] [] h 0 0 := by
  obtain ⟨fs, h1⟩ := D.at
  have hs := V.six
  have hNL := V.rl (r := 6) (by decide)
  intro n
  induction n using Nat.strongRecOn with
  | ind n ih =>
  intro i hi hv
  rcases hi with ⟨rfl, hn⟩ | ⟨j, hj, rfl, hn⟩
  · skip
    refine fx_iloadn dX6_sought_6 rfl ?_
    refine fx_if_lt 59 dX6_sought_7 (by decide) (fun c7 => ?_) (fun c7 => absurd (by decide) c7)
    refine fx_iconst (-1) dX6_sought_59 (by decide) ?_
    refine fx_iret dX6_sought_60 rfl ?_
    exact ⟨by rw [← hv, seek_m1], rfl⟩
  · have eNL : ml_rl b 6 = ml_rl b 6 - 1 + 1 := by omega
    have q1 := ml_s_lt V.1 (nI j)
    refine fx_iloadn dX6_sought_6 rfl ?_
    refine fx_if_lt 59 dX6_sought_7 (by decide) (fun c7 => absurd c7 (nI_pos (by omega))) (fun c7 => ?_)
    refine fx_aloadn dX6_sought_10 rfl ?_
    refine fx_iloadn dX6_sought_11 rfl ?_
    refine fx_iconst (nI 0) dX6_sought_12 (by decide) ?_
    refine fx_callVp dX6_sought_13 vX6_step kkX6_88 rfl rfl (by assumption) (p_rf_step0 D V hl j hj) rfl (by decide) (by decide) rfl (Nat.le_of_ble_eq_true rfl) ?_
    refine fx_istore dX6_sought_16 (by decide) ?_
    refine fx_iload dX6_sought_18 rfl ?_
    refine fx_sipush (nI 129) dX6_sought_20 (by decide) ?_
    refine fx_icn_ge 38 dX6_sought_23 (by decide) (by omega) (by omega) (fun c23 => ?_) (fun c23 => ?_)
    · skip
      refine fx_iload dX6_sought_38 rfl ?_
      refine fx_bipush (nI 127) dX6_sought_40 (by decide) ?_
      refine fx_icn_le 49 dX6_sought_42 (by decide) (by omega) (by omega) (fun c42 => ?_) (fun c42 => ?_)
      · skip
        refine fx_iloadn dX6_sought_49 rfl ?_
        refine fx_iload dX6_sought_50 rfl ?_
        refine fx_iadd dX6_sought_52 ?_
        refine fx_iconst (nI 1) dX6_sought_53 (by decide) ?_
        refine fx_iadd dX6_sought_54 ?_
        refine fx_istoren dX6_sought_55 (by decide) ?_
        refine fx_goto 6 dX6_sought_56 (by decide) ?_
        have hv2 : ml_seek b y (ml_rl b 6 - 1) (ml_nx b (nI j)) = v := by
          rw [← hv, eNL]
          conv => rhs; unfold ml_seek
          rw [if_neg (nI_m1 _ (by omega)), if_neg (fun e => by omega), show ml_rl b 6 - 1 + 1 - 1 = ml_rl b 6 - 1 by omega]
        rcases ok_nx V F5 hj (by omega) with q | ⟨k, hk1, hk2, q⟩
        · exfalso
          unfold ml_nx at q
          rw [if_neg (by omega), nI_add, nI_add] at q
          have h4 := F5 j hj
          unfold ml_stp at h4
          rw [if_neg (by omega)] at h4
          have h5 := h4.2.1
          exact nI_m1 _ (by omega) q
        · have q3 : ml_nx b (nI j) = nI j + nI (ml_s b (nI j)) + nI 1 := if_neg (by omega)
          rw [← q3, q]
          refine fx_to (ih (ml_rl b 6 - k) (by omega) (nI k) (Or.inr ⟨k, hk2, rfl, rfl⟩) ?_) ⟨rfl, rfl, rfl, trivial⟩
          rw [q] at hv2
          rw [← hv2]
          exact seek_enough V F5 y _ _ k hk2 (by omega) (by omega)
      · skip
        refine fx_iconst (-1) dX6_sought_45 (by decide) ?_
        refine fx_goto 55 dX6_sought_46 (by decide) ?_
        refine fx_istoren dX6_sought_55 (by decide) ?_
        refine fx_goto 6 dX6_sought_56 (by decide) ?_
        have hv2 : ml_seek b y (ml_rl b 6 - 1) (ml_nx b (nI j)) = v := by
          rw [← hv, eNL]
          conv => rhs; unfold ml_seek
          rw [if_neg (nI_m1 _ (by omega)), if_neg (fun e => by omega), show ml_rl b 6 - 1 + 1 - 1 = ml_rl b 6 - 1 by omega]
        have q : ml_nx b (nI j) = -1 := if_pos (by omega)
        rw [q, seek_m1] at hv2
        refine fx_to (ih 0 (by omega) (-1) (Or.inl ⟨rfl, rfl⟩) ?_) ⟨rfl, rfl, rfl, trivial⟩
        rw [seek_m1, hv2]
    · skip
      refine fx_aloadn dX6_sought_26 rfl ?_
      refine fx_iloadn dX6_sought_27 rfl ?_
      refine fx_iconst (nI 1) dX6_sought_28 (by decide) ?_
      refine fx_callVp dX6_sought_29 vX6_step kkX6_88 rfl rfl (by assumption) (p_rf_step1 D V hl j hj) rfl (by decide) (by decide) rfl (Nat.le_of_ble_eq_true rfl) ?_
      refine fx_iloadn dX6_sought_32 rfl ?_
      refine fx_icmp_ne 38 dX6_sought_33 (by decide) (fun c33 => ?_) (fun c33 => ?_)
      · skip
        refine fx_iload dX6_sought_38 rfl ?_
        refine fx_bipush (nI 127) dX6_sought_40 (by decide) ?_
        refine fx_icn_le 49 dX6_sought_42 (by decide) (by omega) (by omega) (fun c42 => ?_) (fun c42 => ?_)
        · skip
          refine fx_iloadn dX6_sought_49 rfl ?_
          refine fx_iload dX6_sought_50 rfl ?_
          refine fx_iadd dX6_sought_52 ?_
          refine fx_iconst (nI 1) dX6_sought_53 (by decide) ?_
          refine fx_iadd dX6_sought_54 ?_
          refine fx_istoren dX6_sought_55 (by decide) ?_
          refine fx_goto 6 dX6_sought_56 (by decide) ?_
          have hv2 : ml_seek b y (ml_rl b 6 - 1) (ml_nx b (nI j)) = v := by
            rw [← hv, eNL]
            conv => rhs; unfold ml_seek
            rw [if_neg (nI_m1 _ (by omega)), if_neg (fun e => c33 e.2), show ml_rl b 6 - 1 + 1 - 1 = ml_rl b 6 - 1 by omega]
          rcases ok_nx V F5 hj (by omega) with q | ⟨k, hk1, hk2, q⟩
          · exfalso
            unfold ml_nx at q
            rw [if_neg (by omega), nI_add, nI_add] at q
            have h4 := F5 j hj
            unfold ml_stp at h4
            rw [if_neg (by omega)] at h4
            have h5 := h4.2.1
            exact nI_m1 _ (by omega) q
          · have q3 : ml_nx b (nI j) = nI j + nI (ml_s b (nI j)) + nI 1 := if_neg (by omega)
            rw [← q3, q]
            refine fx_to (ih (ml_rl b 6 - k) (by omega) (nI k) (Or.inr ⟨k, hk2, rfl, rfl⟩) ?_) ⟨rfl, rfl, rfl, trivial⟩
            rw [q] at hv2
            rw [← hv2]
            exact seek_enough V F5 y _ _ k hk2 (by omega) (by omega)
        · skip
          refine fx_iconst (-1) dX6_sought_45 (by decide) ?_
          refine fx_goto 55 dX6_sought_46 (by decide) ?_
          refine fx_istoren dX6_sought_55 (by decide) ?_
          refine fx_goto 6 dX6_sought_56 (by decide) ?_
          have hv2 : ml_seek b y (ml_rl b 6 - 1) (ml_nx b (nI j)) = v := by
            rw [← hv, eNL]
            conv => rhs; unfold ml_seek
            rw [if_neg (nI_m1 _ (by omega)), if_neg (fun e => c33 e.2), show ml_rl b 6 - 1 + 1 - 1 = ml_rl b 6 - 1 by omega]
          have q : ml_nx b (nI j) = -1 := if_pos (by omega)
          rw [q, seek_m1] at hv2
          refine fx_to (ih 0 (by omega) (-1) (Or.inl ⟨rfl, rfl⟩) ?_) ⟨rfl, rfl, rfl, trivial⟩
          rw [seek_m1, hv2]
      · skip
        refine fx_iloadn dX6_sought_36 rfl ?_
        refine fx_iret dX6_sought_37 rfl ?_
        refine ⟨?_, rfl⟩
        rw [← hv, eNL]
        unfold ml_seek
        rw [if_neg (nI_m1 _ (by omega)), if_pos ⟨by omega, c33⟩]
theorem p_rf_sought {g : fx_G} {h : fx_H} {a lim nw : Nat} {b : Nat → Nat} (D : rd h a b lim) (V : ml_v b nw) (hl : 4 * nw ≤ lim) (F3 : ml_F3a b) (F5 : ml_f5 b) (x : Nat) (hx : x ≤ 256) (y : Int32) : fx_P g mX6_sought 8 175 [.ref a, .int (nI x), .int y] h (.int (ml_seek b y (ml_rl b 6) (ml_ps b x))) := by
  obtain ⟨fs, h1⟩ := D.at
  have hs := V.six
  refine fx_Met.of rfl (Nat.le_of_ble_eq_true rfl) ?_
  refine fx_aloadn dX6_sought_0 rfl ?_
  refine fx_iloadn dX6_sought_1 rfl ?_
  refine fx_callVp dX6_sought_2 vX6_program kkX6_94 rfl rfl (by assumption) (p_rf_program D V hl F3 F5 x hx) rfl (by decide) (by decide) rfl (Nat.le_of_ble_eq_true rfl) ?_
  refine fx_istoren dX6_sought_5 (by decide) ?_
  refine fx_to (l_rf_sought D V hl F5 y _ (match ml_ps b x with | _ => if ml_ps b x = -1 then 0 else ml_rl b 6 - (ml_ps b x).toNatClampNeg) _ ?_ rfl) ⟨rfl, rfl, rfl, trivial⟩
  rcases ok_ps V F3 F5 hx with q | ⟨j, hj, q⟩
  · exact Or.inl ⟨q, by rw [q]; rfl⟩
  · have := V.rl (r := 6) (by decide)
    exact Or.inr ⟨j, hj, q, by rw [q]; show (if nI j = -1 then 0 else _) = _; rw [if_neg (nI_m1 _ (by omega)), nI_clamp (by omega)]⟩
