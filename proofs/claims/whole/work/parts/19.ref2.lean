/-- the size that a font is loaded at -/
def ml_z (b : Nat → Nat) (x : Int32) : Int32 := if x = 0 then nI (ml_e b 0 1) >>> (nI 4 &&& 31) else x
theorem c_fo_scaleTo {g : fx_G} {S : Nat → Prop} {h : fx_H} {a nw : Nat} {b : Nat → Nat} {z : Int32} (H : fo S h a b nw z) (V : ml_v b nw) (x : Int32) : fx_Met g mX3_scaleTo 2 43 [.ref a, .int x] h 0 0 (fun r h' => r = none ∧ fo S h' a b nw (ml_z b x) ∧ kp (fun y => y = a) h h') := by
  obtain ⟨pw, ps, pl, pi, fw, fs, fl, fi, h1, h2, h3, h4, h5, h6, h7, h8, s1⟩ := id H
  refine fx_Met.of rfl (Nat.le_of_ble_eq_true rfl) ?_
  unfold ml_z
  refine fx_aloadn dX3_scaleTo_0 rfl ?_
  refine fx_iloadn dX3_scaleTo_1 rfl ?_
  refine fx_if_ne 14 dX3_scaleTo_2 (by decide) (fun c2 => ?_) (fun c2 => ?_)
  · skip
    refine fx_iloadn dX3_scaleTo_14 rfl ?_
    refine fx_putV dX3_scaleTo_15 ffX3_21 (by assumption) rfl rfl (Nat.le_of_ble_eq_true rfl) (fun h1' e1 o1 => ?_)
    refine fx_vret dX3_scaleTo_18 rfl ?_
    rw [if_neg c2]
    exact ⟨rfl, ⟨pw, ps, pl, pi, fw, fs, fl, fi, e1, (o1 _ (Ne.symm (ne_oa h1 h2))).trans h2, (o1 _ (Ne.symm (ne_oa h1 h3))).trans h3, (o1 _ (Ne.symm (ne_oa h1 h4))).trans h4, (o1 _ (Ne.symm (ne_oa h1 h5))).trans h5, h6, h7, h8, s1⟩, kp.put kp.rf o1 (Or.inl rfl)⟩
  · skip
    refine fx_aloadn dX3_scaleTo_5 rfl ?_
    refine fx_callVp dX3_scaleTo_6 vX3_designSize kkX3_43 rfl rfl (by assumption) (p_fo_designSize H V) rfl (by decide) (by decide) rfl (Nat.le_of_ble_eq_true rfl) ?_
    refine fx_iconst (nI 4) dX3_scaleTo_9 (by decide) ?_
    refine fx_ishr dX3_scaleTo_10 ?_
    refine fx_goto 15 dX3_scaleTo_11 (by decide) ?_
    refine fx_putV dX3_scaleTo_15 ffX3_21 (by assumption) rfl rfl (Nat.le_of_ble_eq_true rfl) (fun h1' e1 o1 => ?_)
    refine fx_vret dX3_scaleTo_18 rfl ?_
    rw [if_pos c2]
    exact ⟨rfl, ⟨pw, ps, pl, pi, fw, fs, fl, fi, e1, (o1 _ (Ne.symm (ne_oa h1 h2))).trans h2, (o1 _ (Ne.symm (ne_oa h1 h3))).trans h3, (o1 _ (Ne.symm (ne_oa h1 h4))).trans h4, (o1 _ (Ne.symm (ne_oa h1 h5))).trans h5, h6, h7, h8, s1⟩, kp.put kp.rf o1 (Or.inl rfl)⟩
/-! FontDeskModel: the faults, as the reference finds them -/
def rg (h : fx_H) (a : Nat) (b : Nat → Nat) (nb : Nat) : Prop := ∃ (F : List Value) (pb ba : Nat) (f : Nat → Int32), h a = some (.inr (5, F)) ∧ F[1]? = some (.ref pb) ∧ F[7]? = some (.int (nI ba)) ∧ h pb = some (.inl (0, 40000, .inl f)) ∧ ba + nb ≤ 40000 ∧ (∀ i, i < nb → f (ba + i) = nI (b i)) ∧ F[2]? = some (.int (nI nb))
theorem rg.rd {h : fx_H} {a : Nat} {b : Nat → Nat} {nb : Nat} (D : rg h a b nb) : rd h a b nb := by
  obtain ⟨F, pb, ba, f, h1, h2, h3, h4, h5, h6, -⟩ := D
  exact ⟨F, pb, ba, f, h1, h2, h3, h4, h5, h6⟩

theorem l_rf_wh3 {g : fx_G} {h : fx_H} {a nb : Nat} {b : Nat → Nat} (D : rg h a b nb) (hb : ∀ i, b i < 256) (h24 : 24 ≤ nb) (lv : List (Nat × Value)) (hlv : fx_le [(0, .ref a), (1, .int (bI (((∀ j, j < 12 → ml_H b j < 32768) ∧ 1 < ml_H b 1 ∧ ml_H b 2 ≤ ml_H b 3 + 1 ∧ ml_H b 3 < 256 ∧ ml_H b 10 < 257) ∧ ∀ j, 4 ≤ j → j < 8 → ml_H b j ≠ 0)))] lv) : fx_Y g mX6_isWhole 4 85 (fun r h' => r = some (.int (bI (ml_f1 b nb))) ∧ h' = h) (fun _ _ => False) 136 lv [] h 0 0 := by
  obtain ⟨F, pb, ba, f, h1, h2, h3, h4, h5, h6, h7⟩ := id D
  have hh : ∀ k, ml_H b k < 65536 := ml_H_lt hb
  have DR := D.rd
  refine fx_sub _ hlv ?_
  refine fx_iloadn dX6_isWhole_136 rfl ?_
  refine fx_if_eqB 172 dX6_isWhole_137 (by decide) (fun c137 => ?_) (fun c137 => ?_)
  · skip
    refine fx_iconst (nI 0) dX6_isWhole_172 (by decide) ?_
    refine fx_zret dX6_isWhole_173 rfl rfl ?_
    exact fx_no (fun q => c137 ⟨⟨q.2.2.1, by have := q.2.2.2.1; omega, q.2.2.2.2.2.1, by have := q.2.2.2.2.2.2.1; omega, by have := q.2.2.2.2.2.2.2.1; omega⟩, fun j h4 h8 => by have := q.2.2.2.2.1 j h4 h8; omega⟩)
  · skip
    have hw9 : ml_w b := ⟨hb, c137.1.1, c137.1.2.2.1⟩
    have h10 := ml_st_lt hw9 (r := 10) (by decide)
    have hh0 := hh 0
    refine fx_aloadn dX6_isWhole_140 rfl ?_
    refine fx_bipush (nI 10) dX6_isWhole_141 (by decide) ?_
    refine fx_callVp dX6_isWhole_143 vX6_start kkX6_64 rfl rfl (by assumption) (p_rf_start DR hw9 h24 10 (by decide)) rfl (by decide) (by decide) rfl (Nat.le_of_ble_eq_true rfl) ?_
    refine fx_aloadn dX6_isWhole_146 rfl ?_
    refine fx_iconst (nI 0) dX6_isWhole_147 (by decide) ?_
    refine fx_callVp dX6_isWhole_148 vX6_half kkX6_57 rfl rfl (by assumption) (p_rf_half DR 0 (by omega)) rfl (by decide) (by decide) rfl (Nat.le_of_ble_eq_true rfl) ?_
    refine fx_icn_ne 172 dX6_isWhole_151 (by decide) (by omega) (by omega) (fun c151 => ?_) (fun c151 => ?_)
    · skip
      refine fx_iconst (nI 0) dX6_isWhole_172 (by decide) ?_
      refine fx_zret dX6_isWhole_173 rfl rfl ?_
      exact fx_no (fun q => c151 q.2.2.2.2.2.2.2.2)
    · skip
      refine fx_aloadn dX6_isWhole_154 rfl ?_
      refine fx_get dX6_isWhole_155 ffX6_41 (by assumption) (by assumption) ?_
      refine fx_iconst (nI 4) dX6_isWhole_158 (by decide) ?_
      refine fx_aloadn dX6_isWhole_159 rfl ?_
      refine fx_iconst (nI 0) dX6_isWhole_160 (by decide) ?_
      refine fx_callVp dX6_isWhole_161 vX6_half kkX6_57 rfl rfl (by assumption) (p_rf_half DR 0 (by omega)) rfl (by decide) (by decide) rfl (Nat.le_of_ble_eq_true rfl) ?_
      refine fx_imul dX6_isWhole_164 ?_
      rw [pk_mul]
      refine fx_icn_ne 172 dX6_isWhole_165 (by decide) (by omega) (by omega) (fun c165 => ?_) (fun c165 => ?_)
      · skip
        refine fx_iconst (nI 0) dX6_isWhole_172 (by decide) ?_
        refine fx_zret dX6_isWhole_173 rfl rfl ?_
        exact fx_no (fun q => c165 q.2.1)
      · skip
        refine fx_iconst (nI 1) dX6_isWhole_168 (by decide) ?_
        refine fx_goto 173 dX6_isWhole_169 (by decide) ?_
        refine fx_zret dX6_isWhole_173 rfl rfl ?_
        exact fx_yes ⟨h24, c165, c137.1.1, by have := c137.1.2.1; omega, fun j h4 h8 => Nat.pos_of_ne_zero (c137.2 j h4 h8), c137.1.2.2.1, by have := c137.1.2.2.2.1; omega, by have := c137.1.2.2.2.2; omega, c151⟩
theorem l_rf_wh2 {g : fx_G} {h : fx_H} {a nb : Nat} {b : Nat → Nat} (D : rg h a b nb) (hb : ∀ i, b i < 256) (h24 : 24 ≤ nb) : ∀ n k : Nat, 4 ≤ k → k + n = 8 → fx_Y g mX6_isWhole 4 85 (fun r h' => r = some (.int (bI (ml_f1 b nb))) ∧ h' = h) (fun _ _ => False) 106 [(0, .ref a), (1, .int (bI (((∀ j, j < 12 → ml_H b j < 32768) ∧ 1 < ml_H b 1 ∧ ml_H b 2 ≤ ml_H b 3 + 1 ∧ ml_H b 3 < 256 ∧ ml_H b 10 < 257) ∧ ∀ j, 4 ≤ j → j < k → ml_H b j ≠ 0))), (2, .int (nI k))] [] h 0 0 := by
  obtain ⟨F, pb, ba, f, h1, h2, h3, h4, h5, h6, h7⟩ := id D
  have hh : ∀ k, ml_H b k < 65536 := ml_H_lt hb
  have DR := D.rd
  intro n
  induction n using Nat.strongRecOn with
  | ind n ih =>
  intro k hk4 hk
  refine fx_iloadn dX6_isWhole_106 rfl ?_
  refine fx_bipush (nI 8) dX6_isWhole_107 (by decide) ?_
  refine fx_icn_ge 136 dX6_isWhole_109 (by decide) (by omega) (by omega) (fun c109 => ?_) (fun c109 => ?_)
  · skip
    rw [show k = 8 by omega]
    exact l_rf_wh3 D hb h24 _ ⟨rfl, rfl, trivial⟩
  · skip
    have j129 : ∀ lv : List (Nat × Value), fx_le [(0, .ref a), (2, .int (nI k))] lv → fx_Y g mX6_isWhole 4 85 (fun r h' => r = some (.int (bI (ml_f1 b nb))) ∧ h' = h) (fun _ _ => False) 129 lv [.int (bI (((∀ j, j < 12 → ml_H b j < 32768) ∧ 1 < ml_H b 1 ∧ ml_H b 2 ≤ ml_H b 3 + 1 ∧ ml_H b 3 < 256 ∧ ml_H b 10 < 257) ∧ ∀ j, 4 ≤ j → j < (k + 1) → ml_H b j ≠ 0))] h 0 0 := by
      intro lv hlv
      refine fx_sub _ hlv ?_
      refine fx_istoren dX6_isWhole_129 (by decide) ?_
      refine fx_iinc (nI 1) dX6_isWhole_130 rfl (by decide) (by decide) ?_
      refine fx_goto 106 dX6_isWhole_133 (by decide) ?_
      simp only [nI_add]
      exact fx_to (ih (n - 1) (by omega) (k + 1) (by omega) (by omega)) ⟨rfl, rfl, rfl, trivial⟩
    have hhk := hh k
    refine fx_iloadn dX6_isWhole_112 rfl ?_
    refine fx_if_eqB 128 dX6_isWhole_113 (by decide) (fun c113 => ?_) (fun c113 => ?_)
    · skip
      refine fx_iconst (nI 0) dX6_isWhole_128 (by decide) ?_
      exact fx_st0 (by rw [bI_f (fun q => c113 ⟨q.1, fun j q1 q2 => q.2 j q1 (by omega)⟩)]) (j129 _ ⟨rfl, rfl, trivial⟩)
    · skip
      refine fx_aloadn dX6_isWhole_116 rfl ?_
      refine fx_iloadn dX6_isWhole_117 rfl ?_
      refine fx_callVp dX6_isWhole_118 vX6_half kkX6_57 rfl rfl (by assumption) (p_rf_half DR k (by omega)) rfl (by decide) (by decide) rfl (Nat.le_of_ble_eq_true rfl) ?_
      refine fx_ifn_le 128 dX6_isWhole_121 (by decide) (by omega) (fun c121 => ?_) (fun c121 => ?_)
      · skip
        refine fx_iconst (nI 0) dX6_isWhole_128 (by decide) ?_
        exact fx_st0 (by rw [bI_f (fun q => q.2 k hk4 (by omega) c121)]) (j129 _ ⟨rfl, rfl, trivial⟩)
      · skip
        refine fx_iconst (nI 1) dX6_isWhole_124 (by decide) ?_
        refine fx_goto 129 dX6_isWhole_125 (by decide) ?_
        exact fx_st0 (by rw [bI_t ⟨c113.1, fun j q1 q2 => by
          by_cases e : j < k
          · exact c113.2 j q1 e
          · rw [show j = k by omega]; exact c121⟩]) (j129 _ ⟨rfl, rfl, trivial⟩)
theorem l_rf_wh1 {g : fx_G} {h : fx_H} {a nb : Nat} {b : Nat → Nat} (D : rg h a b nb) (hb : ∀ i, b i < 256) (h24 : 24 ≤ nb) (lv : List (Nat × Value)) (hlv : fx_le [(0, .ref a), (1, .int (bI (∀ j, j < 12 → ml_H b j < 32768)))] lv) : fx_Y g mX6_isWhole 4 85 (fun r h' => r = some (.int (bI (ml_f1 b nb))) ∧ h' = h) (fun _ _ => False) 47 lv [] h 0 0 := by
  obtain ⟨F, pb, ba, f, h1, h2, h3, h4, h5, h6, h7⟩ := id D
  have hh : ∀ k, ml_H b k < 65536 := ml_H_lt hb
  have DR := D.rd
  refine fx_sub _ hlv ?_
  have j103 : ∀ lv : List (Nat × Value), fx_le [(0, .ref a)] lv → fx_Y g mX6_isWhole 4 85 (fun r h' => r = some (.int (bI (ml_f1 b nb))) ∧ h' = h) (fun _ _ => False) 103 lv [.int (bI ((∀ j, j < 12 → ml_H b j < 32768) ∧ 1 < ml_H b 1 ∧ ml_H b 2 ≤ ml_H b 3 + 1 ∧ ml_H b 3 < 256 ∧ ml_H b 10 < 257))] h 0 0 := by
    intro lv hlv
    refine fx_sub _ hlv ?_
    refine fx_istoren dX6_isWhole_103 (by decide) ?_
    refine fx_iconst (nI 4) dX6_isWhole_104 (by decide) ?_
    refine fx_istoren dX6_isWhole_105 (by decide) ?_
    refine fx_to (l_rf_wh2 D hb h24 4 4 (by decide) rfl) ⟨rfl, ?_, rfl, trivial⟩
    show some (Value.int (bI _)) = some (Value.int (bI _))
    exact congrArg (fun x => some (Value.int x)) (bI_c ⟨fun q => ⟨q, fun j q1 q2 => by omega⟩, fun q => q.1⟩)
  have q1 := hh 1
  have q2 := hh 2
  have q3 := hh 3
  have q10 := hh 10
  refine fx_iloadn dX6_isWhole_47 rfl ?_
  refine fx_if_eqB 102 dX6_isWhole_48 (by decide) (fun c48 => ?_) (fun c48 => ?_)
  · skip
    refine fx_iconst (nI 0) dX6_isWhole_102 (by decide) ?_
    exact fx_st0 (by rw [bI_f (fun q => c48 q.1)]) (j103 _ ⟨rfl, trivial⟩)
  · skip
    refine fx_aloadn dX6_isWhole_51 rfl ?_
    refine fx_iconst (nI 1) dX6_isWhole_52 (by decide) ?_
    refine fx_callVp dX6_isWhole_53 vX6_half kkX6_57 rfl rfl (by assumption) (p_rf_half DR 1 (by omega)) rfl (by decide) (by decide) rfl (Nat.le_of_ble_eq_true rfl) ?_
    refine fx_iconst (nI 1) dX6_isWhole_56 (by decide) ?_
    refine fx_icn_le 102 dX6_isWhole_57 (by decide) (by omega) (by omega) (fun c57 => ?_) (fun c57 => ?_)
    · skip
      refine fx_iconst (nI 0) dX6_isWhole_102 (by decide) ?_
      exact fx_st0 (by rw [bI_f (fun q => by obtain ⟨-, q1, q2, q3, q4⟩ := q; omega)]) (j103 _ ⟨rfl, trivial⟩)
    · skip
      refine fx_aloadn dX6_isWhole_60 rfl ?_
      refine fx_iconst (nI 2) dX6_isWhole_61 (by decide) ?_
      refine fx_callVp dX6_isWhole_62 vX6_half kkX6_57 rfl rfl (by assumption) (p_rf_half DR 2 (by omega)) rfl (by decide) (by decide) rfl (Nat.le_of_ble_eq_true rfl) ?_
      refine fx_aloadn dX6_isWhole_65 rfl ?_
      refine fx_iconst (nI 3) dX6_isWhole_66 (by decide) ?_
      refine fx_callVp dX6_isWhole_67 vX6_half kkX6_57 rfl rfl (by assumption) (p_rf_half DR 3 (by omega)) rfl (by decide) (by decide) rfl (Nat.le_of_ble_eq_true rfl) ?_
      refine fx_iconst (nI 1) dX6_isWhole_70 (by decide) ?_
      refine fx_iadd dX6_isWhole_71 ?_
      rw [nI_add]
      refine fx_icn_gt 102 dX6_isWhole_72 (by decide) (by omega) (by omega) (fun c72 => ?_) (fun c72 => ?_)
      · skip
        refine fx_iconst (nI 0) dX6_isWhole_102 (by decide) ?_
        exact fx_st0 (by rw [bI_f (fun q => by obtain ⟨-, q1, q2, q3, q4⟩ := q; omega)]) (j103 _ ⟨rfl, trivial⟩)
      · skip
        refine fx_aloadn dX6_isWhole_75 rfl ?_
        refine fx_iconst (nI 3) dX6_isWhole_76 (by decide) ?_
        refine fx_callVp dX6_isWhole_77 vX6_half kkX6_57 rfl rfl (by assumption) (p_rf_half DR 3 (by omega)) rfl (by decide) (by decide) rfl (Nat.le_of_ble_eq_true rfl) ?_
        refine fx_sipush (nI 256) dX6_isWhole_80 (by decide) ?_
        refine fx_icn_ge 102 dX6_isWhole_83 (by decide) (by omega) (by omega) (fun c83 => ?_) (fun c83 => ?_)
        · skip
          refine fx_iconst (nI 0) dX6_isWhole_102 (by decide) ?_
          exact fx_st0 (by rw [bI_f (fun q => by obtain ⟨-, q1, q2, q3, q4⟩ := q; omega)]) (j103 _ ⟨rfl, trivial⟩)
        · skip
          refine fx_aloadn dX6_isWhole_86 rfl ?_
          refine fx_bipush (nI 10) dX6_isWhole_87 (by decide) ?_
          refine fx_callVp dX6_isWhole_89 vX6_half kkX6_57 rfl rfl (by assumption) (p_rf_half DR 10 (by omega)) rfl (by decide) (by decide) rfl (Nat.le_of_ble_eq_true rfl) ?_
          refine fx_sipush (nI 257) dX6_isWhole_92 (by decide) ?_
          refine fx_icn_ge 102 dX6_isWhole_95 (by decide) (by omega) (by omega) (fun c95 => ?_) (fun c95 => ?_)
          · skip
            refine fx_iconst (nI 0) dX6_isWhole_102 (by decide) ?_
            exact fx_st0 (by rw [bI_f (fun q => by obtain ⟨-, q1, q2, q3, q4⟩ := q; omega)]) (j103 _ ⟨rfl, trivial⟩)
          · skip
            refine fx_iconst (nI 1) dX6_isWhole_98 (by decide) ?_
            refine fx_goto 103 dX6_isWhole_99 (by decide) ?_
            exact fx_st0 (by rw [bI_t ⟨c48, c57, c72, c83, c95⟩]) (j103 _ ⟨rfl, trivial⟩)
theorem l_rf_wh0 {g : fx_G} {h : fx_H} {a nb : Nat} {b : Nat → Nat} (D : rg h a b nb) (hb : ∀ i, b i < 256) (h24 : 24 ≤ nb) : ∀ n k : Nat, k + n = 12 → fx_Y g mX6_isWhole 4 85 (fun r h' => r = some (.int (bI (ml_f1 b nb))) ∧ h' = h) (fun _ _ => False) 15 [(0, .ref a), (1, .int (bI (∀ j, j < k → ml_H b j < 32768))), (2, .int (nI k))] [] h 0 0 := by
  obtain ⟨F, pb, ba, f, h1, h2, h3, h4, h5, h6, h7⟩ := id D
  have hh : ∀ k, ml_H b k < 65536 := ml_H_lt hb
  have DR := D.rd
  intro n
  induction n using Nat.strongRecOn with
  | ind n ih =>
  intro k hk
  refine fx_iloadn dX6_isWhole_15 rfl ?_
  refine fx_bipush (nI 12) dX6_isWhole_16 (by decide) ?_
  refine fx_icn_ge 47 dX6_isWhole_18 (by decide) (by omega) (by omega) (fun c18 => ?_) (fun c18 => ?_)
  · skip
    rw [show k = 12 by omega]
    exact l_rf_wh1 D hb h24 _ ⟨rfl, rfl, trivial⟩
  · skip
    have j40 : ∀ lv : List (Nat × Value), fx_le [(0, .ref a), (2, .int (nI k))] lv → fx_Y g mX6_isWhole 4 85 (fun r h' => r = some (.int (bI (ml_f1 b nb))) ∧ h' = h) (fun _ _ => False) 40 lv [.int (bI (∀ j, j < (k + 1) → ml_H b j < 32768))] h 0 0 := by
      intro lv hlv
      refine fx_sub _ hlv ?_
      refine fx_istoren dX6_isWhole_40 (by decide) ?_
      refine fx_iinc (nI 1) dX6_isWhole_41 rfl (by decide) (by decide) ?_
      refine fx_goto 15 dX6_isWhole_44 (by decide) ?_
      simp only [nI_add]
      exact fx_to (ih (n - 1) (by omega) (k + 1) (by omega)) ⟨rfl, rfl, rfl, trivial⟩
    have hhk := hh k
    refine fx_iloadn dX6_isWhole_21 rfl ?_
    refine fx_if_eqB 39 dX6_isWhole_22 (by decide) (fun c22 => ?_) (fun c22 => ?_)
    · skip
      refine fx_iconst (nI 0) dX6_isWhole_39 (by decide) ?_
      exact fx_st0 (by rw [bI_f (fun q => c22 (fun j q1 => q j (by omega)))]) (j40 _ ⟨rfl, rfl, trivial⟩)
    · skip
      refine fx_aloadn dX6_isWhole_25 rfl ?_
      refine fx_iloadn dX6_isWhole_26 rfl ?_
      refine fx_callVp dX6_isWhole_27 vX6_half kkX6_57 rfl rfl (by assumption) (p_rf_half DR k (by omega)) rfl (by decide) (by decide) rfl (Nat.le_of_ble_eq_true rfl) ?_
      refine fx_ldc dX6_isWhole_30 qqX6_75 ?_
      refine fx_icn_ge 39 dX6_isWhole_32 (by decide) (by omega) (by omega) (fun c32 => ?_) (fun c32 => ?_)
      · skip
        refine fx_iconst (nI 0) dX6_isWhole_39 (by decide) ?_
        exact fx_st0 (by rw [bI_f (fun q => by have := q k (by omega); omega)]) (j40 _ ⟨rfl, rfl, trivial⟩)
      · skip
        refine fx_iconst (nI 1) dX6_isWhole_35 (by decide) ?_
        refine fx_goto 40 dX6_isWhole_36 (by decide) ?_
        exact fx_st0 (by rw [bI_t (fun j q1 => by
          by_cases e : j < k
          · exact c22 j e
          · rw [show j = k by omega]; exact c32)]) (j40 _ ⟨rfl, rfl, trivial⟩)
theorem p_rf_isWhole {g : fx_G} {h : fx_H} {a nb : Nat} {b : Nat → Nat} (D : rg h a b nb) (hb : ∀ i, b i < 256) : fx_P g mX6_isWhole 4 85 [.ref a] h (.int (bI (ml_f1 b nb))) := by
  obtain ⟨F, pb, ba, f, h1, h2, h3, h4, h5, h6, h7⟩ := id D
  have hh : ∀ k, ml_H b k < 65536 := ml_H_lt hb
  have DR := D.rd
  have hn : nb < 2 ^ 31 := by omega
  refine fx_Met.of rfl (Nat.le_of_ble_eq_true rfl) ?_
  refine fx_aloadn dX6_isWhole_0 rfl ?_
  refine fx_get dX6_isWhole_1 ffX6_41 (by assumption) (by assumption) ?_
  refine fx_bipush (nI 24) dX6_isWhole_4 (by decide) ?_
  refine fx_icn_ge 11 dX6_isWhole_6 (by decide) (by omega) (by omega) (fun c6 => ?_) (fun c6 => ?_)
  · skip
    refine fx_iconst (nI 1) dX6_isWhole_11 (by decide) ?_
    refine fx_istoren dX6_isWhole_12 (by decide) ?_
    refine fx_iconst (nI 0) dX6_isWhole_13 (by decide) ?_
    refine fx_istoren dX6_isWhole_14 (by decide) ?_
    refine fx_to (l_rf_wh0 D hb c6 12 0 rfl) ⟨rfl, ?_, rfl, trivial⟩
    show some (Value.int (nI 1)) = some (Value.int (bI _))
    rw [bI_t (fun j hj => by omega)]
  · skip
    refine fx_iconst (nI 0) dX6_isWhole_9 (by decide) ?_
    refine fx_zret dX6_isWhole_10 rfl rfl ?_
    exact fx_no (fun q => by have := q.1; omega)
