/-! FontDeskModel: infos, fractions, steps, pieces -/
theorem ml_tagN {b : Nat → Nat} {c : Nat} (hc : c < 2 ^ 31) : ml_tag b (nI c) = ml_i b c / 256 % 4 := by
  unfold ml_tag
  rw [ml_iI_n hc]
theorem ml_restN {b : Nat → Nat} {c : Nat} (hc : c < 2 ^ 31) : ml_rest b (nI c) = ml_i b c % 256 := by
  unfold ml_rest
  rw [ml_iI_n hc]
theorem ml_tag_there {b : Nat → Nat} {c : Nat} (hc : c < 2 ^ 31) (h : ml_tag b (nI c) ≠ 0) : ml_i b c ≠ 0 := by
  intro e
  rw [ml_tagN hc, e] at h
  exact h rfl
def ml_re (b : Nat → Nat) (c : Nat) : Nat → Nat → Prop
  | 0, _ => True
  | n + 1, x => if x = c then False else if ml_tag b (nI x) = 2 then ml_re b c n (ml_rest b (nI x)) else True
def ml_tgR (b : Nat → Nat) (c : Nat) : Prop := (ml_tag b (nI c) = 1 → ml_rest b (nI c) < ml_rl b 6) ∧ (ml_tag b (nI c) = 2 → ml_rest b (nI c) ≠ c ∧ ml_i b (ml_rest b (nI c)) ≠ 0 ∧ ml_re b c 256 (ml_rest b (nI c))) ∧ (ml_tag b (nI c) = 3 → ml_rest b (nI c) < ml_rl b 8)
def ml_giR (b : Nat → Nat) (c : Nat) : Prop := ml_i b c ≠ 0 → ml_pls b c ∧ ml_tgR b c

theorem l_rf_ends {g : fx_G} {h : fx_H} {a lim nw : Nat} {b : Nat → Nat} (D : rd h a b lim) (V : ml_v b nw) (hl : 4 * nw ≤ lim) (c : Nat) (hc : c < 256) (P : Prop) : ∀ n k x : Nat, k + n = 256 → x < 256 → ml_re b c n x = P → fx_Y g mX6_ends 7 151 (fun q h' => q = some (.int (bI P)) ∧ h' = h) (fun _ _ => False) 9 [(0, .ref a), (1, .int (nI c)), (2, .int (nI x)), (3, .int (nI k))] [] h 0 0 := by
  obtain ⟨fs, h1⟩ := D.at
  have hs := V.six
  intro n
  induction n using Nat.strongRecOn with
  | ind n ih =>
  intro k x hk hx hv
  refine fx_iloadn dX6_ends_9 rfl ?_
  refine fx_sipush (nI 256) dX6_ends_10 (by decide) ?_
  refine fx_icn_ge 58 dX6_ends_13 (by decide) (by omega) (by omega) (fun c13 => ?_) (fun c13 => ?_)
  · skip
    refine fx_iconst (nI 1) dX6_ends_58 (by decide) ?_
    refine fx_zret dX6_ends_59 rfl rfl ?_
    have : n = 0 := by omega
    subst this
    exact fx_yes (by rw [← hv]; trivial)
  · skip
    refine fx_iloadn dX6_ends_16 rfl ?_
    refine fx_iloadn dX6_ends_17 rfl ?_
    refine fx_icn_ne 23 dX6_ends_18 (by decide) (by omega) (by omega) (fun c18 => ?_) (fun c18 => ?_)
    · skip
      refine fx_aloadn dX6_ends_23 rfl ?_
      refine fx_iloadn dX6_ends_24 rfl ?_
      refine fx_callVp dX6_ends_25 vX6_isThere kkX6_76 rfl rfl (by assumption) (p_rf_isThere D V hl _) rfl (by decide) (by decide) rfl (Nat.le_of_ble_eq_true rfl) ?_
      refine fx_if_eqB 43 dX6_ends_28 (by decide) (fun c28 => ?_) (fun c28 => ?_)
      · skip
        refine fx_iconst (nI 1) dX6_ends_43 (by decide) ?_
        refine fx_zret dX6_ends_44 rfl rfl ?_
        cases n with
        | zero => omega
        | succ n =>
          exact fx_yes (by
            rw [← hv]
            unfold ml_re
            rw [if_neg c18, if_neg (fun e => ml_tag_there (show x < 2 ^ 31 by omega) (by rw [e]; decide) (Classical.not_not.mp (fun q => c28 (by rw [ml_iI_n (by omega)]; exact q))))]
            trivial)
      · skip
        have hx0 : ml_i b x ≠ 0 := by rw [← ml_iI_n (b := b) (show x < 2 ^ 31 by omega)]; exact c28
        refine fx_aloadn dX6_ends_31 rfl ?_
        refine fx_iloadn dX6_ends_32 rfl ?_
        refine fx_iconst (nI 2) dX6_ends_33 (by decide) ?_
        refine fx_callVp dX6_ends_34 vX6_info kkX6_71 rfl rfl (by assumption) (p_rf_info2 D V hl x hx0) rfl (by decide) (by decide) rfl (Nat.le_of_ble_eq_true rfl) ?_
        refine fx_iconst (nI 4) dX6_ends_37 (by decide) ?_
        refine fx_irem dX6_ends_38 (by decide) ?_
        rw [pk_rem (by omega) (by decide) (by decide)]
        refine fx_iconst (nI 2) dX6_ends_39 (by decide) ?_
        refine fx_icn_eq 45 dX6_ends_40 (by decide) (by omega) (by omega) (fun c40 => ?_) (fun c40 => ?_)
        · skip
          refine fx_aloadn dX6_ends_45 rfl ?_
          refine fx_iloadn dX6_ends_46 rfl ?_
          refine fx_iconst (nI 3) dX6_ends_47 (by decide) ?_
          refine fx_callVp dX6_ends_48 vX6_info kkX6_71 rfl rfl (by assumption) (p_rf_info3 D V hl x hx0) rfl (by decide) (by decide) rfl (Nat.le_of_ble_eq_true rfl) ?_
          refine fx_istoren dX6_ends_51 (by decide) ?_
          refine fx_iinc (nI 1) dX6_ends_52 rfl (by decide) (by decide) ?_
          refine fx_goto 9 dX6_ends_55 (by decide) ?_
          cases n with
          | zero => omega
          | succ n =>
            simp only [nI_add]
            refine fx_to (ih n (by omega) (k + 1) (ml_i b x % 256) (by omega) (by omega) ?_) ⟨rfl, rfl, rfl, rfl, trivial⟩
            rw [← hv]
            show _ = ml_re b c (n + 1) x
            conv => rhs; unfold ml_re
            rw [if_neg c18, if_pos (by rw [ml_tagN (by omega)]; omega), ml_restN (by omega)]
        · skip
          refine fx_iconst (nI 1) dX6_ends_43 (by decide) ?_
          refine fx_zret dX6_ends_44 rfl rfl ?_
          cases n with
          | zero => omega
          | succ n =>
            exact fx_yes (by rw [← hv]; unfold ml_re; rw [if_neg c18, if_neg (by rw [ml_tagN (by omega)]; omega)]; trivial)
    · skip
      refine fx_iconst (nI 0) dX6_ends_21 (by decide) ?_
      refine fx_zret dX6_ends_22 rfl rfl ?_
      cases n with
      | zero => omega
      | succ n =>
        exact fx_no (by rw [← hv]; unfold ml_re; rw [if_pos c18]; exact id)
theorem p_rf_ends {g : fx_G} {h : fx_H} {a lim nw : Nat} {b : Nat → Nat} (D : rd h a b lim) (V : ml_v b nw) (hl : 4 * nw ≤ lim) (c : Nat) (hc : c < 256) (hc0 : ml_i b c ≠ 0) : fx_P g mX6_ends 7 151 [.ref a, .int (nI c)] h (.int (bI (ml_re b c 256 (ml_rest b (nI c))))) := by
  obtain ⟨fs, h1⟩ := D.at
  have hs := V.six
  refine fx_Met.of rfl (Nat.le_of_ble_eq_true rfl) ?_
  refine fx_aloadn dX6_ends_0 rfl ?_
  refine fx_iloadn dX6_ends_1 rfl ?_
  refine fx_iconst (nI 3) dX6_ends_2 (by decide) ?_
  refine fx_callVp dX6_ends_3 vX6_info kkX6_71 rfl rfl (by assumption) (p_rf_info3 D V hl c hc0) rfl (by decide) (by decide) rfl (Nat.le_of_ble_eq_true rfl) ?_
  refine fx_istoren dX6_ends_6 (by decide) ?_
  refine fx_iconst (nI 0) dX6_ends_7 (by decide) ?_
  refine fx_istoren dX6_ends_8 (by decide) ?_
  refine fx_to (l_rf_ends D V hl c hc _ 256 0 (ml_rest b (nI c)) rfl (ml_rest_lt _) rfl) ⟨rfl, rfl, ?_, rfl, trivial⟩
  show some (Value.int _) = some (Value.int _)
  rw [ml_restN (by omega)]
theorem p_rf_goodInfo {g : fx_G} {h : fx_H} {a lim nw : Nat} {b : Nat → Nat} (D : rd h a b lim) (V : ml_v b nw) (hl : 4 * nw ≤ lim) (c : Nat) (hc : c < 256) : fx_P g mX6_goodInfo 8 174 [.ref a, .int (nI c)] h (.int (bI (ml_giR b c))) := by
  obtain ⟨fs, h1⟩ := D.at
  have hs := V.six
  have qi := ml_i_lt V.1 c
  have w4 := V.w.2.1 4 (by decide)
  have w5 := V.w.2.1 5 (by decide)
  have w6 := V.w.2.1 6 (by decide)
  have w7 := V.w.2.1 7 (by decide)
  have w8 := V.w.2.1 8 (by decide)
  have w10 := V.w.2.1 10 (by decide)
  have er : ml_rest b (nI c) = ml_i b c % 256 := ml_restN (by omega)
  have et : ml_tag b (nI c) = ml_i b c / 256 % 4 := ml_tagN (by omega)
  have e6 : ml_rl b 6 = ml_H b 8 := rfl
  have e8 : ml_rl b 8 = ml_H b 10 := rfl
  have ep : ∀ q, ml_pl b (nI c) q = if q = 0 then ml_i b c / 16777216 else if q = 1 then ml_i b c / 1048576 % 16 else if q = 2 then ml_i b c / 65536 % 16 else ml_i b c / 1024 % 64 := fun q => by
    unfold ml_pl
    rw [ml_iI_n (by omega)]
  have hpl0 : (ml_pl b (nI c) 0 < ml_rl b (2 + 0)) = (ml_i b c / 16777216 < ml_H b 4) := by rw [ep]; rfl
  have hpl1 : (ml_pl b (nI c) 1 < ml_rl b (2 + 1)) = (ml_i b c / 65536 % 256 / 16 < ml_H b 5) := by rw [ep, if_neg (by decide), if_pos rfl, show ml_i b c / 1048576 % 16 = ml_i b c / 65536 % 256 / 16 by omega]; rfl
  have hpl2 : (ml_pl b (nI c) 2 < ml_rl b (2 + 2)) = (ml_i b c / 65536 % 256 % 16 < ml_H b 6) := by rw [ep, if_neg (by decide), if_neg (by decide), if_pos rfl, show ml_i b c / 65536 % 16 = ml_i b c / 65536 % 256 % 16 by omega]; rfl
  have hpl3 : (ml_pl b (nI c) 3 < ml_rl b (2 + 3)) = (ml_i b c / 256 % 256 / 4 < ml_H b 7) := by rw [ep, if_neg (by decide), if_neg (by decide), if_neg (by decide), show ml_i b c / 1024 % 64 = ml_i b c / 256 % 256 / 4 by omega]; rfl
  refine fx_Met.of rfl (Nat.le_of_ble_eq_true rfl) ?_
  refine fx_aloadn dX6_goodInfo_0 rfl ?_
  refine fx_iloadn dX6_goodInfo_1 rfl ?_
  refine fx_callVp dX6_goodInfo_2 vX6_isThere kkX6_76 rfl rfl (by assumption) (p_rf_isThere D V hl _) rfl (by decide) (by decide) rfl (Nat.le_of_ble_eq_true rfl) ?_
  refine fx_if_neB 10 dX6_goodInfo_5 (by decide) (fun c5 => ?_) (fun c5 => ?_)
  · skip
    have hc0 : ml_i b c ≠ 0 := by rw [← ml_iI_n (b := b) (show c < 2 ^ 31 by omega)]; exact c5
    have j88 : ∀ lv : List (Nat × Value), fx_le [(0, .ref a), (1, .int (nI c)), (2, .int (nI (ml_i b c % 256)))] lv → fx_Y g mX6_goodInfo 8 174 (fun r h' => r = some (.int (bI (ml_giR b c))) ∧ h' = h) (fun _ _ => False) 88 lv [.int (bI (ml_pls b c))] h 0 0 := by
      intro lv hlv
      refine fx_sub _ hlv ?_
      refine fx_istoren dX6_goodInfo_88 (by decide) ?_
      refine fx_aloadn dX6_goodInfo_89 rfl ?_
      refine fx_iloadn dX6_goodInfo_90 rfl ?_
      refine fx_iconst (nI 2) dX6_goodInfo_91 (by decide) ?_
      refine fx_callVp dX6_goodInfo_92 vX6_info kkX6_71 rfl rfl (by assumption) (p_rf_info2 D V hl c hc0) rfl (by decide) (by decide) rfl (Nat.le_of_ble_eq_true rfl) ?_
      refine fx_iconst (nI 4) dX6_goodInfo_95 (by decide) ?_
      refine fx_irem dX6_goodInfo_96 (by decide) ?_
      rw [pk_rem (by omega) (by decide) (by decide)]
      refine fx_istore dX6_goodInfo_97 (by decide) ?_
      refine fx_iloadn dX6_goodInfo_99 rfl ?_
      refine fx_if_eqB 171 dX6_goodInfo_100 (by decide) (fun c100 => ?_) (fun c100 => ?_)
      · skip
        refine fx_iconst (nI 0) dX6_goodInfo_171 (by decide) ?_
        refine fx_zret dX6_goodInfo_172 rfl rfl ?_
        exact fx_no (fun q => c100 (q hc0).1)
      · skip
        refine fx_iload dX6_goodInfo_103 rfl ?_
        refine fx_ifn_eq 167 dX6_goodInfo_105 (by decide) (by omega) (fun c105 => ?_) (fun c105 => ?_)
        · skip
          refine fx_iconst (nI 1) dX6_goodInfo_167 (by decide) ?_
          refine fx_goto 172 dX6_goodInfo_168 (by decide) ?_
          refine fx_zret dX6_goodInfo_172 rfl rfl ?_
          exact fx_yes (fun _ => ⟨c100, fun e => by omega, fun e => by omega, fun e => by omega⟩)
        · skip
          refine fx_iload dX6_goodInfo_108 rfl ?_
          refine fx_iconst (nI 1) dX6_goodInfo_110 (by decide) ?_
          refine fx_icn_ne 127 dX6_goodInfo_111 (by decide) (by omega) (by omega) (fun c111 => ?_) (fun c111 => ?_)
          · skip
            refine fx_iload dX6_goodInfo_127 rfl ?_
            refine fx_iconst (nI 2) dX6_goodInfo_129 (by decide) ?_
            refine fx_icn_ne 157 dX6_goodInfo_130 (by decide) (by omega) (by omega) (fun c130 => ?_) (fun c130 => ?_)
            · skip
              refine fx_iloadn dX6_goodInfo_157 rfl ?_
              refine fx_aloadn dX6_goodInfo_158 rfl ?_
              refine fx_bipush (nI 10) dX6_goodInfo_159 (by decide) ?_
              refine fx_callVp dX6_goodInfo_161 vX6_half kkX6_57 rfl rfl (by assumption) (p_rf_half D 10 (by omega)) rfl (by decide) (by decide) rfl (Nat.le_of_ble_eq_true rfl) ?_
              refine fx_icn_ge 171 dX6_goodInfo_164 (by decide) (by omega) (by omega) (fun c164 => ?_) (fun c164 => ?_)
              · skip
                refine fx_iconst (nI 0) dX6_goodInfo_171 (by decide) ?_
                refine fx_zret dX6_goodInfo_172 rfl rfl ?_
                exact fx_no (fun q => by have := (q hc0).2.2.2 (by omega); omega)
              · skip
                refine fx_iconst (nI 1) dX6_goodInfo_167 (by decide) ?_
                refine fx_goto 172 dX6_goodInfo_168 (by decide) ?_
                refine fx_zret dX6_goodInfo_172 rfl rfl ?_
                exact fx_yes (fun _ => ⟨c100, fun e => by omega, fun e => by omega, fun e => by omega⟩)
            · skip
              refine fx_iloadn dX6_goodInfo_133 rfl ?_
              refine fx_iloadn dX6_goodInfo_134 rfl ?_
              refine fx_icn_eq 171 dX6_goodInfo_135 (by decide) (by omega) (by omega) (fun c135 => ?_) (fun c135 => ?_)
              · skip
                refine fx_iconst (nI 0) dX6_goodInfo_171 (by decide) ?_
                refine fx_zret dX6_goodInfo_172 rfl rfl ?_
                exact fx_no (fun q => ((q hc0).2.2.1 (by omega)).1 (by omega))
              · skip
                refine fx_aloadn dX6_goodInfo_138 rfl ?_
                refine fx_iloadn dX6_goodInfo_139 rfl ?_
                refine fx_callVp dX6_goodInfo_140 vX6_isThere kkX6_76 rfl rfl (by assumption) (p_rf_isThere D V hl _) rfl (by decide) (by decide) rfl (Nat.le_of_ble_eq_true rfl) ?_
                refine fx_if_eqB 171 dX6_goodInfo_143 (by decide) (fun c143 => ?_) (fun c143 => ?_)
                · skip
                  refine fx_iconst (nI 0) dX6_goodInfo_171 (by decide) ?_
                  refine fx_zret dX6_goodInfo_172 rfl rfl ?_
                  exact fx_no (fun q => c143 (by rw [ml_iI_n (by omega), ← er]; exact ((q hc0).2.2.1 (by omega)).2.1))
                · skip
                  refine fx_aloadn dX6_goodInfo_146 rfl ?_
                  refine fx_iloadn dX6_goodInfo_147 rfl ?_
                  refine fx_callVp dX6_goodInfo_148 vX6_ends kkX6_80 rfl rfl (by assumption) (p_rf_ends D V hl c hc hc0) rfl (by decide) (by decide) rfl (Nat.le_of_ble_eq_true rfl) ?_
                  refine fx_if_eqB 171 dX6_goodInfo_151 (by decide) (fun c151 => ?_) (fun c151 => ?_)
                  · skip
                    refine fx_iconst (nI 0) dX6_goodInfo_171 (by decide) ?_
                    refine fx_zret dX6_goodInfo_172 rfl rfl ?_
                    exact fx_no (fun q => c151 ((q hc0).2.2.1 (by omega)).2.2)
                  · skip
                    refine fx_goto 167 dX6_goodInfo_154 (by decide) ?_
                    refine fx_iconst (nI 1) dX6_goodInfo_167 (by decide) ?_
                    refine fx_goto 172 dX6_goodInfo_168 (by decide) ?_
                    refine fx_zret dX6_goodInfo_172 rfl rfl ?_
                    exact fx_yes (fun _ => ⟨c100, fun e => by omega, fun e => ⟨by omega, by rw [er, ← ml_iI_n (b := b) (show ml_i b c % 256 < 2 ^ 31 by omega)]; exact c143, c151⟩, fun e => by omega⟩)
          · skip
            refine fx_iloadn dX6_goodInfo_114 rfl ?_
            refine fx_aloadn dX6_goodInfo_115 rfl ?_
            refine fx_bipush (nI 8) dX6_goodInfo_116 (by decide) ?_
            refine fx_callVp dX6_goodInfo_118 vX6_half kkX6_57 rfl rfl (by assumption) (p_rf_half D 8 (by omega)) rfl (by decide) (by decide) rfl (Nat.le_of_ble_eq_true rfl) ?_
            refine fx_icn_ge 171 dX6_goodInfo_121 (by decide) (by omega) (by omega) (fun c121 => ?_) (fun c121 => ?_)
            · skip
              refine fx_iconst (nI 0) dX6_goodInfo_171 (by decide) ?_
              refine fx_zret dX6_goodInfo_172 rfl rfl ?_
              exact fx_no (fun q => by have := (q hc0).2.1 (by omega); omega)
            · skip
              refine fx_goto 167 dX6_goodInfo_124 (by decide) ?_
              refine fx_iconst (nI 1) dX6_goodInfo_167 (by decide) ?_
              refine fx_goto 172 dX6_goodInfo_168 (by decide) ?_
              refine fx_zret dX6_goodInfo_172 rfl rfl ?_
              exact fx_yes (fun _ => ⟨c100, fun e => by omega, fun e => by omega, fun e => by omega⟩)
    refine fx_aloadn dX6_goodInfo_10 rfl ?_
    refine fx_iloadn dX6_goodInfo_11 rfl ?_
    refine fx_iconst (nI 3) dX6_goodInfo_12 (by decide) ?_
    refine fx_callVp dX6_goodInfo_13 vX6_info kkX6_71 rfl rfl (by assumption) (p_rf_info3 D V hl c hc0) rfl (by decide) (by decide) rfl (Nat.le_of_ble_eq_true rfl) ?_
    refine fx_istoren dX6_goodInfo_16 (by decide) ?_
    refine fx_aloadn dX6_goodInfo_17 rfl ?_
    refine fx_iloadn dX6_goodInfo_18 rfl ?_
    refine fx_iconst (nI 0) dX6_goodInfo_19 (by decide) ?_
    refine fx_callVp dX6_goodInfo_20 vX6_info kkX6_71 rfl rfl (by assumption) (p_rf_info0 D V hl c hc0) rfl (by decide) (by decide) rfl (Nat.le_of_ble_eq_true rfl) ?_
    refine fx_aloadn dX6_goodInfo_23 rfl ?_
    refine fx_iconst (nI 4) dX6_goodInfo_24 (by decide) ?_
    refine fx_callVp dX6_goodInfo_25 vX6_half kkX6_57 rfl rfl (by assumption) (p_rf_half D 4 (by omega)) rfl (by decide) (by decide) rfl (Nat.le_of_ble_eq_true rfl) ?_
    refine fx_icn_ge 87 dX6_goodInfo_28 (by decide) (by omega) (by omega) (fun c28 => ?_) (fun c28 => ?_)
    · skip
      refine fx_iconst (nI 0) dX6_goodInfo_87 (by decide) ?_
      exact fx_st0 (by rw [bI_f (fun q => by have := q 0 (by decide); rw [hpl0] at this; omega)]) (j88 _ ⟨rfl, rfl, rfl, trivial⟩)
    · skip
      refine fx_aloadn dX6_goodInfo_31 rfl ?_
      refine fx_iloadn dX6_goodInfo_32 rfl ?_
      refine fx_iconst (nI 1) dX6_goodInfo_33 (by decide) ?_
      refine fx_callVp dX6_goodInfo_34 vX6_info kkX6_71 rfl rfl (by assumption) (p_rf_info1 D V hl c hc0) rfl (by decide) (by decide) rfl (Nat.le_of_ble_eq_true rfl) ?_
      refine fx_bipush (nI 16) dX6_goodInfo_37 (by decide) ?_
      refine fx_idiv dX6_goodInfo_39 (by decide) ?_
      rw [pk_div (by omega) (by decide) (by decide)]
      refine fx_aloadn dX6_goodInfo_40 rfl ?_
      refine fx_iconst (nI 5) dX6_goodInfo_41 (by decide) ?_
      refine fx_callVp dX6_goodInfo_42 vX6_half kkX6_57 rfl rfl (by assumption) (p_rf_half D 5 (by omega)) rfl (by decide) (by decide) rfl (Nat.le_of_ble_eq_true rfl) ?_
      refine fx_icn_ge 87 dX6_goodInfo_45 (by decide) (by omega) (by omega) (fun c45 => ?_) (fun c45 => ?_)
      · skip
        refine fx_iconst (nI 0) dX6_goodInfo_87 (by decide) ?_
        exact fx_st0 (by rw [bI_f (fun q => by have := q 1 (by decide); rw [hpl1] at this; omega)]) (j88 _ ⟨rfl, rfl, rfl, trivial⟩)
      · skip
        refine fx_aloadn dX6_goodInfo_48 rfl ?_
        refine fx_iloadn dX6_goodInfo_49 rfl ?_
        refine fx_iconst (nI 1) dX6_goodInfo_50 (by decide) ?_
        refine fx_callVp dX6_goodInfo_51 vX6_info kkX6_71 rfl rfl (by assumption) (p_rf_info1 D V hl c hc0) rfl (by decide) (by decide) rfl (Nat.le_of_ble_eq_true rfl) ?_
        refine fx_bipush (nI 16) dX6_goodInfo_54 (by decide) ?_
        refine fx_irem dX6_goodInfo_56 (by decide) ?_
        rw [pk_rem (by omega) (by decide) (by decide)]
        refine fx_aloadn dX6_goodInfo_57 rfl ?_
        refine fx_bipush (nI 6) dX6_goodInfo_58 (by decide) ?_
        refine fx_callVp dX6_goodInfo_60 vX6_half kkX6_57 rfl rfl (by assumption) (p_rf_half D 6 (by omega)) rfl (by decide) (by decide) rfl (Nat.le_of_ble_eq_true rfl) ?_
        refine fx_icn_ge 87 dX6_goodInfo_63 (by decide) (by omega) (by omega) (fun c63 => ?_) (fun c63 => ?_)
        · skip
          refine fx_iconst (nI 0) dX6_goodInfo_87 (by decide) ?_
          exact fx_st0 (by rw [bI_f (fun q => by have := q 2 (by decide); rw [hpl2] at this; omega)]) (j88 _ ⟨rfl, rfl, rfl, trivial⟩)
        · skip
          refine fx_aloadn dX6_goodInfo_66 rfl ?_
          refine fx_iloadn dX6_goodInfo_67 rfl ?_
          refine fx_iconst (nI 2) dX6_goodInfo_68 (by decide) ?_
          refine fx_callVp dX6_goodInfo_69 vX6_info kkX6_71 rfl rfl (by assumption) (p_rf_info2 D V hl c hc0) rfl (by decide) (by decide) rfl (Nat.le_of_ble_eq_true rfl) ?_
          refine fx_iconst (nI 4) dX6_goodInfo_72 (by decide) ?_
          refine fx_idiv dX6_goodInfo_73 (by decide) ?_
          rw [pk_div (by omega) (by decide) (by decide)]
          refine fx_aloadn dX6_goodInfo_74 rfl ?_
          refine fx_bipush (nI 7) dX6_goodInfo_75 (by decide) ?_
          refine fx_callVp dX6_goodInfo_77 vX6_half kkX6_57 rfl rfl (by assumption) (p_rf_half D 7 (by omega)) rfl (by decide) (by decide) rfl (Nat.le_of_ble_eq_true rfl) ?_
          refine fx_icn_ge 87 dX6_goodInfo_80 (by decide) (by omega) (by omega) (fun c80 => ?_) (fun c80 => ?_)
          · skip
            refine fx_iconst (nI 0) dX6_goodInfo_87 (by decide) ?_
            exact fx_st0 (by rw [bI_f (fun q => by have := q 3 (by decide); rw [hpl3] at this; omega)]) (j88 _ ⟨rfl, rfl, rfl, trivial⟩)
          · skip
            refine fx_iconst (nI 1) dX6_goodInfo_83 (by decide) ?_
            refine fx_goto 88 dX6_goodInfo_84 (by decide) ?_
            exact fx_st0 (by rw [bI_t (p := ml_pls b c) (fun q hq => by
              rcases (show q = 0 ∨ q = 1 ∨ q = 2 ∨ q = 3 by omega) with rfl | rfl | rfl | rfl
              · rw [hpl0]; exact c28
              · rw [hpl1]; exact c45
              · rw [hpl2]; exact c63
              · rw [hpl3]; exact c80)]) (j88 _ ⟨rfl, rfl, rfl, trivial⟩)
  · skip
    refine fx_iconst (nI 1) dX6_goodInfo_8 (by decide) ?_
    refine fx_zret dX6_goodInfo_9 rfl rfl ?_
    exact fx_yes (fun q => absurd (by rw [ml_iI_n (by omega)]; exact q) c5)
theorem p_rf_goodStep {g : fx_G} {h : fx_H} {a lim nw : Nat} {b : Nat → Nat} (D : rd h a b lim) (V : ml_v b nw) (hl : 4 * nw ≤ lim) (i : Nat) (hi : i < ml_rl b 6) : fx_P g mX6_goodStep 7 151 [.ref a, .int (nI i)] h (.int (bI (ml_stp b i))) := by
  obtain ⟨fs, h1⟩ := D.at
  have hs := V.six
  have q1 := ml_s_lt V.1 (nI i)
  have q2 := ml_n_lt (b := b) (nI i)
  have q3 := ml_o_lt (b := b) (nI i)
  have q4 := ml_r_lt (b := b) (nI i)
  have w8 := V.w.2.1 8 (by decide)
  have w9 := V.w.2.1 9 (by decide)
  have e6 : ml_rl b 6 = ml_H b 8 := rfl
  have e7 : ml_rl b 7 = ml_H b 9 := rfl
  refine fx_Met.of rfl (Nat.le_of_ble_eq_true rfl) ?_
  refine fx_aloadn dX6_goodStep_0 rfl ?_
  refine fx_iloadn dX6_goodStep_1 rfl ?_
  refine fx_iconst (nI 0) dX6_goodStep_2 (by decide) ?_
  refine fx_callVp dX6_goodStep_3 vX6_step kkX6_88 rfl rfl (by assumption) (p_rf_step0 D V hl i hi) rfl (by decide) (by decide) rfl (Nat.le_of_ble_eq_true rfl) ?_
  refine fx_istoren dX6_goodStep_6 (by decide) ?_
  refine fx_aloadn dX6_goodStep_7 rfl ?_
  refine fx_iloadn dX6_goodStep_8 rfl ?_
  refine fx_iconst (nI 1) dX6_goodStep_9 (by decide) ?_
  refine fx_callVp dX6_goodStep_10 vX6_step kkX6_88 rfl rfl (by assumption) (p_rf_step1 D V hl i hi) rfl (by decide) (by decide) rfl (Nat.le_of_ble_eq_true rfl) ?_
  refine fx_istoren dX6_goodStep_13 (by decide) ?_
  refine fx_aloadn dX6_goodStep_14 rfl ?_
  refine fx_iloadn dX6_goodStep_15 rfl ?_
  refine fx_iconst (nI 2) dX6_goodStep_16 (by decide) ?_
  refine fx_callVp dX6_goodStep_17 vX6_step kkX6_88 rfl rfl (by assumption) (p_rf_step2 D V hl i hi) rfl (by decide) (by decide) rfl (Nat.le_of_ble_eq_true rfl) ?_
  refine fx_istore dX6_goodStep_20 (by decide) ?_
  refine fx_aloadn dX6_goodStep_22 rfl ?_
  refine fx_iloadn dX6_goodStep_23 rfl ?_
  refine fx_iconst (nI 3) dX6_goodStep_24 (by decide) ?_
  refine fx_callVp dX6_goodStep_25 vX6_step kkX6_88 rfl rfl (by assumption) (p_rf_step3 D V hl i hi) rfl (by decide) (by decide) rfl (Nat.le_of_ble_eq_true rfl) ?_
  refine fx_istore dX6_goodStep_28 (by decide) ?_
  refine fx_iloadn dX6_goodStep_30 rfl ?_
  refine fx_sipush (nI 128) dX6_goodStep_31 (by decide) ?_
  refine fx_icn_le 61 dX6_goodStep_34 (by decide) (by omega) (by omega) (fun c34 => ?_) (fun c34 => ?_)
  · skip
    have hs9 : ¬ 128 < ml_s b (nI i) := by omega
    have j103 : ∀ lv : List (Nat × Value), fx_le [(0, .ref a), (2, .int (nI (ml_s b (nI i)))), (4, .int (nI (ml_o b (nI i)))), (5, .int (nI (ml_r b (nI i))))] lv → fx_Y g mX6_goodStep 7 151 (fun r h' => r = some (.int (bI (ml_stp b i))) ∧ h' = h) (fun _ _ => False) 103 lv [.int (bI ((ml_i b (ml_n b (nI i)) ≠ 0 ∨ nI (ml_n b (nI i)) = ml_bd b) ∧ (ml_s b (nI i) = 128 ∨ i + ml_s b (nI i) + 1 < ml_rl b 6)))] h 0 0 := by
      intro lv hlv
      refine fx_sub _ hlv ?_
      refine fx_istore dX6_goodStep_103 (by decide) ?_
      refine fx_iload dX6_goodStep_105 rfl ?_
      refine fx_bipush (nI 127) dX6_goodStep_107 (by decide) ?_
      refine fx_icn_le 145 dX6_goodStep_109 (by decide) (by omega) (by omega) (fun c109 => ?_) (fun c109 => ?_)
      · skip
        refine fx_iload dX6_goodStep_145 rfl ?_
        refine fx_if_eqB 189 dX6_goodStep_147 (by decide) (fun c147 => ?_) (fun c147 => ?_)
        · skip
          refine fx_iconst (nI 0) dX6_goodStep_189 (by decide) ?_
          refine fx_zret dX6_goodStep_190 rfl rfl ?_
          refine fx_no (fun q => ?_)
          unfold ml_stp at q
          rw [if_neg hs9] at q
          obtain ⟨q1, q2, q3⟩ := q
          exact c147 ⟨q1, q2⟩
        · skip
          refine fx_aloadn dX6_goodStep_150 rfl ?_
          refine fx_iload dX6_goodStep_151 rfl ?_
          refine fx_callVp dX6_goodStep_153 vX6_isThere kkX6_76 rfl rfl (by assumption) (p_rf_isThere D V hl _) rfl (by decide) (by decide) rfl (Nat.le_of_ble_eq_true rfl) ?_
          refine fx_if_eqB 189 dX6_goodStep_156 (by decide) (fun c156 => ?_) (fun c156 => ?_)
          · skip
            refine fx_iconst (nI 0) dX6_goodStep_189 (by decide) ?_
            refine fx_zret dX6_goodStep_190 rfl rfl ?_
            refine fx_no (fun q => ?_)
            unfold ml_stp at q
            rw [if_neg hs9] at q
            obtain ⟨q1, q2, q3⟩ := q
            rw [if_neg (by omega)] at q3
            exact c156 (by rw [ml_iI_n (by omega)]; exact q3.1)
          · skip
            refine fx_iload dX6_goodStep_159 rfl ?_
            refine fx_iconst (nI 4) dX6_goodStep_161 (by decide) ?_
            refine fx_icn_lt 185 dX6_goodStep_162 (by decide) (by omega) (by omega) (fun c162 => ?_) (fun c162 => ?_)
            · skip
              refine fx_iconst (nI 1) dX6_goodStep_185 (by decide) ?_
              refine fx_goto 190 dX6_goodStep_186 (by decide) ?_
              refine fx_zret dX6_goodStep_190 rfl rfl ?_
              refine fx_yes ?_
              unfold ml_stp
              rw [if_neg hs9]
              exact ⟨c147.1, c147.2, by rw [if_neg (by omega)]; exact ⟨by rw [← ml_iI_n (b := b) (show ml_r b (nI i) < 2 ^ 31 by omega)]; exact c156, by unfold ml_lig; omega⟩⟩
            · skip
              refine fx_iload dX6_goodStep_165 rfl ?_
              refine fx_iconst (nI 4) dX6_goodStep_167 (by decide) ?_
              refine fx_icn_le 178 dX6_goodStep_168 (by decide) (by omega) (by omega) (fun c168 => ?_) (fun c168 => ?_)
              · skip
                refine fx_iload dX6_goodStep_178 rfl ?_
                refine fx_bipush (nI 11) dX6_goodStep_180 (by decide) ?_
                refine fx_icn_ne 189 dX6_goodStep_182 (by decide) (by omega) (by omega) (fun c182 => ?_) (fun c182 => ?_)
                · skip
                  refine fx_iconst (nI 0) dX6_goodStep_189 (by decide) ?_
                  refine fx_zret dX6_goodStep_190 rfl rfl ?_
                  refine fx_no (fun q => ?_)
                  unfold ml_stp at q
                  rw [if_neg hs9] at q
                  obtain ⟨q1, q2, q3⟩ := q
                  rw [if_neg (by omega)] at q3
                  have q4 := q3.2
                  unfold ml_lig at q4
                  omega
                · skip
                  refine fx_iconst (nI 1) dX6_goodStep_185 (by decide) ?_
                  refine fx_goto 190 dX6_goodStep_186 (by decide) ?_
                  refine fx_zret dX6_goodStep_190 rfl rfl ?_
                  refine fx_yes ?_
                  unfold ml_stp
                  rw [if_neg hs9]
                  exact ⟨c147.1, c147.2, by rw [if_neg (by omega)]; exact ⟨by rw [← ml_iI_n (b := b) (show ml_r b (nI i) < 2 ^ 31 by omega)]; exact c156, by unfold ml_lig; omega⟩⟩
              · skip
                refine fx_iload dX6_goodStep_171 rfl ?_
                refine fx_bipush (nI 8) dX6_goodStep_173 (by decide) ?_
                refine fx_icn_lt 185 dX6_goodStep_175 (by decide) (by omega) (by omega) (fun c175 => ?_) (fun c175 => ?_)
                · skip
                  refine fx_iconst (nI 1) dX6_goodStep_185 (by decide) ?_
                  refine fx_goto 190 dX6_goodStep_186 (by decide) ?_
                  refine fx_zret dX6_goodStep_190 rfl rfl ?_
                  refine fx_yes ?_
                  unfold ml_stp
                  rw [if_neg hs9]
                  exact ⟨c147.1, c147.2, by rw [if_neg (by omega)]; exact ⟨by rw [← ml_iI_n (b := b) (show ml_r b (nI i) < 2 ^ 31 by omega)]; exact c156, by unfold ml_lig; omega⟩⟩
                · skip
                  refine fx_iload dX6_goodStep_178 rfl ?_
                  refine fx_bipush (nI 11) dX6_goodStep_180 (by decide) ?_
                  refine fx_icn_ne 189 dX6_goodStep_182 (by decide) (by omega) (by omega) (fun c182 => ?_) (fun c182 => ?_)
                  · skip
                    refine fx_iconst (nI 0) dX6_goodStep_189 (by decide) ?_
                    refine fx_zret dX6_goodStep_190 rfl rfl ?_
                    refine fx_no (fun q => ?_)
                    unfold ml_stp at q
                    rw [if_neg hs9] at q
                    obtain ⟨q1, q2, q3⟩ := q
                    rw [if_neg (by omega)] at q3
                    have q4 := q3.2
                    unfold ml_lig at q4
                    omega
                  · skip
                    refine fx_iconst (nI 1) dX6_goodStep_185 (by decide) ?_
                    refine fx_goto 190 dX6_goodStep_186 (by decide) ?_
                    refine fx_zret dX6_goodStep_190 rfl rfl ?_
                    refine fx_yes ?_
                    unfold ml_stp
                    rw [if_neg hs9]
                    exact ⟨c147.1, c147.2, by rw [if_neg (by omega)]; exact ⟨by rw [← ml_iI_n (b := b) (show ml_r b (nI i) < 2 ^ 31 by omega)]; exact c156, by unfold ml_lig; omega⟩⟩
      · skip
        refine fx_iload dX6_goodStep_112 rfl ?_
        refine fx_if_eqB 143 dX6_goodStep_114 (by decide) (fun c114 => ?_) (fun c114 => ?_)
        · skip
          refine fx_iconst (nI 0) dX6_goodStep_143 (by decide) ?_
          refine fx_zret dX6_goodStep_144 rfl rfl ?_
          refine fx_no (fun q => ?_)
          unfold ml_stp at q
          rw [if_neg hs9] at q
          obtain ⟨q1, q2, q3⟩ := q
          exact c114 ⟨q1, q2⟩
        · skip
          refine fx_sipush (nI 256) dX6_goodStep_117 (by decide) ?_
          refine fx_iload dX6_goodStep_120 rfl ?_
          refine fx_sipush (nI 128) dX6_goodStep_122 (by decide) ?_
          refine fx_isub dX6_goodStep_125 ?_
          refine fx_imul dX6_goodStep_126 ?_
          refine fx_iload dX6_goodStep_127 rfl ?_
          refine fx_iadd dX6_goodStep_129 ?_
          rw [pk_sub (by omega), pk_mul, nI_add]
          refine fx_aloadn dX6_goodStep_130 rfl ?_
          refine fx_bipush (nI 9) dX6_goodStep_131 (by decide) ?_
          refine fx_callVp dX6_goodStep_133 vX6_half kkX6_57 rfl rfl (by assumption) (p_rf_half D 9 (by omega)) rfl (by decide) (by decide) rfl (Nat.le_of_ble_eq_true rfl) ?_
          refine fx_icn_ge 143 dX6_goodStep_136 (by decide) (by omega) (by omega) (fun c136 => ?_) (fun c136 => ?_)
          · skip
            refine fx_iconst (nI 0) dX6_goodStep_143 (by decide) ?_
            refine fx_zret dX6_goodStep_144 rfl rfl ?_
            refine fx_no (fun q => ?_)
            unfold ml_stp at q
            rw [if_neg hs9] at q
            obtain ⟨q1, q2, q3⟩ := q
            rw [if_pos (by omega)] at q3
            omega
          · skip
            refine fx_iconst (nI 1) dX6_goodStep_139 (by decide) ?_
            refine fx_goto 144 dX6_goodStep_140 (by decide) ?_
            refine fx_zret dX6_goodStep_144 rfl rfl ?_
            refine fx_yes ?_
            unfold ml_stp
            rw [if_neg hs9]
            exact ⟨c114.1, c114.2, by rw [if_pos (by omega)]; exact c136⟩
    refine fx_aloadn dX6_goodStep_61 rfl ?_
    refine fx_iloadn dX6_goodStep_62 rfl ?_
    refine fx_callVp dX6_goodStep_63 vX6_isThere kkX6_76 rfl rfl (by assumption) (p_rf_isThere D V hl _) rfl (by decide) (by decide) rfl (Nat.le_of_ble_eq_true rfl) ?_
    refine fx_if_neB 77 dX6_goodStep_66 (by decide) (fun c66 => ?_) (fun c66 => ?_)
    · skip
      refine fx_iloadn dX6_goodStep_77 rfl ?_
      refine fx_sipush (nI 128) dX6_goodStep_78 (by decide) ?_
      refine fx_icn_eq 98 dX6_goodStep_81 (by decide) (by omega) (by omega) (fun c81 => ?_) (fun c81 => ?_)
      · skip
        refine fx_iconst (nI 1) dX6_goodStep_98 (by decide) ?_
        refine fx_goto 103 dX6_goodStep_99 (by decide) ?_
        exact fx_st0 (by rw [bI_t ⟨(Or.inl (by rw [← ml_iI_n (b := b) (show ml_n b (nI i) < 2 ^ 31 by omega)]; exact c66)), Or.inl c81⟩]) (j103 _ ⟨rfl, rfl, rfl, rfl, trivial⟩)
      · skip
        refine fx_iloadn dX6_goodStep_84 rfl ?_
        refine fx_iloadn dX6_goodStep_85 rfl ?_
        refine fx_iadd dX6_goodStep_86 ?_
        refine fx_iconst (nI 1) dX6_goodStep_87 (by decide) ?_
        refine fx_iadd dX6_goodStep_88 ?_
        rw [nI_add, nI_add]
        refine fx_aloadn dX6_goodStep_89 rfl ?_
        refine fx_bipush (nI 8) dX6_goodStep_90 (by decide) ?_
        refine fx_callVp dX6_goodStep_92 vX6_half kkX6_57 rfl rfl (by assumption) (p_rf_half D 8 (by omega)) rfl (by decide) (by decide) rfl (Nat.le_of_ble_eq_true rfl) ?_
        refine fx_icn_ge 102 dX6_goodStep_95 (by decide) (by omega) (by omega) (fun c95 => ?_) (fun c95 => ?_)
        · skip
          refine fx_iconst (nI 0) dX6_goodStep_102 (by decide) ?_
          exact fx_st0 (by rw [bI_f (fun q => by have := q.2; omega)]) (j103 _ ⟨rfl, rfl, rfl, rfl, trivial⟩)
        · skip
          refine fx_iconst (nI 1) dX6_goodStep_98 (by decide) ?_
          refine fx_goto 103 dX6_goodStep_99 (by decide) ?_
          exact fx_st0 (by rw [bI_t ⟨(Or.inl (by rw [← ml_iI_n (b := b) (show ml_n b (nI i) < 2 ^ 31 by omega)]; exact c66)), Or.inr (by omega)⟩]) (j103 _ ⟨rfl, rfl, rfl, rfl, trivial⟩)
    · skip
      refine fx_iloadn dX6_goodStep_69 rfl ?_
      refine fx_aloadn dX6_goodStep_70 rfl ?_
      refine fx_callVp dX6_goodStep_71 vX6_boundary kkX6_91 rfl rfl (by assumption) (p_rf_boundary D V hl) rfl (by decide) (by decide) rfl (Nat.le_of_ble_eq_true rfl) ?_
      refine fx_icmp_ne 102 dX6_goodStep_74 (by decide) (fun c74 => ?_) (fun c74 => ?_)
      · skip
        refine fx_iconst (nI 0) dX6_goodStep_102 (by decide) ?_
        exact fx_st0 (by rw [bI_f (fun q => q.1.elim (fun e => c66 (by rw [ml_iI_n (by omega)]; exact e)) c74)]) (j103 _ ⟨rfl, rfl, rfl, rfl, trivial⟩)
      · skip
        refine fx_iloadn dX6_goodStep_77 rfl ?_
        refine fx_sipush (nI 128) dX6_goodStep_78 (by decide) ?_
        refine fx_icn_eq 98 dX6_goodStep_81 (by decide) (by omega) (by omega) (fun c81 => ?_) (fun c81 => ?_)
        · skip
          refine fx_iconst (nI 1) dX6_goodStep_98 (by decide) ?_
          refine fx_goto 103 dX6_goodStep_99 (by decide) ?_
          exact fx_st0 (by rw [bI_t ⟨(Or.inr c74), Or.inl c81⟩]) (j103 _ ⟨rfl, rfl, rfl, rfl, trivial⟩)
        · skip
          refine fx_iloadn dX6_goodStep_84 rfl ?_
          refine fx_iloadn dX6_goodStep_85 rfl ?_
          refine fx_iadd dX6_goodStep_86 ?_
          refine fx_iconst (nI 1) dX6_goodStep_87 (by decide) ?_
          refine fx_iadd dX6_goodStep_88 ?_
          rw [nI_add, nI_add]
          refine fx_aloadn dX6_goodStep_89 rfl ?_
          refine fx_bipush (nI 8) dX6_goodStep_90 (by decide) ?_
          refine fx_callVp dX6_goodStep_92 vX6_half kkX6_57 rfl rfl (by assumption) (p_rf_half D 8 (by omega)) rfl (by decide) (by decide) rfl (Nat.le_of_ble_eq_true rfl) ?_
          refine fx_icn_ge 102 dX6_goodStep_95 (by decide) (by omega) (by omega) (fun c95 => ?_) (fun c95 => ?_)
          · skip
            refine fx_iconst (nI 0) dX6_goodStep_102 (by decide) ?_
            exact fx_st0 (by rw [bI_f (fun q => by have := q.2; omega)]) (j103 _ ⟨rfl, rfl, rfl, rfl, trivial⟩)
          · skip
            refine fx_iconst (nI 1) dX6_goodStep_98 (by decide) ?_
            refine fx_goto 103 dX6_goodStep_99 (by decide) ?_
            exact fx_st0 (by rw [bI_t ⟨(Or.inr c74), Or.inr (by omega)⟩]) (j103 _ ⟨rfl, rfl, rfl, rfl, trivial⟩)
  · skip
    refine fx_sipush (nI 256) dX6_goodStep_37 (by decide) ?_
    refine fx_iload dX6_goodStep_40 rfl ?_
    refine fx_imul dX6_goodStep_42 ?_
    refine fx_iload dX6_goodStep_43 rfl ?_
    refine fx_iadd dX6_goodStep_45 ?_
    rw [pk_mul, nI_add]
    refine fx_aloadn dX6_goodStep_46 rfl ?_
    refine fx_bipush (nI 8) dX6_goodStep_47 (by decide) ?_
    refine fx_callVp dX6_goodStep_49 vX6_half kkX6_57 rfl rfl (by assumption) (p_rf_half D 8 (by omega)) rfl (by decide) (by decide) rfl (Nat.le_of_ble_eq_true rfl) ?_
    refine fx_icn_ge 59 dX6_goodStep_52 (by decide) (by omega) (by omega) (fun c52 => ?_) (fun c52 => ?_)
    · skip
      refine fx_iconst (nI 0) dX6_goodStep_59 (by decide) ?_
      refine fx_zret dX6_goodStep_60 rfl rfl ?_
      refine fx_no (fun q => ?_)
      unfold ml_stp at q
      rw [if_pos (by omega)] at q
      omega
    · skip
      refine fx_iconst (nI 1) dX6_goodStep_55 (by decide) ?_
      refine fx_goto 60 dX6_goodStep_56 (by decide) ?_
      refine fx_zret dX6_goodStep_60 rfl rfl ?_
      refine fx_yes ?_
      unfold ml_stp
      rw [if_pos (by omega)]
      omega
theorem l_rf_goodPiece {g : fx_G} {h : fx_H} {a lim nw : Nat} {b : Nat → Nat} (D : rd h a b lim) (V : ml_v b nw) (hl : 4 * nw ≤ lim) (i : Nat) (hi : i < ml_rl b 8) : ∀ n k : Nat, k + n = 3 → fx_Y g mX6_goodPiece 7 151 (fun r h' => r = some (.int (bI (ml_pc b i))) ∧ h' = h) (fun _ _ => False) 15 [(0, .ref a), (1, .int (nI i)), (2, .int (bI (ml_i b (b (4 * (ml_st b 8 + i) + 3)) ≠ 0 ∧ ∀ j, j < k → ml_pt b (b (4 * (ml_st b 8 + i) + j))))), (3, .int (nI k))] [] h 0 0 := by
  obtain ⟨fs, h1⟩ := D.at
  have hs := V.six
  have hr8 := V.row (r := 8) (by decide)
  have hpc : ml_pc b i ↔ (ml_i b (b (4 * (ml_st b 8 + i) + 3)) ≠ 0 ∧ ∀ j, j < 3 → ml_pt b (b (4 * (ml_st b 8 + i) + j))) := by
    unfold ml_pc
    rw [show ml_e b 8 i = ml_W b (ml_st b 8 + i) from if_pos hi, ml_b0 V.1, ml_b1 V.1, ml_b2 V.1, ml_b3 V.1]
    constructor
    · intro q
      refine ⟨q.2.2.2, fun j hj => ?_⟩
      rcases (show j = 0 ∨ j = 1 ∨ j = 2 by omega) with rfl | rfl | rfl
      · exact q.1
      · exact q.2.1
      · exact q.2.2.1
    · intro q
      exact ⟨q.2 0 (by decide), q.2 1 (by decide), q.2 2 (by decide), q.1⟩
  intro n
  induction n using Nat.strongRecOn with
  | ind n ih =>
  intro k hk
  refine fx_iloadn dX6_goodPiece_15 rfl ?_
  refine fx_iconst (nI 3) dX6_goodPiece_16 (by decide) ?_
  refine fx_icn_ge 62 dX6_goodPiece_17 (by decide) (by omega) (by omega) (fun c17 => ?_) (fun c17 => ?_)
  · skip
    refine fx_iloadn dX6_goodPiece_62 rfl ?_
    refine fx_zret dX6_goodPiece_63 rfl (bI_nar _) ?_
    exact ⟨by rw [show k = 3 by omega, bI_c hpc], rfl⟩
  · skip
    have j55 : ∀ lv : List (Nat × Value), fx_le [(0, .ref a), (1, .int (nI i)), (3, .int (nI k))] lv → fx_Y g mX6_goodPiece 7 151 (fun r h' => r = some (.int (bI (ml_pc b i))) ∧ h' = h) (fun _ _ => False) 55 lv [.int (bI (ml_i b (b (4 * (ml_st b 8 + i) + 3)) ≠ 0 ∧ ∀ j, j < (k + 1) → ml_pt b (b (4 * (ml_st b 8 + i) + j))))] h 0 0 := by
      intro lv hlv
      refine fx_sub _ hlv ?_
      refine fx_istoren dX6_goodPiece_55 (by decide) ?_
      refine fx_iinc (nI 1) dX6_goodPiece_56 rfl (by decide) (by decide) ?_
      refine fx_goto 15 dX6_goodPiece_59 (by decide) ?_
      simp only [nI_add]
      exact fx_to (ih (n - 1) (by omega) (k + 1) (by omega)) ⟨rfl, rfl, rfl, rfl, trivial⟩
    have hbk := V.1 (4 * (ml_st b 8 + i) + k)
    refine fx_iloadn dX6_goodPiece_20 rfl ?_
    refine fx_if_eqB 54 dX6_goodPiece_21 (by decide) (fun c21 => ?_) (fun c21 => ?_)
    · skip
      refine fx_iconst (nI 0) dX6_goodPiece_54 (by decide) ?_
      exact fx_st0 (by rw [bI_f (fun q => c21 ⟨q.1, fun j q1 => q.2 j (by omega)⟩)]) (j55 _ ⟨rfl, rfl, rfl, trivial⟩)
    · skip
      refine fx_aloadn dX6_goodPiece_24 rfl ?_
      refine fx_bipush (nI 8) dX6_goodPiece_25 (by decide) ?_
      refine fx_iloadn dX6_goodPiece_27 rfl ?_
      refine fx_iloadn dX6_goodPiece_28 rfl ?_
      refine fx_callVp dX6_goodPiece_29 vX6_piece kkX6_67 rfl rfl (by assumption) (p_rf_piece D V.w (by omega) 8 (by decide) i k (by omega)) rfl (by decide) (by decide) rfl (Nat.le_of_ble_eq_true rfl) ?_
      refine fx_ifn_eq 50 dX6_goodPiece_32 (by decide) (by omega) (fun c32 => ?_) (fun c32 => ?_)
      · skip
        refine fx_iconst (nI 1) dX6_goodPiece_50 (by decide) ?_
        refine fx_goto 55 dX6_goodPiece_51 (by decide) ?_
        exact fx_st0 (by rw [bI_t ⟨c21.1, fun j q1 => by
          by_cases e : j < k
          · exact c21.2 j e
          · rw [show j = k by omega]; exact Or.inl c32⟩]) (j55 _ ⟨rfl, rfl, rfl, trivial⟩)
      · skip
        refine fx_aloadn dX6_goodPiece_35 rfl ?_
        refine fx_aloadn dX6_goodPiece_36 rfl ?_
        refine fx_bipush (nI 8) dX6_goodPiece_37 (by decide) ?_
        refine fx_iloadn dX6_goodPiece_39 rfl ?_
        refine fx_iloadn dX6_goodPiece_40 rfl ?_
        refine fx_callVp dX6_goodPiece_41 vX6_piece kkX6_67 rfl rfl (by assumption) (p_rf_piece D V.w (by omega) 8 (by decide) i k (by omega)) rfl (by decide) (by decide) rfl (Nat.le_of_ble_eq_true rfl) ?_
        refine fx_callVp dX6_goodPiece_44 vX6_isThere kkX6_76 rfl rfl (by assumption) (p_rf_isThere D V hl _) rfl (by decide) (by decide) rfl (Nat.le_of_ble_eq_true rfl) ?_
        refine fx_if_eqB 54 dX6_goodPiece_47 (by decide) (fun c47 => ?_) (fun c47 => ?_)
        · skip
          refine fx_iconst (nI 0) dX6_goodPiece_54 (by decide) ?_
          exact fx_st0 (by rw [bI_f (fun q => (q.2 k (by omega)).elim c32 (fun e => c47 (by rw [ml_iI_n (by omega)]; exact e)))]) (j55 _ ⟨rfl, rfl, rfl, trivial⟩)
        · skip
          refine fx_iconst (nI 1) dX6_goodPiece_50 (by decide) ?_
          refine fx_goto 55 dX6_goodPiece_51 (by decide) ?_
          exact fx_st0 (by rw [bI_t ⟨c21.1, fun j q1 => by
            by_cases e : j < k
            · exact c21.2 j e
            · rw [show j = k by omega]; exact Or.inr (by rw [← ml_iI_n (b := b) (show b (4 * (ml_st b 8 + i) + k) < 2 ^ 31 by omega)]; exact c47)⟩]) (j55 _ ⟨rfl, rfl, rfl, trivial⟩)
theorem p_rf_goodPiece {g : fx_G} {h : fx_H} {a lim nw : Nat} {b : Nat → Nat} (D : rd h a b lim) (V : ml_v b nw) (hl : 4 * nw ≤ lim) (i : Nat) (hi : i < ml_rl b 8) : fx_P g mX6_goodPiece 7 151 [.ref a, .int (nI i)] h (.int (bI (ml_pc b i))) := by
  obtain ⟨fs, h1⟩ := D.at
  have hs := V.six
  have hr8 := V.row (r := 8) (by decide)
  have hb3 := V.1 (4 * (ml_st b 8 + i) + 3)
  refine fx_Met.of rfl (Nat.le_of_ble_eq_true rfl) ?_
  refine fx_aloadn dX6_goodPiece_0 rfl ?_
  refine fx_aloadn dX6_goodPiece_1 rfl ?_
  refine fx_bipush (nI 8) dX6_goodPiece_2 (by decide) ?_
  refine fx_iloadn dX6_goodPiece_4 rfl ?_
  refine fx_iconst (nI 3) dX6_goodPiece_5 (by decide) ?_
  refine fx_callVp dX6_goodPiece_6 vX6_piece kkX6_67 rfl rfl (by assumption) (p_rf_piece D V.w (by omega) 8 (by decide) i 3 (by omega)) rfl (by decide) (by decide) rfl (Nat.le_of_ble_eq_true rfl) ?_
  refine fx_callVp dX6_goodPiece_9 vX6_isThere kkX6_76 rfl rfl (by assumption) (p_rf_isThere D V hl _) rfl (by decide) (by decide) rfl (Nat.le_of_ble_eq_true rfl) ?_
  refine fx_istoren dX6_goodPiece_12 (by decide) ?_
  refine fx_iconst (nI 0) dX6_goodPiece_13 (by decide) ?_
  refine fx_istoren dX6_goodPiece_14 (by decide) ?_
  refine fx_to (l_rf_goodPiece D V hl i hi 3 0 rfl) ⟨rfl, rfl, ?_, rfl, trivial⟩
  show some (Value.int (bI _)) = some (Value.int (bI _))
  refine congrArg (fun x => some (Value.int x)) (bI_c ?_)
  rw [ml_iI_n (by omega)]
  exact ⟨fun q => ⟨q, fun j hj => by omega⟩, fun q => q.1⟩
/-- fault 4 as the reference reads it: row by row -/
def ml_frR (b : Nat → Nat) (r : Nat) : Prop := r ≠ 6 → r ≠ 8 → ∀ k, k < ml_rl b r → if k = 0 ∧ (r < 6 ∨ r = 9) then (r < 6 → ml_e b r k = 0) else ml_fr (ml_e b r k)
theorem ml_f4R {b : Nat → Nat} {nw : Nat} (V : ml_v b nw) : ml_f4 b ↔ ∀ r, 2 ≤ r → r < 10 → ml_frR b r := by
  have hp : ∀ r, 2 ≤ r → r < 6 → 0 < ml_rl b r := fun r h2 h6 => by
    have := V.2.2.2.2.2.1 (r + 2) (by omega) (by omega)
    unfold ml_rl
    rw [if_neg (by omega), if_neg (by omega)]
    exact this
  constructor
  · intro q r h2 h10 n6 n8 k hk
    by_cases e : r < 6
    · by_cases e0 : k = 0
      · rw [if_pos ⟨e0, Or.inl e⟩, e0]
        exact fun _ => (q.1 r h2 e).1
      · rw [if_neg (fun z => e0 z.1)]
        exact (q.1 r h2 e).2 k (by omega) hk
    · rcases (show r = 7 ∨ r = 9 by omega) with rfl | rfl
      · rw [if_neg (by omega)]
        exact q.2.1 k (by omega) hk
      · by_cases e0 : k = 0
        · rw [if_pos ⟨e0, Or.inr rfl⟩]
          exact fun z => absurd z (by decide)
        · rw [if_neg (fun z => e0 z.1)]
          exact q.2.2 k (by omega) hk
  · intro q
    refine ⟨fun r h2 h6 => ⟨?_, fun k hk1 hk => ?_⟩, fun k _ hk => ?_, fun k hk1 hk => ?_⟩
    · have := q r h2 (by omega) (by omega) (by omega) 0 (hp r h2 h6)
      rw [if_pos ⟨rfl, Or.inl h6⟩] at this
      exact this h6
    · have := q r h2 (by omega) (by omega) (by omega) k hk
      rw [if_neg (by omega)] at this
      exact this
    · have := q 7 (by decide) (by decide) (by decide) (by decide) k hk
      rw [if_neg (by omega)] at this
      exact this
    · have := q 9 (by decide) (by decide) (by decide) (by decide) k hk
      rw [if_neg (by omega)] at this
      exact this

theorem l_rf_fr1 {g : fx_G} {h : fx_H} {a lim nw : Nat} {b : Nat → Nat} (D : rd h a b lim) (V : ml_v b nw) (hl : 4 * nw ≤ lim) (r : Nat) (hr2 : 2 ≤ r) (hr10 : r < 10) (j112 : ∀ lv : List (Nat × Value), fx_le [(0, .ref a), (1, .int (nI r))] lv → ml_frR b r → fx_Y g mX6_goodFractions 4 85 (fun r h' => r = some (.int (bI (∀ r, 2 ≤ r → r < 10 → ml_frR b r))) ∧ h' = h) (fun _ _ => False) 112 lv [] h 0 0) : ∀ n k : Nat, k + n = ml_rl b r → (r ≠ 6 → r ≠ 8 → ∀ k', k' < k → if k' = 0 ∧ (r < 6 ∨ r = 9) then (r < 6 → ml_e b r k' = 0) else ml_fr (ml_e b r k')) → fx_Y g mX6_goodFractions 4 85 (fun r h' => r = some (.int (bI (∀ r, 2 ≤ r → r < 10 → ml_frR b r))) ∧ h' = h) (fun _ _ => False) 16 [(0, .ref a), (1, .int (nI r)), (2, .int (nI (ml_st b r))), (3, .int (nI k))] [] h 0 0 := by
  obtain ⟨fs, h1⟩ := D.at
  have hs := V.six
  have hrow := V.row hr10
  have w2 := V.w.2.1 (r + 2) (by omega)
  have er : ml_rl b r = ml_H b (r + 2) := by
    unfold ml_rl
    rw [if_neg (by omega), if_neg (by omega)]
  intro n
  induction n using Nat.strongRecOn with
  | ind n ih =>
  intro k hk hp
  refine fx_iloadn dX6_goodFractions_16 rfl ?_
  refine fx_aloadn dX6_goodFractions_17 rfl ?_
  refine fx_iloadn dX6_goodFractions_18 rfl ?_
  refine fx_iconst (nI 2) dX6_goodFractions_19 (by decide) ?_
  refine fx_iadd dX6_goodFractions_20 ?_
  rw [nI_add]
  refine fx_callVp dX6_goodFractions_21 vX6_half kkX6_57 rfl rfl (by assumption) (p_rf_half D (r + 2) (by omega)) rfl (by decide) (by decide) rfl (Nat.le_of_ble_eq_true rfl) ?_
  refine fx_icn_ge 112 dX6_goodFractions_24 (by decide) (by omega) (by omega) (fun c24 => ?_) (fun c24 => ?_)
  · skip
    exact j112 _ ⟨rfl, rfl, trivial⟩ (fun n6 n8 j hj => hp n6 n8 j (by omega))
  · skip
    refine fx_iloadn dX6_goodFractions_27 rfl ?_
    refine fx_bipush (nI 6) dX6_goodFractions_28 (by decide) ?_
    refine fx_icn_eq 112 dX6_goodFractions_30 (by decide) (by omega) (by omega) (fun c30 => ?_) (fun c30 => ?_)
    · skip
      exact j112 _ ⟨rfl, rfl, trivial⟩ (fun n6 n8 j hj => absurd c30 n6)
    · skip
      refine fx_iloadn dX6_goodFractions_33 rfl ?_
      refine fx_bipush (nI 8) dX6_goodFractions_34 (by decide) ?_
      refine fx_icn_eq 112 dX6_goodFractions_36 (by decide) (by omega) (by omega) (fun c36 => ?_) (fun c36 => ?_)
      · skip
        exact j112 _ ⟨rfl, rfl, trivial⟩ (fun n6 n8 j hj => absurd c36 n8)
      · skip
        refine fx_aloadn dX6_goodFractions_39 rfl ?_
        refine fx_iloadn dX6_goodFractions_40 rfl ?_
        refine fx_iloadn dX6_goodFractions_41 rfl ?_
        refine fx_iadd dX6_goodFractions_42 ?_
        rw [nI_add]
        refine fx_callVp dX6_goodFractions_43 vX6_word kkX6_83 rfl rfl (by assumption) (p_rf_word D V.1 (ml_st b r + k) (by omega)) rfl (by decide) (by decide) rfl (Nat.le_of_ble_eq_true rfl) ?_
        rw [← show ml_e b r k = ml_W b (ml_st b r + k) from if_pos (by omega)]
        have j69 : ∀ lv : List (Nat × Value), fx_le [(0, .ref a), (1, .int (nI r)), (2, .int (nI (ml_st b r))), (3, .int (nI k)), (4, .int (nI (ml_e b r k)))] lv → fx_Y g mX6_goodFractions 4 85 (fun r h' => r = some (.int (bI (∀ r, 2 ≤ r → r < 10 → ml_frR b r))) ∧ h' = h) (fun _ _ => False) 69 lv [.int (bI (k = 0 ∧ (r < 6 ∨ r = 9)))] h 0 0 := by
          intro lv hlv
          refine fx_sub _ hlv ?_
          refine fx_istore dX6_goodFractions_69 (by decide) ?_
          refine fx_iload dX6_goodFractions_71 rfl ?_
          refine fx_if_eqB 90 dX6_goodFractions_73 (by decide) (fun c73 => ?_) (fun c73 => ?_)
          · skip
            refine fx_iload dX6_goodFractions_90 rfl ?_
            refine fx_ldc dX6_goodFractions_92 qqX6_86 ?_
            refine fx_icmp_lt 104 dX6_goodFractions_94 (by decide) (fun c94 => ?_) (fun c94 => ?_)
            · skip
              refine fx_iconst (nI 0) dX6_goodFractions_104 (by decide) ?_
              refine fx_zret dX6_goodFractions_105 rfl rfl ?_
              refine fx_no (fun q => ?_)
              have q9 := q r hr2 hr10 c30 c36 k (by omega)
              rw [if_neg c73] at q9
              exact q9.1 c94
            · skip
              refine fx_iload dX6_goodFractions_97 rfl ?_
              refine fx_ldc dX6_goodFractions_99 qqX6_87 ?_
              refine fx_icmp_lt 106 dX6_goodFractions_101 (by decide) (fun c101 => ?_) (fun c101 => ?_)
              · skip
                refine fx_iinc (nI 1) dX6_goodFractions_106 rfl (by decide) (by decide) ?_
                refine fx_goto 16 dX6_goodFractions_109 (by decide) ?_
                simp only [nI_add]
                refine fx_to (ih (n - 1) (by omega) (k + 1) (by omega) (fun n6 n8 j hj => ?_)) ⟨rfl, rfl, rfl, rfl, trivial⟩
                by_cases e : j < k
                · exact hp n6 n8 j e
                · rw [show j = k by omega]
                  rw [if_neg c73]
                  exact ⟨c94, c101⟩
              · skip
                refine fx_iconst (nI 0) dX6_goodFractions_104 (by decide) ?_
                refine fx_zret dX6_goodFractions_105 rfl rfl ?_
                refine fx_no (fun q => ?_)
                have q9 := q r hr2 hr10 c30 c36 k (by omega)
                rw [if_neg c73] at q9
                exact c101 q9.2
          · skip
            refine fx_iloadn dX6_goodFractions_76 rfl ?_
            refine fx_bipush (nI 6) dX6_goodFractions_77 (by decide) ?_
            refine fx_icn_ge 106 dX6_goodFractions_79 (by decide) (by omega) (by omega) (fun c79 => ?_) (fun c79 => ?_)
            · skip
              refine fx_iinc (nI 1) dX6_goodFractions_106 rfl (by decide) (by decide) ?_
              refine fx_goto 16 dX6_goodFractions_109 (by decide) ?_
              simp only [nI_add]
              refine fx_to (ih (n - 1) (by omega) (k + 1) (by omega) (fun n6 n8 j hj => ?_)) ⟨rfl, rfl, rfl, rfl, trivial⟩
              by_cases e : j < k
              · exact hp n6 n8 j e
              · rw [show j = k by omega]
                rw [if_pos c73]
                exact fun z => absurd z (by omega)
            · skip
              refine fx_iload dX6_goodFractions_82 rfl ?_
              refine fx_if_eq 106 dX6_goodFractions_84 (by decide) (fun c84 => ?_) (fun c84 => ?_)
              · skip
                refine fx_iinc (nI 1) dX6_goodFractions_106 rfl (by decide) (by decide) ?_
                refine fx_goto 16 dX6_goodFractions_109 (by decide) ?_
                simp only [nI_add]
                refine fx_to (ih (n - 1) (by omega) (k + 1) (by omega) (fun n6 n8 j hj => ?_)) ⟨rfl, rfl, rfl, rfl, trivial⟩
                by_cases e : j < k
                · exact hp n6 n8 j e
                · rw [show j = k by omega]
                  rw [if_pos c73]
                  exact fun _ => (nI_eq0 (ml_e_lt V.1 r k)).mp c84
              · skip
                refine fx_goto 104 dX6_goodFractions_87 (by decide) ?_
                refine fx_iconst (nI 0) dX6_goodFractions_104 (by decide) ?_
                refine fx_zret dX6_goodFractions_105 rfl rfl ?_
                refine fx_no (fun q => ?_)
                have q9 := q r hr2 hr10 c30 c36 k (by omega)
                rw [if_pos c73] at q9
                exact c84 (by rw [q9 (by omega)]; rfl)
        refine fx_istore dX6_goodFractions_46 (by decide) ?_
        refine fx_iloadn dX6_goodFractions_48 rfl ?_
        refine fx_ifn_ne 68 dX6_goodFractions_49 (by decide) (by omega) (fun c49 => ?_) (fun c49 => ?_)
        · skip
          refine fx_iconst (nI 0) dX6_goodFractions_68 (by decide) ?_
          exact fx_st0 (by rw [bI_f (fun q => c49 q.1)]) (j69 _ ⟨rfl, rfl, rfl, rfl, rfl, trivial⟩)
        · skip
          refine fx_iloadn dX6_goodFractions_52 rfl ?_
          refine fx_bipush (nI 6) dX6_goodFractions_53 (by decide) ?_
          refine fx_icn_lt 64 dX6_goodFractions_55 (by decide) (by omega) (by omega) (fun c55 => ?_) (fun c55 => ?_)
          · skip
            refine fx_iconst (nI 1) dX6_goodFractions_64 (by decide) ?_
            refine fx_goto 69 dX6_goodFractions_65 (by decide) ?_
            exact fx_st0 (by rw [bI_t ⟨c49, Or.inl c55⟩]) (j69 _ ⟨rfl, rfl, rfl, rfl, rfl, trivial⟩)
          · skip
            refine fx_iloadn dX6_goodFractions_58 rfl ?_
            refine fx_bipush (nI 9) dX6_goodFractions_59 (by decide) ?_
            refine fx_icn_ne 68 dX6_goodFractions_61 (by decide) (by omega) (by omega) (fun c61 => ?_) (fun c61 => ?_)
            · skip
              refine fx_iconst (nI 0) dX6_goodFractions_68 (by decide) ?_
              exact fx_st0 (by rw [bI_f (fun q => by omega)]) (j69 _ ⟨rfl, rfl, rfl, rfl, rfl, trivial⟩)
            · skip
              refine fx_iconst (nI 1) dX6_goodFractions_64 (by decide) ?_
              refine fx_goto 69 dX6_goodFractions_65 (by decide) ?_
              exact fx_st0 (by rw [bI_t ⟨c49, Or.inr c61⟩]) (j69 _ ⟨rfl, rfl, rfl, rfl, rfl, trivial⟩)
theorem l_rf_fr0 {g : fx_G} {h : fx_H} {a lim nw : Nat} {b : Nat → Nat} (D : rd h a b lim) (V : ml_v b nw) (hl : 4 * nw ≤ lim) : ∀ n r : Nat, 2 ≤ r → r + n = 10 → (∀ j, 2 ≤ j → j < r → ml_frR b j) → fx_Y g mX6_goodFractions 4 85 (fun r h' => r = some (.int (bI (∀ r, 2 ≤ r → r < 10 → ml_frR b r))) ∧ h' = h) (fun _ _ => False) 2 [(0, .ref a), (1, .int (nI r))] [] h 0 0 := by
  obtain ⟨fs, h1⟩ := D.at
  have hs := V.six
  intro n
  induction n using Nat.strongRecOn with
  | ind n ih =>
  intro r hr2 hk hp
  refine fx_iloadn dX6_goodFractions_2 rfl ?_
  refine fx_bipush (nI 10) dX6_goodFractions_3 (by decide) ?_
  refine fx_icn_ge 118 dX6_goodFractions_5 (by decide) (by omega) (by omega) (fun c5 => ?_) (fun c5 => ?_)
  · skip
    refine fx_iconst (nI 1) dX6_goodFractions_118 (by decide) ?_
    refine fx_zret dX6_goodFractions_119 rfl rfl ?_
    exact fx_yes (fun j h2 hj => hp j h2 (by omega))
  · skip
    refine fx_aloadn dX6_goodFractions_8 rfl ?_
    refine fx_iloadn dX6_goodFractions_9 rfl ?_
    refine fx_callVp dX6_goodFractions_10 vX6_start kkX6_64 rfl rfl (by assumption) (p_rf_start D V.w (by omega) r (by omega)) rfl (by decide) (by decide) rfl (Nat.le_of_ble_eq_true rfl) ?_
    refine fx_istoren dX6_goodFractions_13 (by decide) ?_
    refine fx_iconst (nI 0) dX6_goodFractions_14 (by decide) ?_
    refine fx_istoren dX6_goodFractions_15 (by decide) ?_
    refine fx_to (l_rf_fr1 D V hl r hr2 c5 (fun lv hlv hfr => ?_) (ml_rl b r) 0 (by omega) (fun n6 n8 j hj => by omega)) ⟨rfl, rfl, rfl, rfl, trivial⟩
    refine fx_sub _ hlv ?_
    refine fx_iinc (nI 1) dX6_goodFractions_112 rfl (by decide) (by decide) ?_
    refine fx_goto 2 dX6_goodFractions_115 (by decide) ?_
    simp only [nI_add]
    refine fx_to (ih (n - 1) (by omega) (r + 1) (by omega) (by omega) (fun j h2 hj => ?_)) ⟨rfl, rfl, trivial⟩
    by_cases e : j < r
    · exact hp j h2 e
    · rw [show j = r by omega]
      exact hfr
theorem p_rf_goodFractions {g : fx_G} {h : fx_H} {a lim nw : Nat} {b : Nat → Nat} (D : rd h a b lim) (V : ml_v b nw) (hl : 4 * nw ≤ lim) : fx_P g mX6_goodFractions 4 85 [.ref a] h (.int (bI (ml_f4 b))) := by
  rw [bI_c (ml_f4R V)]
  obtain ⟨fs, h1⟩ := D.at
  have hs := V.six
  refine fx_Met.of rfl (Nat.le_of_ble_eq_true rfl) ?_
  refine fx_iconst (nI 2) dX6_goodFractions_0 (by decide) ?_
  refine fx_istoren dX6_goodFractions_1 (by decide) ?_
  exact fx_to (l_rf_fr0 D V hl 8 2 (by decide) rfl (fun j h2 hj => by omega)) ⟨rfl, rfl, trivial⟩
