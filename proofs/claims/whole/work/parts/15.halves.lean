/-! halvesFit: fault 1, as the class finds it -/
theorem dr.at {h : fx_H} {a p n len : Nat} {B : Nat → Nat} (H : dr h a p n len B) : ∃ fs : List Value, h a = some (.inr (0, fs)) := ⟨_, H.1⟩
theorem dr.len {h : fx_H} {a p n len : Nat} {B : Nat → Nat} (H : dr h a p n len B) : len ≤ 131072 := Nat.le_trans H.2.1 H.2.2.1
theorem p_dr_half {g : fx_G} {h : fx_H} {a p n len : Nat} {B : Nat → Nat} (H : dr h a p n len B) (k : Nat) (hk : k < 2 ^ 29) : fx_P g mX0_halfAt 1 21 [.ref a, .int (nI k)] h (.int (nI (ml_H (by_ B len) k))) := p_dr_halfAt H k hk
theorem p_dr_word {g : fx_G} {h : fx_H} {a p n len : Nat} {B : Nat → Nat} (H : dr h a p n len B) (k : Nat) (hk : k < 2 ^ 27) : fx_P g mX0_wordAt 2 42 [.ref a, .int (nI k)] h (.int (nI (ml_W (by_ B len) k))) := p_dr_wordAt H k hk
def ml_lst (k : Nat) : Nat := if k = 1 then 2 else if 4 ≤ k ∧ k ≤ 7 then 1 else 0
theorem nI_charsN {x y : Nat} (h : x + 1 < y) (hy : y < 2 ^ 30) : nI x - nI y + nI 1 < 0 := by
  have e : nI x - nI y + nI 1 = nI (x + 1) - nI y := by
    rw [← nI_add]
    rw [Int32.sub_eq_add_neg, Int32.sub_eq_add_neg, Int32.add_assoc, Int32.add_comm (-nI y), Int32.add_assoc]
  rw [e]
  exact pk_sneg hy h

theorem l_dr_hf2 {g : fx_G} {h : fx_H} {a p n len : Nat} {B : Nat → Nat} (H : dr h a p n len B) (hw : ml_w (by_ B len)) (hall : ml_st (by_ B len) 10 = ml_H (by_ B len) 0 → ml_f1 (by_ B len) len) : ∀ n k : Nat, 4 ≤ k → k + n = 12 → fx_Y g mX2_halvesFit 2 42 (fun q h' => q = some (.int (bI (ml_f1 (by_ B len) len))) ∧ h' = h) (fun _ _ => False) 142 [(0, .ref a), (2, .int (nI (ml_st (by_ B len) (k - 2)))), (3, .int (nI k))] [] h 0 0 := by
  obtain ⟨fs, h1⟩ := H.at
  have hb := H.by_lt
  have hh : ∀ k, ml_H (by_ B len) k < 65536 := ml_H_lt hb
  have h10 := ml_st_lt hw (r := 10) (by decide)
  have hh0 := hh 0
  intro n
  induction n using Nat.strongRecOn with
  | ind n ih =>
  intro k hk4 hk
  have hk10 := ml_st_lt hw (r := k - 2) (by omega)
  refine fx_iloadn dX2_halvesFit_142 rfl ?_
  refine fx_bipush (nI 12) dX2_halvesFit_143 (by decide) ?_
  refine fx_icn_ge 162 dX2_halvesFit_145 (by decide) (by omega) (by omega) (fun c145 => ?_) (fun c145 => ?_)
  · skip
    have e10 : k - 2 = 10 := by omega
    rw [e10]
    refine fx_iloadn dX2_halvesFit_162 rfl ?_
    refine fx_aloadn dX2_halvesFit_163 rfl ?_
    refine fx_iconst (nI 0) dX2_halvesFit_164 (by decide) ?_
    refine fx_callVp dX2_halvesFit_165 vX0_halfAt kkX2_13 rfl rfl (by assumption) (p_dr_half H 0 (by decide)) rfl (by decide) (by decide) rfl (Nat.le_of_ble_eq_true rfl) ?_
    refine fx_icn_ne 175 dX2_halvesFit_168 (by decide) (by omega) (by omega) (fun c168 => ?_) (fun c168 => ?_)
    · skip
      refine fx_iconst (nI 0) dX2_halvesFit_175 (by decide) ?_
      refine fx_zret dX2_halvesFit_176 rfl rfl ?_
      exact fx_no (fun q => by have := q.2.2.2.2.2.2.2.2; omega)
    · skip
      refine fx_iconst (nI 1) dX2_halvesFit_171 (by decide) ?_
      refine fx_goto 176 dX2_halvesFit_172 (by decide) ?_
      refine fx_zret dX2_halvesFit_176 rfl rfl ?_
      refine fx_yes (hall ?_)
      omega
  · skip
    refine fx_iloadn dX2_halvesFit_148 rfl ?_
    refine fx_aloadn dX2_halvesFit_149 rfl ?_
    refine fx_iloadn dX2_halvesFit_150 rfl ?_
    refine fx_callVp dX2_halvesFit_151 vX0_halfAt kkX2_13 rfl rfl (by assumption) (p_dr_half H _ (by omega)) rfl (by decide) (by decide) rfl (Nat.le_of_ble_eq_true rfl) ?_
    refine fx_iadd dX2_halvesFit_154 ?_
    refine fx_istoren dX2_halvesFit_155 (by decide) ?_
    refine fx_iinc (nI 1) dX2_halvesFit_156 rfl (by decide) (by decide) ?_
    refine fx_goto 142 dX2_halvesFit_159 (by decide) ?_
    simp only [nI_add]
    refine fx_to (ih (n - 1) (by omega) (k + 1) (by omega) (by omega)) ⟨rfl, ?_, rfl, trivial⟩
    rw [show k + 1 - 2 = k - 2 + 1 by omega]
    have e9 : ml_rl (by_ B len) (k - 2) = ml_H (by_ B len) k := by
      unfold ml_rl
      rw [if_neg (by omega), if_neg (by omega), show k - 2 + 2 = k by omega]
    show some (Value.int (nI (ml_st (by_ B len) (k - 2) + ml_H (by_ B len) k))) = some (Value.int (nI (ml_st (by_ B len) (k - 2) + ml_rl (by_ B len) (k - 2))))
    rw [e9]
theorem l_dr_hf1 {g : fx_G} {h : fx_H} {a p n len : Nat} {B : Nat → Nat} (H : dr h a p n len B) (h24 : 24 ≤ len) (hnb : len = 4 * ml_H (by_ B len) 0) (h12 : ∀ k, k < 12 → ml_lst k ≤ ml_H (by_ B len) k ∧ ml_H (by_ B len) k < 32768) (lv : List (Nat × Value)) (hlv : fx_le [(0, .ref a)] lv) : fx_Y g mX2_halvesFit 2 42 (fun q h' => q = some (.int (bI (ml_f1 (by_ B len) len))) ∧ h' = h) (fun _ _ => False) 86 lv [] h 0 0 := by
  obtain ⟨fs, h1⟩ := H.at
  have hb := H.by_lt
  have hh : ∀ k, ml_H (by_ B len) k < 65536 := ml_H_lt hb
  have w1 := (h12 1 (by decide)).2
  have w2 := (h12 2 (by decide)).2
  have w3 := (h12 3 (by decide)).2
  have w10 := (h12 10 (by decide)).2
  refine fx_sub _ hlv ?_
  by_cases hc : ml_H (by_ B len) 2 ≤ ml_H (by_ B len) 3 + 1
  · have hrl : ml_rl (by_ B len) 1 = ml_H (by_ B len) 3 + 1 - ml_H (by_ B len) 2 := rfl
    have e9 : ml_st (by_ B len) 2 = 6 + ml_H (by_ B len) 1 + (ml_H (by_ B len) 3 + 1 - ml_H (by_ B len) 2) := rfl
    refine fx_aloadn dX2_halvesFit_86 rfl ?_
    refine fx_iconst (nI 3) dX2_halvesFit_87 (by decide) ?_
    refine fx_callVp dX2_halvesFit_88 vX0_halfAt kkX2_13 rfl rfl (by assumption) (p_dr_half H 3 (by decide)) rfl (by decide) (by decide) rfl (Nat.le_of_ble_eq_true rfl) ?_
    refine fx_aloadn dX2_halvesFit_91 rfl ?_
    refine fx_iconst (nI 2) dX2_halvesFit_92 (by decide) ?_
    refine fx_callVp dX2_halvesFit_93 vX0_halfAt kkX2_13 rfl rfl (by assumption) (p_dr_half H 2 (by decide)) rfl (by decide) (by decide) rfl (Nat.le_of_ble_eq_true rfl) ?_
    refine fx_isub dX2_halvesFit_96 ?_
    refine fx_iconst (nI 1) dX2_halvesFit_97 (by decide) ?_
    refine fx_iadd dX2_halvesFit_98 ?_
    rw [nI_chars hc]
    refine fx_istoren dX2_halvesFit_99 (by decide) ?_
    refine fx_iloadn dX2_halvesFit_100 rfl ?_
    refine fx_if_lt 127 dX2_halvesFit_101 (by decide) (fun c101 => absurd c101 (nI_pos (by omega))) (fun c101 => ?_)
    refine fx_aloadn dX2_halvesFit_104 rfl ?_
    refine fx_iconst (nI 3) dX2_halvesFit_105 (by decide) ?_
    refine fx_callVp dX2_halvesFit_106 vX0_halfAt kkX2_13 rfl rfl (by assumption) (p_dr_half H 3 (by decide)) rfl (by decide) (by decide) rfl (Nat.le_of_ble_eq_true rfl) ?_
    refine fx_sipush (nI 255) dX2_halvesFit_109 (by decide) ?_
    refine fx_icn_gt 127 dX2_halvesFit_112 (by decide) (by omega) (by omega) (fun c112 => ?_) (fun c112 => ?_)
    · skip
      refine fx_iconst (nI 0) dX2_halvesFit_127 (by decide) ?_
      refine fx_zret dX2_halvesFit_128 rfl rfl ?_
      exact fx_no (fun q => by have := q.2.2.2.2.2.2.1; omega)
    · skip
      refine fx_aloadn dX2_halvesFit_115 rfl ?_
      refine fx_bipush (nI 10) dX2_halvesFit_116 (by decide) ?_
      refine fx_callVp dX2_halvesFit_118 vX0_halfAt kkX2_13 rfl rfl (by assumption) (p_dr_half H 10 (by decide)) rfl (by decide) (by decide) rfl (Nat.le_of_ble_eq_true rfl) ?_
      refine fx_sipush (nI 256) dX2_halvesFit_121 (by decide) ?_
      refine fx_icn_le 129 dX2_halvesFit_124 (by decide) (by omega) (by omega) (fun c124 => ?_) (fun c124 => ?_)
      · skip
        refine fx_bipush (nI 6) dX2_halvesFit_129 (by decide) ?_
        refine fx_aloadn dX2_halvesFit_131 rfl ?_
        refine fx_iconst (nI 1) dX2_halvesFit_132 (by decide) ?_
        refine fx_callVp dX2_halvesFit_133 vX0_halfAt kkX2_13 rfl rfl (by assumption) (p_dr_half H 1 (by decide)) rfl (by decide) (by decide) rfl (Nat.le_of_ble_eq_true rfl) ?_
        refine fx_iadd dX2_halvesFit_136 ?_
        refine fx_iloadn dX2_halvesFit_137 rfl ?_
        refine fx_iadd dX2_halvesFit_138 ?_
        refine fx_istoren dX2_halvesFit_139 (by decide) ?_
        refine fx_iconst (nI 4) dX2_halvesFit_140 (by decide) ?_
        refine fx_istoren dX2_halvesFit_141 (by decide) ?_
        simp only [nI_add]
        refine fx_to (l_dr_hf2 H ⟨hb, fun k hk => (h12 k hk).2, hc⟩ (fun e => ⟨h24, hnb, fun k hk => (h12 k hk).2, (h12 1 (by decide)).1, fun k h4 h8 => ?_, hc, by omega, by omega, e⟩) 8 4 (by decide) rfl) ⟨rfl, rfl, rfl, trivial⟩
        have := (h12 k (by omega)).1
        unfold ml_lst at this
        rw [if_neg (by omega), if_pos (by omega)] at this
        exact this
      · skip
        refine fx_iconst (nI 0) dX2_halvesFit_127 (by decide) ?_
        refine fx_zret dX2_halvesFit_128 rfl rfl ?_
        exact fx_no (fun q => by have := q.2.2.2.2.2.2.2.1; omega)
  · skip
    refine fx_aloadn dX2_halvesFit_86 rfl ?_
    refine fx_iconst (nI 3) dX2_halvesFit_87 (by decide) ?_
    refine fx_callVp dX2_halvesFit_88 vX0_halfAt kkX2_13 rfl rfl (by assumption) (p_dr_half H 3 (by decide)) rfl (by decide) (by decide) rfl (Nat.le_of_ble_eq_true rfl) ?_
    refine fx_aloadn dX2_halvesFit_91 rfl ?_
    refine fx_iconst (nI 2) dX2_halvesFit_92 (by decide) ?_
    refine fx_callVp dX2_halvesFit_93 vX0_halfAt kkX2_13 rfl rfl (by assumption) (p_dr_half H 2 (by decide)) rfl (by decide) (by decide) rfl (Nat.le_of_ble_eq_true rfl) ?_
    refine fx_isub dX2_halvesFit_96 ?_
    refine fx_iconst (nI 1) dX2_halvesFit_97 (by decide) ?_
    refine fx_iadd dX2_halvesFit_98 ?_
    refine fx_istoren dX2_halvesFit_99 (by decide) ?_
    refine fx_iloadn dX2_halvesFit_100 rfl ?_
    refine fx_if_lt 127 dX2_halvesFit_101 (by decide) (fun c101 => ?_) (fun c101 => absurd (nI_charsN (by omega) (by omega)) c101)
    refine fx_iconst (nI 0) dX2_halvesFit_127 (by decide) ?_
    refine fx_zret dX2_halvesFit_128 rfl rfl ?_
    exact fx_no (fun q => hc q.2.2.2.2.2.1)
theorem l_dr_hf0 {g : fx_G} {h : fx_H} {a p n len : Nat} {B : Nat → Nat} (H : dr h a p n len B) (h24 : 24 ≤ len) (hnb : len = 4 * ml_H (by_ B len) 0) : ∀ n k : Nat, k + n = 12 → (∀ j, j < k → ml_lst j ≤ ml_H (by_ B len) j ∧ ml_H (by_ B len) j < 32768) → fx_Y g mX2_halvesFit 2 42 (fun q h' => q = some (.int (bI (ml_f1 (by_ B len) len))) ∧ h' = h) (fun _ _ => False) 27 [(0, .ref a), (1, .int (nI k))] [] h 0 0 := by
  obtain ⟨fs, h1⟩ := H.at
  have hb := H.by_lt
  have hh : ∀ k, ml_H (by_ B len) k < 65536 := ml_H_lt hb
  intro n
  induction n using Nat.strongRecOn with
  | ind n ih =>
  intro k hk hp
  refine fx_iloadn dX2_halvesFit_27 rfl ?_
  refine fx_bipush (nI 12) dX2_halvesFit_28 (by decide) ?_
  refine fx_icn_ge 86 dX2_halvesFit_30 (by decide) (by omega) (by omega) (fun c30 => ?_) (fun c30 => ?_)
  · skip
    exact l_dr_hf1 H h24 hnb (fun j hj => hp j (by omega)) _ ⟨rfl, trivial⟩
  · skip
    have j58 : ∀ lv : List (Nat × Value), fx_le [(0, .ref a), (1, .int (nI k))] lv → fx_Y g mX2_halvesFit 2 42 (fun q h' => q = some (.int (bI (ml_f1 (by_ B len) len))) ∧ h' = h) (fun _ _ => False) 58 lv [.int (nI (ml_lst k))] h 0 0 := by
      intro lv hlv
      refine fx_sub _ hlv ?_
      have q9 := hh k
      have q8 : ml_lst k < 3 := by
        unfold ml_lst
        split
        · decide
        · split <;> decide
      refine fx_istoren dX2_halvesFit_58 (by decide) ?_
      refine fx_aloadn dX2_halvesFit_59 rfl ?_
      refine fx_iloadn dX2_halvesFit_60 rfl ?_
      refine fx_callVp dX2_halvesFit_61 vX0_halfAt kkX2_13 rfl rfl (by assumption) (p_dr_half H k (by omega)) rfl (by decide) (by decide) rfl (Nat.le_of_ble_eq_true rfl) ?_
      refine fx_iloadn dX2_halvesFit_64 rfl ?_
      refine fx_icn_lt 78 dX2_halvesFit_65 (by decide) (by omega) (by omega) (fun c65 => ?_) (fun c65 => ?_)
      · skip
        refine fx_iconst (nI 0) dX2_halvesFit_78 (by decide) ?_
        refine fx_zret dX2_halvesFit_79 rfl rfl ?_
        refine fx_no (fun q => ?_)
        unfold ml_lst at c65
        by_cases e1 : k = 1
        · subst e1
          rw [if_pos rfl] at c65
          have := q.2.2.2.1
          omega
        · rw [if_neg e1] at c65
          by_cases e2 : 4 ≤ k ∧ k ≤ 7
          · rw [if_pos e2] at c65
            have := q.2.2.2.2.1 k e2.1 (by omega)
            omega
          · rw [if_neg e2] at c65
            omega
      · skip
        refine fx_aloadn dX2_halvesFit_68 rfl ?_
        refine fx_iloadn dX2_halvesFit_69 rfl ?_
        refine fx_callVp dX2_halvesFit_70 vX0_halfAt kkX2_13 rfl rfl (by assumption) (p_dr_half H k (by omega)) rfl (by decide) (by decide) rfl (Nat.le_of_ble_eq_true rfl) ?_
        refine fx_ldc dX2_halvesFit_73 qqX2_17 ?_
        refine fx_icn_lt 80 dX2_halvesFit_75 (by decide) (by omega) (by omega) (fun c75 => ?_) (fun c75 => ?_)
        · skip
          refine fx_iinc (nI 1) dX2_halvesFit_80 rfl (by decide) (by decide) ?_
          refine fx_goto 27 dX2_halvesFit_83 (by decide) ?_
          simp only [nI_add]
          refine fx_to (ih (n - 1) (by omega) (k + 1) (by omega) (fun j hj => ?_)) ⟨rfl, rfl, trivial⟩
          by_cases e : j < k
          · exact hp j e
          · rw [show j = k by omega]
            exact ⟨c65, c75⟩
        · skip
          refine fx_iconst (nI 0) dX2_halvesFit_78 (by decide) ?_
          refine fx_zret dX2_halvesFit_79 rfl rfl ?_
          exact fx_no (fun q => by have := q.2.2.1 k (by omega); omega)
    refine fx_iloadn dX2_halvesFit_33 rfl ?_
    refine fx_iconst (nI 1) dX2_halvesFit_34 (by decide) ?_
    refine fx_icn_ne 42 dX2_halvesFit_35 (by decide) (by omega) (by omega) (fun c35 => ?_) (fun c35 => ?_)
    · skip
      refine fx_iloadn dX2_halvesFit_42 rfl ?_
      refine fx_iconst (nI 4) dX2_halvesFit_43 (by decide) ?_
      refine fx_icn_lt 57 dX2_halvesFit_44 (by decide) (by omega) (by omega) (fun c44 => ?_) (fun c44 => ?_)
      · skip
        refine fx_iconst (nI 0) dX2_halvesFit_57 (by decide) ?_
        have e : ml_lst k = 0 := by
          unfold ml_lst
          rw [if_neg c35, if_neg (by omega)]
        exact fx_st0 (by rw [e]) (j58 _ ⟨rfl, rfl, trivial⟩)
      · skip
        refine fx_iloadn dX2_halvesFit_47 rfl ?_
        refine fx_bipush (nI 7) dX2_halvesFit_48 (by decide) ?_
        refine fx_icn_gt 57 dX2_halvesFit_50 (by decide) (by omega) (by omega) (fun c50 => ?_) (fun c50 => ?_)
        · skip
          refine fx_iconst (nI 0) dX2_halvesFit_57 (by decide) ?_
          have e : ml_lst k = 0 := by
            unfold ml_lst
            rw [if_neg c35, if_neg (by omega)]
          exact fx_st0 (by rw [e]) (j58 _ ⟨rfl, rfl, trivial⟩)
        · skip
          refine fx_iconst (nI 1) dX2_halvesFit_53 (by decide) ?_
          refine fx_goto 58 dX2_halvesFit_54 (by decide) ?_
          have e : ml_lst k = 1 := by
            unfold ml_lst
            rw [if_neg c35, if_pos ⟨c44, c50⟩]
          exact fx_st0 (by rw [e]) (j58 _ ⟨rfl, rfl, trivial⟩)
    · skip
      refine fx_iconst (nI 2) dX2_halvesFit_38 (by decide) ?_
      refine fx_goto 58 dX2_halvesFit_39 (by decide) ?_
      have e : ml_lst k = 2 := by
        unfold ml_lst
        rw [if_pos c35]
      exact fx_st0 (by rw [e]) (j58 _ ⟨rfl, rfl, trivial⟩)
theorem p_fc_halvesFit {g : fx_G} {h : fx_H} {a p n len : Nat} {B : Nat → Nat} (H : dr h a p n len B) : fx_P g mX2_halvesFit 2 42 [.ref a] h (.int (bI (ml_f1 (by_ B len) len))) := by
  obtain ⟨fs, h1⟩ := H.at
  have hb := H.by_lt
  have hh : ∀ k, ml_H (by_ B len) k < 65536 := ml_H_lt hb
  have hlen := H.len
  have hh0 := hh 0
  refine fx_Met.of rfl (Nat.le_of_ble_eq_true rfl) ?_
  refine fx_aloadn dX2_halvesFit_0 rfl ?_
  refine fx_callVp dX2_halvesFit_1 vX0_size kkX2_7 rfl rfl (by assumption) (p_dr_size H) rfl (by decide) (by decide) rfl (Nat.le_of_ble_eq_true rfl) ?_
  refine fx_bipush (nI 24) dX2_halvesFit_4 (by decide) ?_
  refine fx_icn_lt 23 dX2_halvesFit_6 (by decide) (by omega) (by omega) (fun c6 => ?_) (fun c6 => ?_)
  · skip
    refine fx_iconst (nI 0) dX2_halvesFit_23 (by decide) ?_
    refine fx_zret dX2_halvesFit_24 rfl rfl ?_
    exact fx_no (fun q => by have := q.1; omega)
  · skip
    refine fx_aloadn dX2_halvesFit_9 rfl ?_
    refine fx_callVp dX2_halvesFit_10 vX0_size kkX2_7 rfl rfl (by assumption) (p_dr_size H) rfl (by decide) (by decide) rfl (Nat.le_of_ble_eq_true rfl) ?_
    refine fx_iconst (nI 4) dX2_halvesFit_13 (by decide) ?_
    refine fx_aloadn dX2_halvesFit_14 rfl ?_
    refine fx_iconst (nI 0) dX2_halvesFit_15 (by decide) ?_
    refine fx_callVp dX2_halvesFit_16 vX0_halfAt kkX2_13 rfl rfl (by assumption) (p_dr_half H 0 (by decide)) rfl (by decide) (by decide) rfl (Nat.le_of_ble_eq_true rfl) ?_
    refine fx_imul dX2_halvesFit_19 ?_
    rw [pk_mul]
    refine fx_icn_eq 25 dX2_halvesFit_20 (by decide) (by omega) (by omega) (fun c20 => ?_) (fun c20 => ?_)
    · skip
      refine fx_iconst (nI 0) dX2_halvesFit_25 (by decide) ?_
      refine fx_istoren dX2_halvesFit_26 (by decide) ?_
      exact fx_to (l_dr_hf0 H c6 c20 12 0 rfl (fun j hj => by omega)) ⟨rfl, rfl, trivial⟩
    · skip
      refine fx_iconst (nI 0) dX2_halvesFit_23 (by decide) ?_
      refine fx_zret dX2_halvesFit_24 rfl rfl ?_
      exact fx_no (fun q => c20 q.2.1)
