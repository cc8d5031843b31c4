/-! FontDesk$FileCheck: the faults, as the class finds them -/
theorem fx_yes {p : Prop} {h : fx_H} (hp : p) : some (Value.int (nI 1)) = some (.int (bI p)) ∧ h = h := ⟨by rw [bI_t hp], rfl⟩
theorem fx_no {p : Prop} {h : fx_H} (hp : ¬ p) : some (Value.int (nI 0)) = some (.int (bI p)) ∧ h = h := ⟨by rw [bI_f hp], rfl⟩
def ml_pls (b : Nat → Nat) (c : Nat) : Prop := ∀ q, q < 4 → ml_pl b (nI c) q < ml_rl b (2 + q)
def ml_ce (b : Nat → Nat) (c : Nat) : Nat → Nat → Prop
  | 0, _ => False
  | n + 1, x => if ml_tag b (nI x) = 2 then (if ml_rest b (nI x) = c then False else ml_ce b c n (ml_rest b (nI x))) else True
def ml_tgC (b : Nat → Nat) (c : Nat) : Prop := (ml_tag b (nI c) = 1 → ml_rest b (nI c) < ml_rl b 6) ∧ (ml_tag b (nI c) = 2 → ml_i b (ml_rest b (nI c)) ≠ 0 ∧ ml_ce b c 256 c) ∧ (ml_tag b (nI c) = 3 → ml_rest b (nI c) < ml_rl b 8)
def ml_f3C (b : Nat → Nat) : Prop := ∀ c, c < 256 → ml_i b c ≠ 0 → ml_pls b c ∧ ml_tgC b c
def ml_fr (w : Nat) : Prop := ¬ nI w < (-16777216) ∧ nI w < nI 16777216
def ml_frs (b : Nat → Nat) (r k0 : Nat) : Prop := ∀ k, k0 ≤ k → k < ml_rl b r → ml_fr (ml_e b r k)
def ml_f4 (b : Nat → Nat) : Prop := (∀ r, 2 ≤ r → r < 6 → ml_e b r 0 = 0 ∧ ml_frs b r 1) ∧ ml_frs b 7 0 ∧ ml_frs b 9 1
def ml_lig (o : Nat) : Prop := o < 4 ∨ (4 < o ∧ o < 8) ∨ o = 11
def ml_deed (b : Nat → Nat) (i : Nat) : Prop := (ml_i b (ml_n b (nI i)) ≠ 0 ∨ nI (ml_n b (nI i)) = ml_bd b) ∧ (ml_s b (nI i) = 128 ∨ i + ml_s b (nI i) + 1 < ml_rl b 6) ∧ (if 128 ≤ ml_o b (nI i) then 256 * (ml_o b (nI i) - 128) + ml_r b (nI i) < ml_rl b 7 else ml_i b (ml_r b (nI i)) ≠ 0 ∧ ml_lig (ml_o b (nI i)))
def ml_stp (b : Nat → Nat) (i : Nat) : Prop := if 128 < ml_s b (nI i) then 256 * ml_o b (nI i) + ml_r b (nI i) < ml_rl b 6 else ml_deed b i
def ml_f5 (b : Nat → Nat) : Prop := ∀ i, i < ml_rl b 6 → ml_stp b i
def ml_pt (b : Nat → Nat) (x : Nat) : Prop := x = 0 ∨ ml_i b x ≠ 0
def ml_pc (b : Nat → Nat) (i : Nat) : Prop := ml_pt b (ml_e b 8 i / 16777216) ∧ ml_pt b (ml_e b 8 i / 65536 % 256) ∧ ml_pt b (ml_e b 8 i / 256 % 256) ∧ ml_i b (ml_e b 8 i % 256) ≠ 0
def ml_f6 (b : Nat → Nat) : Prop := ∀ i, i < ml_rl b 8 → ml_pc b i

theorem p_fc_isLigature  {g : fx_G} {h : fx_H} (x : Nat) (hx : x < 256) : fx_P g mX2_isLigature 0 0 [.int (nI x)] h (.int (bI (ml_lig x))) := by
  refine fx_Met.of rfl (Nat.le_of_ble_eq_true rfl) ?_
  refine fx_iloadn dX2_isLigature_0 rfl ?_
  refine fx_iconst (nI 3) dX2_isLigature_1 (by decide) ?_
  refine fx_icn_le 22 dX2_isLigature_2 (by decide) (by omega) (by omega) (fun c2 => ?_) (fun c2 => ?_)
  · skip
    refine fx_iconst (nI 1) dX2_isLigature_22 (by decide) ?_
    refine fx_goto 27 dX2_isLigature_23 (by decide) ?_
    refine fx_zret dX2_isLigature_27 rfl rfl ?_
    exact fx_yes (by unfold ml_lig; omega)
  · skip
    refine fx_iloadn dX2_isLigature_5 rfl ?_
    refine fx_iconst (nI 5) dX2_isLigature_6 (by decide) ?_
    refine fx_icn_lt 16 dX2_isLigature_7 (by decide) (by omega) (by omega) (fun c7 => ?_) (fun c7 => ?_)
    · skip
      refine fx_iloadn dX2_isLigature_16 rfl ?_
      refine fx_bipush (nI 11) dX2_isLigature_17 (by decide) ?_
      refine fx_icn_ne 26 dX2_isLigature_19 (by decide) (by omega) (by omega) (fun c19 => ?_) (fun c19 => ?_)
      · skip
        refine fx_iconst (nI 0) dX2_isLigature_26 (by decide) ?_
        refine fx_zret dX2_isLigature_27 rfl rfl ?_
        exact fx_no (by unfold ml_lig; omega)
      · skip
        refine fx_iconst (nI 1) dX2_isLigature_22 (by decide) ?_
        refine fx_goto 27 dX2_isLigature_23 (by decide) ?_
        refine fx_zret dX2_isLigature_27 rfl rfl ?_
        exact fx_yes (by unfold ml_lig; omega)
    · skip
      refine fx_iloadn dX2_isLigature_10 rfl ?_
      refine fx_bipush (nI 7) dX2_isLigature_11 (by decide) ?_
      refine fx_icn_le 22 dX2_isLigature_13 (by decide) (by omega) (by omega) (fun c13 => ?_) (fun c13 => ?_)
      · skip
        refine fx_iconst (nI 1) dX2_isLigature_22 (by decide) ?_
        refine fx_goto 27 dX2_isLigature_23 (by decide) ?_
        refine fx_zret dX2_isLigature_27 rfl rfl ?_
        exact fx_yes (by unfold ml_lig; omega)
      · skip
        refine fx_iloadn dX2_isLigature_16 rfl ?_
        refine fx_bipush (nI 11) dX2_isLigature_17 (by decide) ?_
        refine fx_icn_ne 26 dX2_isLigature_19 (by decide) (by omega) (by omega) (fun c19 => ?_) (fun c19 => ?_)
        · skip
          refine fx_iconst (nI 0) dX2_isLigature_26 (by decide) ?_
          refine fx_zret dX2_isLigature_27 rfl rfl ?_
          exact fx_no (by unfold ml_lig; omega)
        · skip
          refine fx_iconst (nI 1) dX2_isLigature_22 (by decide) ?_
          refine fx_goto 27 dX2_isLigature_23 (by decide) ?_
          refine fx_zret dX2_isLigature_27 rfl rfl ?_
          exact fx_yes (by unfold ml_lig; omega)
theorem p_fc_partFits {g : fx_G} {S : Nat → Prop} {h : fx_H} {a nw : Nat} {b : Nat → Nat} {z : Int32} (H : fo S h a b nw z) (V : ml_v b nw) (x : Nat) (hx : x < 256) : fx_P g mX2_partFits 2 42 [.ref a, .int (nI x)] h (.int (bI (ml_pt b x))) := by
  obtain ⟨fs, h1⟩ := H.at
  refine fx_Met.of rfl (Nat.le_of_ble_eq_true rfl) ?_
  refine fx_iloadn dX2_partFits_0 rfl ?_
  refine fx_ifn_eq 12 dX2_partFits_1 (by decide) (by omega) (fun c1 => ?_) (fun c1 => ?_)
  · skip
    refine fx_iconst (nI 1) dX2_partFits_12 (by decide) ?_
    refine fx_goto 17 dX2_partFits_13 (by decide) ?_
    refine fx_zret dX2_partFits_17 rfl rfl ?_
    exact fx_yes (Or.inl c1)
  · skip
    refine fx_aloadn dX2_partFits_4 rfl ?_
    refine fx_iloadn dX2_partFits_5 rfl ?_
    refine fx_callVp dX2_partFits_6 vX3_hasCharacter kkX2_39 rfl rfl (by assumption) (p_fo_hasCharacter H V _) rfl (by decide) (by decide) rfl (Nat.le_of_ble_eq_true rfl) ?_
    refine fx_if_eqB 16 dX2_partFits_9 (by decide) (fun c9 => ?_) (fun c9 => ?_)
    · skip
      refine fx_iconst (nI 0) dX2_partFits_16 (by decide) ?_
      refine fx_zret dX2_partFits_17 rfl rfl ?_
      exact fx_no (fun q => q.elim c1 (fun e => c9 (by rw [ml_iI_n (by omega)]; exact e)))
    · skip
      refine fx_iconst (nI 1) dX2_partFits_12 (by decide) ?_
      refine fx_goto 17 dX2_partFits_13 (by decide) ?_
      refine fx_zret dX2_partFits_17 rfl rfl ?_
      exact fx_yes (Or.inr (by rw [← ml_iI_n (b := b) (show x < 2 ^ 31 by omega)]; exact c9))
theorem p_fc_jumpFits {g : fx_G} {S : Nat → Prop} {h : fx_H} {a nw : Nat} {b : Nat → Nat} {z : Int32} (H : fo S h a b nw z) (V : ml_v b nw) (x : Int32) : fx_P g mX2_jumpFits 3 65 [.ref a, .int x] h (.int (bI (256 * ml_o b x + ml_r b x < ml_rl b 6))) := by
  obtain ⟨fs, h1⟩ := H.at
  refine fx_Met.of rfl (Nat.le_of_ble_eq_true rfl) ?_
  have q1 := ml_o_lt (b := b) x
  have q2 := ml_r_lt (b := b) x
  have q3 := V.rl (r := 6) (by decide)
  refine fx_aloadn dX2_jumpFits_0 rfl ?_
  refine fx_iloadn dX2_jumpFits_1 rfl ?_
  refine fx_callVp dX2_jumpFits_2 vX3_targetOf kkX2_84 rfl rfl (by assumption) (p_fo_targetOf H V _) rfl (by decide) (by decide) rfl (Nat.le_of_ble_eq_true rfl) ?_
  refine fx_aloadn dX2_jumpFits_5 rfl ?_
  refine fx_bipush (nI 6) dX2_jumpFits_6 (by decide) ?_
  refine fx_callVp dX2_jumpFits_8 vX3_rowLength kkX2_54 rfl rfl (by assumption) (p_fo_rowLength H V 6 (by decide)) rfl (by decide) (by decide) rfl (Nat.le_of_ble_eq_true rfl) ?_
  refine fx_icn_ge 18 dX2_jumpFits_11 (by decide) (by omega) (by omega) (fun c11 => ?_) (fun c11 => ?_)
  · skip
    refine fx_iconst (nI 0) dX2_jumpFits_18 (by decide) ?_
    refine fx_zret dX2_jumpFits_19 rfl rfl ?_
    exact fx_no (by omega)
  · skip
    refine fx_iconst (nI 1) dX2_jumpFits_14 (by decide) ?_
    refine fx_goto 19 dX2_jumpFits_15 (by decide) ?_
    refine fx_zret dX2_jumpFits_19 rfl rfl ?_
    exact fx_yes (by omega)
theorem p_fc_deedFits {g : fx_G} {S : Nat → Prop} {h : fx_H} {a nw : Nat} {b : Nat → Nat} {z : Int32} (H : fo S h a b nw z) (V : ml_v b nw) (i : Nat) (hi : i < ml_rl b 6) (hs : ml_s b (nI i) ≤ 128) : fx_P g mX2_deedFits 3 66 [.ref a, .int (nI i)] h (.int (bI (ml_deed b i))) := by
  obtain ⟨fs, h1⟩ := H.at
  refine fx_Met.of rfl (Nat.le_of_ble_eq_true rfl) ?_
  have q1 := ml_n_lt (b := b) (nI i)
  have q2 := ml_o_lt (b := b) (nI i)
  have q3 := V.rl (r := 6) (by decide)
  have q4 := V.rl (r := 7) (by decide)
  have q5 := ml_r_lt (b := b) (nI i)
  have j24 : ∀ lv : List (Nat × Value), fx_le [(0, .ref a), (1, .int (nI i))] lv → (ml_i b (ml_n b (nI i)) ≠ 0 ∨ nI (ml_n b (nI i)) = ml_bd b) → fx_Y g mX2_deedFits 3 66 (fun r h' => r = some (.int (bI (ml_deed b i))) ∧ h' = h) (fun _ _ => False) 24 lv [] h 0 0 := by
    intro lv hlv hsg
    refine fx_sub _ hlv ?_
    by_cases hnx : ml_s b (nI i) = 128 ∨ i + ml_s b (nI i) + 1 < ml_rl b 6
    · have hlt : ml_nx b (nI i) < nI (ml_rl b 6) := by
        unfold ml_nx
        by_cases e : ml_s b (nI i) = 128
        · rw [if_pos (by omega)]
          exact i_neg (by decide) (by omega)
        · rw [if_neg (by omega), nI_add, nI_add]
          exact nI_lt (by omega) (by omega)
      refine fx_aloadn dX2_deedFits_24 rfl ?_
      refine fx_iloadn dX2_deedFits_25 rfl ?_
      refine fx_callVp dX2_deedFits_26 vX3_nextStep kkX2_93 rfl rfl (by assumption) (p_fo_nextStep H V _) rfl (by decide) (by decide) rfl (Nat.le_of_ble_eq_true rfl) ?_
      refine fx_aloadn dX2_deedFits_29 rfl ?_
      refine fx_bipush (nI 6) dX2_deedFits_30 (by decide) ?_
      refine fx_callVp dX2_deedFits_32 vX3_rowLength kkX2_54 rfl rfl (by assumption) (p_fo_rowLength H V 6 (by decide)) rfl (by decide) (by decide) rfl (Nat.le_of_ble_eq_true rfl) ?_
      refine fx_icmp_lt 40 dX2_deedFits_35 (by decide) (fun c35 => ?_) (fun c35 => absurd (hlt) c35)
      refine fx_aloadn dX2_deedFits_40 rfl ?_
      refine fx_iloadn dX2_deedFits_41 rfl ?_
      refine fx_callVp dX2_deedFits_42 vX3_isKern kkX2_96 rfl rfl (by assumption) (p_fo_isKern H V _) rfl (by decide) (by decide) rfl (Nat.le_of_ble_eq_true rfl) ?_
      refine fx_if_eqB 68 dX2_deedFits_45 (by decide) (fun c45 => ?_) (fun c45 => ?_)
      · skip
        refine fx_aloadn dX2_deedFits_68 rfl ?_
        refine fx_aloadn dX2_deedFits_69 rfl ?_
        refine fx_iloadn dX2_deedFits_70 rfl ?_
        refine fx_callVp dX2_deedFits_71 vX3_remainderOf kkX2_102 rfl rfl (by assumption) (p_fo_remainderOf H V _) rfl (by decide) (by decide) rfl (Nat.le_of_ble_eq_true rfl) ?_
        refine fx_callVp dX2_deedFits_74 vX3_hasCharacter kkX2_39 rfl rfl (by assumption) (p_fo_hasCharacter H V _) rfl (by decide) (by decide) rfl (Nat.le_of_ble_eq_true rfl) ?_
        refine fx_if_eqB 95 dX2_deedFits_77 (by decide) (fun c77 => ?_) (fun c77 => ?_)
        · skip
          refine fx_iconst (nI 0) dX2_deedFits_95 (by decide) ?_
          refine fx_zret dX2_deedFits_96 rfl rfl ?_
          refine fx_no (fun q => ?_)
          have := q.2.2
          rw [if_neg c45] at this
          exact c77 (by rw [ml_iI_n (by omega)]; exact this.1)
        · skip
          refine fx_aloadn dX2_deedFits_80 rfl ?_
          refine fx_iloadn dX2_deedFits_81 rfl ?_
          refine fx_callVp dX2_deedFits_82 vX3_deedOf kkX2_105 rfl rfl (by assumption) (p_fo_deedOf H V _) rfl (by decide) (by decide) rfl (Nat.le_of_ble_eq_true rfl) ?_
          refine fx_callSp dX2_deedFits_85 vX2_isLigature kkX2_108 (p_fc_isLigature _ q2) rfl (by decide) (by decide) rfl (Nat.le_of_ble_eq_true rfl) ?_
          refine fx_if_eqB 95 dX2_deedFits_88 (by decide) (fun c88 => ?_) (fun c88 => ?_)
          · skip
            refine fx_iconst (nI 0) dX2_deedFits_95 (by decide) ?_
            refine fx_zret dX2_deedFits_96 rfl rfl ?_
            refine fx_no (fun q => ?_)
            have := q.2.2
            rw [if_neg c45] at this
            exact c88 this.2
          · skip
            refine fx_iconst (nI 1) dX2_deedFits_91 (by decide) ?_
            refine fx_goto 96 dX2_deedFits_92 (by decide) ?_
            refine fx_zret dX2_deedFits_96 rfl rfl ?_
            exact fx_yes ⟨hsg, hnx, by rw [if_neg c45]; exact ⟨by rw [← ml_iI_n (b := b) (show ml_r b (nI i) < 2 ^ 31 by omega)]; exact c77, c88⟩⟩
      · skip
        refine fx_aloadn dX2_deedFits_48 rfl ?_
        refine fx_iloadn dX2_deedFits_49 rfl ?_
        refine fx_callVp dX2_deedFits_50 vX3_kernPlaceOf kkX2_99 rfl rfl (by assumption) (p_fo_kernPlaceOf H V _ c45) rfl (by decide) (by decide) rfl (Nat.le_of_ble_eq_true rfl) ?_
        refine fx_aloadn dX2_deedFits_53 rfl ?_
        refine fx_bipush (nI 7) dX2_deedFits_54 (by decide) ?_
        refine fx_callVp dX2_deedFits_56 vX3_rowLength kkX2_54 rfl rfl (by assumption) (p_fo_rowLength H V 7 (by decide)) rfl (by decide) (by decide) rfl (Nat.le_of_ble_eq_true rfl) ?_
        refine fx_icn_ge 66 dX2_deedFits_59 (by decide) (by omega) (by omega) (fun c59 => ?_) (fun c59 => ?_)
        · skip
          refine fx_iconst (nI 0) dX2_deedFits_66 (by decide) ?_
          refine fx_zret dX2_deedFits_67 rfl rfl ?_
          refine fx_no (fun q => ?_)
          have := q.2.2
          rw [if_pos c45] at this
          omega
        · skip
          refine fx_iconst (nI 1) dX2_deedFits_62 (by decide) ?_
          refine fx_goto 67 dX2_deedFits_63 (by decide) ?_
          refine fx_zret dX2_deedFits_67 rfl rfl ?_
          exact fx_yes ⟨hsg, hnx, by rw [if_pos c45]; exact c59⟩
    · have hnlt : ¬ ml_nx b (nI i) < nI (ml_rl b 6) := by
        unfold ml_nx
        rw [if_neg (by omega), nI_add, nI_add]
        exact nI_nlt (by omega) (by omega)
      refine fx_aloadn dX2_deedFits_24 rfl ?_
      refine fx_iloadn dX2_deedFits_25 rfl ?_
      refine fx_callVp dX2_deedFits_26 vX3_nextStep kkX2_93 rfl rfl (by assumption) (p_fo_nextStep H V _) rfl (by decide) (by decide) rfl (Nat.le_of_ble_eq_true rfl) ?_
      refine fx_aloadn dX2_deedFits_29 rfl ?_
      refine fx_bipush (nI 6) dX2_deedFits_30 (by decide) ?_
      refine fx_callVp dX2_deedFits_32 vX3_rowLength kkX2_54 rfl rfl (by assumption) (p_fo_rowLength H V 6 (by decide)) rfl (by decide) (by decide) rfl (Nat.le_of_ble_eq_true rfl) ?_
      refine fx_icmp_lt 40 dX2_deedFits_35 (by decide) (fun c35 => absurd c35 (hnlt)) (fun c35 => ?_)
      refine fx_iconst (nI 0) dX2_deedFits_38 (by decide) ?_
      refine fx_zret dX2_deedFits_39 rfl rfl ?_
      exact fx_no (fun q => hnx q.2.1)
  refine fx_aloadn dX2_deedFits_0 rfl ?_
  refine fx_iloadn dX2_deedFits_1 rfl ?_
  refine fx_callVp dX2_deedFits_2 vX3_signOf kkX2_87 rfl rfl (by assumption) (p_fo_signOf H V _) rfl (by decide) (by decide) rfl (Nat.le_of_ble_eq_true rfl) ?_
  refine fx_istoren dX2_deedFits_5 (by decide) ?_
  refine fx_aloadn dX2_deedFits_6 rfl ?_
  refine fx_iloadn dX2_deedFits_7 rfl ?_
  refine fx_callVp dX2_deedFits_8 vX3_hasCharacter kkX2_39 rfl rfl (by assumption) (p_fo_hasCharacter H V _) rfl (by decide) (by decide) rfl (Nat.le_of_ble_eq_true rfl) ?_
  refine fx_if_neB 24 dX2_deedFits_11 (by decide) (fun c11 => ?_) (fun c11 => ?_)
  · skip
    exact j24 _ ⟨rfl, rfl, trivial⟩ (Or.inl (by rw [← ml_iI_n (b := b) (show ml_n b (nI i) < 2 ^ 31 by omega)]; exact c11))
  · skip
    refine fx_iloadn dX2_deedFits_14 rfl ?_
    refine fx_aloadn dX2_deedFits_15 rfl ?_
    refine fx_callVp dX2_deedFits_16 vX3_boundary kkX2_90 rfl rfl (by assumption) (p_fo_boundary H V) rfl (by decide) (by decide) rfl (Nat.le_of_ble_eq_true rfl) ?_
    refine fx_icmp_eq 24 dX2_deedFits_19 (by decide) (fun c19 => ?_) (fun c19 => ?_)
    · skip
      exact j24 _ ⟨rfl, rfl, trivial⟩ (Or.inr c19)
    · skip
      refine fx_iconst (nI 0) dX2_deedFits_22 (by decide) ?_
      refine fx_zret dX2_deedFits_23 rfl rfl ?_
      exact fx_no (fun q => q.1.elim (fun e => c11 (by rw [ml_iI_n (by omega)]; exact e)) c19)
theorem l_fc_stepsFit {g : fx_G} {S : Nat → Prop} {h : fx_H} {a nw : Nat} {b : Nat → Nat} {z : Int32} (H : fo S h a b nw z) (V : ml_v b nw) : ∀ n k : Nat, k + n = ml_rl b 6 → (∀ j, j < k → ml_stp b j) → fx_Y g mX2_stepsFit 4 88 (fun r h' => r = some (.int (bI (ml_f5 b))) ∧ h' = h) (fun _ _ => False) 2 [(0, .ref a), (1, .int (nI k))] [] h 0 0 := by
  obtain ⟨fs, h1⟩ := H.at
  have q3 := V.rl (r := 6) (by decide)
  intro n
  induction n using Nat.strongRecOn with
  | ind n ih =>
  intro k hk hp
  refine fx_iloadn dX2_stepsFit_2 rfl ?_
  refine fx_aloadn dX2_stepsFit_3 rfl ?_
  refine fx_bipush (nI 6) dX2_stepsFit_4 (by decide) ?_
  refine fx_callVp dX2_stepsFit_6 vX3_rowLength kkX2_54 rfl rfl (by assumption) (p_fo_rowLength H V 6 (by decide)) rfl (by decide) (by decide) rfl (Nat.le_of_ble_eq_true rfl) ?_
  refine fx_icn_ge 47 dX2_stepsFit_9 (by decide) (by omega) (by omega) (fun c9 => ?_) (fun c9 => ?_)
  · skip
    refine fx_iconst (nI 1) dX2_stepsFit_47 (by decide) ?_
    refine fx_zret dX2_stepsFit_48 rfl rfl ?_
    exact fx_yes (fun j hj => hp j (by omega))
  · skip
    refine fx_aloadn dX2_stepsFit_12 rfl ?_
    refine fx_iloadn dX2_stepsFit_13 rfl ?_
    refine fx_callVp dX2_stepsFit_14 vX3_isJump kkX2_75 rfl rfl (by assumption) (p_fo_isJump H V _) rfl (by decide) (by decide) rfl (Nat.le_of_ble_eq_true rfl) ?_
    refine fx_if_eqB 31 dX2_stepsFit_17 (by decide) (fun c17 => ?_) (fun c17 => ?_)
    · skip
      refine fx_aloadn dX2_stepsFit_31 rfl ?_
      refine fx_iloadn dX2_stepsFit_32 rfl ?_
      refine fx_callSp dX2_stepsFit_33 vX2_deedFits kkX2_81 (p_fc_deedFits H V k c9 (by omega)) rfl (by decide) (by decide) rfl (Nat.le_of_ble_eq_true rfl) ?_
      refine fx_if_neB 41 dX2_stepsFit_36 (by decide) (fun c36 => ?_) (fun c36 => ?_)
      · skip
        refine fx_iinc (nI 1) dX2_stepsFit_41 rfl (by decide) (by decide) ?_
        refine fx_goto 2 dX2_stepsFit_44 (by decide) ?_
        simp only [nI_add]
        refine fx_to (ih (n - 1) (by omega) (k + 1) (by omega) (fun j hj => ?_)) ⟨rfl, rfl, trivial⟩
        by_cases e : j < k
        · exact hp j e
        · rw [show j = k by omega]
          unfold ml_stp
          rw [if_neg c17]
          exact c36
      · skip
        refine fx_iconst (nI 0) dX2_stepsFit_39 (by decide) ?_
        refine fx_zret dX2_stepsFit_40 rfl rfl ?_
        refine fx_no (fun q => ?_)
        have q9 := q k (by omega)
        unfold ml_stp at q9
        rw [if_neg c17] at q9
        exact c36 q9
    · skip
      refine fx_aloadn dX2_stepsFit_20 rfl ?_
      refine fx_iloadn dX2_stepsFit_21 rfl ?_
      refine fx_callSp dX2_stepsFit_22 vX2_jumpFits kkX2_78 (p_fc_jumpFits H V _) rfl (by decide) (by decide) rfl (Nat.le_of_ble_eq_true rfl) ?_
      refine fx_if_eqB 39 dX2_stepsFit_25 (by decide) (fun c25 => ?_) (fun c25 => ?_)
      · skip
        refine fx_iconst (nI 0) dX2_stepsFit_39 (by decide) ?_
        refine fx_zret dX2_stepsFit_40 rfl rfl ?_
        refine fx_no (fun q => ?_)
        have q9 := q k (by omega)
        unfold ml_stp at q9
        rw [if_pos c17] at q9
        exact c25 q9
      · skip
        refine fx_goto 41 dX2_stepsFit_28 (by decide) ?_
        refine fx_iinc (nI 1) dX2_stepsFit_41 rfl (by decide) (by decide) ?_
        refine fx_goto 2 dX2_stepsFit_44 (by decide) ?_
        simp only [nI_add]
        refine fx_to (ih (n - 1) (by omega) (k + 1) (by omega) (fun j hj => ?_)) ⟨rfl, rfl, trivial⟩
        by_cases e : j < k
        · exact hp j e
        · rw [show j = k by omega]
          unfold ml_stp
          rw [if_pos c17]
          exact c25
theorem p_fc_stepsFit {g : fx_G} {S : Nat → Prop} {h : fx_H} {a nw : Nat} {b : Nat → Nat} {z : Int32} (H : fo S h a b nw z) (V : ml_v b nw) : fx_P g mX2_stepsFit 4 88 [.ref a] h (.int (bI (ml_f5 b))) := by
  obtain ⟨fs, h1⟩ := H.at
  refine fx_Met.of rfl (Nat.le_of_ble_eq_true rfl) ?_
  refine fx_iconst (nI 0) dX2_stepsFit_0 (by decide) ?_
  refine fx_istoren dX2_stepsFit_1 (by decide) ?_
  exact fx_to (l_fc_stepsFit H V (ml_rl b 6) 0 (by omega) (fun j hj => by omega)) ⟨rfl, rfl, trivial⟩
theorem l_fc_piecesFit {g : fx_G} {S : Nat → Prop} {h : fx_H} {a nw : Nat} {b : Nat → Nat} {z : Int32} (H : fo S h a b nw z) (V : ml_v b nw) : ∀ n k : Nat, k + n = ml_rl b 8 → (∀ j, j < k → ml_pc b j) → fx_Y g mX2_piecesFit 3 63 (fun r h' => r = some (.int (bI (ml_f6 b))) ∧ h' = h) (fun _ _ => False) 2 [(0, .ref a), (1, .int (nI k))] [] h 0 0 := by
  obtain ⟨fs, h1⟩ := H.at
  have q3 := V.rl (r := 8) (by decide)
  intro n
  induction n using Nat.strongRecOn with
  | ind n ih =>
  intro k hk hp
  refine fx_iloadn dX2_piecesFit_2 rfl ?_
  refine fx_aloadn dX2_piecesFit_3 rfl ?_
  refine fx_bipush (nI 8) dX2_piecesFit_4 (by decide) ?_
  refine fx_callVp dX2_piecesFit_6 vX3_rowLength kkX2_54 rfl rfl (by assumption) (p_fo_rowLength H V 8 (by decide)) rfl (by decide) (by decide) rfl (Nat.le_of_ble_eq_true rfl) ?_
  refine fx_icn_ge 81 dX2_piecesFit_9 (by decide) (by omega) (by omega) (fun c9 => ?_) (fun c9 => ?_)
  · skip
    refine fx_iconst (nI 1) dX2_piecesFit_81 (by decide) ?_
    refine fx_zret dX2_piecesFit_82 rfl rfl ?_
    exact fx_yes (fun j hj => hp j (by omega))
  · skip
    refine fx_aloadn dX2_piecesFit_12 rfl ?_
    refine fx_bipush (nI 8) dX2_piecesFit_13 (by decide) ?_
    refine fx_iloadn dX2_piecesFit_15 rfl ?_
    refine fx_callVp dX2_piecesFit_16 vX3_wordAt kkX2_66 rfl rfl (by assumption) (p_fo_wordAt H V 8 (by decide) _) rfl (by decide) (by decide) rfl (Nat.le_of_ble_eq_true rfl) ?_
    rw [ml_eI_n 8 (by omega)]
    have q4 := ml_e_lt V.1 8 k
    refine fx_istoren dX2_piecesFit_19 (by decide) ?_
    refine fx_aloadn dX2_piecesFit_20 rfl ?_
    refine fx_iloadn dX2_piecesFit_21 rfl ?_
    refine fx_bipush (nI 24) dX2_piecesFit_22 (by decide) ?_
    refine fx_iushr dX2_piecesFit_24 ?_
    rw [pk_ushrN (q4) (nI 24) 24 (by decide)]
    refine fx_callSp dX2_piecesFit_25 vX2_partFits kkX2_111 (p_fc_partFits H V _ (by omega)) rfl (by decide) (by decide) rfl (Nat.le_of_ble_eq_true rfl) ?_
    refine fx_if_eqB 73 dX2_piecesFit_28 (by decide) (fun c28 => ?_) (fun c28 => ?_)
    · skip
      refine fx_iconst (nI 0) dX2_piecesFit_73 (by decide) ?_
      refine fx_zret dX2_piecesFit_74 rfl rfl ?_
      refine fx_no (fun q => ?_)
      have q9 := q k (by omega)
      exact c28 q9.1
    · skip
      refine fx_aloadn dX2_piecesFit_31 rfl ?_
      refine fx_iloadn dX2_piecesFit_32 rfl ?_
      refine fx_bipush (nI 16) dX2_piecesFit_33 (by decide) ?_
      refine fx_iushr dX2_piecesFit_35 ?_
      refine fx_sipush (nI 255) dX2_piecesFit_36 (by decide) ?_
      refine fx_iand dX2_piecesFit_39 ?_
      rw [pk_ushrN (q4) (nI 16) 16 (by decide), pk_andN (m := nI 255) (by omega) 8 (by decide)]
      refine fx_callSp dX2_piecesFit_40 vX2_partFits kkX2_111 (p_fc_partFits H V _ (by omega)) rfl (by decide) (by decide) rfl (Nat.le_of_ble_eq_true rfl) ?_
      refine fx_if_eqB 73 dX2_piecesFit_43 (by decide) (fun c43 => ?_) (fun c43 => ?_)
      · skip
        refine fx_iconst (nI 0) dX2_piecesFit_73 (by decide) ?_
        refine fx_zret dX2_piecesFit_74 rfl rfl ?_
        refine fx_no (fun q => ?_)
        have q9 := q k (by omega)
        exact c43 q9.2.1
      · skip
        refine fx_aloadn dX2_piecesFit_46 rfl ?_
        refine fx_iloadn dX2_piecesFit_47 rfl ?_
        refine fx_bipush (nI 8) dX2_piecesFit_48 (by decide) ?_
        refine fx_iushr dX2_piecesFit_50 ?_
        refine fx_sipush (nI 255) dX2_piecesFit_51 (by decide) ?_
        refine fx_iand dX2_piecesFit_54 ?_
        rw [pk_ushrN (q4) (nI 8) 8 (by decide), pk_andN (m := nI 255) (by omega) 8 (by decide)]
        refine fx_callSp dX2_piecesFit_55 vX2_partFits kkX2_111 (p_fc_partFits H V _ (by omega)) rfl (by decide) (by decide) rfl (Nat.le_of_ble_eq_true rfl) ?_
        refine fx_if_eqB 73 dX2_piecesFit_58 (by decide) (fun c58 => ?_) (fun c58 => ?_)
        · skip
          refine fx_iconst (nI 0) dX2_piecesFit_73 (by decide) ?_
          refine fx_zret dX2_piecesFit_74 rfl rfl ?_
          refine fx_no (fun q => ?_)
          have q9 := q k (by omega)
          exact c58 q9.2.2.1
        · skip
          refine fx_aloadn dX2_piecesFit_61 rfl ?_
          refine fx_iloadn dX2_piecesFit_62 rfl ?_
          refine fx_sipush (nI 255) dX2_piecesFit_63 (by decide) ?_
          refine fx_iand dX2_piecesFit_66 ?_
          rw [pk_andN (m := nI 255) (q4) 8 (by decide)]
          refine fx_callVp dX2_piecesFit_67 vX3_hasCharacter kkX2_39 rfl rfl (by assumption) (p_fo_hasCharacter H V _) rfl (by decide) (by decide) rfl (Nat.le_of_ble_eq_true rfl) ?_
          refine fx_if_neB 75 dX2_piecesFit_70 (by decide) (fun c70 => ?_) (fun c70 => ?_)
          · skip
            refine fx_iinc (nI 1) dX2_piecesFit_75 rfl (by decide) (by decide) ?_
            refine fx_goto 2 dX2_piecesFit_78 (by decide) ?_
            simp only [nI_add]
            refine fx_to (ih (n - 1) (by omega) (k + 1) (by omega) (fun j hj => ?_)) ⟨rfl, rfl, trivial⟩
            by_cases e : j < k
            · exact hp j e
            · rw [show j = k by omega]
              exact ⟨c28, c43, c58, by rw [← ml_iI_n (b := b) (show ml_e b 8 k % 256 < 2 ^ 31 by omega)]; exact c70⟩
          · skip
            refine fx_iconst (nI 0) dX2_piecesFit_73 (by decide) ?_
            refine fx_zret dX2_piecesFit_74 rfl rfl ?_
            refine fx_no (fun q => ?_)
            have q9 := q k (by omega)
            exact c70 (by rw [ml_iI_n (by omega)]; exact q9.2.2.2)
theorem p_fc_piecesFit {g : fx_G} {S : Nat → Prop} {h : fx_H} {a nw : Nat} {b : Nat → Nat} {z : Int32} (H : fo S h a b nw z) (V : ml_v b nw) : fx_P g mX2_piecesFit 3 63 [.ref a] h (.int (bI (ml_f6 b))) := by
  obtain ⟨fs, h1⟩ := H.at
  refine fx_Met.of rfl (Nat.le_of_ble_eq_true rfl) ?_
  refine fx_iconst (nI 0) dX2_piecesFit_0 (by decide) ?_
  refine fx_istoren dX2_piecesFit_1 (by decide) ?_
  exact fx_to (l_fc_piecesFit H V (ml_rl b 8) 0 (by omega) (fun j hj => by omega)) ⟨rfl, rfl, trivial⟩
theorem l_fc_areFractions {g : fx_G} {S : Nat → Prop} {h : fx_H} {a nw : Nat} {b : Nat → Nat} {z : Int32} (H : fo S h a b nw z) (V : ml_v b nw) (r k0 : Nat) (hr : r < 10) : ∀ n k : Nat, k0 ≤ k → (k + n = ml_rl b r ∨ (n = 0 ∧ ml_rl b r ≤ k ∧ k < 2)) → (∀ j, k0 ≤ j → j < k → j < ml_rl b r → ml_fr (ml_e b r j)) → fx_Y g mX2_areFractions 1 23 (fun q h' => q = some (.int (bI (ml_frs b r k0))) ∧ h' = h) (fun _ _ => False) 2 [(0, .ref a), (1, .int (nI r)), (3, .int (nI k))] [] h 0 0 := by
  obtain ⟨fs, h1⟩ := H.at
  have q3 := V.rl (r := r) hr
  intro n
  induction n using Nat.strongRecOn with
  | ind n ih =>
  intro k hk0 hk hp
  refine fx_iloadn dX2_areFractions_2 rfl ?_
  refine fx_aloadn dX2_areFractions_3 rfl ?_
  refine fx_iloadn dX2_areFractions_4 rfl ?_
  refine fx_callVp dX2_areFractions_5 vX3_rowLength kkX2_54 rfl rfl (by assumption) (p_fo_rowLength H V r hr) rfl (by decide) (by decide) rfl (Nat.le_of_ble_eq_true rfl) ?_
  refine fx_icn_ge 41 dX2_areFractions_8 (by decide) (by omega) (by omega) (fun c8 => ?_) (fun c8 => ?_)
  · skip
    refine fx_iconst (nI 1) dX2_areFractions_41 (by decide) ?_
    refine fx_zret dX2_areFractions_42 rfl rfl ?_
    exact fx_yes (fun j h0 hj => hp j h0 (by omega) hj)
  · skip
    refine fx_aloadn dX2_areFractions_11 rfl ?_
    refine fx_iloadn dX2_areFractions_12 rfl ?_
    refine fx_iloadn dX2_areFractions_13 rfl ?_
    refine fx_callVp dX2_areFractions_14 vX3_wordAt kkX2_66 rfl rfl (by assumption) (p_fo_wordAt H V r hr _) rfl (by decide) (by decide) rfl (Nat.le_of_ble_eq_true rfl) ?_
    rw [ml_eI_n r (by omega)]
    refine fx_istore dX2_areFractions_17 (by decide) ?_
    refine fx_iload dX2_areFractions_19 rfl ?_
    refine fx_ldc dX2_areFractions_21 qqX2_73 ?_
    refine fx_icmp_lt 33 dX2_areFractions_23 (by decide) (fun c23 => ?_) (fun c23 => ?_)
    · skip
      refine fx_iconst (nI 0) dX2_areFractions_33 (by decide) ?_
      refine fx_zret dX2_areFractions_34 rfl rfl ?_
      refine fx_no (fun q => ?_)
      have q9 := q k (by omega) (by omega)
      exact q9.1 c23
    · skip
      refine fx_iload dX2_areFractions_26 rfl ?_
      refine fx_ldc dX2_areFractions_28 qqX2_74 ?_
      refine fx_icmp_lt 35 dX2_areFractions_30 (by decide) (fun c30 => ?_) (fun c30 => ?_)
      · skip
        refine fx_iinc (nI 1) dX2_areFractions_35 rfl (by decide) (by decide) ?_
        refine fx_goto 2 dX2_areFractions_38 (by decide) ?_
        simp only [nI_add]
        refine fx_to (ih (n - 1) (by omega) (k + 1) (by omega) (by omega) (fun j h0 hj hj2 => ?_)) ⟨rfl, rfl, rfl, trivial⟩
        by_cases e : j < k
        · exact hp j h0 e hj2
        · rw [show j = k by omega]
          exact ⟨c23, c30⟩
      · skip
        refine fx_iconst (nI 0) dX2_areFractions_33 (by decide) ?_
        refine fx_zret dX2_areFractions_34 rfl rfl ?_
        refine fx_no (fun q => ?_)
        have q9 := q k (by omega) (by omega)
        exact c30 q9.2
theorem p_fc_areFractions {g : fx_G} {S : Nat → Prop} {h : fx_H} {a nw : Nat} {b : Nat → Nat} {z : Int32} (H : fo S h a b nw z) (V : ml_v b nw) (r k0 : Nat) (hr : r < 10) (hk0 : k0 < 2) : fx_P g mX2_areFractions 1 23 [.ref a, .int (nI r), .int (nI k0)] h (.int (bI (ml_frs b r k0))) := by
  obtain ⟨fs, h1⟩ := H.at
  refine fx_Met.of rfl (Nat.le_of_ble_eq_true rfl) ?_
  refine fx_iloadn dX2_areFractions_0 rfl ?_
  refine fx_istoren dX2_areFractions_1 (by decide) ?_
  by_cases e : k0 ≤ ml_rl b r
  · exact fx_to (l_fc_areFractions H V r k0 hr (ml_rl b r - k0) k0 (Nat.le_refl _) (by omega) (fun j h0 hj => by omega)) ⟨rfl, rfl, rfl, trivial⟩
  · exact fx_to (l_fc_areFractions H V r k0 hr 0 k0 (Nat.le_refl _) (by omega) (fun j h0 hj => by omega)) ⟨rfl, rfl, rfl, trivial⟩
theorem l_fc_fractionsFit {g : fx_G} {S : Nat → Prop} {h : fx_H} {a nw : Nat} {b : Nat → Nat} {z : Int32} (H : fo S h a b nw z) (V : ml_v b nw) : ∀ n k : Nat, 2 ≤ k → k + n = 6 → (∀ j, 2 ≤ j → j < k → ml_e b j 0 = 0 ∧ ml_frs b j 1) → fx_Y g mX2_fractionsFit 2 47 (fun q h' => q = some (.int (bI (ml_f4 b))) ∧ h' = h) (fun _ _ => False) 2 [(0, .ref a), (1, .int (nI k))] [] h 0 0 := by
  obtain ⟨fs, h1⟩ := H.at
  intro n
  induction n using Nat.strongRecOn with
  | ind n ih =>
  intro k hk2 hk hp
  refine fx_iloadn dX2_fractionsFit_2 rfl ?_
  refine fx_iconst (nI 5) dX2_fractionsFit_3 (by decide) ?_
  refine fx_icn_gt 33 dX2_fractionsFit_4 (by decide) (by omega) (by omega) (fun c4 => ?_) (fun c4 => ?_)
  · skip
    refine fx_aloadn dX2_fractionsFit_33 rfl ?_
    refine fx_bipush (nI 7) dX2_fractionsFit_34 (by decide) ?_
    refine fx_iconst (nI 0) dX2_fractionsFit_36 (by decide) ?_
    refine fx_callSp dX2_fractionsFit_37 vX2_areFractions kkX2_69 (p_fc_areFractions H V 7 0 (by decide) (by decide)) rfl (by decide) (by decide) rfl (Nat.le_of_ble_eq_true rfl) ?_
    refine fx_if_eqB 57 dX2_fractionsFit_40 (by decide) (fun c40 => ?_) (fun c40 => ?_)
    · skip
      refine fx_iconst (nI 0) dX2_fractionsFit_57 (by decide) ?_
      refine fx_zret dX2_fractionsFit_58 rfl rfl ?_
      exact fx_no (fun q => c40 q.2.1)
    · skip
      refine fx_aloadn dX2_fractionsFit_43 rfl ?_
      refine fx_bipush (nI 9) dX2_fractionsFit_44 (by decide) ?_
      refine fx_iconst (nI 1) dX2_fractionsFit_46 (by decide) ?_
      refine fx_callSp dX2_fractionsFit_47 vX2_areFractions kkX2_69 (p_fc_areFractions H V 9 1 (by decide) (by decide)) rfl (by decide) (by decide) rfl (Nat.le_of_ble_eq_true rfl) ?_
      refine fx_if_eqB 57 dX2_fractionsFit_50 (by decide) (fun c50 => ?_) (fun c50 => ?_)
      · skip
        refine fx_iconst (nI 0) dX2_fractionsFit_57 (by decide) ?_
        refine fx_zret dX2_fractionsFit_58 rfl rfl ?_
        exact fx_no (fun q => c50 q.2.2)
      · skip
        refine fx_iconst (nI 1) dX2_fractionsFit_53 (by decide) ?_
        refine fx_goto 58 dX2_fractionsFit_54 (by decide) ?_
        refine fx_zret dX2_fractionsFit_58 rfl rfl ?_
        exact fx_yes ⟨fun r h2 hr => hp r h2 (by omega), c40, c50⟩
  · skip
    refine fx_aloadn dX2_fractionsFit_7 rfl ?_
    refine fx_iloadn dX2_fractionsFit_8 rfl ?_
    refine fx_iconst (nI 0) dX2_fractionsFit_9 (by decide) ?_
    refine fx_callVp dX2_fractionsFit_10 vX3_wordAt kkX2_66 rfl rfl (by assumption) (p_fo_wordAt H V k (by omega) _) rfl (by decide) (by decide) rfl (Nat.le_of_ble_eq_true rfl) ?_
    refine fx_if_ne 25 dX2_fractionsFit_13 (by decide) (fun c13 => ?_) (fun c13 => ?_)
    · skip
      refine fx_iconst (nI 0) dX2_fractionsFit_25 (by decide) ?_
      refine fx_zret dX2_fractionsFit_26 rfl rfl ?_
      refine fx_no (fun q => ?_)
      exact c13 (by rw [ml_eI_n k (by decide), (q.1 k (by omega) (by omega)).1]; rfl)
    · skip
      refine fx_aloadn dX2_fractionsFit_16 rfl ?_
      refine fx_iloadn dX2_fractionsFit_17 rfl ?_
      refine fx_iconst (nI 1) dX2_fractionsFit_18 (by decide) ?_
      refine fx_callSp dX2_fractionsFit_19 vX2_areFractions kkX2_69 (p_fc_areFractions H V k 1 (by omega) (by decide)) rfl (by decide) (by decide) rfl (Nat.le_of_ble_eq_true rfl) ?_
      refine fx_if_neB 27 dX2_fractionsFit_22 (by decide) (fun c22 => ?_) (fun c22 => ?_)
      · skip
        refine fx_iinc (nI 1) dX2_fractionsFit_27 rfl (by decide) (by decide) ?_
        refine fx_goto 2 dX2_fractionsFit_30 (by decide) ?_
        simp only [nI_add]
        refine fx_to (ih (n - 1) (by omega) (k + 1) (by omega) (by omega) (fun j h2 hj => ?_)) ⟨rfl, rfl, trivial⟩
        by_cases e : j < k
        · exact hp j h2 e
        · rw [show j = k by omega]
          refine ⟨?_, c22⟩
          rw [ml_eI_n k (by decide)] at c13
          exact (nI_eq0 (ml_e_lt V.1 k 0)).mp c13
      · skip
        refine fx_iconst (nI 0) dX2_fractionsFit_25 (by decide) ?_
        refine fx_zret dX2_fractionsFit_26 rfl rfl ?_
        exact fx_no (fun q => c22 (q.1 k (by omega) (by omega)).2)
theorem p_fc_fractionsFit {g : fx_G} {S : Nat → Prop} {h : fx_H} {a nw : Nat} {b : Nat → Nat} {z : Int32} (H : fo S h a b nw z) (V : ml_v b nw) : fx_P g mX2_fractionsFit 2 47 [.ref a] h (.int (bI (ml_f4 b))) := by
  obtain ⟨fs, h1⟩ := H.at
  refine fx_Met.of rfl (Nat.le_of_ble_eq_true rfl) ?_
  refine fx_iconst (nI 2) dX2_fractionsFit_0 (by decide) ?_
  refine fx_istoren dX2_fractionsFit_1 (by decide) ?_
  exact fx_to (l_fc_fractionsFit H V 4 2 (by decide) rfl (fun j h0 hj => by omega)) ⟨rfl, rfl, trivial⟩
theorem l_fc_placesFit {g : fx_G} {S : Nat → Prop} {h : fx_H} {a nw : Nat} {b : Nat → Nat} {z : Int32} (H : fo S h a b nw z) (V : ml_v b nw) (c : Nat) : ∀ n k : Nat, k + n = 4 → (∀ j, j < k → ml_pl b (nI c) j < ml_rl b (2 + j)) → fx_Y g mX2_placesFit 2 44 (fun q h' => q = some (.int (bI (ml_pls b c))) ∧ h' = h) (fun _ _ => False) 2 [(0, .ref a), (1, .int (nI c)), (2, .int (nI k))] [] h 0 0 := by
  obtain ⟨fs, h1⟩ := H.at
  intro n
  induction n using Nat.strongRecOn with
  | ind n ih =>
  intro k hk hp
  refine fx_iloadn dX2_placesFit_2 rfl ?_
  refine fx_iconst (nI 4) dX2_placesFit_3 (by decide) ?_
  refine fx_icn_ge 31 dX2_placesFit_4 (by decide) (by omega) (by omega) (fun c4 => ?_) (fun c4 => ?_)
  · skip
    refine fx_iconst (nI 1) dX2_placesFit_31 (by decide) ?_
    refine fx_zret dX2_placesFit_32 rfl rfl ?_
    exact fx_yes (fun j hj => hp j (by omega))
  · skip
    refine fx_aloadn dX2_placesFit_7 rfl ?_
    refine fx_iloadn dX2_placesFit_8 rfl ?_
    refine fx_iloadn dX2_placesFit_9 rfl ?_
    refine fx_callVp dX2_placesFit_10 vX3_placeOf kkX2_50 rfl rfl (by assumption) (p_fo_placeOf H V _ k c4) rfl (by decide) (by decide) rfl (Nat.le_of_ble_eq_true rfl) ?_
    refine fx_aloadn dX2_placesFit_13 rfl ?_
    refine fx_iconst (nI 2) dX2_placesFit_14 (by decide) ?_
    refine fx_iloadn dX2_placesFit_15 rfl ?_
    refine fx_iadd dX2_placesFit_16 ?_
    rw [nI_add]
    have q4 := ml_pl_lt V.1 (nI c) k
    have q5 := V.rl (r := 2 + k) (by omega)
    refine fx_callVp dX2_placesFit_17 vX3_rowLength kkX2_54 rfl rfl (by assumption) (p_fo_rowLength H V (2 + k) (by omega)) rfl (by decide) (by decide) rfl (Nat.le_of_ble_eq_true rfl) ?_
    refine fx_icn_lt 25 dX2_placesFit_20 (by decide) (by omega) (by omega) (fun c20 => ?_) (fun c20 => ?_)
    · skip
      refine fx_iinc (nI 1) dX2_placesFit_25 rfl (by decide) (by decide) ?_
      refine fx_goto 2 dX2_placesFit_28 (by decide) ?_
      simp only [nI_add]
      refine fx_to (ih (n - 1) (by omega) (k + 1) (by omega) (fun j hj => ?_)) ⟨rfl, rfl, rfl, trivial⟩
      by_cases e : j < k
      · exact hp j e
      · rw [show j = k by omega]
        exact c20
    · skip
      refine fx_iconst (nI 0) dX2_placesFit_23 (by decide) ?_
      refine fx_zret dX2_placesFit_24 rfl rfl ?_
      exact fx_no (fun q => by have := q k c4; omega)
theorem p_fc_placesFit {g : fx_G} {S : Nat → Prop} {h : fx_H} {a nw : Nat} {b : Nat → Nat} {z : Int32} (H : fo S h a b nw z) (V : ml_v b nw) (c : Nat) : fx_P g mX2_placesFit 2 44 [.ref a, .int (nI c)] h (.int (bI (ml_pls b c))) := by
  obtain ⟨fs, h1⟩ := H.at
  refine fx_Met.of rfl (Nat.le_of_ble_eq_true rfl) ?_
  refine fx_iconst (nI 0) dX2_placesFit_0 (by decide) ?_
  refine fx_istoren dX2_placesFit_1 (by decide) ?_
  exact fx_to (l_fc_placesFit H V c 4 0 rfl (fun j hj => by omega)) ⟨rfl, rfl, rfl, trivial⟩
theorem l_fc_chainEnds {g : fx_G} {S : Nat → Prop} {h : fx_H} {a nw : Nat} {b : Nat → Nat} {z : Int32} (H : fo S h a b nw z) (V : ml_v b nw) (c : Nat) (hc : c < 256) (P : Prop) : ∀ n k x : Nat, k + n = 256 → x < 256 → ml_ce b c n x = P → fx_Y g mX2_chainEnds 2 42 (fun q h' => q = some (.int (bI P)) ∧ h' = h) (fun _ _ => False) 4 [(0, .ref a), (1, .int (nI c)), (2, .int (nI x)), (3, .int (nI k))] [] h 0 0 := by
  obtain ⟨fs, h1⟩ := H.at
  intro n
  induction n using Nat.strongRecOn with
  | ind n ih =>
  intro k x hk hx hv
  refine fx_iloadn dX2_chainEnds_4 rfl ?_
  refine fx_sipush (nI 256) dX2_chainEnds_5 (by decide) ?_
  refine fx_icn_ge 41 dX2_chainEnds_8 (by decide) (by omega) (by omega) (fun c8 => ?_) (fun c8 => ?_)
  · skip
    refine fx_iconst (nI 0) dX2_chainEnds_41 (by decide) ?_
    refine fx_zret dX2_chainEnds_42 rfl rfl ?_
    have : n = 0 := by omega
    subst this
    exact fx_no (by rw [← hv]; exact id)
  · skip
    refine fx_aloadn dX2_chainEnds_11 rfl ?_
    refine fx_iloadn dX2_chainEnds_12 rfl ?_
    refine fx_callVp dX2_chainEnds_13 vX3_tagOf kkX2_60 rfl rfl (by assumption) (p_fo_tagOf H V _) rfl (by decide) (by decide) rfl (Nat.le_of_ble_eq_true rfl) ?_
    have q4 := ml_tag_lt (b := b) (nI x)
    have q5 := ml_rest_lt (b := b) (nI x)
    refine fx_iconst (nI 2) dX2_chainEnds_16 (by decide) ?_
    refine fx_icn_eq 22 dX2_chainEnds_17 (by decide) (by omega) (by omega) (fun c17 => ?_) (fun c17 => ?_)
    · skip
      refine fx_aloadn dX2_chainEnds_22 rfl ?_
      refine fx_iloadn dX2_chainEnds_23 rfl ?_
      refine fx_callVp dX2_chainEnds_24 vX3_restOf kkX2_57 rfl rfl (by assumption) (p_fo_restOf H V _) rfl (by decide) (by decide) rfl (Nat.le_of_ble_eq_true rfl) ?_
      refine fx_istoren dX2_chainEnds_27 (by decide) ?_
      refine fx_iloadn dX2_chainEnds_28 rfl ?_
      refine fx_iloadn dX2_chainEnds_29 rfl ?_
      refine fx_icn_ne 35 dX2_chainEnds_30 (by decide) (by omega) (by omega) (fun c30 => ?_) (fun c30 => ?_)
      · skip
        refine fx_iinc (nI 1) dX2_chainEnds_35 rfl (by decide) (by decide) ?_
        refine fx_goto 4 dX2_chainEnds_38 (by decide) ?_
        cases n with
        | zero => omega
        | succ n =>
          simp only [nI_add]
          refine fx_to (ih n (by omega) (k + 1) _ (by omega) (by omega) ?_) ⟨rfl, rfl, rfl, rfl, trivial⟩
          rw [← hv]
          show _ = ml_ce b c (n + 1) x
          conv => rhs; unfold ml_ce
          rw [if_pos c17, if_neg c30]
      · skip
        refine fx_iconst (nI 0) dX2_chainEnds_33 (by decide) ?_
        refine fx_zret dX2_chainEnds_34 rfl rfl ?_
        cases n with
        | zero => omega
        | succ n =>
          exact fx_no (by rw [← hv]; unfold ml_ce; rw [if_pos c17, if_pos c30]; exact id)
    · skip
      refine fx_iconst (nI 1) dX2_chainEnds_20 (by decide) ?_
      refine fx_zret dX2_chainEnds_21 rfl rfl ?_
      cases n with
      | zero => omega
      | succ n =>
        exact fx_yes (by rw [← hv]; unfold ml_ce; rw [if_neg c17]; trivial)
theorem p_fc_chainEnds {g : fx_G} {S : Nat → Prop} {h : fx_H} {a nw : Nat} {b : Nat → Nat} {z : Int32} (H : fo S h a b nw z) (V : ml_v b nw) (c : Nat) (hc : c < 256) : fx_P g mX2_chainEnds 2 42 [.ref a, .int (nI c)] h (.int (bI (ml_ce b c 256 c))) := by
  obtain ⟨fs, h1⟩ := H.at
  refine fx_Met.of rfl (Nat.le_of_ble_eq_true rfl) ?_
  refine fx_iloadn dX2_chainEnds_0 rfl ?_
  refine fx_istoren dX2_chainEnds_1 (by decide) ?_
  refine fx_iconst (nI 0) dX2_chainEnds_2 (by decide) ?_
  refine fx_istoren dX2_chainEnds_3 (by decide) ?_
  exact fx_to (l_fc_chainEnds H V c hc _ 256 0 c rfl hc rfl) ⟨rfl, rfl, rfl, rfl, trivial⟩
theorem p_fc_tagFits {g : fx_G} {S : Nat → Prop} {h : fx_H} {a nw : Nat} {b : Nat → Nat} {z : Int32} (H : fo S h a b nw z) (V : ml_v b nw) (c : Nat) (hc : c < 256) : fx_P g mX2_tagFits 3 65 [.ref a, .int (nI c)] h (.int (bI (ml_tgC b c))) := by
  obtain ⟨fs, h1⟩ := H.at
  refine fx_Met.of rfl (Nat.le_of_ble_eq_true rfl) ?_
  have q1 := ml_tag_lt (b := b) (nI c)
  have q2 := ml_rest_lt (b := b) (nI c)
  have q3 := V.rl (r := 6) (by decide)
  have q4 := V.rl (r := 8) (by decide)
  rcases (show ml_tag b (nI c) = 0 ∨ ml_tag b (nI c) = 1 ∨ ml_tag b (nI c) = 2 ∨ ml_tag b (nI c) = 3 by omega) with ht | ht | ht | ht
  · skip
    refine fx_aloadn dX2_tagFits_0 rfl ?_
    refine fx_iloadn dX2_tagFits_1 rfl ?_
    refine fx_callVp dX2_tagFits_2 vX3_restOf kkX2_57 rfl rfl (by assumption) (p_fo_restOf H V _) rfl (by decide) (by decide) rfl (Nat.le_of_ble_eq_true rfl) ?_
    refine fx_istoren dX2_tagFits_5 (by decide) ?_
    refine fx_aloadn dX2_tagFits_6 rfl ?_
    refine fx_iloadn dX2_tagFits_7 rfl ?_
    refine fx_callVp dX2_tagFits_8 vX3_tagOf kkX2_60 rfl rfl (by assumption) (p_fo_tagOf H V _) rfl (by decide) (by decide) rfl (Nat.le_of_ble_eq_true rfl) ?_
    rw [ht]
    refine fx_tswOut 90 dX2_tagFits_11 (by decide) (by decide) ?_
    refine fx_iconst (nI 1) dX2_tagFits_90 (by decide) ?_
    refine fx_zret dX2_tagFits_91 rfl rfl ?_
    exact fx_yes ⟨fun e => by omega, fun e => by omega, fun e => by omega⟩
  · skip
    refine fx_aloadn dX2_tagFits_0 rfl ?_
    refine fx_iloadn dX2_tagFits_1 rfl ?_
    refine fx_callVp dX2_tagFits_2 vX3_restOf kkX2_57 rfl rfl (by assumption) (p_fo_restOf H V _) rfl (by decide) (by decide) rfl (Nat.le_of_ble_eq_true rfl) ?_
    refine fx_istoren dX2_tagFits_5 (by decide) ?_
    refine fx_aloadn dX2_tagFits_6 rfl ?_
    refine fx_iloadn dX2_tagFits_7 rfl ?_
    refine fx_callVp dX2_tagFits_8 vX3_tagOf kkX2_60 rfl rfl (by assumption) (p_fo_tagOf H V _) rfl (by decide) (by decide) rfl (Nat.le_of_ble_eq_true rfl) ?_
    rw [ht]
    refine fx_tswIn 25 36 dX2_tagFits_11 (by decide) (by decide) rfl (by decide) ?_
    refine fx_iloadn dX2_tagFits_36 rfl ?_
    refine fx_aloadn dX2_tagFits_37 rfl ?_
    refine fx_bipush (nI 6) dX2_tagFits_38 (by decide) ?_
    refine fx_callVp dX2_tagFits_40 vX3_rowLength kkX2_54 rfl rfl (by assumption) (p_fo_rowLength H V 6 (by decide)) rfl (by decide) (by decide) rfl (Nat.le_of_ble_eq_true rfl) ?_
    refine fx_icn_ge 50 dX2_tagFits_43 (by decide) (by omega) (by omega) (fun c43 => ?_) (fun c43 => ?_)
    · skip
      refine fx_iconst (nI 0) dX2_tagFits_50 (by decide) ?_
      refine fx_zret dX2_tagFits_51 rfl rfl ?_
      exact fx_no (fun q => by have := q.1 ht; omega)
    · skip
      refine fx_iconst (nI 1) dX2_tagFits_46 (by decide) ?_
      refine fx_goto 51 dX2_tagFits_47 (by decide) ?_
      refine fx_zret dX2_tagFits_51 rfl rfl ?_
      exact fx_yes ⟨fun e => c43, fun e => by omega, fun e => by omega⟩
  · skip
    refine fx_aloadn dX2_tagFits_0 rfl ?_
    refine fx_iloadn dX2_tagFits_1 rfl ?_
    refine fx_callVp dX2_tagFits_2 vX3_restOf kkX2_57 rfl rfl (by assumption) (p_fo_restOf H V _) rfl (by decide) (by decide) rfl (Nat.le_of_ble_eq_true rfl) ?_
    refine fx_istoren dX2_tagFits_5 (by decide) ?_
    refine fx_aloadn dX2_tagFits_6 rfl ?_
    refine fx_iloadn dX2_tagFits_7 rfl ?_
    refine fx_callVp dX2_tagFits_8 vX3_tagOf kkX2_60 rfl rfl (by assumption) (p_fo_tagOf H V _) rfl (by decide) (by decide) rfl (Nat.le_of_ble_eq_true rfl) ?_
    rw [ht]
    refine fx_tswIn 41 52 dX2_tagFits_11 (by decide) (by decide) rfl (by decide) ?_
    refine fx_aloadn dX2_tagFits_52 rfl ?_
    refine fx_iloadn dX2_tagFits_53 rfl ?_
    refine fx_callVp dX2_tagFits_54 vX3_hasCharacter kkX2_39 rfl rfl (by assumption) (p_fo_hasCharacter H V _) rfl (by decide) (by decide) rfl (Nat.le_of_ble_eq_true rfl) ?_
    refine fx_if_eqB 72 dX2_tagFits_57 (by decide) (fun c57 => ?_) (fun c57 => ?_)
    · skip
      refine fx_iconst (nI 0) dX2_tagFits_72 (by decide) ?_
      refine fx_zret dX2_tagFits_73 rfl rfl ?_
      exact fx_no (fun q => c57 (by rw [ml_iI_n (by omega)]; exact (q.2.1 ht).1))
    · skip
      refine fx_aloadn dX2_tagFits_60 rfl ?_
      refine fx_iloadn dX2_tagFits_61 rfl ?_
      refine fx_callSp dX2_tagFits_62 vX2_chainEnds kkX2_63 (p_fc_chainEnds H V c hc) rfl (by decide) (by decide) rfl (Nat.le_of_ble_eq_true rfl) ?_
      refine fx_if_eqB 72 dX2_tagFits_65 (by decide) (fun c65 => ?_) (fun c65 => ?_)
      · skip
        refine fx_iconst (nI 0) dX2_tagFits_72 (by decide) ?_
        refine fx_zret dX2_tagFits_73 rfl rfl ?_
        exact fx_no (fun q => c65 (q.2.1 ht).2)
      · skip
        refine fx_iconst (nI 1) dX2_tagFits_68 (by decide) ?_
        refine fx_goto 73 dX2_tagFits_69 (by decide) ?_
        refine fx_zret dX2_tagFits_73 rfl rfl ?_
        exact fx_yes ⟨fun e => by omega, fun e => ⟨by rw [← ml_iI_n (b := b) (show ml_rest b (nI c) < 2 ^ 31 by omega)]; exact c57, c65⟩, fun e => by omega⟩
  · skip
    refine fx_aloadn dX2_tagFits_0 rfl ?_
    refine fx_iloadn dX2_tagFits_1 rfl ?_
    refine fx_callVp dX2_tagFits_2 vX3_restOf kkX2_57 rfl rfl (by assumption) (p_fo_restOf H V _) rfl (by decide) (by decide) rfl (Nat.le_of_ble_eq_true rfl) ?_
    refine fx_istoren dX2_tagFits_5 (by decide) ?_
    refine fx_aloadn dX2_tagFits_6 rfl ?_
    refine fx_iloadn dX2_tagFits_7 rfl ?_
    refine fx_callVp dX2_tagFits_8 vX3_tagOf kkX2_60 rfl rfl (by assumption) (p_fo_tagOf H V _) rfl (by decide) (by decide) rfl (Nat.le_of_ble_eq_true rfl) ?_
    rw [ht]
    refine fx_tswIn 63 74 dX2_tagFits_11 (by decide) (by decide) rfl (by decide) ?_
    refine fx_iloadn dX2_tagFits_74 rfl ?_
    refine fx_aloadn dX2_tagFits_75 rfl ?_
    refine fx_bipush (nI 8) dX2_tagFits_76 (by decide) ?_
    refine fx_callVp dX2_tagFits_78 vX3_rowLength kkX2_54 rfl rfl (by assumption) (p_fo_rowLength H V 8 (by decide)) rfl (by decide) (by decide) rfl (Nat.le_of_ble_eq_true rfl) ?_
    refine fx_icn_ge 88 dX2_tagFits_81 (by decide) (by omega) (by omega) (fun c81 => ?_) (fun c81 => ?_)
    · skip
      refine fx_iconst (nI 0) dX2_tagFits_88 (by decide) ?_
      refine fx_zret dX2_tagFits_89 rfl rfl ?_
      exact fx_no (fun q => by have := q.2.2 ht; omega)
    · skip
      refine fx_iconst (nI 1) dX2_tagFits_84 (by decide) ?_
      refine fx_goto 89 dX2_tagFits_85 (by decide) ?_
      refine fx_zret dX2_tagFits_89 rfl rfl ?_
      exact fx_yes ⟨fun e => by omega, fun e => by omega, fun e => c81⟩

theorem l_fc_infosFit {g : fx_G} {S : Nat → Prop} {h : fx_H} {a nw : Nat} {b : Nat → Nat} {z : Int32} (H : fo S h a b nw z) (V : ml_v b nw) : ∀ n k : Nat, k + n = 256 → (∀ j, j < k → ml_i b j ≠ 0 → ml_pls b j ∧ ml_tgC b j) → fx_Y g mX2_infosFit 4 87 (fun q h' => q = some (.int (bI (ml_f3C b))) ∧ h' = h) (fun _ _ => False) 2 [(0, .ref a), (1, .int (nI k))] [] h 0 0 := by
  obtain ⟨fs, h1⟩ := H.at
  intro n
  induction n using Nat.strongRecOn with
  | ind n ih =>
  intro k hk hp
  refine fx_iloadn dX2_infosFit_2 rfl ?_
  refine fx_sipush (nI 256) dX2_infosFit_3 (by decide) ?_
  refine fx_icn_ge 41 dX2_infosFit_6 (by decide) (by omega) (by omega) (fun c6 => ?_) (fun c6 => ?_)
  · skip
    refine fx_iconst (nI 1) dX2_infosFit_41 (by decide) ?_
    refine fx_zret dX2_infosFit_42 rfl rfl ?_
    exact fx_yes (fun j hj => hp j (by omega))
  · skip
    refine fx_aloadn dX2_infosFit_9 rfl ?_
    refine fx_iloadn dX2_infosFit_10 rfl ?_
    refine fx_callVp dX2_infosFit_11 vX3_hasCharacter kkX2_39 rfl rfl (by assumption) (p_fo_hasCharacter H V _) rfl (by decide) (by decide) rfl (Nat.le_of_ble_eq_true rfl) ?_
    refine fx_if_eqB 35 dX2_infosFit_14 (by decide) (fun c14 => ?_) (fun c14 => ?_)
    · skip
      refine fx_iinc (nI 1) dX2_infosFit_35 rfl (by decide) (by decide) ?_
      refine fx_goto 2 dX2_infosFit_38 (by decide) ?_
      simp only [nI_add]
      refine fx_to (ih (n - 1) (by omega) (k + 1) (by omega) (fun j hj => ?_)) ⟨rfl, rfl, trivial⟩
      by_cases e : j < k
      · exact hp j e
      · rw [show j = k by omega]
        exact fun e => absurd (by rw [ml_iI_n (by omega)]; exact e) c14
    · skip
      refine fx_aloadn dX2_infosFit_17 rfl ?_
      refine fx_iloadn dX2_infosFit_18 rfl ?_
      refine fx_callSp dX2_infosFit_19 vX2_placesFit kkX2_43 (p_fc_placesFit H V k) rfl (by decide) (by decide) rfl (Nat.le_of_ble_eq_true rfl) ?_
      refine fx_if_eqB 33 dX2_infosFit_22 (by decide) (fun c22 => ?_) (fun c22 => ?_)
      · skip
        refine fx_iconst (nI 0) dX2_infosFit_33 (by decide) ?_
        refine fx_zret dX2_infosFit_34 rfl rfl ?_
        exact fx_no (fun q => c22 (q k c6 (by rw [← ml_iI_n (b := b) (show k < 2 ^ 31 by omega)]; exact c14)).1)
      · skip
        refine fx_aloadn dX2_infosFit_25 rfl ?_
        refine fx_iloadn dX2_infosFit_26 rfl ?_
        refine fx_callSp dX2_infosFit_27 vX2_tagFits kkX2_47 (p_fc_tagFits H V k c6) rfl (by decide) (by decide) rfl (Nat.le_of_ble_eq_true rfl) ?_
        refine fx_if_neB 35 dX2_infosFit_30 (by decide) (fun c30 => ?_) (fun c30 => ?_)
        · skip
          refine fx_iinc (nI 1) dX2_infosFit_35 rfl (by decide) (by decide) ?_
          refine fx_goto 2 dX2_infosFit_38 (by decide) ?_
          simp only [nI_add]
          refine fx_to (ih (n - 1) (by omega) (k + 1) (by omega) (fun j hj => ?_)) ⟨rfl, rfl, trivial⟩
          by_cases e : j < k
          · exact hp j e
          · rw [show j = k by omega]
            exact fun _ => ⟨c22, c30⟩
        · skip
          refine fx_iconst (nI 0) dX2_infosFit_33 (by decide) ?_
          refine fx_zret dX2_infosFit_34 rfl rfl ?_
          exact fx_no (fun q => c30 (q k c6 (by rw [← ml_iI_n (b := b) (show k < 2 ^ 31 by omega)]; exact c14)).2)
theorem p_fc_infosFit {g : fx_G} {S : Nat → Prop} {h : fx_H} {a nw : Nat} {b : Nat → Nat} {z : Int32} (H : fo S h a b nw z) (V : ml_v b nw) : fx_P g mX2_infosFit 4 87 [.ref a] h (.int (bI (ml_f3C b))) := by
  obtain ⟨fs, h1⟩ := H.at
  refine fx_Met.of rfl (Nat.le_of_ble_eq_true rfl) ?_
  refine fx_iconst (nI 0) dX2_infosFit_0 (by decide) ?_
  refine fx_istoren dX2_infosFit_1 (by decide) ?_
  exact fx_to (l_fc_infosFit H V 256 0 rfl (fun j hj => by omega)) ⟨rfl, rfl, trivial⟩
/-- faults 2 to 6 of a file whose halves fit, as the class finds them; 0 without -/
noncomputable def ml_ftC (b : Nat → Nat) : Nat := @ite _ (nI (ml_e b 0 1) < nI 1048576) (Classical.propDecidable _) 2 (@ite _ (ml_f3C b) (Classical.propDecidable _) (@ite _ (ml_f4 b) (Classical.propDecidable _) (@ite _ (ml_f5 b) (Classical.propDecidable _) (@ite _ (ml_f6 b) (Classical.propDecidable _) 0 6) 5) 4) 3)
theorem p_fc_faultOf {g : fx_G} {S : Nat → Prop} {h : fx_H} {a nw : Nat} {b : Nat → Nat} {z : Int32} (H : fo S h a b nw z) (V : ml_v b nw) : fx_P g mX2_faultOf 5 109 [.ref a] h (.int (nI (ml_ftC b))) := by
  obtain ⟨fs, h1⟩ := H.at
  refine fx_Met.of rfl (Nat.le_of_ble_eq_true rfl) ?_
  refine fx_aloadn dX2_faultOf_0 rfl ?_
  refine fx_ifnonnullR 6 dX2_faultOf_1 (by decide) ?_
  refine fx_aloadn dX2_faultOf_6 rfl ?_
  refine fx_callVp dX2_faultOf_7 vX3_designSize kkX2_18 rfl rfl (by assumption) (p_fo_designSize H V) rfl (by decide) (by decide) rfl (Nat.le_of_ble_eq_true rfl) ?_
  refine fx_ldc dX2_faultOf_10 qqX2_25 ?_
  refine fx_icmp_ge 17 dX2_faultOf_12 (by decide) (fun c12 => ?_) (fun c12 => ?_)
  · skip
    refine fx_aloadn dX2_faultOf_17 rfl ?_
    refine fx_callSp dX2_faultOf_18 vX2_infosFit kkX2_26 (p_fc_infosFit H V) rfl (by decide) (by decide) rfl (Nat.le_of_ble_eq_true rfl) ?_
    refine fx_if_neB 26 dX2_faultOf_21 (by decide) (fun c21 => ?_) (fun c21 => ?_)
    · skip
      refine fx_aloadn dX2_faultOf_26 rfl ?_
      refine fx_callSp dX2_faultOf_27 vX2_fractionsFit kkX2_30 (p_fc_fractionsFit H V) rfl (by decide) (by decide) rfl (Nat.le_of_ble_eq_true rfl) ?_
      refine fx_if_neB 35 dX2_faultOf_30 (by decide) (fun c30 => ?_) (fun c30 => ?_)
      · skip
        refine fx_aloadn dX2_faultOf_35 rfl ?_
        refine fx_callSp dX2_faultOf_36 vX2_stepsFit kkX2_33 (p_fc_stepsFit H V) rfl (by decide) (by decide) rfl (Nat.le_of_ble_eq_true rfl) ?_
        refine fx_if_neB 44 dX2_faultOf_39 (by decide) (fun c39 => ?_) (fun c39 => ?_)
        · skip
          refine fx_aloadn dX2_faultOf_44 rfl ?_
          refine fx_callSp dX2_faultOf_45 vX2_piecesFit kkX2_36 (p_fc_piecesFit H V) rfl (by decide) (by decide) rfl (Nat.le_of_ble_eq_true rfl) ?_
          refine fx_if_eqB 55 dX2_faultOf_48 (by decide) (fun c48 => ?_) (fun c48 => ?_)
          · skip
            refine fx_bipush (nI 6) dX2_faultOf_55 (by decide) ?_
            refine fx_iret dX2_faultOf_57 rfl ?_
            refine ⟨?_, rfl⟩
            unfold ml_ftC
            rw [if_neg (Int32.not_lt.mpr c12), if_pos c21, if_pos c30, if_pos c39, if_neg c48]
          · skip
            refine fx_iconst (nI 0) dX2_faultOf_51 (by decide) ?_
            refine fx_goto 57 dX2_faultOf_52 (by decide) ?_
            refine fx_iret dX2_faultOf_57 rfl ?_
            refine ⟨?_, rfl⟩
            unfold ml_ftC
            rw [if_neg (Int32.not_lt.mpr c12), if_pos c21, if_pos c30, if_pos c39, if_pos c48]
        · skip
          refine fx_iconst (nI 5) dX2_faultOf_42 (by decide) ?_
          refine fx_iret dX2_faultOf_43 rfl ?_
          refine ⟨?_, rfl⟩
          unfold ml_ftC
          rw [if_neg (Int32.not_lt.mpr c12), if_pos c21, if_pos c30, if_neg c39]
      · skip
        refine fx_iconst (nI 4) dX2_faultOf_33 (by decide) ?_
        refine fx_iret dX2_faultOf_34 rfl ?_
        refine ⟨?_, rfl⟩
        unfold ml_ftC
        rw [if_neg (Int32.not_lt.mpr c12), if_pos c21, if_neg c30]
    · skip
      refine fx_iconst (nI 3) dX2_faultOf_24 (by decide) ?_
      refine fx_iret dX2_faultOf_25 rfl ?_
      refine ⟨?_, rfl⟩
      unfold ml_ftC
      rw [if_neg (Int32.not_lt.mpr c12), if_neg c21]
  · skip
    refine fx_iconst (nI 2) dX2_faultOf_15 (by decide) ?_
    refine fx_iret dX2_faultOf_16 rfl ?_
    refine ⟨?_, rfl⟩
    unfold ml_ftC
    rw [if_pos (Int32.not_le.mp c12)]
theorem p_fc_faultN {g : fx_G} {h : fx_H} : fx_P g mX2_faultOf 5 109 [.null] h (.int (nI 1)) := by
  refine fx_Met.of rfl (Nat.le_of_ble_eq_true rfl) ?_
  refine fx_aloadnN dX2_faultOf_0 rfl ?_
  refine fx_ifnonnullN dX2_faultOf_1 ?_
  refine fx_iconst (nI 1) dX2_faultOf_4 (by decide) ?_
  refine fx_iret dX2_faultOf_5 rfl ?_
  exact ⟨rfl, rfl⟩
