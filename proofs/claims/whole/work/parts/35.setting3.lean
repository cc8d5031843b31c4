/-! FontDesk$Setting: the run of a word -/
theorem p_se_nextCode {g : fx_G} {h : fx_H} {a pik pic pak pac pr : Nat} {I A : List sg} {x : sg} {tot : Int64} {y : sg} (E : sw h a pik pic pak pac I tot x (y :: A) pr) (hlt : (y :: A).length ≤ 1000) : fx_P g mX4_nextCode 0 0 [.ref a] h (.int y.2) := by
  have hlen : (y :: A).length = A.length + 1 := rfl
  obtain ⟨fk, fc, gk, gc, e, hI, hA⟩ := E
  obtain ⟨e1, e2, e3, e4, e5, e6⟩ := id e
  rw [List.reverse_cons] at hA
  obtain ⟨hp0, hp1, hp2⟩ := hA.pop
  rw [List.length_reverse] at hp1 hp2
  refine fx_Met.of rfl (Nat.le_of_ble_eq_true rfl) ?_
  refine fx_aloadn dX4_nextCode_0 rfl ?_
  refine fx_get dX4_nextCode_1 ffX4_40 (by assumption) rfl ?_
  refine fx_if_le 31 dX4_nextCode_4 (by decide) (fun c4 => absurd c4 (nI_nle (by omega) (by omega))) (fun c4 => ?_)
  refine fx_aloadn dX4_nextCode_7 rfl ?_
  refine fx_get dX4_nextCode_8 ffX4_40 (by assumption) rfl ?_
  refine fx_sipush (nI 1000) dX4_nextCode_11 (by decide) ?_
  refine fx_icmp_gt 31 dX4_nextCode_14 (by decide) (fun c14 => absurd c14 (nI_nlt hlt (by decide))) (fun c14 => ?_)
  refine fx_aloadn dX4_nextCode_17 rfl ?_
  refine fx_get dX4_nextCode_18 ffX4_37 (by assumption) rfl ?_
  refine fx_aloadn dX4_nextCode_21 rfl ?_
  refine fx_get dX4_nextCode_22 ffX4_40 (by assumption) rfl ?_
  refine fx_iconst (nI 1) dX4_nextCode_25 (by decide) ?_
  refine fx_isub dX4_nextCode_26 ?_
  rw [pk_sub (by omega), show (y :: A).length - 1 = A.length from rfl]
  refine fx_iald dX4_nextCode_27 e5 (vp_in_nI (show A.length < 1000 by omega) (by decide)) ?_
  rw [nI_clamp (by omega), hp2]
  refine fx_goto 32 dX4_nextCode_28 (by decide) ?_
  refine fx_iret dX4_nextCode_32 rfl ?_
  exact ⟨rfl, rfl⟩
theorem p_se_itemCount {g : fx_G} {h : fx_H} {a pik pic pak pac pr : Nat} {I A : List sg} {x : sg} {tot : Int64} (E : sw h a pik pic pak pac I tot x A pr) : fx_P g mX4_itemCount 0 0 [.ref a] h (.int (nI I.length)) := by
  obtain ⟨fk, fc, gk, gc, e, hI, hA⟩ := E
  obtain ⟨e1, e2, e3, e4, e5, e6⟩ := id e
  refine fx_Met.of rfl (Nat.le_of_ble_eq_true rfl) ?_
  refine fx_aloadn dX4_itemCount_0 rfl ?_
  refine fx_get dX4_itemCount_1 ffX4_18 (by assumption) rfl ?_
  refine fx_iret dX4_itemCount_4 rfl ?_
  exact ⟨rfl, rfl⟩
theorem p_se_totalWidth {g : fx_G} {h : fx_H} {a pik pic pak pac pr : Nat} {I A : List sg} {x : sg} {tot : Int64} (E : sw h a pik pic pak pac I tot x A pr) : fx_P g mX4_totalWidth 0 0 [.ref a] h (.long tot) := by
  obtain ⟨fk, fc, gk, gc, e, hI, hA⟩ := E
  obtain ⟨e1, e2, e3, e4, e5, e6⟩ := id e
  refine fx_Met.of rfl (Nat.le_of_ble_eq_true rfl) ?_
  refine fx_aloadn dX4_totalWidth_0 rfl ?_
  refine fx_get dX4_totalWidth_1 ffX4_22 (by assumption) rfl ?_
  refine fx_lret dX4_totalWidth_4 rfl ?_
  exact ⟨rfl, rfl⟩
/-- what a part of an item is -/
def mz_p (I : List sg) (k q : Int32) : Int32 := if k < 0 then -1 else match I[k.toNatClampNeg]? with
  | none => -1
  | some s => if q = nI 0 then nI s.1 else if q = nI 1 then s.2 else -1
theorem mz_p_neg {I : List sg} {k q : Int32} (h : k < 0) : mz_p I k q = -1 := if_pos h
theorem mz_p_out {I : List sg} {k q : Int32} (h : nI I.length ≤ k) (hl : I.length < 2 ^ 31) : mz_p I k q = -1 := by
  unfold mz_p
  split
  · rfl
  · rename_i h0
    obtain ⟨j, hj, rfl⟩ := nI_of h0
    have h1 := (nI_leI hl hj).mp h
    rw [nI_clamp hj, List.getElem?_eq_none h1]
theorem mz_p_in {I : List sg} {j : Nat} {s : sg} {q : Int32} (h : I[j]? = some s) (hj : j < 2 ^ 31) : mz_p I (nI j) q = if q = nI 0 then nI s.1 else if q = nI 1 then s.2 else -1 := by
  unfold mz_p
  rw [if_neg (nI_pos hj), nI_clamp hj, h]

theorem p_se_itemPart {g : fx_G} {h : fx_H} {a pik pic pak pac pr : Nat} {I A : List sg} {x : sg} {tot : Int64} (E : sw h a pik pic pak pac I tot x A pr) (hI9 : I.length ≤ 1000) (k q : Int32) : fx_P g mX4_itemPart 0 0 [.ref a, .int k, .int q] h (.int (mz_p I k q)) := by
  obtain ⟨fk, fc, gk, gc, e, hI, hA⟩ := E
  obtain ⟨e1, e2, e3, e4, e5, e6⟩ := id e
  refine fx_Met.of rfl (Nat.le_of_ble_eq_true rfl) ?_
  rcases pk_ix k (show I.length < 2 ^ 31 by omega) with hk | hk2 | ⟨j, hj, rfl⟩
  · skip
    refine fx_iloadn dX4_itemPart_0 rfl ?_
    refine fx_if_lt 19 dX4_itemPart_1 (by decide) (fun c1 => ?_) (fun c1 => absurd (hk) c1)
    refine fx_iconst (-1) dX4_itemPart_19 (by decide) ?_
    refine fx_iret dX4_itemPart_20 rfl ?_
    exact ⟨by rw [mz_p_neg hk], rfl⟩
  · by_cases hk : k < 0
    · exact absurd (show nI 0 ≤ k from Int32.le_trans (nI_le (Nat.zero_le _) (by omega)) hk2) (by show ¬ 0 ≤ k; exact Int32.not_le.mpr hk)
    refine fx_iloadn dX4_itemPart_0 rfl ?_
    refine fx_if_lt 19 dX4_itemPart_1 (by decide) (fun c1 => absurd c1 (hk)) (fun c1 => ?_)
    refine fx_iloadn dX4_itemPart_4 rfl ?_
    refine fx_aloadn dX4_itemPart_5 rfl ?_
    refine fx_get dX4_itemPart_6 ffX4_18 (by assumption) rfl ?_
    refine fx_icmp_ge 19 dX4_itemPart_9 (by decide) (fun c9 => ?_) (fun c9 => absurd (hk2) c9)
    refine fx_iconst (-1) dX4_itemPart_19 (by decide) ?_
    refine fx_iret dX4_itemPart_20 rfl ?_
    exact ⟨by rw [mz_p_out hk2 (by omega)], rfl⟩
  · have hs : I[j]? = some I[j] := List.getElem?_eq_getElem hj
    have hs2 := hI j _ hs
    refine fx_iloadn dX4_itemPart_0 rfl ?_
    refine fx_if_lt 19 dX4_itemPart_1 (by decide) (fun c1 => absurd c1 (nI_pos (by omega))) (fun c1 => ?_)
    refine fx_iloadn dX4_itemPart_4 rfl ?_
    refine fx_aloadn dX4_itemPart_5 rfl ?_
    refine fx_get dX4_itemPart_6 ffX4_18 (by assumption) rfl ?_
    refine fx_icmp_ge 19 dX4_itemPart_9 (by decide) (fun c9 => absurd c9 (nI_ge hj (by omega))) (fun c9 => ?_)
    refine fx_iloadn dX4_itemPart_12 rfl ?_
    refine fx_sipush (nI 1000) dX4_itemPart_13 (by decide) ?_
    refine fx_icmp_lt 21 dX4_itemPart_16 (by decide) (fun c16 => ?_) (fun c16 => absurd (nI_lt (show j < 1000 by omega) (by decide)) c16)
    refine fx_iloadn dX4_itemPart_21 rfl ?_
    refine fx_if_ne 34 dX4_itemPart_22 (by decide) (fun c22 => ?_) (fun c22 => ?_)
    · skip
      refine fx_iloadn dX4_itemPart_34 rfl ?_
      refine fx_iconst (nI 1) dX4_itemPart_35 (by decide) ?_
      refine fx_icmp_ne 48 dX4_itemPart_36 (by decide) (fun c36 => ?_) (fun c36 => ?_)
      · skip
        refine fx_iconst (-1) dX4_itemPart_48 (by decide) ?_
        refine fx_iret dX4_itemPart_49 rfl ?_
        exact ⟨by rw [mz_p_in hs (by omega), if_neg (show ¬ q = nI 0 from c22), if_neg c36], rfl⟩
      · skip
        refine fx_aloadn dX4_itemPart_39 rfl ?_
        refine fx_get dX4_itemPart_40 ffX4_15 (by assumption) rfl ?_
        refine fx_iloadn dX4_itemPart_43 rfl ?_
        refine fx_iald dX4_itemPart_44 e3 (vp_in_nI (show j < 1000 by omega) (by decide)) ?_
        rw [nI_clamp (by omega), hs2.2]
        refine fx_goto 49 dX4_itemPart_45 (by decide) ?_
        refine fx_iret dX4_itemPart_49 rfl ?_
        exact ⟨by rw [mz_p_in hs (by omega), if_neg (show ¬ q = nI 0 from c22), if_pos c36], rfl⟩
    · skip
      refine fx_aloadn dX4_itemPart_25 rfl ?_
      refine fx_get dX4_itemPart_26 ffX4_11 (by assumption) rfl ?_
      refine fx_iloadn dX4_itemPart_29 rfl ?_
      refine fx_iald dX4_itemPart_30 e2 (vp_in_nI (show j < 1000 by omega) (by decide)) ?_
      rw [nI_clamp (by omega), hs2.1]
      refine fx_goto 49 dX4_itemPart_31 (by decide) ?_
      refine fx_iret dX4_itemPart_49 rfl ?_
      exact ⟨by rw [mz_p_in hs (by omega), if_pos (show q = nI 0 from c22)], rfl⟩
theorem l_se_addUp {g : fx_G} {h0 : fx_H} {a pik pic pak pac : Nat} {S : Nat → Prop} {f nw : Nat} {b : Nat → Nat} {z : Int32} (V : ml_v b nw) (HF : ∀ h', kp (sS a pik pic pak pac) h0 h' → fo S h' f b nw z) (tot0 : Int64) {x : sg} {A : List sg} {pr : Nat} : ∀ (R D : List sg) (h : fx_H), sw h a pik pic pak pac (D ++ R) (mz_w b z tot0 D) x A pr → (∀ s ∈ D ++ R, s.1 < 4) ∧ (D ++ R).length ≤ 1000 → kp (sS a pik pic pak pac) h0 h → fx_Y g mX4_addUp 3 66 (fun r h' => r = none ∧ (∃ x A pr, sw h' a pik pic pak pac (D ++ R) (mz_w b z tot0 (D ++ R)) x A pr) ∧ kp (sS a pik pic pak pac) h0 h') (fun _ _ => False) 2 [(0, .ref a), (1, .ref f), (2, .int (nI D.length))] [] h 0 0 := by
  intro R
  induction R with
  | nil =>
    intro D h E hl9 hk
    have hln : (D ++ []).length = D.length := by simp
    obtain ⟨fk, fc, gk, gc, e, hI, hA⟩ := id E
    obtain ⟨e1, e2, e3, e4, e5, e6⟩ := id e
    refine fx_iloadn dX4_addUp_2 rfl ?_
    refine fx_aloadn dX4_addUp_3 rfl ?_
    refine fx_get dX4_addUp_4 ffX4_18 (by assumption) rfl ?_
    refine fx_icmp_ge 64 dX4_addUp_7 (by decide) (fun c7 => ?_) (fun c7 => absurd (nI_le (by simp) (by omega)) c7)
    refine fx_vret dX4_addUp_64 rfl ?_
    refine ⟨rfl, ⟨x, A, pr, ?_⟩, hk⟩
    rw [List.append_nil]
    rw [List.append_nil] at E
    exact E
  | cons s R ih =>
    intro D h E hl9 hk
    have H := HF h hk
    obtain ⟨hff, hf1⟩ := H.at
    obtain ⟨fk, fc, gk, gc, e, hI, hA⟩ := id E
    obtain ⟨e1, e2, e3, e4, e5, e6⟩ := id e
    have hdl : D.length < (D ++ s :: R).length := by rw [List.length_append]; show _ < _ + (R.length + 1); omega
    have hl8 := hl9.2
    have hs1 : s.1 < 4 := hl9.1 s (List.mem_append_right _ List.mem_cons_self)
    have hs2 := hI D.length s (by rw [List.getElem?_append_right (Nat.le_refl _), Nat.sub_self]; rfl)
    by_cases h2 : s.1 = 2
    · skip
      refine fx_iloadn dX4_addUp_2 rfl ?_
      refine fx_aloadn dX4_addUp_3 rfl ?_
      refine fx_get dX4_addUp_4 ffX4_18 (by assumption) rfl ?_
      refine fx_icmp_ge 64 dX4_addUp_7 (by decide) (fun c7 => absurd c7 (nI_ge hdl (by omega))) (fun c7 => ?_)
      refine fx_iloadn dX4_addUp_10 rfl ?_
      refine fx_sipush (nI 1000) dX4_addUp_11 (by decide) ?_
      refine fx_icmp_ge 64 dX4_addUp_14 (by decide) (fun c14 => absurd c14 (nI_ge (show D.length < 1000 by omega) (by decide))) (fun c14 => ?_)
      refine fx_aloadn dX4_addUp_17 rfl ?_
      refine fx_dup dX4_addUp_18 rfl ?_
      refine fx_get dX4_addUp_19 ffX4_22 (by assumption) rfl ?_
      refine fx_aloadn dX4_addUp_22 rfl ?_
      refine fx_get dX4_addUp_23 ffX4_11 (by assumption) rfl ?_
      refine fx_iloadn dX4_addUp_26 rfl ?_
      refine fx_iald dX4_addUp_27 e2 (vp_in_nI (show D.length < 1000 by omega) (by decide)) ?_
      rw [nI_clamp (by omega), hs2.1]
      refine fx_iconst (nI 2) dX4_addUp_28 (by decide) ?_
      refine fx_icmp_ne 42 dX4_addUp_29 (by decide) (fun c29 => absurd (by rw [h2]) c29) (fun c29 => ?_)
      refine fx_aloadn dX4_addUp_32 rfl ?_
      refine fx_get dX4_addUp_33 ffX4_15 (by assumption) rfl ?_
      refine fx_iloadn dX4_addUp_36 rfl ?_
      refine fx_iald dX4_addUp_37 e3 (vp_in_nI (show D.length < 1000 by omega) (by decide)) ?_
      rw [nI_clamp (by omega), hs2.2]
      refine fx_i2l dX4_addUp_38 ?_
      refine fx_goto 54 dX4_addUp_39 (by decide) ?_
      refine fx_ladd dX4_addUp_54 ?_
      refine fx_putV dX4_addUp_55 ffX4_22 e1 rfl rfl (Nat.le_of_ble_eq_true rfl) (fun h1 q1 o1 => ?_)
      refine fx_iinc (nI 1) dX4_addUp_58 rfl (by decide) (by decide) ?_
      refine fx_goto 2 dX4_addUp_61 (by decide) ?_
      simp only [nI_add]
      have E1 : sw h1 a pik pic pak pac (D ++ s :: R) (mz_w b z tot0 (D ++ [s])) x A pr := by
        refine ⟨fk, fc, gk, gc, ?_, hI, hA⟩
        have e9 := e.obj (tot' := mz_w b z tot0 D + (s.2).toInt64) q1 o1
        rw [mz_w_app]
        show se h1 a pik pic pak pac fk fc _ (mz_w b z tot0 D + (if s.1 = 2 then s.2 else ml_ms b z s.2 0).toInt64) _ _ gk gc _ pr
        rw [if_pos h2]
        exact e9
      refine fx_to (fx_mono (fun r h9 hq => ?_) (fun _ _ q => q) (ih (D ++ [s]) h1 (by rw [List.append_assoc]; exact E1) (by rw [List.append_assoc]; exact hl9) (kp.put hk o1 (Or.inl (Or.inl rfl))))) ⟨rfl, rfl, by rw [List.length_append]; rfl, trivial⟩
      rw [List.append_assoc] at hq
      exact hq
    · skip
      refine fx_iloadn dX4_addUp_2 rfl ?_
      refine fx_aloadn dX4_addUp_3 rfl ?_
      refine fx_get dX4_addUp_4 ffX4_18 (by assumption) rfl ?_
      refine fx_icmp_ge 64 dX4_addUp_7 (by decide) (fun c7 => absurd c7 (nI_ge hdl (by omega))) (fun c7 => ?_)
      refine fx_iloadn dX4_addUp_10 rfl ?_
      refine fx_sipush (nI 1000) dX4_addUp_11 (by decide) ?_
      refine fx_icmp_ge 64 dX4_addUp_14 (by decide) (fun c14 => absurd c14 (nI_ge (show D.length < 1000 by omega) (by decide))) (fun c14 => ?_)
      refine fx_aloadn dX4_addUp_17 rfl ?_
      refine fx_dup dX4_addUp_18 rfl ?_
      refine fx_get dX4_addUp_19 ffX4_22 (by assumption) rfl ?_
      refine fx_aloadn dX4_addUp_22 rfl ?_
      refine fx_get dX4_addUp_23 ffX4_11 (by assumption) rfl ?_
      refine fx_iloadn dX4_addUp_26 rfl ?_
      refine fx_iald dX4_addUp_27 e2 (vp_in_nI (show D.length < 1000 by omega) (by decide)) ?_
      rw [nI_clamp (by omega), hs2.1]
      refine fx_iconst (nI 2) dX4_addUp_28 (by decide) ?_
      refine fx_icmp_ne 42 dX4_addUp_29 (by decide) (fun c29 => ?_) (fun c29 => absurd c29 (fun q => h2 ((nI_eq (by omega) (by decide)).mp q)))
      refine fx_aloadn dX4_addUp_42 rfl ?_
      refine fx_aloadn dX4_addUp_43 rfl ?_
      refine fx_get dX4_addUp_44 ffX4_15 (by assumption) rfl ?_
      refine fx_iloadn dX4_addUp_47 rfl ?_
      refine fx_iald dX4_addUp_48 e3 (vp_in_nI (show D.length < 1000 by omega) (by decide)) ?_
      rw [nI_clamp (by omega), hs2.2]
      refine fx_iconst (nI 0) dX4_addUp_49 (by decide) ?_
      refine fx_callVp dX4_addUp_50 vX3_measure kkX4_115 rfl rfl (by assumption) (p_fo_measure H V s.2 0 (by decide)) rfl (by decide) (by decide) rfl (Nat.le_of_ble_eq_true rfl) ?_
      refine fx_i2l dX4_addUp_53 ?_
      refine fx_ladd dX4_addUp_54 ?_
      refine fx_putV dX4_addUp_55 ffX4_22 e1 rfl rfl (Nat.le_of_ble_eq_true rfl) (fun h1 q1 o1 => ?_)
      refine fx_iinc (nI 1) dX4_addUp_58 rfl (by decide) (by decide) ?_
      refine fx_goto 2 dX4_addUp_61 (by decide) ?_
      simp only [nI_add]
      have E1 : sw h1 a pik pic pak pac (D ++ s :: R) (mz_w b z tot0 (D ++ [s])) x A pr := by
        refine ⟨fk, fc, gk, gc, ?_, hI, hA⟩
        have e9 := e.obj (tot' := mz_w b z tot0 D + (ml_ms b z s.2 0).toInt64) q1 o1
        rw [mz_w_app]
        show se h1 a pik pic pak pac fk fc _ (mz_w b z tot0 D + (if s.1 = 2 then s.2 else ml_ms b z s.2 0).toInt64) _ _ gk gc _ pr
        rw [if_neg h2]
        exact e9
      refine fx_to (fx_mono (fun r h9 hq => ?_) (fun _ _ q => q) (ih (D ++ [s]) h1 (by rw [List.append_assoc]; exact E1) (by rw [List.append_assoc]; exact hl9) (kp.put hk o1 (Or.inl (Or.inl rfl))))) ⟨rfl, rfl, by rw [List.length_append]; rfl, trivial⟩
      rw [List.append_assoc] at hq
      exact hq
theorem c_se_addUp {g : fx_G} {h : fx_H} {a pik pic pak pac pr : Nat} {I A : List sg} {x : sg} {tot : Int64} {S : Nat → Prop} {f nw : Nat} {b : Nat → Nat} {z : Int32} (V : ml_v b nw) (HF : ∀ h', kp (sS a pik pic pak pac) h h' → fo S h' f b nw z) (E : sw h a pik pic pak pac I tot x A pr) (hI9 : I.length ≤ 1000) (hk4 : ∀ s ∈ I, s.1 < 4) : fx_Met g mX4_addUp 3 66 [.ref a, .ref f] h 0 0 (fun r h' => r = none ∧ (∃ x A pr, sw h' a pik pic pak pac I (mz_w b z tot I) x A pr) ∧ kp (sS a pik pic pak pac) h h') := by
  refine fx_Met.of rfl (Nat.le_of_ble_eq_true rfl) ?_
  refine fx_iconst (nI 0) dX4_addUp_0 (by decide) ?_
  refine fx_istoren dX4_addUp_1 (by decide) ?_
  refine fx_to (l_se_addUp V HF tot I [] h E ⟨hk4, hI9⟩ kp.rf) ⟨rfl, rfl, rfl, trivial⟩
