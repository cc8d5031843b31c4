/-! FontDesk$Setting: run, begin, a new one -/
theorem mz_s_l {b : Nat → Nat} {z : Int32} {P : List sg} {x y : sg} {A : List sg} (h : mz_i b x y ≠ -1) (h2 : ¬ 128 ≤ ml_o b (mz_i b x y)) : mz_s b z P x y A = mz_l (ml_o b (mz_i b x y)) (nI (ml_r b (mz_i b x y))) P x y A := by
  unfold mz_s
  rw [if_neg h, if_neg h2]
  rfl

theorem gk9 {b : Nat → Nat} {L : List sg} (h : ∀ s ∈ L, gsg b s) : ∀ s ∈ L, s.1 < 4 := fun s hs => by
  rcases h s hs with q | q | q
  · exact q.k.2
  · omega
  · omega
theorem l_se_over {g : fx_G} {h0 : fx_H} {a pik pic pak pac : Nat} {b : Nat → Nat} {z : Int32} {f : Nat} (RR : Option (List sg)) (tot : Int64) (hRR : RR = none) {h : fx_H} {I A : List sg} {x : sg} {t9 : Int64} {pr : Nat} (E : sw h a pik pic pak pac I t9 x A pr) (hpr : 1000 < pr) (hpr2 : pr ≤ 1001) (hA9 : A.length ≤ 1001) (k : Nat) (hk9 : k ≤ 10000) (hk : kp (sS a pik pic pak pac) h0 h) : fx_Y g mX4_run 5 112 (fun r h' => ((∃ L, RR = some L ∧ r = some (.int (nI 1)) ∧ ∃ x A pr, sw h' a pik pic pak pac (nf L) (mz_w b z tot (nf L)) x A pr) ∨ (RR = none ∧ r = some (.int (nI 0)) ∧ ∃ I tot x A pr, sw h' a pik pic pak pac I tot x A pr)) ∧ kp (sS a pik pic pak pac) h0 h') (fun _ _ => False) 2 [(0, .ref a), (1, .ref f), (2, .int (nI k))] [] h 0 0 := by
  obtain ⟨fk, fc, gk, gc, e, hI, hA⟩ := id E
  obtain ⟨e1, e2, e3, e4, e5, e6⟩ := id e
  by_cases hs9 : k < 10000
  · by_cases hA0 : A.length = 0
    · skip
      refine fx_iloadn dX4_run_2 rfl ?_
      refine fx_sipush (nI 10000) dX4_run_3 (by decide) ?_
      refine fx_icmp_ge 91 dX4_run_6 (by decide) (fun c6 => absurd c6 (nI_ge hs9 (by decide))) (fun c6 => ?_)
      refine fx_aloadn dX4_run_9 rfl ?_
      refine fx_get dX4_run_10 ffX4_40 (by assumption) rfl ?_
      refine fx_if_le 91 dX4_run_13 (by decide) (fun c13 => ?_) (fun c13 => absurd (by rw [hA0]; decide) c13)
      refine fx_aloadn dX4_run_91 rfl ?_
      refine fx_get dX4_run_92 ffX4_40 (by assumption) rfl ?_
      refine fx_if_gt 108 dX4_run_95 (by decide) (fun c95 => absurd c95 (by rw [hA0]; decide)) (fun c95 => ?_)
      refine fx_aloadn dX4_run_98 rfl ?_
      refine fx_get dX4_run_99 ffX4_43 (by assumption) rfl ?_
      refine fx_sipush (nI 1000) dX4_run_102 (by decide) ?_
      refine fx_icmp_le 110 dX4_run_105 (by decide) (fun c105 => absurd c105 (nI_ge (show 1000 < pr by omega) (by omega))) (fun c105 => ?_)
      refine fx_iconst (nI 0) dX4_run_108 (by decide) ?_
      refine fx_zret dX4_run_109 rfl rfl ?_
      exact ⟨Or.inr ⟨hRR, rfl, _, _, _, _, _, E⟩, hk⟩
    · skip
      refine fx_iloadn dX4_run_2 rfl ?_
      refine fx_sipush (nI 10000) dX4_run_3 (by decide) ?_
      refine fx_icmp_ge 91 dX4_run_6 (by decide) (fun c6 => absurd c6 (nI_ge hs9 (by decide))) (fun c6 => ?_)
      refine fx_aloadn dX4_run_9 rfl ?_
      refine fx_get dX4_run_10 ffX4_40 (by assumption) rfl ?_
      refine fx_if_le 91 dX4_run_13 (by decide) (fun c13 => absurd c13 (nI_nle (by omega) (by omega))) (fun c13 => ?_)
      refine fx_aloadn dX4_run_16 rfl ?_
      refine fx_get dX4_run_17 ffX4_43 (by assumption) rfl ?_
      refine fx_sipush (nI 1000) dX4_run_20 (by decide) ?_
      refine fx_icmp_gt 91 dX4_run_23 (by decide) (fun c23 => ?_) (fun c23 => absurd (nI_lt (show 1000 < pr by omega) (by omega)) c23)
      refine fx_aloadn dX4_run_91 rfl ?_
      refine fx_get dX4_run_92 ffX4_40 (by assumption) rfl ?_
      refine fx_if_gt 108 dX4_run_95 (by decide) (fun c95 => ?_) (fun c95 => absurd (nI_lt (show 0 < A.length by omega) (by omega)) c95)
      refine fx_iconst (nI 0) dX4_run_108 (by decide) ?_
      refine fx_zret dX4_run_109 rfl rfl ?_
      exact ⟨Or.inr ⟨hRR, rfl, _, _, _, _, _, E⟩, hk⟩
  · by_cases hA0 : A.length = 0
    · skip
      refine fx_iloadn dX4_run_2 rfl ?_
      refine fx_sipush (nI 10000) dX4_run_3 (by decide) ?_
      refine fx_icmp_ge 91 dX4_run_6 (by decide) (fun c6 => ?_) (fun c6 => absurd (nI_le (by omega) (by omega)) c6)
      refine fx_aloadn dX4_run_91 rfl ?_
      refine fx_get dX4_run_92 ffX4_40 (by assumption) rfl ?_
      refine fx_if_gt 108 dX4_run_95 (by decide) (fun c95 => absurd c95 (by rw [hA0]; decide)) (fun c95 => ?_)
      refine fx_aloadn dX4_run_98 rfl ?_
      refine fx_get dX4_run_99 ffX4_43 (by assumption) rfl ?_
      refine fx_sipush (nI 1000) dX4_run_102 (by decide) ?_
      refine fx_icmp_le 110 dX4_run_105 (by decide) (fun c105 => absurd c105 (nI_ge (show 1000 < pr by omega) (by omega))) (fun c105 => ?_)
      refine fx_iconst (nI 0) dX4_run_108 (by decide) ?_
      refine fx_zret dX4_run_109 rfl rfl ?_
      exact ⟨Or.inr ⟨hRR, rfl, _, _, _, _, _, E⟩, hk⟩
    · skip
      refine fx_iloadn dX4_run_2 rfl ?_
      refine fx_sipush (nI 10000) dX4_run_3 (by decide) ?_
      refine fx_icmp_ge 91 dX4_run_6 (by decide) (fun c6 => ?_) (fun c6 => absurd (nI_le (by omega) (by omega)) c6)
      refine fx_aloadn dX4_run_91 rfl ?_
      refine fx_get dX4_run_92 ffX4_40 (by assumption) rfl ?_
      refine fx_if_gt 108 dX4_run_95 (by decide) (fun c95 => ?_) (fun c95 => absurd (nI_lt (show 0 < A.length by omega) (by omega)) c95)
      refine fx_iconst (nI 0) dX4_run_108 (by decide) ?_
      refine fx_zret dX4_run_109 rfl rfl ?_
      exact ⟨Or.inr ⟨hRR, rfl, _, _, _, _, _, E⟩, hk⟩
theorem l_se_end {g : fx_G} {h0 : fx_H} {a pik pic pak pac : Nat} {S : Nat → Prop} {f nw : Nat} {b : Nat → Nat} {z : Int32} (V : ml_v b nw) (HF : ∀ h', kp (sS a pik pic pak pac) h0 h' → fo S h' f b nw z) (F3 : ml_F3a b) (F5 : ml_f5 b) (RR : Option (List sg)) (tot : Int64) {h : fx_H} {P : List sg} {x : sg} {pr : Nat} (hRR : RR = some (P ++ [x])) (E : sw h a pik pic pak pac (nf P) tot x [] pr) (hx : gx b x []) (hP : ∀ s ∈ P, gsg b s) (hpr : pr ≤ 1000) (hP9 : P.length < 1000) (lv : List (Nat × Value)) (hlv : fx_le [(0, .ref a), (1, .ref f)] lv) (hk : kp (sS a pik pic pak pac) h0 h) : fx_Y g mX4_run 5 112 (fun r h' => ((∃ L, RR = some L ∧ r = some (.int (nI 1)) ∧ ∃ x A pr, sw h' a pik pic pak pac (nf L) (mz_w b z tot (nf L)) x A pr) ∨ (RR = none ∧ r = some (.int (nI 0)) ∧ ∃ I tot x A pr, sw h' a pik pic pak pac I tot x A pr)) ∧ kp (sS a pik pic pak pac) h0 h') (fun _ _ => False) 91 lv [] h 0 0 := by
  obtain ⟨fk, fc, gk, gc, e, hI, hA⟩ := id E
  obtain ⟨e1, e2, e3, e4, e5, e6⟩ := id e
  have hnP := nf_le P
  have hk4 : ∀ s ∈ P ++ [x], s.1 < 4 := gk9 (gsts hP [x] (fun s hs => by rw [List.mem_singleton.mp hs]; exact hx.g))
  refine fx_sub _ hlv ?_
  refine fx_aloadn dX4_run_91 rfl ?_
  refine fx_get dX4_run_92 ffX4_40 (by assumption) rfl ?_
  refine fx_if_gt 108 dX4_run_95 (by decide) (fun c95 => absurd c95 (by show ¬ 0 < nI 0; decide)) (fun c95 => ?_)
  refine fx_aloadn dX4_run_98 rfl ?_
  refine fx_get dX4_run_99 ffX4_43 (by assumption) rfl ?_
  refine fx_sipush (nI 1000) dX4_run_102 (by decide) ?_
  refine fx_icmp_le 110 dX4_run_105 (by decide) (fun c105 => ?_) (fun c105 => absurd (nI_le hpr (by decide)) c105)
  refine fx_aloadn dX4_run_110 rfl ?_
  obtain ⟨fs1, at1⟩ := E.at
  refine fx_callV dX4_run_111 vX4_passSign kkX4_99 rfl rfl at1 (c_se_passSign E hx.k (by omega)) rfl (by decide) (by decide) (Nat.zero_le _) (Nat.zero_le _) rfl (Nat.le_of_ble_eq_true rfl) (fun r1 h1 hk1 => ?_)
  obtain ⟨rfl, E1, k1⟩ := hk1
  refine fx_aloadn dX4_run_114 rfl ?_
  refine fx_aloadn dX4_run_115 rfl ?_
  obtain ⟨fs2, at2⟩ := E1.at
  refine fx_callV dX4_run_116 vX4_addUp kkX4_102 rfl rfl at2 (c_se_addUp V (fun h' q => HF h' (hk.tr (k1.tr q (fun _ z _ => z)) (fun _ z _ => z))) (E1.to (nf_app P [x]).symm rfl) (by have := nf_le (P ++ [x]); rw [List.length_append] at this; have : [x].length = 1 := rfl; omega) (fun s hs => ?_)) rfl (by decide) (by decide) (Nat.zero_le _) (Nat.zero_le _) rfl (Nat.le_of_ble_eq_true rfl) (fun r2 h2 hk2 => ?_)
  · exact hk4 s ((List.mem_filter.mp hs).1)
  obtain ⟨rfl, ⟨x2, A2, pr2, E2⟩, k2⟩ := hk2
  refine fx_iconst (nI 1) dX4_run_119 (by decide) ?_
  refine fx_zret dX4_run_120 rfl rfl ?_
  exact ⟨Or.inl ⟨_, hRR, rfl, x2, A2, pr2, E2⟩, hk.tr (k1.tr k2 (fun _ z _ => z)) (fun _ z _ => z)⟩
theorem l_se_run {g : fx_G} {h0 : fx_H} {a pik pic pak pac : Nat} {S : Nat → Prop} {f nw : Nat} {b : Nat → Nat} {z : Int32} (V : ml_v b nw) (HF : ∀ h', kp (sS a pik pic pak pac) h0 h' → fo S h' f b nw z) (F3 : ml_F3a b) (F5 : ml_f5 b) (RR : Option (List sg)) (tot : Int64) : ∀ (n k : Nat) (P : List sg) (x : sg) (A : List sg) (h : fx_H), k + n = 10000 → P.length + 1 + A.length ≤ 1000 → sw h a pik pic pak pac (nf P) tot x A (P.length + 1 + A.length) → gst b P x A → mz_run b z n P x A = RR → kp (sS a pik pic pak pac) h0 h → fx_Y g mX4_run 5 112 (fun r h' => ((∃ L, RR = some L ∧ r = some (.int (nI 1)) ∧ ∃ x A pr, sw h' a pik pic pak pac (nf L) (mz_w b z tot (nf L)) x A pr) ∨ (RR = none ∧ r = some (.int (nI 0)) ∧ ∃ I tot x A pr, sw h' a pik pic pak pac I tot x A pr)) ∧ kp (sS a pik pic pak pac) h0 h') (fun _ _ => False) 2 [(0, .ref a), (1, .ref f), (2, .int (nI k))] [] h 0 0 := by
  intro n
  induction n using Nat.strongRecOn with
  | ind n ih =>
  intro k P x A h hn hsz E hg hRR hk
  obtain ⟨fk, fc, gk, gc, e, hI, hA⟩ := id E
  obtain ⟨e1, e2, e3, e4, e5, e6⟩ := id e
  obtain ⟨hP, hx, hgA⟩ := id hg
  have hnP := nf_le P
  cases A with
  | nil =>
    replace hsz : P.length + 1 ≤ 1000 := hsz
    by_cases hn0 : n = 0
    · skip
      refine fx_iloadn dX4_run_2 rfl ?_
      refine fx_sipush (nI 10000) dX4_run_3 (by decide) ?_
      refine fx_icmp_ge 91 dX4_run_6 (by decide) (fun c6 => ?_) (fun c6 => absurd (nI_le (by omega) (by omega)) c6)
      exact l_se_end V HF F3 F5 RR tot (by rw [← hRR, mz_run_nil]) E hx hP hsz (by omega) _ ⟨rfl, rfl, trivial⟩ hk
    · skip
      refine fx_iloadn dX4_run_2 rfl ?_
      refine fx_sipush (nI 10000) dX4_run_3 (by decide) ?_
      refine fx_icmp_ge 91 dX4_run_6 (by decide) (fun c6 => absurd c6 (nI_ge (show k < 10000 by omega) (by decide))) (fun c6 => ?_)
      refine fx_aloadn dX4_run_9 rfl ?_
      refine fx_get dX4_run_10 ffX4_40 (by assumption) rfl ?_
      refine fx_if_le 91 dX4_run_13 (by decide) (fun c13 => ?_) (fun c13 => absurd (by show nI 0 ≤ 0; decide) c13)
      exact l_se_end V HF F3 F5 RR tot (by rw [← hRR, mz_run_nil]) E hx hP hsz (by omega) _ ⟨rfl, rfl, trivial⟩ hk
  | cons y A =>
    have hyA : (y :: A).length = A.length + 1 := rfl
    by_cases hn0 : n = 0
    · skip
      refine fx_iloadn dX4_run_2 rfl ?_
      refine fx_sipush (nI 10000) dX4_run_3 (by decide) ?_
      refine fx_icmp_ge 91 dX4_run_6 (by decide) (fun c6 => ?_) (fun c6 => absurd (nI_le (by omega) (by omega)) c6)
      refine fx_aloadn dX4_run_91 rfl ?_
      refine fx_get dX4_run_92 ffX4_40 (by assumption) rfl ?_
      refine fx_if_gt 108 dX4_run_95 (by decide) (fun c95 => ?_) (fun c95 => absurd (nI_lt (show 0 < A.length + 1 by omega) (by omega)) c95)
      refine fx_iconst (nI 0) dX4_run_108 (by decide) ?_
      refine fx_zret dX4_run_109 rfl rfl ?_
      refine ⟨Or.inr ⟨?_, rfl, _, _, _, _, _, E⟩, hk⟩
      rw [← hRR, show n = 0 by omega]
      rfl
    have H := HF h hk
    obtain ⟨hff, hf1⟩ := H.at
    obtain ⟨c, hc, hc2⟩ := hx.c
    have hi9 : mz_i b x y = ml_seek b y.2 (ml_rl b 6) (ml_ps b c) := by
      unfold mz_i
      rw [hc2, nI_clamp (by omega)]
    have hg9 := mz_g (z := z) V F3 F5 hg
    by_cases hi0 : mz_i b x y = -1
    · have hms : mz_s b z P x y A = (P ++ [x], y, A) := by
        unfold mz_s
        rw [if_pos hi0]
      rw [hms] at hg9
      refine fx_iloadn dX4_run_2 rfl ?_
      refine fx_sipush (nI 10000) dX4_run_3 (by decide) ?_
      refine fx_icmp_ge 91 dX4_run_6 (by decide) (fun c6 => absurd c6 (nI_ge (show k < 10000 by omega) (by decide))) (fun c6 => ?_)
      refine fx_aloadn dX4_run_9 rfl ?_
      refine fx_get dX4_run_10 ffX4_40 (by assumption) rfl ?_
      refine fx_if_le 91 dX4_run_13 (by decide) (fun c13 => absurd c13 (nI_nle (by omega) (by omega))) (fun c13 => ?_)
      refine fx_aloadn dX4_run_16 rfl ?_
      refine fx_get dX4_run_17 ffX4_43 (by assumption) rfl ?_
      refine fx_sipush (nI 1000) dX4_run_20 (by decide) ?_
      refine fx_icmp_gt 91 dX4_run_23 (by decide) (fun c23 => absurd c23 (nI_nlt hsz (by decide))) (fun c23 => ?_)
      refine fx_aloadn dX4_run_26 rfl ?_
      refine fx_aloadn dX4_run_27 rfl ?_
      refine fx_get dX4_run_28 ffX4_31 (by assumption) rfl ?_
      rw [hc2]
      refine fx_aloadn dX4_run_31 rfl ?_
      refine fx_callVp dX4_run_32 vX4_nextCode kkX4_70 rfl rfl (by assumption) (p_se_nextCode E (by omega)) rfl (by decide) (by decide) rfl (Nat.le_of_ble_eq_true rfl) ?_
      refine fx_callVp dX4_run_35 vX3_stepFor kkX4_73 rfl rfl (by assumption) (p_fo_stepFor H V c hc y.2) rfl (by decide) (by decide) rfl (Nat.le_of_ble_eq_true rfl) ?_
      rw [← hi9]
      refine fx_istoren dX4_run_38 (by decide) ?_
      refine fx_iloadn dX4_run_39 rfl ?_
      refine fx_iconst (-1) dX4_run_40 (by decide) ?_
      refine fx_icmp_ne 51 dX4_run_41 (by decide) (fun c41 => absurd (hi0) c41) (fun c41 => ?_)
      refine fx_aloadn dX4_run_44 rfl ?_
      obtain ⟨fs1, at1⟩ := E.at
      refine fx_callV dX4_run_45 vX4_goOn kkX4_77 rfl rfl at1 (c_se_goOn E hx.k (by omega) (by omega)) rfl (by decide) (by decide) (Nat.zero_le _) (Nat.zero_le _) rfl (Nat.le_of_ble_eq_true rfl) (fun r1 h1 hk1 => ?_)
      obtain ⟨rfl, E1, k1⟩ := hk1
      refine fx_goto 85 dX4_run_48 (by decide) ?_
      refine fx_iinc (nI 1) dX4_run_85 rfl (by decide) (by decide) ?_
      refine fx_goto 2 dX4_run_88 (by decide) ?_
      simp only [nI_add]
      refine fx_to (ih (n - 1) (by omega) (k + 1) (P ++ [x]) y A h1 (by omega) (by rw [List.length_append]; show P.length + 1 + 1 + A.length ≤ 1000; omega) (E1.to (nf_app P [x]).symm (by rw [List.length_append]; show P.length + 1 + (A.length + 1) = P.length + 1 + 1 + A.length; omega)) hg9 ?_ (hk.tr k1 (fun _ z _ => z))) ⟨rfl, rfl, rfl, trivial⟩
      rw [← hRR]
      conv => rhs; rw [show n = n - 1 + 1 by omega]; unfold mz_run
      rw [hms, if_neg (by show ¬ 1000 < (P ++ [x]).length + 1 + A.length; rw [List.length_append]; show ¬ 1000 < P.length + 1 + 1 + A.length; omega)]
    · obtain ⟨j, hj, hij, hlig, -⟩ := mz_ok V F3 F5 hx hi0
      by_cases hkn : 128 ≤ ml_o b (mz_i b x y)
      · have hms : mz_s b z P x y A = (P ++ [x, (2, mz_k b z (mz_i b x y))], y, A) := by
          unfold mz_s
          rw [if_neg hi0, if_pos hkn]
        rw [hms] at hg9
        refine fx_iloadn dX4_run_2 rfl ?_
        refine fx_sipush (nI 10000) dX4_run_3 (by decide) ?_
        refine fx_icmp_ge 91 dX4_run_6 (by decide) (fun c6 => absurd c6 (nI_ge (show k < 10000 by omega) (by decide))) (fun c6 => ?_)
        refine fx_aloadn dX4_run_9 rfl ?_
        refine fx_get dX4_run_10 ffX4_40 (by assumption) rfl ?_
        refine fx_if_le 91 dX4_run_13 (by decide) (fun c13 => absurd c13 (nI_nle (by omega) (by omega))) (fun c13 => ?_)
        refine fx_aloadn dX4_run_16 rfl ?_
        refine fx_get dX4_run_17 ffX4_43 (by assumption) rfl ?_
        refine fx_sipush (nI 1000) dX4_run_20 (by decide) ?_
        refine fx_icmp_gt 91 dX4_run_23 (by decide) (fun c23 => absurd c23 (nI_nlt hsz (by decide))) (fun c23 => ?_)
        refine fx_aloadn dX4_run_26 rfl ?_
        refine fx_aloadn dX4_run_27 rfl ?_
        refine fx_get dX4_run_28 ffX4_31 (by assumption) rfl ?_
        rw [hc2]
        refine fx_aloadn dX4_run_31 rfl ?_
        refine fx_callVp dX4_run_32 vX4_nextCode kkX4_70 rfl rfl (by assumption) (p_se_nextCode E (by omega)) rfl (by decide) (by decide) rfl (Nat.le_of_ble_eq_true rfl) ?_
        refine fx_callVp dX4_run_35 vX3_stepFor kkX4_73 rfl rfl (by assumption) (p_fo_stepFor H V c hc y.2) rfl (by decide) (by decide) rfl (Nat.le_of_ble_eq_true rfl) ?_
        rw [← hi9]
        refine fx_istoren dX4_run_38 (by decide) ?_
        refine fx_iloadn dX4_run_39 rfl ?_
        refine fx_iconst (-1) dX4_run_40 (by decide) ?_
        refine fx_icmp_ne 51 dX4_run_41 (by decide) (fun c41 => ?_) (fun c41 => absurd c41 (hi0))
        refine fx_aloadn dX4_run_51 rfl ?_
        refine fx_iloadn dX4_run_52 rfl ?_
        refine fx_callVp dX4_run_53 vX3_isKern kkX4_80 rfl rfl (by assumption) (p_fo_isKern H V _) rfl (by decide) (by decide) rfl (Nat.le_of_ble_eq_true rfl) ?_
        refine fx_if_eq 71 dX4_run_56 (by decide) (fun c56 => absurd c56 (bI_n0.mpr hkn)) (fun c56 => ?_)
        refine fx_aloadn dX4_run_59 rfl ?_
        refine fx_aloadn dX4_run_60 rfl ?_
        refine fx_iloadn dX4_run_61 rfl ?_
        refine fx_callVp dX4_run_62 vX3_scaledKern kkX4_83 rfl rfl (by assumption) (p_fo_scaledKern H V _ hkn) rfl (by decide) (by decide) rfl (Nat.le_of_ble_eq_true rfl) ?_
        obtain ⟨fs1, at1⟩ := E.at
        refine fx_callV dX4_run_65 vX4_kern kkX4_86 rfl rfl at1 (c_se_kern E (mz_k b z (mz_i b x y)) hx.k (by omega) (by omega) hsz) rfl (by decide) (by decide) (Nat.zero_le _) (Nat.zero_le _) rfl (Nat.le_of_ble_eq_true rfl) (fun r1 h1 hk1 => ?_)
        obtain ⟨rfl, E1, k1⟩ := hk1
        rcases E1 with ⟨hp1, E1⟩ | ⟨hp1, E1⟩
        · skip
          refine fx_goto 85 dX4_run_68 (by decide) ?_
          refine fx_iinc (nI 1) dX4_run_85 rfl (by decide) (by decide) ?_
          refine fx_goto 2 dX4_run_88 (by decide) ?_
          simp only [nI_add]
          have hle : (P ++ [x, (2, mz_k b z (mz_i b x y))]).length + 1 + A.length = P.length + 1 + (A.length + 1) + 1 := by rw [List.length_append]; show P.length + 2 + 1 + A.length = _; omega
          refine fx_to (ih (n - 1) (by omega) (k + 1) (P ++ [x, (2, mz_k b z (mz_i b x y))]) y A h1 (by omega) (by rw [hle]; omega) (E1.to (by rw [List.append_assoc, show [((2, mz_k b z (mz_i b x y)) : sg)] = nf [(2, mz_k b z (mz_i b x y))] from (nf_1 (fun q => absurd (show 2 = 3 from q) (by decide))).symm, ← nf_app, ← nf_app]; rfl) (by rw [hle]; show P.length + 1 + (A.length + 1) + 1 = _; omega)) hg9 ?_ (hk.tr k1 (fun _ z _ => z))) ⟨rfl, rfl, rfl, trivial⟩
          rw [← hRR]
          conv => rhs; rw [show n = n - 1 + 1 by omega]; unfold mz_run
          rw [hms, if_neg (by show ¬ 1000 < (P ++ [x, (2, mz_k b z (mz_i b x y))]).length + 1 + A.length; rw [hle]; omega)]
        · skip
          refine fx_goto 85 dX4_run_68 (by decide) ?_
          refine fx_iinc (nI 1) dX4_run_85 rfl (by decide) (by decide) ?_
          refine fx_goto 2 dX4_run_88 (by decide) ?_
          simp only [nI_add]
          have hle : (P ++ [x, (2, mz_k b z (mz_i b x y))]).length + 1 + A.length = P.length + 1 + (A.length + 1) + 1 := by rw [List.length_append]; show P.length + 2 + 1 + A.length = _; omega
          refine fx_to (l_se_over RR tot ?_ E1 hp1 (by omega) (by omega) (k + 1) (by omega) (hk.tr k1 (fun _ z _ => z))) ⟨rfl, rfl, rfl, trivial⟩
          rw [← hRR, show n = n - 1 + 1 by omega]
          unfold mz_run
          rw [hms, if_pos (by show 1000 < (P ++ [x, (2, mz_k b z (mz_i b x y))]).length + 1 + A.length; rw [hle]; omega)]
      · have hlg : ml_lig (ml_o b (mz_i b x y)) := by
          rw [hij] at hkn ⊢
          exact (hlig hkn).1
        refine fx_iloadn dX4_run_2 rfl ?_
        refine fx_sipush (nI 10000) dX4_run_3 (by decide) ?_
        refine fx_icmp_ge 91 dX4_run_6 (by decide) (fun c6 => absurd c6 (nI_ge (show k < 10000 by omega) (by decide))) (fun c6 => ?_)
        refine fx_aloadn dX4_run_9 rfl ?_
        refine fx_get dX4_run_10 ffX4_40 (by assumption) rfl ?_
        refine fx_if_le 91 dX4_run_13 (by decide) (fun c13 => absurd c13 (nI_nle (by omega) (by omega))) (fun c13 => ?_)
        refine fx_aloadn dX4_run_16 rfl ?_
        refine fx_get dX4_run_17 ffX4_43 (by assumption) rfl ?_
        refine fx_sipush (nI 1000) dX4_run_20 (by decide) ?_
        refine fx_icmp_gt 91 dX4_run_23 (by decide) (fun c23 => absurd c23 (nI_nlt hsz (by decide))) (fun c23 => ?_)
        refine fx_aloadn dX4_run_26 rfl ?_
        refine fx_aloadn dX4_run_27 rfl ?_
        refine fx_get dX4_run_28 ffX4_31 (by assumption) rfl ?_
        rw [hc2]
        refine fx_aloadn dX4_run_31 rfl ?_
        refine fx_callVp dX4_run_32 vX4_nextCode kkX4_70 rfl rfl (by assumption) (p_se_nextCode E (by omega)) rfl (by decide) (by decide) rfl (Nat.le_of_ble_eq_true rfl) ?_
        refine fx_callVp dX4_run_35 vX3_stepFor kkX4_73 rfl rfl (by assumption) (p_fo_stepFor H V c hc y.2) rfl (by decide) (by decide) rfl (Nat.le_of_ble_eq_true rfl) ?_
        rw [← hi9]
        refine fx_istoren dX4_run_38 (by decide) ?_
        refine fx_iloadn dX4_run_39 rfl ?_
        refine fx_iconst (-1) dX4_run_40 (by decide) ?_
        refine fx_icmp_ne 51 dX4_run_41 (by decide) (fun c41 => ?_) (fun c41 => absurd c41 (hi0))
        refine fx_aloadn dX4_run_51 rfl ?_
        refine fx_iloadn dX4_run_52 rfl ?_
        refine fx_callVp dX4_run_53 vX3_isKern kkX4_80 rfl rfl (by assumption) (p_fo_isKern H V _) rfl (by decide) (by decide) rfl (Nat.le_of_ble_eq_true rfl) ?_
        refine fx_if_eq 71 dX4_run_56 (by decide) (fun c56 => ?_) (fun c56 => absurd (bI_0.mpr hkn) c56)
        refine fx_aloadn dX4_run_71 rfl ?_
        refine fx_aloadn dX4_run_72 rfl ?_
        refine fx_iloadn dX4_run_73 rfl ?_
        refine fx_callVp dX4_run_74 vX3_deedOf kkX4_90 rfl rfl (by assumption) (p_fo_deedOf H V _) rfl (by decide) (by decide) rfl (Nat.le_of_ble_eq_true rfl) ?_
        refine fx_aloadn dX4_run_77 rfl ?_
        refine fx_iloadn dX4_run_78 rfl ?_
        refine fx_callVp dX4_run_79 vX3_remainderOf kkX4_93 rfl rfl (by assumption) (p_fo_remainderOf H V _) rfl (by decide) (by decide) rfl (Nat.le_of_ble_eq_true rfl) ?_
        obtain ⟨fs1, at1⟩ := E.at
        refine fx_callV dX4_run_82 vX4_ligature kkX4_96 rfl rfl at1 (c_se_lig E hx.k hsz (ml_o b (mz_i b x y)) hlg (nI (ml_r b (mz_i b x y)))) rfl (by decide) (by decide) (Nat.zero_le _) (Nat.zero_le _) rfl (Nat.le_of_ble_eq_true rfl) (fun r1 h1 hk1 => ?_)
        obtain ⟨rfl, E1, k1⟩ := hk1
        rw [← mz_s_l (z := z) hi0 hkn] at E1
        rcases E1 with ⟨hp1, E1⟩ | ⟨hp1, I2, x2, A2, pr2, o1, o2, o3, E1⟩
        · skip
          refine fx_iinc (nI 1) dX4_run_85 rfl (by decide) (by decide) ?_
          refine fx_goto 2 dX4_run_88 (by decide) ?_
          simp only [nI_add]
          refine fx_to (ih (n - 1) (by omega) (k + 1) _ _ _ h1 (by omega) hp1 E1 hg9 ?_ (hk.tr k1 (fun _ z _ => z))) ⟨rfl, rfl, rfl, trivial⟩
          rw [← hRR]
          conv => rhs; rw [show n = n - 1 + 1 by omega]; unfold mz_run
          rw [if_neg (Nat.not_lt.mpr hp1)]
        · skip
          refine fx_iinc (nI 1) dX4_run_85 rfl (by decide) (by decide) ?_
          refine fx_goto 2 dX4_run_88 (by decide) ?_
          simp only [nI_add]
          refine fx_to (l_se_over RR tot ?_ E1 o1 o2 o3 (k + 1) (by omega) (hk.tr k1 (fun _ z _ => z))) ⟨rfl, rfl, rfl, trivial⟩
          rw [← hRR, show n = n - 1 + 1 by omega]
          unfold mz_run
          rw [if_pos hp1]
theorem c_se_run {g : fx_G} {h : fx_H} {a pik pic pak pac : Nat} {S : Nat → Prop} {f nw : Nat} {b : Nat → Nat} {z : Int32} (V : ml_v b nw) (HF : ∀ h', kp (sS a pik pic pak pac) h h' → fo S h' f b nw z) (F3 : ml_F3a b) (F5 : ml_f5 b) {P A : List sg} {x : sg} {tot : Int64} (E : sw h a pik pic pak pac (nf P) tot x A (P.length + 1 + A.length)) (hsz : P.length + 1 + A.length ≤ 1000) (hg : gst b P x A) : fx_Met g mX4_run 5 112 [.ref a, .ref f] h 0 0 (fun r h' => ((∃ L, mz_run b z 10000 P x A = some L ∧ r = some (.int (nI 1)) ∧ ∃ x A pr, sw h' a pik pic pak pac (nf L) (mz_w b z tot (nf L)) x A pr) ∨ (mz_run b z 10000 P x A = none ∧ r = some (.int (nI 0)) ∧ ∃ I tot x A pr, sw h' a pik pic pak pac I tot x A pr)) ∧ kp (sS a pik pic pak pac) h h') := by
  refine fx_Met.of rfl (Nat.le_of_ble_eq_true rfl) ?_
  refine fx_iconst (nI 0) dX4_run_0 (by decide) ?_
  refine fx_istoren dX4_run_1 (by decide) ?_
  exact fx_to (l_se_run V HF F3 F5 _ tot 10000 0 P x A h (by omega) hsz E hg rfl kp.rf) ⟨rfl, rfl, rfl, trivial⟩
